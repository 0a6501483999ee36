/-! the reference: cut, reader, move, off -/
/-- a message of one of the two ways -/
def ct_p (y : zMS) (u v m : Nat) : Bool := decide ((y_fr y m = u ∧ y_tt y m = v) ∨ (y_fr y m = v ∧ y_tt y m = u))
/-- the messages from n - 1 down that go either way are dropped -/
def ct_n (u v : Nat) : Nat → zMS → zMS
  | 0, y => y
  | n + 1, y => ct_n u v n (if ct_p y u v n = true then dr y n else y)
def ct_y (y : zMS) (u v : Nat) : zMS := ct_n u v (y_ms y) (lk_y y u v false)
theorem Jv_dr {y : zMS} {m : Nat} (h : Jv y) : Jv (dr y m) := by
  refine ⟨h.dk, h.lim, ⟨?_, h.cp.2⟩, h.rdr, h.ro, h.ts, fun k hk => ?_, h.gb, h.hm⟩
  · show y_ms y - 1 ≤ y_cp y
    have := h.cp.1
    omega
  · have hk2 : k < y_ms y - 1 := hk
    show dr_f (y_fr y) m (y_ms y - 1) k < 12 ∧ dr_f (y_tt y) m (y_ms y - 1) k < 12 ∧ (dr_f (y_wh y) m (y_ms y - 1) k = -2 ∨ ∃ j, j < y_nn y ∧ dr_f (y_wh y) m (y_ms y - 1) k = nI j)
    simp only [dr_f]
    by_cases c : m ≤ k ∧ k < y_ms y - 1
    · rw [if_pos c, if_pos c, if_pos c]; exact h.ms (k + 1) (by omega)
    · rw [if_neg c, if_neg c, if_neg c]; exact h.ms k (by omega)
theorem dr_ms (y : zMS) (m : Nat) : y_ms (dr y m) = y_ms y - 1 := rfl
theorem dr_cp (y : zMS) (m : Nat) : y_cp (dr y m) = y_cp y := rfl
theorem ct_cp (u v : Nat) : ∀ n y, y_cp (ct_n u v n y) = y_cp y
  | 0, y => rfl
  | n + 1, y => by
    show y_cp (ct_n u v n (if ct_p y u v n = true then dr y n else y)) = _
    rw [ct_cp u v n]
    split <;> rfl
theorem Jv_ct {u v : Nat} : ∀ n y, Jv y → Jv (ct_n u v n y)
  | 0, _, h => h
  | n + 1, y, h => by
    show Jv (ct_n u v n (if ct_p y u v n = true then dr y n else y))
    refine Jv_ct n _ ?_
    split
    · exact Jv_dr h
    · exact h
def T_Mo_cut (As : List zAV) (M : zMp) (Rt : Option zAV → zMp → Prop) (c1 c2 : Nat) : Prop := ∃ y u v, As = [.inr (30, 0, 0), .inl (.int u), .inl (.int v)] ∧ M = mp y ∧ Jv y ∧ (¬ (isn (y_dk y) u = true ∧ isn (y_dk y) v = true) → Rt (some (.inl (.int (-2)))) M) ∧ (∀ a b, a < y_dk y → b < y_dk y → u = nI a → v = nI b → y_lk y (12 * a + b) = false → Rt (some (.inl (.int (-5)))) M) ∧ (∀ a b, a < y_dk y → b < y_dk y → u = nI a → v = nI b → y_lk y (12 * a + b) = true → tl_ok (ct_y y a b) ∧ tl_c y (ct_y y a b) c1 c2 ∧ Rt (some (.inl (.int 0))) (mp (tl (ct_y y a b))))
theorem dX7_cut_0 : decode cX7_cut 0 = .ok (.aload_n 0, 1) := by decide +kernel
theorem dX7_cut_1 : decode cX7_cut 1 = .ok (.iload_n 1, 1) := by decide +kernel
theorem dX7_cut_2 : decode cX7_cut 2 = .ok (.invokevirtual 143, 3) := by decide +kernel
theorem dX7_cut_5 : decode cX7_cut 5 = .ok (.ifCond .eq 11, 3) := by decide +kernel
theorem dX7_cut_8 : decode cX7_cut 8 = .ok (.aload_n 0, 1) := by decide +kernel
theorem dX7_cut_9 : decode cX7_cut 9 = .ok (.iload_n 2, 1) := by decide +kernel
theorem dX7_cut_10 : decode cX7_cut 10 = .ok (.invokevirtual 143, 3) := by decide +kernel
theorem dX7_cut_13 : decode cX7_cut 13 = .ok (.ifCond .ne 6, 3) := by decide +kernel
theorem dX7_cut_16 : decode cX7_cut 16 = .ok (.bipush (-2), 2) := by decide +kernel
theorem dX7_cut_18 : decode cX7_cut 18 = .ok (.ireturn, 1) := by decide +kernel
theorem dX7_cut_19 : decode cX7_cut 19 = .ok (.aload_n 0, 1) := by decide +kernel
theorem dX7_cut_20 : decode cX7_cut 20 = .ok (.iload_n 1, 1) := by decide +kernel
theorem dX7_cut_21 : decode cX7_cut 21 = .ok (.iload_n 2, 1) := by decide +kernel
theorem dX7_cut_22 : decode cX7_cut 22 = .ok (.invokevirtual 119, 3) := by decide +kernel
theorem dX7_cut_25 : decode cX7_cut 25 = .ok (.ifCond .ne 6, 3) := by decide +kernel
theorem dX7_cut_28 : decode cX7_cut 28 = .ok (.bipush (-5), 2) := by decide +kernel
theorem dX7_cut_30 : decode cX7_cut 30 = .ok (.ireturn, 1) := by decide +kernel
theorem dX7_cut_31 : decode cX7_cut 31 = .ok (.aload_n 0, 1) := by decide +kernel
theorem dX7_cut_32 : decode cX7_cut 32 = .ok (.iload_n 1, 1) := by decide +kernel
theorem dX7_cut_33 : decode cX7_cut 33 = .ok (.iload_n 2, 1) := by decide +kernel
theorem dX7_cut_34 : decode cX7_cut 34 = .ok (.iconst 0, 1) := by decide +kernel
theorem dX7_cut_35 : decode cX7_cut 35 = .ok (.invokevirtual 150, 3) := by decide +kernel
theorem dX7_cut_38 : decode cX7_cut 38 = .ok (.aload_n 0, 1) := by decide +kernel
theorem dX7_cut_39 : decode cX7_cut 39 = .ok (.getfield 129, 3) := by decide +kernel
theorem dX7_cut_42 : decode cX7_cut 42 = .ok (.iconst 1, 1) := by decide +kernel
theorem dX7_cut_43 : decode cX7_cut 43 = .ok (.isub, 1) := by decide +kernel
theorem dX7_cut_44 : decode cX7_cut 44 = .ok (.istore_n 3, 1) := by decide +kernel
theorem dX7_cut_45 : decode cX7_cut 45 = .ok (.iload_n 3, 1) := by decide +kernel
theorem dX7_cut_46 : decode cX7_cut 46 = .ok (.ifCond .lt 54, 3) := by decide +kernel
theorem dX7_cut_49 : decode cX7_cut 49 = .ok (.aload_n 0, 1) := by decide +kernel
theorem dX7_cut_50 : decode cX7_cut 50 = .ok (.getfield 57, 3) := by decide +kernel
theorem dX7_cut_53 : decode cX7_cut 53 = .ok (.iload_n 3, 1) := by decide +kernel
theorem dX7_cut_54 : decode cX7_cut 54 = .ok (.iaload, 1) := by decide +kernel
theorem dX7_cut_55 : decode cX7_cut 55 = .ok (.iload_n 1, 1) := by decide +kernel
theorem dX7_cut_56 : decode cX7_cut 56 = .ok (.if_icmp .ne 13, 3) := by decide +kernel
theorem dX7_cut_59 : decode cX7_cut 59 = .ok (.aload_n 0, 1) := by decide +kernel
theorem dX7_cut_60 : decode cX7_cut 60 = .ok (.getfield 60, 3) := by decide +kernel
theorem dX7_cut_63 : decode cX7_cut 63 = .ok (.iload_n 3, 1) := by decide +kernel
theorem dX7_cut_64 : decode cX7_cut 64 = .ok (.iaload, 1) := by decide +kernel
theorem dX7_cut_65 : decode cX7_cut 65 = .ok (.iload_n 2, 1) := by decide +kernel
theorem dX7_cut_66 : decode cX7_cut 66 = .ok (.if_icmp .eq 23, 3) := by decide +kernel
theorem dX7_cut_69 : decode cX7_cut 69 = .ok (.aload_n 0, 1) := by decide +kernel
theorem dX7_cut_70 : decode cX7_cut 70 = .ok (.getfield 57, 3) := by decide +kernel
theorem dX7_cut_73 : decode cX7_cut 73 = .ok (.iload_n 3, 1) := by decide +kernel
theorem dX7_cut_74 : decode cX7_cut 74 = .ok (.iaload, 1) := by decide +kernel
theorem dX7_cut_75 : decode cX7_cut 75 = .ok (.iload_n 2, 1) := by decide +kernel
theorem dX7_cut_76 : decode cX7_cut 76 = .ok (.if_icmp .ne 18, 3) := by decide +kernel
theorem dX7_cut_79 : decode cX7_cut 79 = .ok (.aload_n 0, 1) := by decide +kernel
theorem dX7_cut_80 : decode cX7_cut 80 = .ok (.getfield 60, 3) := by decide +kernel
theorem dX7_cut_83 : decode cX7_cut 83 = .ok (.iload_n 3, 1) := by decide +kernel
theorem dX7_cut_84 : decode cX7_cut 84 = .ok (.iaload, 1) := by decide +kernel
theorem dX7_cut_85 : decode cX7_cut 85 = .ok (.iload_n 1, 1) := by decide +kernel
theorem dX7_cut_86 : decode cX7_cut 86 = .ok (.if_icmp .ne 8, 3) := by decide +kernel
theorem dX7_cut_89 : decode cX7_cut 89 = .ok (.aload_n 0, 1) := by decide +kernel
theorem dX7_cut_90 : decode cX7_cut 90 = .ok (.iload_n 3, 1) := by decide +kernel
theorem dX7_cut_91 : decode cX7_cut 91 = .ok (.invokevirtual 157, 3) := by decide +kernel
theorem dX7_cut_94 : decode cX7_cut 94 = .ok (.iinc 3 (-1), 3) := by decide +kernel
theorem dX7_cut_97 : decode cX7_cut 97 = .ok (.goto (-52), 3) := by decide +kernel
theorem dX7_cut_100 : decode cX7_cut 100 = .ok (.aload_n 0, 1) := by decide +kernel
theorem dX7_cut_101 : decode cX7_cut 101 = .ok (.invokevirtual 154, 3) := by decide +kernel
theorem dX7_cut_104 : decode cX7_cut 104 = .ok (.iconst 0, 1) := by decide +kernel
theorem dX7_cut_105 : decode cX7_cut 105 = .ok (.ireturn, 1) := by decide +kernel
def B_Mo_cut_100 (mc ms : Nat) (Rt : Option zAV → zMp → Prop) (g : Nat → zKT) : zKT :=
  (i_al 0 (i_callV2 mc ms 8 1 T_Mo_tells (i_ic 0 (i_iret mc ms Rt))))
set_option maxRecDepth 20000 in
theorem s_Mo_cut_100 {X : zMa} {mc ms : Nat} {Rt : Option zAV → zMp → Prop} (hC : zCx X RX7 cX7_cut 3 73 mc ms (some .int) false Rt) (hN : zNL X = 4) : zLe (B_Mo_cut_100 mc ms Rt (zG X)) (zG X 100) :=
  (sd_al_n hC rfl dX7_cut_100 ((sd_cV2 hC c_Mo_tells yv_Mo_tells (ci := 8) rfl rfl ml_Mo_154 (by decide) (by decide) dX7_cut_101 ((sd_iconst hC (by decide) dX7_cut_104 ((sd_iret hC dX7_cut_105)))))))
def B_Mo_cut_94 (mc ms : Nat) (Rt : Option zAV → zMp → Prop) (g : Nat → zKT) : zKT :=
  (i_inc 3 (-1) (g 45))
set_option maxRecDepth 20000 in
theorem s_Mo_cut_94 {X : zMa} {mc ms : Nat} {Rt : Option zAV → zMp → Prop} (hC : zCx X RX7 cX7_cut 3 73 mc ms (some .int) false Rt) (hN : zNL X = 4) : zLe (B_Mo_cut_94 mc ms Rt (zG X)) (zG X 94) :=
  (sd_inc hC (by decide) (by rw [hN]; decide) dX7_cut_94 ((sd_goto hC (tgt := 45) (by decide) dX7_cut_97 (zLe_rfl))))
def B_Mo_cut_89 (mc ms : Nat) (Rt : Option zAV → zMp → Prop) (g : Nat → zKT) : zKT :=
  (i_al 0 (i_il 3 (i_callV mc ms 8 2 T_Mo_drop co_Mo_drop (B_Mo_cut_94 mc ms Rt g))))
set_option maxRecDepth 20000 in
theorem s_Mo_cut_89 {X : zMa} {mc ms : Nat} {Rt : Option zAV → zMp → Prop} (hC : zCx X RX7 cX7_cut 3 73 mc ms (some .int) false Rt) (hN : zNL X = 4) : zLe (B_Mo_cut_89 mc ms Rt (zG X)) (zG X 89) :=
  (sd_al_n hC rfl dX7_cut_89 ((sd_il_n hC rfl dX7_cut_90 ((sd_cV hC c_Mo_drop yv_Mo_drop (ci := 8) rfl rfl ml_Mo_157 (by decide) (by decide) dX7_cut_91 (s_Mo_cut_94 hC hN))))))
def B_Mo_cut_69 (mc ms : Nat) (Rt : Option zAV → zMp → Prop) (g : Nat → zKT) : zKT :=
  (i_al 0 (i_gf 8 20 (i_il 3 (i_ial (i_il 2 (i_icne (B_Mo_cut_94 mc ms Rt g) (i_al 0 (i_gf 8 21 (i_il 3 (i_ial (i_il 1 (i_icne (B_Mo_cut_94 mc ms Rt g) (B_Mo_cut_89 mc ms Rt g)))))))))))))
set_option maxRecDepth 20000 in
theorem s_Mo_cut_69 {X : zMa} {mc ms : Nat} {Rt : Option zAV → zMp → Prop} (hC : zCx X RX7 cX7_cut 3 73 mc ms (some .int) false Rt) (hN : zNL X = 4) : zLe (B_Mo_cut_69 mc ms Rt (zG X)) (zG X 69) :=
  (sd_al_n hC rfl dX7_cut_69 ((sd_gf hC (ci := 8) (fk := 20) rfl wi_Mo (by decide) fl_Mo_57 (Or.inl rfl) dX7_cut_70 ((sd_il_n hC rfl dX7_cut_73 ((sd_ial hC dX7_cut_74 ((sd_il_n hC rfl dX7_cut_75 ((sd_icne hC (tgt := 94) (by decide) dX7_cut_76 (s_Mo_cut_94 hC hN) ((sd_al_n hC rfl dX7_cut_79 ((sd_gf hC (ci := 8) (fk := 21) rfl wi_Mo (by decide) fl_Mo_60 (Or.inl rfl) dX7_cut_80 ((sd_il_n hC rfl dX7_cut_83 ((sd_ial hC dX7_cut_84 ((sd_il_n hC rfl dX7_cut_85 ((sd_icne hC (tgt := 94) (by decide) dX7_cut_86 (s_Mo_cut_94 hC hN) (s_Mo_cut_89 hC hN))))))))))))))))))))))))
def B_Mo_cut_45 (mc ms : Nat) (Rt : Option zAV → zMp → Prop) (g : Nat → zKT) : zKT :=
  (i_il 3 (i_iflt (B_Mo_cut_100 mc ms Rt g) (i_al 0 (i_gf 8 20 (i_il 3 (i_ial (i_il 1 (i_icne (B_Mo_cut_69 mc ms Rt g) (i_al 0 (i_gf 8 21 (i_il 3 (i_ial (i_il 2 (i_iceq (B_Mo_cut_89 mc ms Rt g) (B_Mo_cut_69 mc ms Rt g)))))))))))))))
set_option maxRecDepth 20000 in
theorem s_Mo_cut_45 {X : zMa} {mc ms : Nat} {Rt : Option zAV → zMp → Prop} (hC : zCx X RX7 cX7_cut 3 73 mc ms (some .int) false Rt) (hN : zNL X = 4) : zLe (B_Mo_cut_45 mc ms Rt (zG X)) (zG X 45) :=
  (sd_il_n hC rfl dX7_cut_45 ((sd_iflt hC (tgt := 100) (by decide) dX7_cut_46 (s_Mo_cut_100 hC hN) ((sd_al_n hC rfl dX7_cut_49 ((sd_gf hC (ci := 8) (fk := 20) rfl wi_Mo (by decide) fl_Mo_57 (Or.inl rfl) dX7_cut_50 ((sd_il_n hC rfl dX7_cut_53 ((sd_ial hC dX7_cut_54 ((sd_il_n hC rfl dX7_cut_55 ((sd_icne hC (tgt := 69) (by decide) dX7_cut_56 (s_Mo_cut_69 hC hN) ((sd_al_n hC rfl dX7_cut_59 ((sd_gf hC (ci := 8) (fk := 21) rfl wi_Mo (by decide) fl_Mo_60 (Or.inl rfl) dX7_cut_60 ((sd_il_n hC rfl dX7_cut_63 ((sd_ial hC dX7_cut_64 ((sd_il_n hC rfl dX7_cut_65 ((sd_iceq hC (tgt := 89) (by decide) dX7_cut_66 (s_Mo_cut_89 hC hN) (s_Mo_cut_69 hC hN))))))))))))))))))))))))))))
def B_Mo_cut_31 (mc ms : Nat) (Rt : Option zAV → zMp → Prop) (g : Nat → zKT) : zKT :=
  (i_al 0 (i_il 1 (i_il 2 (i_ic 0 (i_callV mc ms 8 4 T_Mo_links co_Mo_links (i_al 0 (i_gf 8 19 (i_ic 1 (i_isub (i_is 3 (g 45)))))))))))
set_option maxRecDepth 20000 in
theorem s_Mo_cut_31 {X : zMa} {mc ms : Nat} {Rt : Option zAV → zMp → Prop} (hC : zCx X RX7 cX7_cut 3 73 mc ms (some .int) false Rt) (hN : zNL X = 4) : zLe (B_Mo_cut_31 mc ms Rt (zG X)) (zG X 31) :=
  (sd_al_n hC rfl dX7_cut_31 ((sd_il_n hC rfl dX7_cut_32 ((sd_il_n hC rfl dX7_cut_33 ((sd_iconst hC (by decide) dX7_cut_34 ((sd_cV hC c_Mo_links yv_Mo_links (ci := 8) rfl rfl ml_Mo_150 (by decide) (by decide) dX7_cut_35 ((sd_al_n hC rfl dX7_cut_38 ((sd_gf hC (ci := 8) (fk := 19) rfl wi_Mo (by decide) fl_Mo_129 (Or.inl rfl) dX7_cut_39 ((sd_iconst hC (by decide) dX7_cut_42 ((sd_isub hC dX7_cut_43 ((sd_is_n hC rfl (by rw [hN]; decide) dX7_cut_44 (zLe_rfl))))))))))))))))))))
def B_Mo_cut_19 (mc ms : Nat) (Rt : Option zAV → zMp → Prop) (g : Nat → zKT) : zKT :=
  (i_al 0 (i_il 1 (i_il 2 (i_callV mc ms 8 3 T_Mo_isLinked co_Mo_isLinked (i_ifne (B_Mo_cut_31 mc ms Rt g) (i_ic (-5) (i_iret mc ms Rt)))))))
set_option maxRecDepth 20000 in
theorem s_Mo_cut_19 {X : zMa} {mc ms : Nat} {Rt : Option zAV → zMp → Prop} (hC : zCx X RX7 cX7_cut 3 73 mc ms (some .int) false Rt) (hN : zNL X = 4) : zLe (B_Mo_cut_19 mc ms Rt (zG X)) (zG X 19) :=
  (sd_al_n hC rfl dX7_cut_19 ((sd_il_n hC rfl dX7_cut_20 ((sd_il_n hC rfl dX7_cut_21 ((sd_cV hC c_Mo_isLinked yv_Mo_isLinked (ci := 8) rfl rfl ml_Mo_119 (by decide) (by decide) dX7_cut_22 ((sd_ifne hC (tgt := 31) (by decide) dX7_cut_25 (s_Mo_cut_31 hC hN) ((sd_bipush hC (by decide) dX7_cut_28 ((sd_iret hC dX7_cut_30)))))))))))))
def B_Mo_cut_16 (mc ms : Nat) (Rt : Option zAV → zMp → Prop) (g : Nat → zKT) : zKT :=
  (i_ic (-2) (i_iret mc ms Rt))
set_option maxRecDepth 20000 in
theorem s_Mo_cut_16 {X : zMa} {mc ms : Nat} {Rt : Option zAV → zMp → Prop} (hC : zCx X RX7 cX7_cut 3 73 mc ms (some .int) false Rt) (hN : zNL X = 4) : zLe (B_Mo_cut_16 mc ms Rt (zG X)) (zG X 16) :=
  (sd_bipush hC (by decide) dX7_cut_16 ((sd_iret hC dX7_cut_18)))
def B_Mo_cut_0 (mc ms : Nat) (Rt : Option zAV → zMp → Prop) (g : Nat → zKT) : zKT :=
  (i_al 0 (i_il 1 (i_callV mc ms 8 2 T_Mo_isDesk co_Mo_isDesk (i_ifeq (B_Mo_cut_16 mc ms Rt g) (i_al 0 (i_il 2 (i_callV mc ms 8 2 T_Mo_isDesk co_Mo_isDesk (i_ifne (B_Mo_cut_19 mc ms Rt g) (B_Mo_cut_16 mc ms Rt g)))))))))
set_option maxRecDepth 20000 in
theorem s_Mo_cut_0 {X : zMa} {mc ms : Nat} {Rt : Option zAV → zMp → Prop} (hC : zCx X RX7 cX7_cut 3 73 mc ms (some .int) false Rt) (hN : zNL X = 4) : zLe (B_Mo_cut_0 mc ms Rt (zG X)) (zG X 0) :=
  (sd_al_n hC rfl dX7_cut_0 ((sd_il_n hC rfl dX7_cut_1 ((sd_cV hC c_Mo_isDesk yv_Mo_isDesk (ci := 8) rfl rfl ml_Mo_143 (by decide) (by decide) dX7_cut_2 ((sd_ifeq hC (tgt := 16) (by decide) dX7_cut_5 (s_Mo_cut_16 hC hN) ((sd_al_n hC rfl dX7_cut_8 ((sd_il_n hC rfl dX7_cut_9 ((sd_cV hC c_Mo_isDesk yv_Mo_isDesk (ci := 8) rfl rfl ml_Mo_143 (by decide) (by decide) dX7_cut_10 ((sd_ifne hC (tgt := 19) (by decide) dX7_cut_13 (s_Mo_cut_19 hC hN) (s_Mo_cut_16 hC hN))))))))))))))))
theorem c_Mo_cut (l : Launch) : zCT2 l yX7_cut cX7_cut 4 (some .int) 3 73 T_Mo_cut := by
  intro As M Rt c1 c2 hT
  obtain ⟨y, u, v, rfl, rfl, hJ, hR0, hR1, hR2⟩ := hT
  have hd := hJ.dk
  have hcp := hJ.cp
  refine zMet_of false (by decide +kernel) (fun h => by first | rfl | cases h) (Nat.le_of_ble_eq_true rfl) (fun X hN hC => ?_)
  show zG X 0 [some (.inr (30, 0, 0)), some (.inl (.int u)), some (.inl (.int v)), none] [] (mp y) 0 0
  refine s_Mo_cut_0 hC hN _ _ _ _ _ ?_
  simp only [B_Mo_cut_0, B_Mo_cut_16, B_Mo_cut_19, B_Mo_cut_31, B_Mo_cut_45, B_Mo_cut_69, B_Mo_cut_89, B_Mo_cut_94, B_Mo_cut_100, co_Mo_drop, co_Mo_isDesk, co_Mo_isLinked, co_Mo_links, i_ic, i_lc, i_nul, i_il, i_ll, i_al, i_is, i_as, i_ls, i_inc, i_iadd, i_isub, i_imul, i_iand, i_ior, i_ixor, i_idiv, i_irem, i_ishl, i_ishr, i_ladd, i_lsub, i_land, i_lor, i_i2l, i_lushr, i_lshl, i_lshr, i_lcmp, i_dup, i_pop, i_dx1, i_dup2, i_ifeq, i_ifne, i_iflt, i_ifge, i_ifgt, i_ifle, i_iceq, i_icne, i_iclt, i_icge, i_icgt, i_icle, i_ifn, i_gf, i_pf, i_ial, i_bal, i_lal, i_aal, i_ias, i_las, i_bas, i_aas, i_alen, i_newa, i_new, i_anew, i_cast, i_oi, i_call, i_callV, i_callV2, i_callI, i_iret, i_zret, i_lret, i_vret, i_aret, i_mmx, i_mmn, i_gsE, i_aceq, i_no, i_acq, i_sw, zsw, zlg, zls, znl, zfg, zcs, zsp, zrc, zisn, zft, zc1, zto, Value.category, List.set_cons_zero, List.set_cons_succ, List.length_cons, List.length_nil, Option.toList, List.append, List.nil_append, List.cons_append, true_and, and_true, Nat.add_zero, Nat.zero_le, Nat.zero_add, Nat.le_refl, Nat.reduceAdd, Nat.reduceLeDiff, co0, z0, zn_0, zn_1, zn_2, zn_3, zn_4, zn_5, zn_8, zn_12, zn_24, zn_121, zn_144, zn_256, zn_300, zn_600, zn_720, zn_1204, zn_1280, zn_2400, zn_4816, zn_14400, zn_90000, q_main, m_main]
  refine ⟨y, u, rfl, rfl, ?_⟩
  simp only [B_Mo_cut_0, B_Mo_cut_16, B_Mo_cut_19, B_Mo_cut_31, B_Mo_cut_45, B_Mo_cut_69, B_Mo_cut_89, B_Mo_cut_94, B_Mo_cut_100, co_Mo_drop, co_Mo_isDesk, co_Mo_isLinked, co_Mo_links, i_ic, i_lc, i_nul, i_il, i_ll, i_al, i_is, i_as, i_ls, i_inc, i_iadd, i_isub, i_imul, i_iand, i_ior, i_ixor, i_idiv, i_irem, i_ishl, i_ishr, i_ladd, i_lsub, i_land, i_lor, i_i2l, i_lushr, i_lshl, i_lshr, i_lcmp, i_dup, i_pop, i_dx1, i_dup2, i_ifeq, i_ifne, i_iflt, i_ifge, i_ifgt, i_ifle, i_iceq, i_icne, i_iclt, i_icge, i_icgt, i_icle, i_ifn, i_gf, i_pf, i_ial, i_bal, i_lal, i_aal, i_ias, i_las, i_bas, i_aas, i_alen, i_newa, i_new, i_anew, i_cast, i_oi, i_call, i_callV, i_callV2, i_callI, i_iret, i_zret, i_lret, i_vret, i_aret, i_mmx, i_mmn, i_gsE, i_aceq, i_no, i_acq, i_sw, zsw, zlg, zls, znl, zfg, zcs, zsp, zrc, zisn, zft, zc1, zto, Value.category, List.set_cons_zero, List.set_cons_succ, List.length_cons, List.length_nil, Option.toList, List.append, List.nil_append, List.cons_append, true_and, and_true, Nat.add_zero, Nat.zero_le, Nat.zero_add, Nat.le_refl, Nat.reduceAdd, Nat.reduceLeDiff, co0, z0, zn_0, zn_1, zn_2, zn_3, zn_4, zn_5, zn_8, zn_12, zn_24, zn_121, zn_144, zn_256, zn_300, zn_600, zn_720, zn_1204, zn_1280, zn_2400, zn_4816, zn_14400, zn_90000, q_main, m_main]
  refine ⟨fun h => hR0 (fun q => by rw [q.1] at h; exact absurd h (by decide)), fun h => ⟨y, v, rfl, rfl, ?_⟩⟩
  simp only [B_Mo_cut_0, B_Mo_cut_16, B_Mo_cut_19, B_Mo_cut_31, B_Mo_cut_45, B_Mo_cut_69, B_Mo_cut_89, B_Mo_cut_94, B_Mo_cut_100, co_Mo_drop, co_Mo_isDesk, co_Mo_isLinked, co_Mo_links, i_ic, i_lc, i_nul, i_il, i_ll, i_al, i_is, i_as, i_ls, i_inc, i_iadd, i_isub, i_imul, i_iand, i_ior, i_ixor, i_idiv, i_irem, i_ishl, i_ishr, i_ladd, i_lsub, i_land, i_lor, i_i2l, i_lushr, i_lshl, i_lshr, i_lcmp, i_dup, i_pop, i_dx1, i_dup2, i_ifeq, i_ifne, i_iflt, i_ifge, i_ifgt, i_ifle, i_iceq, i_icne, i_iclt, i_icge, i_icgt, i_icle, i_ifn, i_gf, i_pf, i_ial, i_bal, i_lal, i_aal, i_ias, i_las, i_bas, i_aas, i_alen, i_newa, i_new, i_anew, i_cast, i_oi, i_call, i_callV, i_callV2, i_callI, i_iret, i_zret, i_lret, i_vret, i_aret, i_mmx, i_mmn, i_gsE, i_aceq, i_no, i_acq, i_sw, zsw, zlg, zls, znl, zfg, zcs, zsp, zrc, zisn, zft, zc1, zto, Value.category, List.set_cons_zero, List.set_cons_succ, List.length_cons, List.length_nil, Option.toList, List.append, List.nil_append, List.cons_append, true_and, and_true, Nat.add_zero, Nat.zero_le, Nat.zero_add, Nat.le_refl, Nat.reduceAdd, Nat.reduceLeDiff, co0, z0, zn_0, zn_1, zn_2, zn_3, zn_4, zn_5, zn_8, zn_12, zn_24, zn_121, zn_144, zn_256, zn_300, zn_600, zn_720, zn_1204, zn_1280, zn_2400, zn_4816, zn_14400, zn_90000, q_main, m_main]
  refine ⟨fun h2 => ?_, fun h2 => hR0 (fun q => by rw [q.2] at h2; exact absurd h2 (by decide))⟩
  obtain ⟨a, ha, rfl⟩ := isn_t (by omega) (zb_n0 h)
  obtain ⟨b, hb, rfl⟩ := isn_t (by omega) (zb_n0 h2)
  refine ⟨y, a, b, rfl, rfl, by omega, by omega, ?_⟩
  simp only [B_Mo_cut_0, B_Mo_cut_16, B_Mo_cut_19, B_Mo_cut_31, B_Mo_cut_45, B_Mo_cut_69, B_Mo_cut_89, B_Mo_cut_94, B_Mo_cut_100, co_Mo_drop, co_Mo_isDesk, co_Mo_isLinked, co_Mo_links, i_ic, i_lc, i_nul, i_il, i_ll, i_al, i_is, i_as, i_ls, i_inc, i_iadd, i_isub, i_imul, i_iand, i_ior, i_ixor, i_idiv, i_irem, i_ishl, i_ishr, i_ladd, i_lsub, i_land, i_lor, i_i2l, i_lushr, i_lshl, i_lshr, i_lcmp, i_dup, i_pop, i_dx1, i_dup2, i_ifeq, i_ifne, i_iflt, i_ifge, i_ifgt, i_ifle, i_iceq, i_icne, i_iclt, i_icge, i_icgt, i_icle, i_ifn, i_gf, i_pf, i_ial, i_bal, i_lal, i_aal, i_ias, i_las, i_bas, i_aas, i_alen, i_newa, i_new, i_anew, i_cast, i_oi, i_call, i_callV, i_callV2, i_callI, i_iret, i_zret, i_lret, i_vret, i_aret, i_mmx, i_mmn, i_gsE, i_aceq, i_no, i_acq, i_sw, zsw, zlg, zls, znl, zfg, zcs, zsp, zrc, zisn, zft, zc1, zto, Value.category, List.set_cons_zero, List.set_cons_succ, List.length_cons, List.length_nil, Option.toList, List.append, List.nil_append, List.cons_append, true_and, and_true, Nat.add_zero, Nat.zero_le, Nat.zero_add, Nat.le_refl, Nat.reduceAdd, Nat.reduceLeDiff, co0, z0, zn_0, zn_1, zn_2, zn_3, zn_4, zn_5, zn_8, zn_12, zn_24, zn_121, zn_144, zn_256, zn_300, zn_600, zn_720, zn_1204, zn_1280, zn_2400, zn_4816, zn_14400, zn_90000, q_main, m_main]
  refine ⟨fun h3 => ?_, fun h3 => hR1 a b ha hb rfl rfl (zb_0.mp h3)⟩
  obtain ⟨hok, hc, hR⟩ := hR2 a b ha hb rfl rfl (zb_n0 h3)
  refine ⟨y, a, b, false, rfl, rfl, by omega, by omega, ?_⟩
  have loop : ∀ n z, Jv z → n ≤ y_ms z → ct_n a b n z = ct_y y a b → zG X 45 [some (.inr (30, 0, 0)), some (.inl (.int (nI a))), some (.inl (.int (nI b))), some (.inl (.int (nI n - 1)))] [] (mp z) 0 0 := by
    intro n
    induction n with
    | zero =>
      intro z hJz hn he
      refine s_Mo_cut_45 hC hN _ _ _ _ _ ?_
      have he' : z = ct_y y a b := he
      simp only [B_Mo_cut_0, B_Mo_cut_16, B_Mo_cut_19, B_Mo_cut_31, B_Mo_cut_45, B_Mo_cut_69, B_Mo_cut_89, B_Mo_cut_94, B_Mo_cut_100, co_Mo_drop, co_Mo_isDesk, co_Mo_isLinked, co_Mo_links, i_ic, i_lc, i_nul, i_il, i_ll, i_al, i_is, i_as, i_ls, i_inc, i_iadd, i_isub, i_imul, i_iand, i_ior, i_ixor, i_idiv, i_irem, i_ishl, i_ishr, i_ladd, i_lsub, i_land, i_lor, i_i2l, i_lushr, i_lshl, i_lshr, i_lcmp, i_dup, i_pop, i_dx1, i_dup2, i_ifeq, i_ifne, i_iflt, i_ifge, i_ifgt, i_ifle, i_iceq, i_icne, i_iclt, i_icge, i_icgt, i_icle, i_ifn, i_gf, i_pf, i_ial, i_bal, i_lal, i_aal, i_ias, i_las, i_bas, i_aas, i_alen, i_newa, i_new, i_anew, i_cast, i_oi, i_call, i_callV, i_callV2, i_callI, i_iret, i_zret, i_lret, i_vret, i_aret, i_mmx, i_mmn, i_gsE, i_aceq, i_no, i_acq, i_sw, zsw, zlg, zls, znl, zfg, zcs, zsp, zrc, zisn, zft, zc1, zto, Value.category, List.set_cons_zero, List.set_cons_succ, List.length_cons, List.length_nil, Option.toList, List.append, List.nil_append, List.cons_append, true_and, and_true, Nat.add_zero, Nat.zero_le, Nat.zero_add, Nat.le_refl, Nat.reduceAdd, Nat.reduceLeDiff, co0, z0, zn_0, zn_1, zn_2, zn_3, zn_4, zn_5, zn_8, zn_12, zn_24, zn_121, zn_144, zn_256, zn_300, zn_600, zn_720, zn_1204, zn_1280, zn_2400, zn_4816, zn_14400, zn_90000, q_main, m_main]
      refine ⟨fun _ => ?_, fun h => absurd (by decide) h⟩
      rw [← he'] at hok hc hR
      exact ⟨c1, c2, Nat.le_refl _, Nat.le_refl _, z, rfl, rfl, hJz, hok, by
        have h1 := hc.1
        have h2 : y_cp z = y_cp y := by rw [he']; exact ct_cp _ _ _ _
        rw [h2]; exact h1, by
        have h1 := hc.2
        have h2 : y_cp z = y_cp y := by rw [he']; exact ct_cp _ _ _ _
        rw [h2]; exact h1, Nat.le_refl _, Nat.le_refl _, hR⟩
    | succ n ih =>
      intro z hJz hn he
      have hm := hJz.ms n (by omega)
      have hcz := hJz.cp
      rw [nI_pred]
      have em : nI n + -1 = nI n - 1 := by rw [Int32.sub_eq_add_neg]
      have he' : ct_n a b n (if ct_p z a b n = true then dr z n else z) = ct_y y a b := he
      have no : ¬ ((y_fr z n = a ∧ y_tt z n = b) ∨ (y_fr z n = b ∧ y_tt z n = a)) → zG X 45 [some (.inr (30, 0, 0)), some (.inl (.int (nI a))), some (.inl (.int (nI b))), some (.inl (.int (nI n - 1)))] [] (mp z) 0 0 := fun q => by
        rw [if_neg (show ¬ ct_p z a b n = true from fun w => q (of_decide_eq_true w))] at he'
        exact ih z hJz (by omega) he'
      have yes : ((y_fr z n = a ∧ y_tt z n = b) ∨ (y_fr z n = b ∧ y_tt z n = a)) → zG X 45 [some (.inr (30, 0, 0)), some (.inl (.int (nI a))), some (.inl (.int (nI b))), some (.inl (.int (nI n - 1)))] [] (mp (dr z n)) 0 0 := fun q => by
        rw [if_pos (show ct_p z a b n = true from decide_eq_true q)] at he'
        exact ih (dr z n) (Jv_dr hJz) (by rw [dr_ms]; omega) he'
      have N : ∀ {p q : Nat}, p < 12 → q < 12 → (nI p = nI q ↔ p = q) := fun h1 h2 => nI_eq (by omega) (by omega)
      have ha2 : a < 12 := by omega
      have hb2 : b < 12 := by omega
      refine s_Mo_cut_45 hC hN _ _ _ _ _ ?_
      simp only [B_Mo_cut_0, B_Mo_cut_16, B_Mo_cut_19, B_Mo_cut_31, B_Mo_cut_45, B_Mo_cut_69, B_Mo_cut_89, B_Mo_cut_94, B_Mo_cut_100, co_Mo_drop, co_Mo_isDesk, co_Mo_isLinked, co_Mo_links, i_ic, i_lc, i_nul, i_il, i_ll, i_al, i_is, i_as, i_ls, i_inc, i_iadd, i_isub, i_imul, i_iand, i_ior, i_ixor, i_idiv, i_irem, i_ishl, i_ishr, i_ladd, i_lsub, i_land, i_lor, i_i2l, i_lushr, i_lshl, i_lshr, i_lcmp, i_dup, i_pop, i_dx1, i_dup2, i_ifeq, i_ifne, i_iflt, i_ifge, i_ifgt, i_ifle, i_iceq, i_icne, i_iclt, i_icge, i_icgt, i_icle, i_ifn, i_gf, i_pf, i_ial, i_bal, i_lal, i_aal, i_ias, i_las, i_bas, i_aas, i_alen, i_newa, i_new, i_anew, i_cast, i_oi, i_call, i_callV, i_callV2, i_callI, i_iret, i_zret, i_lret, i_vret, i_aret, i_mmx, i_mmn, i_gsE, i_aceq, i_no, i_acq, i_sw, zsw, zlg, zls, znl, zfg, zcs, zsp, zrc, zisn, zft, zc1, zto, Value.category, List.set_cons_zero, List.set_cons_succ, List.length_cons, List.length_nil, Option.toList, List.append, List.nil_append, List.cons_append, true_and, and_true, Nat.add_zero, Nat.zero_le, Nat.zero_add, Nat.le_refl, Nat.reduceAdd, Nat.reduceLeDiff, co0, z0, zn_0, zn_1, zn_2, zn_3, zn_4, zn_5, zn_8, zn_12, zn_24, zn_121, zn_144, zn_256, zn_300, zn_600, zn_720, zn_1204, zn_1280, zn_2400, zn_4816, zn_14400, zn_90000, q_main, m_main, q_fr, q_tt]
      rw [nI_clamp (by omega), em, N hm.1 ha2, N hm.2.1 hb2, N hm.1 hb2, N hm.2.1 ha2]
      have vi : vp_in (nI n) (y_cp z) := vp_in_nI (by omega) (by omega)
      have d0 : zG X 45 [some (.inr (30, 0, 0)), some (.inl (.int (nI a))), some (.inl (.int (nI b))), some (.inl (.int (nI n - 1)))] [] (mp (dr z n)) 0 0 → T_Mo_drop [.inr (30, 0, 0), .inl (.int (nI n))] (mp z) (fun v M' => match (match v with | none => [] | some a => [a]) ++ ([] : List zAV) with | st => zG X 45 [some (.inr (30, 0, 0)), some (.inl (.int (nI a))), some (.inl (.int (nI b))), some (.inl (.int (nI n - 1)))] st M' 0 0) := fun q => ⟨z, n, rfl, rfl, by omega, hJz, q⟩
      refine ⟨fun h => absurd h (nI_pos (by omega)), fun _ => ⟨vi, fun g1 => ⟨vi, fun g2 => no (fun q => q.elim (fun w => g1 w.1) (fun w => g2 w.1)), fun g2 => ⟨vi, fun g3 => no (fun q => q.elim (fun w => g1 w.1) (fun w => g3 w.2)), fun g3 => d0 (yes (Or.inr ⟨g2, g3⟩))⟩⟩, fun g1 => ⟨vi, fun g2 => d0 (yes (Or.inl ⟨g1, g2⟩)), fun g2 => ⟨vi, fun g3 => no (fun q => q.elim (fun w => g2 w.2) (fun w => g3 w.1)), fun g3 => ⟨vi, fun g4 => no (fun q => q.elim (fun w => g2 w.2) (fun w => g4 w.2)), fun g4 => d0 (yes (Or.inr ⟨g3, g4⟩))⟩⟩⟩⟩⟩
  simp only [B_Mo_cut_0, B_Mo_cut_16, B_Mo_cut_19, B_Mo_cut_31, B_Mo_cut_45, B_Mo_cut_69, B_Mo_cut_89, B_Mo_cut_94, B_Mo_cut_100, co_Mo_drop, co_Mo_isDesk, co_Mo_isLinked, co_Mo_links, i_ic, i_lc, i_nul, i_il, i_ll, i_al, i_is, i_as, i_ls, i_inc, i_iadd, i_isub, i_imul, i_iand, i_ior, i_ixor, i_idiv, i_irem, i_ishl, i_ishr, i_ladd, i_lsub, i_land, i_lor, i_i2l, i_lushr, i_lshl, i_lshr, i_lcmp, i_dup, i_pop, i_dx1, i_dup2, i_ifeq, i_ifne, i_iflt, i_ifge, i_ifgt, i_ifle, i_iceq, i_icne, i_iclt, i_icge, i_icgt, i_icle, i_ifn, i_gf, i_pf, i_ial, i_bal, i_lal, i_aal, i_ias, i_las, i_bas, i_aas, i_alen, i_newa, i_new, i_anew, i_cast, i_oi, i_call, i_callV, i_callV2, i_callI, i_iret, i_zret, i_lret, i_vret, i_aret, i_mmx, i_mmn, i_gsE, i_aceq, i_no, i_acq, i_sw, zsw, zlg, zls, znl, zfg, zcs, zsp, zrc, zisn, zft, zc1, zto, Value.category, List.set_cons_zero, List.set_cons_succ, List.length_cons, List.length_nil, Option.toList, List.append, List.nil_append, List.cons_append, true_and, and_true, Nat.add_zero, Nat.zero_le, Nat.zero_add, Nat.le_refl, Nat.reduceAdd, Nat.reduceLeDiff, co0, z0, zn_0, zn_1, zn_2, zn_3, zn_4, zn_5, zn_8, zn_12, zn_24, zn_121, zn_144, zn_256, zn_300, zn_600, zn_720, zn_1204, zn_1280, zn_2400, zn_4816, zn_14400, zn_90000, q_main, m_main]
  exact loop (y_ms y) (lk_y y a b false) (Jv_lk hJ) (Nat.le_refl _) rfl
def T_Mo_reader (As : List zAV) (M : zMp) (Rt : Option zAV → zMp → Prop) : Prop := ∃ y d, As = [.inr (30, 0, 0), .inl (.int d)] ∧ M = mp y ∧ Jv y ∧ (isn (y_dk y) d = false → Rt (some (.inl (.int (-2)))) M) ∧ (isn (y_dk y) d = true → y_nr y = 24 → Rt (some (.inl (.int (-8)))) M) ∧ (isn (y_dk y) d = true → y_nr y < 24 → Rt (some (.inl (.int (nI (y_nr y))))) (mp (v_nr (v_do y (upd (y_do y) (y_nr y) d)) (y_nr y + 1))))
abbrev co_Mo_reader := co0
theorem dX7_reader_0 : decode cX7_reader 0 = .ok (.aload_n 0, 1) := by decide +kernel
theorem dX7_reader_1 : decode cX7_reader 1 = .ok (.iload_n 1, 1) := by decide +kernel
theorem dX7_reader_2 : decode cX7_reader 2 = .ok (.invokevirtual 143, 3) := by decide +kernel
theorem dX7_reader_5 : decode cX7_reader 5 = .ok (.ifCond .ne 6, 3) := by decide +kernel
theorem dX7_reader_8 : decode cX7_reader 8 = .ok (.bipush (-2), 2) := by decide +kernel
theorem dX7_reader_10 : decode cX7_reader 10 = .ok (.ireturn, 1) := by decide +kernel
theorem dX7_reader_11 : decode cX7_reader 11 = .ok (.aload_n 0, 1) := by decide +kernel
theorem dX7_reader_12 : decode cX7_reader 12 = .ok (.getfield 161, 3) := by decide +kernel
theorem dX7_reader_15 : decode cX7_reader 15 = .ok (.bipush 24, 2) := by decide +kernel
theorem dX7_reader_17 : decode cX7_reader 17 = .ok (.if_icmp .ne 6, 3) := by decide +kernel
theorem dX7_reader_20 : decode cX7_reader 20 = .ok (.bipush (-8), 2) := by decide +kernel
theorem dX7_reader_22 : decode cX7_reader 22 = .ok (.ireturn, 1) := by decide +kernel
theorem dX7_reader_23 : decode cX7_reader 23 = .ok (.aload_n 0, 1) := by decide +kernel
theorem dX7_reader_24 : decode cX7_reader 24 = .ok (.getfield 13, 3) := by decide +kernel
theorem dX7_reader_27 : decode cX7_reader 27 = .ok (.aload_n 0, 1) := by decide +kernel
theorem dX7_reader_28 : decode cX7_reader 28 = .ok (.getfield 161, 3) := by decide +kernel
theorem dX7_reader_31 : decode cX7_reader 31 = .ok (.iload_n 1, 1) := by decide +kernel
theorem dX7_reader_32 : decode cX7_reader 32 = .ok (.iastore, 1) := by decide +kernel
theorem dX7_reader_33 : decode cX7_reader 33 = .ok (.aload_n 0, 1) := by decide +kernel
theorem dX7_reader_34 : decode cX7_reader 34 = .ok (.dup, 1) := by decide +kernel
theorem dX7_reader_35 : decode cX7_reader 35 = .ok (.getfield 161, 3) := by decide +kernel
theorem dX7_reader_38 : decode cX7_reader 38 = .ok (.iconst 1, 1) := by decide +kernel
theorem dX7_reader_39 : decode cX7_reader 39 = .ok (.iadd, 1) := by decide +kernel
theorem dX7_reader_40 : decode cX7_reader 40 = .ok (.putfield 161, 3) := by decide +kernel
theorem dX7_reader_43 : decode cX7_reader 43 = .ok (.aload_n 0, 1) := by decide +kernel
theorem dX7_reader_44 : decode cX7_reader 44 = .ok (.getfield 161, 3) := by decide +kernel
theorem dX7_reader_47 : decode cX7_reader 47 = .ok (.iconst 1, 1) := by decide +kernel
theorem dX7_reader_48 : decode cX7_reader 48 = .ok (.isub, 1) := by decide +kernel
theorem dX7_reader_49 : decode cX7_reader 49 = .ok (.ireturn, 1) := by decide +kernel
def B_Mo_reader_23 (mc ms : Nat) (Rt : Option zAV → zMp → Prop) (g : Nat → zKT) : zKT :=
  (i_al 0 (i_gf 8 5 (i_al 0 (i_gf 8 1 (i_il 1 (i_ias (i_al 0 (i_dup (i_gf 8 1 (i_ic 1 (i_iadd (i_pf 8 1 .int (i_al 0 (i_gf 8 1 (i_ic 1 (i_isub (i_iret mc ms Rt)))))))))))))))))
set_option maxRecDepth 20000 in
theorem s_Mo_reader_23 {X : zMa} {mc ms : Nat} {Rt : Option zAV → zMp → Prop} (hC : zCx X RX7 cX7_reader 1 21 mc ms (some .int) false Rt) : zLe (B_Mo_reader_23 mc ms Rt (zG X)) (zG X 23) :=
  (sd_al_n hC rfl dX7_reader_23 ((sd_gf hC (ci := 8) (fk := 5) rfl wi_Mo (by decide) fl_Mo_13 (Or.inl rfl) dX7_reader_24 ((sd_al_n hC rfl dX7_reader_27 ((sd_gf hC (ci := 8) (fk := 1) rfl wi_Mo (by decide) fl_Mo_161 (Or.inl rfl) dX7_reader_28 ((sd_il_n hC rfl dX7_reader_31 ((sd_ias hC dX7_reader_32 ((sd_al_n hC rfl dX7_reader_33 ((sd_dup hC dX7_reader_34 ((sd_gf hC (ci := 8) (fk := 1) rfl wi_Mo (by decide) fl_Mo_161 (Or.inl rfl) dX7_reader_35 ((sd_iconst hC (by decide) dX7_reader_38 ((sd_iadd hC dX7_reader_39 ((sd_pf hC (ci := 8) (fk := 1) rfl wi_Mo tyX7 tyX7_ok nmX7 (by decide) fl_Mo_161 (Or.inl rfl) (Or.inl rfl) dX7_reader_40 ((sd_al_n hC rfl dX7_reader_43 ((sd_gf hC (ci := 8) (fk := 1) rfl wi_Mo (by decide) fl_Mo_161 (Or.inl rfl) dX7_reader_44 ((sd_iconst hC (by decide) dX7_reader_47 ((sd_isub hC dX7_reader_48 ((sd_iret hC dX7_reader_49)))))))))))))))))))))))))))))))))
def B_Mo_reader_11 (mc ms : Nat) (Rt : Option zAV → zMp → Prop) (g : Nat → zKT) : zKT :=
  (i_al 0 (i_gf 8 1 (i_ic 24 (i_icne (B_Mo_reader_23 mc ms Rt g) (i_ic (-8) (i_iret mc ms Rt))))))
set_option maxRecDepth 20000 in
theorem s_Mo_reader_11 {X : zMa} {mc ms : Nat} {Rt : Option zAV → zMp → Prop} (hC : zCx X RX7 cX7_reader 1 21 mc ms (some .int) false Rt) : zLe (B_Mo_reader_11 mc ms Rt (zG X)) (zG X 11) :=
  (sd_al_n hC rfl dX7_reader_11 ((sd_gf hC (ci := 8) (fk := 1) rfl wi_Mo (by decide) fl_Mo_161 (Or.inl rfl) dX7_reader_12 ((sd_bipush hC (by decide) dX7_reader_15 ((sd_icne hC (tgt := 23) (by decide) dX7_reader_17 (s_Mo_reader_23 hC) ((sd_bipush hC (by decide) dX7_reader_20 ((sd_iret hC dX7_reader_22)))))))))))
def B_Mo_reader_0 (mc ms : Nat) (Rt : Option zAV → zMp → Prop) (g : Nat → zKT) : zKT :=
  (i_al 0 (i_il 1 (i_callV mc ms 8 2 T_Mo_isDesk co_Mo_isDesk (i_ifne (B_Mo_reader_11 mc ms Rt g) (i_ic (-2) (i_iret mc ms Rt))))))
set_option maxRecDepth 20000 in
theorem s_Mo_reader_0 {X : zMa} {mc ms : Nat} {Rt : Option zAV → zMp → Prop} (hC : zCx X RX7 cX7_reader 1 21 mc ms (some .int) false Rt) : zLe (B_Mo_reader_0 mc ms Rt (zG X)) (zG X 0) :=
  (sd_al_n hC rfl dX7_reader_0 ((sd_il_n hC rfl dX7_reader_1 ((sd_cV hC c_Mo_isDesk yv_Mo_isDesk (ci := 8) rfl rfl ml_Mo_143 (by decide) (by decide) dX7_reader_2 ((sd_ifne hC (tgt := 11) (by decide) dX7_reader_5 (s_Mo_reader_11 hC) ((sd_bipush hC (by decide) dX7_reader_8 ((sd_iret hC dX7_reader_10)))))))))))
theorem c_Mo_reader (l : Launch) : zCT l yX7_reader cX7_reader 2 (some .int) 1 21 T_Mo_reader co_Mo_reader := by
  intro As M Rt hT
  obtain ⟨y, d, rfl, rfl, hJ, hR0, hR1, hR2⟩ := hT
  have hlim := hJ.lim
  refine zMet_of false (by decide +kernel) (fun h => by first | rfl | cases h) (Nat.le_of_ble_eq_true rfl) (fun X hN hC => ?_)
  show zG X 0 [some (.inr (30, 0, 0)), some (.inl (.int d))] [] (mp y) 0 0
  refine s_Mo_reader_0 hC _ _ _ _ _ ?_
  simp only [B_Mo_reader_0, B_Mo_reader_11, B_Mo_reader_23, co_Mo_isDesk, co_Mo_reader, i_ic, i_lc, i_nul, i_il, i_ll, i_al, i_is, i_as, i_ls, i_inc, i_iadd, i_isub, i_imul, i_iand, i_ior, i_ixor, i_idiv, i_irem, i_ishl, i_ishr, i_ladd, i_lsub, i_land, i_lor, i_i2l, i_lushr, i_lshl, i_lshr, i_lcmp, i_dup, i_pop, i_dx1, i_dup2, i_ifeq, i_ifne, i_iflt, i_ifge, i_ifgt, i_ifle, i_iceq, i_icne, i_iclt, i_icge, i_icgt, i_icle, i_ifn, i_gf, i_pf, i_ial, i_bal, i_lal, i_aal, i_ias, i_las, i_bas, i_aas, i_alen, i_newa, i_new, i_anew, i_cast, i_oi, i_call, i_callV, i_callV2, i_callI, i_iret, i_zret, i_lret, i_vret, i_aret, i_mmx, i_mmn, i_gsE, i_aceq, i_no, i_acq, i_sw, zsw, zlg, zls, znl, zfg, zcs, zsp, zrc, zisn, zft, zc1, zto, Value.category, List.set_cons_zero, List.set_cons_succ, List.length_cons, List.length_nil, Option.toList, List.append, List.nil_append, List.cons_append, true_and, and_true, Nat.add_zero, Nat.zero_le, Nat.zero_add, Nat.le_refl, Nat.reduceAdd, Nat.reduceLeDiff, co0, z0, zn_0, zn_1, zn_2, zn_3, zn_4, zn_5, zn_8, zn_12, zn_24, zn_121, zn_144, zn_256, zn_300, zn_600, zn_720, zn_1204, zn_1280, zn_2400, zn_4816, zn_14400, zn_90000, q_main, m_main]
  refine ⟨y, d, rfl, rfl, ?_⟩
  simp only [B_Mo_reader_0, B_Mo_reader_11, B_Mo_reader_23, co_Mo_isDesk, co_Mo_reader, i_ic, i_lc, i_nul, i_il, i_ll, i_al, i_is, i_as, i_ls, i_inc, i_iadd, i_isub, i_imul, i_iand, i_ior, i_ixor, i_idiv, i_irem, i_ishl, i_ishr, i_ladd, i_lsub, i_land, i_lor, i_i2l, i_lushr, i_lshl, i_lshr, i_lcmp, i_dup, i_pop, i_dx1, i_dup2, i_ifeq, i_ifne, i_iflt, i_ifge, i_ifgt, i_ifle, i_iceq, i_icne, i_iclt, i_icge, i_icgt, i_icle, i_ifn, i_gf, i_pf, i_ial, i_bal, i_lal, i_aal, i_ias, i_las, i_bas, i_aas, i_alen, i_newa, i_new, i_anew, i_cast, i_oi, i_call, i_callV, i_callV2, i_callI, i_iret, i_zret, i_lret, i_vret, i_aret, i_mmx, i_mmn, i_gsE, i_aceq, i_no, i_acq, i_sw, zsw, zlg, zls, znl, zfg, zcs, zsp, zrc, zisn, zft, zc1, zto, Value.category, List.set_cons_zero, List.set_cons_succ, List.length_cons, List.length_nil, Option.toList, List.append, List.nil_append, List.cons_append, true_and, and_true, Nat.add_zero, Nat.zero_le, Nat.zero_add, Nat.le_refl, Nat.reduceAdd, Nat.reduceLeDiff, co0, z0, zn_0, zn_1, zn_2, zn_3, zn_4, zn_5, zn_8, zn_12, zn_24, zn_121, zn_144, zn_256, zn_300, zn_600, zn_720, zn_1204, zn_1280, zn_2400, zn_4816, zn_14400, zn_90000, q_main, m_main, q_do]
  refine ⟨fun h => ?_, fun h => hR0 (zb_0.mp h)⟩
  have hd := zb_n0 h
  refine ⟨fun h2 => ?_, fun h2 => hR1 hd ((zK (K := 24) (by decide) (n := y_nr y) (by omega)).2.2.1.mp h2)⟩
  have hlt : y_nr y < 24 := by have : y_nr y ≠ 24 := fun q => h2 (by rw [q]; rfl); omega
  have hR := hR2 hd hlt
  rw [nI_clamp (by omega), mu_do]
  refine ⟨m_k (by decide), vp_in_nI (by omega) (by decide), ?_⟩
  simp only [i_ic, i_lc, i_nul, i_il, i_ll, i_al, i_is, i_as, i_ls, i_inc, i_iadd, i_isub, i_imul, i_iand, i_ior, i_ixor, i_idiv, i_irem, i_ishl, i_ishr, i_ladd, i_lsub, i_land, i_lor, i_i2l, i_lushr, i_lshl, i_lshr, i_lcmp, i_dup, i_pop, i_dx1, i_dup2, i_ifeq, i_ifne, i_iflt, i_ifge, i_ifgt, i_ifle, i_iceq, i_icne, i_iclt, i_icge, i_icgt, i_icle, i_ifn, i_gf, i_pf, i_ial, i_bal, i_lal, i_aal, i_ias, i_las, i_bas, i_aas, i_alen, i_newa, i_new, i_anew, i_cast, i_oi, i_call, i_callV, i_callV2, i_callI, i_iret, i_zret, i_lret, i_vret, i_aret, i_mmx, i_mmn, i_gsE, i_aceq, i_no, i_acq, i_sw, zsw, zlg, zls, znl, zfg, zcs, zsp, zrc, zisn, zft, zc1, zto, Value.category, List.set_cons_zero, List.set_cons_succ, List.length_cons, List.length_nil, Option.toList, List.append, List.nil_append, List.cons_append, true_and, and_true, Nat.add_zero, Nat.zero_le, Nat.zero_add, Nat.le_refl, Nat.reduceAdd, Nat.reduceLeDiff, co0, z0, zn_0, zn_1, zn_2, zn_3, zn_4, zn_5, zn_8, zn_12, zn_24, zn_121, zn_144, zn_256, zn_300, zn_600, zn_720, zn_1204, zn_1280, zn_2400, zn_4816, zn_14400, zn_90000, q_main, m_main, zup_s]
  have e : y_nr (v_do y (upd (y_do y) (y_nr y) d)) = y_nr y := rfl
  rw [e, nI_1, nI_pred]
  rw [← mu_nr] at hR
  exact ⟨m_k (by decide), by decide, hR⟩
def mv_y (y : zMS) (r : Nat) (d : Int32) : zMS := v_do y (upd (y_do y) r d)
theorem Jv_mv {y : zMS} {r : Nat} {d : Int32} (h : Jv y) (hd : ∃ k, k < y_dk y ∧ d = nI k) : Jv (mv_y y r d) := by
  refine ⟨h.dk, h.lim, h.cp, fun r' hr' => ?_, h.ro, h.ts, h.ms, h.gb, h.hm⟩
  show ∃ d', d' < y_dk y ∧ upd (y_do y) r d r' = nI d'
  by_cases e : r' = r
  · rw [e, upd_s']; exact hd
  · rw [upd_o' _ _ e]; exact h.rdr r' hr'
def T_Mo_move (As : List zAV) (M : zMp) (Rt : Option zAV → zMp → Prop) (c1 c2 : Nat) : Prop := ∃ y k d, As = [.inr (30, 0, 0), .inl (.int k), .inl (.int d)] ∧ M = mp y ∧ Jv y ∧ (¬ (isn (y_nr y) k = true ∧ isn (y_dk y) d = true) → Rt (some (.inl (.int (-2)))) M) ∧ (∀ r, r < y_nr y → k = nI r → isn (y_dk y) d = true → y_do y r = d → Rt (some (.inl (.int (-4)))) M) ∧ (∀ r, r < y_nr y → k = nI r → isn (y_dk y) d = true → y_do y r ≠ d → tl_ok (mv_y y r d) ∧ tl_c y (mv_y y r d) c1 c2 ∧ Rt (some (.inl (.int 0))) (mp (tl (mv_y y r d))))
theorem dX7_move_0 : decode cX7_move 0 = .ok (.aload_n 0, 1) := by decide +kernel
theorem dX7_move_1 : decode cX7_move 1 = .ok (.iload_n 1, 1) := by decide +kernel
theorem dX7_move_2 : decode cX7_move 2 = .ok (.invokevirtual 164, 3) := by decide +kernel
theorem dX7_move_5 : decode cX7_move 5 = .ok (.ifCond .eq 11, 3) := by decide +kernel
theorem dX7_move_8 : decode cX7_move 8 = .ok (.aload_n 0, 1) := by decide +kernel
theorem dX7_move_9 : decode cX7_move 9 = .ok (.iload_n 2, 1) := by decide +kernel
theorem dX7_move_10 : decode cX7_move 10 = .ok (.invokevirtual 143, 3) := by decide +kernel
theorem dX7_move_13 : decode cX7_move 13 = .ok (.ifCond .ne 6, 3) := by decide +kernel
theorem dX7_move_16 : decode cX7_move 16 = .ok (.bipush (-2), 2) := by decide +kernel
theorem dX7_move_18 : decode cX7_move 18 = .ok (.ireturn, 1) := by decide +kernel
theorem dX7_move_19 : decode cX7_move 19 = .ok (.aload_n 0, 1) := by decide +kernel
theorem dX7_move_20 : decode cX7_move 20 = .ok (.getfield 13, 3) := by decide +kernel
theorem dX7_move_23 : decode cX7_move 23 = .ok (.iload_n 1, 1) := by decide +kernel
theorem dX7_move_24 : decode cX7_move 24 = .ok (.iaload, 1) := by decide +kernel
theorem dX7_move_25 : decode cX7_move 25 = .ok (.iload_n 2, 1) := by decide +kernel
theorem dX7_move_26 : decode cX7_move 26 = .ok (.if_icmp .ne 6, 3) := by decide +kernel
theorem dX7_move_29 : decode cX7_move 29 = .ok (.bipush (-4), 2) := by decide +kernel
theorem dX7_move_31 : decode cX7_move 31 = .ok (.ireturn, 1) := by decide +kernel
theorem dX7_move_32 : decode cX7_move 32 = .ok (.aload_n 0, 1) := by decide +kernel
theorem dX7_move_33 : decode cX7_move 33 = .ok (.getfield 13, 3) := by decide +kernel
theorem dX7_move_36 : decode cX7_move 36 = .ok (.iload_n 1, 1) := by decide +kernel
theorem dX7_move_37 : decode cX7_move 37 = .ok (.iload_n 2, 1) := by decide +kernel
theorem dX7_move_38 : decode cX7_move 38 = .ok (.iastore, 1) := by decide +kernel
theorem dX7_move_39 : decode cX7_move 39 = .ok (.aload_n 0, 1) := by decide +kernel
theorem dX7_move_40 : decode cX7_move 40 = .ok (.invokevirtual 154, 3) := by decide +kernel
theorem dX7_move_43 : decode cX7_move 43 = .ok (.iconst 0, 1) := by decide +kernel
theorem dX7_move_44 : decode cX7_move 44 = .ok (.ireturn, 1) := by decide +kernel
def B_Mo_move_32 (mc ms : Nat) (Rt : Option zAV → zMp → Prop) (g : Nat → zKT) : zKT :=
  (i_al 0 (i_gf 8 5 (i_il 1 (i_il 2 (i_ias (i_al 0 (i_callV2 mc ms 8 1 T_Mo_tells (i_ic 0 (i_iret mc ms Rt)))))))))
set_option maxRecDepth 20000 in
theorem s_Mo_move_32 {X : zMa} {mc ms : Nat} {Rt : Option zAV → zMp → Prop} (hC : zCx X RX7 cX7_move 3 73 mc ms (some .int) false Rt) : zLe (B_Mo_move_32 mc ms Rt (zG X)) (zG X 32) :=
  (sd_al_n hC rfl dX7_move_32 ((sd_gf hC (ci := 8) (fk := 5) rfl wi_Mo (by decide) fl_Mo_13 (Or.inl rfl) dX7_move_33 ((sd_il_n hC rfl dX7_move_36 ((sd_il_n hC rfl dX7_move_37 ((sd_ias hC dX7_move_38 ((sd_al_n hC rfl dX7_move_39 ((sd_cV2 hC c_Mo_tells yv_Mo_tells (ci := 8) rfl rfl ml_Mo_154 (by decide) (by decide) dX7_move_40 ((sd_iconst hC (by decide) dX7_move_43 ((sd_iret hC dX7_move_44)))))))))))))))))
def B_Mo_move_19 (mc ms : Nat) (Rt : Option zAV → zMp → Prop) (g : Nat → zKT) : zKT :=
  (i_al 0 (i_gf 8 5 (i_il 1 (i_ial (i_il 2 (i_icne (B_Mo_move_32 mc ms Rt g) (i_ic (-4) (i_iret mc ms Rt))))))))
set_option maxRecDepth 20000 in
theorem s_Mo_move_19 {X : zMa} {mc ms : Nat} {Rt : Option zAV → zMp → Prop} (hC : zCx X RX7 cX7_move 3 73 mc ms (some .int) false Rt) : zLe (B_Mo_move_19 mc ms Rt (zG X)) (zG X 19) :=
  (sd_al_n hC rfl dX7_move_19 ((sd_gf hC (ci := 8) (fk := 5) rfl wi_Mo (by decide) fl_Mo_13 (Or.inl rfl) dX7_move_20 ((sd_il_n hC rfl dX7_move_23 ((sd_ial hC dX7_move_24 ((sd_il_n hC rfl dX7_move_25 ((sd_icne hC (tgt := 32) (by decide) dX7_move_26 (s_Mo_move_32 hC) ((sd_bipush hC (by decide) dX7_move_29 ((sd_iret hC dX7_move_31)))))))))))))))
def B_Mo_move_16 (mc ms : Nat) (Rt : Option zAV → zMp → Prop) (g : Nat → zKT) : zKT :=
  (i_ic (-2) (i_iret mc ms Rt))
set_option maxRecDepth 20000 in
theorem s_Mo_move_16 {X : zMa} {mc ms : Nat} {Rt : Option zAV → zMp → Prop} (hC : zCx X RX7 cX7_move 3 73 mc ms (some .int) false Rt) : zLe (B_Mo_move_16 mc ms Rt (zG X)) (zG X 16) :=
  (sd_bipush hC (by decide) dX7_move_16 ((sd_iret hC dX7_move_18)))
def B_Mo_move_0 (mc ms : Nat) (Rt : Option zAV → zMp → Prop) (g : Nat → zKT) : zKT :=
  (i_al 0 (i_il 1 (i_callV mc ms 8 2 T_Mo_isReader co_Mo_isReader (i_ifeq (B_Mo_move_16 mc ms Rt g) (i_al 0 (i_il 2 (i_callV mc ms 8 2 T_Mo_isDesk co_Mo_isDesk (i_ifne (B_Mo_move_19 mc ms Rt g) (B_Mo_move_16 mc ms Rt g)))))))))
set_option maxRecDepth 20000 in
theorem s_Mo_move_0 {X : zMa} {mc ms : Nat} {Rt : Option zAV → zMp → Prop} (hC : zCx X RX7 cX7_move 3 73 mc ms (some .int) false Rt) : zLe (B_Mo_move_0 mc ms Rt (zG X)) (zG X 0) :=
  (sd_al_n hC rfl dX7_move_0 ((sd_il_n hC rfl dX7_move_1 ((sd_cV hC c_Mo_isReader yv_Mo_isReader (ci := 8) rfl rfl ml_Mo_164 (by decide) (by decide) dX7_move_2 ((sd_ifeq hC (tgt := 16) (by decide) dX7_move_5 (s_Mo_move_16 hC) ((sd_al_n hC rfl dX7_move_8 ((sd_il_n hC rfl dX7_move_9 ((sd_cV hC c_Mo_isDesk yv_Mo_isDesk (ci := 8) rfl rfl ml_Mo_143 (by decide) (by decide) dX7_move_10 ((sd_ifne hC (tgt := 19) (by decide) dX7_move_13 (s_Mo_move_19 hC) (s_Mo_move_16 hC))))))))))))))))
theorem c_Mo_move (l : Launch) : zCT2 l yX7_move cX7_move 3 (some .int) 3 73 T_Mo_move := by
  intro As M Rt c1 c2 hT
  obtain ⟨y, k, d, rfl, rfl, hJ, hR0, hR1, hR2⟩ := hT
  have hlim := hJ.lim
  have hdk := hJ.dk
  refine zMet_of false (by decide +kernel) (fun h => by first | rfl | cases h) (Nat.le_of_ble_eq_true rfl) (fun X hN hC => ?_)
  show zG X 0 [some (.inr (30, 0, 0)), some (.inl (.int k)), some (.inl (.int d))] [] (mp y) 0 0
  refine s_Mo_move_0 hC _ _ _ _ _ ?_
  simp only [B_Mo_move_0, B_Mo_move_16, B_Mo_move_19, B_Mo_move_32, co_Mo_isDesk, co_Mo_isReader, i_ic, i_lc, i_nul, i_il, i_ll, i_al, i_is, i_as, i_ls, i_inc, i_iadd, i_isub, i_imul, i_iand, i_ior, i_ixor, i_idiv, i_irem, i_ishl, i_ishr, i_ladd, i_lsub, i_land, i_lor, i_i2l, i_lushr, i_lshl, i_lshr, i_lcmp, i_dup, i_pop, i_dx1, i_dup2, i_ifeq, i_ifne, i_iflt, i_ifge, i_ifgt, i_ifle, i_iceq, i_icne, i_iclt, i_icge, i_icgt, i_icle, i_ifn, i_gf, i_pf, i_ial, i_bal, i_lal, i_aal, i_ias, i_las, i_bas, i_aas, i_alen, i_newa, i_new, i_anew, i_cast, i_oi, i_call, i_callV, i_callV2, i_callI, i_iret, i_zret, i_lret, i_vret, i_aret, i_mmx, i_mmn, i_gsE, i_aceq, i_no, i_acq, i_sw, zsw, zlg, zls, znl, zfg, zcs, zsp, zrc, zisn, zft, zc1, zto, Value.category, List.set_cons_zero, List.set_cons_succ, List.length_cons, List.length_nil, Option.toList, List.append, List.nil_append, List.cons_append, true_and, and_true, Nat.add_zero, Nat.zero_le, Nat.zero_add, Nat.le_refl, Nat.reduceAdd, Nat.reduceLeDiff, co0, z0, zn_0, zn_1, zn_2, zn_3, zn_4, zn_5, zn_8, zn_12, zn_24, zn_121, zn_144, zn_256, zn_300, zn_600, zn_720, zn_1204, zn_1280, zn_2400, zn_4816, zn_14400, zn_90000, q_main, m_main]
  refine ⟨y, k, rfl, rfl, ?_⟩
  simp only [B_Mo_move_0, B_Mo_move_16, B_Mo_move_19, B_Mo_move_32, co_Mo_isDesk, co_Mo_isReader, i_ic, i_lc, i_nul, i_il, i_ll, i_al, i_is, i_as, i_ls, i_inc, i_iadd, i_isub, i_imul, i_iand, i_ior, i_ixor, i_idiv, i_irem, i_ishl, i_ishr, i_ladd, i_lsub, i_land, i_lor, i_i2l, i_lushr, i_lshl, i_lshr, i_lcmp, i_dup, i_pop, i_dx1, i_dup2, i_ifeq, i_ifne, i_iflt, i_ifge, i_ifgt, i_ifle, i_iceq, i_icne, i_iclt, i_icge, i_icgt, i_icle, i_ifn, i_gf, i_pf, i_ial, i_bal, i_lal, i_aal, i_ias, i_las, i_bas, i_aas, i_alen, i_newa, i_new, i_anew, i_cast, i_oi, i_call, i_callV, i_callV2, i_callI, i_iret, i_zret, i_lret, i_vret, i_aret, i_mmx, i_mmn, i_gsE, i_aceq, i_no, i_acq, i_sw, zsw, zlg, zls, znl, zfg, zcs, zsp, zrc, zisn, zft, zc1, zto, Value.category, List.set_cons_zero, List.set_cons_succ, List.length_cons, List.length_nil, Option.toList, List.append, List.nil_append, List.cons_append, true_and, and_true, Nat.add_zero, Nat.zero_le, Nat.zero_add, Nat.le_refl, Nat.reduceAdd, Nat.reduceLeDiff, co0, z0, zn_0, zn_1, zn_2, zn_3, zn_4, zn_5, zn_8, zn_12, zn_24, zn_121, zn_144, zn_256, zn_300, zn_600, zn_720, zn_1204, zn_1280, zn_2400, zn_4816, zn_14400, zn_90000, q_main, m_main]
  refine ⟨fun h => hR0 (fun q => by rw [q.1] at h; exact absurd h (by decide)), fun h => ⟨y, d, rfl, rfl, ?_⟩⟩
  simp only [B_Mo_move_0, B_Mo_move_16, B_Mo_move_19, B_Mo_move_32, co_Mo_isDesk, co_Mo_isReader, i_ic, i_lc, i_nul, i_il, i_ll, i_al, i_is, i_as, i_ls, i_inc, i_iadd, i_isub, i_imul, i_iand, i_ior, i_ixor, i_idiv, i_irem, i_ishl, i_ishr, i_ladd, i_lsub, i_land, i_lor, i_i2l, i_lushr, i_lshl, i_lshr, i_lcmp, i_dup, i_pop, i_dx1, i_dup2, i_ifeq, i_ifne, i_iflt, i_ifge, i_ifgt, i_ifle, i_iceq, i_icne, i_iclt, i_icge, i_icgt, i_icle, i_ifn, i_gf, i_pf, i_ial, i_bal, i_lal, i_aal, i_ias, i_las, i_bas, i_aas, i_alen, i_newa, i_new, i_anew, i_cast, i_oi, i_call, i_callV, i_callV2, i_callI, i_iret, i_zret, i_lret, i_vret, i_aret, i_mmx, i_mmn, i_gsE, i_aceq, i_no, i_acq, i_sw, zsw, zlg, zls, znl, zfg, zcs, zsp, zrc, zisn, zft, zc1, zto, Value.category, List.set_cons_zero, List.set_cons_succ, List.length_cons, List.length_nil, Option.toList, List.append, List.nil_append, List.cons_append, true_and, and_true, Nat.add_zero, Nat.zero_le, Nat.zero_add, Nat.le_refl, Nat.reduceAdd, Nat.reduceLeDiff, co0, z0, zn_0, zn_1, zn_2, zn_3, zn_4, zn_5, zn_8, zn_12, zn_24, zn_121, zn_144, zn_256, zn_300, zn_600, zn_720, zn_1204, zn_1280, zn_2400, zn_4816, zn_14400, zn_90000, q_main, m_main, q_do]
  refine ⟨fun h2 => ?_, fun h2 => hR0 (fun q => by rw [q.2] at h2; exact absurd h2 (by decide))⟩
  obtain ⟨r, hr, rfl⟩ := isn_t (by omega) (zb_n0 h)
  have hd := zb_n0 h2
  rw [nI_clamp (by omega)]
  refine ⟨vp_in_nI (by omega) (by decide), fun h3 => ⟨m_k (by decide), vp_in_nI (by omega) (by decide), ?_⟩, fun h3 => hR1 r hr rfl hd h3⟩
  obtain ⟨hok, hc, hR⟩ := hR2 r hr rfl hd h3
  rw [mu_do]
  simp only [B_Mo_move_0, B_Mo_move_16, B_Mo_move_19, B_Mo_move_32, co_Mo_isDesk, co_Mo_isReader, i_ic, i_lc, i_nul, i_il, i_ll, i_al, i_is, i_as, i_ls, i_inc, i_iadd, i_isub, i_imul, i_iand, i_ior, i_ixor, i_idiv, i_irem, i_ishl, i_ishr, i_ladd, i_lsub, i_land, i_lor, i_i2l, i_lushr, i_lshl, i_lshr, i_lcmp, i_dup, i_pop, i_dx1, i_dup2, i_ifeq, i_ifne, i_iflt, i_ifge, i_ifgt, i_ifle, i_iceq, i_icne, i_iclt, i_icge, i_icgt, i_icle, i_ifn, i_gf, i_pf, i_ial, i_bal, i_lal, i_aal, i_ias, i_las, i_bas, i_aas, i_alen, i_newa, i_new, i_anew, i_cast, i_oi, i_call, i_callV, i_callV2, i_callI, i_iret, i_zret, i_lret, i_vret, i_aret, i_mmx, i_mmn, i_gsE, i_aceq, i_no, i_acq, i_sw, zsw, zlg, zls, znl, zfg, zcs, zsp, zrc, zisn, zft, zc1, zto, Value.category, List.set_cons_zero, List.set_cons_succ, List.length_cons, List.length_nil, Option.toList, List.append, List.nil_append, List.cons_append, true_and, and_true, Nat.add_zero, Nat.zero_le, Nat.zero_add, Nat.le_refl, Nat.reduceAdd, Nat.reduceLeDiff, co0, z0, zn_0, zn_1, zn_2, zn_3, zn_4, zn_5, zn_8, zn_12, zn_24, zn_121, zn_144, zn_256, zn_300, zn_600, zn_720, zn_1204, zn_1280, zn_2400, zn_4816, zn_14400, zn_90000, q_main, m_main]
  exact ⟨c1, c2, Nat.le_refl _, Nat.le_refl _, mv_y y r d, rfl, rfl, Jv_mv hJ (isn_t (by omega) hd), hok, hc.1, hc.2, Nat.le_refl _, Nat.le_refl _, hR⟩
def of_y (y : zMS) (w : Nat) : zMS := v_al y (va_up (y_al y) w false)
theorem Jv_of {y : zMS} {w : Nat} (h : Jv y) : Jv (of_y y w) := h
def T_Mo_off (As : List zAV) (M : zMp) (Rt : Option zAV → zMp → Prop) (c1 c2 : Nat) : Prop := ∃ y k, As = [.inr (30, 0, 0), .inl (.int k)] ∧ M = mp y ∧ Jv y ∧ (isn (y_nw y) k = false → Rt (some (.inl (.int (-2)))) M) ∧ (∀ w, w < y_nw y → k = nI w → y_al y w = false → Rt (some (.inl (.int (-4)))) M) ∧ (∀ w, w < y_nw y → k = nI w → y_al y w = true → tl_ok (of_y y w) ∧ tl_c y (of_y y w) c1 c2 ∧ Rt (some (.inl (.int 0))) (mp (tl (of_y y w))))
theorem dX7_off_0 : decode cX7_off 0 = .ok (.aload_n 0, 1) := by decide +kernel
theorem dX7_off_1 : decode cX7_off 1 = .ok (.iload_n 1, 1) := by decide +kernel
theorem dX7_off_2 : decode cX7_off 2 = .ok (.invokevirtual 173, 3) := by decide +kernel
theorem dX7_off_5 : decode cX7_off 5 = .ok (.ifCond .ne 6, 3) := by decide +kernel
theorem dX7_off_8 : decode cX7_off 8 = .ok (.bipush (-2), 2) := by decide +kernel
theorem dX7_off_10 : decode cX7_off 10 = .ok (.ireturn, 1) := by decide +kernel
theorem dX7_off_11 : decode cX7_off 11 = .ok (.aload_n 0, 1) := by decide +kernel
theorem dX7_off_12 : decode cX7_off 12 = .ok (.getfield 20, 3) := by decide +kernel
theorem dX7_off_15 : decode cX7_off 15 = .ok (.iload_n 1, 1) := by decide +kernel
theorem dX7_off_16 : decode cX7_off 16 = .ok (.baload, 1) := by decide +kernel
theorem dX7_off_17 : decode cX7_off 17 = .ok (.ifCond .ne 6, 3) := by decide +kernel
theorem dX7_off_20 : decode cX7_off 20 = .ok (.bipush (-4), 2) := by decide +kernel
theorem dX7_off_22 : decode cX7_off 22 = .ok (.ireturn, 1) := by decide +kernel
theorem dX7_off_23 : decode cX7_off 23 = .ok (.aload_n 0, 1) := by decide +kernel
theorem dX7_off_24 : decode cX7_off 24 = .ok (.getfield 20, 3) := by decide +kernel
theorem dX7_off_27 : decode cX7_off 27 = .ok (.iload_n 1, 1) := by decide +kernel
theorem dX7_off_28 : decode cX7_off 28 = .ok (.iconst 0, 1) := by decide +kernel
theorem dX7_off_29 : decode cX7_off 29 = .ok (.bastore, 1) := by decide +kernel
theorem dX7_off_30 : decode cX7_off 30 = .ok (.aload_n 0, 1) := by decide +kernel
theorem dX7_off_31 : decode cX7_off 31 = .ok (.invokevirtual 154, 3) := by decide +kernel
theorem dX7_off_34 : decode cX7_off 34 = .ok (.iconst 0, 1) := by decide +kernel
theorem dX7_off_35 : decode cX7_off 35 = .ok (.ireturn, 1) := by decide +kernel
def B_Mo_off_23 (mc ms : Nat) (Rt : Option zAV → zMp → Prop) (g : Nat → zKT) : zKT :=
  (i_al 0 (i_gf 8 7 (i_il 1 (i_ic 0 (i_bas (i_al 0 (i_callV2 mc ms 8 1 T_Mo_tells (i_ic 0 (i_iret mc ms Rt)))))))))
set_option maxRecDepth 20000 in
theorem s_Mo_off_23 {X : zMa} {mc ms : Nat} {Rt : Option zAV → zMp → Prop} (hC : zCx X RX7 cX7_off 3 73 mc ms (some .int) false Rt) : zLe (B_Mo_off_23 mc ms Rt (zG X)) (zG X 23) :=
  (sd_al_n hC rfl dX7_off_23 ((sd_gf hC (ci := 8) (fk := 7) rfl wi_Mo (by decide) fl_Mo_20 (Or.inl rfl) dX7_off_24 ((sd_il_n hC rfl dX7_off_27 ((sd_iconst hC (by decide) dX7_off_28 ((sd_bas hC dX7_off_29 ((sd_al_n hC rfl dX7_off_30 ((sd_cV2 hC c_Mo_tells yv_Mo_tells (ci := 8) rfl rfl ml_Mo_154 (by decide) (by decide) dX7_off_31 ((sd_iconst hC (by decide) dX7_off_34 ((sd_iret hC dX7_off_35)))))))))))))))))
def B_Mo_off_11 (mc ms : Nat) (Rt : Option zAV → zMp → Prop) (g : Nat → zKT) : zKT :=
  (i_al 0 (i_gf 8 7 (i_il 1 (i_bal (i_ifne (B_Mo_off_23 mc ms Rt g) (i_ic (-4) (i_iret mc ms Rt)))))))
set_option maxRecDepth 20000 in
theorem s_Mo_off_11 {X : zMa} {mc ms : Nat} {Rt : Option zAV → zMp → Prop} (hC : zCx X RX7 cX7_off 3 73 mc ms (some .int) false Rt) : zLe (B_Mo_off_11 mc ms Rt (zG X)) (zG X 11) :=
  (sd_al_n hC rfl dX7_off_11 ((sd_gf hC (ci := 8) (fk := 7) rfl wi_Mo (by decide) fl_Mo_20 (Or.inl rfl) dX7_off_12 ((sd_il_n hC rfl dX7_off_15 ((sd_bal hC dX7_off_16 ((sd_ifne hC (tgt := 23) (by decide) dX7_off_17 (s_Mo_off_23 hC) ((sd_bipush hC (by decide) dX7_off_20 ((sd_iret hC dX7_off_22)))))))))))))
def B_Mo_off_0 (mc ms : Nat) (Rt : Option zAV → zMp → Prop) (g : Nat → zKT) : zKT :=
  (i_al 0 (i_il 1 (i_callV mc ms 8 2 T_Mo_isWish co_Mo_isWish (i_ifne (B_Mo_off_11 mc ms Rt g) (i_ic (-2) (i_iret mc ms Rt))))))
set_option maxRecDepth 20000 in
theorem s_Mo_off_0 {X : zMa} {mc ms : Nat} {Rt : Option zAV → zMp → Prop} (hC : zCx X RX7 cX7_off 3 73 mc ms (some .int) false Rt) : zLe (B_Mo_off_0 mc ms Rt (zG X)) (zG X 0) :=
  (sd_al_n hC rfl dX7_off_0 ((sd_il_n hC rfl dX7_off_1 ((sd_cV hC c_Mo_isWish yv_Mo_isWish (ci := 8) rfl rfl ml_Mo_173 (by decide) (by decide) dX7_off_2 ((sd_ifne hC (tgt := 11) (by decide) dX7_off_5 (s_Mo_off_11 hC) ((sd_bipush hC (by decide) dX7_off_8 ((sd_iret hC dX7_off_10)))))))))))
theorem c_Mo_off (l : Launch) : zCT2 l yX7_off cX7_off 2 (some .int) 3 73 T_Mo_off := by
  intro As M Rt c1 c2 hT
  obtain ⟨y, k, rfl, rfl, hJ, hR0, hR1, hR2⟩ := hT
  have hlim := hJ.lim
  refine zMet_of false (by decide +kernel) (fun h => by first | rfl | cases h) (Nat.le_of_ble_eq_true rfl) (fun X hN hC => ?_)
  show zG X 0 [some (.inr (30, 0, 0)), some (.inl (.int k))] [] (mp y) 0 0
  refine s_Mo_off_0 hC _ _ _ _ _ ?_
  simp only [B_Mo_off_0, B_Mo_off_11, B_Mo_off_23, co_Mo_isWish, i_ic, i_lc, i_nul, i_il, i_ll, i_al, i_is, i_as, i_ls, i_inc, i_iadd, i_isub, i_imul, i_iand, i_ior, i_ixor, i_idiv, i_irem, i_ishl, i_ishr, i_ladd, i_lsub, i_land, i_lor, i_i2l, i_lushr, i_lshl, i_lshr, i_lcmp, i_dup, i_pop, i_dx1, i_dup2, i_ifeq, i_ifne, i_iflt, i_ifge, i_ifgt, i_ifle, i_iceq, i_icne, i_iclt, i_icge, i_icgt, i_icle, i_ifn, i_gf, i_pf, i_ial, i_bal, i_lal, i_aal, i_ias, i_las, i_bas, i_aas, i_alen, i_newa, i_new, i_anew, i_cast, i_oi, i_call, i_callV, i_callV2, i_callI, i_iret, i_zret, i_lret, i_vret, i_aret, i_mmx, i_mmn, i_gsE, i_aceq, i_no, i_acq, i_sw, zsw, zlg, zls, znl, zfg, zcs, zsp, zrc, zisn, zft, zc1, zto, Value.category, List.set_cons_zero, List.set_cons_succ, List.length_cons, List.length_nil, Option.toList, List.append, List.nil_append, List.cons_append, true_and, and_true, Nat.add_zero, Nat.zero_le, Nat.zero_add, Nat.le_refl, Nat.reduceAdd, Nat.reduceLeDiff, co0, z0, zn_0, zn_1, zn_2, zn_3, zn_4, zn_5, zn_8, zn_12, zn_24, zn_121, zn_144, zn_256, zn_300, zn_600, zn_720, zn_1204, zn_1280, zn_2400, zn_4816, zn_14400, zn_90000, q_main, m_main]
  refine ⟨y, k, rfl, rfl, ?_⟩
  simp only [B_Mo_off_0, B_Mo_off_11, B_Mo_off_23, co_Mo_isWish, i_ic, i_lc, i_nul, i_il, i_ll, i_al, i_is, i_as, i_ls, i_inc, i_iadd, i_isub, i_imul, i_iand, i_ior, i_ixor, i_idiv, i_irem, i_ishl, i_ishr, i_ladd, i_lsub, i_land, i_lor, i_i2l, i_lushr, i_lshl, i_lshr, i_lcmp, i_dup, i_pop, i_dx1, i_dup2, i_ifeq, i_ifne, i_iflt, i_ifge, i_ifgt, i_ifle, i_iceq, i_icne, i_iclt, i_icge, i_icgt, i_icle, i_ifn, i_gf, i_pf, i_ial, i_bal, i_lal, i_aal, i_ias, i_las, i_bas, i_aas, i_alen, i_newa, i_new, i_anew, i_cast, i_oi, i_call, i_callV, i_callV2, i_callI, i_iret, i_zret, i_lret, i_vret, i_aret, i_mmx, i_mmn, i_gsE, i_aceq, i_no, i_acq, i_sw, zsw, zlg, zls, znl, zfg, zcs, zsp, zrc, zisn, zft, zc1, zto, Value.category, List.set_cons_zero, List.set_cons_succ, List.length_cons, List.length_nil, Option.toList, List.append, List.nil_append, List.cons_append, true_and, and_true, Nat.add_zero, Nat.zero_le, Nat.zero_add, Nat.le_refl, Nat.reduceAdd, Nat.reduceLeDiff, co0, z0, zn_0, zn_1, zn_2, zn_3, zn_4, zn_5, zn_8, zn_12, zn_24, zn_121, zn_144, zn_256, zn_300, zn_600, zn_720, zn_1204, zn_1280, zn_2400, zn_4816, zn_14400, zn_90000, q_main, m_main, q_al]
  refine ⟨fun h => ?_, fun h => hR0 (zb_0.mp h)⟩
  obtain ⟨w, hw, rfl⟩ := isn_t (by omega) (zb_n0 h)
  rw [nI_clamp (by omega)]
  refine ⟨vp_in_nI (by omega) (by decide), fun h3 => ⟨m_k (by decide), vp_in_nI (by omega) (by decide), ?_⟩, fun h3 => hR1 w hw rfl (zb_0.mp h3)⟩
  obtain ⟨hok, hc, hR⟩ := hR2 w hw rfl (zb_n0 h3)
  rw [upd_b0, mu_al]
  simp only [B_Mo_off_0, B_Mo_off_11, B_Mo_off_23, co_Mo_isWish, i_ic, i_lc, i_nul, i_il, i_ll, i_al, i_is, i_as, i_ls, i_inc, i_iadd, i_isub, i_imul, i_iand, i_ior, i_ixor, i_idiv, i_irem, i_ishl, i_ishr, i_ladd, i_lsub, i_land, i_lor, i_i2l, i_lushr, i_lshl, i_lshr, i_lcmp, i_dup, i_pop, i_dx1, i_dup2, i_ifeq, i_ifne, i_iflt, i_ifge, i_ifgt, i_ifle, i_iceq, i_icne, i_iclt, i_icge, i_icgt, i_icle, i_ifn, i_gf, i_pf, i_ial, i_bal, i_lal, i_aal, i_ias, i_las, i_bas, i_aas, i_alen, i_newa, i_new, i_anew, i_cast, i_oi, i_call, i_callV, i_callV2, i_callI, i_iret, i_zret, i_lret, i_vret, i_aret, i_mmx, i_mmn, i_gsE, i_aceq, i_no, i_acq, i_sw, zsw, zlg, zls, znl, zfg, zcs, zsp, zrc, zisn, zft, zc1, zto, Value.category, List.set_cons_zero, List.set_cons_succ, List.length_cons, List.length_nil, Option.toList, List.append, List.nil_append, List.cons_append, true_and, and_true, Nat.add_zero, Nat.zero_le, Nat.zero_add, Nat.le_refl, Nat.reduceAdd, Nat.reduceLeDiff, co0, z0, zn_0, zn_1, zn_2, zn_3, zn_4, zn_5, zn_8, zn_12, zn_24, zn_121, zn_144, zn_256, zn_300, zn_600, zn_720, zn_1204, zn_1280, zn_2400, zn_4816, zn_14400, zn_90000, q_main, m_main]
  exact ⟨Or.inl trivial, c1, c2, Nat.le_refl _, Nat.le_refl _, of_y y w, rfl, rfl, Jv_of hJ, hok, hc.1, hc.2, Nat.le_refl _, Nat.le_refl _, hR⟩
