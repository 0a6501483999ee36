/-! WishRoutes: send -/
def nw_nt (x : zSt) (d : Int32) (g : Nat → Int32) : zSt := u_nf (u_nh (u_nv (u_nm (u_nd (u_on x (x_on x + 1)) (va_up (x_nd x) (x_on x) d)) (va_up (x_nm x) (x_on x) 0)) (va_up (x_nv x) (x_on x) 0)) (va_up (x_nh x) (x_on x) 0)) (va_up (x_nf x) (x_on x) g)
theorem pu_nnt (x : zSt) (d : Int32) (g : Nat → Int32) (e0 : zAE) : zup (zup (zup (pic x) (12, x_on x, 0) e0) (13, x_on x, 0) (zin 4 g)) (12, x_on x, 0) (.inr (3, [.inl (.int (nI (x_on x))), .inl (.int d), .inr (13, x_on x, 0), .inl (.int 0), .inl (.int 0), .inl (.int 0)])) = pic (nw_nt x d g) := by
  have c1 : x_on (nw_nt x d g) = x_on x + 1 := rfl
  have c2 : x_nd (nw_nt x d g) = va_up (x_nd x) (x_on x) d := rfl
  have c3 : x_nm (nw_nt x d g) = va_up (x_nm x) (x_on x) 0 := rfl
  have c4 : x_nv (nw_nt x d g) = va_up (x_nv x) (x_on x) 0 := rfl
  have c5 : x_nh (nw_nt x d g) = va_up (x_nh x) (x_on x) 0 := rfl
  have c6 : x_nf (nw_nt x d g) = va_up (x_nf x) (x_on x) g := rfl
  funext n
  obtain ⟨k, i, j⟩ := n
  by_cases h12 : (k, i, j) = (12, x_on x, 0)
  · rw [h12, zup_s, p_ntc (by rw [c1]; omega), x_ntc, c2, c3, c4, c5, va_ups, va_ups, va_ups, va_ups]
  · rw [zup_o h12]
    by_cases h13 : (k, i, j) = (13, x_on x, 0)
    · rw [h13, zup_s, p_nf (by rw [c1]; omega), c6, va_ups]
    · rw [zup_o h13, zup_o h12]
      rcases k with _ | _ | _ | _ | _ | _ | _ | _ | _ | _ | _ | _ | _ | _ | _ | _ | _ | _ | _ | k
      all_goals first | rfl | skip
      · refine pool (F := x_ntc x) (F' := x_ntc (nw_nt x d g)) c1 (fun i hi => ?_) (fun q => h12 (by rw [q.1, q.2]))
        simp only [x_ntc, c2, c3, c4, c5, va_upn (Nat.ne_of_lt hi)]
      · refine pool (F := fun i => zin 4 (x_nf x i)) (F' := fun i => zin 4 (x_nf (nw_nt x d g) i)) c1 (fun i hi => ?_) (fun q => h13 (by rw [q.1, q.2]))
        simp only [c6, va_upn (Nat.ne_of_lt hi)]
def ntc_x (x : zSt) (d : Int32) (g : Nat → Int32) : zSt := u_nn (ls (nw_nt x d g) 2) (x_nn x + 1)
theorem ls_ntc {x : zSt} {d : Int32} {g : Nat → Int32} : ls_r (nw_nt x d g) (ntc_x x d g) 2 (12, x_nn x, 0) := by
  refine ⟨rfl, rfl, rfl, fun j hj => ?_, fun j hj => ?_, fun k a b h1 h2 => ?_⟩
  · match j, hj with
    | 0, _ => rfl
    | 1, _ => rfl
    | 2, _ => rfl
    | 3, _ => rfl
  · match j, hj with
    | 0, _ => rfl
    | 1, _ => rfl
    | 2, _ => exact el_up 12 (x_nn x)
    | 3, _ => rfl
  · rcases k with _ | _ | _ | _ | _ | _ | _ | _ | _ | _ | _ | _ | _ | _ | _ | _ | _ | _ | _ | k
    all_goals first | rfl | exact absurd rfl h1 | exact absurd rfl h2
theorem Iv_nnt {x : zSt} {d : Int32} {g : Nat → Int32} (h : Iv x) : Iv (nw_nt x d g) := by
  obtain ⟨h1, h2, h3, h4, h5, h6, h7, h8, h9, h10, h11⟩ := h
  exact ⟨h1, ⟨h2.1, h2.2.1, Nat.le_succ_of_le h2.2.2⟩, h3, h4, h5, h6, h7, h8, h9, h10, h11⟩
theorem Iq_ntc {x : zSt} {d : Int32} {g : Nat → Int32} (h : Iq x) (hn : x_nn x < 600) : Iq (ntc_x x d g) := by
  obtain ⟨hv, hq⟩ := h
  have h1 := Iv_nnt (d := d) (g := g) hv
  have hc := ls_cap (x := nw_nt x d g) (i := 2) (by decide) (show x_nn x ≤ 600 by omega) ls_ntc h1.cap h1.gb
  obtain ⟨g1, g2, g3, g4, g5, g6, g7, g8, g9, g10, g11⟩ := h1
  refine ⟨⟨g1, ⟨g2.1, g2.2.1, ?_⟩, ⟨g3.1, g3.2.1, ?_, g3.2.2.2⟩, hc.1, hc.2, g6, g7, g8, g9, g10, g11⟩, hq.1, hq.2.1, ?_, hq.2.2.2⟩
  · show x_nn x + 1 ≤ x_on x + 1
    omega
  · show x_nn x + 1 ≤ 600
    omega
  · show x_on x + 1 = x_nn x + 1
    omega
noncomputable def snd_x (x : zSt) (d : Int32) (g : Nat → Int32) : zSt := po (lh (ntc_x x d g) (x_nn x) d (x_nw x)) (x_nn x) d (-1) (x_dk (lh (ntc_x x d g) (x_nn x) d (x_nw x)))
def T_WR_send (As : List zAV) (M : zMp) (Rt : Option zAV → zMp → Prop) : Prop := ∃ x d a b c e, As = [.inr (0, 0, 0), .inl (.int d), .inl (.int a), .inl (.int b), .inl (.int c), .inl (.int e)] ∧ M = pic x ∧ Iq x ∧ (isn (x_dk x) d = false → Rt (some (.inl (.int (-2)))) M) ∧ (isn (x_dk x) d = true → (600 ≤ x_nn x ∨ 60 ≤ x_uw x (x_nn x)) → Rt (some (.inl (.int (-8)))) M) ∧ (isn (x_dk x) d = true → x_nn x < 600 → x_uw x (x_nn x) < 60 → Rt (some (.inl (.int (nI (x_nn x))))) (pic (snd_x x d (zf4 a b c e))))
def co_WR_send : List zAV → zMp → Nat × Nat := fun _ _ => (3, 1010)
theorem dX6_send_0 : decode cX6_send 0 = .ok (.aload_n 0, 1) := by decide +kernel
theorem dX6_send_1 : decode cX6_send 1 = .ok (.iload_n 1, 1) := by decide +kernel
theorem dX6_send_2 : decode cX6_send 2 = .ok (.invokevirtual 69, 3) := by decide +kernel
theorem dX6_send_5 : decode cX6_send 5 = .ok (.ifCond .ne 6, 3) := by decide +kernel
theorem dX6_send_8 : decode cX6_send 8 = .ok (.bipush (-2), 2) := by decide +kernel
theorem dX6_send_10 : decode cX6_send 10 = .ok (.ireturn, 1) := by decide +kernel
theorem dX6_send_11 : decode cX6_send 11 = .ok (.aload_n 0, 1) := by decide +kernel
theorem dX6_send_12 : decode cX6_send 12 = .ok (.getfield 19, 3) := by decide +kernel
theorem dX6_send_15 : decode cX6_send 15 = .ok (.invokevirtual 96, 3) := by decide +kernel
theorem dX6_send_18 : decode cX6_send 18 = .ok (.sipush 600, 3) := by decide +kernel
theorem dX6_send_21 : decode cX6_send 21 = .ok (.if_icmp .ge 12, 3) := by decide +kernel
theorem dX6_send_24 : decode cX6_send 24 = .ok (.aload_n 0, 1) := by decide +kernel
theorem dX6_send_25 : decode cX6_send 25 = .ok (.invokevirtual 148, 3) := by decide +kernel
theorem dX6_send_28 : decode cX6_send 28 = .ok (.bipush 60, 2) := by decide +kernel
theorem dX6_send_30 : decode cX6_send 30 = .ok (.if_icmp .lt 6, 3) := by decide +kernel
theorem dX6_send_33 : decode cX6_send 33 = .ok (.bipush (-8), 2) := by decide +kernel
theorem dX6_send_35 : decode cX6_send 35 = .ok (.ireturn, 1) := by decide +kernel
theorem dX6_send_36 : decode cX6_send 36 = .ok (.aload_n 0, 1) := by decide +kernel
theorem dX6_send_37 : decode cX6_send 37 = .ok (.getfield 19, 3) := by decide +kernel
theorem dX6_send_40 : decode cX6_send 40 = .ok (.invokevirtual 96, 3) := by decide +kernel
theorem dX6_send_43 : decode cX6_send 43 = .ok (.istore 6, 2) := by decide +kernel
theorem dX6_send_45 : decode cX6_send 45 = .ok (.new 151, 3) := by decide +kernel
theorem dX6_send_48 : decode cX6_send 48 = .ok (.dup, 1) := by decide +kernel
theorem dX6_send_49 : decode cX6_send 49 = .ok (.iload 6, 2) := by decide +kernel
theorem dX6_send_51 : decode cX6_send 51 = .ok (.iload_n 1, 1) := by decide +kernel
theorem dX6_send_52 : decode cX6_send 52 = .ok (.iconst 4, 1) := by decide +kernel
theorem dX6_send_53 : decode cX6_send 53 = .ok (.newarray .int, 2) := by decide +kernel
theorem dX6_send_55 : decode cX6_send 55 = .ok (.dup, 1) := by decide +kernel
theorem dX6_send_56 : decode cX6_send 56 = .ok (.iconst 0, 1) := by decide +kernel
theorem dX6_send_57 : decode cX6_send 57 = .ok (.iload_n 2, 1) := by decide +kernel
theorem dX6_send_58 : decode cX6_send 58 = .ok (.iastore, 1) := by decide +kernel
theorem dX6_send_59 : decode cX6_send 59 = .ok (.dup, 1) := by decide +kernel
theorem dX6_send_60 : decode cX6_send 60 = .ok (.iconst 1, 1) := by decide +kernel
theorem dX6_send_61 : decode cX6_send 61 = .ok (.iload_n 3, 1) := by decide +kernel
theorem dX6_send_62 : decode cX6_send 62 = .ok (.iastore, 1) := by decide +kernel
theorem dX6_send_63 : decode cX6_send 63 = .ok (.dup, 1) := by decide +kernel
theorem dX6_send_64 : decode cX6_send 64 = .ok (.iconst 2, 1) := by decide +kernel
theorem dX6_send_65 : decode cX6_send 65 = .ok (.iload 4, 2) := by decide +kernel
theorem dX6_send_67 : decode cX6_send 67 = .ok (.iastore, 1) := by decide +kernel
theorem dX6_send_68 : decode cX6_send 68 = .ok (.dup, 1) := by decide +kernel
theorem dX6_send_69 : decode cX6_send 69 = .ok (.iconst 3, 1) := by decide +kernel
theorem dX6_send_70 : decode cX6_send 70 = .ok (.iload 5, 2) := by decide +kernel
theorem dX6_send_72 : decode cX6_send 72 = .ok (.iastore, 1) := by decide +kernel
theorem dX6_send_73 : decode cX6_send 73 = .ok (.invokespecial 153, 3) := by decide +kernel
theorem dX6_send_76 : decode cX6_send 76 = .ok (.astore 7, 2) := by decide +kernel
theorem dX6_send_78 : decode cX6_send 78 = .ok (.aload_n 0, 1) := by decide +kernel
theorem dX6_send_79 : decode cX6_send 79 = .ok (.getfield 19, 3) := by decide +kernel
theorem dX6_send_82 : decode cX6_send 82 = .ok (.aload 7, 2) := by decide +kernel
theorem dX6_send_84 : decode cX6_send 84 = .ok (.invokevirtual 104, 3) := by decide +kernel
theorem dX6_send_87 : decode cX6_send 87 = .ok (.pop, 1) := by decide +kernel
theorem dX6_send_88 : decode cX6_send 88 = .ok (.aload_n 0, 1) := by decide +kernel
theorem dX6_send_89 : decode cX6_send 89 = .ok (.aload 7, 2) := by decide +kernel
theorem dX6_send_91 : decode cX6_send 91 = .ok (.iload_n 1, 1) := by decide +kernel
theorem dX6_send_92 : decode cX6_send 92 = .ok (.invokevirtual 156, 3) := by decide +kernel
theorem dX6_send_95 : decode cX6_send 95 = .ok (.aload_n 0, 1) := by decide +kernel
theorem dX6_send_96 : decode cX6_send 96 = .ok (.aload 7, 2) := by decide +kernel
theorem dX6_send_98 : decode cX6_send 98 = .ok (.iload_n 1, 1) := by decide +kernel
theorem dX6_send_99 : decode cX6_send 99 = .ok (.iconst (-1), 1) := by decide +kernel
theorem dX6_send_100 : decode cX6_send 100 = .ok (.invokevirtual 160, 3) := by decide +kernel
theorem dX6_send_103 : decode cX6_send 103 = .ok (.iload 6, 2) := by decide +kernel
theorem dX6_send_105 : decode cX6_send 105 = .ok (.ireturn, 1) := by decide +kernel
def B_WR_send_36 (mc ms : Nat) (Rt : Option zAV → zMp → Prop) (g : Nat → zKT) : zKT :=
  (i_al 0 (i_gf 7 2 (i_callV mc ms 0 1 T_AL_size co_AL_size (i_is 6 (i_new mc ms 3 6 [.inl (.int 0), .inl (.int 0), .inl .null, .inl (.int 0), .inl (.int 0), .inl (.int 0)] (i_dup (i_il 6 (i_il 1 (i_ic 4 (i_newa mc ms .int (i_dup (i_ic 0 (i_il 2 (i_ias (i_dup (i_ic 1 (i_il 3 (i_ias (i_dup (i_ic 2 (i_il 4 (i_ias (i_dup (i_ic 3 (i_il 5 (i_ias (i_callI mc ms 4 T_Not_init co_Not_init (i_as 7 (i_al 0 (i_gf 7 2 (i_al 7 (i_callV mc ms 0 2 T_AL_add2 co_AL_add2 (i_pop (i_al 0 (i_al 7 (i_il 1 (i_callV mc ms 7 3 T_WR_letHear co_WR_letHear (i_al 0 (i_al 7 (i_il 1 (i_ic (-1) (i_callV mc ms 7 4 T_WR_passOn co_WR_passOn (i_il 6 (i_iret mc ms Rt))))))))))))))))))))))))))))))))))))))))))))
set_option maxRecDepth 20000 in
theorem s_WR_send_36 {X : zMa} {mc ms : Nat} {Rt : Option zAV → zMp → Prop} (hC : zCx X RX6 cX6_send 7 171 mc ms (some .int) false Rt) (hN : zNL X = 8) : zLe (B_WR_send_36 mc ms Rt (zG X)) (zG X 36) :=
  (sd_al_n hC rfl dX6_send_36 ((sd_gf hC (ci := 7) (fk := 2) rfl wi_WR (by decide) fl_WR_19 (Or.inl rfl) dX6_send_37 ((sd_cV hC c_AL_size yv_AL_size (ci := 0) rfl rfl ml_WR_96 (by decide) (by decide) dX6_send_40 ((sd_is hC (by rw [hN]; decide) dX6_send_43 ((sd_new hC (ci := 3) rfl wi_Not tyX2 tyX2_ok cl_WR_151 in_Not iz_Not (by decide) (by intro n h; simp at h) dX6_send_45 ((sd_dup hC dX6_send_48 ((sd_il hC dX6_send_49 ((sd_il_n hC rfl dX6_send_51 ((sd_iconst hC (by decide) dX6_send_52 ((sd_newa hC (at0 := .int) rfl (by decide) ac_int dX6_send_53 ((sd_dup hC dX6_send_55 ((sd_iconst hC (by decide) dX6_send_56 ((sd_il_n hC rfl dX6_send_57 ((sd_ias hC dX6_send_58 ((sd_dup hC dX6_send_59 ((sd_iconst hC (by decide) dX6_send_60 ((sd_il_n hC rfl dX6_send_61 ((sd_ias hC dX6_send_62 ((sd_dup hC dX6_send_63 ((sd_iconst hC (by decide) dX6_send_64 ((sd_il hC dX6_send_65 ((sd_ias hC dX6_send_67 ((sd_dup hC dX6_send_68 ((sd_iconst hC (by decide) dX6_send_69 ((sd_il hC dX6_send_70 ((sd_ias hC dX6_send_72 ((sd_cI hC c_Not_init yi_Not_init ml_WR_153 (by decide) (by decide) dX6_send_73 ((sd_as hC (by rw [hN]; decide) dX6_send_76 ((sd_al_n hC rfl dX6_send_78 ((sd_gf hC (ci := 7) (fk := 2) rfl wi_WR (by decide) fl_WR_19 (Or.inl rfl) dX6_send_79 ((sd_al hC dX6_send_82 ((sd_cV hC c_AL_add2 yv_AL_add2 (ci := 0) rfl rfl ml_WR_104 (by decide) (by decide) dX6_send_84 ((sd_pop hC dX6_send_87 ((sd_al_n hC rfl dX6_send_88 ((sd_al hC dX6_send_89 ((sd_il_n hC rfl dX6_send_91 ((sd_cV hC c_WR_letHear yv_WR_letHear (ci := 7) rfl rfl ml_WR_156 (by decide) (by decide) dX6_send_92 ((sd_al_n hC rfl dX6_send_95 ((sd_al hC dX6_send_96 ((sd_il_n hC rfl dX6_send_98 ((sd_iconst hC (by decide) dX6_send_99 ((sd_cV hC c_WR_passOn yv_WR_passOn (ci := 7) rfl rfl ml_WR_160 (by decide) (by decide) dX6_send_100 ((sd_il hC dX6_send_103 ((sd_iret hC dX6_send_105)))))))))))))))))))))))))))))))))))))))))))))))))))))))))))))))))))))))))))))))))))))))
def B_WR_send_33 (mc ms : Nat) (Rt : Option zAV → zMp → Prop) (g : Nat → zKT) : zKT :=
  (i_ic (-8) (i_iret mc ms Rt))
set_option maxRecDepth 20000 in
theorem s_WR_send_33 {X : zMa} {mc ms : Nat} {Rt : Option zAV → zMp → Prop} (hC : zCx X RX6 cX6_send 7 171 mc ms (some .int) false Rt) (hN : zNL X = 8) : zLe (B_WR_send_33 mc ms Rt (zG X)) (zG X 33) :=
  (sd_bipush hC (by decide) dX6_send_33 ((sd_iret hC dX6_send_35)))
def B_WR_send_11 (mc ms : Nat) (Rt : Option zAV → zMp → Prop) (g : Nat → zKT) : zKT :=
  (i_al 0 (i_gf 7 2 (i_callV mc ms 0 1 T_AL_size co_AL_size (i_ic 600 (i_icge (B_WR_send_33 mc ms Rt g) (i_al 0 (i_callV mc ms 7 1 T_WR_underWay co_WR_underWay (i_ic 60 (i_iclt (B_WR_send_36 mc ms Rt g) (B_WR_send_33 mc ms Rt g))))))))))
set_option maxRecDepth 20000 in
theorem s_WR_send_11 {X : zMa} {mc ms : Nat} {Rt : Option zAV → zMp → Prop} (hC : zCx X RX6 cX6_send 7 171 mc ms (some .int) false Rt) (hN : zNL X = 8) : zLe (B_WR_send_11 mc ms Rt (zG X)) (zG X 11) :=
  (sd_al_n hC rfl dX6_send_11 ((sd_gf hC (ci := 7) (fk := 2) rfl wi_WR (by decide) fl_WR_19 (Or.inl rfl) dX6_send_12 ((sd_cV hC c_AL_size yv_AL_size (ci := 0) rfl rfl ml_WR_96 (by decide) (by decide) dX6_send_15 ((sd_sipush hC (by decide) dX6_send_18 ((sd_icge hC (tgt := 33) (by decide) dX6_send_21 (s_WR_send_33 hC hN) ((sd_al_n hC rfl dX6_send_24 ((sd_cV hC c_WR_underWay yv_WR_underWay (ci := 7) rfl rfl ml_WR_148 (by decide) (by decide) dX6_send_25 ((sd_bipush hC (by decide) dX6_send_28 ((sd_iclt hC (tgt := 36) (by decide) dX6_send_30 (s_WR_send_36 hC hN) (s_WR_send_33 hC hN))))))))))))))))))
def B_WR_send_0 (mc ms : Nat) (Rt : Option zAV → zMp → Prop) (g : Nat → zKT) : zKT :=
  (i_al 0 (i_il 1 (i_callV mc ms 7 2 T_WR_isDesk co_WR_isDesk (i_ifne (B_WR_send_11 mc ms Rt g) (i_ic (-2) (i_iret mc ms Rt))))))
set_option maxRecDepth 20000 in
theorem s_WR_send_0 {X : zMa} {mc ms : Nat} {Rt : Option zAV → zMp → Prop} (hC : zCx X RX6 cX6_send 7 171 mc ms (some .int) false Rt) (hN : zNL X = 8) : zLe (B_WR_send_0 mc ms Rt (zG X)) (zG X 0) :=
  (sd_al_n hC rfl dX6_send_0 ((sd_il_n hC rfl dX6_send_1 ((sd_cV hC c_WR_isDesk yv_WR_isDesk (ci := 7) rfl rfl ml_WR_69 (by decide) (by decide) dX6_send_2 ((sd_ifne hC (tgt := 11) (by decide) dX6_send_5 (s_WR_send_11 hC hN) ((sd_bipush hC (by decide) dX6_send_8 ((sd_iret hC dX6_send_10)))))))))))
theorem c_WR_send (l : Launch) : zCT l yX6_send cX6_send 8 (some .int) 7 171 T_WR_send co_WR_send := by
  intro As M Rt hT
  obtain ⟨x, d, a, b, c, e, rfl, rfl, hq, hR0, hR1, hR2⟩ := hT
  have hI := hq.1
  have hlim := hI.lim
  refine zMet_of false (by decide +kernel) (fun h => by first | rfl | cases h) (Nat.le_of_ble_eq_true rfl) (fun X hN hC => ?_)
  show zG X 0 [some (.inr (0, 0, 0)), some (.inl (.int d)), some (.inl (.int a)), some (.inl (.int b)), some (.inl (.int c)), some (.inl (.int e)), none, none] [] (pic x) 0 0
  refine s_WR_send_0 hC hN _ _ _ _ _ ?_
  simp only [B_WR_send_0, B_WR_send_11, B_WR_send_33, co_AL_add2, co_AL_size, co_Not_init, co_WR_isDesk, co_WR_letHear, co_WR_passOn, co_WR_send, co_WR_underWay, i_ic, i_lc, i_nul, i_il, i_ll, i_al, i_is, i_as, i_ls, i_inc, i_iadd, i_isub, i_imul, i_iand, i_ior, i_ixor, i_idiv, i_irem, i_ishl, i_ishr, i_ladd, i_lsub, i_land, i_lor, i_i2l, i_lushr, i_lshl, i_lshr, i_lcmp, i_dup, i_pop, i_dx1, i_dup2, i_ifeq, i_ifne, i_iflt, i_ifge, i_ifgt, i_ifle, i_iceq, i_icne, i_iclt, i_icge, i_icgt, i_icle, i_ifn, i_gf, i_pf, i_ial, i_bal, i_lal, i_aal, i_ias, i_las, i_bas, i_aas, i_alen, i_newa, i_new, i_anew, i_cast, i_oi, i_call, i_callV, i_callV2, i_callI, i_iret, i_zret, i_lret, i_vret, i_aret, i_mmx, i_mmn, i_gsE, i_aceq, i_no, i_acq, i_sw, zsw, zlg, zls, znl, zfg, zcs, zsp, zrc, zisn, zft, zc1, zto, Value.category, List.set_cons_zero, List.set_cons_succ, List.length_cons, List.length_nil, Option.toList, List.append, List.nil_append, List.cons_append, true_and, and_true, Nat.add_zero, Nat.zero_le, Nat.zero_add, Nat.le_refl, Nat.reduceAdd, Nat.reduceLeDiff, co0, z0, zn_0, zn_1, zn_2, zn_3, zn_4, zn_5, zn_8, zn_12, zn_24, zn_121, zn_144, zn_256, zn_300, zn_600, zn_720, zn_1204, zn_1280, zn_2400, zn_4816, zn_14400, zn_90000, p_main, x_main]
  refine ⟨x, d, rfl, rfl, fun h => ?_, fun h => hR0 (zb_0.mp h)⟩
  have hd := zb_n0 h
  simp only [p_main, x_main, p_list (i := 2) (by decide), i_ic, i_lc, i_nul, i_il, i_ll, i_al, i_is, i_as, i_ls, i_inc, i_iadd, i_isub, i_imul, i_iand, i_ior, i_ixor, i_idiv, i_irem, i_ishl, i_ishr, i_ladd, i_lsub, i_land, i_lor, i_i2l, i_lushr, i_lshl, i_lshr, i_lcmp, i_dup, i_pop, i_dx1, i_dup2, i_ifeq, i_ifne, i_iflt, i_ifge, i_ifgt, i_ifle, i_iceq, i_icne, i_iclt, i_icge, i_icgt, i_icle, i_ifn, i_gf, i_pf, i_ial, i_bal, i_lal, i_aal, i_ias, i_las, i_bas, i_aas, i_alen, i_newa, i_new, i_anew, i_cast, i_oi, i_call, i_callV, i_callV2, i_callI, i_iret, i_zret, i_lret, i_vret, i_aret, i_mmx, i_mmn, i_gsE, i_aceq, i_no, i_acq, i_sw, zsw, zlg, zls, znl, zfg, zcs, zsp, zrc, zisn, zft, zc1, zto, Value.category, List.set_cons_zero, List.set_cons_succ, List.length_cons, List.length_nil, Option.toList, List.append, List.nil_append, List.cons_append, true_and, and_true, Nat.add_zero, Nat.zero_le, Nat.zero_add, Nat.le_refl, Nat.reduceAdd, Nat.reduceLeDiff, co0, z0, zn_0, zn_1, zn_2, zn_3, zn_4, zn_5, zn_8, zn_12, zn_24, zn_121, zn_144, zn_256, zn_300, zn_600, zn_720, zn_1204, zn_1280, zn_2400, zn_4816, zn_14400, zn_90000]
  refine ⟨(1, 2, 0), _, _, _, rfl, p_list (by decide), ?_⟩
  have hsz : x_sz x 2 = x_nn x := rfl
  rw [hsz]
  have hK := (zK (K := 600) (by decide) (n := x_nn x) (by omega)).2.1
  simp only [p_main, x_main, i_ic, i_lc, i_nul, i_il, i_ll, i_al, i_is, i_as, i_ls, i_inc, i_iadd, i_isub, i_imul, i_iand, i_ior, i_ixor, i_idiv, i_irem, i_ishl, i_ishr, i_ladd, i_lsub, i_land, i_lor, i_i2l, i_lushr, i_lshl, i_lshr, i_lcmp, i_dup, i_pop, i_dx1, i_dup2, i_ifeq, i_ifne, i_iflt, i_ifge, i_ifgt, i_ifle, i_iceq, i_icne, i_iclt, i_icge, i_icgt, i_icle, i_ifn, i_gf, i_pf, i_ial, i_bal, i_lal, i_aal, i_ias, i_las, i_bas, i_aas, i_alen, i_newa, i_new, i_anew, i_cast, i_oi, i_call, i_callV, i_callV2, i_callI, i_iret, i_zret, i_lret, i_vret, i_aret, i_mmx, i_mmn, i_gsE, i_aceq, i_no, i_acq, i_sw, zsw, zlg, zls, znl, zfg, zcs, zsp, zrc, zisn, zft, zc1, zto, Value.category, List.set_cons_zero, List.set_cons_succ, List.length_cons, List.length_nil, Option.toList, List.append, List.nil_append, List.cons_append, true_and, and_true, Nat.add_zero, Nat.zero_le, Nat.zero_add, Nat.le_refl, Nat.reduceAdd, Nat.reduceLeDiff, co0, z0, zn_0, zn_1, zn_2, zn_3, zn_4, zn_5, zn_8, zn_12, zn_24, zn_121, zn_144, zn_256, zn_300, zn_600, zn_720, zn_1204, zn_1280, zn_2400, zn_4816, zn_14400, zn_90000]
  refine ⟨fun hge => hR1 hd (Or.inl (hK.mp hge)), fun hge => ⟨x, rfl, rfl, hI, ?_⟩⟩
  have hn : x_nn x < 600 := by
    have : ¬ 600 ≤ x_nn x := fun z => hge (hK.mpr z)
    omega
  have hK2 := (zK (K := 60) (by decide) (n := x_uw x (x_nn x)) (by have := x_uw_le x (x_nn x); omega)).1
  refine ⟨fun hlt => ?_, fun hlt => hR1 hd (Or.inr (by have : ¬ x_uw x (x_nn x) < 60 := fun z => hlt (hK2.mpr z); omega))⟩
  have hR := hR2 hd hn (hK2.mp hlt)
  have fr : pic x (12, x_on x, 0) = none := if_neg (fun q => absurd q.1 (Nat.lt_irrefl _))
  have fr2 : pic x (13, x_on x, 0) = none := if_neg (fun q => absurd q.1 (Nat.lt_irrefl _))
  have i0 : vp_in 0 4 := by unfold vp_in; decide
  have i1 : vp_in 1 4 := by unfold vp_in; decide
  have i2 : vp_in 2 4 := by unfold vp_in; decide
  have i3 : vp_in 3 4 := by unfold vp_in; decide
  simp only [B_WR_send_0, B_WR_send_11, B_WR_send_33, B_WR_send_36, co_AL_add2, co_AL_size, co_Not_init, co_WR_isDesk, co_WR_letHear, co_WR_passOn, co_WR_send, co_WR_underWay, p_main, x_main, p_list (i := 2) (by decide), i_ic, i_lc, i_nul, i_il, i_ll, i_al, i_is, i_as, i_ls, i_inc, i_iadd, i_isub, i_imul, i_iand, i_ior, i_ixor, i_idiv, i_irem, i_ishl, i_ishr, i_ladd, i_lsub, i_land, i_lor, i_i2l, i_lushr, i_lshl, i_lshr, i_lcmp, i_dup, i_pop, i_dx1, i_dup2, i_ifeq, i_ifne, i_iflt, i_ifge, i_ifgt, i_ifle, i_iceq, i_icne, i_iclt, i_icge, i_icgt, i_icle, i_ifn, i_gf, i_pf, i_ial, i_bal, i_lal, i_aal, i_ias, i_las, i_bas, i_aas, i_alen, i_newa, i_new, i_anew, i_cast, i_oi, i_call, i_callV, i_callV2, i_callI, i_iret, i_zret, i_lret, i_vret, i_aret, i_mmx, i_mmn, i_gsE, i_aceq, i_no, i_acq, i_sw, zsw, zlg, zls, znl, zfg, zcs, zsp, zrc, zisn, zft, zc1, zto, Value.category, List.set_cons_zero, List.set_cons_succ, List.length_cons, List.length_nil, Option.toList, List.append, List.nil_append, List.cons_append, true_and, and_true, Nat.add_zero, Nat.zero_le, Nat.zero_add, Nat.le_refl, Nat.reduceAdd, Nat.reduceLeDiff, co0, z0, zn_0, zn_1, zn_2, zn_3, zn_4, zn_5, zn_8, zn_12, zn_24, zn_121, zn_144, zn_256, zn_300, zn_600, zn_720, zn_1204, zn_1280, zn_2400, zn_4816, zn_14400, zn_90000]
  refine ⟨(1, 2, 0), _, _, _, rfl, p_list (by decide), ?_⟩
  rw [hsz]
  simp only [i_ic, i_lc, i_nul, i_il, i_ll, i_al, i_is, i_as, i_ls, i_inc, i_iadd, i_isub, i_imul, i_iand, i_ior, i_ixor, i_idiv, i_irem, i_ishl, i_ishr, i_ladd, i_lsub, i_land, i_lor, i_i2l, i_lushr, i_lshl, i_lshr, i_lcmp, i_dup, i_pop, i_dx1, i_dup2, i_ifeq, i_ifne, i_iflt, i_ifge, i_ifgt, i_ifle, i_iceq, i_icne, i_iclt, i_icge, i_icgt, i_icle, i_ifn, i_gf, i_pf, i_ial, i_bal, i_lal, i_aal, i_ias, i_las, i_bas, i_aas, i_alen, i_newa, i_new, i_anew, i_cast, i_oi, i_call, i_callV, i_callV2, i_callI, i_iret, i_zret, i_lret, i_vret, i_aret, i_mmx, i_mmn, i_gsE, i_aceq, i_no, i_acq, i_sw, zsw, zlg, zls, znl, zfg, zcs, zsp, zrc, zisn, zft, zc1, zto, Value.category, List.set_cons_zero, List.set_cons_succ, List.length_cons, List.length_nil, Option.toList, List.append, List.nil_append, List.cons_append, true_and, and_true, Nat.add_zero, Nat.zero_le, Nat.zero_add, Nat.le_refl, Nat.reduceAdd, Nat.reduceLeDiff, co0, z0, zn_0, zn_1, zn_2, zn_3, zn_4, zn_5, zn_8, zn_12, zn_24, zn_121, zn_144, zn_256, zn_300, zn_600, zn_720, zn_1204, zn_1280, zn_2400, zn_4816, zn_14400, zn_90000]
  refine ⟨(12, x_on x, 0), fr, m_k (by decide), (13, x_on x, 0), by rw [zup_o (nm_ne (by omega))]; exact fr2, m_k (by decide), by decide, ?_⟩
  simp only [zup_s, zup_zup, i_ic, i_lc, i_nul, i_il, i_ll, i_al, i_is, i_as, i_ls, i_inc, i_iadd, i_isub, i_imul, i_iand, i_ior, i_ixor, i_idiv, i_irem, i_ishl, i_ishr, i_ladd, i_lsub, i_land, i_lor, i_i2l, i_lushr, i_lshl, i_lshr, i_lcmp, i_dup, i_pop, i_dx1, i_dup2, i_ifeq, i_ifne, i_iflt, i_ifge, i_ifgt, i_ifle, i_iceq, i_icne, i_iclt, i_icge, i_icgt, i_icle, i_ifn, i_gf, i_pf, i_ial, i_bal, i_lal, i_aal, i_ias, i_las, i_bas, i_aas, i_alen, i_newa, i_new, i_anew, i_cast, i_oi, i_call, i_callV, i_callV2, i_callI, i_iret, i_zret, i_lret, i_vret, i_aret, i_mmx, i_mmn, i_gsE, i_aceq, i_no, i_acq, i_sw, zsw, zlg, zls, znl, zfg, zcs, zsp, zrc, zisn, zft, zc1, zto, Value.category, List.set_cons_zero, List.set_cons_succ, List.length_cons, List.length_nil, Option.toList, List.append, List.nil_append, List.cons_append, true_and, and_true, Nat.add_zero, Nat.zero_le, Nat.zero_add, Nat.le_refl, Nat.reduceAdd, Nat.reduceLeDiff, co0, z0, zn_0, zn_1, zn_2, zn_3, zn_4, zn_5, zn_8, zn_12, zn_24, zn_121, zn_144, zn_256, zn_300, zn_600, zn_720, zn_1204, zn_1280, zn_2400, zn_4816, zn_14400, zn_90000]
  refine ⟨m_k (by decide), i0, m_k (by decide), i1, m_k (by decide), i2, m_k (by decide), i3, ?_⟩
  refine ⟨(12, x_on x, 0), nI (x_nn x), d, (13, x_on x, 0), zf4 a b c e, rfl, by rw [zup_o (nm_ne (by omega)), zup_s], m_k (by decide), zup_s, ?_⟩
  have e1 := pu_nnt x d (zf4 a b c e) (.inr (3, [.inl (.int 0), .inl (.int 0), .inl .null, .inl (.int 0), .inl (.int 0), .inl (.int 0)]))
  unfold zf4 at e1
  rw [hq.2.2.2.1] at e1 ⊢
  rw [e1]
  rw [show nw_nt x d (upd (upd (upd (upd (fun _ => 0) 0 a) 1 b) 2 c) 3 e) = nw_nt x d (zf4 a b c e) from rfl]
  have h1 := Iv_nnt (d := d) (g := zf4 a b c e) hI
  simp only [p_main, x_main, p_list (i := 2) (by decide), i_ic, i_lc, i_nul, i_il, i_ll, i_al, i_is, i_as, i_ls, i_inc, i_iadd, i_isub, i_imul, i_iand, i_ior, i_ixor, i_idiv, i_irem, i_ishl, i_ishr, i_ladd, i_lsub, i_land, i_lor, i_i2l, i_lushr, i_lshl, i_lshr, i_lcmp, i_dup, i_pop, i_dx1, i_dup2, i_ifeq, i_ifne, i_iflt, i_ifge, i_ifgt, i_ifle, i_iceq, i_icne, i_iclt, i_icge, i_icgt, i_icle, i_ifn, i_gf, i_pf, i_ial, i_bal, i_lal, i_aal, i_ias, i_las, i_bas, i_aas, i_alen, i_newa, i_new, i_anew, i_cast, i_oi, i_call, i_callV, i_callV2, i_callI, i_iret, i_zret, i_lret, i_vret, i_aret, i_mmx, i_mmn, i_gsE, i_aceq, i_no, i_acq, i_sw, zsw, zlg, zls, znl, zfg, zcs, zsp, zrc, zisn, zft, zc1, zto, Value.category, List.set_cons_zero, List.set_cons_succ, List.length_cons, List.length_nil, Option.toList, List.append, List.nil_append, List.cons_append, true_and, and_true, Nat.add_zero, Nat.zero_le, Nat.zero_add, Nat.le_refl, Nat.reduceAdd, Nat.reduceLeDiff, co0, z0, zn_0, zn_1, zn_2, zn_3, zn_4, zn_5, zn_8, zn_12, zn_24, zn_121, zn_144, zn_256, zn_300, zn_600, zn_720, zn_1204, zn_1280, zn_2400, zn_4816, zn_14400, zn_90000]
  have ho : x_nn x < x_on (nw_nt x d (zf4 a b c e)) := by show x_nn x < x_on x + 1; have := hq.2.2.2.1; omega
  refine ls_T (x' := ntc_x x d (zf4 a b c e)) (by decide) (h1.cap 2 (by decide)) (show x_nn x ≤ 600 by omega) (h1.gb 2) ?_ (nm_ne (by omega)) (el_ok2 h1) ls_ntc ?_
  · simp only [zok, p_ntc ho, x_ntc]
    exact zk_Not_Obj
  · have h2 := Iq_ntc (d := d) (g := zf4 a b c e) hq hn
    have ho2 : x_nn x < x_on (ntc_x x d (zf4 a b c e)) := ho
    have hnw : x_nw x = x_nw (ntc_x x d (zf4 a b c e)) := rfl
    unfold snd_x at hR
    rw [hnw] at hR
    generalize ntc_x x d (zf4 a b c e) = y at h2 ho2 hR
    simp only [p_main, x_main, p_ntc ho2, x_ntc, i_ic, i_lc, i_nul, i_il, i_ll, i_al, i_is, i_as, i_ls, i_inc, i_iadd, i_isub, i_imul, i_iand, i_ior, i_ixor, i_idiv, i_irem, i_ishl, i_ishr, i_ladd, i_lsub, i_land, i_lor, i_i2l, i_lushr, i_lshl, i_lshr, i_lcmp, i_dup, i_pop, i_dx1, i_dup2, i_ifeq, i_ifne, i_iflt, i_ifge, i_ifgt, i_ifle, i_iceq, i_icne, i_iclt, i_icge, i_icgt, i_icle, i_ifn, i_gf, i_pf, i_ial, i_bal, i_lal, i_aal, i_ias, i_las, i_bas, i_aas, i_alen, i_newa, i_new, i_anew, i_cast, i_oi, i_call, i_callV, i_callV2, i_callI, i_iret, i_zret, i_lret, i_vret, i_aret, i_mmx, i_mmn, i_gsE, i_aceq, i_no, i_acq, i_sw, zsw, zlg, zls, znl, zfg, zcs, zsp, zrc, zisn, zft, zc1, zto, Value.category, List.set_cons_zero, List.set_cons_succ, List.length_cons, List.length_nil, Option.toList, List.append, List.nil_append, List.cons_append, true_and, and_true, Nat.add_zero, Nat.zero_le, Nat.zero_add, Nat.le_refl, Nat.reduceAdd, Nat.reduceLeDiff, co0, z0, zn_0, zn_1, zn_2, zn_3, zn_4, zn_5, zn_8, zn_12, zn_24, zn_121, zn_144, zn_256, zn_300, zn_600, zn_720, zn_1204, zn_1280, zn_2400, zn_4816, zn_14400, zn_90000]
    refine ⟨y, x_nn x, d, rfl, rfl, h2.1, ho2, ?_⟩
    have h3 := Iv_lh (k := x_nn x) (d := d) h2.1 (x_nw y)
    have hk3 := lh_k_n y (x_nn x) d (x_nw y)
    generalize lh y (x_nn x) d (x_nw y) = z at h3 hk3 hR
    have ho3 : x_nn x < x_on z := by rw [hk3.2.1]; exact ho2
    simp only [p_main, x_main, p_ntc ho3, x_ntc, i_ic, i_lc, i_nul, i_il, i_ll, i_al, i_is, i_as, i_ls, i_inc, i_iadd, i_isub, i_imul, i_iand, i_ior, i_ixor, i_idiv, i_irem, i_ishl, i_ishr, i_ladd, i_lsub, i_land, i_lor, i_i2l, i_lushr, i_lshl, i_lshr, i_lcmp, i_dup, i_pop, i_dx1, i_dup2, i_ifeq, i_ifne, i_iflt, i_ifge, i_ifgt, i_ifle, i_iceq, i_icne, i_iclt, i_icge, i_icgt, i_icle, i_ifn, i_gf, i_pf, i_ial, i_bal, i_lal, i_aal, i_ias, i_las, i_bas, i_aas, i_alen, i_newa, i_new, i_anew, i_cast, i_oi, i_call, i_callV, i_callV2, i_callI, i_iret, i_zret, i_lret, i_vret, i_aret, i_mmx, i_mmn, i_gsE, i_aceq, i_no, i_acq, i_sw, zsw, zlg, zls, znl, zfg, zcs, zsp, zrc, zisn, zft, zc1, zto, Value.category, List.set_cons_zero, List.set_cons_succ, List.length_cons, List.length_nil, Option.toList, List.append, List.nil_append, List.cons_append, true_and, and_true, Nat.add_zero, Nat.zero_le, Nat.zero_add, Nat.le_refl, Nat.reduceAdd, Nat.reduceLeDiff, co0, z0, zn_0, zn_1, zn_2, zn_3, zn_4, zn_5, zn_8, zn_12, zn_24, zn_121, zn_144, zn_256, zn_300, zn_600, zn_720, zn_1204, zn_1280, zn_2400, zn_4816, zn_14400, zn_90000]
    exact ⟨z, x_nn x, d, -1, rfl, rfl, h3, ho3, hR⟩
