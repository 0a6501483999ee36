/-! WishRoutes: closing a lane -/
noncomputable def cl_s (y : zSt) (l i : Nat) : zSt := if isn (x_nn y) (la_at y l i) = true then u_nm y (va_up (x_nm y) (la_at y l i).toNatClampNeg (x_nm y (la_at y l i).toNatClampNeg - 1)) else y
noncomputable def cl_n (x : zSt) (l : Nat) : Nat → zSt
  | 0 => x
  | n + 1 => cl_s (cl_n x l n) l n
theorem cl_k (x : zSt) (l : Nat) : ∀ n, ∃ f, cl_n x l n = u_nm x f
  | 0 => ⟨x_nm x, rfl⟩
  | n + 1 => by
    obtain ⟨f, e⟩ := cl_k x l n
    simp only [cl_n, cl_s]
    rw [e]
    split
    · exact ⟨_, rfl⟩
    · exact ⟨f, rfl⟩
theorem Iv_cl {x : zSt} {l n : Nat} (h : Iv x) : Iv (cl_n x l n) := by
  obtain ⟨f, e⟩ := cl_k x l n
  rw [e]
  exact Iv_nm h
theorem Iv_clr {x : zSt} {l : Nat} (h : Iv x) : Iv (la_clear x l) := by
  obtain ⟨h1, h2, h3, h4, h5, h6, h7, h8, h9, h10, h11⟩ := h
  refine ⟨h1, h2, h3, h4, h5, h6, h7, h8, fun l' hl' => ?_, h10, h11⟩
  have c2 : x_lz (la_clear x l) = va_up (x_lz x) l 0 := rfl
  have c3 : x_lf (la_clear x l) = va_up (x_lf x) l 0 := rfl
  rw [c2, c3]
  simp only [va_up]
  split
  · decide
  · exact h9 l' hl'
/-- lane l becomes a spare one -/
def sp_add (x : zSt) (l : Nat) : zSt := u_sp (u_ns (ls x 3) (x_ns x + 1)) (va_up (x_sp x) (x_ns x) l)
theorem ls_spa (x : zSt) (l : Nat) : ls_r x (sp_add x l) 3 (16, l, 0) := by
  refine ⟨rfl, rfl, rfl, fun j hj => ?_, fun j hj => ?_, fun k a b h1 h2 => ?_⟩
  · match j, hj with
    | 0, _ => rfl
    | 1, _ => rfl
    | 2, _ => rfl
    | 3, _ => rfl
  · match j, hj with
    | 0, _ => rfl
    | 1, _ => rfl
    | 2, _ => rfl
    | 3, _ =>
      funext k
      show (if k < x_ns x + 1 then some (16, va_up (x_sp x) (x_ns x) l k, 0) else none) = va_up (fun k => if k < x_ns x then some (16, x_sp x k, 0) else none) (x_ns x) (some (16, l, 0)) k
      by_cases h : k = x_ns x
      · subst h
        rw [va_ups, va_ups, if_pos (by omega)]
      · rw [va_upn h, va_upn h]
        by_cases h2 : k < x_ns x
        · rw [if_pos h2, if_pos (by omega)]
        · rw [if_neg h2, if_neg (by omega)]
  · rcases k with _ | _ | _ | _ | _ | _ | _ | _ | _ | _ | _ | _ | _ | _ | _ | _ | _ | _ | _ | k
    all_goals first | rfl | exact absurd rfl h1 | exact absurd rfl h2
theorem Iv_spa {x : zSt} {l : Nat} (h : Iv x) (hl : l < x_nl x) (hn : x_ns x < 600) : Iv (sp_add x l) := by
  have hc := ls_cap (x := x) (i := 3) (by decide) (show x_ns x ≤ 600 by omega) (ls_spa x l) h.cap h.gb
  obtain ⟨g1, g2, g3, g4, g5, g6, g7, g8, g9, g10, g11⟩ := h
  refine ⟨g1, g2, ⟨g3.1, g3.2.1, g3.2.2.1, ?_⟩, hc.1, hc.2, g6, g7, g8, g9, g10, fun k hk => ?_⟩
  · show x_ns x + 1 ≤ 600
    omega
  · have hk : k < x_ns x + 1 := hk
    show va_up (x_sp x) (x_ns x) l k < x_nl x
    by_cases e : k = x_ns x
    · rw [e, va_ups]; exact hl
    · rw [va_upn e]; exact g11 k (by omega)
noncomputable def cl_1 (x : zSt) (l : Nat) : zSt := sp_add (la_clear (cl_n x l (x_lz x l)) l) l
noncomputable def cl_2 (x : zSt) (l u v : Nat) : zSt := u_nb (u_ln (cl_1 x l) (va_up (x_ln x) (12 * u + v) none)) (upd (x_nb x) u (x_nb x u &&& ((1 <<< (nI v &&& 31)) ^^^ (-1))))
noncomputable def cl (x : zSt) (u v : Nat) : zSt := match lnF x (nI u) (nI v) with
  | none => x
  | some l => cl_2 x l u v
theorem cl_1k (x : zSt) (l : Nat) : x_ln (cl_1 x l) = x_ln x ∧ x_nb (cl_1 x l) = x_nb x ∧ x_dk (cl_1 x l) = x_dk x ∧ x_nl (cl_1 x l) = x_nl x ∧ x_ns (cl_1 x l) = x_ns x + 1 := by
  obtain ⟨f, e⟩ := cl_k x l (x_lz x l)
  unfold cl_1
  rw [e]
  exact ⟨rfl, rfl, rfl, rfl, rfl⟩
theorem Iv_cl1 {x : zSt} {l : Nat} (h : Iv x) (hl : l < x_nl x) (hn : x_ns x < 600) : Iv (cl_1 x l) := by
  obtain ⟨f, e⟩ := cl_k x l (x_lz x l)
  have h1 : Iv (cl_n x l (x_lz x l)) := Iv_cl h
  unfold cl_1
  rw [e] at h1 ⊢
  exact Iv_spa (Iv_clr h1) hl hn
theorem Iv_cl2 {x : zSt} {l u v : Nat} (h : Iv x) (hl : l < x_nl x) (hn : x_ns x < 600) : Iv (cl_2 x l u v) := by
  have h1 := Iv_cl1 h hl hn
  have h2 := cl_1k x l
  unfold cl_2
  rw [← h2.1]
  exact Iv_nb (Iv_ln h1 (fun l hl => by cases hl))
theorem Iv_clx {x : zSt} {u v : Nat} (h : Iv x) (hn : x_ns x < 600) : Iv (cl x u v) := by
  unfold cl
  rcases lnF_c h (nI u) (nI v) with e | ⟨q, e, hok⟩
  · rw [e]; exact h
  · rw [e]; exact Iv_cl2 h hok.1 hn
def T_WR_closeLane (As : List zAV) (M : zMp) (Rt : Option zAV → zMp → Prop) : Prop := ∃ x u v, As = [.inr (0, 0, 0), .inl (.int (nI u)), .inl (.int (nI v))] ∧ M = pic x ∧ Iv x ∧ u < 12 ∧ v < 12 ∧ x_ns x < 600 ∧ Rt none (pic (cl x u v))
def co_WR_closeLane : List zAV → zMp → Nat × Nat := fun _ _ => (1, 1000)
theorem dX6_closeLane_0 : decode cX6_closeLane 0 = .ok (.aload_n 0, 1) := by decide +kernel
theorem dX6_closeLane_1 : decode cX6_closeLane 1 = .ok (.iload_n 1, 1) := by decide +kernel
theorem dX6_closeLane_2 : decode cX6_closeLane 2 = .ok (.iload_n 2, 1) := by decide +kernel
theorem dX6_closeLane_3 : decode cX6_closeLane 3 = .ok (.invokevirtual 89, 3) := by decide +kernel
theorem dX6_closeLane_6 : decode cX6_closeLane 6 = .ok (.astore_n 3, 1) := by decide +kernel
theorem dX6_closeLane_7 : decode cX6_closeLane 7 = .ok (.aload_n 3, 1) := by decide +kernel
theorem dX6_closeLane_8 : decode cX6_closeLane 8 = .ok (.ifnonnull 4, 3) := by decide +kernel
theorem dX6_closeLane_11 : decode cX6_closeLane 11 = .ok (.return_, 1) := by decide +kernel
theorem dX6_closeLane_12 : decode cX6_closeLane 12 = .ok (.iconst 0, 1) := by decide +kernel
theorem dX6_closeLane_13 : decode cX6_closeLane 13 = .ok (.istore 4, 2) := by decide +kernel
theorem dX6_closeLane_15 : decode cX6_closeLane 15 = .ok (.iload 4, 2) := by decide +kernel
theorem dX6_closeLane_17 : decode cX6_closeLane 17 = .ok (.aload_n 3, 1) := by decide +kernel
theorem dX6_closeLane_18 : decode cX6_closeLane 18 = .ok (.getfield 165, 3) := by decide +kernel
theorem dX6_closeLane_21 : decode cX6_closeLane 21 = .ok (.if_icmp .ge 37, 3) := by decide +kernel
theorem dX6_closeLane_24 : decode cX6_closeLane 24 = .ok (.aload_n 0, 1) := by decide +kernel
theorem dX6_closeLane_25 : decode cX6_closeLane 25 = .ok (.aload_n 3, 1) := by decide +kernel
theorem dX6_closeLane_26 : decode cX6_closeLane 26 = .ok (.iload 4, 2) := by decide +kernel
theorem dX6_closeLane_28 : decode cX6_closeLane 28 = .ok (.invokevirtual 191, 3) := by decide +kernel
theorem dX6_closeLane_31 : decode cX6_closeLane 31 = .ok (.invokevirtual 197, 3) := by decide +kernel
theorem dX6_closeLane_34 : decode cX6_closeLane 34 = .ok (.astore 5, 2) := by decide +kernel
theorem dX6_closeLane_36 : decode cX6_closeLane 36 = .ok (.aload 5, 2) := by decide +kernel
theorem dX6_closeLane_38 : decode cX6_closeLane 38 = .ok (.ifnull 14, 3) := by decide +kernel
theorem dX6_closeLane_41 : decode cX6_closeLane 41 = .ok (.aload 5, 2) := by decide +kernel
theorem dX6_closeLane_43 : decode cX6_closeLane 43 = .ok (.dup, 1) := by decide +kernel
theorem dX6_closeLane_44 : decode cX6_closeLane 44 = .ok (.getfield 205, 3) := by decide +kernel
theorem dX6_closeLane_47 : decode cX6_closeLane 47 = .ok (.iconst 1, 1) := by decide +kernel
theorem dX6_closeLane_48 : decode cX6_closeLane 48 = .ok (.isub, 1) := by decide +kernel
theorem dX6_closeLane_49 : decode cX6_closeLane 49 = .ok (.putfield 205, 3) := by decide +kernel
theorem dX6_closeLane_52 : decode cX6_closeLane 52 = .ok (.iinc 4 1, 3) := by decide +kernel
theorem dX6_closeLane_55 : decode cX6_closeLane 55 = .ok (.goto (-40), 3) := by decide +kernel
theorem dX6_closeLane_58 : decode cX6_closeLane 58 = .ok (.aload_n 3, 1) := by decide +kernel
theorem dX6_closeLane_59 : decode cX6_closeLane 59 = .ok (.invokevirtual 235, 3) := by decide +kernel
theorem dX6_closeLane_62 : decode cX6_closeLane 62 = .ok (.aload_n 0, 1) := by decide +kernel
theorem dX6_closeLane_63 : decode cX6_closeLane 63 = .ok (.getfield 32, 3) := by decide +kernel
theorem dX6_closeLane_66 : decode cX6_closeLane 66 = .ok (.aload_n 3, 1) := by decide +kernel
theorem dX6_closeLane_67 : decode cX6_closeLane 67 = .ok (.invokevirtual 104, 3) := by decide +kernel
theorem dX6_closeLane_70 : decode cX6_closeLane 70 = .ok (.pop, 1) := by decide +kernel
theorem dX6_closeLane_71 : decode cX6_closeLane 71 = .ok (.aload_n 0, 1) := by decide +kernel
theorem dX6_closeLane_72 : decode cX6_closeLane 72 = .ok (.getfield 28, 3) := by decide +kernel
theorem dX6_closeLane_75 : decode cX6_closeLane 75 = .ok (.iload_n 1, 1) := by decide +kernel
theorem dX6_closeLane_76 : decode cX6_closeLane 76 = .ok (.bipush 12, 2) := by decide +kernel
theorem dX6_closeLane_78 : decode cX6_closeLane 78 = .ok (.imul, 1) := by decide +kernel
theorem dX6_closeLane_79 : decode cX6_closeLane 79 = .ok (.iload_n 2, 1) := by decide +kernel
theorem dX6_closeLane_80 : decode cX6_closeLane 80 = .ok (.iadd, 1) := by decide +kernel
theorem dX6_closeLane_81 : decode cX6_closeLane 81 = .ok (.aconst_null, 1) := by decide +kernel
theorem dX6_closeLane_82 : decode cX6_closeLane 82 = .ok (.aastore, 1) := by decide +kernel
theorem dX6_closeLane_83 : decode cX6_closeLane 83 = .ok (.aload_n 0, 1) := by decide +kernel
theorem dX6_closeLane_84 : decode cX6_closeLane 84 = .ok (.getfield 22, 3) := by decide +kernel
theorem dX6_closeLane_87 : decode cX6_closeLane 87 = .ok (.iload_n 1, 1) := by decide +kernel
theorem dX6_closeLane_88 : decode cX6_closeLane 88 = .ok (.dup2, 1) := by decide +kernel
theorem dX6_closeLane_89 : decode cX6_closeLane 89 = .ok (.iaload, 1) := by decide +kernel
theorem dX6_closeLane_90 : decode cX6_closeLane 90 = .ok (.iconst 1, 1) := by decide +kernel
theorem dX6_closeLane_91 : decode cX6_closeLane 91 = .ok (.iload_n 2, 1) := by decide +kernel
theorem dX6_closeLane_92 : decode cX6_closeLane 92 = .ok (.ishl, 1) := by decide +kernel
theorem dX6_closeLane_93 : decode cX6_closeLane 93 = .ok (.iconst (-1), 1) := by decide +kernel
theorem dX6_closeLane_94 : decode cX6_closeLane 94 = .ok (.ixor, 1) := by decide +kernel
theorem dX6_closeLane_95 : decode cX6_closeLane 95 = .ok (.iand, 1) := by decide +kernel
theorem dX6_closeLane_96 : decode cX6_closeLane 96 = .ok (.iastore, 1) := by decide +kernel
theorem dX6_closeLane_97 : decode cX6_closeLane 97 = .ok (.return_, 1) := by decide +kernel
def B_WR_closeLane_58 (mc ms : Nat) (Rt : Option zAV → zMp → Prop) (g : Nat → zKT) : zKT :=
  (i_al 3 (i_callV mc ms 2 1 T_Lane_clear co_Lane_clear (i_al 0 (i_gf 7 5 (i_al 3 (i_callV mc ms 0 2 T_AL_add2 co_AL_add2 (i_pop (i_al 0 (i_gf 7 4 (i_il 1 (i_ic 12 (i_imul (i_il 2 (i_iadd (i_nul (i_aas "WishRoutes$Lane" (i_al 0 (i_gf 7 3 (i_il 1 (i_dup2 (i_ial (i_ic 1 (i_il 2 (i_ishl (i_ic (-1) (i_ixor (i_iand (i_ias (i_vret mc ms Rt)))))))))))))))))))))))))))))
set_option maxRecDepth 20000 in
theorem s_WR_closeLane_58 {X : zMa} {mc ms : Nat} {Rt : Option zAV → zMp → Prop} (hC : zCx X RX6 cX6_closeLane 7 171 mc ms (none) false Rt) (hN : zNL X = 6) : zLe (B_WR_closeLane_58 mc ms Rt (zG X)) (zG X 58) :=
  (sd_al_n hC rfl dX6_closeLane_58 ((sd_cV hC c_Lane_clear yv_Lane_clear (ci := 2) rfl rfl ml_WR_235 (by decide) (by decide) dX6_closeLane_59 ((sd_al_n hC rfl dX6_closeLane_62 ((sd_gf hC (ci := 7) (fk := 5) rfl wi_WR (by decide) fl_WR_32 (Or.inl rfl) dX6_closeLane_63 ((sd_al_n hC rfl dX6_closeLane_66 ((sd_cV hC c_AL_add2 yv_AL_add2 (ci := 0) rfl rfl ml_WR_104 (by decide) (by decide) dX6_closeLane_67 ((sd_pop hC dX6_closeLane_70 ((sd_al_n hC rfl dX6_closeLane_71 ((sd_gf hC (ci := 7) (fk := 4) rfl wi_WR (by decide) fl_WR_28 (Or.inl rfl) dX6_closeLane_72 ((sd_il_n hC rfl dX6_closeLane_75 ((sd_bipush hC (by decide) dX6_closeLane_76 ((sd_imul hC dX6_closeLane_78 ((sd_il_n hC rfl dX6_closeLane_79 ((sd_iadd hC dX6_closeLane_80 ((sd_nul hC dX6_closeLane_81 ((sd_aas hC dX6_closeLane_82 ((sd_al_n hC rfl dX6_closeLane_83 ((sd_gf hC (ci := 7) (fk := 3) rfl wi_WR (by decide) fl_WR_22 (Or.inl rfl) dX6_closeLane_84 ((sd_il_n hC rfl dX6_closeLane_87 ((sd_dup2 hC dX6_closeLane_88 ((sd_ial hC dX6_closeLane_89 ((sd_iconst hC (by decide) dX6_closeLane_90 ((sd_il_n hC rfl dX6_closeLane_91 ((sd_ishl hC dX6_closeLane_92 ((sd_iconst hC (by decide) dX6_closeLane_93 ((sd_ixor hC dX6_closeLane_94 ((sd_iand hC dX6_closeLane_95 ((sd_ias hC dX6_closeLane_96 ((sd_vret hC dX6_closeLane_97)))))))))))))))))))))))))))))))))))))))))))))))))))))))))
def B_WR_closeLane_52 (mc ms : Nat) (Rt : Option zAV → zMp → Prop) (g : Nat → zKT) : zKT :=
  (i_inc 4 1 (g 15))
set_option maxRecDepth 20000 in
theorem s_WR_closeLane_52 {X : zMa} {mc ms : Nat} {Rt : Option zAV → zMp → Prop} (hC : zCx X RX6 cX6_closeLane 7 171 mc ms (none) false Rt) (hN : zNL X = 6) : zLe (B_WR_closeLane_52 mc ms Rt (zG X)) (zG X 52) :=
  (sd_inc hC (by decide) (by rw [hN]; decide) dX6_closeLane_52 ((sd_goto hC (tgt := 15) (by decide) dX6_closeLane_55 (zLe_rfl))))
def B_WR_closeLane_15 (mc ms : Nat) (Rt : Option zAV → zMp → Prop) (g : Nat → zKT) : zKT :=
  (i_il 4 (i_al 3 (i_gf 2 2 (i_icge (B_WR_closeLane_58 mc ms Rt g) (i_al 0 (i_al 3 (i_il 4 (i_callV mc ms 2 2 T_Lane_itemAt co_Lane_itemAt (i_callV mc ms 7 2 T_WR_findNotice co_WR_findNotice (i_as 5 (i_al 5 (i_ifn (B_WR_closeLane_52 mc ms Rt g) (i_al 5 (i_dup (i_gf 3 3 (i_ic 1 (i_isub (i_pf 3 3 .int (B_WR_closeLane_52 mc ms Rt g)))))))))))))))))))
set_option maxRecDepth 20000 in
theorem s_WR_closeLane_15 {X : zMa} {mc ms : Nat} {Rt : Option zAV → zMp → Prop} (hC : zCx X RX6 cX6_closeLane 7 171 mc ms (none) false Rt) (hN : zNL X = 6) : zLe (B_WR_closeLane_15 mc ms Rt (zG X)) (zG X 15) :=
  (sd_il hC dX6_closeLane_15 ((sd_al_n hC rfl dX6_closeLane_17 ((sd_gf hC (ci := 2) (fk := 2) rfl wi_Lane (by decide) fl_WR_165 (Or.inl rfl) dX6_closeLane_18 ((sd_icge hC (tgt := 58) (by decide) dX6_closeLane_21 (s_WR_closeLane_58 hC hN) ((sd_al_n hC rfl dX6_closeLane_24 ((sd_al_n hC rfl dX6_closeLane_25 ((sd_il hC dX6_closeLane_26 ((sd_cV hC c_Lane_itemAt yv_Lane_itemAt (ci := 2) rfl rfl ml_WR_191 (by decide) (by decide) dX6_closeLane_28 ((sd_cV hC c_WR_findNotice yv_WR_findNotice (ci := 7) rfl rfl ml_WR_197 (by decide) (by decide) dX6_closeLane_31 ((sd_as hC (by rw [hN]; decide) dX6_closeLane_34 ((sd_al hC dX6_closeLane_36 ((sd_ifnull hC (tgt := 52) (by decide) dX6_closeLane_38 (s_WR_closeLane_52 hC hN) ((sd_al hC dX6_closeLane_41 ((sd_dup hC dX6_closeLane_43 ((sd_gf hC (ci := 3) (fk := 3) rfl wi_Not (by decide) fl_WR_205 (Or.inl rfl) dX6_closeLane_44 ((sd_iconst hC (by decide) dX6_closeLane_47 ((sd_isub hC dX6_closeLane_48 ((sd_pf hC (ci := 3) (fk := 3) rfl wi_Not tyX2 tyX2_ok nmX2 (by decide) fl_WR_205 (Or.inl rfl) (Or.inl rfl) dX6_closeLane_49 (s_WR_closeLane_52 hC hN))))))))))))))))))))))))))))))))))))
def B_WR_closeLane_12 (mc ms : Nat) (Rt : Option zAV → zMp → Prop) (g : Nat → zKT) : zKT :=
  (i_ic 0 (i_is 4 (g 15)))
set_option maxRecDepth 20000 in
theorem s_WR_closeLane_12 {X : zMa} {mc ms : Nat} {Rt : Option zAV → zMp → Prop} (hC : zCx X RX6 cX6_closeLane 7 171 mc ms (none) false Rt) (hN : zNL X = 6) : zLe (B_WR_closeLane_12 mc ms Rt (zG X)) (zG X 12) :=
  (sd_iconst hC (by decide) dX6_closeLane_12 ((sd_is hC (by rw [hN]; decide) dX6_closeLane_13 (zLe_rfl))))
def B_WR_closeLane_0 (mc ms : Nat) (Rt : Option zAV → zMp → Prop) (g : Nat → zKT) : zKT :=
  (i_al 0 (i_il 1 (i_il 2 (i_callV mc ms 7 3 T_WR_laneFrom co_WR_laneFrom (i_as 3 (i_al 3 (i_ifn (i_vret mc ms Rt) (B_WR_closeLane_12 mc ms Rt g))))))))
set_option maxRecDepth 20000 in
theorem s_WR_closeLane_0 {X : zMa} {mc ms : Nat} {Rt : Option zAV → zMp → Prop} (hC : zCx X RX6 cX6_closeLane 7 171 mc ms (none) false Rt) (hN : zNL X = 6) : zLe (B_WR_closeLane_0 mc ms Rt (zG X)) (zG X 0) :=
  (sd_al_n hC rfl dX6_closeLane_0 ((sd_il_n hC rfl dX6_closeLane_1 ((sd_il_n hC rfl dX6_closeLane_2 ((sd_cV hC c_WR_laneFrom yv_WR_laneFrom (ci := 7) rfl rfl ml_WR_89 (by decide) (by decide) dX6_closeLane_3 ((sd_as_n hC rfl (by rw [hN]; decide) dX6_closeLane_6 ((sd_al_n hC rfl dX6_closeLane_7 ((sd_ifnonnull hC (tgt := 12) (by decide) dX6_closeLane_8 (s_WR_closeLane_12 hC hN) ((sd_vret hC dX6_closeLane_11)))))))))))))))
theorem c_WR_closeLane (l : Launch) : zCT l yX6_closeLane cX6_closeLane 6 (none) 7 171 T_WR_closeLane co_WR_closeLane := by
  intro As M Rt hT
  obtain ⟨x, u, v, rfl, rfl, hI, hu, hv, hns, hR⟩ := hT
  have hlim := hI.lim
  refine zMet_of false (by decide +kernel) (fun h => by first | rfl | cases h) (Nat.le_of_ble_eq_true rfl) (fun X hN hC => ?_)
  show zG X 0 [some (.inr (0, 0, 0)), some (.inl (.int (nI u))), some (.inl (.int (nI v))), none, none, none] [] (pic x) 0 0
  have e : nI u * 12 + nI v = nI (12 * u + v) := by
    rw [show (12 : Int32) = nI 12 from rfl, pk_mul, nI_add]
    congr 1
    omega
  refine s_WR_closeLane_0 hC hN _ _ _ _ _ ?_
  simp only [B_WR_closeLane_0, B_WR_closeLane_12, B_WR_closeLane_15, B_WR_closeLane_52, B_WR_closeLane_58, co_AL_add2, co_Lane_clear, co_Lane_itemAt, co_WR_closeLane, co_WR_findNotice, co_WR_laneFrom, i_ic, i_lc, i_nul, i_il, i_ll, i_al, i_is, i_as, i_ls, i_inc, i_iadd, i_isub, i_imul, i_iand, i_ior, i_ixor, i_idiv, i_irem, i_ishl, i_ishr, i_ladd, i_lsub, i_land, i_lor, i_i2l, i_lushr, i_lshl, i_lshr, i_lcmp, i_dup, i_pop, i_dx1, i_dup2, i_ifeq, i_ifne, i_iflt, i_ifge, i_ifgt, i_ifle, i_iceq, i_icne, i_iclt, i_icge, i_icgt, i_icle, i_ifn, i_gf, i_pf, i_ial, i_bal, i_lal, i_aal, i_ias, i_las, i_bas, i_aas, i_alen, i_newa, i_new, i_anew, i_cast, i_oi, i_call, i_callV, i_callV2, i_callI, i_iret, i_zret, i_lret, i_vret, i_aret, i_mmx, i_mmn, i_gsE, i_aceq, i_no, i_acq, i_sw, zsw, zlg, zls, znl, zfg, zcs, zsp, zrc, zisn, zft, zc1, zto, Value.category, List.set_cons_zero, List.set_cons_succ, List.length_cons, List.length_nil, Option.toList, List.append, List.nil_append, List.cons_append, true_and, and_true, Nat.add_zero, Nat.zero_le, Nat.zero_add, Nat.le_refl, Nat.reduceAdd, Nat.reduceLeDiff, co0, z0, zn_0, zn_1, zn_2, zn_3, zn_4, zn_5, zn_8, zn_12, zn_24, zn_121, zn_144, zn_256, zn_300, zn_600, zn_720, zn_1204, zn_1280, zn_2400, zn_4816, zn_14400, zn_90000, p_main, x_main]
  refine ⟨x, nI u, nI v, rfl, rfl, hI.dk, ?_⟩
  unfold cl at hR
  rcases lnF_c hI (nI u) (nI v) with e0 | ⟨q, e0, hok⟩
  · rw [e0] at hR ⊢
    simp only [zln, Option.map_none, zov, i_ic, i_lc, i_nul, i_il, i_ll, i_al, i_is, i_as, i_ls, i_inc, i_iadd, i_isub, i_imul, i_iand, i_ior, i_ixor, i_idiv, i_irem, i_ishl, i_ishr, i_ladd, i_lsub, i_land, i_lor, i_i2l, i_lushr, i_lshl, i_lshr, i_lcmp, i_dup, i_pop, i_dx1, i_dup2, i_ifeq, i_ifne, i_iflt, i_ifge, i_ifgt, i_ifle, i_iceq, i_icne, i_iclt, i_icge, i_icgt, i_icle, i_ifn, i_gf, i_pf, i_ial, i_bal, i_lal, i_aal, i_ias, i_las, i_bas, i_aas, i_alen, i_newa, i_new, i_anew, i_cast, i_oi, i_call, i_callV, i_callV2, i_callI, i_iret, i_zret, i_lret, i_vret, i_aret, i_mmx, i_mmn, i_gsE, i_aceq, i_no, i_acq, i_sw, zsw, zlg, zls, znl, zfg, zcs, zsp, zrc, zisn, zft, zc1, zto, Value.category, List.set_cons_zero, List.set_cons_succ, List.length_cons, List.length_nil, Option.toList, List.append, List.nil_append, List.cons_append, true_and, and_true, Nat.add_zero, Nat.zero_le, Nat.zero_add, Nat.le_refl, Nat.reduceAdd, Nat.reduceLeDiff, co0, z0, zn_0, zn_1, zn_2, zn_3, zn_4, zn_5, zn_8, zn_12, zn_24, zn_121, zn_144, zn_256, zn_300, zn_600, zn_720, zn_1204, zn_1280, zn_2400, zn_4816, zn_14400, zn_90000]
    exact hR
  rw [e0] at hR ⊢
  simp only [zln, Option.map_some, zov, i_ic, i_lc, i_nul, i_il, i_ll, i_al, i_is, i_as, i_ls, i_inc, i_iadd, i_isub, i_imul, i_iand, i_ior, i_ixor, i_idiv, i_irem, i_ishl, i_ishr, i_ladd, i_lsub, i_land, i_lor, i_i2l, i_lushr, i_lshl, i_lshr, i_lcmp, i_dup, i_pop, i_dx1, i_dup2, i_ifeq, i_ifne, i_iflt, i_ifge, i_ifgt, i_ifle, i_iceq, i_icne, i_iclt, i_icge, i_icgt, i_icle, i_ifn, i_gf, i_pf, i_ial, i_bal, i_lal, i_aal, i_ias, i_las, i_bas, i_aas, i_alen, i_newa, i_new, i_anew, i_cast, i_oi, i_call, i_callV, i_callV2, i_callI, i_iret, i_zret, i_lret, i_vret, i_aret, i_mmx, i_mmn, i_gsE, i_aceq, i_no, i_acq, i_sw, zsw, zlg, zls, znl, zfg, zcs, zsp, zrc, zisn, zft, zc1, zto, Value.category, List.set_cons_zero, List.set_cons_succ, List.length_cons, List.length_nil, Option.toList, List.append, List.nil_append, List.cons_append, true_and, and_true, Nat.add_zero, Nat.zero_le, Nat.zero_add, Nat.le_refl, Nat.reduceAdd, Nat.reduceLeDiff, co0, z0, zn_0, zn_1, zn_2, zn_3, zn_4, zn_5, zn_8, zn_12, zn_24, zn_121, zn_144, zn_256, zn_300, zn_600, zn_720, zn_1204, zn_1280, zn_2400, zn_4816, zn_14400, zn_90000]
  have hR : Rt none (pic (cl_2 x q u v)) := hR
  have loop := upto (N := x_lz x q) (P := fun i => ∀ j5 : Option zAV, zG X 15 [some (.inr (0, 0, 0)), some (.inl (.int (nI u))), some (.inl (.int (nI v))), some (.inr (16, q, 0)), some (.inl (.int (nI i))), j5] [] (pic (cl_n x q i)) 0 0) (fun i hi ih j5 => by
    have hIy : Iv (cl_n x q i) := Iv_cl hI
    obtain ⟨f, ef⟩ := cl_k x q i
    have hly : ln_ok (cl_n x q i) q := by rw [ef]; exact hok
    have hzy : x_lz (cl_n x q i) = x_lz x := by rw [ef]; rfl
    have hz121 := hok.2.1
    clear ef
    simp only [cl_n] at ih
    generalize cl_n x q i = y at ih hIy hly hzy
    have hlz : x_lz y q = x_lz x q := by rw [hzy]
    refine s_WR_closeLane_15 hC hN _ _ _ _ _ ?_
    simp only [B_WR_closeLane_0, B_WR_closeLane_12, B_WR_closeLane_15, B_WR_closeLane_52, B_WR_closeLane_58, co_AL_add2, co_Lane_clear, co_Lane_itemAt, co_WR_closeLane, co_WR_findNotice, co_WR_laneFrom, i_ic, i_lc, i_nul, i_il, i_ll, i_al, i_is, i_as, i_ls, i_inc, i_iadd, i_isub, i_imul, i_iand, i_ior, i_ixor, i_idiv, i_irem, i_ishl, i_ishr, i_ladd, i_lsub, i_land, i_lor, i_i2l, i_lushr, i_lshl, i_lshr, i_lcmp, i_dup, i_pop, i_dx1, i_dup2, i_ifeq, i_ifne, i_iflt, i_ifge, i_ifgt, i_ifle, i_iceq, i_icne, i_iclt, i_icge, i_icgt, i_icle, i_ifn, i_gf, i_pf, i_ial, i_bal, i_lal, i_aal, i_ias, i_las, i_bas, i_aas, i_alen, i_newa, i_new, i_anew, i_cast, i_oi, i_call, i_callV, i_callV2, i_callI, i_iret, i_zret, i_lret, i_vret, i_aret, i_mmx, i_mmn, i_gsE, i_aceq, i_no, i_acq, i_sw, zsw, zlg, zls, znl, zfg, zcs, zsp, zrc, zisn, zft, zc1, zto, Value.category, List.set_cons_zero, List.set_cons_succ, List.length_cons, List.length_nil, Option.toList, List.append, List.nil_append, List.cons_append, true_and, and_true, Nat.add_zero, Nat.zero_le, Nat.zero_add, Nat.le_refl, Nat.reduceAdd, Nat.reduceLeDiff, co0, z0, zn_0, zn_1, zn_2, zn_3, zn_4, zn_5, zn_8, zn_12, zn_24, zn_121, zn_144, zn_256, zn_300, zn_600, zn_720, zn_1204, zn_1280, zn_2400, zn_4816, zn_14400, zn_90000, p_main, x_main, p_lane hly.1, x_lane]
    rw [hlz]
    refine ⟨fun h => absurd ((zK (K := x_lz x q) (by omega) (n := i) (by omega)).2.1.mp h) (by omega), fun _ => ⟨y, q, nI i, rfl, rfl, hly, ?_⟩⟩
    have hit : la_item y q (nI i) = la_at y q i := by
      unfold la_item
      rw [if_pos ⟨nI_pos (by omega), nI_lt (by omega) (by omega)⟩, nI_clamp (by omega)]
    rw [hit]
    simp only [p_main, x_main, i_ic, i_lc, i_nul, i_il, i_ll, i_al, i_is, i_as, i_ls, i_inc, i_iadd, i_isub, i_imul, i_iand, i_ior, i_ixor, i_idiv, i_irem, i_ishl, i_ishr, i_ladd, i_lsub, i_land, i_lor, i_i2l, i_lushr, i_lshl, i_lshr, i_lcmp, i_dup, i_pop, i_dx1, i_dup2, i_ifeq, i_ifne, i_iflt, i_ifge, i_ifgt, i_ifle, i_iceq, i_icne, i_iclt, i_icge, i_icgt, i_icle, i_ifn, i_gf, i_pf, i_ial, i_bal, i_lal, i_aal, i_ias, i_las, i_bas, i_aas, i_alen, i_newa, i_new, i_anew, i_cast, i_oi, i_call, i_callV, i_callV2, i_callI, i_iret, i_zret, i_lret, i_vret, i_aret, i_mmx, i_mmn, i_gsE, i_aceq, i_no, i_acq, i_sw, zsw, zlg, zls, znl, zfg, zcs, zsp, zrc, zisn, zft, zc1, zto, Value.category, List.set_cons_zero, List.set_cons_succ, List.length_cons, List.length_nil, Option.toList, List.append, List.nil_append, List.cons_append, true_and, and_true, Nat.add_zero, Nat.zero_le, Nat.zero_add, Nat.le_refl, Nat.reduceAdd, Nat.reduceLeDiff, co0, z0, zn_0, zn_1, zn_2, zn_3, zn_4, zn_5, zn_8, zn_12, zn_24, zn_121, zn_144, zn_256, zn_300, zn_600, zn_720, zn_1204, zn_1280, zn_2400, zn_4816, zn_14400, zn_90000]
    refine ⟨y, _, rfl, rfl, hIy, ?_⟩
    unfold cl_s at ih
    rcases fnd_c (K := 12) (n := x_nn y) (by have := hIy.lim; omega) (la_at y q i) with ⟨e1, e2⟩ | ⟨k, hk, e1, e3, e2⟩
    · rw [e1]
      rw [e2] at ih
      simp only [zov, i_ic, i_lc, i_nul, i_il, i_ll, i_al, i_is, i_as, i_ls, i_inc, i_iadd, i_isub, i_imul, i_iand, i_ior, i_ixor, i_idiv, i_irem, i_ishl, i_ishr, i_ladd, i_lsub, i_land, i_lor, i_i2l, i_lushr, i_lshl, i_lshr, i_lcmp, i_dup, i_pop, i_dx1, i_dup2, i_ifeq, i_ifne, i_iflt, i_ifge, i_ifgt, i_ifle, i_iceq, i_icne, i_iclt, i_icge, i_icgt, i_icle, i_ifn, i_gf, i_pf, i_ial, i_bal, i_lal, i_aal, i_ias, i_las, i_bas, i_aas, i_alen, i_newa, i_new, i_anew, i_cast, i_oi, i_call, i_callV, i_callV2, i_callI, i_iret, i_zret, i_lret, i_vret, i_aret, i_mmx, i_mmn, i_gsE, i_aceq, i_no, i_acq, i_sw, zsw, zlg, zls, znl, zfg, zcs, zsp, zrc, zisn, zft, zc1, zto, Value.category, List.set_cons_zero, List.set_cons_succ, List.length_cons, List.length_nil, Option.toList, List.append, List.nil_append, List.cons_append, true_and, and_true, Nat.add_zero, Nat.zero_le, Nat.zero_add, Nat.le_refl, Nat.reduceAdd, Nat.reduceLeDiff, co0, z0, zn_0, zn_1, zn_2, zn_3, zn_4, zn_5, zn_8, zn_12, zn_24, zn_121, zn_144, zn_256, zn_300, zn_600, zn_720, zn_1204, zn_1280, zn_2400, zn_4816, zn_14400, zn_90000]
      rw [nI_1]
      exact ih _
    · rw [e3]
      rw [e2, if_pos rfl, e1, nI_clamp (by have := hIy.lim; omega)] at ih
      have hk' : k < x_on y := Nat.lt_of_lt_of_le hk hIy.cnt.2.2
      simp only [zov, p_ntc hk', x_ntc, i_ic, i_lc, i_nul, i_il, i_ll, i_al, i_is, i_as, i_ls, i_inc, i_iadd, i_isub, i_imul, i_iand, i_ior, i_ixor, i_idiv, i_irem, i_ishl, i_ishr, i_ladd, i_lsub, i_land, i_lor, i_i2l, i_lushr, i_lshl, i_lshr, i_lcmp, i_dup, i_pop, i_dx1, i_dup2, i_ifeq, i_ifne, i_iflt, i_ifge, i_ifgt, i_ifle, i_iceq, i_icne, i_iclt, i_icge, i_icgt, i_icle, i_ifn, i_gf, i_pf, i_ial, i_bal, i_lal, i_aal, i_ias, i_las, i_bas, i_aas, i_alen, i_newa, i_new, i_anew, i_cast, i_oi, i_call, i_callV, i_callV2, i_callI, i_iret, i_zret, i_lret, i_vret, i_aret, i_mmx, i_mmn, i_gsE, i_aceq, i_no, i_acq, i_sw, zsw, zlg, zls, znl, zfg, zcs, zsp, zrc, zisn, zft, zc1, zto, Value.category, List.set_cons_zero, List.set_cons_succ, List.length_cons, List.length_nil, Option.toList, List.append, List.nil_append, List.cons_append, true_and, and_true, Nat.add_zero, Nat.zero_le, Nat.zero_add, Nat.le_refl, Nat.reduceAdd, Nat.reduceLeDiff, co0, z0, zn_0, zn_1, zn_2, zn_3, zn_4, zn_5, zn_8, zn_12, zn_24, zn_121, zn_144, zn_256, zn_300, zn_600, zn_720, zn_1204, zn_1280, zn_2400, zn_4816, zn_14400, zn_90000]
      rw [nI_1 i]
      refine ⟨m_k (by decide), by decide, ?_⟩
      have e4 := pu_nm y k (x_nm y k - 1) hk'
      simp only [x_ntc, g_dk_nm, g_lk_nm, g_po_nm, g_ne_nm, g_td_nm, g_nb_nm, g_ln_nm, g_nr_nm, g_nw_nm, g_nn_nm, g_ns_nm, g_or_nm, g_ow_nm, g_on_nm, g_nl_nm, g_ng_nm, g_rg_nm, g_lc_nm, g_cp_nm, g_gb_nm, g_sp_nm, g_kn_nm, g_me_nm, g_ob_nm, g_fk_nm, g_fz_nm, g_fg_nm, g_rd_nm, g_rz_nm, g_rh_nm, g_nd_nm, g_nm_nm, g_nv_nm, g_nh_nm, g_nf_nm, g_wr_nm, g_wa_nm, g_lz_nm, g_lf_nm, g_li_nm, g_lt_nm, g_lb_nm, g_lr_nm, g_tn_nm, g_tf_nm, va_up, if_true] at e4
      rw [e4]
      exact ih _) (fun j5 => by
    have hIy : Iv (cl_n x q (x_lz x q)) := Iv_cl hI
    obtain ⟨f, ef⟩ := cl_k x q (x_lz x q)
    have hly : ln_ok (cl_n x q (x_lz x q)) q := by rw [ef]; exact hok
    have hzy : x_lz (cl_n x q (x_lz x q)) = x_lz x := by rw [ef]; rfl
    have hny : x_ns (cl_n x q (x_lz x q)) = x_ns x := by rw [ef]; rfl
    have hz121 := hok.2.1
    clear ef
    have hln := cl_1k x q
    have hnl1 := Iv_cl1 hI hok.1 hns
    unfold cl_2 at hR
    unfold cl_1 at hR hln hnl1
    generalize cl_n x q (x_lz x q) = y at hR hIy hly hzy hny hln hnl1
    have hlz : x_lz y q = x_lz x q := by rw [hzy]
    refine s_WR_closeLane_15 hC hN _ _ _ _ _ ?_
    simp only [B_WR_closeLane_0, B_WR_closeLane_12, B_WR_closeLane_15, B_WR_closeLane_52, B_WR_closeLane_58, co_AL_add2, co_Lane_clear, co_Lane_itemAt, co_WR_closeLane, co_WR_findNotice, co_WR_laneFrom, i_ic, i_lc, i_nul, i_il, i_ll, i_al, i_is, i_as, i_ls, i_inc, i_iadd, i_isub, i_imul, i_iand, i_ior, i_ixor, i_idiv, i_irem, i_ishl, i_ishr, i_ladd, i_lsub, i_land, i_lor, i_i2l, i_lushr, i_lshl, i_lshr, i_lcmp, i_dup, i_pop, i_dx1, i_dup2, i_ifeq, i_ifne, i_iflt, i_ifge, i_ifgt, i_ifle, i_iceq, i_icne, i_iclt, i_icge, i_icgt, i_icle, i_ifn, i_gf, i_pf, i_ial, i_bal, i_lal, i_aal, i_ias, i_las, i_bas, i_aas, i_alen, i_newa, i_new, i_anew, i_cast, i_oi, i_call, i_callV, i_callV2, i_callI, i_iret, i_zret, i_lret, i_vret, i_aret, i_mmx, i_mmn, i_gsE, i_aceq, i_no, i_acq, i_sw, zsw, zlg, zls, znl, zfg, zcs, zsp, zrc, zisn, zft, zc1, zto, Value.category, List.set_cons_zero, List.set_cons_succ, List.length_cons, List.length_nil, Option.toList, List.append, List.nil_append, List.cons_append, true_and, and_true, Nat.add_zero, Nat.zero_le, Nat.zero_add, Nat.le_refl, Nat.reduceAdd, Nat.reduceLeDiff, co0, z0, zn_0, zn_1, zn_2, zn_3, zn_4, zn_5, zn_8, zn_12, zn_24, zn_121, zn_144, zn_256, zn_300, zn_600, zn_720, zn_1204, zn_1280, zn_2400, zn_4816, zn_14400, zn_90000, p_main, x_main, p_lane hly.1, x_lane]
    rw [hlz]
    refine ⟨fun _ => ⟨y, q, rfl, rfl, hly.1, ?_⟩, fun h => absurd ((zK (K := x_lz x q) (by omega) (n := x_lz x q) (by omega)).2.1.mpr (Nat.le_refl _)) h⟩
    have hI2 : Iv (la_clear y q) := Iv_clr hIy
    have hq2 : q < x_nl (la_clear y q) := hly.1
    have hns2 : x_ns (la_clear y q) = x_ns x := hny
    generalize la_clear y q = y2 at hR hI2 hq2 hns2 hln hnl1
    simp only [p_main, x_main, p_list (i := 3) (by decide), i_ic, i_lc, i_nul, i_il, i_ll, i_al, i_is, i_as, i_ls, i_inc, i_iadd, i_isub, i_imul, i_iand, i_ior, i_ixor, i_idiv, i_irem, i_ishl, i_ishr, i_ladd, i_lsub, i_land, i_lor, i_i2l, i_lushr, i_lshl, i_lshr, i_lcmp, i_dup, i_pop, i_dx1, i_dup2, i_ifeq, i_ifne, i_iflt, i_ifge, i_ifgt, i_ifle, i_iceq, i_icne, i_iclt, i_icge, i_icgt, i_icle, i_ifn, i_gf, i_pf, i_ial, i_bal, i_lal, i_aal, i_ias, i_las, i_bas, i_aas, i_alen, i_newa, i_new, i_anew, i_cast, i_oi, i_call, i_callV, i_callV2, i_callI, i_iret, i_zret, i_lret, i_vret, i_aret, i_mmx, i_mmn, i_gsE, i_aceq, i_no, i_acq, i_sw, zsw, zlg, zls, znl, zfg, zcs, zsp, zrc, zisn, zft, zc1, zto, Value.category, List.set_cons_zero, List.set_cons_succ, List.length_cons, List.length_nil, Option.toList, List.append, List.nil_append, List.cons_append, true_and, and_true, Nat.add_zero, Nat.zero_le, Nat.zero_add, Nat.le_refl, Nat.reduceAdd, Nat.reduceLeDiff, co0, z0, zn_0, zn_1, zn_2, zn_3, zn_4, zn_5, zn_8, zn_12, zn_24, zn_121, zn_144, zn_256, zn_300, zn_600, zn_720, zn_1204, zn_1280, zn_2400, zn_4816, zn_14400, zn_90000]
    have hsz2 : x_sz y2 3 = x_ns x := hns2
    refine ls_T (x' := sp_add y2 q) (by decide) (hI2.cap 3 (by decide)) (by rw [hsz2]; omega) (hI2.gb 3) ?_ (nm_ne (by omega)) (el_ok3 hI2) (ls_spa y2 q) ?_
    · simp only [zok, p_lane hq2, x_lane]
      exact zk_Lane_Obj
    · generalize sp_add y2 q = y3 at hR hln hnl1
      simp only [p_main, x_main, p_ln, zok, zto, i_ic, i_lc, i_nul, i_il, i_ll, i_al, i_is, i_as, i_ls, i_inc, i_iadd, i_isub, i_imul, i_iand, i_ior, i_ixor, i_idiv, i_irem, i_ishl, i_ishr, i_ladd, i_lsub, i_land, i_lor, i_i2l, i_lushr, i_lshl, i_lshr, i_lcmp, i_dup, i_pop, i_dx1, i_dup2, i_ifeq, i_ifne, i_iflt, i_ifge, i_ifgt, i_ifle, i_iceq, i_icne, i_iclt, i_icge, i_icgt, i_icle, i_ifn, i_gf, i_pf, i_ial, i_bal, i_lal, i_aal, i_ias, i_las, i_bas, i_aas, i_alen, i_newa, i_new, i_anew, i_cast, i_oi, i_call, i_callV, i_callV2, i_callI, i_iret, i_zret, i_lret, i_vret, i_aret, i_mmx, i_mmn, i_gsE, i_aceq, i_no, i_acq, i_sw, zsw, zlg, zls, znl, zfg, zcs, zsp, zrc, zisn, zft, zc1, zto, Value.category, List.set_cons_zero, List.set_cons_succ, List.length_cons, List.length_nil, Option.toList, List.append, List.nil_append, List.cons_append, true_and, and_true, Nat.add_zero, Nat.zero_le, Nat.zero_add, Nat.le_refl, Nat.reduceAdd, Nat.reduceLeDiff, co0, z0, zn_0, zn_1, zn_2, zn_3, zn_4, zn_5, zn_8, zn_12, zn_24, zn_121, zn_144, zn_256, zn_300, zn_600, zn_720, zn_1204, zn_1280, zn_2400, zn_4816, zn_14400, zn_90000]
      rw [e, nI_clamp (by omega)]
      refine ⟨m_k (by decide), vp_in_nI (by omega) (by decide), ?_⟩
      have e2 := pu_ln y3 (va_up (x_ln y3) (12 * u + v) none)
      have e3 : (fun p => (va_up (x_ln y3) (12 * u + v) none p).map (fun l => ((16, l, 0) : zNm))) = va_up (fun p => (x_ln y3 p).map (fun l => ((16, l, 0) : zNm))) (12 * u + v) none := by
        funext p
        simp only [va_up]
        split <;> rfl
      rw [e3] at e2
      rw [e2]
      simp only [p_main, x_main, p_nb, i_ic, i_lc, i_nul, i_il, i_ll, i_al, i_is, i_as, i_ls, i_inc, i_iadd, i_isub, i_imul, i_iand, i_ior, i_ixor, i_idiv, i_irem, i_ishl, i_ishr, i_ladd, i_lsub, i_land, i_lor, i_i2l, i_lushr, i_lshl, i_lshr, i_lcmp, i_dup, i_pop, i_dx1, i_dup2, i_ifeq, i_ifne, i_iflt, i_ifge, i_ifgt, i_ifle, i_iceq, i_icne, i_iclt, i_icge, i_icgt, i_icle, i_ifn, i_gf, i_pf, i_ial, i_bal, i_lal, i_aal, i_ias, i_las, i_bas, i_aas, i_alen, i_newa, i_new, i_anew, i_cast, i_oi, i_call, i_callV, i_callV2, i_callI, i_iret, i_zret, i_lret, i_vret, i_aret, i_mmx, i_mmn, i_gsE, i_aceq, i_no, i_acq, i_sw, zsw, zlg, zls, znl, zfg, zcs, zsp, zrc, zisn, zft, zc1, zto, Value.category, List.set_cons_zero, List.set_cons_succ, List.length_cons, List.length_nil, Option.toList, List.append, List.nil_append, List.cons_append, true_and, and_true, Nat.add_zero, Nat.zero_le, Nat.zero_add, Nat.le_refl, Nat.reduceAdd, Nat.reduceLeDiff, co0, z0, zn_0, zn_1, zn_2, zn_3, zn_4, zn_5, zn_8, zn_12, zn_24, zn_121, zn_144, zn_256, zn_300, zn_600, zn_720, zn_1204, zn_1280, zn_2400, zn_4816, zn_14400, zn_90000]
      rw [nI_clamp (by omega)]
      refine ⟨vp_in_nI hu (by decide), m_k (by decide), vp_in_nI hu (by decide), ?_⟩
      rw [pu_nb, hln.1]
      have e5 : x_nb (u_ln y3 (va_up (x_ln x) (12 * u + v) none)) = x_nb x := hln.2.1
      rw [e5]
      exact hR) 0 (Nat.zero_le _)
  exact loop _
