/-! WishRoutes: wish -/
def nw_ws (x : zSt) (r : Nat) : zSt := u_ob (u_wa (u_wr (u_ow x (x_ow x + 1)) (va_up (x_wr x) (x_ow x) r)) (va_up (x_wa x) (x_ow x) true)) (va_up (x_ob x) (x_ow x) (fun _ => 0))
theorem pu_nws (x : zSt) (r : Nat) (e0 : zAE) : zup (zup (zup (zup (pic x) (15, x_ow x, 0) e0) (5, 1, x_ow x) (.inr (5, [.inr (6, 1, x_ow x)]))) (6, 1, x_ow x) (zlo (fun _ => 0))) (15, x_ow x, 0) (.inr (6, [.inl (.int (nI r)), .inr (10, r, 0), .inr (9, x_ow x, 0), .inr (5, 1, x_ow x), .inl (.int 1)])) = pic (nw_ws x r) := by
  have c1 : x_ow (nw_ws x r) = x_ow x + 1 := rfl
  have c2 : x_wr (nw_ws x r) = va_up (x_wr x) (x_ow x) r := rfl
  have c3 : x_wa (nw_ws x r) = va_up (x_wa x) (x_ow x) true := rfl
  have c4 : x_ob (nw_ws x r) = va_up (x_ob x) (x_ow x) (fun _ => 0) := rfl
  have hr : ∀ i j, ¬ (i = 1 ∧ j = x_ow x) → x_rw x i j = x_rw (nw_ws x r) i j := by
    intro i j h
    unfold x_rw
    by_cases h1 : i = 1
    · subst h1
      have hj : j ≠ x_ow x := fun q => h ⟨rfl, q⟩
      show (if j < x_ow x then some (x_ob x j) else none) = (if j < x_ow x + 1 then some (va_up (x_ob x) (x_ow x) (fun _ => 0) j) else none)
      rw [va_upn hj]
      by_cases hlt : j < x_ow x
      · rw [if_pos hlt, if_pos (by omega)]
      · rw [if_neg hlt, if_neg (by omega)]
    · rw [if_neg h1, if_neg h1]
      rfl
  have hn : x_rw (nw_ws x r) 1 (x_ow x) = some (fun _ => 0) := by
    rw [r_ob (by rw [c1]; omega), c4, va_ups]
  funext n
  obtain ⟨k, i, j⟩ := n
  by_cases h15 : (k, i, j) = (15, x_ow x, 0)
  · rw [h15, zup_s, p_wsh (by rw [c1]; omega), x_wsh, c2, c3, va_ups, va_ups]
    rfl
  · rw [zup_o h15]
    by_cases h6 : (k, i, j) = (6, 1, x_ow x)
    · rw [h6, zup_s, p_rowW hn]
    · rw [zup_o h6]
      by_cases h5 : (k, i, j) = (5, 1, x_ow x)
      · rw [h5, zup_s, p_rowO hn]
      · rw [zup_o h5, zup_o h15]
        rcases k with _ | _ | _ | _ | _ | _ | _ | _ | _ | _ | _ | _ | _ | _ | _ | _ | _ | _ | _ | k
        all_goals first | rfl | skip
        · show (x_rw x i j).map _ = (x_rw (nw_ws x r) i j).map _
          rw [hr i j (fun q => h5 (by rw [q.1, q.2]))]
        · show (x_rw x i j).map _ = (x_rw (nw_ws x r) i j).map _
          rw [hr i j (fun q => h6 (by rw [q.1, q.2]))]
        · refine pool (F := x_wsh x) (F' := x_wsh (nw_ws x r)) c1 (fun i hi => ?_) (fun q => h15 (by rw [q.1, q.2]))
          simp only [x_wsh, c2, c3, va_upn (Nat.ne_of_lt hi)]
def nw_ft (y : zSt) : zSt := u_fg (u_fz (u_fk (u_ng y (x_ng y + 1)) (va_up (x_fk y) (x_ng y) (fun _ => 0))) (va_up (x_fz y) (x_ng y) (fun _ => 0))) (va_up (x_fg y) (x_ng y) (fun _ _ => 0))
theorem pu_nft (y : zSt) : aw (pic y) (x_ng y) 4 = pic (nw_ft y) := by
  have c1 : x_ng (nw_ft y) = x_ng y + 1 := rfl
  have c2 : x_fk (nw_ft y) = va_up (x_fk y) (x_ng y) (fun _ => 0) := rfl
  have c3 : x_fz (nw_ft y) = va_up (x_fz y) (x_ng y) (fun _ => 0) := rfl
  have c4 : x_fg (nw_ft y) = va_up (x_fg y) (x_ng y) (fun _ _ => 0) := rfl
  funext n
  obtain ⟨k, i, j⟩ := n
  by_cases h9 : k = 9 ∧ i = x_ng y ∧ j = 0
  · obtain ⟨rfl, rfl, rfl⟩ := h9
    rw [aw_9, p_fs (by rw [c1]; omega)]
    rfl
  · by_cases h7 : k = 7 ∧ i = x_ng y ∧ j < 4
    · obtain ⟨rfl, rfl, hj⟩ := h7
      rw [aw_7 hj, p_fo (by rw [c1]; omega) hj, c2, c3, va_ups, va_ups]
    · by_cases h8 : k = 8 ∧ i = x_ng y ∧ j < 4
      · obtain ⟨rfl, rfl, hj⟩ := h8
        rw [aw_8 hj, p_fg (by rw [c1]; omega) hj, c4, va_ups]
      · rw [aw_o h9 h7 h8]
        rcases k with _ | _ | _ | _ | _ | _ | _ | _ | _ | _ | _ | _ | _ | _ | _ | _ | _ | _ | _ | k
        all_goals first | rfl | skip
        · show (if i < x_ng y ∧ j < 4 then some (zfo (x_fk y i j) (8, i, j) (x_fz y i j)) else none) = (if i < x_ng (nw_ft y) ∧ j < 4 then some (zfo (x_fk (nw_ft y) i j) (8, i, j) (x_fz (nw_ft y) i j)) else none)
          rw [c1, c2, c3]
          by_cases hj : j < 4
          · have hi : i ≠ x_ng y := fun q => h7 ⟨rfl, q, hj⟩
            rw [va_upn hi, va_upn hi]
            by_cases hlt : i < x_ng y
            · rw [if_pos ⟨hlt, hj⟩, if_pos ⟨by omega, hj⟩]
            · rw [if_neg (fun q => hlt q.1), if_neg (fun q => absurd q.1 (by omega))]
          · rw [if_neg (fun q => hj q.2), if_neg (fun q => hj q.2)]
        · show (if i < x_ng y ∧ j < 4 then some (zin 4 (x_fg y i j)) else none) = (if i < x_ng (nw_ft y) ∧ j < 4 then some (zin 4 (x_fg (nw_ft y) i j)) else none)
          rw [c1, c4]
          by_cases hj : j < 4
          · have hi : i ≠ x_ng y := fun q => h8 ⟨rfl, q, hj⟩
            rw [va_upn hi]
            by_cases hlt : i < x_ng y
            · rw [if_pos ⟨hlt, hj⟩, if_pos ⟨by omega, hj⟩]
            · rw [if_neg (fun q => hlt q.1), if_neg (fun q => absurd q.1 (by omega))]
          · rw [if_neg (fun q => hj q.2), if_neg (fun q => hj q.2)]
        · exact pool (F := fun i => zra "WishRoutes$FieldTest" 4 (x_fts i)) (F' := fun i => zra "WishRoutes$FieldTest" 4 (x_fts i)) c1 (fun _ _ => rfl) (fun q => h9 ⟨rfl, q⟩)
theorem Iv_nws {x : zSt} {r : Nat} (h : Iv x) (hr : r < x_or x) (hr2 : r < 24) (ho : x_ow x = x_rg x) : Iv (nw_ws x r) := by
  obtain ⟨h1, h2, h3, h4, h5, h6, h7, h8, h9, h10, h11⟩ := h
  refine ⟨h1, ⟨h2.1, Nat.le_succ_of_le h2.2.1, h2.2.2⟩, h3, h4, h5, h6, fun w hw => ?_, h8, h9, h10, h11⟩
  have hw : w < x_ow x + 1 := hw
  have c2 : x_wr (nw_ws x r) = va_up (x_wr x) (x_ow x) r := rfl
  rw [c2]
  by_cases hwo : w = x_ow x
  · subst hwo
    rw [va_ups]
    refine ⟨hr, hr2, ?_⟩
    rw [ho]
    exact h8
  · rw [va_upn hwo]
    exact h7 w (by omega)
theorem ft_nft {y : zSt} {w : Nat} (h : ft_ok y w) : ft_ok (nw_ft y) w := by
  refine ⟨Nat.lt_succ_of_lt h.1, fun f hf => ?_⟩
  have c3 : x_fz (nw_ft y) = va_up (x_fz y) (x_ng y) (fun _ => 0) := rfl
  rw [c3, va_upn (Nat.ne_of_lt h.1)]
  exact h.2 f hf
theorem ft_nft2 (y : zSt) : ft_ok (nw_ft y) (x_ng y) := by
  refine ⟨Nat.lt_succ_self _, fun f hf => ?_⟩
  have c3 : x_fz (nw_ft y) = va_up (x_fz y) (x_ng y) (fun _ => 0) := rfl
  rw [c3, va_ups]
  decide
theorem Iv_nft {y : zSt} (h : Iv y) : Iv (nw_ft y) := by
  obtain ⟨h1, h2, h3, h4, h5, h6, h7, h8, h9, h10, h11⟩ := h
  exact ⟨h1, h2, h3, h4, h5, h6, fun w hw => ⟨(h7 w hw).1, (h7 w hw).2.1, ft_nft (h7 w hw).2.2⟩, ft_nft h8, h9, h10, h11⟩
theorem Iv_rg {y : zSt} {g : Nat} (h : Iv y) (hg : ft_ok y g) : Iv (u_rg y g) := by
  obtain ⟨h1, h2, h3, h4, h5, h6, h7, h8, h9, h10, h11⟩ := h
  exact ⟨h1, h2, h3, h4, h5, h6, h7, hg, h9, h10, h11⟩
/-- the wish is made and weighed -/
noncomputable def wsh_1 (x : zSt) (r : Nat) : zSt := wg (u_rg (nw_ft (nw_ws x r)) (x_ng x)) (x_nw x) (x_nw x) (x_nw x)
noncomputable def wsh_x (x : zSt) (r : Nat) : zSt := u_nw (ls (wsh_1 x r) 1) (x_nw x + 1)
theorem wsh_1k (x : zSt) (r : Nat) : ∃ f, wsh_1 x r = u_ob (u_rg (nw_ft (nw_ws x r)) (x_ng x)) f := wg_k _ _ _ _
theorem Iv_wsh1 {x : zSt} {r : Nat} (h : Iq x) (hr : r < x_nr x) : Iv (wsh_1 x r) := by
  obtain ⟨hv, hq⟩ := h
  have h24 := hv.lim
  exact Iv_wg (Iv_rg (Iv_nft (Iv_nws hv (by omega) (by omega) (by omega))) (ft_nft2 (nw_ws x r))) _
theorem ls_wsh (x : zSt) (r : Nat) : ls_r (wsh_1 x r) (wsh_x x r) 1 (15, x_nw x, 0) := by
  obtain ⟨f, e⟩ := wsh_1k x r
  have e2 : wsh_x x r = u_nw (ls (u_ob (u_rg (nw_ft (nw_ws x r)) (x_ng x)) f) 1) (x_nw x + 1) := by unfold wsh_x; rw [e]
  rw [e2, e]
  refine ⟨rfl, rfl, rfl, fun j hj => ?_, fun j hj => ?_, fun k a b h1 h2 => ?_⟩
  · match j, hj with
    | 0, _ => rfl
    | 1, _ => rfl
    | 2, _ => rfl
    | 3, _ => rfl
  · match j, hj with
    | 0, _ => rfl
    | 1, _ => exact el_up 15 (x_nw x)
    | 2, _ => rfl
    | 3, _ => rfl
  · rcases k with _ | _ | _ | _ | _ | _ | _ | _ | _ | _ | _ | _ | _ | _ | _ | _ | _ | _ | _ | k
    all_goals first | rfl | exact absurd rfl h1 | exact absurd rfl h2
theorem Iq_wsh {x : zSt} {r : Nat} (h : Iq x) (hr : r < x_nr x) (hn : x_nw x < 300) : Iq (wsh_x x r) := by
  have h1 := Iv_wsh1 h hr
  obtain ⟨hv, hq⟩ := h
  obtain ⟨f, e⟩ := wsh_1k x r
  have hz : x_sz (wsh_1 x r) 1 = x_nw x := by rw [e]; rfl
  have hc := ls_cap (x := wsh_1 x r) (i := 1) (by decide) (by rw [hz]; omega) (ls_wsh x r) h1.cap h1.gb
  have e2 : wsh_x x r = u_nw (ls (u_ob (u_rg (nw_ft (nw_ws x r)) (x_ng x)) f) 1) (x_nw x + 1) := by unfold wsh_x; rw [e]
  rw [e] at h1
  rw [e2] at hc ⊢
  obtain ⟨g1, g2, g3, g4, g5, g6, g7, g8, g9, g10, g11⟩ := h1
  refine ⟨⟨g1, ⟨g2.1, ?_, g2.2.2⟩, ⟨g3.1, ?_, g3.2.2⟩, hc.1, hc.2, g6, g7, g8, g9, g10, g11⟩, hq.1, ?_, hq.2.2.1, ?_, ?_⟩
  · show x_nw x + 1 ≤ x_ow x + 1
    omega
  · show x_nw x + 1 ≤ 300
    omega
  · show x_ow x + 1 = x_nw x + 1
    omega
  · show x_ng x = x_nw x + 1
    omega
  · show x_ng x + 1 = x_nw x + 1 + 1
    omega
def T_WR_wish (As : List zAV) (M : zMp) (Rt : Option zAV → zMp → Prop) (c1 c2 : Nat) : Prop := ∃ x d, As = [.inr (0, 0, 0), .inl (.int d)] ∧ M = pic x ∧ Iq x ∧ (isn (x_nr x) d = false → Rt (some (.inl (.int (-2)))) M) ∧ (isn (x_nr x) d = true → 300 ≤ x_nw x → Rt (some (.inl (.int (-8)))) M) ∧ (∀ r, r < x_nr x → d = nI r → x_nw x < 300 → 13 + 2 * tn_c (wsh_x x r) (x_rd x r) (x_dk x) ≤ c1 ∧ 1043 + 6 * tn_c (wsh_x x r) (x_rd x r) (x_dk x) ≤ c2 ∧ Rt (some (.inl (.int (nI (x_nw x))))) (pic (tn (wsh_x x r) (x_rd x r) (x_dk x))))
theorem dX6_wish_0 : decode cX6_wish 0 = .ok (.aload_n 0, 1) := by decide +kernel
theorem dX6_wish_1 : decode cX6_wish 1 = .ok (.iload_n 1, 1) := by decide +kernel
theorem dX6_wish_2 : decode cX6_wish 2 = .ok (.invokevirtual 108, 3) := by decide +kernel
theorem dX6_wish_5 : decode cX6_wish 5 = .ok (.astore_n 2, 1) := by decide +kernel
theorem dX6_wish_6 : decode cX6_wish 6 = .ok (.aload_n 2, 1) := by decide +kernel
theorem dX6_wish_7 : decode cX6_wish 7 = .ok (.ifnonnull 6, 3) := by decide +kernel
theorem dX6_wish_10 : decode cX6_wish 10 = .ok (.bipush (-2), 2) := by decide +kernel
theorem dX6_wish_12 : decode cX6_wish 12 = .ok (.ireturn, 1) := by decide +kernel
theorem dX6_wish_13 : decode cX6_wish 13 = .ok (.aload_n 0, 1) := by decide +kernel
theorem dX6_wish_14 : decode cX6_wish 14 = .ok (.getfield 16, 3) := by decide +kernel
theorem dX6_wish_17 : decode cX6_wish 17 = .ok (.invokevirtual 96, 3) := by decide +kernel
theorem dX6_wish_20 : decode cX6_wish 20 = .ok (.sipush 300, 3) := by decide +kernel
theorem dX6_wish_23 : decode cX6_wish 23 = .ok (.if_icmp .lt 6, 3) := by decide +kernel
theorem dX6_wish_26 : decode cX6_wish 26 = .ok (.bipush (-8), 2) := by decide +kernel
theorem dX6_wish_28 : decode cX6_wish 28 = .ok (.ireturn, 1) := by decide +kernel
theorem dX6_wish_29 : decode cX6_wish 29 = .ok (.new 127, 3) := by decide +kernel
theorem dX6_wish_32 : decode cX6_wish 32 = .ok (.dup, 1) := by decide +kernel
theorem dX6_wish_33 : decode cX6_wish 33 = .ok (.iload_n 1, 1) := by decide +kernel
theorem dX6_wish_34 : decode cX6_wish 34 = .ok (.aload_n 2, 1) := by decide +kernel
theorem dX6_wish_35 : decode cX6_wish 35 = .ok (.aload_n 0, 1) := by decide +kernel
theorem dX6_wish_36 : decode cX6_wish 36 = .ok (.getfield 49, 3) := by decide +kernel
theorem dX6_wish_39 : decode cX6_wish 39 = .ok (.invokespecial 129, 3) := by decide +kernel
theorem dX6_wish_42 : decode cX6_wish 42 = .ok (.astore_n 3, 1) := by decide +kernel
theorem dX6_wish_43 : decode cX6_wish 43 = .ok (.aload_n 0, 1) := by decide +kernel
theorem dX6_wish_44 : decode cX6_wish 44 = .ok (.invokestatic 45, 3) := by decide +kernel
theorem dX6_wish_47 : decode cX6_wish 47 = .ok (.putfield 49, 3) := by decide +kernel
theorem dX6_wish_50 : decode cX6_wish 50 = .ok (.aload_n 0, 1) := by decide +kernel
theorem dX6_wish_51 : decode cX6_wish 51 = .ok (.aload_n 3, 1) := by decide +kernel
theorem dX6_wish_52 : decode cX6_wish 52 = .ok (.aload_n 0, 1) := by decide +kernel
theorem dX6_wish_53 : decode cX6_wish 53 = .ok (.getfield 16, 3) := by decide +kernel
theorem dX6_wish_56 : decode cX6_wish 56 = .ok (.invokevirtual 96, 3) := by decide +kernel
theorem dX6_wish_59 : decode cX6_wish 59 = .ok (.invokevirtual 132, 3) := by decide +kernel
theorem dX6_wish_62 : decode cX6_wish 62 = .ok (.aload_n 0, 1) := by decide +kernel
theorem dX6_wish_63 : decode cX6_wish 63 = .ok (.getfield 16, 3) := by decide +kernel
theorem dX6_wish_66 : decode cX6_wish 66 = .ok (.aload_n 3, 1) := by decide +kernel
theorem dX6_wish_67 : decode cX6_wish 67 = .ok (.invokevirtual 104, 3) := by decide +kernel
theorem dX6_wish_70 : decode cX6_wish 70 = .ok (.pop, 1) := by decide +kernel
theorem dX6_wish_71 : decode cX6_wish 71 = .ok (.aload_n 0, 1) := by decide +kernel
theorem dX6_wish_72 : decode cX6_wish 72 = .ok (.aload_n 2, 1) := by decide +kernel
theorem dX6_wish_73 : decode cX6_wish 73 = .ok (.getfield 112, 3) := by decide +kernel
theorem dX6_wish_76 : decode cX6_wish 76 = .ok (.invokevirtual 85, 3) := by decide +kernel
theorem dX6_wish_79 : decode cX6_wish 79 = .ok (.aload_n 0, 1) := by decide +kernel
theorem dX6_wish_80 : decode cX6_wish 80 = .ok (.getfield 16, 3) := by decide +kernel
theorem dX6_wish_83 : decode cX6_wish 83 = .ok (.invokevirtual 96, 3) := by decide +kernel
theorem dX6_wish_86 : decode cX6_wish 86 = .ok (.iconst 1, 1) := by decide +kernel
theorem dX6_wish_87 : decode cX6_wish 87 = .ok (.isub, 1) := by decide +kernel
theorem dX6_wish_88 : decode cX6_wish 88 = .ok (.ireturn, 1) := by decide +kernel
def B_WR_wish_29 (mc ms : Nat) (Rt : Option zAV → zMp → Prop) (g : Nat → zKT) : zKT :=
  (i_new mc ms 6 5 [.inl (.int 0), .inl .null, .inl .null, .inl .null, .inl (.int 0)] (i_dup (i_il 1 (i_al 2 (i_al 0 (i_gf 7 8 (i_callI mc ms 4 T_Wsh_init co_Wsh_init (i_as 3 (i_al 0 (i_call mc ms 0 T_WR_allAny co_WR_allAny (i_pf 7 8 (.array (.object "WishRoutes$FieldTest")) (i_al 0 (i_al 3 (i_al 0 (i_gf 7 1 (i_callV mc ms 0 1 T_AL_size co_AL_size (i_callV mc ms 7 3 T_WR_weigh co_WR_weigh (i_al 0 (i_gf 7 1 (i_al 3 (i_callV mc ms 0 2 T_AL_add2 co_AL_add2 (i_pop (i_al 0 (i_al 2 (i_gf 4 0 (i_callV2 mc ms 7 2 T_WR_tellNeighbours (i_al 0 (i_gf 7 1 (i_callV mc ms 0 1 T_AL_size co_AL_size (i_ic 1 (i_isub (i_iret mc ms Rt))))))))))))))))))))))))))))))))
set_option maxRecDepth 20000 in
theorem s_WR_wish_29 {X : zMa} {mc ms : Nat} {Rt : Option zAV → zMp → Prop} (hC : zCx X RX6 cX6_wish 7 171 mc ms (some .int) false Rt) (hN : zNL X = 4) : zLe (B_WR_wish_29 mc ms Rt (zG X)) (zG X 29) :=
  (sd_new hC (ci := 6) rfl wi_Wsh tyX5 tyX5_ok cl_WR_127 in_Wsh iz_Wsh (by decide) (by intro n h; simp at h) dX6_wish_29 ((sd_dup hC dX6_wish_32 ((sd_il_n hC rfl dX6_wish_33 ((sd_al_n hC rfl dX6_wish_34 ((sd_al_n hC rfl dX6_wish_35 ((sd_gf hC (ci := 7) (fk := 8) rfl wi_WR (by decide) fl_WR_49 (Or.inl rfl) dX6_wish_36 ((sd_cI hC c_Wsh_init yi_Wsh_init ml_WR_129 (by decide) (by decide) dX6_wish_39 ((sd_as_n hC rfl (by rw [hN]; decide) dX6_wish_42 ((sd_al_n hC rfl dX6_wish_43 ((sd_cS hC c_WR_allAny ys_WR_allAny ml_WR_45 (by decide) (by decide) dX6_wish_44 ((sd_pf hC (ci := 7) (fk := 8) rfl wi_WR tyX6 tyX6_ok nmX6 (by decide) fl_WR_49 (Or.inl rfl) (Or.inl rfl) dX6_wish_47 ((sd_al_n hC rfl dX6_wish_50 ((sd_al_n hC rfl dX6_wish_51 ((sd_al_n hC rfl dX6_wish_52 ((sd_gf hC (ci := 7) (fk := 1) rfl wi_WR (by decide) fl_WR_16 (Or.inl rfl) dX6_wish_53 ((sd_cV hC c_AL_size yv_AL_size (ci := 0) rfl rfl ml_WR_96 (by decide) (by decide) dX6_wish_56 ((sd_cV hC c_WR_weigh yv_WR_weigh (ci := 7) rfl rfl ml_WR_132 (by decide) (by decide) dX6_wish_59 ((sd_al_n hC rfl dX6_wish_62 ((sd_gf hC (ci := 7) (fk := 1) rfl wi_WR (by decide) fl_WR_16 (Or.inl rfl) dX6_wish_63 ((sd_al_n hC rfl dX6_wish_66 ((sd_cV hC c_AL_add2 yv_AL_add2 (ci := 0) rfl rfl ml_WR_104 (by decide) (by decide) dX6_wish_67 ((sd_pop hC dX6_wish_70 ((sd_al_n hC rfl dX6_wish_71 ((sd_al_n hC rfl dX6_wish_72 ((sd_gf hC (ci := 4) (fk := 0) rfl wi_Rdr (by decide) fl_WR_112 (Or.inl rfl) dX6_wish_73 ((sd_cV2 hC c_WR_tellNeighbours yv_WR_tellNeighbours (ci := 7) rfl rfl ml_WR_85 (by decide) (by decide) dX6_wish_76 ((sd_al_n hC rfl dX6_wish_79 ((sd_gf hC (ci := 7) (fk := 1) rfl wi_WR (by decide) fl_WR_16 (Or.inl rfl) dX6_wish_80 ((sd_cV hC c_AL_size yv_AL_size (ci := 0) rfl rfl ml_WR_96 (by decide) (by decide) dX6_wish_83 ((sd_iconst hC (by decide) dX6_wish_86 ((sd_isub hC dX6_wish_87 ((sd_iret hC dX6_wish_88)))))))))))))))))))))))))))))))))))))))))))))))))))))))))))))))
def B_WR_wish_13 (mc ms : Nat) (Rt : Option zAV → zMp → Prop) (g : Nat → zKT) : zKT :=
  (i_al 0 (i_gf 7 1 (i_callV mc ms 0 1 T_AL_size co_AL_size (i_ic 300 (i_iclt (B_WR_wish_29 mc ms Rt g) (i_ic (-8) (i_iret mc ms Rt)))))))
set_option maxRecDepth 20000 in
theorem s_WR_wish_13 {X : zMa} {mc ms : Nat} {Rt : Option zAV → zMp → Prop} (hC : zCx X RX6 cX6_wish 7 171 mc ms (some .int) false Rt) (hN : zNL X = 4) : zLe (B_WR_wish_13 mc ms Rt (zG X)) (zG X 13) :=
  (sd_al_n hC rfl dX6_wish_13 ((sd_gf hC (ci := 7) (fk := 1) rfl wi_WR (by decide) fl_WR_16 (Or.inl rfl) dX6_wish_14 ((sd_cV hC c_AL_size yv_AL_size (ci := 0) rfl rfl ml_WR_96 (by decide) (by decide) dX6_wish_17 ((sd_sipush hC (by decide) dX6_wish_20 ((sd_iclt hC (tgt := 29) (by decide) dX6_wish_23 (s_WR_wish_29 hC hN) ((sd_bipush hC (by decide) dX6_wish_26 ((sd_iret hC dX6_wish_28)))))))))))))
def B_WR_wish_0 (mc ms : Nat) (Rt : Option zAV → zMp → Prop) (g : Nat → zKT) : zKT :=
  (i_al 0 (i_il 1 (i_callV mc ms 7 2 T_WR_findReader co_WR_findReader (i_as 2 (i_al 2 (i_ifn (i_ic (-2) (i_iret mc ms Rt)) (B_WR_wish_13 mc ms Rt g)))))))
set_option maxRecDepth 20000 in
theorem s_WR_wish_0 {X : zMa} {mc ms : Nat} {Rt : Option zAV → zMp → Prop} (hC : zCx X RX6 cX6_wish 7 171 mc ms (some .int) false Rt) (hN : zNL X = 4) : zLe (B_WR_wish_0 mc ms Rt (zG X)) (zG X 0) :=
  (sd_al_n hC rfl dX6_wish_0 ((sd_il_n hC rfl dX6_wish_1 ((sd_cV hC c_WR_findReader yv_WR_findReader (ci := 7) rfl rfl ml_WR_108 (by decide) (by decide) dX6_wish_2 ((sd_as_n hC rfl (by rw [hN]; decide) dX6_wish_5 ((sd_al_n hC rfl dX6_wish_6 ((sd_ifnonnull hC (tgt := 13) (by decide) dX6_wish_7 (s_WR_wish_13 hC hN) ((sd_bipush hC (by decide) dX6_wish_10 ((sd_iret hC dX6_wish_12)))))))))))))))
theorem tn_k_nw (x : zSt) (u : Int32) (n : Nat) : x_nw (tn x u n) = x_nw x := by
  have h1 : ∀ (x : zSt) (l s : Nat), x_nw (la_mk x l s) = x_nw x := fun x l s => by unfold la_mk; split <;> rfl
  have h2 : ∀ (x : zSt) (l s : Nat), x_nw (la_wr x l s) = x_nw x := fun x l s => h1 x l s
  have h3 : ∀ (x : zSt) (l : Nat), x_nw (la_tell x l) = x_nw x := fun x l => by
    unfold la_tell
    split
    · exact h2 x _ _
    · split
      · exact h2 (la_push x l (-2)) _ _
      · rfl
  have h4 : ∀ (x : zSt) (u : Int32) (n : Nat), x_nw (tn_s x u n) = x_nw x := fun x u n => by
    unfold tn_s
    split
    · rfl
    · split
      · rfl
      · exact h3 (fmn x u (nI n)) _
  induction n with
  | zero => rfl
  | succ n ih => exact (h4 (tn x u n) u n).trans ih
theorem c_WR_wish (l : Launch) : zCT2 l yX6_wish cX6_wish 4 (some .int) 7 171 T_WR_wish := by
  intro As M Rt c1 c2 hT
  obtain ⟨x, d, rfl, rfl, hq, hR0, hR1, hR2⟩ := hT
  have hI := hq.1
  have hlim := hI.lim
  refine zMet_of false (by decide +kernel) (fun h => by first | rfl | cases h) (Nat.le_of_ble_eq_true rfl) (fun X hN hC => ?_)
  show zG X 0 [some (.inr (0, 0, 0)), some (.inl (.int d)), none, none] [] (pic x) 0 0
  refine s_WR_wish_0 hC hN _ _ _ _ _ ?_
  simp only [B_WR_wish_0, B_WR_wish_13, B_WR_wish_29, co_AL_add2, co_AL_size, co_WR_allAny, co_WR_findReader, co_WR_weigh, co_Wsh_init, i_ic, i_lc, i_nul, i_il, i_ll, i_al, i_is, i_as, i_ls, i_inc, i_iadd, i_isub, i_imul, i_iand, i_ior, i_ixor, i_idiv, i_irem, i_ishl, i_ishr, i_ladd, i_lsub, i_land, i_lor, i_i2l, i_lushr, i_lshl, i_lshr, i_lcmp, i_dup, i_pop, i_dx1, i_dup2, i_ifeq, i_ifne, i_iflt, i_ifge, i_ifgt, i_ifle, i_iceq, i_icne, i_iclt, i_icge, i_icgt, i_icle, i_ifn, i_gf, i_pf, i_ial, i_bal, i_lal, i_aal, i_ias, i_las, i_bas, i_aas, i_alen, i_newa, i_new, i_anew, i_cast, i_oi, i_call, i_callV, i_callV2, i_callI, i_iret, i_zret, i_lret, i_vret, i_aret, i_mmx, i_mmn, i_gsE, i_aceq, i_no, i_acq, i_sw, zsw, zlg, zls, znl, zfg, zcs, zsp, zrc, zisn, zft, zc1, zto, Value.category, List.set_cons_zero, List.set_cons_succ, List.length_cons, List.length_nil, Option.toList, List.append, List.nil_append, List.cons_append, true_and, and_true, Nat.add_zero, Nat.zero_le, Nat.zero_add, Nat.le_refl, Nat.reduceAdd, Nat.reduceLeDiff, co0, z0, zn_0, zn_1, zn_2, zn_3, zn_4, zn_5, zn_8, zn_12, zn_24, zn_121, zn_144, zn_256, zn_300, zn_600, zn_720, zn_1204, zn_1280, zn_2400, zn_4816, zn_14400, zn_90000, p_main, x_main]
  refine ⟨x, d, rfl, rfl, hI, ?_⟩
  rcases fnd_c (K := 10) (n := x_nr x) (by omega) d with ⟨e, e2⟩ | ⟨r, hr, rfl, e, e2⟩
  · rw [e]
    simp only [zov, i_ic, i_lc, i_nul, i_il, i_ll, i_al, i_is, i_as, i_ls, i_inc, i_iadd, i_isub, i_imul, i_iand, i_ior, i_ixor, i_idiv, i_irem, i_ishl, i_ishr, i_ladd, i_lsub, i_land, i_lor, i_i2l, i_lushr, i_lshl, i_lshr, i_lcmp, i_dup, i_pop, i_dx1, i_dup2, i_ifeq, i_ifne, i_iflt, i_ifge, i_ifgt, i_ifle, i_iceq, i_icne, i_iclt, i_icge, i_icgt, i_icle, i_ifn, i_gf, i_pf, i_ial, i_bal, i_lal, i_aal, i_ias, i_las, i_bas, i_aas, i_alen, i_newa, i_new, i_anew, i_cast, i_oi, i_call, i_callV, i_callV2, i_callI, i_iret, i_zret, i_lret, i_vret, i_aret, i_mmx, i_mmn, i_gsE, i_aceq, i_no, i_acq, i_sw, zsw, zlg, zls, znl, zfg, zcs, zsp, zrc, zisn, zft, zc1, zto, Value.category, List.set_cons_zero, List.set_cons_succ, List.length_cons, List.length_nil, Option.toList, List.append, List.nil_append, List.cons_append, true_and, and_true, Nat.add_zero, Nat.zero_le, Nat.zero_add, Nat.le_refl, Nat.reduceAdd, Nat.reduceLeDiff, co0, z0, zn_0, zn_1, zn_2, zn_3, zn_4, zn_5, zn_8, zn_12, zn_24, zn_121, zn_144, zn_256, zn_300, zn_600, zn_720, zn_1204, zn_1280, zn_2400, zn_4816, zn_14400, zn_90000]
    exact hR0 e2
  rw [e]
  simp only [zov, p_main, x_main, p_list (i := 1) (by decide), i_ic, i_lc, i_nul, i_il, i_ll, i_al, i_is, i_as, i_ls, i_inc, i_iadd, i_isub, i_imul, i_iand, i_ior, i_ixor, i_idiv, i_irem, i_ishl, i_ishr, i_ladd, i_lsub, i_land, i_lor, i_i2l, i_lushr, i_lshl, i_lshr, i_lcmp, i_dup, i_pop, i_dx1, i_dup2, i_ifeq, i_ifne, i_iflt, i_ifge, i_ifgt, i_ifle, i_iceq, i_icne, i_iclt, i_icge, i_icgt, i_icle, i_ifn, i_gf, i_pf, i_ial, i_bal, i_lal, i_aal, i_ias, i_las, i_bas, i_aas, i_alen, i_newa, i_new, i_anew, i_cast, i_oi, i_call, i_callV, i_callV2, i_callI, i_iret, i_zret, i_lret, i_vret, i_aret, i_mmx, i_mmn, i_gsE, i_aceq, i_no, i_acq, i_sw, zsw, zlg, zls, znl, zfg, zcs, zsp, zrc, zisn, zft, zc1, zto, Value.category, List.set_cons_zero, List.set_cons_succ, List.length_cons, List.length_nil, Option.toList, List.append, List.nil_append, List.cons_append, true_and, and_true, Nat.add_zero, Nat.zero_le, Nat.zero_add, Nat.le_refl, Nat.reduceAdd, Nat.reduceLeDiff, co0, z0, zn_0, zn_1, zn_2, zn_3, zn_4, zn_5, zn_8, zn_12, zn_24, zn_121, zn_144, zn_256, zn_300, zn_600, zn_720, zn_1204, zn_1280, zn_2400, zn_4816, zn_14400, zn_90000]
  refine ⟨(1, 1, 0), _, _, _, rfl, p_list (by decide), ?_⟩
  have hsz : x_sz x 1 = x_nw x := rfl
  rw [hsz]
  simp only [p_main, x_main, i_ic, i_lc, i_nul, i_il, i_ll, i_al, i_is, i_as, i_ls, i_inc, i_iadd, i_isub, i_imul, i_iand, i_ior, i_ixor, i_idiv, i_irem, i_ishl, i_ishr, i_ladd, i_lsub, i_land, i_lor, i_i2l, i_lushr, i_lshl, i_lshr, i_lcmp, i_dup, i_pop, i_dx1, i_dup2, i_ifeq, i_ifne, i_iflt, i_ifge, i_ifgt, i_ifle, i_iceq, i_icne, i_iclt, i_icge, i_icgt, i_icle, i_ifn, i_gf, i_pf, i_ial, i_bal, i_lal, i_aal, i_ias, i_las, i_bas, i_aas, i_alen, i_newa, i_new, i_anew, i_cast, i_oi, i_call, i_callV, i_callV2, i_callI, i_iret, i_zret, i_lret, i_vret, i_aret, i_mmx, i_mmn, i_gsE, i_aceq, i_no, i_acq, i_sw, zsw, zlg, zls, znl, zfg, zcs, zsp, zrc, zisn, zft, zc1, zto, Value.category, List.set_cons_zero, List.set_cons_succ, List.length_cons, List.length_nil, Option.toList, List.append, List.nil_append, List.cons_append, true_and, and_true, Nat.add_zero, Nat.zero_le, Nat.zero_add, Nat.le_refl, Nat.reduceAdd, Nat.reduceLeDiff, co0, z0, zn_0, zn_1, zn_2, zn_3, zn_4, zn_5, zn_8, zn_12, zn_24, zn_121, zn_144, zn_256, zn_300, zn_600, zn_720, zn_1204, zn_1280, zn_2400, zn_4816, zn_14400, zn_90000]
  have hK := (zK (K := 300) (by decide) (n := x_nw x) (by omega)).1
  refine ⟨fun hlt => ?_, fun hlt => hR1 e2 (by have : ¬ x_nw x < 300 := fun z => hlt (hK.mpr z); omega)⟩
  have hn : x_nw x < 300 := hK.mp hlt
  obtain ⟨hc1, hc2, hR⟩ := hR2 r hr rfl hn
  have fr : pic x (15, x_ow x, 0) = none := if_neg (fun q => absurd q.1 (Nat.lt_irrefl _))
  have frr : x_rw x 1 (x_ow x) = none := if_neg (Nat.lt_irrefl _)
  have fr5 : pic x (5, 1, x_ow x) = none := by show (x_rw x 1 (x_ow x)).map _ = none; rw [frr]; rfl
  have fr6 : pic x (6, 1, x_ow x) = none := by show (x_rw x 1 (x_ow x)).map _ = none; rw [frr]; rfl
  obtain ⟨q1, q2, q3, q4, q5⟩ := hq.2
  refine ⟨(15, x_ow x, 0), fr, m_k (by decide), by omega, by omega, ?_⟩
  have n1 : ((0, 0, 0) : zNm) ≠ (15, x_ow x, 0) := nm_ne (by omega)
  simp only [zup_o n1, p_main, x_main, i_ic, i_lc, i_nul, i_il, i_ll, i_al, i_is, i_as, i_ls, i_inc, i_iadd, i_isub, i_imul, i_iand, i_ior, i_ixor, i_idiv, i_irem, i_ishl, i_ishr, i_ladd, i_lsub, i_land, i_lor, i_i2l, i_lushr, i_lshl, i_lshr, i_lcmp, i_dup, i_pop, i_dx1, i_dup2, i_ifeq, i_ifne, i_iflt, i_ifge, i_ifgt, i_ifle, i_iceq, i_icne, i_iclt, i_icge, i_icgt, i_icle, i_ifn, i_gf, i_pf, i_ial, i_bal, i_lal, i_aal, i_ias, i_las, i_bas, i_aas, i_alen, i_newa, i_new, i_anew, i_cast, i_oi, i_call, i_callV, i_callV2, i_callI, i_iret, i_zret, i_lret, i_vret, i_aret, i_mmx, i_mmn, i_gsE, i_aceq, i_no, i_acq, i_sw, zsw, zlg, zls, znl, zfg, zcs, zsp, zrc, zisn, zft, zc1, zto, Value.category, List.set_cons_zero, List.set_cons_succ, List.length_cons, List.length_nil, Option.toList, List.append, List.nil_append, List.cons_append, true_and, and_true, Nat.add_zero, Nat.zero_le, Nat.zero_add, Nat.le_refl, Nat.reduceAdd, Nat.reduceLeDiff, co0, z0, zn_0, zn_1, zn_2, zn_3, zn_4, zn_5, zn_8, zn_12, zn_24, zn_121, zn_144, zn_256, zn_300, zn_600, zn_720, zn_1204, zn_1280, zn_2400, zn_4816, zn_14400, zn_90000]
  refine ⟨by omega, by omega, (15, x_ow x, 0), (5, 1, x_ow x), (6, 1, x_ow x), nI r, (10, r, 0), (9, x_rg x, 0), rfl, zup_s, m_k (by decide), by rw [zup_o (nm_ne (by omega))]; exact fr5, m_k (by decide), by rw [zup_o (nm_ne (by omega))]; exact fr6, m_k (by decide), nm_ne (by omega), ?_⟩
  have erg : x_rg x = x_ow x := by omega
  rw [erg, pu_nws]
  have hI1 : Iv (nw_ws x r) := Iv_nws hI (by omega) (by omega) (by omega)
  simp only [p_main, x_main, i_ic, i_lc, i_nul, i_il, i_ll, i_al, i_is, i_as, i_ls, i_inc, i_iadd, i_isub, i_imul, i_iand, i_ior, i_ixor, i_idiv, i_irem, i_ishl, i_ishr, i_ladd, i_lsub, i_land, i_lor, i_i2l, i_lushr, i_lshl, i_lshr, i_lcmp, i_dup, i_pop, i_dx1, i_dup2, i_ifeq, i_ifne, i_iflt, i_ifge, i_ifgt, i_ifle, i_iceq, i_icne, i_iclt, i_icge, i_icgt, i_icle, i_ifn, i_gf, i_pf, i_ial, i_bal, i_lal, i_aal, i_ias, i_las, i_bas, i_aas, i_alen, i_newa, i_new, i_anew, i_cast, i_oi, i_call, i_callV, i_callV2, i_callI, i_iret, i_zret, i_lret, i_vret, i_aret, i_mmx, i_mmn, i_gsE, i_aceq, i_no, i_acq, i_sw, zsw, zlg, zls, znl, zfg, zcs, zsp, zrc, zisn, zft, zc1, zto, Value.category, List.set_cons_zero, List.set_cons_succ, List.length_cons, List.length_nil, Option.toList, List.append, List.nil_append, List.cons_append, true_and, and_true, Nat.add_zero, Nat.zero_le, Nat.zero_add, Nat.le_refl, Nat.reduceAdd, Nat.reduceLeDiff, co0, z0, zn_0, zn_1, zn_2, zn_3, zn_4, zn_5, zn_8, zn_12, zn_24, zn_121, zn_144, zn_256, zn_300, zn_600, zn_720, zn_1204, zn_1280, zn_2400, zn_4816, zn_14400, zn_90000]
  have f9 : pic (nw_ws x r) (9, x_ng x, 0) = none := if_neg (fun q => absurd q.1 (Nat.lt_irrefl _))
  refine ⟨by omega, by omega, x_ng x, rfl, f9, fun f hf => ⟨if_neg (fun q => absurd q.1 (Nat.lt_irrefl _)), if_neg (fun q => absurd q.1 (Nat.lt_irrefl _))⟩, ?_⟩
  have e3 := pu_nft (nw_ws x r)
  rw [show x_ng (nw_ws x r) = x_ng x from rfl] at e3
  rw [e3]
  have hI2 : Iv (nw_ft (nw_ws x r)) := Iv_nft hI1
  have hg2 : ft_ok (nw_ft (nw_ws x r)) (x_ng x) := ft_nft2 (nw_ws x r)
  simp only [p_main, x_main, p_fs hg2.1, i_ic, i_lc, i_nul, i_il, i_ll, i_al, i_is, i_as, i_ls, i_inc, i_iadd, i_isub, i_imul, i_iand, i_ior, i_ixor, i_idiv, i_irem, i_ishl, i_ishr, i_ladd, i_lsub, i_land, i_lor, i_i2l, i_lushr, i_lshl, i_lshr, i_lcmp, i_dup, i_pop, i_dx1, i_dup2, i_ifeq, i_ifne, i_iflt, i_ifge, i_ifgt, i_ifle, i_iceq, i_icne, i_iclt, i_icge, i_icgt, i_icle, i_ifn, i_gf, i_pf, i_ial, i_bal, i_lal, i_aal, i_ias, i_las, i_bas, i_aas, i_alen, i_newa, i_new, i_anew, i_cast, i_oi, i_call, i_callV, i_callV2, i_callI, i_iret, i_zret, i_lret, i_vret, i_aret, i_mmx, i_mmn, i_gsE, i_aceq, i_no, i_acq, i_sw, zsw, zlg, zls, znl, zfg, zcs, zsp, zrc, zisn, zft, zc1, zto, Value.category, List.set_cons_zero, List.set_cons_succ, List.length_cons, List.length_nil, Option.toList, List.append, List.nil_append, List.cons_append, true_and, and_true, Nat.add_zero, Nat.zero_le, Nat.zero_add, Nat.le_refl, Nat.reduceAdd, Nat.reduceLeDiff, co0, z0, zn_0, zn_1, zn_2, zn_3, zn_4, zn_5, zn_8, zn_12, zn_24, zn_121, zn_144, zn_256, zn_300, zn_600, zn_720, zn_1204, zn_1280, zn_2400, zn_4816, zn_14400, zn_90000]
  refine ⟨m_k (by decide), by decide, ?_⟩
  have e4 := pu_rg (nw_ft (nw_ws x r)) (x_ng x)
  simp only [x_main, g_dk_rg, g_lk_rg, g_po_rg, g_ne_rg, g_td_rg, g_nb_rg, g_ln_rg, g_nr_rg, g_nw_rg, g_nn_rg, g_ns_rg, g_or_rg, g_ow_rg, g_on_rg, g_nl_rg, g_ng_rg, g_rg_rg, g_lc_rg, g_cp_rg, g_gb_rg, g_sp_rg, g_kn_rg, g_me_rg, g_ob_rg, g_fk_rg, g_fz_rg, g_fg_rg, g_rd_rg, g_rz_rg, g_rh_rg, g_nd_rg, g_nm_rg, g_nv_rg, g_nh_rg, g_nf_rg, g_wr_rg, g_wa_rg, g_lz_rg, g_lf_rg, g_li_rg, g_lt_rg, g_lb_rg, g_lr_rg, g_tn_rg, g_tf_rg] at e4
  rw [e4]
  have hI3 : Iv (u_rg (nw_ft (nw_ws x r)) (x_ng x)) := Iv_rg hI2 hg2
  have hr3 : wsh_1 x r = wg (u_rg (nw_ft (nw_ws x r)) (x_ng x)) (x_nw x) (x_nw x) (x_nw (u_rg (nw_ft (nw_ws x r)) (x_ng x))) := rfl
  have how3 : x_ow x < x_ow (u_rg (nw_ft (nw_ws x r)) (x_ng x)) := Nat.lt_succ_self _
  have hnw3 : x_nw (u_rg (nw_ft (nw_ws x r)) (x_ng x)) = x_nw x := rfl
  generalize u_rg (nw_ft (nw_ws x r)) (x_ng x) = y3 at hI3 hr3 how3 hnw3
  simp only [p_main, x_main, p_list (i := 1) (by decide), i_ic, i_lc, i_nul, i_il, i_ll, i_al, i_is, i_as, i_ls, i_inc, i_iadd, i_isub, i_imul, i_iand, i_ior, i_ixor, i_idiv, i_irem, i_ishl, i_ishr, i_ladd, i_lsub, i_land, i_lor, i_i2l, i_lushr, i_lshl, i_lshr, i_lcmp, i_dup, i_pop, i_dx1, i_dup2, i_ifeq, i_ifne, i_iflt, i_ifge, i_ifgt, i_ifle, i_iceq, i_icne, i_iclt, i_icge, i_icgt, i_icle, i_ifn, i_gf, i_pf, i_ial, i_bal, i_lal, i_aal, i_ias, i_las, i_bas, i_aas, i_alen, i_newa, i_new, i_anew, i_cast, i_oi, i_call, i_callV, i_callV2, i_callI, i_iret, i_zret, i_lret, i_vret, i_aret, i_mmx, i_mmn, i_gsE, i_aceq, i_no, i_acq, i_sw, zsw, zlg, zls, znl, zfg, zcs, zsp, zrc, zisn, zft, zc1, zto, Value.category, List.set_cons_zero, List.set_cons_succ, List.length_cons, List.length_nil, Option.toList, List.append, List.nil_append, List.cons_append, true_and, and_true, Nat.add_zero, Nat.zero_le, Nat.zero_add, Nat.le_refl, Nat.reduceAdd, Nat.reduceLeDiff, co0, z0, zn_0, zn_1, zn_2, zn_3, zn_4, zn_5, zn_8, zn_12, zn_24, zn_121, zn_144, zn_256, zn_300, zn_600, zn_720, zn_1204, zn_1280, zn_2400, zn_4816, zn_14400, zn_90000]
  refine ⟨by omega, by omega, (1, 1, 0), _, _, _, rfl, p_list (by decide), ?_⟩
  have hsz3 : x_sz y3 1 = x_nw x := hnw3
  rw [hsz3]
  simp only [p_main, x_main, p_wsh how3, x_wsh, i_ic, i_lc, i_nul, i_il, i_ll, i_al, i_is, i_as, i_ls, i_inc, i_iadd, i_isub, i_imul, i_iand, i_ior, i_ixor, i_idiv, i_irem, i_ishl, i_ishr, i_ladd, i_lsub, i_land, i_lor, i_i2l, i_lushr, i_lshl, i_lshr, i_lcmp, i_dup, i_pop, i_dx1, i_dup2, i_ifeq, i_ifne, i_iflt, i_ifge, i_ifgt, i_ifle, i_iceq, i_icne, i_iclt, i_icge, i_icgt, i_icle, i_ifn, i_gf, i_pf, i_ial, i_bal, i_lal, i_aal, i_ias, i_las, i_bas, i_aas, i_alen, i_newa, i_new, i_anew, i_cast, i_oi, i_call, i_callV, i_callV2, i_callI, i_iret, i_zret, i_lret, i_vret, i_aret, i_mmx, i_mmn, i_gsE, i_aceq, i_no, i_acq, i_sw, zsw, zlg, zls, znl, zfg, zcs, zsp, zrc, zisn, zft, zc1, zto, Value.category, List.set_cons_zero, List.set_cons_succ, List.length_cons, List.length_nil, Option.toList, List.append, List.nil_append, List.cons_append, true_and, and_true, Nat.add_zero, Nat.zero_le, Nat.zero_add, Nat.le_refl, Nat.reduceAdd, Nat.reduceLeDiff, co0, z0, zn_0, zn_1, zn_2, zn_3, zn_4, zn_5, zn_8, zn_12, zn_24, zn_121, zn_144, zn_256, zn_300, zn_600, zn_720, zn_1204, zn_1280, zn_2400, zn_4816, zn_14400, zn_90000]
  refine ⟨by omega, by omega, y3, x_ow x, x_nw x, rfl, rfl, hI3, how3, hn, ?_⟩
  rw [q2, ← hr3]
  have hI4 : Iv (wsh_1 x r) := Iv_wsh1 hq hr
  obtain ⟨fo, eo⟩ := wsh_1k x r
  have how4 : x_nw x < x_ow (wsh_1 x r) := by rw [eo]; show x_nw x < x_ow x + 1; omega
  have hsz4 : x_sz (wsh_1 x r) 1 = x_nw x := by rw [eo]; rfl
  simp only [p_main, x_main, p_list (i := 1) (by decide), i_ic, i_lc, i_nul, i_il, i_ll, i_al, i_is, i_as, i_ls, i_inc, i_iadd, i_isub, i_imul, i_iand, i_ior, i_ixor, i_idiv, i_irem, i_ishl, i_ishr, i_ladd, i_lsub, i_land, i_lor, i_i2l, i_lushr, i_lshl, i_lshr, i_lcmp, i_dup, i_pop, i_dx1, i_dup2, i_ifeq, i_ifne, i_iflt, i_ifge, i_ifgt, i_ifle, i_iceq, i_icne, i_iclt, i_icge, i_icgt, i_icle, i_ifn, i_gf, i_pf, i_ial, i_bal, i_lal, i_aal, i_ias, i_las, i_bas, i_aas, i_alen, i_newa, i_new, i_anew, i_cast, i_oi, i_call, i_callV, i_callV2, i_callI, i_iret, i_zret, i_lret, i_vret, i_aret, i_mmx, i_mmn, i_gsE, i_aceq, i_no, i_acq, i_sw, zsw, zlg, zls, znl, zfg, zcs, zsp, zrc, zisn, zft, zc1, zto, Value.category, List.set_cons_zero, List.set_cons_succ, List.length_cons, List.length_nil, Option.toList, List.append, List.nil_append, List.cons_append, true_and, and_true, Nat.add_zero, Nat.zero_le, Nat.zero_add, Nat.le_refl, Nat.reduceAdd, Nat.reduceLeDiff, co0, z0, zn_0, zn_1, zn_2, zn_3, zn_4, zn_5, zn_8, zn_12, zn_24, zn_121, zn_144, zn_256, zn_300, zn_600, zn_720, zn_1204, zn_1280, zn_2400, zn_4816, zn_14400, zn_90000]
  refine ⟨by omega, by omega, ?_⟩
  refine ls_T (x' := wsh_x x r) (by decide) (hI4.cap 1 (by decide)) (by rw [hsz4]; omega) (hI4.gb 1) ?_ (nm_ne (by omega)) (el_ok1 hI4) (ls_wsh x r) ?_
  · simp only [zok, p_wsh how4, x_wsh]
    exact zk_Wsh_Obj
  · have hq5 := Iq_wsh hq hr hn
    have e6 : wsh_x x r = u_nw (ls (u_ob (u_rg (nw_ft (nw_ws x r)) (x_ng x)) fo) 1) (x_nw x + 1) := by unfold wsh_x; rw [eo]
    have hrd : x_rd (wsh_x x r) = x_rd x := by rw [e6]; rfl
    have hdk : x_dk (wsh_x x r) = x_dk x := by rw [e6]; rfl
    have hor : r < x_or (wsh_x x r) := by rw [e6]; show r < x_or x; omega
    have hnw5 : x_nw (wsh_x x r) = x_nw x + 1 := rfl
    rw [← hrd, ← hdk] at hR
    rw [← hrd, ← hdk] at hc1 hc2
    generalize wsh_x x r = y5 at hq5 hor hR hc1 hc2 hnw5
    simp only [p_main, x_main, p_rdr hor, x_rdr, i_ic, i_lc, i_nul, i_il, i_ll, i_al, i_is, i_as, i_ls, i_inc, i_iadd, i_isub, i_imul, i_iand, i_ior, i_ixor, i_idiv, i_irem, i_ishl, i_ishr, i_ladd, i_lsub, i_land, i_lor, i_i2l, i_lushr, i_lshl, i_lshr, i_lcmp, i_dup, i_pop, i_dx1, i_dup2, i_ifeq, i_ifne, i_iflt, i_ifge, i_ifgt, i_ifle, i_iceq, i_icne, i_iclt, i_icge, i_icgt, i_icle, i_ifn, i_gf, i_pf, i_ial, i_bal, i_lal, i_aal, i_ias, i_las, i_bas, i_aas, i_alen, i_newa, i_new, i_anew, i_cast, i_oi, i_call, i_callV, i_callV2, i_callI, i_iret, i_zret, i_lret, i_vret, i_aret, i_mmx, i_mmn, i_gsE, i_aceq, i_no, i_acq, i_sw, zsw, zlg, zls, znl, zfg, zcs, zsp, zrc, zisn, zft, zc1, zto, Value.category, List.set_cons_zero, List.set_cons_succ, List.length_cons, List.length_nil, Option.toList, List.append, List.nil_append, List.cons_append, true_and, and_true, Nat.add_zero, Nat.zero_le, Nat.zero_add, Nat.le_refl, Nat.reduceAdd, Nat.reduceLeDiff, co0, z0, zn_0, zn_1, zn_2, zn_3, zn_4, zn_5, zn_8, zn_12, zn_24, zn_121, zn_144, zn_256, zn_300, zn_600, zn_720, zn_1204, zn_1280, zn_2400, zn_4816, zn_14400, zn_90000]
    refine ⟨2 * tn_c y5 (x_rd y5 r) (x_dk y5), 6 * tn_c y5 (x_rd y5 r) (x_dk y5), by omega, by omega, y5, x_rd y5 r, rfl, rfl, hq5.1, Nat.le_refl _, Nat.le_refl _, ?_⟩
    have hz := tn_k_nw y5 (x_rd y5 r) (x_dk y5)
    generalize tn y5 (x_rd y5 r) (x_dk y5) = z at hR hz
    simp only [p_main, x_main, p_list (i := 1) (by decide), i_ic, i_lc, i_nul, i_il, i_ll, i_al, i_is, i_as, i_ls, i_inc, i_iadd, i_isub, i_imul, i_iand, i_ior, i_ixor, i_idiv, i_irem, i_ishl, i_ishr, i_ladd, i_lsub, i_land, i_lor, i_i2l, i_lushr, i_lshl, i_lshr, i_lcmp, i_dup, i_pop, i_dx1, i_dup2, i_ifeq, i_ifne, i_iflt, i_ifge, i_ifgt, i_ifle, i_iceq, i_icne, i_iclt, i_icge, i_icgt, i_icle, i_ifn, i_gf, i_pf, i_ial, i_bal, i_lal, i_aal, i_ias, i_las, i_bas, i_aas, i_alen, i_newa, i_new, i_anew, i_cast, i_oi, i_call, i_callV, i_callV2, i_callI, i_iret, i_zret, i_lret, i_vret, i_aret, i_mmx, i_mmn, i_gsE, i_aceq, i_no, i_acq, i_sw, zsw, zlg, zls, znl, zfg, zcs, zsp, zrc, zisn, zft, zc1, zto, Value.category, List.set_cons_zero, List.set_cons_succ, List.length_cons, List.length_nil, Option.toList, List.append, List.nil_append, List.cons_append, true_and, and_true, Nat.add_zero, Nat.zero_le, Nat.zero_add, Nat.le_refl, Nat.reduceAdd, Nat.reduceLeDiff, co0, z0, zn_0, zn_1, zn_2, zn_3, zn_4, zn_5, zn_8, zn_12, zn_24, zn_121, zn_144, zn_256, zn_300, zn_600, zn_720, zn_1204, zn_1280, zn_2400, zn_4816, zn_14400, zn_90000]
    refine ⟨by omega, by omega, (1, 1, 0), _, _, _, rfl, p_list (by decide), ?_⟩
    have hsz6 : x_sz z 1 = x_nw x + 1 := hz.trans hnw5
    rw [hsz6]
    simp only [i_ic, i_lc, i_nul, i_il, i_ll, i_al, i_is, i_as, i_ls, i_inc, i_iadd, i_isub, i_imul, i_iand, i_ior, i_ixor, i_idiv, i_irem, i_ishl, i_ishr, i_ladd, i_lsub, i_land, i_lor, i_i2l, i_lushr, i_lshl, i_lshr, i_lcmp, i_dup, i_pop, i_dx1, i_dup2, i_ifeq, i_ifne, i_iflt, i_ifge, i_ifgt, i_ifle, i_iceq, i_icne, i_iclt, i_icge, i_icgt, i_icle, i_ifn, i_gf, i_pf, i_ial, i_bal, i_lal, i_aal, i_ias, i_las, i_bas, i_aas, i_alen, i_newa, i_new, i_anew, i_cast, i_oi, i_call, i_callV, i_callV2, i_callI, i_iret, i_zret, i_lret, i_vret, i_aret, i_mmx, i_mmn, i_gsE, i_aceq, i_no, i_acq, i_sw, zsw, zlg, zls, znl, zfg, zcs, zsp, zrc, zisn, zft, zc1, zto, Value.category, List.set_cons_zero, List.set_cons_succ, List.length_cons, List.length_nil, Option.toList, List.append, List.nil_append, List.cons_append, true_and, and_true, Nat.add_zero, Nat.zero_le, Nat.zero_add, Nat.le_refl, Nat.reduceAdd, Nat.reduceLeDiff, co0, z0, zn_0, zn_1, zn_2, zn_3, zn_4, zn_5, zn_8, zn_12, zn_24, zn_121, zn_144, zn_256, zn_300, zn_600, zn_720, zn_1204, zn_1280, zn_2400, zn_4816, zn_14400, zn_90000]
    rw [nI_pm]
    exact ⟨by omega, by omega, hR⟩
