/-! WishRoutes: opening a lane -/
def nw_ln (x : zSt) : zSt := u_lr (u_lb (u_lt (u_li (u_lf (u_lz (u_nl x (x_nl x + 1)) (va_up (x_lz x) (x_nl x) 0)) (va_up (x_lf x) (x_nl x) 0)) (va_up (x_li x) (x_nl x) (fun _ => 0))) (va_up (x_lt x) (x_nl x) (fun _ => 0))) (va_up (x_lb x) (x_nl x) (fun _ => 0))) (va_up (x_lr x) (x_nl x) (fun _ => none))
theorem pu_nln (x : zSt) (e0 : zAE) : zup (zup (zup (zup (zup (zup (zup (zup (pic x) (16, x_nl x, 0) e0) (6, 2, x_nl x) (zlo (fun _ => 0))) (5, 2, x_nl x) (.inr (5, [.inr (6, 2, x_nl x)]))) (6, 3, x_nl x) (zlo (fun _ => 0))) (5, 3, x_nl x) (.inr (5, [.inr (6, 3, x_nl x)]))) (17, x_nl x, 0) (zin 121 (fun _ => 0))) (18, x_nl x, 0) (zra "WishRoutes$Row" 121 (fun _ => none))) (16, x_nl x, 0) (.inr (2, [.inr (5, 2, x_nl x), .inr (5, 3, x_nl x), .inl (.int 0), .inr (17, x_nl x, 0), .inr (18, x_nl x, 0), .inl (.int 0)])) = pic (nw_ln x) := by
  have c1 : x_nl (nw_ln x) = x_nl x + 1 := rfl
  have c2 : x_lz (nw_ln x) = va_up (x_lz x) (x_nl x) 0 := rfl
  have c3 : x_lf (nw_ln x) = va_up (x_lf x) (x_nl x) 0 := rfl
  have c4 : x_li (nw_ln x) = va_up (x_li x) (x_nl x) (fun _ => 0) := rfl
  have c5 : x_lt (nw_ln x) = va_up (x_lt x) (x_nl x) (fun _ => 0) := rfl
  have c6 : x_lb (nw_ln x) = va_up (x_lb x) (x_nl x) (fun _ => 0) := rfl
  have c7 : x_lr (nw_ln x) = va_up (x_lr x) (x_nl x) (fun _ => none) := rfl
  have hl : x_nl x < x_nl (nw_ln x) := by rw [c1]; omega
  have hr2 : x_rw (nw_ln x) 2 (x_nl x) = some (fun _ => 0) := by rw [r_lt hl, c5, va_ups]
  have hr3 : x_rw (nw_ln x) 3 (x_nl x) = some (fun _ => 0) := by rw [r_lb hl, c6, va_ups]
  have hr : ∀ i j, ¬ (i = 2 ∧ j = x_nl x) → ¬ (i = 3 ∧ j = x_nl x) → x_rw x i j = x_rw (nw_ln x) i j := by
    intro i j h2 h3
    unfold x_rw
    by_cases i0 : i = 0
    · rw [if_pos i0, if_pos i0]; rfl
    · rw [if_neg i0, if_neg i0]
      by_cases i1 : i = 1
      · rw [if_pos i1, if_pos i1]; rfl
      · rw [if_neg i1, if_neg i1]
        by_cases i2 : i = 2
        · rw [if_pos i2, if_pos i2]
          have hj : j ≠ x_nl x := fun q => h2 ⟨i2, q⟩
          rw [c1, c5, va_upn hj]
          by_cases hlt : j < x_nl x
          · rw [if_pos hlt, if_pos (by omega)]
          · rw [if_neg hlt, if_neg (by omega)]
        · rw [if_neg i2, if_neg i2]
          by_cases i3 : i = 3
          · rw [if_pos i3, if_pos i3]
            have hj : j ≠ x_nl x := fun q => h3 ⟨i3, q⟩
            rw [c1, c6, va_upn hj]
            by_cases hlt : j < x_nl x
            · rw [if_pos hlt, if_pos (by omega)]
            · rw [if_neg hlt, if_neg (by omega)]
          · rw [if_neg i3, if_neg i3, c1, c7]
            by_cases hil : i - 4 = x_nl x
            · rw [hil, va_ups, if_neg (fun q => absurd q.1 (Nat.lt_irrefl _))]
              split <;> rfl
            · rw [va_upn hil]
              by_cases hlt : i - 4 < x_nl x ∧ j < 121
              · rw [if_pos hlt, if_pos ⟨by omega, hlt.2⟩]
              · rw [if_neg hlt, if_neg (fun q => hlt ⟨by omega, q.2⟩)]
  funext n
  obtain ⟨k, i, j⟩ := n
  by_cases h16 : (k, i, j) = (16, x_nl x, 0)
  · rw [h16, zup_s, p_lane hl, x_lane, c2, c3, va_ups, va_ups]
    rfl
  · rw [zup_o h16]
    by_cases h18 : (k, i, j) = (18, x_nl x, 0)
    · rw [h18, zup_s, p_lrs hl]
      congr 5
      funext s
      simp only [x_lrs, c7, va_ups]
      split <;> rfl
    · rw [zup_o h18]
      by_cases h17 : (k, i, j) = (17, x_nl x, 0)
      · rw [h17, zup_s, p_item hl, c4, va_ups]
      · rw [zup_o h17]
        by_cases h53 : (k, i, j) = (5, 3, x_nl x)
        · rw [h53, zup_s, p_rowO hr3]
        · rw [zup_o h53]
          by_cases h63 : (k, i, j) = (6, 3, x_nl x)
          · rw [h63, zup_s, p_rowW hr3]
          · rw [zup_o h63]
            by_cases h52 : (k, i, j) = (5, 2, x_nl x)
            · rw [h52, zup_s, p_rowO hr2]
            · rw [zup_o h52]
              by_cases h62 : (k, i, j) = (6, 2, x_nl x)
              · rw [h62, zup_s, p_rowW hr2]
              · rw [zup_o h62, zup_o h16]
                rcases k with _ | _ | _ | _ | _ | _ | _ | _ | _ | _ | _ | _ | _ | _ | _ | _ | _ | _ | _ | k
                all_goals first | rfl | skip
                · show (x_rw x i j).map _ = (x_rw (nw_ln x) i j).map _
                  rw [hr i j (fun q => h52 (by rw [q.1, q.2])) (fun q => h53 (by rw [q.1, q.2]))]
                · show (x_rw x i j).map _ = (x_rw (nw_ln x) i j).map _
                  rw [hr i j (fun q => h62 (by rw [q.1, q.2])) (fun q => h63 (by rw [q.1, q.2]))]
                · refine pool (F := x_lane x) (F' := x_lane (nw_ln x)) c1 (fun i hi => ?_) (fun q => h16 (by rw [q.1, q.2]))
                  simp only [x_lane, c2, c3, va_upn (Nat.ne_of_lt hi)]
                · refine pool (F := fun i => zin 121 (x_li x i)) (F' := fun i => zin 121 (x_li (nw_ln x) i)) c1 (fun i hi => ?_) (fun q => h17 (by rw [q.1, q.2]))
                  simp only [c4, va_upn (Nat.ne_of_lt hi)]
                · refine pool (F := fun i => zra "WishRoutes$Row" 121 (x_lrs x i)) (F' := fun i => zra "WishRoutes$Row" 121 (x_lrs (nw_ln x) i)) c1 (fun i hi => ?_) (fun q => h18 (by rw [q.1, q.2]))
                  have : x_lrs (nw_ln x) i = x_lrs x i := by
                    funext s
                    simp only [x_lrs, c7, va_upn (Nat.ne_of_lt hi)]
                  rw [this]
theorem Iv_nln {x : zSt} (h : Iv x) : Iv (nw_ln x) := by
  obtain ⟨h1, h2, h3, h4, h5, h6, h7, h8, h9, h10, h11⟩ := h
  refine ⟨h1, h2, h3, h4, h5, h6, h7, h8, fun l hl => ?_, fun p l hp => Nat.lt_succ_of_lt (h10 p l hp), fun k hk => Nat.lt_succ_of_lt (h11 k hk)⟩
  have hl : l < x_nl x + 1 := hl
  have c2 : x_lz (nw_ln x) = va_up (x_lz x) (x_nl x) 0 := rfl
  have c3 : x_lf (nw_ln x) = va_up (x_lf x) (x_nl x) 0 := rfl
  rw [c2, c3]
  by_cases e : l = x_nl x
  · subst e
    rw [va_ups, va_ups]
    decide
  · rw [va_upn e, va_upn e]
    exact h9 l (by omega)
/-- the last spare lane is taken -/
def sp_x (x : zSt) : zSt := u_ns (u_lc x (va_up (x_lc x) 3 (x_lc x 3 + 1))) (x_ns x - 1)
theorem pu_sp (x : zSt) (hI : Iv x) (h : 0 < x_ns x) : zup (zup (pic x) (1, 3, 0) (zal (x_lc x 3 + 1) (x_dn x 3) (x_ns x - 1))) (x_dn x 3) (zoa (x_cp x 3) (va_up (x_el x 3) (x_ns x - 1) none)) = pic (sp_x x) := by
  have hc := hI.cap 3 (by decide)
  have hs : x_sz x 3 = x_ns x := rfl
  rw [hs] at hc
  have ed : x_dn x 3 = (2, 3, x_cp x 3) := if_neg (by omega)
  rw [ed]
  funext n
  obtain ⟨k, i, j⟩ := n
  by_cases h2 : (k, i, j) = (2, 3, x_cp x 3)
  · rw [h2, zup_s]
    refine Eq.symm ?_
    show (if 3 < 4 ∧ 0 < x_cp x 3 ∧ x_cp x 3 = x_cp x 3 then some (zoa (x_cp x 3) (x_el (sp_x x) 3)) else x_gb x 3 (x_cp x 3)) = _
    refine (if_pos ⟨by decide, by omega, rfl⟩).trans ?_
    congr 5
    funext t
    show (if t < x_ns x - 1 then some (16, x_sp x t, 0) else none) = va_up (x_el x 3) (x_ns x - 1) none t
    simp only [va_up]
    by_cases ht : t = x_ns x - 1
    · rw [if_pos ht, if_neg (by omega)]
    · rw [if_neg ht]
      show _ = (if t < x_ns x then some (16, x_sp x t, 0) else none)
      by_cases hlt : t < x_ns x - 1
      · rw [if_pos hlt, if_pos (by omega)]
      · rw [if_neg hlt, if_neg (by omega)]
  · rw [zup_o h2]
    by_cases h1 : (k, i, j) = (1, 3, 0)
    · rw [h1, zup_s, p_list (by decide)]
      have : x_dn (sp_x x) 3 = x_dn x 3 := rfl
      rw [this, ed]
      rfl
    · rw [zup_o h1]
      rcases k with _ | _ | _ | _ | _ | _ | _ | _ | _ | _ | _ | _ | _ | _ | _ | _ | _ | _ | _ | k
      all_goals first | rfl | skip
      · show (if i < 4 ∧ j = 0 then some (zal (x_lc x i) (x_dn x i) (x_sz x i)) else none) = (if i < 4 ∧ j = 0 then some (zal (va_up (x_lc x) 3 (x_lc x 3 + 1) i) (x_dn x i) (x_sz (sp_x x) i)) else none)
        by_cases hij : i < 4 ∧ j = 0
        · have hi : i ≠ 3 := fun q => h1 (by rw [q, hij.2])
          rw [if_pos hij, if_pos hij, va_upn hi]
          match i, hij.1, hi with
          | 0, _, _ => rfl
          | 1, _, _ => rfl
          | 2, _, _ => rfl
          | 3, _, h => exact absurd rfl h
          | n + 4, h, _ => exact absurd h (by omega)
        · rw [if_neg hij, if_neg hij]
      · show (if i < 4 ∧ 0 < j ∧ j = x_cp x i then some (zoa (x_cp x i) (x_el x i)) else x_gb x i j) = (if i < 4 ∧ 0 < j ∧ j = x_cp x i then some (zoa (x_cp x i) (x_el (sp_x x) i)) else x_gb x i j)
        by_cases hij : i < 4 ∧ 0 < j ∧ j = x_cp x i
        · have hi : i ≠ 3 := fun q => h2 (by rw [hij.2.2, q])
          rw [if_pos hij, if_pos hij]
          match i, hij.1, hi with
          | 0, _, _ => rfl
          | 1, _, _ => rfl
          | 2, _, _ => rfl
          | 3, _, h => exact absurd rfl h
          | n + 4, h, _ => exact absurd h (by omega)
        · rw [if_neg hij, if_neg hij]
theorem Iv_sp {x : zSt} (h : Iv x) : Iv (sp_x x) := by
  obtain ⟨h1, h2, h3, h4, h5, h6, h7, h8, h9, h10, h11⟩ := h
  refine ⟨h1, h2, ⟨h3.1, h3.2.1, h3.2.2.1, ?_⟩, fun i hi => ?_, h5, h6, h7, h8, h9, h10, fun k hk => h11 k ?_⟩
  · show x_ns x - 1 ≤ 600
    have := h3.2.2.2
    omega
  · have := h4 i hi
    match i, hi, this with
    | 0, _, this => exact this
    | 1, _, this => exact this
    | 2, _, this => exact this
    | 3, _, this =>
      have this : x_ns x ≤ x_cp x 3 ∧ x_cp x 3 ≤ 1000 := this
      show x_ns x - 1 ≤ x_cp x 3 ∧ x_cp x 3 ≤ 1000
      omega
  · have hk : k < x_ns x - 1 := hk
    omega
/-- a lane to use: its number, and the state then -/
def ol_l (x : zSt) : Nat := if 0 < x_ns x then x_sp x (x_ns x - 1) else x_nl x
def ol_1 (x : zSt) : zSt := if 0 < x_ns x then sp_x x else nw_ln x
def ol (x : zSt) (u v : Nat) : zSt := u_nb (u_ln (ol_1 x) (va_up (x_ln (ol_1 x)) (12 * u + v) (some (ol_l x)))) (upd (x_nb (ol_1 x)) u (x_nb (ol_1 x) u ||| (1 <<< (nI v &&& 31))))
theorem Iv_ol1 {x : zSt} (h : Iv x) : Iv (ol_1 x) ∧ ol_l x < x_nl (ol_1 x) := by
  unfold ol_1 ol_l
  by_cases hs : 0 < x_ns x
  · rw [if_pos hs, if_pos hs]
    exact ⟨Iv_sp h, h.sp _ (by omega)⟩
  · rw [if_neg hs, if_neg hs]
    exact ⟨Iv_nln h, Nat.lt_succ_self _⟩
theorem Iv_nb {x : zSt} {f : Nat → Int32} (h : Iv x) : Iv (u_nb x f) := h
theorem Iv_ln {x : zSt} {p : Nat} {v : Option Nat} (h : Iv x) (hv : ∀ l, v = some l → l < x_nl x) : Iv (u_ln x (va_up (x_ln x) p v)) := by
  obtain ⟨h1, h2, h3, h4, h5, h6, h7, h8, h9, h10, h11⟩ := h
  refine ⟨h1, h2, h3, h4, h5, h6, h7, h8, h9, fun q l hq => ?_, h11⟩
  have hq : va_up (x_ln x) p v q = some l := hq
  simp only [va_up] at hq
  split at hq
  · exact hv l hq
  · exact h10 q l hq
theorem Iv_ol {x : zSt} {u v : Nat} (h : Iv x) : Iv (ol x u v) := Iv_nb (Iv_ln (Iv_ol1 h).1 (fun l hl => by cases hl; exact (Iv_ol1 h).2))
theorem nI_le0 {n : Nat} (h : n < 2 ^ 31) : nI n ≤ 0 ↔ n ≤ 0 := (zK (K := 0) (by decide) h).2.2.2.2
def T_WR_openLane (As : List zAV) (M : zMp) (Rt : Option zAV → zMp → Prop) : Prop := ∃ x u v, As = [.inr (0, 0, 0), .inl (.int (nI u)), .inl (.int (nI v))] ∧ M = pic x ∧ Iv x ∧ u < 12 ∧ v < 12 ∧ Rt none (pic (ol x u v))
def co_WR_openLane : List zAV → zMp → Nat × Nat := fun _ _ => (7, 260)
theorem dX6_openLane_0 : decode cX6_openLane 0 = .ok (.aload_n 0, 1) := by decide +kernel
theorem dX6_openLane_1 : decode cX6_openLane 1 = .ok (.getfield 32, 3) := by decide +kernel
theorem dX6_openLane_4 : decode cX6_openLane 4 = .ok (.invokevirtual 96, 3) := by decide +kernel
theorem dX6_openLane_7 : decode cX6_openLane 7 = .ok (.istore_n 3, 1) := by decide +kernel
theorem dX6_openLane_8 : decode cX6_openLane 8 = .ok (.aload_n 0, 1) := by decide +kernel
theorem dX6_openLane_9 : decode cX6_openLane 9 = .ok (.getfield 28, 3) := by decide +kernel
theorem dX6_openLane_12 : decode cX6_openLane 12 = .ok (.iload_n 1, 1) := by decide +kernel
theorem dX6_openLane_13 : decode cX6_openLane 13 = .ok (.bipush 12, 2) := by decide +kernel
theorem dX6_openLane_15 : decode cX6_openLane 15 = .ok (.imul, 1) := by decide +kernel
theorem dX6_openLane_16 : decode cX6_openLane 16 = .ok (.iload_n 2, 1) := by decide +kernel
theorem dX6_openLane_17 : decode cX6_openLane 17 = .ok (.iadd, 1) := by decide +kernel
theorem dX6_openLane_18 : decode cX6_openLane 18 = .ok (.iload_n 3, 1) := by decide +kernel
theorem dX6_openLane_19 : decode cX6_openLane 19 = .ok (.ifCond .le 19, 3) := by decide +kernel
theorem dX6_openLane_22 : decode cX6_openLane 22 = .ok (.aload_n 0, 1) := by decide +kernel
theorem dX6_openLane_23 : decode cX6_openLane 23 = .ok (.getfield 32, 3) := by decide +kernel
theorem dX6_openLane_26 : decode cX6_openLane 26 = .ok (.iload_n 3, 1) := by decide +kernel
theorem dX6_openLane_27 : decode cX6_openLane 27 = .ok (.iconst 1, 1) := by decide +kernel
theorem dX6_openLane_28 : decode cX6_openLane 28 = .ok (.isub, 1) := by decide +kernel
theorem dX6_openLane_29 : decode cX6_openLane 29 = .ok (.invokevirtual 231, 3) := by decide +kernel
theorem dX6_openLane_32 : decode cX6_openLane 32 = .ok (.checkcast 26, 3) := by decide +kernel
theorem dX6_openLane_35 : decode cX6_openLane 35 = .ok (.goto 10, 3) := by decide +kernel
theorem dX6_openLane_38 : decode cX6_openLane 38 = .ok (.new 26, 3) := by decide +kernel
theorem dX6_openLane_41 : decode cX6_openLane 41 = .ok (.dup, 1) := by decide +kernel
theorem dX6_openLane_42 : decode cX6_openLane 42 = .ok (.invokespecial 234, 3) := by decide +kernel
theorem dX6_openLane_45 : decode cX6_openLane 45 = .ok (.aastore, 1) := by decide +kernel
theorem dX6_openLane_46 : decode cX6_openLane 46 = .ok (.aload_n 0, 1) := by decide +kernel
theorem dX6_openLane_47 : decode cX6_openLane 47 = .ok (.getfield 22, 3) := by decide +kernel
theorem dX6_openLane_50 : decode cX6_openLane 50 = .ok (.iload_n 1, 1) := by decide +kernel
theorem dX6_openLane_51 : decode cX6_openLane 51 = .ok (.dup2, 1) := by decide +kernel
theorem dX6_openLane_52 : decode cX6_openLane 52 = .ok (.iaload, 1) := by decide +kernel
theorem dX6_openLane_53 : decode cX6_openLane 53 = .ok (.iconst 1, 1) := by decide +kernel
theorem dX6_openLane_54 : decode cX6_openLane 54 = .ok (.iload_n 2, 1) := by decide +kernel
theorem dX6_openLane_55 : decode cX6_openLane 55 = .ok (.ishl, 1) := by decide +kernel
theorem dX6_openLane_56 : decode cX6_openLane 56 = .ok (.ior, 1) := by decide +kernel
theorem dX6_openLane_57 : decode cX6_openLane 57 = .ok (.iastore, 1) := by decide +kernel
theorem dX6_openLane_58 : decode cX6_openLane 58 = .ok (.return_, 1) := by decide +kernel
def B_WR_openLane_45 (mc ms : Nat) (Rt : Option zAV → zMp → Prop) (g : Nat → zKT) : zKT :=
  (i_aas "WishRoutes$Lane" (i_al 0 (i_gf 7 3 (i_il 1 (i_dup2 (i_ial (i_ic 1 (i_il 2 (i_ishl (i_ior (i_ias (i_vret mc ms Rt))))))))))))
set_option maxRecDepth 20000 in
theorem s_WR_openLane_45 {X : zMa} {mc ms : Nat} {Rt : Option zAV → zMp → Prop} (hC : zCx X RX6 cX6_openLane 3 86 mc ms (none) false Rt) (hN : zNL X = 4) : zLe (B_WR_openLane_45 mc ms Rt (zG X)) (zG X 45) :=
  (sd_aas hC dX6_openLane_45 ((sd_al_n hC rfl dX6_openLane_46 ((sd_gf hC (ci := 7) (fk := 3) rfl wi_WR (by decide) fl_WR_22 (Or.inl rfl) dX6_openLane_47 ((sd_il_n hC rfl dX6_openLane_50 ((sd_dup2 hC dX6_openLane_51 ((sd_ial hC dX6_openLane_52 ((sd_iconst hC (by decide) dX6_openLane_53 ((sd_il_n hC rfl dX6_openLane_54 ((sd_ishl hC dX6_openLane_55 ((sd_ior hC dX6_openLane_56 ((sd_ias hC dX6_openLane_57 ((sd_vret hC dX6_openLane_58)))))))))))))))))))))))
def B_WR_openLane_38 (mc ms : Nat) (Rt : Option zAV → zMp → Prop) (g : Nat → zKT) : zKT :=
  (i_new mc ms 2 6 [.inl .null, .inl .null, .inl (.int 0), .inl .null, .inl .null, .inl (.int 0)] (i_dup (i_callI mc ms 1 T_Lane_init co_Lane_init (B_WR_openLane_45 mc ms Rt g))))
set_option maxRecDepth 20000 in
theorem s_WR_openLane_38 {X : zMa} {mc ms : Nat} {Rt : Option zAV → zMp → Prop} (hC : zCx X RX6 cX6_openLane 3 86 mc ms (none) false Rt) (hN : zNL X = 4) : zLe (B_WR_openLane_38 mc ms Rt (zG X)) (zG X 38) :=
  (sd_new hC (ci := 2) rfl wi_Lane tyX1 tyX1_ok cl_WR_26 in_Lane iz_Lane (by decide) (by intro n h; simp at h) dX6_openLane_38 ((sd_dup hC dX6_openLane_41 ((sd_cIN hC c_Lane_init yi_Lane_init mn_WR_234 (by decide) (by decide) dX6_openLane_42 (s_WR_openLane_45 hC hN))))))
def B_WR_openLane_0 (mc ms : Nat) (Rt : Option zAV → zMp → Prop) (g : Nat → zKT) : zKT :=
  (i_al 0 (i_gf 7 5 (i_callV mc ms 0 1 T_AL_size co_AL_size (i_is 3 (i_al 0 (i_gf 7 4 (i_il 1 (i_ic 12 (i_imul (i_il 2 (i_iadd (i_il 3 (i_ifle (B_WR_openLane_38 mc ms Rt g) (i_al 0 (i_gf 7 5 (i_il 3 (i_ic 1 (i_isub (i_callV mc ms 0 2 T_AL_remove co_AL_remove (i_cast "WishRoutes$Lane" (B_WR_openLane_45 mc ms Rt g)))))))))))))))))))))
set_option maxRecDepth 20000 in
theorem s_WR_openLane_0 {X : zMa} {mc ms : Nat} {Rt : Option zAV → zMp → Prop} (hC : zCx X RX6 cX6_openLane 3 86 mc ms (none) false Rt) (hN : zNL X = 4) : zLe (B_WR_openLane_0 mc ms Rt (zG X)) (zG X 0) :=
  (sd_al_n hC rfl dX6_openLane_0 ((sd_gf hC (ci := 7) (fk := 5) rfl wi_WR (by decide) fl_WR_32 (Or.inl rfl) dX6_openLane_1 ((sd_cV hC c_AL_size yv_AL_size (ci := 0) rfl rfl ml_WR_96 (by decide) (by decide) dX6_openLane_4 ((sd_is_n hC rfl (by rw [hN]; decide) dX6_openLane_7 ((sd_al_n hC rfl dX6_openLane_8 ((sd_gf hC (ci := 7) (fk := 4) rfl wi_WR (by decide) fl_WR_28 (Or.inl rfl) dX6_openLane_9 ((sd_il_n hC rfl dX6_openLane_12 ((sd_bipush hC (by decide) dX6_openLane_13 ((sd_imul hC dX6_openLane_15 ((sd_il_n hC rfl dX6_openLane_16 ((sd_iadd hC dX6_openLane_17 ((sd_il_n hC rfl dX6_openLane_18 ((sd_ifle hC (tgt := 38) (by decide) dX6_openLane_19 (s_WR_openLane_38 hC hN) ((sd_al_n hC rfl dX6_openLane_22 ((sd_gf hC (ci := 7) (fk := 5) rfl wi_WR (by decide) fl_WR_32 (Or.inl rfl) dX6_openLane_23 ((sd_il_n hC rfl dX6_openLane_26 ((sd_iconst hC (by decide) dX6_openLane_27 ((sd_isub hC dX6_openLane_28 ((sd_cV hC c_AL_remove yv_AL_remove (ci := 0) rfl rfl ml_WR_231 (by decide) (by decide) dX6_openLane_29 ((sd_cast hC cl_WR_26 dX6_openLane_32 ((sd_goto hC (tgt := 45) (by decide) dX6_openLane_35 (s_WR_openLane_45 hC hN))))))))))))))))))))))))))))))))))))))))))
theorem c_WR_openLane (l : Launch) : zCT l yX6_openLane cX6_openLane 4 (none) 3 86 T_WR_openLane co_WR_openLane := by
  intro As M Rt hT
  obtain ⟨x, u, v, rfl, rfl, hI, hu, hv, hR⟩ := hT
  have hlim := hI.lim
  refine zMet_of false (by decide +kernel) (fun h => by first | rfl | cases h) (Nat.le_of_ble_eq_true rfl) (fun X hN hC => ?_)
  show zG X 0 [some (.inr (0, 0, 0)), some (.inl (.int (nI u))), some (.inl (.int (nI v))), none] [] (pic x) 0 0
  have e : nI u * 12 + nI v = nI (12 * u + v) := by
    rw [show (12 : Int32) = nI 12 from rfl, pk_mul, nI_add]
    congr 1
    omega
  have fin : ∀ y q k1 k2 j3, Iv y → q < x_nl y → u_nb (u_ln y (va_up (x_ln y) (12 * u + v) (some q))) (upd (x_nb y) u (x_nb y u ||| (1 <<< (nI v &&& 31)))) = ol x u v → k1 ≤ 7 → k2 ≤ 260 → B_WR_openLane_45 7 260 Rt (zG X) [some (.inr (0, 0, 0)), some (.inl (.int (nI u))), some (.inl (.int (nI v))), j3] [.inr (16, q, 0), .inl (.int (nI (12 * u + v))), .inr (4, 0, 0)] (pic y) k1 k2 := by
    intro y q k1 k2 j3 hIy hq hy hk1 hk2
    simp only [B_WR_openLane_0, B_WR_openLane_38, B_WR_openLane_45, co_AL_remove, co_AL_size, co_Lane_init, co_WR_openLane, i_ic, i_lc, i_nul, i_il, i_ll, i_al, i_is, i_as, i_ls, i_inc, i_iadd, i_isub, i_imul, i_iand, i_ior, i_ixor, i_idiv, i_irem, i_ishl, i_ishr, i_ladd, i_lsub, i_land, i_lor, i_i2l, i_lushr, i_lshl, i_lshr, i_lcmp, i_dup, i_pop, i_dx1, i_dup2, i_ifeq, i_ifne, i_iflt, i_ifge, i_ifgt, i_ifle, i_iceq, i_icne, i_iclt, i_icge, i_icgt, i_icle, i_ifn, i_gf, i_pf, i_ial, i_bal, i_lal, i_aal, i_ias, i_las, i_bas, i_aas, i_alen, i_newa, i_new, i_anew, i_cast, i_oi, i_call, i_callV, i_callV2, i_callI, i_iret, i_zret, i_lret, i_vret, i_aret, i_mmx, i_mmn, i_gsE, i_aceq, i_no, i_acq, i_sw, zsw, zlg, zls, znl, zfg, zcs, zsp, zrc, zisn, zft, zc1, zto, Value.category, List.set_cons_zero, List.set_cons_succ, List.length_cons, List.length_nil, Option.toList, List.append, List.nil_append, List.cons_append, true_and, and_true, Nat.add_zero, Nat.zero_le, Nat.zero_add, Nat.le_refl, Nat.reduceAdd, Nat.reduceLeDiff, co0, z0, zn_0, zn_1, zn_2, zn_3, zn_4, zn_5, zn_8, zn_12, zn_24, zn_121, zn_144, zn_256, zn_300, zn_600, zn_720, zn_1204, zn_1280, zn_2400, zn_4816, zn_14400, zn_90000, p_ln, zok, p_lane hq, x_lane]
    rw [nI_clamp (by omega)]
    refine ⟨m_k (by decide), vp_in_nI (by omega) (by decide), zk_Lane_Lane, ?_⟩
    have e2 := pu_ln y (va_up (x_ln y) (12 * u + v) (some q))
    have e3 : (fun p => (va_up (x_ln y) (12 * u + v) (some q) p).map (fun l => ((16, l, 0) : zNm))) = va_up (fun p => (x_ln y p).map (fun l => ((16, l, 0) : zNm))) (12 * u + v) (some (16, q, 0)) := by
      funext p
      simp only [va_up]
      split <;> rfl
    rw [e3] at e2
    rw [e2]
    simp only [p_main, x_main, p_nb, i_ic, i_lc, i_nul, i_il, i_ll, i_al, i_is, i_as, i_ls, i_inc, i_iadd, i_isub, i_imul, i_iand, i_ior, i_ixor, i_idiv, i_irem, i_ishl, i_ishr, i_ladd, i_lsub, i_land, i_lor, i_i2l, i_lushr, i_lshl, i_lshr, i_lcmp, i_dup, i_pop, i_dx1, i_dup2, i_ifeq, i_ifne, i_iflt, i_ifge, i_ifgt, i_ifle, i_iceq, i_icne, i_iclt, i_icge, i_icgt, i_icle, i_ifn, i_gf, i_pf, i_ial, i_bal, i_lal, i_aal, i_ias, i_las, i_bas, i_aas, i_alen, i_newa, i_new, i_anew, i_cast, i_oi, i_call, i_callV, i_callV2, i_callI, i_iret, i_zret, i_lret, i_vret, i_aret, i_mmx, i_mmn, i_gsE, i_aceq, i_no, i_acq, i_sw, zsw, zlg, zls, znl, zfg, zcs, zsp, zrc, zisn, zft, zc1, zto, Value.category, List.set_cons_zero, List.set_cons_succ, List.length_cons, List.length_nil, Option.toList, List.append, List.nil_append, List.cons_append, true_and, and_true, Nat.add_zero, Nat.zero_le, Nat.zero_add, Nat.le_refl, Nat.reduceAdd, Nat.reduceLeDiff, co0, z0, zn_0, zn_1, zn_2, zn_3, zn_4, zn_5, zn_8, zn_12, zn_24, zn_121, zn_144, zn_256, zn_300, zn_600, zn_720, zn_1204, zn_1280, zn_2400, zn_4816, zn_14400, zn_90000]
    rw [nI_clamp (by omega)]
    refine ⟨vp_in_nI hu (by decide), m_k (by decide), vp_in_nI hu (by decide), ?_⟩
    rw [pu_nb]
    refine ⟨hk1, hk2, ?_⟩
    rw [← hy] at hR
    exact hR
  refine s_WR_openLane_0 hC hN _ _ _ _ _ ?_
  simp only [B_WR_openLane_0, B_WR_openLane_38, co_AL_remove, co_AL_size, co_Lane_init, co_WR_openLane, i_ic, i_lc, i_nul, i_il, i_ll, i_al, i_is, i_as, i_ls, i_inc, i_iadd, i_isub, i_imul, i_iand, i_ior, i_ixor, i_idiv, i_irem, i_ishl, i_ishr, i_ladd, i_lsub, i_land, i_lor, i_i2l, i_lushr, i_lshl, i_lshr, i_lcmp, i_dup, i_pop, i_dx1, i_dup2, i_ifeq, i_ifne, i_iflt, i_ifge, i_ifgt, i_ifle, i_iceq, i_icne, i_iclt, i_icge, i_icgt, i_icle, i_ifn, i_gf, i_pf, i_ial, i_bal, i_lal, i_aal, i_ias, i_las, i_bas, i_aas, i_alen, i_newa, i_new, i_anew, i_cast, i_oi, i_call, i_callV, i_callV2, i_callI, i_iret, i_zret, i_lret, i_vret, i_aret, i_mmx, i_mmn, i_gsE, i_aceq, i_no, i_acq, i_sw, zsw, zlg, zls, znl, zfg, zcs, zsp, zrc, zisn, zft, zc1, zto, Value.category, List.set_cons_zero, List.set_cons_succ, List.length_cons, List.length_nil, Option.toList, List.append, List.nil_append, List.cons_append, true_and, and_true, Nat.add_zero, Nat.zero_le, Nat.zero_add, Nat.le_refl, Nat.reduceAdd, Nat.reduceLeDiff, co0, z0, zn_0, zn_1, zn_2, zn_3, zn_4, zn_5, zn_8, zn_12, zn_24, zn_121, zn_144, zn_256, zn_300, zn_600, zn_720, zn_1204, zn_1280, zn_2400, zn_4816, zn_14400, zn_90000, p_main, x_main, p_list (i := 3) (by decide)]
  refine ⟨(1, 3, 0), _, _, _, rfl, p_list (by decide), ?_⟩
  have hsz : x_sz x 3 = x_ns x := rfl
  rw [hsz]
  simp only [p_main, x_main, p_list (i := 3) (by decide), i_ic, i_lc, i_nul, i_il, i_ll, i_al, i_is, i_as, i_ls, i_inc, i_iadd, i_isub, i_imul, i_iand, i_ior, i_ixor, i_idiv, i_irem, i_ishl, i_ishr, i_ladd, i_lsub, i_land, i_lor, i_i2l, i_lushr, i_lshl, i_lshr, i_lcmp, i_dup, i_pop, i_dx1, i_dup2, i_ifeq, i_ifne, i_iflt, i_ifge, i_ifgt, i_ifle, i_iceq, i_icne, i_iclt, i_icge, i_icgt, i_icle, i_ifn, i_gf, i_pf, i_ial, i_bal, i_lal, i_aal, i_ias, i_las, i_bas, i_aas, i_alen, i_newa, i_new, i_anew, i_cast, i_oi, i_call, i_callV, i_callV2, i_callI, i_iret, i_zret, i_lret, i_vret, i_aret, i_mmx, i_mmn, i_gsE, i_aceq, i_no, i_acq, i_sw, zsw, zlg, zls, znl, zfg, zcs, zsp, zrc, zisn, zft, zc1, zto, Value.category, List.set_cons_zero, List.set_cons_succ, List.length_cons, List.length_nil, Option.toList, List.append, List.nil_append, List.cons_append, true_and, and_true, Nat.add_zero, Nat.zero_le, Nat.zero_add, Nat.le_refl, Nat.reduceAdd, Nat.reduceLeDiff, co0, z0, zn_0, zn_1, zn_2, zn_3, zn_4, zn_5, zn_8, zn_12, zn_24, zn_121, zn_144, zn_256, zn_300, zn_600, zn_720, zn_1204, zn_1280, zn_2400, zn_4816, zn_14400, zn_90000]
  rw [e]
  have hcap := hI.cap 3 (by decide)
  rw [hsz] at hcap
  have hz := nI_le0 (n := x_ns x) (by omega)
  refine ⟨fun h => ?_, fun h => ?_⟩
  · have hs : ¬ 0 < x_ns x := fun q => absurd (hz.mp h) (by omega)
    have frr2 : x_rw x 2 (x_nl x) = none := if_neg (Nat.lt_irrefl _)
    have frr3 : x_rw x 3 (x_nl x) = none := if_neg (Nat.lt_irrefl _)
    have n0 : ∀ k i j, ¬ (k = 16 ∧ i = x_nl x ∧ j = 0) → ((k, i, j) : zNm) ≠ (16, x_nl x, 0) := fun k i j h => nm_ne h
    refine ⟨(16, x_nl x, 0), if_neg (fun q => absurd q.1 (Nat.lt_irrefl _)), m_k (by decide), x_nl x, rfl, zup_s, ?_, ?_, ?_, ?_, ?_, ?_, ?_⟩
    · rw [zup_o (nm_ne (by omega))]; show (x_rw x 2 (x_nl x)).map _ = none; rw [frr2]; rfl
    · rw [zup_o (nm_ne (by omega))]; show (x_rw x 2 (x_nl x)).map _ = none; rw [frr2]; rfl
    · rw [zup_o (nm_ne (by omega))]; show (x_rw x 3 (x_nl x)).map _ = none; rw [frr3]; rfl
    · rw [zup_o (nm_ne (by omega))]; show (x_rw x 3 (x_nl x)).map _ = none; rw [frr3]; rfl
    · rw [zup_o (nm_ne (by omega))]; exact if_neg (fun q => absurd q.1 (Nat.lt_irrefl _))
    · rw [zup_o (nm_ne (by omega))]; exact if_neg (fun q => absurd q.1 (Nat.lt_irrefl _))
    · rw [pu_nln]
      refine fin (nw_ln x) (x_nl x) _ _ _ (Iv_nln hI) (Nat.lt_succ_self _) ?_ (by decide) (by decide)
      unfold ol ol_1 ol_l
      rw [if_neg hs, if_neg hs]
  · have hs : 0 < x_ns x := by
      have : ¬ x_ns x ≤ 0 := fun q => h (hz.mpr (by omega))
      omega
    obtain ⟨m, hm⟩ : ∃ m, x_ns x = m + 1 := ⟨x_ns x - 1, by omega⟩
    have hd : zmo (x_dn x 3) := by
      have ed : x_dn x 3 = (2, 3, x_cp x 3) := if_neg (by omega)
      rw [ed]
      exact m_k (by decide)
    rw [show nI (x_ns x) - 1 = nI m by rw [hm, nI_pm]]
    refine ⟨(1, 3, 0), x_lc x 3, x_dn x 3, m, x_cp x 3, x_el x 3, (16, x_sp x m, 0), rfl, m_k (by decide), hd, ?_, p_dat (by decide) (by omega), by omega, hcap.2, ?_, ?_⟩
    · rw [p_list (by decide), hsz, hm]
    · show (if m < x_ns x then some (16, x_sp x m, 0) else none) = _
      rw [if_pos (by omega)]
    · have e4 := pu_sp x hI hs
      have e5 : x_ns x - 1 = m := by omega
      rw [e5] at e4
      rw [e4]
      have hq : x_sp x m < x_nl (sp_x x) := hI.sp m (by omega)
      simp only [zok, p_lane hq, x_lane, i_ic, i_lc, i_nul, i_il, i_ll, i_al, i_is, i_as, i_ls, i_inc, i_iadd, i_isub, i_imul, i_iand, i_ior, i_ixor, i_idiv, i_irem, i_ishl, i_ishr, i_ladd, i_lsub, i_land, i_lor, i_i2l, i_lushr, i_lshl, i_lshr, i_lcmp, i_dup, i_pop, i_dx1, i_dup2, i_ifeq, i_ifne, i_iflt, i_ifge, i_ifgt, i_ifle, i_iceq, i_icne, i_iclt, i_icge, i_icgt, i_icle, i_ifn, i_gf, i_pf, i_ial, i_bal, i_lal, i_aal, i_ias, i_las, i_bas, i_aas, i_alen, i_newa, i_new, i_anew, i_cast, i_oi, i_call, i_callV, i_callV2, i_callI, i_iret, i_zret, i_lret, i_vret, i_aret, i_mmx, i_mmn, i_gsE, i_aceq, i_no, i_acq, i_sw, zsw, zlg, zls, znl, zfg, zcs, zsp, zrc, zisn, zft, zc1, zto, Value.category, List.set_cons_zero, List.set_cons_succ, List.length_cons, List.length_nil, Option.toList, List.append, List.nil_append, List.cons_append, true_and, and_true, Nat.add_zero, Nat.zero_le, Nat.zero_add, Nat.le_refl, Nat.reduceAdd, Nat.reduceLeDiff, co0, z0, zn_0, zn_1, zn_2, zn_3, zn_4, zn_5, zn_8, zn_12, zn_24, zn_121, zn_144, zn_256, zn_300, zn_600, zn_720, zn_1204, zn_1280, zn_2400, zn_4816, zn_14400, zn_90000]
      refine ⟨zk_Lane_Lane, ?_⟩
      refine fin (sp_x x) (x_sp x m) _ _ _ (Iv_sp hI) hq ?_ (by decide) (by decide)
      unfold ol ol_1 ol_l
      rw [if_pos hs, if_pos hs, e5]
