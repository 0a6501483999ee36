/-! a call of the class and the same call of the reference: what is asked -/
theorem msY_n {y : zMS} {u v : Int32} : ∀ n m (b : Int32), (∀ j, m ≤ j → j < m + n → ¬ (nI (y_fr y j) = u ∧ nI (y_tt y j) = v)) → msY y u v n m b = -1
  | 0, _, _, _ => rfl
  | n + 1, m, b, h => by
    simp only [msY]
    rw [if_neg (h m (Nat.le_refl _) (by omega))]
    exact msY_n n (m + 1) b (fun j h1 h2 => h j (by omega) (by omega))
theorem lsI_0 (b : Int32) : lsI [] b = -1 := rfl
theorem p_message (u v i : Int32) : zPR (zL1 T_WR_message co_WR_message) (zL1 T_Mo_message co_Mo_message) [.inl (.int u), .inl (.int v), .inl (.int i)] := fun x y A h => by
  obtain ⟨hX, hY, hA, hQ⟩ := id h
  have lm := hA.1.lim
  have ex : x_dk x = a_dk A := hX.1.sc.1
  have ey : y_dk y = a_dk A := hY.1.sc.1
  have hJv := hY.2.2.2
  by_cases hi : i < 0
  · refine px_k h (-1) 0 0 (by omega) (by omega) (fun Rt hR => ⟨rfl, rfl, x, u, v, i, rfl, rfl, hQ.1, fun _ => hR, fun l hl => ?_⟩) (fun Rt hR => ⟨rfl, rfl, y, u, v, i, rfl, rfl, hY.2.2.2, fun _ => hR, fun z => absurd hi z⟩)
    unfold la_item
    rw [if_neg (fun z => z.1 hi)]; exact hR
  · by_cases hn : isn 12 u = true ∧ isn 12 v = true
    · obtain ⟨p, hp, rfl⟩ := isn_t (by decide) hn.1
      obtain ⟨q, hq, rfl⟩ := isn_t (by decide) hn.2
      have e1 : msY y (nI p) (nI q) (y_ms y) 0 i = lsI (a_q A p q) i := by
        rw [msY_e hY hp hq (y_ms y) 0 i (by omega)]
        exact congrArg (fun z => lsI z i) (hY.2.1 p q hp hq).2.1
      cases hl : a_lk A p q with
      | false =>
        have e2 : lsI (a_q A p q) i = -1 := by rw [(hA.1.un p q hl).1]; rfl
        refine px_k h (-1) 0 0 (by omega) (by omega) (fun Rt hR => ⟨rfl, rfl, x, nI p, nI q, i, rfl, rfl, hQ.1, fun _ => hR, fun l hf => ?_⟩) (fun Rt hR => ⟨rfl, rfl, y, nI p, nI q, i, rfl, rfl, hY.2.2.2, fun z => absurd z hi, fun _ => by rw [e1, e2]; exact hR⟩)
        exfalso
        by_cases hd : isn (x_dk x) (nI p) = true ∧ isn (x_dk x) (nI q) = true
        · obtain ⟨p', hp', ep⟩ := isn_t (by omega) hd.1
          obtain ⟨q', hq', eq⟩ := isn_t (by omega) hd.2
          have hp2 : p < x_dk x := by rw [(nI_eq (by omega) (by omega)).mp ep]; exact hp'
          have hq2 : q < x_dk x := by rw [(nI_eq (by omega) (by omega)).mp eq]; exact hq'
          rw [lnF_n hQ.1.dk hp2 hq2, (hX.2.1 p q hp hq).1 hl] at hf
          cases hf
        · rw [lnF_0 hd] at hf; cases hf
      | true =>
        have hpd := (hA.1.lk p q hl).2
        have hqd := (hA.1.lk q p (hA.1.lk p q hl).1).2
        rcases lnF_r hX.1 hX.2.1 hA.1 hpd hqd with ⟨h0, _⟩ | ⟨_, l, hf, _, hr⟩
        · rw [hl] at h0; cases h0
        · have hlen : (a_q A p q).length ≤ 121 := by
            rw [← hr.1]
            rcases lnF_c hQ.1 (nI p) (nI q) with z | ⟨l', e, h'⟩
            · rw [hf] at z; cases z
            · rw [hf] at e; cases e; exact h'.2.1
          refine px_k h (lsI (a_q A p q) i) 0 0 (by omega) (by omega) (fun Rt hR => ⟨rfl, rfl, x, nI p, nI q, i, rfl, rfl, hQ.1, fun z => ?_, fun l' hl' => ?_⟩) (fun Rt hR => ⟨rfl, rfl, y, nI p, nI q, i, rfl, rfl, hY.2.2.2, fun z => absurd z hi, fun _ => by rw [e1]; exact hR⟩)
          · rw [hf] at z; cases z
          · rw [hf] at hl'; cases hl'
            rw [msg_e hr hlen hi]; exact hR
    · have e1 : msY y u v (y_ms y) 0 i = -1 := msY_n _ _ _ (fun j _ hj z => by
        have hm := hJv.ms j (by omega)
        exact hn ⟨by rw [← z.1]; exact isn_n (by decide) hm.1, by rw [← z.2]; exact isn_n (by decide) hm.2.1⟩)
      have hd : ¬ (isn (x_dk x) u = true ∧ isn (x_dk x) v = true) := fun z => by
        obtain ⟨p', hp', ep⟩ := isn_t (by omega) z.1
        obtain ⟨q', hq', eq⟩ := isn_t (by omega) z.2
        exact hn ⟨by rw [ep]; exact isn_n (by decide) (by omega), by rw [eq]; exact isn_n (by decide) (by omega)⟩
      refine px_k h (-1) 0 0 (by omega) (by omega) (fun Rt hR => ⟨rfl, rfl, x, u, v, i, rfl, rfl, hQ.1, fun _ => hR, fun l hf => ?_⟩) (fun Rt hR => ⟨rfl, rfl, y, u, v, i, rfl, rfl, hY.2.2.2, fun z => absurd z hi, fun _ => by rw [e1]; exact hR⟩)
      rw [lnF_0 hd] at hf; cases hf
theorem p_heard (r i : Int32) : zPR (zL1 T_WR_heard co_WR_heard) (zL1 T_Mo_heard co_Mo_heard) [.inl (.int r), .inl (.int i)] := fun x y A h => by
  obtain ⟨hX, hY, hA, hQ⟩ := id h
  have lm := hA.1.lim
  have ex : x_nr x = a_nr A := hX.1.sc.2.1
  have ey : y_nr y = a_nr A := hY.1.sc.2.1
  rcases isn_c (n := a_nr A) (by omega) r with h1 | ⟨k, hk, ek, h1⟩
  · refine px_k h (-1) 0 0 (by omega) (by omega) (fun Rt hR => ⟨rfl, rfl, x, r, i, rfl, rfl, hQ.1, fun _ => hR, fun k hk e => ?_⟩) (fun Rt hR => ⟨rfl, rfl, y, r, i, rfl, rfl, hY.2.2.2, fun _ => hR, fun k hk e => ?_⟩)
    · rw [e, isn_n (by omega) (by omega)] at h1; exact absurd h1 (by decide)
    · rw [e, isn_n (by omega) (by omega)] at h1; exact absurd h1 (by decide)
  · have e1 : (if ¬ i < 0 ∧ i < nI (x_rz x k) then x_rh x k i.toNatClampNeg else -1) = (if ¬ i < 0 ∧ i < nI (y_hm y k) then y_he y (600 * k + i.toNatClampNeg) else -1) := by
      have hx := hX.1.rd k hk
      have hy := hY.1.hm k (by omega)
      have hz := hY.2.2.2.hm k (by omega)
      rw [hx.2.1, hy.1 hk]
      have hrz : a_rz A k ≤ 600 := by rw [← hy.1 hk]; exact hz
      by_cases hc : ¬ i < 0 ∧ i < nI (a_rz A k)
      · rw [if_pos hc, if_pos hc]
        obtain ⟨j, hj, rfl⟩ := isn_t (n := a_rz A k) (by omega) (zd_t hc)
        rw [nI_clamp (by omega), hx.2.2 j hj, hy.2.2 j hk hj]
      · rw [if_neg hc, if_neg hc]
    refine px_k h (if ¬ i < 0 ∧ i < nI (x_rz x k) then x_rh x k i.toNatClampNeg else -1) 0 0 (by omega) (by omega) (fun Rt hR => ⟨rfl, rfl, x, r, i, rfl, rfl, hQ.1, fun z => ?_, fun k' hk' e => ?_⟩) (fun Rt hR => ⟨rfl, rfl, y, r, i, rfl, rfl, hY.2.2.2, fun z => ?_, fun k' hk' e => ?_⟩)
    · rw [ex, h1] at z; exact absurd z (by decide)
    · have q1 : k' = k := nI_ij (n := a_nr A) (by omega) (by omega) hk (e.symm.trans ek)
      subst q1; exact hR
    · rw [ey, h1] at z; exact absurd z (by decide)
    · have q1 : k' = k := nI_ij (n := a_nr A) (by omega) (by omega) hk (e.symm.trans ek)
      subst q1
      rw [← e1]; exact hR
theorem p_notice (k w : Int32) : zPR (zL1 T_WR_notice co_WR_notice) (zL1 T_Mo_notice co_Mo_notice) [.inl (.int k), .inl (.int w)] := fun x y A h => by
  obtain ⟨hX, hY, hA, hQ⟩ := id h
  have lm := hA.1.lim
  have ex : x_nn x = a_nn A := hX.1.sc.2.2.2.1
  have ey : y_nn y = a_nn A := hY.1.sc.2.2.2.1
  rcases isn_c (n := a_nn A) (by omega) k with h1 | ⟨i, hi, ei, h1⟩
  · refine px_k h 0 0 0 (by omega) (by omega) (fun Rt hR => ⟨rfl, rfl, x, k, w, rfl, rfl, hQ.1, fun _ => hR, fun i hi e => ?_⟩) (fun Rt hR => ⟨rfl, rfl, y, k, w, rfl, rfl, hY.2.2.2, fun _ => hR, fun i hi e => ?_⟩)
    · rw [e, isn_n (by omega) (by omega)] at h1; exact absurd h1 (by decide)
    · rw [e, isn_n (by omega) (by omega)] at h1; exact absurd h1 (by decide)
  · have e1 : x_ntq x i w = y_ntq y i w := by
      unfold x_ntq y_ntq
      have hx := hX.1.nt i hi
      have hy := hY.1.nt i hi
      by_cases h4 : isn 4 w = true
      · rw [if_pos h4, if_pos h4]
        obtain ⟨j, hj, rfl⟩ := isn_t (by decide) h4
        rw [nI_clamp (by omega), hx.1, hy.1 j hj]
      · rw [if_neg h4, if_neg h4, hx.2.1, hy.2, hX.2.2.2 i hi, cn_y hY (by omega)]
    refine px_k h (x_ntq x i w) 0 0 (by omega) (by omega) (fun Rt hR => ⟨rfl, rfl, x, k, w, rfl, rfl, hQ.1, fun z => ?_, fun k' hk' e => ?_⟩) (fun Rt hR => ⟨rfl, rfl, y, k, w, rfl, rfl, hY.2.2.2, fun z => ?_, fun k' hk' e => ?_⟩)
    · rw [ex, h1] at z; exact absurd z (by decide)
    · have q1 : k' = i := nI_ij (n := a_nn A) (by omega) (by omega) hi (e.symm.trans ei)
      subst q1; exact hR
    · rw [ey, h1] at z; exact absurd z (by decide)
    · have q1 : k' = i := nI_ij (n := a_nn A) (by omega) (by omega) hi (e.symm.trans ei)
      subst q1
      rw [← e1]; exact hR
theorem tn_e {y : zMS} {t : Nat} {kd : Int32} {n : Nat} {g : Nat → Int32} (h : ts_r y t kd n g) (hk : tsok kd n g) : y_tn y t = n := by
  unfold y_tn
  rw [h.1]
  rcases hk with ⟨e, en⟩ | ⟨e, en, _⟩ | ⟨e, _⟩
  · rw [if_pos e, en]
  · rcases e with e | e
    · rw [if_neg (by rw [e]; decide), if_neg (by rw [e]; decide), en]
    · rw [if_neg (by rw [e]; decide), if_neg (by rw [e]; decide), en]
  · rw [if_neg (by rw [e]; decide), if_pos e, h.2.1 e]
theorem p_look (k q : Int32) : zPR (zL1 T_WR_look co_WR_look) (zL1 T_Mo_look co_Mo_look) [.inl (.int k), .inl (.int q)] := fun x y A h => by
  obtain ⟨hX, hY, hA, hQ⟩ := id h
  have lm := hA.1.lim
  have ex : x_nw x = a_nw A := hX.1.sc.2.2.1
  have ey : y_nw y = a_nw A := hY.1.sc.2.2.1
  rcases isn_c (n := a_nw A) (by omega) k with h1 | ⟨i, hi, ei, h1⟩
  · refine px_k h 0 0 0 (by omega) (by omega) (fun Rt hR => ⟨rfl, rfl, x, k, q, rfl, rfl, hQ.1, fun _ => hR, fun i hi e => ?_⟩) (fun Rt hR => ⟨rfl, rfl, y, k, q, rfl, rfl, hY.2.2.2, fun _ => hR, fun i hi e => ?_⟩)
    · rw [e, isn_n (by omega) (by omega)] at h1; exact absurd h1 (by decide)
    · rw [e, isn_n (by omega) (by omega)] at h1; exact absurd h1 (by decide)
  · have e1 : x_lkq x i q = y_lkq y i q := by
      unfold x_lkq y_lkq
      have hx := hX.1.ws i hi
      have hy := hY.1.ws i hi
      rw [hx.1, hx.2.1, hy.1, hy.2.1]
      by_cases q0 : q = 0
      · rw [if_pos q0, if_pos q0]
      · rw [if_neg q0, if_neg q0]
        by_cases q1 : q = 1
        · rw [if_pos q1, if_pos q1]
        · rw [if_neg q1, if_neg q1]
          by_cases q2 : ¬ q < 2 ∧ q < 6
          · rw [if_pos q2, if_pos q2]
            obtain ⟨c, hc1, hc2, rfl⟩ := nI_btw (a := 2) (b := 6) (by decide) (by decide) q2.1 q2.2
            have e2 : nI c - 2 = nI (c - 2) := pk_sub (a := c) (b := 2) hc1
            rw [e2, nI_clamp (by omega), (hX.1.ts i (c - 2) (by omega) (by omega)).1, (hY.1.ts i (c - 2) hi (by omega)).1]
          · rw [if_neg q2, if_neg q2]
            by_cases q3 : ¬ q < 10 ∧ q < 26
            · rw [if_pos q3, if_pos q3]
              obtain ⟨c, hc1, hc2, rfl⟩ := nI_btw (a := 10) (b := 26) (by decide) (by decide) q3.1 q3.2
              have e2 : nI c - 10 = nI (c - 10) := pk_sub (a := c) (b := 10) hc1
              rw [e2, nI_clamp (by omega)]
              have t1 := hX.1.ts i ((c - 10) / 4) (by omega) (by omega)
              have t2 := hY.1.ts i ((c - 10) / 4) hi (by omega)
              rw [t1.2.1, t1.2.2, tn_e t2 (hA.1.ts i ((c - 10) / 4) (by omega) (by omega))]
              unfold ft_at
              by_cases q4 : (c - 10) % 4 < a_fz A i ((c - 10) / 4)
              · rw [if_pos q4, if_pos q4, t2.2.2 _ q4]
              · rw [if_neg q4, if_neg q4]
            · rw [if_neg q3, if_neg q3]
    refine px_k h (x_lkq x i q) 0 0 (by omega) (by omega) (fun Rt hR => ⟨rfl, rfl, x, k, q, rfl, rfl, hQ.1, fun z => ?_, fun k' hk' e => ?_⟩) (fun Rt hR => ⟨rfl, rfl, y, k, q, rfl, rfl, hY.2.2.2, fun z => ?_, fun k' hk' e => ?_⟩)
    · rw [ex, h1] at z; exact absurd z (by decide)
    · have q1 : k' = i := nI_ij (n := a_nw A) (by omega) (by omega) hi (e.symm.trans ei)
      subst q1; exact hR
    · rw [ey, h1] at z; exact absurd z (by decide)
    · have q1 : k' = i := nI_ij (n := a_nw A) (by omega) (by omega) hi (e.symm.trans ei)
      subst q1
      rw [← e1]; exact hR
theorem p_count (w : Int32) : zPR (zL1 T_WR_count co_WR_count) (zL1 T_Mo_count co_Mo_count) [.inl (.int w)] := fun x y A h => by
  obtain ⟨hX, hY, hA, hQ⟩ := id h
  have e1 : x_cnt x w = y_cnt y w := by
    unfold x_cnt y_cnt
    have sx := hX.1.sc
    have sy := hY.1.sc
    rw [uw_x hX hA.1, uw_y hY hA.1, ml_x hX hA.1, tl_x hX hA.1, tl_e hY, lc_y hY hA.1, hX.1.lk, sx.1, sx.2.1, sx.2.2.1, sx.2.2.2.1, sx.2.2.2.2.1, sx.2.2.2.2.2.1, sx.2.2.2.2.2.2, ms_e hY, sy.1, sy.2.1, sy.2.2.1, sy.2.2.2.1, sy.2.2.2.2.1, sy.2.2.2.2.2.1, sy.2.2.2.2.2.2]
  exact px_k h (x_cnt x w) 0 0 (by omega) (by omega) (fun Rt hR => ⟨rfl, rfl, x, w, rfl, rfl, hQ.1, hR⟩) (fun Rt hR => ⟨rfl, rfl, y, w, rfl, rfl, hY.2.2.2, by rw [← e1]; exact hR⟩)
