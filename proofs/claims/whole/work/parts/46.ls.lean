/-! adding to one of the four lists -/
theorem x_el_hi {x : zSt} {i k : Nat} (h : x_sz x i ≤ k) : x_el x i k = none := by
  unfold x_sz at h
  unfold x_el
  by_cases h0 : i = 0
  · subst h0; have h : x_nr x ≤ k := h; show (if k < x_nr x then _ else none) = none; exact if_neg (by omega)
  · by_cases h1 : i = 1
    · subst h1; have h : x_nw x ≤ k := h; show (if k < x_nw x then _ else none) = none; exact if_neg (by omega)
    · by_cases h2 : i = 2
      · subst h2; have h : x_nn x ≤ k := h; show (if k < x_nn x then _ else none) = none; exact if_neg (by omega)
      · simp only [h0, h1, h2, if_false] at h ⊢; exact if_neg (by omega)
/-- list i after e was added -/
def ls_r (x x' : zSt) (i : Nat) (e : zNm) : Prop :=
  x_lc x' = va_up (x_lc x) i (x_lc x i + 1) ∧ x_cp x' = (if x_sz x i < x_cp x i then x_cp x else va_up (x_cp x) i (al_cap (x_sz x i))) ∧
  x_gb x' = (if x_sz x i < x_cp x i ∨ x_cp x i = 0 then x_gb x else va_u2 (x_gb x) i (x_cp x i) (some (zoa (x_cp x i) (x_el x i)))) ∧
  (∀ j, j < 4 → x_sz x' j = if j = i then x_sz x i + 1 else x_sz x j) ∧ (∀ j, j < 4 → x_el x' j = if j = i then va_up (x_el x i) (x_sz x i) (some e) else x_el x j) ∧
  ∀ k a b, k ≠ 1 → k ≠ 2 → pic x (k, a, b) = pic x' (k, a, b)
theorem ls_T {x x' : zSt} {i : Nat} {e : zNm} {Rt : Option zAV → zMp → Prop} (hi : i < 4) (hc : x_sz x i ≤ x_cp x i ∧ x_cp x i ≤ 1000) (hn : x_sz x i ≤ 600) (hg : ∀ j, x_gb x i j ≠ none → j < x_cp x i) (he : zok (pic x) sOb (.inr e)) (hne : (1, i, 0) ≠ e) (hel : ∀ k, k < x_sz x i → ∀ y, x_el x i k = some y → zok (pic x) sOb (.inr y)) (hS : ls_r x x' i e) (hR : Rt (some (.inl (.int 1))) (pic x')) : T_AL_add2 [.inr (1, i, 0), .inr e] (pic x) Rt := by
  obtain ⟨s1, s2, s3, s4, s5, s6⟩ := hS
  have z4 := s4 i hi
  have z5 := s5 i hi
  rw [if_pos rfl] at z4 z5
  by_cases hlt : x_sz x i < x_cp x i
  · have ed : x_dn x i = (2, i, x_cp x i) := if_neg (by omega)
    rw [if_pos hlt] at s2
    rw [if_pos (Or.inl hlt)] at s3
    refine ⟨(1, i, 0), e, _, x_dn x i, _, _, _, rfl, m_k (by decide), p_list hi, p_dat hi (by omega), hc.2, hn, by rw [pic_E]; simp, he, hne, Or.inl ⟨hlt, by rw [ed]; exact m_k (by decide), ?_⟩⟩
    refine zM (P := Rt _) ?_ hR
    funext n
    obtain ⟨k, a, b⟩ := n
    by_cases hq1 : (k, a, b) = (1, i, 0)
    · cases hq1
      rw [zup_s, p_list hi, z4, s1]
      have : x_dn x' i = x_dn x i := by unfold x_dn; rw [s2]
      rw [this]
      simp only [va_up, if_true]
    · rw [zup_o hq1]
      by_cases hq2 : (k, a, b) = (2, i, x_cp x i)
      · cases hq2
        rw [ed, zup_s]
        have e2 : x_cp x' i = x_cp x i := by rw [s2]
        refine Eq.symm ?_
        show (if i < 4 ∧ 0 < x_cp x i ∧ x_cp x i = x_cp x' i then some (zoa (x_cp x' i) (x_el x' i)) else x_gb x' i (x_cp x i)) = _
        rw [if_pos ⟨hi, by omega, e2.symm⟩, e2, z5]
      · rw [ed, zup_o hq2]
        by_cases k1 : k = 1
        · subst k1
          show (if a < 4 ∧ b = 0 then some (zal (x_lc x a) (x_dn x a) (x_sz x a)) else none) = (if a < 4 ∧ b = 0 then some (zal (x_lc x' a) (x_dn x' a) (x_sz x' a)) else none)
          by_cases hab : a < 4 ∧ b = 0
          · rw [if_pos hab, if_pos hab]
            have hai : a ≠ i := fun q => hq1 (by rw [q, hab.2])
            have e1 : x_lc x' a = x_lc x a := by rw [s1]; exact if_neg hai
            have e2 : x_dn x' a = x_dn x a := by unfold x_dn; rw [s2]
            have e3 : x_sz x' a = x_sz x a := by rw [s4 a hab.1, if_neg hai]
            rw [e1, e2, e3]
          · rw [if_neg hab, if_neg hab]
        · by_cases k2 : k = 2
          · subst k2
            show (if a < 4 ∧ 0 < b ∧ b = x_cp x a then some (zoa (x_cp x a) (x_el x a)) else x_gb x a b) = (if a < 4 ∧ 0 < b ∧ b = x_cp x' a then some (zoa (x_cp x' a) (x_el x' a)) else x_gb x' a b)
            rw [s2, s3]
            by_cases hab : a < 4 ∧ 0 < b ∧ b = x_cp x a
            · rw [if_pos hab, if_pos hab]
              have hai : a ≠ i := fun q => hq2 (by rw [hab.2.2, q])
              rw [s5 a hab.1, if_neg hai]
            · rw [if_neg hab, if_neg hab]
          · exact s6 k a b k1 k2
  · have hcap : x_cp x i = x_sz x i := by omega
    have hb := al_cap_b hn
    rw [if_neg hlt] at s2
    have hd : ∃ f, pic x (x_dn x i) = some (zoa (x_cp x i) f) ∧ va_cpy f (fun _ => none) 0 0 (x_sz x i) = x_el x i ∧ ∀ k, k < x_sz x i → f k = x_el x i k := by
      by_cases h0 : x_cp x i = 0
      · refine ⟨fun _ => none, ?_, ?_, fun k hk => absurd hk (by omega)⟩
        · unfold x_dn
          rw [if_pos h0, h0]
          exact pic_E x
        · funext k
          rw [x_el_hi (by omega)]
          simp only [va_cpy]
          split <;> rfl
      · refine ⟨x_el x i, p_dat hi (by omega), ?_, fun k _ => rfl⟩
        funext k
        simp only [va_cpy]
        split
        · next h => simp
        · next h => rw [x_el_hi (by omega)]
    obtain ⟨f, hf1, hf2, hf3⟩ := hd
    have hfree : pic x (2, i, al_cap (x_sz x i)) = none := by
      show (if i < 4 ∧ 0 < al_cap (x_sz x i) ∧ al_cap (x_sz x i) = x_cp x i then some (zoa (x_cp x i) (x_el x i)) else x_gb x i (al_cap (x_sz x i))) = none
      rw [if_neg (fun q => by omega)]
      cases hq : x_gb x i (al_cap (x_sz x i)) with
      | none => rfl
      | some w => exact absurd (hg _ (by rw [hq]; simp)) (by omega)
    have ed' : x_dn x' i = (2, i, al_cap (x_sz x i)) := by
      unfold x_dn
      rw [s2]
      simp only [va_up, if_true]
      exact if_neg (by omega)
    refine ⟨(1, i, 0), e, _, x_dn x i, _, _, _, rfl, m_k (by decide), p_list hi, hf1, hc.2, hn, by rw [pic_E]; simp, he, hne, Or.inr ⟨hcap.symm, fun h0 => if_pos (by omega), (2, i, al_cap (x_sz x i)), hfree, m_k (by decide), fun k hk y hy => hel k hk y (by rw [← hf3 k hk]; exact hy), ?_⟩⟩
    refine zM (P := Rt _) ?_ hR
    funext n
    obtain ⟨k, a, b⟩ := n
    by_cases hq1 : (k, a, b) = (1, i, 0)
    · cases hq1
      rw [zup_s, p_list hi, z4, s1, ed']
      simp only [va_up, if_true]
    · rw [zup_o hq1]
      by_cases hq2 : (k, a, b) = (2, i, al_cap (x_sz x i))
      · cases hq2
        rw [zup_s, hf2]
        have e2 : x_cp x' i = al_cap (x_sz x i) := by rw [s2]; simp only [va_up, if_true]
        refine Eq.symm ?_
        show (if i < 4 ∧ 0 < al_cap (x_sz x i) ∧ al_cap (x_sz x i) = x_cp x' i then some (zoa (x_cp x' i) (x_el x' i)) else x_gb x' i (al_cap (x_sz x i))) = _
        rw [if_pos ⟨hi, by omega, e2.symm⟩, e2, z5]
      · rw [zup_o hq2]
        by_cases k1 : k = 1
        · subst k1
          show (if a < 4 ∧ b = 0 then some (zal (x_lc x a) (x_dn x a) (x_sz x a)) else none) = (if a < 4 ∧ b = 0 then some (zal (x_lc x' a) (x_dn x' a) (x_sz x' a)) else none)
          by_cases hab : a < 4 ∧ b = 0
          · rw [if_pos hab, if_pos hab]
            have hai : a ≠ i := fun q => hq1 (by rw [q, hab.2])
            have e1 : x_lc x' a = x_lc x a := by rw [s1]; exact if_neg hai
            have e2 : x_dn x' a = x_dn x a := by unfold x_dn; rw [s2]; simp only [va_up, hai, if_false]
            have e3 : x_sz x' a = x_sz x a := by rw [s4 a hab.1, if_neg hai]
            rw [e1, e2, e3]
          · rw [if_neg hab, if_neg hab]
        · by_cases k2 : k = 2
          · subst k2
            show (if a < 4 ∧ 0 < b ∧ b = x_cp x a then some (zoa (x_cp x a) (x_el x a)) else x_gb x a b) = (if a < 4 ∧ 0 < b ∧ b = x_cp x' a then some (zoa (x_cp x' a) (x_el x' a)) else x_gb x' a b)
            rw [s2]
            by_cases hai : a = i
            · subst hai
              have hb1 : b ≠ al_cap (x_sz x a) := fun q => hq2 (by rw [q])
              have ex : va_up (x_cp x) a (al_cap (x_sz x a)) a = al_cap (x_sz x a) := if_pos rfl
              rw [ex]
              rw [if_neg (c := a < 4 ∧ 0 < b ∧ b = al_cap (x_sz x a)) (fun q => hb1 q.2.2)]
              rw [s3]
              by_cases h0 : x_cp x a = 0
              · rw [if_pos (Or.inr h0), if_neg (fun q => by omega)]
              · rw [if_neg (c := x_sz x a < x_cp x a ∨ x_cp x a = 0) (fun q => q.elim hlt h0)]
                simp only [va_u2, true_and]
                by_cases hbc : b = x_cp x a
                · rw [if_pos hbc, if_pos ⟨hi, by omega, hbc⟩]
                · rw [if_neg hbc, if_neg (fun q => hbc q.2.2)]
            · have ex : va_up (x_cp x) i (al_cap (x_sz x i)) a = x_cp x a := if_neg hai
              rw [ex]
              have eg : x_gb x' a b = x_gb x a b := by
                rw [s3]
                split
                · rfl
                · simp only [va_u2, hai, false_and, if_false]
              rw [eg]
              by_cases hab : a < 4 ∧ 0 < b ∧ b = x_cp x a
              · rw [if_pos hab, if_pos hab, s5 a hab.1, if_neg hai]
              · rw [if_neg hab, if_neg hab]
          · exact s6 k a b k1 k2
/-- the lists' words after an add -/
def ls (x : zSt) (i : Nat) : zSt := u_gb (u_cp (u_lc x (va_up (x_lc x) i (x_lc x i + 1))) (if x_sz x i < x_cp x i then x_cp x else va_up (x_cp x) i (al_cap (x_sz x i)))) (if x_sz x i < x_cp x i ∨ x_cp x i = 0 then x_gb x else va_u2 (x_gb x) i (x_cp x i) (some (zoa (x_cp x i) (x_el x i))))
/-- what holds of the lists' rooms after it -/
theorem ls_cap {x x' : zSt} {i : Nat} {e : zNm} (hi : i < 4) (hn : x_sz x i ≤ 600) (hS : ls_r x x' i e) (h4 : ∀ i, i < 4 → x_sz x i ≤ x_cp x i ∧ x_cp x i ≤ 1000) (h5 : ∀ i j, x_gb x i j ≠ none → j < x_cp x i) : (∀ i, i < 4 → x_sz x' i ≤ x_cp x' i ∧ x_cp x' i ≤ 1000) ∧ (∀ i j, x_gb x' i j ≠ none → j < x_cp x' i) := by
  obtain ⟨s1, s2, s3, s4, s5, s6⟩ := hS
  have hb := al_cap_b hn
  have hc := h4 i hi
  by_cases hlt : x_sz x i < x_cp x i
  · rw [if_pos hlt] at s2
    rw [if_pos (Or.inl hlt)] at s3
    refine ⟨fun j hj => ?_, fun a b h => by rw [s3] at h; rw [s2]; exact h5 a b h⟩
    rw [s2, s4 j hj]
    have := h4 j hj
    split
    · next q => subst q; omega
    · exact this
  · rw [if_neg hlt] at s2
    refine ⟨fun j hj => ?_, fun a b h => ?_⟩
    · rw [s2, s4 j hj]
      have := h4 j hj
      simp only [va_up]
      split
      · omega
      · exact this
    · rw [s2]
      rw [s3] at h
      have h1 : b ≤ x_cp x a ∧ (b = x_cp x a → a = i) := by
        split at h
        · exact ⟨Nat.le_of_lt (h5 a b h), fun q => absurd (h5 a b h) (by omega)⟩
        · simp only [va_u2] at h
          split at h
          · next q => exact ⟨Nat.le_of_eq (by rw [q.1, q.2]), fun _ => q.1⟩
          · exact ⟨Nat.le_of_lt (h5 a b h), fun q => absurd (h5 a b h) (by omega)⟩
      simp only [va_up]
      split
      · next q => subst q; omega
      · next q =>
        rcases Nat.lt_or_eq_of_le h1.1 with z | z
        · exact z
        · exact absurd (h1.2 z) q
