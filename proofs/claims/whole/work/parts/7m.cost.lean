/-! what the class's rows cost; what the calls leave as it was -/
noncomputable def rws (x : zSt) : Nat := sm (fun l => ct (fun s => x_lr x l s ≠ none) 121) (x_nl x)
theorem rws_le {x : zSt} (h : x_nl x ≤ 144) : rws x ≤ 17424 := by
  have h1 := sm_bd (f := fun l => ct (fun s => x_lr x l s ≠ none) 121) (b := 121) (x_nl x) (fun l _ => ct_le _ _)
  unfold rws
  omega
theorem rws_eq {x y : zSt} (h1 : x_nl y = x_nl x) (h2 : x_lr y = x_lr x) : rws y = rws x := by unfold rws; rw [h1, h2]
/-- a row more, or not -/
theorem rws_up {x y : zSt} {l s : Nat} (hl : l < x_nl x) (hs : s < 121) (h1 : x_nl y = x_nl x) (h2 : x_lr y l s ≠ none) (h3 : ∀ l' s', ¬ (l' = l ∧ s' = s) → x_lr y l' s' = x_lr x l' s') : rws y = rws x + (if x_lr x l s = none then 1 else 0) := by
  unfold rws
  rw [h1]
  have hs2 := sm_up (fun l => ct (fun s => x_lr x l s ≠ none) 121) l (ct (fun s => x_lr y l s ≠ none) 121) (x_nl x) hl
  have e : sm (fun l => ct (fun s => x_lr y l s ≠ none) 121) (x_nl x) = sm (fun i => if i = l then ct (fun s => x_lr y l s ≠ none) 121 else ct (fun s => x_lr x i s ≠ none) 121) (x_nl x) := by
    refine sm_cg _ (fun i _ => ?_)
    by_cases e : i = l
    · rw [if_pos e, e]
    · rw [if_neg e]
      exact ct_cg _ (fun s' _ => by rw [h3 i s' (fun z => e z.1)])
  rw [e]
  have hc : ct (fun s => x_lr y l s ≠ none) 121 = ct (fun s => x_lr x l s ≠ none) 121 + (if x_lr x l s = none then 1 else 0) := by
    by_cases c : x_lr x l s = none
    · rw [if_pos c, ← ct_add1 (p := fun s => x_lr x l s ≠ none) hs (fun z => z c)]
      refine ct_cg _ (fun s' _ => ?_)
      by_cases e : s' = s
      · rw [e]; exact ⟨fun _ => Or.inr rfl, fun _ => h2⟩
      · rw [h3 l s' (fun z => e z.2)]; exact ⟨Or.inl, fun z => z.elim id (fun z => absurd z e)⟩
    · rw [if_neg c, Nat.add_zero]
      refine ct_cg _ (fun s' _ => ?_)
      by_cases e : s' = s
      · rw [e]; exact ⟨fun _ => c, fun _ => h2⟩
      · rw [h3 l s' (fun z => e z.2)]
  omega
theorem rws_wr {z : zSt} {l s : Nat} (hl : l < x_nl z) (hs : s < 121) : rws (la_wr z l s) = rws z + (if x_lr z l s = none then 1 else 0) := by
  obtain ⟨f, g, e, h1, h2⟩ := wr_k z l s
  rw [e]
  exact rws_up hl hs rfl (by show f l s ≠ none; rw [h1]; simp) h2
theorem rws_tell {z : zSt} {l : Nat} (hl : l < x_nl z) (hr : la_item z l (nI (x_lz z l) - 1) = -2 ∨ x_lz z l < 121) : rws z ≤ rws (la_tell z l) ∧ (la_nw z l → rws z + 1 ≤ rws (la_tell z l)) := by
  unfold la_tell la_nw
  by_cases c : la_item z l (nI (x_lz z l) - 1) = -2
  · rw [if_pos c, if_pos c, rws_wr hl (Nat.mod_lt _ (by decide))]
    exact ⟨by omega, fun h => by rw [if_pos h]; omega⟩
  · rw [if_neg c, if_neg c, if_pos (hr.resolve_left c)]
    have e : rws (la_wr (la_push z l (-2)) l ((x_lf z l + x_lz z l) % 121)) = rws (la_push z l (-2)) + (if x_lr (la_push z l (-2)) l ((x_lf z l + x_lz z l) % 121) = none then 1 else 0) := rws_wr hl (Nat.mod_lt _ (by decide))
    have e2 : rws (la_push z l (-2)) = rws z := rws_eq rfl rfl
    rw [e, e2]
    exact ⟨by omega, fun h => by rw [if_pos (show x_lr (la_push z l (-2)) l ((x_lf z l + x_lz z l) % 121) = none from h)]; omega⟩
theorem tnc_r {x : zSt} {a : zAb} (hI : Iv x) (hR : Rx x a) (hJ : AJ a) {u : Nat} (hu : u < a_dk a) : ∀ n, n ≤ a_dk a → tn_c x (nI u) n + rws x ≤ rws (tn x (nI u) n)
  | 0, _ => by show 0 + rws x ≤ rws x; omega
  | n + 1, hn => by
    have ih := tnc_r hI hR hJ hu n (by omega)
    have hRn := tn_r hR hJ hu n (by omega)
    have hIn := Iv_tn hI (u := nI u) n
    have hJn : AJ (tlP a (fun p q => p = u ∧ q < n)) := AJ_tlP hJ _
    have e1 : tn_c x (nI u) (n + 1) = tn_c x (nI u) n + (if zd (tn_w (tn x (nI u) n) (nI u) n) = true then 1 else 0) := rfl
    have e2 : tn x (nI u) (n + 1) = tn_s (tn x (nI u) n) (nI u) n := rfl
    rw [e1, e2]
    generalize tn x (nI u) n = z at ih hRn hIn
    generalize tlP a (fun p q => p = u ∧ q < n) = b at hRn hJn
    have hdk : x_dk z = a_dk a ∨ True := Or.inr trivial
    suffices h : rws z + (if zd (tn_w z (nI u) n) = true then 1 else 0) ≤ rws (tn_s z (nI u) n) by omega
    unfold tn_s
    cases hF : lnF z (nI u) (nI n) with
    | none =>
      rw [zd_f (fun ⟨l, h1, _⟩ => by rw [hF] at h1; cases h1)]
      show rws z + 0 ≤ rws z
      omega
    | some l =>
      show rws z + _ ≤ rws (if rw_same (x_me (fmn z (nI u) (nI n))) (x_lt z l) = true then fmn z (nI u) (nI n) else la_tell (fmn z (nI u) (nI n)) l)
      by_cases hs : rw_same (x_me (fmn z (nI u) (nI n))) (x_lt z l) = true
      · rw [if_pos hs, zd_f (fun ⟨l', h1, h2, _⟩ => by rw [hF] at h1; cases h1; rw [hs] at h2; cases h2)]
        have : rws (fmn z (nI u) (nI n)) = rws z := rws_eq rfl rfl
        rw [this]
        show rws z + 0 ≤ rws z
        omega
      · rw [if_neg hs]
        -- the road's lane
        have hlane : ∃ q t d, ln_r z l q t d ∧ q.length ≤ 121 ∧ (lsT q = false → q.length < 121) ∧ (∀ k, k ∈ nt q → k < 600) ∧ l < x_nl z := by
          have hF2 := hF
          unfold lnF at hF2
          split at hF2
          · rename_i c
            obtain ⟨u', hu1, hu2⟩ := isn_t (by have := hRn.1.sc.1; have := hJn.lim.1; omega) c.1
            obtain ⟨n', hn1, hn2⟩ := isn_t (by have := hRn.1.sc.1; have := hJn.lim.1; omega) c.2
            have h12 := hJn.lim
            rw [hRn.1.sc.1] at hu1 hn1
            rw [hu2, hn2, nI_clamp (by omega), nI_clamp (by omega)] at hF2
            have hl2 := hRn.2.1 u' n' (by omega) (by omega)
            cases hk : a_lk b u' n' with
            | false => rw [hl2.1 hk] at hF2; cases hF2
            | true =>
              obtain ⟨l', g1, g2⟩ := hl2.2 hk
              rw [g1] at hF2
              cases hF2
              exact ⟨_, _, _, g2, ql_len hJn _ _, fun h => ql_tl hJn h, fun k hk2 => by have := ((hJn.ql _ _).2.2.1 k hk2).1; omega, hIn.ln _ _ g1⟩
          · cases hF2
        obtain ⟨q, t, d, g1, g2, g3, g4, g5⟩ := hlane
        have hz : ln_r (fmn z (nI u) (nI n)) l q t d := g1
        have hr : la_item (fmn z (nI u) (nI n)) l (nI (x_lz (fmn z (nI u) (nI n)) l) - 1) = -2 ∨ x_lz (fmn z (nI u) (nI n)) l < 121 := by
          cases hq : lsT q with
          | true => exact Or.inl ((it_last hz g2 g4).mpr hq)
          | false => exact Or.inr (by rw [hz.1]; exact g3 hq)
        have ht := rws_tell (z := fmn z (nI u) (nI n)) (l := l) g5 hr
        have e0 : rws (fmn z (nI u) (nI n)) = rws z := rws_eq rfl rfl
        rw [e0] at ht
        by_cases hw : tn_w z (nI u) n
        · rw [zd_t hw, if_pos rfl]
          obtain ⟨l', h1, _, h3⟩ := hw
          rw [hF] at h1
          cases h1
          exact ht.2 h3
        · rw [zd_f hw]
          exact ht.1
theorem tnc_d {x : zSt} {a : zAb} (hI : Iv x) (hR : Rx x a) (hJ : AJ a) {u : Nat} (hu : u < a_dk a) : tn_c x (nI u) (x_dk x) + rws x ≤ rws (tn x (nI u) (x_dk x)) := by
  rw [hR.1.sc.1]; exact tnc_r hI hR hJ hu _ (Nat.le_refl _)
theorem tn2c_r {x : zSt} {a : zAb} (hI : Iv x) (hR : Rx x a) (hJ : AJ a) {u v : Nat} (hu : u < a_dk a) (hv : v < a_dk a) : tn2_c x (nI u) (nI v) + rws x ≤ rws (tn2 x (nI u) (nI v)) := by
  have h1 := tnc_d hI hR hJ hu
  have hR1 := tn_d hR hJ hu
  have h2 := tnc_d (Iv_tn hI (u := nI u) (x_dk x)) hR1 (AJ_tlP hJ _) hv
  have e : x_dk (tn x (nI u) (x_dk x)) = x_dk x := by rw [hR1.1.sc.1, hR.1.sc.1]; rfl
  rw [e] at h2
  unfold tn2 tn2_c
  omega
/-! what other steps leave -/
theorem lh_lr (x : zSt) (k : Nat) (d : Int32) : ∀ n, x_lr (lh x k d n) = x_lr x ∧ x_nl (lh x k d n) = x_nl x
  | 0 => ⟨rfl, rfl⟩
  | n + 1 => by
    have ih := lh_lr x k d n
    have e : lh x k d (n + 1) = lh_s (lh x k d n) k d n := rfl
    rw [e]
    unfold lh_s
    split
    · unfold rd_add
      split
      · exact ih
      · exact ih
    · exact ih
theorem po_lr (x : zSt) (k : Nat) (d f : Int32) : ∀ n, x_lr (po x k d f n) = x_lr x ∧ x_nl (po x k d f n) = x_nl x
  | 0 => ⟨rfl, rfl⟩
  | n + 1 => by
    have ih := po_lr x k d f n
    have e : po x k d f (n + 1) = po_s (po x k d f n) k d f n := rfl
    rw [e]
    generalize po x k d f n = z at ih
    unfold po_s
    split
    · exact ih
    · split
      · exact ih
      · split
        · unfold po_4
          have h1 : ∀ a, x_lr (po_1 z a k) = x_lr z ∧ x_nl (po_1 z a k) = x_nl z := fun a => by
            unfold po_1
            split <;> exact ⟨rfl, rfl⟩
          split
          · exact ⟨(h1 _).1.trans ih.1, (h1 _).2.trans ih.2⟩
          · exact ⟨(h1 _).1.trans ih.1, (h1 _).2.trans ih.2⟩
        · exact ih
theorem rws_take {x : zSt} {l : Nat} (hl : l < x_nl x) (hf : x_lf x l < 121) : rws x ≤ rws (la_take x l) := by
  have e : rws (la_take x l) = rws (la_take1 x l) := rws_eq rfl rfl
  rw [e]
  unfold la_take1
  split
  · have e2 : rws (u_lb (la_mk x l (x_lf x l)) (va_up (x_lb x) l (rw_set (x_lb x l) (la_row x l (x_lf x l))))) = rws (la_mk x l (x_lf x l)) := rws_eq rfl rfl
    rw [e2]
    unfold la_mk
    split
    · rename_i c
      have := rws_up (x := x) (y := u_lr x (va_u2 (x_lr x) l (x_lf x l) (some (fun _ => 0)))) hl hf rfl (by show va_u2 (x_lr x) l (x_lf x l) (some (fun _ => 0)) l (x_lf x l) ≠ none; rw [va_u2_s]; simp) (fun l' s' h => va_u2_o _ _ h)
      omega
    · exact Nat.le_refl _
  · exact Nat.le_refl _
theorem dfc_r {x : zSt} {a : zAb} (hI : Iv x) (hR : Rx x a) (hA : AI a) {u v : Nat} (hu : u < a_dk a) (hv : v < a_dk a) (hlk : a_lk a u v = true) (hne : a_q a u v ≠ []) : df_c x (nI u) (nI v) + rws x ≤ rws (df x (nI u) (nI v)) := by
  obtain ⟨hJ, hW⟩ := hA
  obtain ⟨hg, hl, hs, hm⟩ := hR
  have h3 := hJ.lim
  rcases lnF_r hg hl hJ hu hv with ⟨k1, k2⟩ | ⟨k1, l, k2, k3, k4⟩
  · rw [hlk] at k1; cases k1
  · have hln := hI.ln _ _ k3
    have hf := (hI.lan l hln).2
    have hlen := ql_len hJ u v
    unfold df df_c
    rw [k2]
    show (if df_it x l = -2 then tn_c (df_t (df_y x l)) (nI v) (x_dk (df_y x l)) else 0) + rws x ≤ rws (df2 (df_y x l) (nI u) (nI v) (df_it x l))
    cases hq : a_q a u v with
    | nil => exact absurd hq hne
    | cons i q =>
      rw [hq] at k4 hlen
      obtain ⟨h0, h1, hz⟩ := hd_r k4 hf
      have ey : df_y x l = la_take x l := by unfold df_y; rw [if_neg hz]
      have ei : df_it x l = la_at x l 0 := by unfold df_it; rw [if_neg hz, h1]
      rw [ey, ei]
      have ht := rws_take hln hf
      cases i with
      | inl k =>
        have h0' : la_at x l 0 = nI k := h0
        have hk : k < a_nn a := ((hJ.ql u v).2.2.1 k (by rw [hq]; exact List.mem_cons_self)).1
        rw [h0', if_neg (nI_n2 (by omega)), Nat.zero_add]
        unfold df2
        rw [if_neg (nI_n2 (by omega))]
        split
        · unfold df3
          split
          · have e : rws (u_nm (la_take x l) (va_up (x_nm (la_take x l)) (nI k).toNatClampNeg (x_nm (la_take x l) (nI k).toNatClampNeg - 1))) = rws (la_take x l) := rws_eq rfl rfl
            omega
          · refine Nat.le_trans ht (Nat.le_of_eq ?_)
            refine (rws_eq ?_ ?_).symm
            · rw [(po_lr _ _ _ _ _).2, (lh_lr _ _ _ _).2]; rfl
            · rw [(po_lr _ _ _ _ _).1, (lh_lr _ _ _ _).1]; rfl
        · exact ht
      | inr m =>
        have h0' : la_at x l 0 = -2 := h0.1
        rw [h0', if_pos rfl]
        unfold df2
        rw [if_pos rfl]
        -- the state after the first message is taken
        have hts := take_s k4 hlen hf (fun k e => by cases e)
        have hgt : Rg (la_take x l) a := Rg_lf (lf_take x l) hg
        have hnm : x_nm (la_take x l) = x_nm x := (lf_ln (lf_take x l)).2.2.2.2
        have hcn := cn_tk a (u := u) (v := v) (by omega) (by omega)
        rw [hq] at hcn
        have key := Rl_1 (a' := a_got (a_tk1 a u v) u v m) hs (lf_take x l) (show u < 12 by omega) (show v < 12 by omega) k3 hl rfl (fun l' q t b hne h => take_o hne h) (fun p w hne => ⟨va_u2_o _ _ hne, rfl, va_u2_o _ _ (fun z => hne ⟨z.2, z.1⟩)⟩) (by
          show ln_r _ l (va_u2 (a_q a) u v (a_q a u v).tail u v) _ (va_u2 (a_tb a) v u m v u)
          rw [va_u2_s, va_u2_s, hq]
          exact hts)
        have hJ1 := AJ_tk1 hJ u v
        have hJ2 : AJ (a_got (a_tk1 a u v) u v m) := AJ_got hJ1 (hJ.lk u v hlk).1 (fun w hw => (hJ.ql u v).2.2.2 m (by rw [hq]; exact List.mem_cons_self) w hw)
        have hR2 : Rx (df_t (la_take x l)) (a_got (a_tk1 a u v) u v m) := by
          refine ⟨⟨⟨hgt.sc.1, hgt.sc.2.1, hgt.sc.2.2.1, hgt.sc.2.2.2.1, hgt.sc.2.2.2.2.1, hgt.sc.2.2.2.2.2.1, ?_⟩, hgt.2⟩, key.1, key.2, fun j hj => ?_⟩
          · show x_td (la_take x l) + 1 = a_td a + 1
            rw [hgt.sc.2.2.2.2.2.2]
          · have hc := hcn j
            have e5 : List.count j (nt (.inr m :: q)) = List.count j (nt q) := rfl
            have e6 : (List.tail (.inr m :: q) : List zIt) = q := rfl
            rw [e5, e6] at hc
            show x_nm (la_take x l) j = nI (cn (a_tk1 a u v) j)
            rw [hnm, hm j hj, show cn (a_tk1 a u v) j = cn a j by omega]
        have hI2 : Iv (df_t (la_take x l)) := Iv_td (Iv_take hI (hI.lan l hln).1)
        have hc := tnc_d hI2 hR2 hJ2 hv
        have e0 : rws (df_t (la_take x l)) = rws (la_take x l) := rws_eq rfl rfl
        rw [e0] at hc
        have hc' : tn_c (df_t (la_take x l)) (nI v) (x_dk (la_take x l)) + rws (la_take x l) ≤ rws (tn (df_t (la_take x l)) (nI v) (x_dk (la_take x l))) := hc
        omega
