/-! a message is delivered -/
theorem cn_tk (a : zAb) {u v : Nat} (hu : u < 12) (hv : v < 12) (k : Nat) : cn (a_tk1 a u v) k + (nt (a_q a u v)).count k = cn a k + (nt (a_q a u v).tail).count k := by
  unfold cn
  have h := sm2_up (fun u v => (nt (a_q a u v)).count k) ((nt (a_q a u v).tail).count k) hu hv
  have e : sm2 (fun p w => (nt (a_q (a_tk1 a u v) p w)).count k) = sm2 (va_u2 (fun u v => (nt (a_q a u v)).count k) u v ((nt (a_q a u v).tail).count k)) := by
    refine congrArg sm2 ?_
    funext p w
    show (nt (va_u2 (a_q a) u v (a_q a u v).tail p w)).count k = _
    simp only [va_u2]
    split <;> rfl
  rw [e]
  exact h
theorem nI_n2 {k : Nat} (h : k < 2 ^ 31) : nI k ≠ -2 := fun q => by
  have := nI_pos h
  rw [q] at this
  exact absurd (by decide) this
/-- what stands first in a lane -/
theorem hd_r {x : zSt} {l : Nat} {i : zIt} {q : List zIt} {t b : Nat → Bool} (h : ln_r x l (i :: q) t b) (hf : x_lf x l < 121) : it_r x l 0 i ∧ la_at x l 0 = x_li x l (x_lf x l) ∧ x_lz x l ≠ 0 := by
  have h0 := h.2.1 0 (Nat.zero_lt_succ _)
  refine ⟨h0, ?_, by rw [h.1]; simp⟩
  unfold la_at
  rw [Nat.add_zero, Nat.mod_eq_of_lt hf]
theorem dfok_r {x : zSt} {a : zAb} (hI : Iv x) (hR : Rx x a) (hJ : AJ a) {u v : Nat} (hu : u < a_dk a) (hv : v < a_dk a) : df_ok x (nI u) (nI v) := by
  intro l hl hz hi
  obtain ⟨hg, hl', hs, hm⟩ := hR
  have h3 := hJ.lim
  rcases lnF_r hg hl' hJ hu hv with ⟨k1, k2⟩ | ⟨k1, l', k2, k3, k4⟩
  · rw [k2] at hl; cases hl
  · rw [k2] at hl
    cases hl
    have hf := (hI.lan l (hI.ln _ _ k3)).2
    cases hq : a_q a u v with
    | nil => rw [hq] at k4; exact absurd k4.1 hz
    | cons i q =>
      rw [hq] at k4
      obtain ⟨h0, h1, _⟩ := hd_r k4 hf
      cases i with
      | inl k =>
        have h0' : la_at x l 0 = nI k := h0
        rw [h1, hi] at h0'
        have hk : k < a_nn a := ((hJ.ql u v).2.2.1 k (by rw [hq]; exact List.mem_cons_self)).1
        exact absurd h0'.symm (nI_n2 (by omega))
      | inr m =>
        obtain ⟨_, f, z2, _⟩ := h0
        rw [Nat.add_zero, Nat.mod_eq_of_lt hf] at z2
        rw [z2]
        simp
theorem dl_r {x : zSt} {a : zAb} (hI : Iv x) (hR : Rx x a) (hA : AI a) {u v : Nat} (hu : u < a_dk a) (hv : v < a_dk a) (hlk : a_lk a u v = true) (hne : a_q a u v ≠ []) : Rx (df x (nI u) (nI v)) (a_dl a u v) := by
  obtain ⟨hJ, hW⟩ := hA
  obtain ⟨hg, hl, hs, hm⟩ := hR
  have h3 := hJ.lim
  rcases lnF_r hg hl hJ hu hv with ⟨k1, k2⟩ | ⟨k1, l, k2, k3, k4⟩
  · rw [hlk] at k1; cases k1
  · have hf := (hI.lan l (hI.ln _ _ k3)).2
    have hlen := ql_len hJ u v
    unfold df a_dl
    rw [k2]
    show Rx (df2 (df_y x l) (nI u) (nI v) (df_it x l)) _
    cases hq : a_q a u v with
    | nil => exact absurd hq hne
    | cons i q =>
      rw [hq] at k4 hlen
      obtain ⟨h0, h1, hz⟩ := hd_r k4 hf
      have ey : df_y x l = la_take x l := by unfold df_y; rw [if_neg hz]
      have ei : df_it x l = la_at x l 0 := by unfold df_it; rw [if_neg hz, h1]
      rw [ey, ei]
      have hk6 : ∀ k, i = .inl k → k < a_nn a := fun k e => ((hJ.ql u v).2.2.1 k (by rw [hq, e]; exact List.mem_cons_self)).1
      have hts := take_s k4 hlen hf (fun k e => by have := hk6 k e; omega)
      have hgt : Rg (la_take x l) a := Rg_lf (lf_take x l) hg
      have hnm : x_nm (la_take x l) = x_nm x := (lf_ln (lf_take x l)).2.2.2.2
      have eq1 : a_q (a_tk1 a u v) = va_u2 (a_q a) u v q := by
        show va_u2 (a_q a) u v (a_q a u v).tail = _
        rw [hq]; rfl
      have hcn := cn_tk a (u := u) (v := v) (by omega) (by omega)
      rw [hq] at hcn
      cases i with
      | inl k =>
        have h0' : la_at x l 0 = nI k := h0
        have hk := hk6 k rfl
        rw [h0']
        unfold df2
        rw [if_neg (nI_n2 (by omega)), show x_nn (la_take x l) = a_nn a from hgt.sc.2.2.2.1, if_pos (isn_n (by omega) hk), nI_clamp (by omega)]
        show Rx (df3 (la_take x l) k (nI u) (nI v)) (a_come (a_tk1 a u v) k v u)
        have key := Rl_1 (a' := a_tk1 a u v) hs (lf_take x l) (show u < 12 by omega) (show v < 12 by omega) k3 hl rfl (fun l' q t b hne h => take_o hne h) (fun p w hne => ⟨va_u2_o _ _ hne, rfl, rfl⟩) (by
          rw [eq1, va_u2_s]
          exact hts)
        have hn1 : ∀ j, j < a_nn a → va_up (x_nm (la_take x l)) k (x_nm (la_take x l) k - 1) j = nI (cn (a_tk1 a u v) j) := fun j hj => by
          have hc := hcn j
          have e5 : List.count j (nt (.inl k :: q)) = List.count j (nt q) + (if k = j then 1 else 0) := by
            show List.count j (k :: nt q) = _
            rw [List.count_cons]
            by_cases e : k = j <;> simp [e]
          have e6 : (List.tail (.inl k :: q) : List zIt) = q := rfl
          rw [e5, e6] at hc
          by_cases e : j = k
          · rw [e, va_ups', hnm, hm k hk]
            rw [e, if_pos rfl] at hc
            rw [show cn a k = cn (a_tk1 a u v) k + 1 by omega, nI_pred]
          · rw [va_upo' _ _ e, hnm, hm j hj]
            rw [if_neg (fun z => e z.symm)] at hc
            rw [show cn a j = cn (a_tk1 a u v) j by omega]
        have hR1 : Rx (u_nm (la_take x l) (va_up (x_nm (la_take x l)) k (x_nm (la_take x l) k - 1))) (a_tk1 a u v) := ⟨hgt, key.1, key.2, hn1⟩
        have hJ1 := AJ_tk1 hJ u v
        have hsn : inm (x_nv (la_take x l) k) (nI v) = a_sn a k v := (hgt.nt k hk).2.2.1 v (by omega)
        have enw : x_nw (la_take x l) = a_nw a := hgt.sc.2.2.1
        unfold df3 a_come
        rw [hsn, enw]
        have huw : ct (fun j => a_uw (a_tk1 a u v) j ∨ j = k) (a_nn a) ≤ 60 := uw_k hJ (by rw [hq]; exact List.mem_cons_self)
        generalize u_nm (la_take x l) (va_up (x_nm (la_take x l)) k (x_nm (la_take x l) k - 1)) = y1 at hR1
        by_cases hs1 : a_sn a k v = true
        · rw [if_pos hs1, if_pos (show a_sn (a_tk1 a u v) k v = true from hs1)]
          exact hR1
        · rw [if_neg hs1, if_neg (show ¬ a_sn (a_tk1 a u v) k v = true from hs1)]
          have hh := hear_r hR1 hJ1 (k := k) (d := v) hk (by omega) (a_nw a) (Nat.le_refl _)
          rw [show a_hearN (a_tk1 a u v) k v (a_nw a) = a_hear (a_tk1 a u v) k v from rfl] at hh
          have hJh : AJ (a_hear (a_tk1 a u v) k v) := AJ_hear hJ1 hk
          have edk : x_dk (lh y1 k (nI v) (a_nw a)) = a_dk a := hh.1.sc.1
          rw [edk]
          refine po_r hh hJh hk hv (by omega) (fun n hn => by have hn2 : n < a_dk a := hn; exact nI_eq (by omega) (by omega)) (va_u2_s _ _ _ _) (fun w hw => ?_) huw (a_dk a) (Nat.le_refl _)
          exact hs1 ((hJ1.ql v w).2.2.1 k hw).2
      | inr m =>
        have h0' : la_at x l 0 = -2 := h0.1
        rw [h0']
        unfold df2
        rw [if_pos rfl]
        show Rx (tn (df_t (la_take x l)) (nI v) (x_dk (la_take x l))) (tlA (a_got (a_tk1 a u v) u v m))
        have key := Rl_1 (a' := a_got (a_tk1 a u v) u v m) hs (lf_take x l) (show u < 12 by omega) (show v < 12 by omega) k3 hl rfl (fun l' q t b hne h => take_o hne h) (fun p w hne => ⟨va_u2_o _ _ hne, rfl, va_u2_o _ _ (fun z => hne ⟨z.2, z.1⟩)⟩) (by
          show ln_r _ l (va_u2 (a_q a) u v (a_q a u v).tail u v) _ (va_u2 (a_tb a) v u m v u)
          rw [va_u2_s, va_u2_s, hq]
          exact hts)
        have hJ1 := AJ_tk1 hJ u v
        have hJ2 : AJ (a_got (a_tk1 a u v) u v m) := AJ_got hJ1 (hJ.lk u v hlk).1 (fun w hw => (hJ.ql u v).2.2.2 m (by rw [hq]; exact List.mem_cons_self) w hw)
        have hR2 : Rx (df_t (la_take x l)) (a_got (a_tk1 a u v) u v m) := by
          refine ⟨⟨⟨hgt.sc.1, hgt.sc.2.1, hgt.sc.2.2.1, hgt.sc.2.2.2.1, hgt.sc.2.2.2.2.1, hgt.sc.2.2.2.2.2.1, ?_⟩, hgt.2⟩, key.1, key.2, fun j hj => ?_⟩
          · show x_td (la_take x l) + 1 = a_td a + 1
            rw [hgt.sc.2.2.2.2.2.2]
          · have hc := hcn j
            have e5 : List.count j (nt (.inr m :: q)) = List.count j (nt q) := rfl
            have e6 : (List.tail (.inr m :: q) : List zIt) = q := rfl
            rw [e5, e6] at hc
            show x_nm (la_take x l) j = nI (cn (a_tk1 a u v) j)
            rw [hnm, hm j hj, show cn (a_tk1 a u v) j = cn a j by omega]
        have hd2 := tn_d hR2 hJ2 hv
        rw [show tlA (a_got (a_tk1 a u v) u v m) = tlP (a_got (a_tk1 a u v) u v m) (fun p _ => p = v) from (tl_at (fun p w hw => (got_w hW hw).1)).symm]
        exact hd2
