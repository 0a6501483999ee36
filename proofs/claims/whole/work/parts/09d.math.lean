theorem mmx_1 : Cond.static Lib.Math.max.name ∈ tb := (tb_t 312 (by decide +kernel) (by decide +kernel))
theorem mmx_2 : Cond.initialized "java/lang/Math" ∈ tb := (tb_t 13 (by decide +kernel) (by decide +kernel))
theorem mmx_3 : Cond.code Lib.Math.max.name Lib.Math.max.code 2 (some .int) ∈ tb := (tb_t 313 (by decide +kernel) (by decide +kernel))
def i_mmx (mc ms : Nat) (K : zKT) : zKT := fun L st M k n => match st with
  | .inl (.int y) :: .inl (.int x) :: st => k ≤ mc ∧ n ≤ ms ∧ zcs st ≤ 7 ∧ K L (.inl (.int (if x < y then y else x)) :: st) M k n
  | _ => False
theorem sd_mmx {X : zMa} {own : String} {cc : ByteArray} {fr lo mc ms : Nat} {ret : Option FieldType} {ini : Bool} {Rt : Option zAV → zMp → Prop} (hC : zCx X own cc fr lo mc ms ret ini Rt) {pc : Nat} {ix : Nat} (hl : Cond.methodLink own ix Lib.Math.max.name ∈ tb) (hfr : 1 ≤ fr) (hlo : 20 ≤ lo) (hd : decode cc pc = .ok (.invokestatic ix, 3)) {K : zKT} (hK : zLe K (zG X (pc + 3))) : zLe (i_mmx mc ms K) (zG X pc) := by
  obtain ⟨p, l, e, R, s, m, args, below, meth, c, Q, nL, D, A, ad0, M0⟩ := X
  obtain ⟨hx, hb, hml, hown, hts, hKS, hSF, hA, hR, hQ, hret, hlk, hini⟩ := hC
  subst hR
  intro L st M k n h
  unfold i_mmx at h
  split at h
  · obtain ⟨h1, h2, hcs, h⟩ := h
    intro ad H locs ls hH
    exact va_mmax hx hb (by rw [hml]; exact hH.2.2.1.1.symm) hown (hts _ hl) (hts _ mmx_1) (hts _ mmx_2) (hts _ mmx_3) hfr (by show _ ≤ lo; rw [zcs_e]; omega) h1 h2 hd (hK L _ M k n h ad H locs ls (zHd_st hH (fun h => zsv_c trivial (zsv_t (zsv_t h)))))
  · exact h.elim
theorem mmn_1 : Cond.static Lib.Math.min.name ∈ tb := (tb_t 341 (by decide +kernel) (by decide +kernel))
theorem mmn_2 : Cond.initialized "java/lang/Math" ∈ tb := (tb_t 13 (by decide +kernel) (by decide +kernel))
theorem mmn_3 : Cond.code Lib.Math.min.name Lib.Math.min.code 2 (some .int) ∈ tb := (tb_t 342 (by decide +kernel) (by decide +kernel))
def i_mmn (mc ms : Nat) (K : zKT) : zKT := fun L st M k n => match st with
  | .inl (.int y) :: .inl (.int x) :: st => k ≤ mc ∧ n ≤ ms ∧ zcs st ≤ 7 ∧ K L (.inl (.int (if y < x then y else x)) :: st) M k n
  | _ => False
theorem sd_mmn {X : zMa} {own : String} {cc : ByteArray} {fr lo mc ms : Nat} {ret : Option FieldType} {ini : Bool} {Rt : Option zAV → zMp → Prop} (hC : zCx X own cc fr lo mc ms ret ini Rt) {pc : Nat} {ix : Nat} (hl : Cond.methodLink own ix Lib.Math.min.name ∈ tb) (hfr : 1 ≤ fr) (hlo : 20 ≤ lo) (hd : decode cc pc = .ok (.invokestatic ix, 3)) {K : zKT} (hK : zLe K (zG X (pc + 3))) : zLe (i_mmn mc ms K) (zG X pc) := by
  obtain ⟨p, l, e, R, s, m, args, below, meth, c, Q, nL, D, A, ad0, M0⟩ := X
  obtain ⟨hx, hb, hml, hown, hts, hKS, hSF, hA, hR, hQ, hret, hlk, hini⟩ := hC
  subst hR
  intro L st M k n h
  unfold i_mmn at h
  split at h
  · obtain ⟨h1, h2, hcs, h⟩ := h
    intro ad H locs ls hH
    exact va_mmin hx hb (by rw [hml]; exact hH.2.2.1.1.symm) hown (hts _ hl) (hts _ mmn_1) (hts _ mmn_2) (hts _ mmn_3) hfr (by show _ ≤ lo; rw [zcs_e]; omega) h1 h2 hd (hK L _ M k n h ad H locs ls (zHd_st hH (fun h => zsv_c trivial (zsv_t (zsv_t h)))))
  · exact h.elim
