/-! worlds side by side -/
def zun (M F : zMp) : zMp := fun n => match M n with
  | some e => some e
  | none => F n
theorem zun_l {M F : zMp} {n : zNm} {e : zAE} (h : M n = some e) : zun M F n = some e := by unfold zun; rw [h]
theorem zun_r {M F : zMp} {n : zNm} (h : M n = none) : zun M F n = F n := by unfold zun; rw [h]
theorem zun_c {M F : zMp} {n : zNm} (h : zun M F n ≠ none) : M n ≠ none ∨ (M n = none ∧ F n ≠ none) := by
  cases hm : M n with
  | some e => exact Or.inl (by simp)
  | none => rw [zun_r hm] at h; exact Or.inr ⟨rfl, h⟩
theorem zun_nl {M F : zMp} {n : zNm} (h : M n ≠ none) : zun M F n ≠ none := by
  cases hm : M n with
  | some e => rw [zun_l hm]; simp
  | none => exact absurd hm h
theorem zun_nr {M F : zMp} {n : zNm} (h : F n ≠ none) : zun M F n ≠ none := by
  cases hm : M n with
  | some e => rw [zun_l hm]; simp
  | none => rw [zun_r hm]; exact h
theorem zcl_un {M F : zMp} (h1 : zcl M) (h2 : zcl F) : zcl (zun M F) := fun n e he n' hn' => by
  cases hm : M n with
  | some e' =>
    rw [zun_l hm] at he
    cases he
    exact zun_nl (h1 n _ hm n' hn')
  | none =>
    rw [zun_r hm] at he
    exact zun_nr (h2 n e he n' hn')
/-- what a method does to its own part of the world it does beside any other part -/
theorem zMet_frame {l : Launch} {y : MethodName} {bytes : ByteArray} {maxL : Nat} {ret : Option FieldType} {fr lo : Nat} {As : List zAV} {M F : zMp} {mc ms : Nat} {Rt : Option zAV → zMp → Prop} (hcl : zcl M) (hF : zcl F) (hd : ∀ n, M n ≠ none → F n = none) (hAs : ∀ a ∈ As, zalv M a) (h : zMet l y bytes maxL ret fr lo As M mc ms (fun v M' => zcl M' → (∀ n, M' n ≠ none → F n = none) ∧ Rt v (zun M' F))) : zMet l y bytes maxL ret fr lo As (zun M F) mc ms Rt := by
  intro D ad sz _ p ev he hf1 hf2 s m args below hs hap hP _
  obtain ⟨q0, q1, q2, q3, q4⟩ := hP
  have hA1 : ∀ q, zA0 ad M sz q → zA0 ad (zun M F) sz q := fun q hq => by
    rcases hq with ⟨n, k1, k2, k3⟩ | hq
    · exact Or.inl ⟨n, zun_nl k1, k2, k3⟩
    · exact Or.inr hq
  have hP1 : zPc D ad M sz As args s := by
    refine ⟨q0, q1, ⟨fun n e hn => q2.1 n e (zun_l hn), fun n n' hn hn' => q2.2.1 n n' (zun_nl hn) (zun_nl hn'), fun _ _ _ => trivial, hcl⟩, q3, fun hn => ?_⟩
    exact (q4 (zun_nl hn)).narrow hA1
  obtain ⟨n, o, g1, g2, g3, ⟨⟨v, M', ad', hv, hRt, hEx, hWd, hal⟩, hz, hk⟩, L, hFE, hL⟩ := h D ad sz hAs p ev he hf1 hf2 s m args below hs hap hP1 trivial
  obtain ⟨hdis, hR⟩ := hRt hWd.2.2.2
  refine ⟨n, o, g1, g2, g3, ⟨⟨v, zun M' F, fun x => if M' x = none then ad x else ad' x, ?_, hR, ?_, ?_, fun x hx => ?_⟩, hz, fun q hq hn => hk q hq (fun z => hn (hA1 q z))⟩, L, hFE, fun q hq => hA1 _ (hL q hq)⟩
  · have e1 : ∀ x, zalv M' x → zcv (fun x => if M' x = none then ad x else ad' x) x = zcv ad' x := fun x hx => zcv_ext fun n0 en => by
      rw [en] at hx
      exact if_neg hx
    rw [hv]
    cases v with
    | none => rfl
    | some x => exact congrArg (fun z => Outcome.returned (some z)) (e1 x (hal x rfl)).symm
  · refine ⟨fun x hx => ?_, fun x hm hx => ?_⟩
    · rcases zun_c hx with k1 | ⟨k1, k2⟩
      · have := hEx.1 x k1
        exact ⟨zun_nl this.1, by show (if M' x = none then ad x else ad' x) = _; rw [if_neg this.1]; exact this.2⟩
      · refine ⟨zun_nr k2, ?_⟩
        show (if M' x = none then ad x else ad' x) = _
        rw [if_pos]
        cases hq : M' x with
        | none => rfl
        | some e => exact absurd (hdis x (by rw [hq]; simp)) k2
    · rcases zun_c hx with k1 | ⟨k1, k2⟩
      · exact zun_nl (hEx.2 x hm k1)
      · exact zun_nr k2
  · -- F's cells are as they were
    have hFo : ∀ x, F x ≠ none → M' x = none := fun x hx => by
      cases hq : M' x with
      | none => rfl
      | some e => exact absurd (hdis x (by rw [hq]; simp)) hx
    have hFm : ∀ x, F x ≠ none → M x = none := fun x hx => by
      cases hq : M x with
      | none => rfl
      | some e => exact absurd (hd x (by rw [hq]; simp)) hx
    have hFl : ∀ x, F x ≠ none → ad x < sz := fun x hx => by
      have := zWd_lt q2 (zun_nr (M := M) hx)
      rw [q1] at this
      exact this
    have hFn : ∀ x, F x ≠ none → ¬ zA0 ad M sz (ad x) := fun x hx hz2 => by
      rcases hz2 with ⟨x', k1, k2, k3⟩ | hz2
      · have := q2.2.1 x' x (zun_nl k1) (zun_nr hx) k3
        rw [this, hFm x hx] at k1
        exact k1 rfl
      · have := hFl x hx
        omega
    have ea : ∀ x, M' x ≠ none → (if M' x = none then ad x else ad' x) = ad' x := fun x hx => if_neg hx
    have eb : ∀ x, F x ≠ none → (if M' x = none then ad x else ad' x) = ad x := fun x hx => if_pos (hFo x hx)
    have hmix : ∀ x x', M' x ≠ none → F x' ≠ none → ad' x ≠ ad x' := fun x x' hx hx' hq => by
      by_cases hm : zmo x
      · exact hFn x' hx' (hq ▸ hWd.2.2.1 x hx hm)
      · have k1 := hEx.2 x hm hx
        have k2 := (hEx.1 x k1).2
        rw [k2] at hq
        have := q2.2.1 x x' (zun_nl k1) (zun_nr hx') hq
        rw [this, hFm x' hx'] at k1
        exact k1 rfl
    refine ⟨fun x e he => ?_, fun x x' hx hx' hq => ?_, fun x hx hm => ?_, zcl_un hWd.2.2.2 hF⟩
    · cases hq : M' x with
      | some e' =>
        rw [zun_l hq] at he
        cases he
        have hx : M' x ≠ none := by rw [hq]; simp
        exact zat_ext (ea x hx) (fun x' hx' => ea x' (hWd.2.2.2 x _ hq x' hx')) (hWd.1 x _ hq)
      | none =>
        rw [zun_r hq] at he
        have hx : F x ≠ none := by rw [he]; simp
        have h0 : zat D s ad x e s.heap := q2.1 x e ((zun_r (hFm x hx)).trans he)
        have h1 : zat D s ad x e (stepsAlone p.tables ev n s).heap := zat_kept h0 (hk (ad x) (by have := hFl x hx; omega) (hFn x hx))
        have h2 := zat_moved hFE.2.1.alike h1
        exact zat_ext (eb x hx) (fun x' hx' => eb x' (hF x e he x' hx')) h2
    · have hq : (if M' x = none then ad x else ad' x) = (if M' x' = none then ad x' else ad' x') := hq
      rcases zun_c hx with k1 | ⟨_, k1⟩
      · rcases zun_c hx' with k2 | ⟨_, k2⟩
        · rw [ea x k1, ea x' k2] at hq; exact hWd.2.1 x x' k1 k2 hq
        · rw [ea x k1, eb x' k2] at hq; exact absurd hq (hmix x x' k1 k2)
      · rcases zun_c hx' with k2 | ⟨_, k2⟩
        · rw [eb x k1, ea x' k2] at hq; exact absurd hq.symm (hmix x' x k2 k1)
        · rw [eb x k1, eb x' k2] at hq; exact q2.2.1 x x' (zun_nr k1) (zun_nr k2) hq
    · show zA0 ad (zun M F) sz (if M' x = none then ad x else ad' x)
      rcases zun_c hx with k1 | ⟨_, k1⟩
      · rw [ea x k1]; exact hA1 _ (hWd.2.2.1 x k1 hm)
      · rw [eb x k1]; exact Or.inl ⟨x, zun_nr k1, hm, rfl⟩
  · have := hal x hx
    cases x with
    | inl w => trivial
    | inr n0 => exact zun_nl this
