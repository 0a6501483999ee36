/-! reach -/
theorem near_r (x : zSt) (fresh : Int32) : ∀ n, n ≤ 12 → ∀ i, i < 32 → (bt (rc_near x fresh n) i = true ↔ ∃ d, d < n ∧ bt fresh d = true ∧ bt (x_nb x d) i = true)
  | 0, _, i, _ => by
    simp only [rc_near]
    rw [b_0]
    exact ⟨fun z => (by cases z), fun ⟨d, hd, _⟩ => absurd hd (Nat.not_lt_zero d)⟩
  | n + 1, hn, i, hi => by
    have ih := near_r x fresh n (by omega) i hi
    simp only [rc_near]
    rw [inm_b (show n < 31 by omega)]
    by_cases c : bt fresh n = true
    · rw [if_pos c, b_or, Bool.or_eq_true, ih]
      constructor
      · rintro (⟨d, h1, h2⟩ | z)
        · exact ⟨d, by omega, h2⟩
        · exact ⟨n, by omega, c, z⟩
      · rintro ⟨d, h1, h2, h3⟩
        by_cases e : d = n
        · rw [e] at h3; exact Or.inr h3
        · exact Or.inl ⟨d, by omega, h2, h3⟩
    · rw [if_neg c, ih]
      constructor
      · rintro ⟨d, h1, h2⟩; exact ⟨d, by omega, h2⟩
      · rintro ⟨d, h1, h2, h3⟩
        by_cases e : d = n
        · rw [e] at h2; exact absurd h2 c
        · exact ⟨d, by omega, h2, h3⟩
theorem bt_ne {m : Int32} (h : m ≠ 0) : ∃ i, i < 32 ∧ bt m i = true := by
  apply Classical.byContradiction
  intro hn
  refine h (b_ext (fun i hi => ?_))
  rw [b_0]
  cases hb : bt m i with
  | false => rfl
  | true => exact absurd ⟨i, hi, hb⟩ hn
/-- the roads that are not shut -/
def alE (a : zAb) (shut : Int32) (p q : Nat) : Prop := a_lk a p q = true ∧ bt shut q = false
theorem rc_r {x : zSt} {a : zAb} (hg : Rg x a) (hJ : AJ a) (shut : Int32) (s : Nat) : ∀ (n : Nat) (found fresh : Int32), (∀ i, i < 32 → bt found i = true → i < 12 ∧ Cn (alE a shut) s i) → bt found s = true → (∀ i, i < 32 → bt fresh i = true → bt found i = true) → (∀ d i, d < 32 → bt found d = true → bt fresh d = false → alE a shut d i → bt found i = true) → (fresh ≠ 0 → 13 ≤ n + ct (fun i => bt found i = true) 12) → ∀ i, i < 32 → (bt (rc x shut n found fresh) i = true ↔ Cn (alE a shut) s i) := by
  have h12 := hJ.lim.1
  have done : ∀ found : Int32, (∀ i, i < 32 → bt found i = true → i < 12 ∧ Cn (alE a shut) s i) → bt found s = true → (∀ d i, d < 32 → bt found d = true → alE a shut d i → bt found i = true) → ∀ i, i < 32 → (bt found i = true ↔ Cn (alE a shut) s i) := by
    intro found h1 h2 h4 i hi
    refine ⟨fun z => (h1 i hi z).2, fun z => ?_⟩
    exact Cn_ind (P := fun i => bt found i = true) h2 (fun c d _ ih e => h4 c d (by
      have : c < 32 := by
        apply Classical.byContradiction
        intro hc
        rw [b_big (Nat.le_of_not_lt hc)] at ih
        cases ih
      exact this) ih e) z
  intro n
  induction n with
  | zero =>
    intro found fresh h1 h2 h3 h4 h5 i hi
    have hf : fresh = 0 := by
      apply Classical.byContradiction
      intro hf
      have := h5 hf
      have := ct_le (fun i => bt found i = true) 12
      omega
    simp only [rc]
    exact done found h1 h2 (fun d j hd q1 q2 => h4 d j hd q1 (by rw [hf, b_0]) q2) i hi
  | succ n ih =>
    intro found fresh h1 h2 h3 h4 h5 i hi
    simp only [rc]
    by_cases hf : fresh = 0
    · rw [if_pos hf]
      exact done found h1 h2 (fun d j hd q1 q2 => h4 d j hd q1 (by rw [hf, b_0]) q2) i hi
    · rw [if_neg hf, hg.sc.1]
      have hne : ∀ j, j < 32 → (bt ((rc_near x fresh (a_dk a) &&& (found ^^^ (-1))) &&& (shut ^^^ (-1))) j = true ↔ (∃ d, d < a_dk a ∧ bt fresh d = true ∧ a_lk a d j = true) ∧ bt found j = false ∧ bt shut j = false) := fun j hj => by
        rw [b_and, b_and, b_xor, b_xor, b_m1 j hj, Bool.xor_true, Bool.xor_true, Bool.and_eq_true, Bool.and_eq_true, near_r x fresh (a_dk a) h12 j hj, Bool.not_eq_true', Bool.not_eq_true']
        constructor
        · rintro ⟨⟨⟨d, d1, d2, d3⟩, q1⟩, q2⟩
          rw [hg.nb d j (by omega) hj] at d3
          exact ⟨⟨d, d1, d2, d3⟩, q1, q2⟩
        · rintro ⟨⟨d, d1, d2, d3⟩, q1, q2⟩
          rw [← hg.nb d j (by omega) hj] at d3
          exact ⟨⟨⟨d, d1, d2, d3⟩, q1⟩, q2⟩
      generalize (rc_near x fresh (a_dk a) &&& (found ^^^ (-1))) &&& (shut ^^^ (-1)) = fr at hne
      have hor : ∀ j, bt (found ||| fr) j = true ↔ bt found j = true ∨ bt fr j = true := fun j => by rw [b_or, Bool.or_eq_true]
      have l32 : ∀ {m : Int32} {j : Nat}, bt m j = true → j < 32 := fun {m j} hb => by
        apply Classical.byContradiction
        intro hc
        rw [b_big (Nat.le_of_not_lt hc)] at hb
        cases hb
      refine ih (found ||| fr) fr (fun j hj hb => ?_) ((hor s).mpr (Or.inl h2)) (fun j _ hb => (hor j).mpr (Or.inr hb)) (fun d j hd hb hnb he => ?_) (fun hfr => ?_) i hi
      · rcases (hor j).mp hb with q | q
        · exact h1 j hj q
        · obtain ⟨⟨d, d1, d2, d3⟩, q1, q2⟩ := (hne j hj).mp q
          have hd := h3 d (by omega) d2
          refine ⟨?_, Cn_step (h1 d (by omega) hd).2 ⟨d3, q2⟩⟩
          have := (hJ.lk j d (hJ.lk d j d3).1).2
          omega
      · have hj : j < 32 := by have := (hJ.lk j d (hJ.lk d j he.1).1).2; omega
        rcases (hor d).mp hb with q | q
        · by_cases hfd : bt fresh d = true
          · by_cases hfj : bt found j = true
            · exact (hor j).mpr (Or.inl hfj)
            · refine (hor j).mpr (Or.inr ((hne j hj).mpr ⟨⟨d, (hJ.lk d j he.1).2, hfd, he.1⟩, by
                cases hq : bt found j with
                | true => exact absurd hq hfj
                | false => rfl, he.2⟩))
          · refine (hor j).mpr (Or.inl (h4 d j hd q ?_ he))
            cases hq : bt fresh d with
            | true => exact absurd hq hfd
            | false => rfl
        · rw [q] at hnb; cases hnb
      · obtain ⟨j, hj, hb⟩ := bt_ne hfr
        obtain ⟨⟨d, _, _, d3⟩, q1, _⟩ := (hne j hj).mp hb
        have hj12 : j < 12 := by have := (hJ.lk j d (hJ.lk d j d3).1).2; omega
        have h5' := h5 hf
        have hc : ct (fun i => bt found i = true) 12 + 1 ≤ ct (fun i => bt (found ||| fr) i = true) 12 := by
          rw [← ct_add1 hj12 (p := fun i => bt found i = true) (by rw [q1]; decide)]
          refine ct_mono 12 (fun i _ hi => ?_)
          rcases hi with z | z
          · exact (hor i).mpr (Or.inl z)
          · rw [z]; exact (hor j).mpr (Or.inr hb)
        omega
theorem l32 {m : Int32} {j : Nat} (hb : bt m j = true) : j < 32 := by
  apply Classical.byContradiction
  intro hc
  rw [b_big (Nat.le_of_not_lt hc)] at hb
  cases hb
theorem one_b : ∀ s, s < 12 → ∀ i, i < 32 → (bt ((1 : Int32) <<< (nI s &&& 31)) i = true ↔ i = s) := by
  intro s hs i hi
  rw [b_shl s (by omega) 1 hi]
  have h1 : ∀ j, j < 32 → bt 1 j = decide (j = 0) := by decide +kernel
  by_cases h : s ≤ i
  · rw [decide_eq_true h, Bool.true_and, h1 _ (by omega), decide_eq_true_iff]
    omega
  · rw [decide_eq_false h, Bool.false_and]
    exact ⟨fun z => (by cases z), fun z => absurd (Nat.le_of_eq z.symm) h⟩
theorem reach_a {x : zSt} {a : zAb} (hg : Rg x a) (hJ : AJ a) (shut : Int32) {s : Nat} (hs : s < 12) : ∀ i, i < 32 → (bt (rc x shut 12 ((1 : Int32) <<< (nI s &&& 31)) ((1 : Int32) <<< (nI s &&& 31))) i = true ↔ Cn (alE a shut) s i) := by
  have ob := one_b s hs
  refine rc_r hg hJ shut s 12 _ _ (fun i hi hb => ?_) ((ob s (by omega)).mpr rfl) (fun _ _ h => h) (fun d i hd h1 h2 => by rw [h1] at h2; cases h2) (fun _ => ?_)
  · rw [(ob i hi).mp hb]; exact ⟨hs, Cn_refl _ _⟩
  · have : 1 ≤ ct (fun i => bt ((1 : Int32) <<< (nI s &&& 31)) i = true) 12 := by
      have h0 := ct_add1 (p := fun _ => False) (k := s) (n := 12) hs (fun z => z)
      rw [ct_zero (fun _ _ z => z)] at h0
      have h1 := ct_mono (p := fun j => False ∨ j = s) (q := fun i => bt ((1 : Int32) <<< (nI s &&& 31)) i = true) 12 (fun i hi z => (ob i (by omega)).mpr (z.elim (fun z => z.elim) id))
      omega
    omega
/-- from s, not by b -/
theorem reach_b {x : zSt} {a : zAb} (hg : Rg x a) (hJ : AJ a) {s b : Nat} (hs : s < 12) (hb : b < 12) : ∀ d, d < 12 → inm (x_reach x (nI s) (nI b)) (nI d) = zd (Cn (Av (a_E a) b) s d) := fun d hd => by
  rw [inm_b (show d < 31 by omega)]
  refine b_iff ?_
  unfold x_reach
  have hb1 : ¬ nI b = -1 := fun q => by
    have := nI_pos (n := b) (by omega)
    rw [q] at this
    exact absurd (by decide) this
  rw [if_neg hb1, reach_a hg hJ _ hs d (by omega), zd_i]
  have e : ∀ p q, alE a ((1 : Int32) <<< (nI b &&& 31)) p q ↔ Av (a_E a) b p q := fun p q => by
    have h12 := hJ.lim.1
    constructor
    · rintro ⟨z1, z2⟩
      refine ⟨z1, fun z => ?_⟩
      have := (one_b b hb q (by omega)).mpr z
      rw [z2] at this
      cases this
    · rintro ⟨z1, z2⟩
      refine ⟨z1, ?_⟩
      cases hq : bt ((1 : Int32) <<< (nI b &&& 31)) q with
      | false => rfl
      | true => exact absurd ((one_b b hb q (l32 hq)).mp hq) z2
  exact ⟨fun z => Cn_mono (fun p q y => (e p q).mp y) z, fun z => Cn_mono (fun p q y => (e p q).mpr y) z⟩
theorem reach_0 {x : zSt} {a : zAb} (hg : Rg x a) (hJ : AJ a) {s : Nat} (hs : s < 12) : ∀ d, d < 12 → inm (x_reach x (nI s) (-1)) (nI d) = zd (Cn (a_E a) s d) := fun d hd => by
  rw [inm_b (show d < 31 by omega)]
  refine b_iff ?_
  unfold x_reach
  rw [if_pos rfl, reach_a hg hJ _ hs d (by omega), zd_i]
  exact ⟨fun z => Cn_mono (fun p q y => y.1) z, fun z => Cn_mono (fun p q y => ⟨y, b_0 q⟩) z⟩
