/-! covering: class and reference find the same -/
/-- the numbers that pass -/
def PS (kd : Int32) (n : Nat) (g : Nat → Int32) (z : Int) : Prop := if kd = 1 then (g 0).toInt ≤ z ∧ z ≤ (g 1).toInt else if kd = 2 then (-2147483648 ≤ z ∧ z ≤ (g 0).toInt - 1) ∨ ((g 1).toInt + 1 ≤ z ∧ z ≤ 2147483647) else if kd = 3 then ∃ i, i < n ∧ (g i).toInt = z else -2147483648 ≤ z ∧ z ≤ 2147483647
theorem t64 (x : Int32) : x.toInt64.toInt = x.toInt := Int32.toInt_toInt64 x
theorem i32_r (x : Int32) : -2147483648 ≤ x.toInt ∧ x.toInt ≤ 2147483647 := by
  have := i64_rng x
  rw [t64] at this
  exact this
theorem l_m1 {a : Int64} (h1 : -2147483648 ≤ a.toInt) (h2 : a.toInt ≤ 2147483647) : (a - 1).toInt = a.toInt - 1 := by
  have e : (a - 1).toInt = (a.toInt - 1).bmod (2 ^ 64) := by
    rw [Int64.toInt_sub]
    rfl
  rw [e]
  exact Int.bmod_eq_of_le (by omega) (by omega)
theorem k_min : (-2147483648 : Int64).toInt = -2147483648 := by decide
theorem k_max : (2147483647 : Int64).toInt = 2147483647 := by decide
theorem g_p1 (x : Int32) : (x.toInt64 + 1).toInt = x.toInt + 1 := by rw [l_p1 (by rw [t64]; exact (i32_r x).2), t64]
theorem g_m1 (x : Int32) : (x.toInt64 - 1).toInt = x.toInt - 1 := by rw [l_m1 (by rw [t64]; exact (i32_r x).1) (by rw [t64]; exact (i32_r x).2), t64]
/-- the class's spans -/
theorem sp_c {kd : Int32} {n : Nat} {g : Nat → Int32} (hk : tsok kd n g) (z : Int64) : (∃ i, i < ft_spans kd n ∧ ft_lo kd n g i ≤ z ∧ z ≤ ft_hi kd n g i) ↔ PS kd n g z.toInt := by
  unfold ft_spans ft_lo ft_hi PS
  simp only [l_le]
  rcases hk with ⟨c, _⟩ | ⟨c | c, _, _⟩ | ⟨c, _, _, _⟩
  · rw [c, if_neg (show ¬ (0 : Int32) = 2 by decide), if_neg (show ¬ (0 : Int32) = 3 by decide), if_neg (show ¬ (0 : Int32) = 1 by decide)]
    simp only [show ¬ (0 : Int32) = 1 by decide, show ¬ (0 : Int32) = 2 by decide, show ¬ (0 : Int32) = 3 by decide, if_false, k_min, k_max]
    exact ⟨fun ⟨_, _, h⟩ => h, fun h => ⟨0, by decide, h⟩⟩
  · rw [c]
    simp only [show ¬ (1 : Int32) = 2 by decide, show ¬ (1 : Int32) = 3 by decide, if_false, if_true, t64]
    exact ⟨fun ⟨_, _, h⟩ => h, fun h => ⟨0, by decide, h⟩⟩
  · rw [c]
    simp only [show ¬ (2 : Int32) = 1 by decide, if_false, if_true]
    constructor
    · rintro ⟨i, hi, h1, h2⟩
      by_cases e : i = 0
      · rw [if_pos e] at h1 h2
        rw [k_min] at h1
        rw [g_m1] at h2
        exact Or.inl ⟨h1, h2⟩
      · rw [if_neg e] at h1 h2
        rw [g_p1] at h1
        rw [k_max] at h2
        exact Or.inr ⟨h1, h2⟩
    · rintro (h | h)
      · refine ⟨0, by decide, ?_, ?_⟩
        · rw [if_pos rfl, k_min]; exact h.1
        · rw [if_pos rfl, g_m1]; exact h.2
      · refine ⟨1, by decide, ?_, ?_⟩
        · rw [if_neg (by decide), g_p1]; exact h.1
        · rw [if_neg (by decide), k_max]; exact h.2
  · rw [c]
    simp only [show ¬ (3 : Int32) = 1 by decide, show ¬ (3 : Int32) = 2 by decide, if_false, if_true, t64]
    constructor
    · rintro ⟨i, hi, h1, h2⟩
      unfold ft_at at h1 h2
      rw [if_pos hi] at h1 h2
      exact ⟨i, hi, by omega⟩
    · rintro ⟨i, hi, h⟩
      unfold ft_at
      refine ⟨i, hi, ?_, ?_⟩
      · rw [if_pos hi]; omega
      · rw [if_pos hi]; omega
theorem hi_b {kd : Int32} {n : Nat} {g : Nat → Int32} (i : Nat) : (ft_hi kd n g i).toInt ≤ 2147483647 := by
  unfold ft_hi
  split
  · rw [t64]; exact (i32_r _).2
  · split
    · split
      · rw [g_m1]; have := (i32_r (g 0)).2; omega
      · rw [k_max]; exact Int.le_refl _
    · split
      · rw [t64]; exact (i32_r _).2
      · rw [k_max]; exact Int.le_refl _
theorem hi_mo {kd : Int32} {n : Nat} {g : Nat → Int32} (hk : tsok kd n g) {i j : Nat} (hij : i ≤ j) (hj : j < ft_spans kd n) : (ft_hi kd n g i).toInt ≤ (ft_hi kd n g j).toInt := by
  unfold ft_spans at hj
  unfold ft_hi
  rcases hk with ⟨c, _⟩ | ⟨c | c, _, _⟩ | ⟨c, _, _, hs⟩
  · rw [c]
    simp only [show ¬ (0 : Int32) = 1 by decide, show ¬ (0 : Int32) = 2 by decide, show ¬ (0 : Int32) = 3 by decide, if_false]
    exact Int.le_refl _
  · rw [c]
    simp only [if_true]
    exact Int.le_refl _
  · rw [c]
    simp only [show ¬ (2 : Int32) = 1 by decide, if_false, if_true]
    by_cases e1 : i = 0
    · rw [if_pos e1]
      by_cases e2 : j = 0
      · rw [if_pos e2]; exact Int.le_refl _
      · rw [if_neg e2, g_m1, k_max]; have := (i32_r (g 0)).2; omega
    · rw [if_neg e1, if_neg (by omega)]; exact Int.le_refl _
  · rw [c] at hj ⊢
    simp only [show ¬ (3 : Int32) = 2 by decide, if_false, if_true] at hj
    simp only [show ¬ (3 : Int32) = 1 by decide, show ¬ (3 : Int32) = 2 by decide, if_false, if_true, t64]
    unfold ft_at
    rw [if_pos (by omega), if_pos hj]
    by_cases e : i = j
    · rw [e]; exact Int.le_refl _
    · have := hs i j (by omega) hj
      rw [Int32.lt_iff_toInt_lt] at this
      omega
theorem nx_p {kd : Int32} {sz : Nat} {g : Nat → Int32} (hk : tsok kd sz g) : ∀ (n i : Nat) (x : Int64), i + n = ft_spans kd sz → (∀ j, j < i → ¬ (ft_lo kd sz g j ≤ x ∧ x ≤ ft_hi kd sz g j)) → x ≤ ft_next kd sz g n i x ∧ (∀ z : Int64, x ≤ z → z < ft_next kd sz g n i x → ∃ j, j < ft_spans kd sz ∧ ft_lo kd sz g j ≤ z ∧ z ≤ ft_hi kd sz g j) ∧ ∀ j, j < ft_spans kd sz → ¬ (ft_lo kd sz g j ≤ ft_next kd sz g n i x ∧ ft_next kd sz g n i x ≤ ft_hi kd sz g j)
  | 0, i, x, hi, hp => by
    simp only [ft_next]
    refine ⟨l_le.mpr (Int.le_refl _), fun z h1 h2 => ?_, fun j hj => hp j (by omega)⟩
    have a1 := l_le.mp h1
    have a2 := l_lt.mp h2
    omega
  | n + 1, i, x, hi, hp => by
    simp only [ft_next]
    by_cases c : ft_lo kd sz g i ≤ x ∧ x ≤ ft_hi kd sz g i
    · rw [if_pos c]
      have hb := hi_b (kd := kd) (n := sz) (g := g) i
      have e1 := l_p1 hb
      have ih := nx_p hk n (i + 1) (ft_hi kd sz g i + 1) (by omega) (fun j hj q => by
        have m := hi_mo hk (show j ≤ i by omega) (show i < ft_spans kd sz by omega)
        have := l_le.mp q.2
        rw [e1] at this
        omega)
      have c2 := l_le.mp c.2
      refine ⟨l_le.mpr (by have := l_le.mp ih.1; rw [e1] at this; omega), fun z h1 h2 => ?_, ih.2.2⟩
      by_cases hz : z ≤ ft_hi kd sz g i
      · exact ⟨i, by omega, l_le.mpr (by have := l_le.mp c.1; have := l_le.mp h1; omega), hz⟩
      · refine ih.2.1 z (l_le.mpr ?_) h2
        rw [e1]
        have : ¬ z.toInt ≤ (ft_hi kd sz g i).toInt := fun q => hz (l_le.mpr q)
        omega
    · rw [if_neg c]
      exact nx_p hk n (i + 1) x (by omega) (fun j hj => by
        by_cases e : j = i
        · rw [e]; exact c
        · exact hp j (by omega))
theorem all_c {kd : Int32} {n : Nat} {g : Nat → Int32} (hk : tsok kd n g) (a b : Int64) : ft_all kd n g a b = true ↔ ∀ z : Int64, a ≤ z → z ≤ b → PS kd n g z.toInt := by
  have h := nx_p hk (ft_spans kd n) 0 a (by omega) (fun j hj => absurd hj (Nat.not_lt_zero j))
  unfold ft_all
  rw [zd_i]
  constructor
  · intro hb z h1 h2
    exact (sp_c hk z).mp (h.2.1 z h1 (l_lt.mpr (by have := l_lt.mp hb; have := l_le.mp h2; omega)))
  · intro hall
    apply Classical.byContradiction
    intro hn
    have hle : ft_next kd n g (ft_spans kd n) 0 a ≤ b := l_le.mpr (by
      have : ¬ b.toInt < (ft_next kd n g (ft_spans kd n) 0 a).toInt := fun q => hn (l_lt.mpr q)
      omega)
    obtain ⟨j, hj, h1, h2⟩ := (sp_c hk _).mpr (hall _ h.1 hle)
    exact h.2.2 j hj ⟨h1, h2⟩
theorem wide_c {kd kd' : Int32} {n n' : Nat} {g g' : Nat → Int32} (hk : tsok kd n g) (hk' : tsok kd' n' g') : ft_wide kd n g kd' n' g' = true ↔ ∀ z : Int64, PS kd' n' g' z.toInt → PS kd n g z.toInt := by
  unfold ft_wide
  rw [zd_i]
  constructor
  · intro h z hz
    obtain ⟨i, hi, h1, h2⟩ := (sp_c hk' z).mpr hz
    exact (all_c hk _ _).mp (h i hi) z h1 h2
  · intro h i hi
    exact (all_c hk _ _).mpr (fun z h1 h2 => h z ((sp_c hk' z).mp ⟨i, hi, h1, h2⟩))
/-- the reference's spans -/
theorem sp_y {y : zMS} {t : Nat} {kd : Int32} {n : Nat} {g : Nat → Int32} (h : ts_r y t kd n g) (hk : tsok kd n g) (z : Int64) : (∃ i, i < sN (y_kd y t) (y_mn y t) (y_g y t) ∧ sL (y_kd y t) (y_g y t) i ≤ z ∧ z ≤ sH (y_kd y t) (y_g y t) i) ↔ PS kd n g z.toInt := by
  obtain ⟨h1, h2, h3⟩ := h
  rw [h1]
  unfold sN sL sH PS
  simp only [l_le, l_lt]
  have gg : ∀ k, k < n → y_g y t k = g k := h3
  rcases hk with ⟨c, _⟩ | ⟨c | c, cn, cc⟩ | ⟨c, _, _, _⟩
  · rw [c]
    simp only [show ¬ (0 : Int32) = 1 by decide, show ¬ (0 : Int32) = 2 by decide, show ¬ (0 : Int32) = 3 by decide, if_false, if_true, k_min, k_max]
    exact ⟨fun ⟨_, _, h⟩ => h, fun h => ⟨0, by decide, h⟩⟩
  · rw [c, gg 0 (by omega), gg 1 (by omega)]
    simp only [show ¬ (1 : Int32) = 0 by decide, if_false, if_true, t64]
    exact ⟨fun ⟨_, _, h⟩ => h, fun h => ⟨0, by decide, h⟩⟩
  · rw [c, gg 0 (by omega), gg 1 (by omega)]
    have cc' := Int32.le_iff_toInt_le.mp cc
    have b0 := i32_r (g 0)
    have b1 := i32_r (g 1)
    simp only [show ¬ (2 : Int32) = 0 by decide, show ¬ (2 : Int32) = 1 by decide, if_false, if_true, t64, k_min, k_max]
    constructor
    · rintro ⟨i, hi, q1, q2⟩
      by_cases e : i = 0 ∧ -2147483648 < (g 0).toInt
      · rw [if_pos e] at q1 q2
        rw [k_min] at q1
        rw [g_m1] at q2
        exact Or.inl ⟨q1, q2⟩
      · rw [if_neg e] at q1 q2
        rw [g_p1] at q1
        rw [k_max] at q2
        exact Or.inr ⟨q1, q2⟩
    · rintro (q | q)
      · have c0 : -2147483648 < (g 0).toInt := by omega
        refine ⟨0, ?_, ?_, ?_⟩
        · rw [if_pos c0]; omega
        · rw [if_pos ⟨rfl, c0⟩, k_min]; exact q.1
        · rw [if_pos ⟨rfl, c0⟩, g_m1]; exact q.2
      · have c1 : (g 1).toInt < 2147483647 := by omega
        by_cases c0 : -2147483648 < (g 0).toInt
        · refine ⟨1, ?_, ?_, ?_⟩
          · rw [if_pos c0, if_pos c1]; omega
          · rw [if_neg (fun z => absurd z.1 (by decide)), g_p1]; exact q.1
          · rw [if_neg (fun z => absurd z.1 (by decide)), k_max]; exact q.2
        · refine ⟨0, ?_, ?_, ?_⟩
          · rw [if_neg c0, if_pos c1]; omega
          · rw [if_neg (fun z => c0 z.2), g_p1]; exact q.1
          · rw [if_neg (fun z => c0 z.2), k_max]; exact q.2
  · rw [c, h2 c]
    simp only [show ¬ (3 : Int32) = 0 by decide, show ¬ (3 : Int32) = 1 by decide, show ¬ (3 : Int32) = 2 by decide, if_false, if_true, t64]
    constructor
    · rintro ⟨i, hi, q1, q2⟩
      rw [gg i hi] at q1 q2
      exact ⟨i, hi, by omega⟩
    · rintro ⟨i, hi, q⟩
      refine ⟨i, hi, ?_, ?_⟩
      · rw [gg i hi]; omega
      · rw [gg i hi]; omega
theorem none_y {y : zMS} {t : Nat} {kd : Int32} {n : Nat} {g : Nat → Int32} (h : ts_r y t kd n g) (hk : tsok kd n g) : sN (y_kd y t) (y_mn y t) (y_g y t) = 0 ↔ ft_none kd g = true := by
  obtain ⟨h1, h2, h3⟩ := h
  rw [h1]
  unfold sN ft_none
  rw [zd_i]
  simp only [l_lt]
  have gg : ∀ k, k < n → y_g y t k = g k := h3
  rcases hk with ⟨c, _⟩ | ⟨c | c, cn, cc⟩ | ⟨c, c1, _, _⟩
  · rw [c, if_pos rfl]; exact ⟨fun z => absurd z (by decide), fun z => absurd z.1 (by decide)⟩
  · rw [c, if_neg (by decide), if_pos rfl]; exact ⟨fun z => absurd z (by decide), fun z => absurd z.1 (by decide)⟩
  · rw [c, if_neg (by decide), if_neg (by decide), if_pos rfl, gg 0 (by omega), gg 1 (by omega), t64, t64, k_min, k_max]
    have b0 := i32_r (g 0)
    have b1 := i32_r (g 1)
    have e0 : g 0 = -2147483648 ↔ (g 0).toInt = -2147483648 := ⟨fun z => by rw [z]; decide, fun z => Int32.toInt_inj.mp (by rw [z]; decide)⟩
    have e1 : g 1 = 2147483647 ↔ (g 1).toInt = 2147483647 := ⟨fun z => by rw [z]; decide, fun z => Int32.toInt_inj.mp (by rw [z]; decide)⟩
    rw [e0, e1]
    by_cases c0 : -2147483648 < (g 0).toInt
    · rw [if_pos c0]; exact ⟨fun z => by omega, fun z => by omega⟩
    · rw [if_neg c0]
      by_cases c1 : (g 1).toInt < 2147483647
      · rw [if_pos c1]; exact ⟨fun z => by omega, fun z => by omega⟩
      · rw [if_neg c1]; exact ⟨fun _ => ⟨rfl, by omega, by omega⟩, fun _ => rfl⟩
  · rw [c, if_neg (by decide), if_neg (by decide), if_neg (by decide), h2 c]
    exact ⟨fun z => by omega, fun z => absurd z.1 (by decide)⟩
theorem hold_y {y : zMS} {t t' : Nat} {kd kd' : Int32} {n n' : Nat} {g g' : Nat → Int32} (h : ts_r y t kd n g) (hk : tsok kd n g) (h' : ts_r y t' kd' n' g') (hk' : tsok kd' n' g') : y_hold y t t' = ft_wide kd n g kd' n' g' := by
  refine b_iff ?_
  rw [wide_c hk hk']
  unfold y_hold
  rw [zd_i]
  constructor
  · intro q z hz
    obtain ⟨k, k1, k2, k3⟩ := (sp_y h' hk' z).mpr hz
    exact (sp_y h hk z).mp (q k k1 z k2 k3)
  · intro q k k1 z k2 k3
    exact (sp_y h hk z).mpr (q z ((sp_y h' hk' z).mp ⟨k, k1, k2, k3⟩))
/-- one wish covers another, as the reference finds it -/
theorem cvd_y {y : zMS} {a : zAb} {i j : Nat} (hi : ∀ f, f < 4 → ts_r y (4 * i + f) (a_fk a i f) (a_fz a i f) (a_fg a i f)) (hj : ∀ f, f < 4 → ts_r y (4 * j + f) (a_fk a j f) (a_fz a j f) (a_fg a j f)) (ki : ∀ f, f < 4 → tsok (a_fk a i f) (a_fz a i f) (a_fg a i f)) (kj : ∀ f, f < 4 → tsok (a_fk a j f) (a_fz a j f) (a_fg a j f)) : y_cvd y i j = a_tk a i j := by
  unfold y_cvd a_tk
  refine congrArg zd (propext (or_congr ⟨fun ⟨f, h1, h2⟩ => ⟨f, h1, (none_y (hj f h1) (kj f h1)).mp h2⟩, fun ⟨f, h1, h2⟩ => ⟨f, h1, (none_y (hj f h1) (kj f h1)).mpr h2⟩⟩ ⟨fun h f hf => ?_, fun h f hf => ?_⟩))
  · rw [← hold_y (hi f hf) (ki f hf) (hj f hf) (kj f hf)]; exact h f hf
  · rw [hold_y (hi f hf) (ki f hf) (hj f hf) (kj f hf)]; exact h f hf
