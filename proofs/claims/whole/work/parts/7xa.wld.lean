/-! the law's world: the class's, the reference's, the script -/
theorem ar_4p (a : Nat) : nI a + (4 : Int32) = nI (a + 4) := by rw [show (4 : Int32) = nI 4 from rfl, nI_add]
theorem ar_5p (a : Nat) : nI a + (5 : Int32) = nI (a + 5) := by rw [show (5 : Int32) = nI 5 from rfl, nI_add]
theorem ar_6 (j : Nat) : nI (6 * j) + (6 : Int32) = nI (6 * (j + 1)) := by rw [show (6 : Int32) = nI 6 from rfl, nI_add]; rfl
def scN : zNm := (91, 0, 0)
def scw (L : Nat) (xs : Nat → Int32) : zMp := fun n => if n = scN then some (zin L xs) else none
def lwW (x : zSt) (y : zMS) (L : Nat) (xs : Nat → Int32) : zMp := zun (pic x) (zun (mp y) (scw L xs))
theorem scw_o {L : Nat} {xs : Nat → Int32} {n : zNm} (h : n ≠ scN) : scw L xs n = none := if_neg h
theorem scw_s (L : Nat) (xs : Nat → Int32) : scw L xs scN = some (zin L xs) := if_pos rfl
theorem zcl_sc (L : Nat) (xs : Nat → Int32) : zcl (scw L xs) := fun n e he n' hn' => by
  unfold scw at he
  split at he
  · cases he; exact hn'.elim
  · cases he
theorem pic_o {x : zSt} {k i j : Nat} (h : 19 ≤ k) (h' : k ≠ 90) : pic x (k, i, j) = none := by
  obtain ⟨q, rfl⟩ : ∃ q, k = q + 19 := ⟨k - 19, by omega⟩
  exact if_neg (c := q = 71 ∧ i = 0 ∧ j = 0) (fun z => h' (by omega))
theorem pic_nm {x : zSt} {n : zNm} (h : pic x n ≠ none) : n.1 < 19 ∨ n.1 = 90 := by
  obtain ⟨k, i, j⟩ := n
  show k < 19 ∨ k = 90
  by_cases h1 : k < 19
  · exact Or.inl h1
  · by_cases h2 : k = 90
    · exact Or.inr h2
    · exact absurd (pic_o (by omega) h2) h
theorem mp_o {y : zMS} {k i j : Nat} (h : k < 30 ∨ 32 < k) : mp y (k, i, j) = none := by
  show (if k = 30 then (if i = 0 ∧ j = 0 then some (m_main y) else none) else if k = 31 then (if j = 0 then m_arr y i else none) else if k = 32 then (if i < 4 ∧ j = y_cp y then m_gro y i else y_gb y i j) else none) = none
  rw [if_neg (by omega), if_neg (by omega), if_neg (by omega)]
theorem mp_nm {y : zMS} {n : zNm} (h : mp y n ≠ none) : 30 ≤ n.1 ∧ n.1 ≤ 32 := by
  obtain ⟨k, i, j⟩ := n
  show 30 ≤ k ∧ k ≤ 32
  by_cases h1 : k < 30 ∨ 32 < k
  · exact absurd (mp_o h1) h
  · omega
theorem nsc {n : zNm} (h : n.1 ≠ 91) : n ≠ scN := fun z => h (by rw [z]; rfl)
theorem d_x (x : zSt) (y : zMS) (L : Nat) (xs : Nat → Int32) : ∀ n, pic x n ≠ none → zun (mp y) (scw L xs) n = none := fun n hn => by
  have h := pic_nm hn
  obtain ⟨k, i, j⟩ := n
  have h : k < 19 ∨ k = 90 := h
  rw [zun_r (mp_o (by omega))]
  exact scw_o (nsc (show k ≠ 91 by omega))
theorem d_y (x : zSt) (y : zMS) (L : Nat) (xs : Nat → Int32) : ∀ n, mp y n ≠ none → zun (pic x) (scw L xs) n = none := fun n hn => by
  have h := mp_nm hn
  obtain ⟨k, i, j⟩ := n
  have h : 30 ≤ k ∧ k ≤ 32 := h
  rw [zun_r (pic_o (by omega) (by omega))]
  exact scw_o (nsc (show k ≠ 91 by omega))
theorem zun_comm {A B C : zMp} (h : ∀ n, A n ≠ none → B n = none) : zun A (zun B C) = zun B (zun A C) := by
  funext n
  cases ha : A n with
  | some e => rw [zun_l ha, zun_r (h n (by rw [ha]; simp)), zun_l ha]
  | none =>
    rw [zun_r ha]
    cases hb : B n with
    | some e => rw [zun_l hb, zun_l hb]
    | none => rw [zun_r hb, zun_r hb, zun_r ha]
theorem lW_c (x : zSt) (y : zMS) (L : Nat) (xs : Nat → Int32) : lwW x y L xs = zun (mp y) (zun (pic x) (scw L xs)) := zun_comm (fun n hn => by
  have h := pic_nm hn
  obtain ⟨k, i, j⟩ := n
  have h : k < 19 ∨ k = 90 := h
  exact mp_o (by omega))
theorem W_s (x : zSt) (y : zMS) (L : Nat) (xs : Nat → Int32) : lwW x y L xs scN = some (zin L xs) := by
  have h1 : pic x scN = none := pic_o (by decide) (by decide)
  have h2 : mp y scN = none := mp_o (by decide)
  unfold lwW
  rw [zun_r h1, zun_r h2, scw_s]
theorem W_x (x : zSt) (y : zMS) (L : Nat) (xs : Nat → Int32) : lwW x y L xs (0, 0, 0) = some (x_main x) := zun_l rfl
theorem W_y (x : zSt) (y : zMS) (L : Nat) (xs : Nat → Int32) : lwW x y L xs (30, 0, 0) = some (m_main y) := (zun_r (pic_o (by decide) (by decide))).trans (zun_l rfl)
/-- arguments that are numbers -/
def zvl : List zAV → Prop
  | [] => True
  | .inl _ :: t => zvl t
  | .inr _ :: _ => False
theorem zvl_a {M : zMp} : ∀ {vs : List zAV}, zvl vs → ∀ a ∈ vs, zalv M a
  | .inl w :: t, h, a, ha => by
    rcases List.mem_cons.mp ha with rfl | ha
    · trivial
    · exact zvl_a (vs := t) h a ha
  | .inr _ :: _, h, _, _ => h.elim
/-- a call of the class in the law -/
theorem lX {TX : zT2} {vs : List zAV} {x x' : zSt} {y : zMS} {L : Nat} {xs : Nat → Int32} {r : Int32} {c1 c2 : Nat} {Rt : Option zAV → zMp → Prop} (hx : zcl (pic x)) (hy : zcl (mp y)) (hX : ∀ Rt : Option zAV → zMp → Prop, Rt (some (.inl (.int r))) (pic x') → TX (.inr (0, 0, 0) :: vs) (pic x) Rt c1 c2) (hv : zvl vs) (h : zcl (pic x') → Rt (some (.inl (.int r))) (lwW x' y L xs)) : zTF TX (.inr (0, 0, 0) :: vs) (lwW x y L xs) Rt c1 c2 := by
  refine ⟨pic x, zun (mp y) (scw L xs), rfl, hx, zcl_un hy (zcl_sc L xs), d_x x y L xs, fun a ha => ?_, hX _ (fun z => ⟨d_x x' y L xs, h z⟩)⟩
  rcases List.mem_cons.mp ha with rfl | ha
  · show pic x (0, 0, 0) ≠ none
    exact fun z => Option.some_ne_none _ (show some (x_main x) = none from z)
  · exact zvl_a hv a ha
/-- a call of the reference in the law -/
theorem lY {TY : zT2} {vs : List zAV} {x' : zSt} {y : zMS} {L : Nat} {xs : Nat → Int32} {r : Int32} {d1 d2 : Nat} {Rt : Option zAV → zMp → Prop} (hx : zcl (pic x')) (hy : zcl (mp y)) (hY : ∀ Rt : Option zAV → zMp → Prop, (∀ y' a', Bth x' y' a' → d1 + y_cp y ≤ y_cp y' → d2 + 16 * y_cp y ≤ 16 * y_cp y' → Rt (some (.inl (.int r))) (mp y')) → TY (.inr (30, 0, 0) :: vs) (mp y) Rt d1 d2) (hv : zvl vs) (h : ∀ y' a', Bth x' y' a' → d1 + y_cp y ≤ y_cp y' → d2 + 16 * y_cp y ≤ 16 * y_cp y' → zcl (mp y') → Rt (some (.inl (.int r))) (lwW x' y' L xs)) : zTF TY (.inr (30, 0, 0) :: vs) (lwW x' y L xs) Rt d1 d2 := by
  refine ⟨mp y, zun (pic x') (scw L xs), lW_c x' y L xs, hy, zcl_un hx (zcl_sc L xs), d_y x' y L xs, fun a ha => ?_, hY _ (fun y' a' hB e1 e2 z => ⟨d_y x' y' L xs, ?_⟩)⟩
  · rcases List.mem_cons.mp ha with rfl | ha
    · show mp y (30, 0, 0) ≠ none
      exact fun z => Option.some_ne_none _ (show some (m_main y) = none from z)
    · exact zvl_a hv a ha
  · rw [← lW_c]
    exact h y' a' hB e1 e2 z
/-- what holds at the loop's head, j calls done -/
def lCs (K : zKT) (L : Nat) (xs : Nat → Int32) (j : Nat) : Prop := ∀ x y a k n, Bth x y a → zcl (pic x) → zcl (mp y) → k ≤ 100 + 20 * j + 2 * rws x + y_cp y → n ≤ 140000 + 2100 * j + 6 * rws x + 16 * y_cp y → K [some (.inr scN), some (.inr (0, 0, 0)), some (.inr (30, 0, 0)), some (.inl (.int (nI (6 * j))))] [] (lwW x y L xs) k n
