/-! what always holds of the common state -/
/-- the notices among messages -/
def nt : List zIt → List Nat
  | [] => []
  | .inl k :: t => k :: nt t
  | .inr _ :: t => nt t
def hdT : List zIt → Bool
  | [] => false
  | i :: _ => isT i
/-- no two tells side by side -/
def na : List zIt → Prop
  | [] => True
  | .inl _ :: t => na t
  | .inr _ :: t => hdT t = false ∧ na t
theorem nt_app (p q : List zIt) : nt (p ++ q) = nt p ++ nt q := by
  induction p with
  | nil => rfl
  | cons i t ih =>
    cases i with
    | inl k => show k :: nt (t ++ q) = k :: nt t ++ nt q; rw [ih]; rfl
    | inr m => exact ih
theorem lsT_c (i j : zIt) (t : List zIt) : lsT (i :: j :: t) = lsT (j :: t) := by
  unfold lsT
  rw [List.getLast?_cons_cons]
theorem lsT_1 (i : zIt) : lsT [i] = isT i := rfl
theorem lsT_app (p : List zIt) (i : zIt) : lsT (p ++ [i]) = isT i := by
  unfold lsT
  rw [List.getLast?_append]
  rfl
theorem lsT_s {q : List zIt} (h : lsT q = true) : ∃ m, q = q.dropLast ++ [.inr m] := by
  rcases List.eq_nil_or_concat q with e | ⟨p, i, e⟩
  · rw [e] at h; cases h
  · subst e
    rw [List.concat_eq_append, lsT_app] at h
    cases i with
    | inl k => cases h
    | inr m => exact ⟨m, by rw [List.concat_eq_append, List.dropLast_concat]⟩
theorem na_app {p q : List zIt} (h1 : na p) (h2 : na q) (h3 : lsT p = true → hdT q = false) : na (p ++ q) := by
  induction p with
  | nil => exact h2
  | cons i t ih =>
    cases t with
    | nil =>
      cases i with
      | inl k => exact h2
      | inr m => exact ⟨h3 rfl, h2⟩
    | cons j s =>
      rw [lsT_c] at h3
      cases i with
      | inl k => exact ih h1 h3
      | inr m => exact ⟨h1.1, ih h1.2 h3⟩
theorem na_drop {p : List zIt} {i : zIt} (h : na (p ++ [i])) : na p ∧ (isT i = true → lsT p = false) := by
  induction p with
  | nil => exact ⟨trivial, fun _ => rfl⟩
  | cons j t ih =>
    cases t with
    | nil =>
      cases j with
      | inl k => exact ⟨trivial, fun _ => rfl⟩
      | inr m =>
        have h' : hdT [i] = false ∧ na [i] := h
        exact ⟨⟨rfl, trivial⟩, fun z => by rw [show hdT [i] = isT i from rfl, z] at h'; exact absurd h'.1 (by decide)⟩
    | cons j' s =>
      rw [lsT_c]
      cases j with
      | inl k => exact ih h
      | inr m =>
        have h' : hdT (j' :: s ++ [i]) = false ∧ na (j' :: s ++ [i]) := h
        have := ih h'.2
        exact ⟨⟨h'.1, this.1⟩, this.2⟩
theorem na_tail : ∀ {q : List zIt}, na q → na q.tail
  | [], _ => trivial
  | .inl _ :: _, h => h
  | .inr _ :: _, h => h.2
theorem nt_tail : ∀ (q : List zIt), (nt q.tail).Sublist (nt q)
  | [] => List.Sublist.refl _
  | .inl k :: t => List.sublist_cons_self k (nt t)
  | .inr _ :: t => List.Sublist.refl (nt t)
theorem na_len : ∀ (q : List zIt), na q → q.length + (if lsT q = true then 0 else 1) ≤ 2 * (nt q).length + 1
  | [], _ => by decide
  | [.inl k], _ => by simp [lsT, nt, isT]
  | [.inr m], _ => by simp [lsT, nt, isT]
  | .inl k :: j :: t, h => by
    have := na_len (j :: t) h
    rw [lsT_c]
    show (j :: t).length + 1 + _ ≤ 2 * ((nt (j :: t)).length + 1) + 1
    omega
  | .inr m :: .inr m' :: t, h => by
    have : hdT (.inr m' :: t) = false := h.1
    cases this
  | .inr m :: .inl k :: [], _ => by simp [lsT, nt, isT]
  | .inr m :: .inl k :: j :: t, h => by
    have h' : na (j :: t) := h.2
    have := na_len (j :: t) h'
    rw [lsT_c, lsT_c]
    show (j :: t).length + 1 + 1 + _ ≤ 2 * ((nt (j :: t)).length + 1) + 1
    omega
theorem tlq_nt (q : List zIt) (m : Nat → Bool) : nt (tlq q m) = nt q := by
  unfold tlq
  by_cases h : lsT q = true
  · rw [if_pos h]
    obtain ⟨m', e⟩ := lsT_s h
    rw [nt_app]
    conv => rhs; rw [e, nt_app]
    rfl
  · rw [if_neg h, nt_app]
    exact List.append_nil _
theorem tlq_na {q : List zIt} (m : Nat → Bool) (h : na q) : na (tlq q m) := by
  unfold tlq
  by_cases hl : lsT q = true
  · rw [if_pos hl]
    obtain ⟨m', e⟩ := lsT_s hl
    rw [e] at h
    have := na_drop h
    exact na_app this.1 ⟨rfl, trivial⟩ (fun z => absurd z (by rw [this.2 rfl]; decide))
  · rw [if_neg hl]
    exact na_app h ⟨rfl, trivial⟩ (fun z => absurd z hl)
theorem tlq_in {q : List zIt} {m m' : Nat → Bool} (h : .inr m' ∈ tlq q m) : m' = m ∨ .inr m' ∈ q := by
  unfold tlq at h
  split at h
  · rcases List.mem_append.mp h with h | h
    · exact Or.inr ((List.dropLast_sublist q).subset h)
    · simp only [List.mem_singleton, Sum.inr.injEq] at h
      exact Or.inl h
  · rcases List.mem_append.mp h with h | h
    · exact Or.inr h
    · simp only [List.mem_singleton, Sum.inr.injEq] at h
      exact Or.inl h
theorem nt_mem : ∀ {q : List zIt} {k : Nat}, k ∈ nt q ↔ .inl k ∈ q
  | [], k => by simp [nt]
  | .inl j :: t, k => by
    have := nt_mem (q := t) (k := k)
    simp only [nt, List.mem_cons, Sum.inl.injEq, this]
  | .inr m :: t, k => by
    have := nt_mem (q := t) (k := k)
    simp only [nt, List.mem_cons, this, reduceCtorEq, false_or]
/-- a list of different numbers is no longer than what it is of -/
theorem nd_len (p : Nat → Prop) : ∀ (n : Nat) (l : List Nat), l.Nodup → (∀ k, k ∈ l → k < n ∧ p k) → l.length ≤ ct p n
  | 0, l, _, h => by
    cases l with
    | nil => exact Nat.le_refl _
    | cons k t => exact absurd (h k (List.mem_cons_self)).1 (Nat.not_lt_zero k)
  | n + 1, l, hd, h => by
    show l.length ≤ ct p n + (if zd (p n) = true then 1 else 0)
    have ih := nd_len p n (l.erase n) (hd.erase n) (fun k hk => by
      have h1 := (List.Nodup.mem_erase_iff hd).mp hk
      have h2 := h k h1.2
      have : k ≠ n := h1.1
      exact ⟨by omega, h2.2⟩)
    by_cases hn : n ∈ l
    · have e := List.length_erase_of_mem hn
      have hp := (h n hn).2
      rw [zd_t hp, if_pos rfl]
      omega
    · rw [List.erase_of_not_mem hn] at ih
      omega
/-- a test as it can be -/
def tsok (kd : Int32) (n : Nat) (g : Nat → Int32) : Prop := (kd = 0 ∧ n = 0) ∨ ((kd = 1 ∨ kd = 2) ∧ n = 2 ∧ g 0 ≤ g 1) ∨ (kd = 3 ∧ 1 ≤ n ∧ n ≤ 4 ∧ ∀ i j, i < j → j < n → g i < g j)
def Ql (a : zAb) (u v : Nat) : Prop := na (a_q a u v) ∧ (nt (a_q a u v)).Nodup ∧ (∀ k, k ∈ nt (a_q a u v) → k < a_nn a ∧ a_sn a k u = true) ∧ (∀ m, .inr m ∈ a_q a u v → ∀ w, m w = true → w < a_nw a)
/-- notice k is under way -/
def a_uw (a : zAb) (k : Nat) : Prop := ∃ u v, k ∈ nt (a_q a u v)
def AJ (a : zAb) : Prop :=
  (a_dk a ≤ 12 ∧ a_nr a ≤ 24 ∧ a_nw a ≤ 300 ∧ a_nn a ≤ 600) ∧
  ((∀ r, r < a_nr a → a_rd a r < a_dk a) ∧ (∀ w, w < a_nw a → a_wr a w < a_nr a)) ∧
  ((∀ u v, a_lk a u v = true → a_lk a v u = true ∧ u < a_dk a) ∧ Br (a_E a)) ∧
  (∀ u v, a_lk a u v = false → a_q a u v = [] ∧ a_to a u v = (fun _ => false) ∧ a_tb a u v = (fun _ => false)) ∧
  (∀ u v w, (a_to a u v w = true → w < a_nw a) ∧ (a_tb a u v w = true → w < a_nw a)) ∧
  (∀ u v, Ql a u v) ∧
  ct (a_uw a) (a_nn a) ≤ 60 ∧
  ((∀ r, r < a_nr a → a_rz a r = ct (fun k => a_hb a k r = true) (a_nn a)) ∧ (∀ k r, a_hb a k r = true → k < a_nn a ∧ r < a_nr a) ∧ ∀ k d, a_sn a k d = true → k < a_nn a) ∧
  (∀ w f, w ≤ a_nw a → f < 4 → tsok (a_fk a w f) (a_fz a w f) (a_fg a w f))
/-- and of each road is told what is meant -/
def AI (a : zAb) : Prop := AJ a ∧ ∀ u v, ¬ a_w a u v
theorem AJ.lim {a : zAb} (h : AJ a) : a_dk a ≤ 12 ∧ a_nr a ≤ 24 ∧ a_nw a ≤ 300 ∧ a_nn a ≤ 600 := h.1
theorem AJ.rd {a : zAb} (h : AJ a) : ∀ r, r < a_nr a → a_rd a r < a_dk a := h.2.1.1
theorem AJ.wr {a : zAb} (h : AJ a) : ∀ w, w < a_nw a → a_wr a w < a_nr a := h.2.1.2
theorem AJ.lk {a : zAb} (h : AJ a) : ∀ u v, a_lk a u v = true → a_lk a v u = true ∧ u < a_dk a := h.2.2.1.1
theorem AJ.br {a : zAb} (h : AJ a) : Br (a_E a) := h.2.2.1.2
theorem AJ.un {a : zAb} (h : AJ a) : ∀ u v, a_lk a u v = false → a_q a u v = [] ∧ a_to a u v = (fun _ => false) ∧ a_tb a u v = (fun _ => false) := h.2.2.2.1
theorem AJ.bit {a : zAb} (h : AJ a) : ∀ u v w, (a_to a u v w = true → w < a_nw a) ∧ (a_tb a u v w = true → w < a_nw a) := h.2.2.2.2.1
theorem AJ.ql {a : zAb} (h : AJ a) : ∀ u v, Ql a u v := h.2.2.2.2.2.1
theorem AJ.uw {a : zAb} (h : AJ a) : ct (a_uw a) (a_nn a) ≤ 60 := h.2.2.2.2.2.2.1
theorem AJ.hd {a : zAb} (h : AJ a) : (∀ r, r < a_nr a → a_rz a r = ct (fun k => a_hb a k r = true) (a_nn a)) ∧ (∀ k r, a_hb a k r = true → k < a_nn a ∧ r < a_nr a) ∧ ∀ k d, a_sn a k d = true → k < a_nn a := h.2.2.2.2.2.2.2.1
theorem AJ.ts {a : zAb} (h : AJ a) : ∀ w f, w ≤ a_nw a → f < 4 → tsok (a_fk a w f) (a_fz a w f) (a_fg a w f) := h.2.2.2.2.2.2.2.2
theorem AJ.sy {a : zAb} (h : AJ a) : ∀ p q, a_E a p q → a_E a q p := fun p q e => (h.lk p q e).1
/-- the notices of a lane -/
theorem ql_nt {a : zAb} (h : AJ a) (u v : Nat) : (nt (a_q a u v)).length ≤ ct (a_uw a) (a_nn a) :=
  nd_len (a_uw a) (a_nn a) _ (h.ql u v).2.1 (fun k hk => ⟨((h.ql u v).2.2.1 k hk).1, u, v, hk⟩)
theorem ql_len {a : zAb} (h : AJ a) (u v : Nat) : (a_q a u v).length ≤ 121 := by
  have h1 := ql_nt h u v
  have h2 := h.uw
  have h3 := na_len _ (h.ql u v).1
  omega
/-- room for a tell -/
theorem ql_tl {a : zAb} (h : AJ a) {u v : Nat} (hl : lsT (a_q a u v) = false) : (a_q a u v).length < 121 := by
  have h1 := ql_nt h u v
  have h2 := h.uw
  have h3 := na_len _ (h.ql u v).1
  rw [hl, if_neg (by decide)] at h3
  omega
/-- room for a notice -/
theorem ql_pn {a : zAb} (h : AJ a) {u v k : Nat} (hk : k < a_nn a) (hn : k ∉ nt (a_q a u v)) (hu : ct (fun j => a_uw a j ∨ j = k) (a_nn a) ≤ 60) : (a_q a u v).length < 121 := by
  have h1 : (k :: nt (a_q a u v)).length ≤ ct (fun j => a_uw a j ∨ j = k) (a_nn a) := nd_len _ _ _ (List.nodup_cons.mpr ⟨hn, (h.ql u v).2.1⟩) (fun j hj => by
    rcases List.mem_cons.mp hj with e | e
    · exact ⟨e ▸ hk, Or.inr e⟩
    · exact ⟨((h.ql u v).2.2.1 j e).1, Or.inl ⟨u, v, e⟩⟩)
  have h3 := na_len _ (h.ql u v).1
  rw [List.length_cons] at h1
  split at h3 <;> omega
theorem ct_mono {p q : Nat → Prop} (n : Nat) (h : ∀ i, i < n → p i → q i) : ct p n ≤ ct q n := by
  refine sm_le n (fun i hi => ?_)
  by_cases hp : p i
  · rw [zd_t hp, zd_t (h i hi hp)]
    exact Nat.le_refl _
  · rw [zd_f hp]
    exact Nat.zero_le _
theorem mn_nw {a : zAb} {u v w : Nat} (h : a_mn a u v w = true) : w < a_nw a := (zd_i.mp h).1
/-- tells keep what holds -/
theorem AJ_tlP {a : zAb} (h : AJ a) (P : Nat → Nat → Prop) : AJ (tlP a P) := by
  have eq : ∀ u v, a_q (tlP a P) u v = if zd (P u v ∧ a_w a u v) = true then tlq (a_q a u v) (a_mn a u v) else a_q a u v := fun _ _ => rfl
  have et : ∀ u v, a_to (tlP a P) u v = if zd (P u v ∧ a_w a u v) = true then a_mn a u v else a_to a u v := fun _ _ => rfl
  have en : ∀ u v, nt (a_q (tlP a P) u v) = nt (a_q a u v) := fun u v => by
    rw [eq]; split
    · exact tlq_nt _ _
    · rfl
  have eu : a_uw (tlP a P) = a_uw a := by
    funext k
    refine propext ⟨fun ⟨u, v, z⟩ => ⟨u, v, by rw [en] at z; exact z⟩, fun ⟨u, v, z⟩ => ⟨u, v, by rw [en]; exact z⟩⟩
  refine ⟨h.1, h.2.1, h.2.2.1, fun u v hl => ?_, fun u v w => ⟨fun z => ?_, (h.bit u v w).2⟩, fun u v => ⟨?_, ?_, fun k hk => ?_, fun m hm w hw => ?_⟩, ?_, h.hd, h.ts⟩
  · have hl' : a_lk a u v = false := hl
    have nw : ¬ (P u v ∧ a_w a u v) := fun z => by rw [z.2.1] at hl'; cases hl'
    rw [eq, et, zd_f nw]
    exact h.un u v hl'
  · rw [et] at z
    split at z
    · exact mn_nw z
    · exact (h.bit u v w).1 z
  · rw [eq]; split
    · exact tlq_na _ (h.ql u v).1
    · exact (h.ql u v).1
  · rw [en]; exact (h.ql u v).2.1
  · rw [en] at hk; exact (h.ql u v).2.2.1 k hk
  · rw [eq] at hm
    split at hm
    · rcases tlq_in hm with e | e
      · rw [e] at hw; exact mn_nw hw
      · exact (h.ql u v).2.2.2 m e w hw
    · exact (h.ql u v).2.2.2 m hm w hw
  · show ct (a_uw (tlP a P)) (a_nn a) ≤ 60
    rw [eu]; exact h.uw
theorem AI_tlA {a : zAb} (h : AJ a) : AI (tlA a) := ⟨AJ_tlP h _, fun u v z => ((tlP_w a _ u v).mp z).1 trivial⟩
theorem va_u2_s {α : Type} (f : Nat → Nat → α) (a b : Nat) (v : α) : va_u2 f a b v a b = v := if_pos ⟨rfl, rfl⟩
theorem va_u2_o {α : Type} (f : Nat → Nat → α) {a b i j : Nat} (v : α) (h : ¬ (i = a ∧ j = b)) : va_u2 f a b v i j = f i j := if_neg h
/-- a message less -/
theorem AJ_tk1 {a : zAb} (h : AJ a) (u v : Nat) : AJ (a_tk1 a u v) := by
  have eq : ∀ p x, a_q (a_tk1 a u v) p x = a_q a p x ∨ (p = u ∧ x = v ∧ a_q (a_tk1 a u v) p x = (a_q a p x).tail) := fun p x => by
    by_cases z : p = u ∧ x = v
    · rw [z.1, z.2]; exact Or.inr ⟨rfl, rfl, va_u2_s _ _ _ _⟩
    · exact Or.inl (va_u2_o _ _ z)
  have sb : ∀ p x, (nt (a_q (a_tk1 a u v) p x)).Sublist (nt (a_q a p x)) := fun p x => by
    rcases eq p x with e | ⟨_, _, e⟩
    · rw [e]; exact List.Sublist.refl _
    · rw [e]; exact nt_tail _
  refine ⟨h.1, h.2.1, h.2.2.1, fun p x hl => ?_, h.bit, fun p x => ⟨?_, (h.ql p x).2.1.sublist (sb p x), fun k hk => (h.ql p x).2.2.1 k ((sb p x).subset hk), fun m hm w hw => ?_⟩, ?_, h.hd, h.ts⟩
  · have := h.un p x hl
    refine ⟨?_, this.2⟩
    rcases eq p x with e | ⟨_, _, e⟩
    · rw [e]; exact this.1
    · rw [e, this.1]; rfl
  · rcases eq p x with e | ⟨_, _, e⟩
    · rw [e]; exact (h.ql p x).1
    · rw [e]; exact na_tail (h.ql p x).1
  · rcases eq p x with e | ⟨_, _, e⟩
    · rw [e] at hm; exact (h.ql p x).2.2.2 m hm w hw
    · rw [e] at hm; exact (h.ql p x).2.2.2 m (List.mem_of_mem_tail hm) w hw
  · exact Nat.le_trans (ct_mono _ (fun k _ ⟨p, x, z⟩ => ⟨p, x, (sb p x).subset z⟩)) h.uw
theorem AJ_got {a : zAb} (h : AJ a) {u v : Nat} {m : Nat → Bool} (hl : a_lk a v u = true) (hm : ∀ w, m w = true → w < a_nw a) : AJ (a_got a u v m) := by
  refine ⟨h.1, h.2.1, h.2.2.1, fun p x hl' => ?_, fun p x w => ⟨(h.bit p x w).1, fun z => ?_⟩, h.ql, h.uw, h.hd, h.ts⟩
  · have := h.un p x hl'
    refine ⟨this.1, this.2.1, ?_⟩
    show va_u2 (a_tb a) v u m p x = _
    rw [va_u2_o _ _ (fun z => by
      have hl2 : a_lk a p x = false := hl'
      rw [z.1, z.2, hl] at hl2; cases hl2)]
    exact this.2.2
  · have z' : va_u2 (a_tb a) v u m p x w = true := z
    by_cases e : p = v ∧ x = u
    · rw [e.1, e.2, va_u2_s] at z'; exact hm w z'
    · rw [va_u2_o _ _ e] at z'; exact (h.bit p x w).2 z'
