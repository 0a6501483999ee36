/-! roads between desks -/
def Cs (E : Nat → Nat → Prop) (a : Nat) : Nat → Nat → Prop
  | 0, d => d = a
  | n + 1, d => Cs E a n d ∨ ∃ c, Cs E a n c ∧ E c d
def Cn (E : Nat → Nat → Prop) (a d : Nat) : Prop := ∃ n, Cs E a n d
theorem Cn_refl (E : Nat → Nat → Prop) (a : Nat) : Cn E a a := ⟨0, rfl⟩
theorem Cn_step {E : Nat → Nat → Prop} {a c d : Nat} (h : Cn E a c) (e : E c d) : Cn E a d := by
  obtain ⟨n, h⟩ := h
  exact ⟨n + 1, Or.inr ⟨c, h, e⟩⟩
theorem Cn_ind {E : Nat → Nat → Prop} {a : Nat} {P : Nat → Prop} (h0 : P a) (hs : ∀ c d, Cn E a c → P c → E c d → P d) {d : Nat} (h : Cn E a d) : P d := by
  obtain ⟨n, h⟩ := h
  induction n generalizing d with
  | zero =>
    have e : d = a := h
    rw [e]; exact h0
  | succ n ih =>
    rcases h with h | ⟨c, h, e⟩
    · exact ih h
    · exact hs c d ⟨n, h⟩ (ih h) e
theorem Cn_trans {E : Nat → Nat → Prop} {a b d : Nat} (h1 : Cn E a b) (h2 : Cn E b d) : Cn E a d :=
  Cn_ind (P := fun d => Cn E a d) h1 (fun _ _ _ ih e => Cn_step ih e) h2
theorem Cn_one {E : Nat → Nat → Prop} {a d : Nat} (e : E a d) : Cn E a d := Cn_step (Cn_refl E a) e
theorem Cn_symm {E : Nat → Nat → Prop} (hE : ∀ p q, E p q → E q p) {a d : Nat} (h : Cn E a d) : Cn E d a :=
  Cn_ind (P := fun d => Cn E d a) (Cn_refl E a) (fun _ _ _ ih e => Cn_trans (Cn_one (hE _ _ e)) ih) h
theorem Cn_mono {E F : Nat → Nat → Prop} (hEF : ∀ p q, E p q → F p q) {a d : Nat} (h : Cn E a d) : Cn F a d :=
  Cn_ind (P := fun d => Cn F a d) (Cn_refl F a) (fun _ _ _ ih e => Cn_step ih (hEF _ _ e)) h
/-- the roads without one of them -/
def Wo (E : Nat → Nat → Prop) (u v : Nat) (p q : Nat) : Prop := E p q ∧ ¬ (p = u ∧ q = v) ∧ ¬ (p = v ∧ q = u)
theorem Wo_symm {E : Nat → Nat → Prop} (hE : ∀ p q, E p q → E q p) {u v p q : Nat} (h : Wo E u v p q) : Wo E u v q p :=
  ⟨hE _ _ h.1, fun z => h.2.2 ⟨z.2, z.1⟩, fun z => h.2.1 ⟨z.2, z.1⟩⟩
/-- trees: no road has a way around it -/
def Br (E : Nat → Nat → Prop) : Prop := ∀ u v, E u v → ¬ Cn (Wo E u v) u v
theorem Br_irr {E : Nat → Nat → Prop} (h : Br E) {v : Nat} : ¬ E v v := fun e => h v v e (Cn_refl _ v)
theorem Br_mono {E F : Nat → Nat → Prop} (hEF : ∀ p q, E p q → F p q) (h : Br F) : Br E := fun u v e c =>
  h u v (hEF _ _ e) (Cn_mono (fun _ _ z => ⟨hEF _ _ z.1, z.2⟩) c)
/-- the roads that don't lead to u -/
def Av (E : Nat → Nat → Prop) (u : Nat) (p q : Nat) : Prop := E p q ∧ q ≠ u
theorem Av_ne {E : Nat → Nat → Prop} {u a d : Nat} (ha : a ≠ u) (h : Cn (Av E u) a d) : d ≠ u :=
  Cn_ind (P := fun d => d ≠ u) ha (fun _ _ _ _ e => e.2) h
theorem Br_ac {E : Nat → Nat → Prop} (hE : ∀ p q, E p q → E q p) (h : Br E) {v p q : Nat} (h1 : E v p) (h2 : E v q) (hn : p ≠ q) : ¬ Cn (Av E v) p q := by
  intro c
  have hpv : p ≠ v := fun e => Br_irr h (e ▸ h1)
  have c1 : q ≠ v ∧ Cn (Wo E v p) p q := Cn_ind (P := fun d => d ≠ v ∧ Cn (Wo E v p) p d) ⟨hpv, Cn_refl _ _⟩ (fun c d _ ih e => ⟨e.2, Cn_step ih.2 ⟨e.1, fun z => ih.1 z.1, fun z => e.2 z.2⟩⟩) c
  refine h v p h1 (Cn_trans (Cn_one ⟨h2, fun z => hn z.2.symm, fun z => hpv z.1.symm⟩) (Cn_symm (fun _ _ z => Wo_symm hE z) c1.2))
/-- one road more -/
def Lk (E : Nat → Nat → Prop) (a b : Nat) (p q : Nat) : Prop := E p q ∨ (p = a ∧ q = b) ∨ (p = b ∧ q = a)
theorem Br_lk1 {E : Nat → Nat → Prop} (hE : ∀ p q, E p q → E q p) {a b u v : Nat} (hn : ¬ Cn E a b) (hu : ¬ Cn E b u) (e : E u v) (c : Cn (Wo (Lk E a b) u v) u v) : Cn (Wo E u v) u v := by
  have ha : ¬ Cn E b a := fun z => hn (Cn_symm hE z)
  have key : (¬ Cn E b v → Cn (Wo E u v) u v) ∧ (Cn E b v → Cn (Wo E u v) u a) := Cn_ind (P := fun d => (¬ Cn E b d → Cn (Wo E u v) u d) ∧ (Cn E b d → Cn (Wo E u v) u a)) ⟨fun _ => Cn_refl _ _, fun z => absurd z hu⟩ (fun c d _ ih e => by
    rcases e with ⟨e | ⟨rfl, rfl⟩ | ⟨rfl, rfl⟩, e2⟩
    · exact ⟨fun z => Cn_step (ih.1 (fun y => z (Cn_step y e))) ⟨e, e2⟩, fun z => ih.2 (Cn_step z (hE _ _ e))⟩
    · exact ⟨fun z => absurd (Cn_refl E d) z, fun _ => ih.1 ha⟩
    · exact ⟨fun _ => ih.2 (Cn_refl _ _), fun z => absurd z ha⟩) c
  exact key.1 (fun z => hu (Cn_step z (hE _ _ e)))
theorem Lk_symm {E : Nat → Nat → Prop} (hE : ∀ p q, E p q → E q p) {a b : Nat} : ∀ p q, Lk E a b p q → Lk E a b q p := fun _ _ h => by
  rcases h with h | ⟨h1, h2⟩ | ⟨h1, h2⟩
  · exact Or.inl (hE _ _ h)
  · exact Or.inr (Or.inr ⟨h2, h1⟩)
  · exact Or.inr (Or.inl ⟨h2, h1⟩)
theorem Br_lk {E : Nat → Nat → Prop} (hE : ∀ p q, E p q → E q p) (h : Br E) {a b : Nat} (hn : ¬ Cn E a b) : Br (Lk E a b) := by
  intro u v e c
  rcases e with e | ⟨rfl, rfl⟩ | ⟨rfl, rfl⟩
  · by_cases hu : Cn E b u
    · have hu2 : ¬ Cn E a u := fun z => hn (Cn_trans z (Cn_symm hE hu))
      refine h u v e (Br_lk1 hE (fun z => hn (Cn_symm hE z)) hu2 e (Cn_mono (fun p q z => ⟨?_, z.2⟩) c))
      rcases z.1 with z | z | z
      · exact Or.inl z
      · exact Or.inr (Or.inr z)
      · exact Or.inr (Or.inl z)
    · exact h u v e (Br_lk1 hE hn hu e c)
  · refine hn (Cn_mono (fun p q z => ?_) c)
    rcases z.1 with y | y | y
    · exact y
    · exact absurd y z.2.1
    · exact absurd y z.2.2
  · refine hn (Cn_symm hE (Cn_mono (fun p q z => ?_) c))
    rcases z.1 with y | y | y
    · exact y
    · exact absurd y z.2.2
    · exact absurd y z.2.1
/-! sums and counts -/
def sm (f : Nat → Nat) : Nat → Nat
  | 0 => 0
  | n + 1 => sm f n + f n
theorem sm_le {f g : Nat → Nat} : ∀ n, (∀ i, i < n → f i ≤ g i) → sm f n ≤ sm g n
  | 0, _ => Nat.le_refl _
  | n + 1, h => Nat.add_le_add (sm_le n (fun i hi => h i (by omega))) (h n (by omega))
theorem sm_cg {f g : Nat → Nat} : ∀ n, (∀ i, i < n → f i = g i) → sm f n = sm g n
  | 0, _ => rfl
  | n + 1, h => by simp only [sm]; rw [sm_cg n (fun i hi => h i (by omega)), h n (by omega)]
theorem sm_add (f g : Nat → Nat) : ∀ n, sm (fun i => f i + g i) n = sm f n + sm g n
  | 0 => rfl
  | n + 1 => by simp only [sm]; rw [sm_add f g n]; omega
theorem sm_0 : ∀ n, sm (fun _ => 0) n = 0
  | 0 => rfl
  | n + 1 => by simp only [sm]; rw [sm_0 n]
theorem sm_swap (f : Nat → Nat → Nat) (m : Nat) : ∀ n, sm (fun i => sm (f i) m) n = sm (fun j => sm (fun i => f i j) n) m
  | 0 => (sm_0 m).symm
  | n + 1 => by simp only [sm]; rw [sm_swap f m n, sm_add]
theorem sm_up (f : Nat → Nat) (k v : Nat) : ∀ n, k < n → sm (fun i => if i = k then v else f i) n + f k = sm f n + v
  | 0, h => absurd h (Nat.not_lt_zero k)
  | n + 1, h => by
    simp only [sm]
    by_cases hk : k = n
    · subst hk
      rw [if_pos rfl, sm_cg (g := f) k (fun i hi => if_neg (by omega))]
      omega
    · have := sm_up f k v n (by omega)
      rw [if_neg (show ¬ n = k by omega)]
      omega
theorem sm_bd {f : Nat → Nat} {b : Nat} : ∀ n, (∀ i, i < n → f i ≤ b) → sm f n ≤ b * n
  | 0, _ => Nat.zero_le _
  | n + 1, h => by
    have h1 := sm_bd n (fun i hi => h i (by omega))
    have h2 := h n (by omega)
    simp only [sm, Nat.mul_add, Nat.mul_one]
    omega
theorem sm_pos {f : Nat → Nat} : ∀ n, 0 < sm f n → ∃ i, i < n ∧ 0 < f i
  | 0, h => absurd h (Nat.lt_irrefl 0)
  | n + 1, h => by
    simp only [sm] at h
    by_cases hf : 0 < f n
    · exact ⟨n, by omega, hf⟩
    · obtain ⟨i, hi, z⟩ := sm_pos (f := f) n (by omega)
      exact ⟨i, by omega, z⟩
/-- how many below n -/
noncomputable def ct (p : Nat → Prop) (n : Nat) : Nat := sm (fun i => if zd (p i) = true then 1 else 0) n
theorem ct_le (p : Nat → Prop) (n : Nat) : ct p n ≤ n := by
  have := sm_bd (f := fun i => if zd (p i) = true then 1 else 0) (b := 1) n (fun i _ => by split <;> omega)
  unfold ct
  omega
theorem ct_1 {p : Nat → Prop} (h : ∀ i j, p i → p j → i = j) : ∀ n, ct p n ≤ 1
  | 0 => Nat.zero_le _
  | n + 1 => by
    have ih := ct_1 h n
    show ct p n + (if zd (p n) = true then 1 else 0) ≤ 1
    by_cases hp : p n
    · rw [zd_t hp, if_pos rfl]
      by_cases h0 : 0 < ct p n
      · obtain ⟨i, hi, z⟩ := sm_pos n h0
        split at z
        · rename_i z'
          have := h i n (zd_i.mp z') hp
          omega
        · omega
      · omega
    · rw [zd_f hp]
      show ct p n + 0 ≤ 1
      omega
theorem ct_pos {p : Nat → Prop} {n : Nat} (h : 0 < ct p n) : ∃ i, i < n ∧ p i := by
  obtain ⟨i, hi, z⟩ := sm_pos n h
  split at z
  · rename_i z'; exact ⟨i, hi, zd_i.mp z'⟩
  · omega
theorem ct_zero {p : Nat → Prop} {n : Nat} (h : ∀ i, i < n → ¬ p i) : ct p n = 0 := by
  by_cases h0 : 0 < ct p n
  · obtain ⟨i, hi, z⟩ := ct_pos h0
    exact absurd z (h i hi)
  · omega
theorem ct_cg {p q : Nat → Prop} (n : Nat) (h : ∀ i, i < n → (p i ↔ q i)) : ct p n = ct q n := by
  refine sm_cg n (fun i hi => ?_)
  rw [show p i = q i from propext (h i hi)]
/-- how many desks lie behind v, seen from u -/
noncomputable def wgt (E : Nat → Nat → Prop) (u v : Nat) : Nat := ct (fun d => Cn (Av E u) v d) 12
theorem wgt_le (E : Nat → Nat → Prop) (u v : Nat) : wgt E u v ≤ 12 := ct_le _ _
theorem wgt_sum {E : Nat → Nat → Prop} (hE : ∀ p q, E p q → E q p) (h : Br E) {u v : Nat} (hv : v < 12) (e : E u v) : 1 + sm (fun x => if zd (E v x ∧ x ≠ u) = true then wgt E v x else 0) 12 ≤ wgt E u v := by
  have hvu : v ≠ u := fun q => Br_irr h (q ▸ e)
  have e1 : sm (fun x => if zd (E v x ∧ x ≠ u) = true then wgt E v x else 0) 12 = sm (fun x => sm (fun d => if zd ((E v x ∧ x ≠ u) ∧ Cn (Av E v) x d) = true then 1 else 0) 12) 12 := by
    refine sm_cg 12 (fun x _ => ?_)
    by_cases hx : E v x ∧ x ≠ u
    · rw [zd_t hx, if_pos rfl]
      refine sm_cg 12 (fun d _ => ?_)
      rw [show ((E v x ∧ x ≠ u) ∧ Cn (Av E v) x d) = Cn (Av E v) x d from propext ⟨fun z => z.2, fun z => ⟨hx, z⟩⟩]
    · rw [zd_f hx, if_neg (by decide)]
      rw [sm_cg (g := fun _ => 0) 12 (fun d _ => by rw [zd_f (fun z => hx z.1), if_neg (by decide)]), sm_0]
  have e2 : sm (fun d => if d = v then 1 else 0) 12 = 1 := by
    have := sm_up (fun _ => 0) v 1 12 hv
    rw [sm_0] at this
    omega
  rw [e1, sm_swap]
  have e3 := sm_add (fun d => if d = v then 1 else 0) (fun j => sm (fun i => if zd ((E v i ∧ i ≠ u) ∧ Cn (Av E v) i j) = true then 1 else 0) 12) 12
  rw [e2] at e3
  rw [← e3]
  refine sm_le 12 (fun d _ => ?_)
  have n1 : ct (fun x => (E v x ∧ x ≠ u) ∧ Cn (Av E v) x d) 12 ≤ 1 := by
    refine ct_1 (fun i j hi hj => ?_) 12
    by_cases hij : i = j
    · exact hij
    · exfalso
      refine Br_ac hE h hi.1.1 hj.1.1 hij ?_
      have hiv : i ≠ v := fun q => Br_irr h (q ▸ hi.1.1)
      have hjv : j ≠ v := fun q => Br_irr h (q ▸ hj.1.1)
      -- a way back from d to j that keeps off v
      have back : d ≠ v ∧ Cn (Av E v) d j := Cn_ind (P := fun d => d ≠ v ∧ Cn (Av E v) d j) ⟨hjv, Cn_refl _ _⟩ (fun c d _ ih z => ⟨z.2, Cn_trans (Cn_one ⟨hE _ _ z.1, ih.1⟩) ih.2⟩) hj.2
      exact Cn_trans hi.2 back.2
  show (if d = v then 1 else 0) + ct (fun x => (E v x ∧ x ≠ u) ∧ Cn (Av E v) x d) 12 ≤ (if zd (Cn (Av E u) v d) = true then 1 else 0)
  by_cases hd : d = v
  · subst hd
    rw [if_pos rfl, zd_t (Cn_refl _ _), if_pos rfl, ct_zero (fun x _ z => by
      have hxd : x ≠ d := fun q => Br_irr h (q ▸ z.1.1)
      exact Av_ne hxd z.2 rfl)]
    omega
  · rw [if_neg hd]
    by_cases h0 : 0 < ct (fun x => (E v x ∧ x ≠ u) ∧ Cn (Av E v) x d) 12
    · obtain ⟨x, _, ⟨h1, h2⟩, h3⟩ := ct_pos h0
      have : Cn (Av E u) v d := Cn_ind (P := fun d => Cn (Av E u) v d) (Cn_one ⟨h1, h2⟩) (fun c d hc ih z => Cn_step ih ⟨z.1, fun q => by
        subst q
        exact Br_ac hE h h1 (hE _ _ e) h2 (Cn_step hc z)⟩) h3
      rw [zd_t this, if_pos rfl]
      omega
    · omega
