/-! what the calls do to the common state -/
def a_E (a : zAb) (u v : Nat) : Prop := a_lk a u v = true
noncomputable def a_met (a : zAb) (w : Nat) (g : Nat → Int32) : Bool := zd (∀ f, f < 4 → ft_pass (a_fk a w f) (a_fz a w f) (a_fg a w f) (g f) = true)
noncomputable def a_tk (a : zAb) (i j : Nat) : Bool := zd ((∃ f, f < 4 ∧ ft_none (a_fk a j f) (a_fg a j f) = true) ∨ ∀ f, f < 4 → ft_wide (a_fk a i f) (a_fz a i f) (a_fg a i f) (a_fk a j f) (a_fz a j f) (a_fg a j f) = true)
/-- beside wish j wish w isn't told -/
def a_out (a : zAb) (w j : Nat) : Prop := j < a_nw a ∧ j ≠ w ∧ a_tk a j w = true ∧ ¬ (a_tk a w j = true ∧ w < j)
/-- what u knows but for what v told it -/
def a_kn (a : zAb) (u v w : Nat) : Prop := (w < a_nw a ∧ a_wa a w = true ∧ a_rd a (a_wr a w) = u) ∨ ∃ x, x < a_dk a ∧ x ≠ v ∧ a_lk a u x = true ∧ a_tb a u x w = true
noncomputable def a_mn (a : zAb) (u v : Nat) : Nat → Bool := fun w => zd (w < a_nw a ∧ a_kn a u v w ∧ ∀ j, a_kn a u v j → ¬ a_out a w j)
def isT : zIt → Bool
  | .inl _ => false
  | .inr _ => true
/-- the last message is a tell -/
def lsT (q : List zIt) : Bool := match q.getLast? with
  | some i => isT i
  | none => false
def tlq (q : List zIt) (m : Nat → Bool) : List zIt := if lsT q = true then q.dropLast ++ [.inr m] else q ++ [.inr m]
/-- the road (u, v) wants a tell -/
def a_w (a : zAb) (u v : Nat) : Prop := a_lk a u v = true ∧ a_mn a u v ≠ a_to a u v
noncomputable def tlP (a : zAb) (P : Nat → Nat → Prop) : zAb := b_to (b_q a (fun u v => if zd (P u v ∧ a_w a u v) = true then tlq (a_q a u v) (a_mn a u v) else a_q a u v)) (fun u v => if zd (P u v ∧ a_w a u v) = true then a_mn a u v else a_to a u v)
noncomputable def tlA (a : zAb) : zAb := tlP a (fun _ _ => True)
theorem b_id (a : zAb) : b_to (b_q a (a_q a)) (a_to a) = a := rfl
theorem tlP_w (a : zAb) (P : Nat → Nat → Prop) (u v : Nat) : a_w (tlP a P) u v ↔ ¬ P u v ∧ a_w a u v := by
  have e : a_w (tlP a P) u v ↔ (a_lk a u v = true ∧ a_mn a u v ≠ (if zd (P u v ∧ a_w a u v) = true then a_mn a u v else a_to a u v)) := Iff.rfl
  rw [e]
  by_cases h : P u v ∧ a_w a u v
  · rw [zd_t h, if_pos rfl]
    exact ⟨fun z => absurd rfl z.2, fun z => absurd h.1 z.1⟩
  · rw [zd_f h, if_neg (by decide)]
    exact ⟨fun z => ⟨fun p => h ⟨p, z⟩, z⟩, fun z => z.2⟩
theorem tlP_no {a : zAb} {P : Nat → Nat → Prop} (h : ∀ u v, P u v → ¬ a_w a u v) : tlP a P = a := by
  have e1 : (fun u v => if zd (P u v ∧ a_w a u v) = true then tlq (a_q a u v) (a_mn a u v) else a_q a u v) = a_q a := by
    funext u v
    rw [zd_f (fun z => h u v z.1 z.2), if_neg (by decide)]
  have e2 : (fun u v => if zd (P u v ∧ a_w a u v) = true then a_mn a u v else a_to a u v) = a_to a := by
    funext u v
    rw [zd_f (fun z => h u v z.1 z.2), if_neg (by decide)]
  unfold tlP
  rw [e1, e2]
  exact b_id a
theorem tlP_eq {a : zAb} {P Q : Nat → Nat → Prop} (h : ∀ u v, a_w a u v → (P u v ↔ Q u v)) : tlP a P = tlP a Q := by
  have e : ∀ u v, zd (P u v ∧ a_w a u v) = zd (Q u v ∧ a_w a u v) := fun u v => by
    rw [show (P u v ∧ a_w a u v) = (Q u v ∧ a_w a u v) from propext ⟨fun z => ⟨(h u v z.2).mp z.1, z.2⟩, fun z => ⟨(h u v z.2).mpr z.1, z.2⟩⟩]
  unfold tlP
  simp only [e]
theorem tlP_2 (a : zAb) (P Q : Nat → Nat → Prop) : tlP (tlP a P) Q = tlP a (fun u v => P u v ∨ Q u v) := by
  have c : ∀ u v, (zd (P u v ∧ a_w a u v) = true ∧ zd (Q u v ∧ a_w (tlP a P) u v) = false ∧ zd ((P u v ∨ Q u v) ∧ a_w a u v) = true) ∨ (zd (P u v ∧ a_w a u v) = false ∧ zd (Q u v ∧ a_w (tlP a P) u v) = true ∧ zd ((P u v ∨ Q u v) ∧ a_w a u v) = true) ∨ (zd (P u v ∧ a_w a u v) = false ∧ zd (Q u v ∧ a_w (tlP a P) u v) = false ∧ zd ((P u v ∨ Q u v) ∧ a_w a u v) = false) := fun u v => by
    by_cases hp : P u v ∧ a_w a u v
    · exact Or.inl ⟨zd_t hp, zd_f (fun z => ((tlP_w a P u v).mp z.2).1 hp.1), zd_t ⟨Or.inl hp.1, hp.2⟩⟩
    · by_cases hq : Q u v ∧ a_w a u v
      · exact Or.inr (Or.inl ⟨zd_f hp, zd_t ⟨hq.1, (tlP_w a P u v).mpr ⟨fun z => hp ⟨z, hq.2⟩, hq.2⟩⟩, zd_t ⟨Or.inr hq.1, hq.2⟩⟩)
      · exact Or.inr (Or.inr ⟨zd_f hp, zd_f (fun z => hq ⟨z.1, ((tlP_w a P u v).mp z.2).2⟩), zd_f (fun z => z.1.elim (fun y => hp ⟨y, z.2⟩) (fun y => hq ⟨y, z.2⟩))⟩)
  have m : a_mn (tlP a P) = a_mn a := rfl
  have q1 : a_q (tlP a P) = (fun u v => if zd (P u v ∧ a_w a u v) = true then tlq (a_q a u v) (a_mn a u v) else a_q a u v) := rfl
  have t1 : a_to (tlP a P) = (fun u v => if zd (P u v ∧ a_w a u v) = true then a_mn a u v else a_to a u v) := rfl
  have g1 : (fun u v => if zd (Q u v ∧ a_w (tlP a P) u v) = true then tlq (a_q (tlP a P) u v) (a_mn (tlP a P) u v) else a_q (tlP a P) u v) = (fun u v => if zd ((P u v ∨ Q u v) ∧ a_w a u v) = true then tlq (a_q a u v) (a_mn a u v) else a_q a u v) := by
    funext u v
    rw [m, q1]
    rcases c u v with ⟨c1, c2, c3⟩ | ⟨c1, c2, c3⟩ | ⟨c1, c2, c3⟩ <;> simp only [c1, c2, c3, if_true, if_false, Bool.false_eq_true]
  have g2 : (fun u v => if zd (Q u v ∧ a_w (tlP a P) u v) = true then a_mn (tlP a P) u v else a_to (tlP a P) u v) = (fun u v => if zd ((P u v ∨ Q u v) ∧ a_w a u v) = true then a_mn a u v else a_to a u v) := by
    funext u v
    rw [m, t1]
    rcases c u v with ⟨c1, c2, c3⟩ | ⟨c1, c2, c3⟩ | ⟨c1, c2, c3⟩ <;> simp only [c1, c2, c3, if_true, if_false, Bool.false_eq_true]
  show b_to (b_q (tlP a P) _) _ = _
  rw [g1, g2]
  rfl
/-! a notice comes to a desk -/
def a_wants (a : zAb) (r k : Nat) : Prop := ∃ w, w < a_nw a ∧ a_wa a w = true ∧ a_wr a w = r ∧ a_met a w (a_nf a k) = true
def a_new (a : zAb) (k d r : Nat) : Prop := r < a_nr a ∧ a_rd a r = d ∧ a_hb a k r = false ∧ a_wants a r k
noncomputable def a_hear (a : zAb) (k d : Nat) : zAb := b_rh (b_rz (b_hb (b_sn a (va_u2 (a_sn a) k d true)) (fun k' r => if k' = k ∧ zd (a_new a k d r) = true then true else a_hb a k' r)) (fun r => if zd (a_new a k d r) = true then a_rz a r + 1 else a_rz a r)) (fun r i => if zd (a_new a k d r) = true ∧ i = a_rz a r then nI k else a_rh a r i)
def a_need (a : zAb) (k d v : Nat) : Prop := ∃ r, r < a_nr a ∧ Cn (Av (a_E a) d) v (a_rd a r) ∧ a_wants a r k
def a_pc (a : zAb) (k d f v : Nat) : Prop := v ≠ f ∧ a_lk a d v = true ∧ ∃ w, w < a_nw a ∧ a_tb a d v w = true ∧ a_met a w (a_nf a k) = true
noncomputable def a_ps1 (a : zAb) (k d f v : Nat) : zAb := if zd (a_pc a k d f v) = true then b_ne (b_po (b_q a (va_u2 (a_q a) d v (a_q a d v ++ [.inl k]))) (a_po a + 1)) (if zd (a_need a k d v) = true then a_ne a else a_ne a + 1) else a
noncomputable def a_ps (a : zAb) (k d f : Nat) : Nat → zAb
  | 0 => a
  | n + 1 => a_ps1 (a_ps a k d f n) k d f n
noncomputable def a_come (a : zAb) (k d f : Nat) : zAb := if a_sn a k d = true then a else a_ps (a_hear a k d) k d f (a_dk a)
/-- a message less on (u, v) -/
def a_tk1 (a : zAb) (u v : Nat) : zAb := b_q a (va_u2 (a_q a) u v (a_q a u v).tail)
def a_got (a : zAb) (u v : Nat) (m : Nat → Bool) : zAb := b_td (b_tb a (va_u2 (a_tb a) v u m)) (a_td a + 1)
noncomputable def a_dl (a : zAb) (u v : Nat) : zAb := match a_q a u v with
  | [] => a
  | .inl k :: _ => a_come (a_tk1 a u v) k v u
  | .inr m :: _ => tlA (a_got (a_tk1 a u v) u v m)
/-- what a_ps makes: more messages, two counts -/
def psk (a b : zAb) : Prop := ∃ q p n, b = b_ne (b_po (b_q a q) p) n
theorem psk_r (a : zAb) : psk a a := ⟨a_q a, a_po a, a_ne a, rfl⟩
theorem psk_t {a b c : zAb} (h1 : psk a b) (h2 : psk b c) : psk a c := by
  obtain ⟨q, p, n, rfl⟩ := h1
  obtain ⟨q', p', n', rfl⟩ := h2
  exact ⟨q', p', n', rfl⟩
theorem psk_1 (a : zAb) (k d f v : Nat) : psk a (a_ps1 a k d f v) := by
  unfold a_ps1
  by_cases h : zd (a_pc a k d f v) = true
  · rw [if_pos h]; exact ⟨_, _, _, rfl⟩
  · rw [if_neg h]; exact psk_r a
theorem psk_n (a : zAb) (k d f : Nat) : ∀ n, psk a (a_ps a k d f n)
  | 0 => psk_r a
  | n + 1 => psk_t (psk_n a k d f n) (psk_1 _ k d f n)
theorem pc_k {a b : zAb} (h : psk a b) {k d f v : Nat} : a_pc b k d f v ↔ a_pc a k d f v := by
  obtain ⟨q, p, n, rfl⟩ := h
  exact Iff.rfl
/-- the messages after the first n desks were looked at -/
theorem ps_q (a : zAb) (k d f : Nat) : ∀ n, a_q (a_ps a k d f n) = fun u v => if u = d ∧ v < n ∧ zd (a_pc a k d f v) = true then a_q a u v ++ [.inl k] else a_q a u v
  | 0 => by
    funext u v
    rw [if_neg (fun z => absurd z.2.1 (Nat.not_lt_zero v))]
    rfl
  | n + 1 => by
    have ih := ps_q a k d f n
    have hk := psk_n a k d f n
    show a_q (a_ps1 (a_ps a k d f n) k d f n) = _
    unfold a_ps1
    have e : zd (a_pc (a_ps a k d f n) k d f n) = zd (a_pc a k d f n) := by rw [show a_pc (a_ps a k d f n) k d f n = a_pc a k d f n from propext (pc_k hk)]
    rw [e]
    by_cases h : zd (a_pc a k d f n) = true
    · rw [if_pos h]
      show va_u2 (a_q (a_ps a k d f n)) d n (a_q (a_ps a k d f n) d n ++ [.inl k]) = _
      rw [ih]
      funext u v
      simp only [va_u2]
      by_cases hu : u = d
      · subst hu
        by_cases hv : v = n
        · subst hv
          simp [h]
        · by_cases hl : v < n
          · simp [hv, hl, show v < n + 1 by omega]
          · simp [hv, hl, show ¬ v < n + 1 by omega]
      · simp [hu]
    · rw [if_neg h, ih]
      funext u v
      by_cases hv : v = n
      · subst hv
        simp [h]
      · by_cases hl : v < n
        · simp [hl, show v < n + 1 by omega]
        · simp [hl, show ¬ v < n + 1 by omega]
