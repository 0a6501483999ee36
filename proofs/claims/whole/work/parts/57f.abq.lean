/-! the other calls: what holds stays; where something new is to be told -/
theorem va_ups' {α : Type} (f : Nat → α) (k : Nat) (v : α) : va_up f k v k = v := if_pos rfl
theorem va_upo' {α : Type} (f : Nat → α) {k j : Nat} (v : α) (h : j ≠ k) : va_up f k v j = f j := if_neg h
theorem kn_nw {a : zAb} (h : AJ a) {u v w : Nat} (hk : a_kn a u v w) : w < a_nw a := by
  rcases hk with z | ⟨x, _, _, _, z⟩
  · exact z.1
  · exact (h.bit u x w).2 z
/-- tells at some desks are all tells, if nothing is wanted elsewhere -/
theorem tl_at {a : zAb} {P : Nat → Nat → Prop} (h : ∀ u v, a_w a u v → P u v) : tlP a P = tlA a := tlP_eq (fun u v hw => ⟨fun _ => trivial, fun _ => h u v hw⟩)
/-! desk -/
def a_dsk (a : zAb) : zAb := b_dk a (a_dk a + 1)
theorem AI_dsk {a : zAb} (h : AI a) (hd : a_dk a < 12) : AI (a_dsk a) := by
  refine ⟨⟨⟨hd, h.1.lim.2⟩, ⟨fun r hr => Nat.lt_succ_of_lt (h.1.rd r hr), h.1.wr⟩, ⟨fun u v e => ⟨(h.1.lk u v e).1, Nat.lt_succ_of_lt (h.1.lk u v e).2⟩, h.1.br⟩, h.1.un, h.1.bit, h.1.ql, h.1.uw, h.1.hd, h.1.ts⟩, fun u v => ?_⟩
  refine w_cg h.2 (fun z => z) rfl (mn_cg rfl (fun _ _ _ => Iff.rfl) (fun w => ⟨fun z => ?_, fun z => ?_⟩))
  · rcases z with z | ⟨x, h1, h2, h3, h4⟩
    · exact Or.inl z
    · exact Or.inr ⟨x, (h.1.lk x u (h.1.lk u x h3).1).2, h2, h3, h4⟩
  · rcases z with z | ⟨x, h1, h2, h3, h4⟩
    · exact Or.inl z
    · exact Or.inr ⟨x, Nat.lt_succ_of_lt h1, h2, h3, h4⟩
/-! link -/
def a_lnk (a : zAb) (u v : Nat) : zAb := b_lk a (va_u2 (va_u2 (a_lk a) u v true) v u true)
theorem lnk_E (a : zAb) (u v p q : Nat) : a_lk (a_lnk a u v) p q = true ↔ Lk (a_E a) u v p q := by
  show va_u2 (va_u2 (a_lk a) u v true) v u true p q = true ↔ _
  simp only [va_u2, Lk, a_E]
  by_cases h1 : p = v ∧ q = u
  · rw [if_pos h1]; exact ⟨fun _ => Or.inr (Or.inr h1), fun _ => rfl⟩
  · rw [if_neg h1]
    by_cases h2 : p = u ∧ q = v
    · rw [if_pos h2]; exact ⟨fun _ => Or.inr (Or.inl h2), fun _ => rfl⟩
    · rw [if_neg h2]; exact ⟨Or.inl, fun z => z.elim id (fun z => z.elim (fun z => absurd z h2) (fun z => absurd z h1))⟩
theorem AJ_lnk {a : zAb} (h : AJ a) {u v : Nat} (hu : u < a_dk a) (hv : v < a_dk a) (hn : ¬ Cn (a_E a) u v) : AJ (a_lnk a u v) := by
  have eE : a_E (a_lnk a u v) = Lk (a_E a) u v := by
    funext p q
    exact propext (lnk_E a u v p q)
  refine ⟨h.1, h.2.1, ⟨fun p q e => ?_, ?_⟩, fun p q e => ?_, h.bit, h.ql, h.uw, h.hd, h.ts⟩
  · have e' := (lnk_E a u v p q).mp e
    refine ⟨(lnk_E a u v q p).mpr (Lk_symm h.sy p q e'), ?_⟩
    rcases e' with z | z | z
    · exact (h.lk p q z).2
    · rw [z.1]; exact hu
    · rw [z.1]; exact hv
  · rw [eE]; exact Br_lk h.sy h.br hn
  · refine h.un p q ?_
    cases hz : a_lk a p q with
    | false => rfl
    | true =>
      rw [(lnk_E a u v p q).mpr (Or.inl hz)] at e
      cases e
theorem lnk_w {a : zAb} (h : AI a) {u v p x : Nat} (hw : a_w (a_lnk a u v) p x) : p = u ∨ p = v := by
  by_cases hp : p = u ∨ p = v
  · exact hp
  · exfalso
    have e : ∀ y, a_lk (a_lnk a u v) p y = a_lk a p y := fun y => by
      show va_u2 (va_u2 (a_lk a) u v true) v u true p y = _
      rw [va_u2_o _ _ (fun z => hp (Or.inr z.1)), va_u2_o _ _ (fun z => hp (Or.inl z.1))]
    refine w_cg h.2 (b := a_lnk a u v) (fun z => by rw [e] at z; exact z) rfl (mn_cg rfl (fun _ _ _ => Iff.rfl) (fun w => ?_)) hw
    unfold a_kn
    simp only [e]
    exact Iff.rfl
/-! cut -/
def cut2 {α : Type} (f : Nat → Nat → α) (u v : Nat) (z : α) : Nat → Nat → α := va_u2 (va_u2 f u v z) v u z
theorem cut2_c {α : Type} (f : Nat → Nat → α) (u v : Nat) (z : α) (p q : Nat) : (((p = u ∧ q = v) ∨ (p = v ∧ q = u)) ∧ cut2 f u v z p q = z) ∨ (¬ ((p = u ∧ q = v) ∨ (p = v ∧ q = u)) ∧ cut2 f u v z p q = f p q) := by
  unfold cut2
  simp only [va_u2]
  by_cases h1 : p = v ∧ q = u
  · rw [if_pos h1]; exact Or.inl ⟨Or.inr h1, rfl⟩
  · rw [if_neg h1]
    by_cases h2 : p = u ∧ q = v
    · rw [if_pos h2]; exact Or.inl ⟨Or.inl h2, rfl⟩
    · rw [if_neg h2]; exact Or.inr ⟨fun z => z.elim h2 h1, rfl⟩
def a_ctt (a : zAb) (u v : Nat) : zAb := b_tb (b_to (b_q (b_lk a (cut2 (a_lk a) u v false)) (cut2 (a_q a) u v [])) (cut2 (a_to a) u v (fun _ => false))) (cut2 (a_tb a) u v (fun _ => false))
theorem ctt_c (a : zAb) (u v p q : Nat) : (((p = u ∧ q = v) ∨ (p = v ∧ q = u)) ∧ a_lk (a_ctt a u v) p q = false ∧ a_q (a_ctt a u v) p q = [] ∧ a_to (a_ctt a u v) p q = (fun _ => false) ∧ a_tb (a_ctt a u v) p q = (fun _ => false)) ∨ (¬ ((p = u ∧ q = v) ∨ (p = v ∧ q = u)) ∧ a_lk (a_ctt a u v) p q = a_lk a p q ∧ a_q (a_ctt a u v) p q = a_q a p q ∧ a_to (a_ctt a u v) p q = a_to a p q ∧ a_tb (a_ctt a u v) p q = a_tb a p q) := by
  by_cases hp : (p = u ∧ q = v) ∨ (p = v ∧ q = u)
  · refine Or.inl ⟨hp, ?_, ?_, ?_, ?_⟩
    · exact (cut2_c (a_lk a) u v false p q).elim (fun z => z.2) (fun z => absurd hp z.1)
    · exact (cut2_c (a_q a) u v [] p q).elim (fun z => z.2) (fun z => absurd hp z.1)
    · exact (cut2_c (a_to a) u v (fun _ => false) p q).elim (fun z => z.2) (fun z => absurd hp z.1)
    · exact (cut2_c (a_tb a) u v (fun _ => false) p q).elim (fun z => z.2) (fun z => absurd hp z.1)
  · refine Or.inr ⟨hp, ?_, ?_, ?_, ?_⟩
    · exact (cut2_c (a_lk a) u v false p q).elim (fun z => absurd z.1 hp) (fun z => z.2)
    · exact (cut2_c (a_q a) u v [] p q).elim (fun z => absurd z.1 hp) (fun z => z.2)
    · exact (cut2_c (a_to a) u v (fun _ => false) p q).elim (fun z => absurd z.1 hp) (fun z => z.2)
    · exact (cut2_c (a_tb a) u v (fun _ => false) p q).elim (fun z => absurd z.1 hp) (fun z => z.2)
theorem AJ_ctt {a : zAb} (h : AJ a) (u v : Nat) : AJ (a_ctt a u v) := by
  have hle : ∀ p q, a_lk (a_ctt a u v) p q = true → a_lk a p q = true := fun p q e => by
    rcases ctt_c a u v p q with ⟨_, z, _⟩ | ⟨_, z, _⟩
    · rw [z] at e; cases e
    · rw [z] at e; exact e
  have hq : ∀ p q, a_q (a_ctt a u v) p q = [] ∨ a_q (a_ctt a u v) p q = a_q a p q := fun p q => by
    rcases ctt_c a u v p q with ⟨_, _, z, _⟩ | ⟨_, _, z, _⟩
    · exact Or.inl z
    · exact Or.inr z
  refine ⟨h.1, h.2.1, ⟨fun p q e => ⟨?_, (h.lk p q (hle p q e)).2⟩, Br_mono hle h.br⟩, fun p q e => ?_, fun p q w => ?_, fun p q => ?_, ?_, h.hd, h.ts⟩
  · rcases ctt_c a u v p q with ⟨_, z, _⟩ | ⟨hn, z, _⟩
    · rw [z] at e; cases e
    · rcases ctt_c a u v q p with ⟨hy, _, _⟩ | ⟨_, y, _⟩
      · exact absurd (hy.elim (fun z => Or.inr ⟨z.2, z.1⟩) (fun z => Or.inl ⟨z.2, z.1⟩)) hn
      · rw [y]; rw [z] at e; exact (h.lk p q e).1
  · rcases ctt_c a u v p q with ⟨_, _, z⟩ | ⟨_, z0, z1, z2, z3⟩
    · exact z
    · rw [z0] at e
      rw [z1, z2, z3]
      exact h.un p q e
  · rcases ctt_c a u v p q with ⟨_, _, _, z1, z2⟩ | ⟨_, _, _, z1, z2⟩
    · rw [z1, z2]; exact ⟨fun y => (by cases y), fun y => (by cases y)⟩
    · rw [z1, z2]; exact h.bit p q w
  · unfold Ql
    rcases hq p q with z | z
    · rw [z]; exact ⟨trivial, List.nodup_nil, fun k hk => absurd hk List.not_mem_nil, fun m hm => absurd hm List.not_mem_nil⟩
    · rw [z]; exact h.ql p q
  · refine Nat.le_trans (ct_mono _ (fun k _ ⟨p, q, z⟩ => ?_)) h.uw
    rcases hq p q with y | y
    · rw [y] at z; exact absurd z List.not_mem_nil
    · rw [y] at z; exact ⟨p, q, z⟩
theorem ctt_w {a : zAb} (h : AI a) {u v p x : Nat} (hw : a_w (a_ctt a u v) p x) : p = u ∨ p = v := by
  by_cases hp : p = u ∨ p = v
  · exact hp
  · exfalso
    have e : ∀ y, a_lk (a_ctt a u v) p y = a_lk a p y ∧ a_to (a_ctt a u v) p y = a_to a p y ∧ a_tb (a_ctt a u v) p y = a_tb a p y := fun y => by
      rcases ctt_c a u v p y with ⟨z, _⟩ | ⟨_, z1, _, z2, z3⟩
      · exact absurd (z.elim (fun y => Or.inl y.1) (fun y => Or.inr y.1)) hp
      · exact ⟨z1, z2, z3⟩
    refine w_cg h.2 (b := a_ctt a u v) (fun z => by rw [(e x).1] at z; exact z) (e x).2.1 (mn_cg rfl (fun _ _ _ => Iff.rfl) (fun w => ?_)) hw
    unfold a_kn
    simp only [(e _).1, (e _).2.2]
    exact Iff.rfl
/-! reader, move -/
def a_rdr (a : zAb) (d : Nat) : zAb := b_rz (b_rd (b_nr a (a_nr a + 1)) (va_up (a_rd a) (a_nr a) d)) (va_up (a_rz a) (a_nr a) 0)
theorem AI_rdr {a : zAb} (h : AI a) {d : Nat} (hd : d < a_dk a) (hr : a_nr a < 24) : AI (a_rdr a d) := by
  have e1 : ∀ r, r < a_nr a → a_rd (a_rdr a d) r = a_rd a r := fun r hr => va_upo' _ _ (by omega)
  refine ⟨⟨⟨h.1.lim.1, hr, h.1.lim.2.2⟩, ⟨fun r hr' => ?_, fun w hw => Nat.lt_succ_of_lt (h.1.wr w hw)⟩, h.1.2.2.1, h.1.un, h.1.bit, h.1.ql, h.1.uw, ⟨fun r hr' => ?_, fun k r hk => ⟨(h.1.hd.2.1 k r hk).1, Nat.lt_succ_of_lt (h.1.hd.2.1 k r hk).2⟩, h.1.hd.2.2⟩, h.1.ts⟩, fun u v => ?_⟩
  · have hr2 : r < a_nr a + 1 := hr'
    by_cases e : r = a_nr a
    · show va_up (a_rd a) (a_nr a) d r < a_dk a
      rw [e, va_ups']; exact hd
    · rw [e1 r (by omega)]; exact h.1.rd r (by omega)
  · have hr2 : r < a_nr a + 1 := hr'
    show va_up (a_rz a) (a_nr a) 0 r = ct (fun k => a_hb a k r = true) (a_nn a)
    by_cases e : r = a_nr a
    · rw [e, va_ups', ct_zero (fun k _ z => Nat.lt_irrefl _ (h.1.hd.2.1 k _ z).2)]
    · rw [va_upo' _ _ e]; exact h.1.hd.1 r (by omega)
  · refine w_cg h.2 (fun z => z) rfl (mn_cg rfl (fun _ _ _ => Iff.rfl) (fun w => ⟨fun z => ?_, fun z => ?_⟩))
    · rcases z with ⟨z1, z2, z3⟩ | z
      · exact Or.inl ⟨z1, z2, (e1 _ (h.1.wr w z1)).symm.trans z3⟩
      · exact Or.inr z
    · rcases z with ⟨z1, z2, z3⟩ | z
      · exact Or.inl ⟨z1, z2, (e1 _ (h.1.wr w z1)).trans z3⟩
      · exact Or.inr z
def a_mov (a : zAb) (r d : Nat) : zAb := b_rd a (va_up (a_rd a) r d)
theorem AJ_mov {a : zAb} (h : AJ a) {r d : Nat} (hd : d < a_dk a) : AJ (a_mov a r d) := by
  refine ⟨h.1, ⟨fun r' hr' => ?_, h.wr⟩, h.2.2.1, h.un, h.bit, h.ql, h.uw, h.hd, h.ts⟩
  show va_up (a_rd a) r d r' < a_dk a
  by_cases e : r' = r
  · rw [e, va_ups']; exact hd
  · rw [va_upo' _ _ e]; exact h.rd r' hr'
theorem mov_w {a : zAb} (h : AI a) {r d p x : Nat} (hw : a_w (a_mov a r d) p x) : p = a_rd a r ∨ p = d := by
  by_cases hp : p = a_rd a r ∨ p = d
  · exact hp
  · exfalso
    refine w_cg h.2 (b := a_mov a r d) (fun z => z) rfl (mn_cg rfl (fun _ _ _ => Iff.rfl) (fun w => ?_)) hw
    have e : a_rd (a_mov a r d) (a_wr a w) = p ↔ a_rd a (a_wr a w) = p := by
      show va_up (a_rd a) r d (a_wr a w) = p ↔ _
      by_cases e : a_wr a w = r
      · rw [e, va_ups']; exact ⟨fun z => absurd (Or.inr z.symm) hp, fun z => absurd (Or.inl z.symm) hp⟩
      · rw [va_upo' _ _ e]
    show ((w < a_nw a ∧ a_wa a w = true ∧ a_rd (a_mov a r d) (a_wr a w) = p) ∨ _) ↔ _
    rw [e]
    exact Iff.rfl
/-! off -/
def a_off (a : zAb) (w : Nat) : zAb := b_wa a (va_up (a_wa a) w false)
theorem AJ_off {a : zAb} (h : AJ a) (w : Nat) : AJ (a_off a w) := h
theorem off_w {a : zAb} (h : AI a) {w p x : Nat} (hw : a_w (a_off a w) p x) : p = a_rd a (a_wr a w) := by
  by_cases hp : p = a_rd a (a_wr a w)
  · exact hp
  · exfalso
    refine w_cg h.2 (b := a_off a w) (fun z => z) rfl (mn_cg rfl (fun _ _ _ => Iff.rfl) (fun j => ?_)) hw
    have e : (a_wa (a_off a w) j = true ∧ a_rd a (a_wr a j) = p) ↔ (a_wa a j = true ∧ a_rd a (a_wr a j) = p) := by
      show (va_up (a_wa a) w false j = true ∧ _) ↔ _
      by_cases e : j = w
      · rw [e, va_ups']; exact ⟨fun z => absurd z.1 (by decide), fun z => absurd z.2.symm hp⟩
      · rw [va_upo' _ _ e]
    show ((j < a_nw a ∧ a_wa (a_off a w) j = true ∧ a_rd a (a_wr a j) = p) ∨ _) ↔ _
    rw [e]
    exact Iff.rfl
/-! tests that are being read -/
def a_tst (a : zAb) (f : Nat) (kd : Int32) (n : Nat) (g : Nat → Int32) : zAb := b_fg (b_fz (b_fk a (va_u2 (a_fk a) (a_nw a) f kd)) (va_u2 (a_fz a) (a_nw a) f n)) (va_u2 (a_fg a) (a_nw a) f g)
theorem tk_cg {a b : zAb} {i j : Nat} (h : ∀ f, (a_fk b i f = a_fk a i f ∧ a_fz b i f = a_fz a i f ∧ a_fg b i f = a_fg a i f) ∧ (a_fk b j f = a_fk a j f ∧ a_fz b j f = a_fz a j f ∧ a_fg b j f = a_fg a j f)) : a_tk b i j = a_tk a i j := by
  unfold a_tk
  simp only [(h _).1.1, (h _).1.2.1, (h _).1.2.2, (h _).2.1, (h _).2.2.1, (h _).2.2.2]
theorem out_cg {a b : zAb} {w j : Nat} (hw : w < a_nw a) (hn : j < a_nw b ↔ j < a_nw a) (h : ∀ i, i < a_nw a → ∀ f, a_fk b i f = a_fk a i f ∧ a_fz b i f = a_fz a i f ∧ a_fg b i f = a_fg a i f) : a_out b w j ↔ a_out a w j := by
  unfold a_out
  rw [hn]
  constructor
  · rintro ⟨h1, h2, h3, h4⟩
    rw [tk_cg (fun f => ⟨h j h1 f, h w hw f⟩)] at h3
    rw [tk_cg (fun f => ⟨h w hw f, h j h1 f⟩)] at h4
    exact ⟨h1, h2, h3, h4⟩
  · rintro ⟨h1, h2, h3, h4⟩
    refine ⟨h1, h2, ?_, ?_⟩
    · rw [tk_cg (fun f => ⟨h j h1 f, h w hw f⟩)]; exact h3
    · rw [tk_cg (fun f => ⟨h w hw f, h j h1 f⟩)]; exact h4
theorem tst_o (a : zAb) (f : Nat) (kd : Int32) (n : Nat) (g : Nat → Int32) {i : Nat} (hi : i < a_nw a) (f' : Nat) : a_fk (a_tst a f kd n g) i f' = a_fk a i f' ∧ a_fz (a_tst a f kd n g) i f' = a_fz a i f' ∧ a_fg (a_tst a f kd n g) i f' = a_fg a i f' :=
  ⟨va_u2_o _ _ (fun z => by omega), va_u2_o _ _ (fun z => by omega), va_u2_o _ _ (fun z => by omega)⟩
theorem AI_tst {a : zAb} (h : AI a) {f : Nat} {kd : Int32} {n : Nat} {g : Nat → Int32} (ht : tsok kd n g) : AI (a_tst a f kd n g) := by
  refine ⟨⟨h.1.1, h.1.2.1, h.1.2.2.1, h.1.un, h.1.bit, h.1.ql, h.1.uw, h.1.hd, fun w f' hw hf' => ?_⟩, fun u v => ?_⟩
  · show tsok (va_u2 (a_fk a) (a_nw a) f kd w f') (va_u2 (a_fz a) (a_nw a) f n w f') (va_u2 (a_fg a) (a_nw a) f g w f')
    by_cases e : w = a_nw a ∧ f' = f
    · rw [e.1, e.2, va_u2_s, va_u2_s, va_u2_s]; exact ht
    · rw [va_u2_o _ _ e, va_u2_o _ _ e, va_u2_o _ _ e]; exact h.1.ts w f' hw hf'
  · exact w_cg h.2 (fun z => z) rfl (mn_cg rfl (fun w j hw => out_cg hw Iff.rfl (fun i hi f' => tst_o a f kd n g hi f')) (fun w => Iff.rfl))
/-! a new wish -/
def a_wsh (a : zAb) (r : Nat) (g : Nat → Nat → Int32) : zAb := b_fg (b_fz (b_fk (b_wa (b_wr (b_nw a (a_nw a + 1)) (va_up (a_wr a) (a_nw a) r)) (va_up (a_wa a) (a_nw a) true)) (va_up (a_fk a) (a_nw a + 1) (fun _ => 0))) (va_up (a_fz a) (a_nw a + 1) (fun _ => 0))) (va_up (a_fg a) (a_nw a + 1) g)
theorem wsh_o (a : zAb) (r : Nat) (g : Nat → Nat → Int32) {i : Nat} (hi : i ≤ a_nw a) (f : Nat) : a_fk (a_wsh a r g) i f = a_fk a i f ∧ a_fz (a_wsh a r g) i f = a_fz a i f ∧ a_fg (a_wsh a r g) i f = a_fg a i f := by
  refine ⟨?_, ?_, ?_⟩
  · show va_up (a_fk a) (a_nw a + 1) (fun _ => 0) i f = _
    rw [va_upo' _ _ (show i ≠ a_nw a + 1 by omega)]
  · show va_up (a_fz a) (a_nw a + 1) (fun _ => 0) i f = _
    rw [va_upo' _ _ (show i ≠ a_nw a + 1 by omega)]
  · show va_up (a_fg a) (a_nw a + 1) g i f = _
    rw [va_upo' _ _ (show i ≠ a_nw a + 1 by omega)]
theorem AJ_wsh {a : zAb} (h : AJ a) {r : Nat} {g : Nat → Nat → Int32} (hr : r < a_nr a) (hw : a_nw a < 300) : AJ (a_wsh a r g) := by
  refine ⟨⟨h.lim.1, h.lim.2.1, hw, h.lim.2.2.2⟩, ⟨h.rd, fun w hw' => ?_⟩, h.2.2.1, h.un, fun u v w => ⟨fun z => Nat.lt_succ_of_lt ((h.bit u v w).1 z), fun z => Nat.lt_succ_of_lt ((h.bit u v w).2 z)⟩, fun u v => ⟨(h.ql u v).1, (h.ql u v).2.1, (h.ql u v).2.2.1, fun m hm w hw' => Nat.lt_succ_of_lt ((h.ql u v).2.2.2 m hm w hw')⟩, h.uw, h.hd, fun w f hw' hf => ?_⟩
  · have hw2 : w < a_nw a + 1 := hw'
    show va_up (a_wr a) (a_nw a) r w < a_nr a
    by_cases e : w = a_nw a
    · rw [e, va_ups']; exact hr
    · rw [va_upo' _ _ e]; exact h.wr w (by omega)
  · have hw2 : w ≤ a_nw a + 1 := hw'
    by_cases e : w = a_nw a + 1
    · subst e
      show tsok (va_up (a_fk a) (a_nw a + 1) (fun _ => 0) (a_nw a + 1) f) (va_up (a_fz a) (a_nw a + 1) (fun _ => 0) (a_nw a + 1) f) _
      rw [va_ups', va_ups']
      exact Or.inl ⟨rfl, rfl⟩
    · have := wsh_o a r g (show w ≤ a_nw a by omega) f
      rw [this.1, this.2.1, this.2.2]
      exact h.ts w f (by omega) hf
theorem wsh_w {a : zAb} (h : AI a) {r : Nat} {g : Nat → Nat → Int32} {p x : Nat} (hw : a_w (a_wsh a r g) p x) : p = a_rd a r := by
  by_cases hp : p = a_rd a r
  · exact hp
  · exfalso
    have ek : ∀ w, a_kn (a_wsh a r g) p x w ↔ a_kn a p x w := fun w => by
      constructor
      · intro z
        rcases z with ⟨z1, z2, z3⟩ | z
        · have z1' : w < a_nw a + 1 := z1
          have z3' : a_rd a (va_up (a_wr a) (a_nw a) r w) = p := z3
          have z2' : va_up (a_wa a) (a_nw a) true w = true := z2
          by_cases e : w = a_nw a
          · rw [e, va_ups'] at z3'; exact absurd z3'.symm hp
          · rw [va_upo' _ _ e] at z3' z2'; exact Or.inl ⟨by omega, z2', z3'⟩
        · exact Or.inr z
      · intro z
        rcases z with ⟨z1, z2, z3⟩ | z
        · refine Or.inl ⟨Nat.lt_succ_of_lt z1, ?_, ?_⟩
          · show va_up (a_wa a) (a_nw a) true w = true
            rw [va_upo' _ _ (by omega)]; exact z2
          · show a_rd a (va_up (a_wr a) (a_nw a) r w) = p
            rw [va_upo' _ _ (by omega)]; exact z3
        · exact Or.inr z
    have em : a_mn (a_wsh a r g) p x = a_mn a p x := by
      funext w
      refine congrArg zd (propext ⟨fun z => ?_, fun z => ?_⟩)
      · have k1 := (ek w).mp z.2.1
        have w1 := kn_nw h.1 k1
        exact ⟨w1, k1, fun j hj y => z.2.2 j ((ek j).mpr hj) ((out_cg (b := a_wsh a r g) w1 ⟨fun _ => y.1, fun _ => Nat.lt_succ_of_lt y.1⟩ (fun i hi f => wsh_o a r g (Nat.le_of_lt hi) f)).mpr y)⟩
      · have w1 := z.1
        exact ⟨Nat.lt_succ_of_lt w1, (ek w).mpr z.2.1, fun j hj y => by
          have k2 := (ek j).mp hj
          have j1 := kn_nw h.1 k2
          exact z.2.2 j k2 ((out_cg (b := a_wsh a r g) w1 ⟨fun _ => j1, fun _ => Nat.lt_succ_of_lt j1⟩ (fun i hi f => wsh_o a r g (Nat.le_of_lt hi) f)).mp y)⟩
    exact w_cg h.2 (b := a_wsh a r g) (fun z => z) rfl em hw
/-! a new notice -/
def a_ntc (a : zAb) (d : Int32) (g : Nat → Int32) : zAb := b_nd (b_nf (b_nn a (a_nn a + 1)) (va_up (a_nf a) (a_nn a) g)) (va_up (a_nd a) (a_nn a) d)
theorem uw_nn {a : zAb} (h : AJ a) {k : Nat} (hk : a_uw a k) : k < a_nn a := by
  obtain ⟨u, v, z⟩ := hk
  exact ((h.ql u v).2.2.1 k z).1
theorem ct_s0 {p : Nat → Prop} {n : Nat} (h : ¬ p n) : ct p (n + 1) = ct p n := by
  show ct p n + (if zd (p n) = true then 1 else 0) = _
  rw [zd_f h]; rfl
theorem AJ_ntc {a : zAb} (h : AJ a) {d : Int32} {g : Nat → Int32} (hn : a_nn a < 600) : AJ (a_ntc a d g) := by
  refine ⟨⟨h.lim.1, h.lim.2.1, h.lim.2.2.1, hn⟩, h.2.1, h.2.2.1, h.un, h.bit, fun u v => ⟨(h.ql u v).1, (h.ql u v).2.1, fun k hk => ⟨Nat.lt_succ_of_lt ((h.ql u v).2.2.1 k hk).1, ((h.ql u v).2.2.1 k hk).2⟩, (h.ql u v).2.2.2⟩, ?_, ⟨fun r hr => ?_, fun k r hk => ⟨Nat.lt_succ_of_lt (h.hd.2.1 k r hk).1, (h.hd.2.1 k r hk).2⟩, fun k d' hk => Nat.lt_succ_of_lt (h.hd.2.2 k d' hk)⟩, h.ts⟩
  · show ct (a_uw a) (a_nn a + 1) ≤ 60
    rw [ct_s0 (fun z => Nat.lt_irrefl _ (uw_nn h z))]
    exact h.uw
  · show a_rz a r = ct (fun k => a_hb a k r = true) (a_nn a + 1)
    rw [ct_s0 (p := fun k => a_hb a k r = true) (fun z => Nat.lt_irrefl _ (h.hd.2.1 _ r z).1)]
    exact h.hd.1 r hr
noncomputable def a_snd (a : zAb) (d : Nat) (g : Nat → Int32) : zAb := a_come (a_ntc a (nI d) g) (a_nn a) d 12
theorem AI_snd {a : zAb} (h : AI a) {d : Nat} {g : Nat → Int32} (hn : a_nn a < 600) (hu : ct (a_uw a) (a_nn a) < 60) : AI (a_snd a d g) := by
  refine ⟨AJ_come (AJ_ntc h.1 hn) (Nat.lt_succ_self _) ?_, fun u v z => h.2 u v ((come_w (a_ntc a (nI d) g) (a_nn a) d 12 u v).mp z)⟩
  show ct (fun j => a_uw a j ∨ j = a_nn a) (a_nn a + 1) ≤ 60
  have hp : ¬ a_uw a (a_nn a) := fun z => Nat.lt_irrefl _ (uw_nn h.1 z)
  rw [ct_add1 (Nat.lt_succ_self _) hp, ct_s0 hp]
  exact hu
/-! numbers put in order -/
theorem upd_s' (f : Nat → Int32) (k : Nat) (x : Int32) : upd f k x k = x := if_pos rfl
theorem upd_o' (f : Nat → Int32) {k j : Nat} (x : Int32) (h : j ≠ k) : upd f k x j = f j := if_neg h
def srt (g : Nat → Int32) (n : Nat) : Prop := ∀ i j, i < j → j < n → g i < g j
theorem ins_p (v : Int32) : ∀ (n : Nat) (g : Nat → Int32), srt g n → (∀ i, i < n → g i ≠ v) → srt (ft_ins v n g) (n + 1) ∧ (∀ i, n < i → ft_ins v n g i = g i) ∧ (∀ i, i ≤ n → ft_ins v n g i = v ∨ ∃ j, j < n ∧ ft_ins v n g i = g j)
  | 0, g, _, _ => by
    refine ⟨fun i j h1 h2 => absurd h2 (by omega), fun i hi => upd_o' _ _ (by omega), fun i hi => Or.inl ?_⟩
    rw [show i = 0 by omega]; exact upd_s' _ _ _
  | n + 1, g, hs, hv => by
    simp only [ft_ins]
    by_cases h : v < g n
    · rw [if_pos h]
      have ih := ins_p v n (upd g (n + 1) (g n)) (fun i j h1 h2 => by rw [upd_o' _ _ (show i ≠ n + 1 by omega), upd_o' _ _ (show j ≠ n + 1 by omega)]; exact hs i j h1 (by omega)) (fun i hi => by rw [upd_o' _ _ (show i ≠ n + 1 by omega)]; exact hv i (by omega))
      have top : ft_ins v n (upd g (n + 1) (g n)) (n + 1) = g n := by rw [ih.2.1 (n + 1) (by omega), upd_s']
      have bel : ∀ i, i ≤ n → ft_ins v n (upd g (n + 1) (g n)) i < g n := fun i hi => by
        rcases ih.2.2 i hi with e | ⟨j, hj, e⟩
        · rw [e]; exact h
        · rw [e, upd_o' _ _ (show j ≠ n + 1 by omega)]; exact hs j n hj (by omega)
      refine ⟨fun i j h1 h2 => ?_, fun i hi => ?_, fun i hi => ?_⟩
      · by_cases e : j = n + 1
        · rw [e, top]; exact bel i (by omega)
        · exact ih.1 i j h1 (by omega)
      · rw [ih.2.1 i (by omega), upd_o' _ _ (by omega)]
      · by_cases e : i = n + 1
        · rw [e, top]; exact Or.inr ⟨n, by omega, rfl⟩
        · rcases ih.2.2 i (by omega) with z | ⟨j, hj, z⟩
          · exact Or.inl z
          · exact Or.inr ⟨j, by omega, by rw [z, upd_o' _ _ (show j ≠ n + 1 by omega)]⟩
    · rw [if_neg h]
      have hgv : g n < v := by
        rcases Int32.lt_or_eq_of_le (Int32.not_lt.mp h) with z | z
        · exact z
        · exact absurd z (hv n (by omega))
      refine ⟨fun i j h1 h2 => ?_, fun i hi => upd_o' _ _ (by omega), fun i hi => ?_⟩
      · rw [upd_o' _ _ (show i ≠ n + 1 by omega)]
        by_cases e : j = n + 1
        · rw [e, upd_s']
          by_cases e2 : i = n
          · rw [e2]; exact hgv
          · exact Int32.lt_trans (hs i n (by omega) (by omega)) hgv
        · rw [upd_o' _ _ e]; exact hs i j h1 (by omega)
      · by_cases e : i = n + 1
        · rw [e, upd_s']; exact Or.inl rfl
        · rw [upd_o' _ _ e]; exact Or.inr ⟨i, by omega, rfl⟩
theorem ins_cg (v : Int32) : ∀ (n : Nat) (g h : Nat → Int32), (∀ i, i < n → g i = h i) → ∀ i, i ≤ n → ft_ins v n g i = ft_ins v n h i
  | 0, g, h, _, i, hi => by
    rw [show i = 0 by omega]
    show upd g 0 v 0 = upd h 0 v 0
    rw [upd_s', upd_s']
  | n + 1, g, h, hg, i, hi => by
    simp only [ft_ins]
    rw [hg n (by omega)]
    by_cases c : v < h n
    · rw [if_pos c, if_pos c]
      by_cases e : i = n + 1
      · -- above: only the place n + 1 itself
        subst e
        have q : ∀ (m : Nat) (f : Nat → Int32) (j : Nat), m < j → ft_ins v m f j = f j := by
          intro m
          induction m with
          | zero => intro f j hj; exact upd_o' _ _ (by omega)
          | succ m ih =>
            intro f j hj
            simp only [ft_ins]
            by_cases c : v < f m
            · rw [if_pos c, ih _ j (by omega), upd_o' _ _ (by omega)]
            · rw [if_neg c, upd_o' _ _ (by omega)]
        rw [q _ _ _ (by omega), q _ _ _ (by omega), upd_s', upd_s']
      · exact ins_cg v n _ _ (fun j hj => by rw [upd_o' _ _ (by omega), upd_o' _ _ (by omega)]; exact hg j (by omega)) i (by omega)
    · rw [if_neg c, if_neg c]
      by_cases e : i = n + 1
      · rw [e, upd_s', upd_s']
      · rw [upd_o' _ _ e, upd_o' _ _ e]; exact hg i (by omega)
