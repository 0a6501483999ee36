/-! the class's memory and the common state: lanes -/
def it_r (x : zSt) (l i : Nat) : zIt → Prop
  | .inl k => la_at x l i = nI k
  | .inr m => la_at x l i = -2 ∧ ∃ f, x_lr x l ((x_lf x l + i) % 121) = some f ∧ row_r f m
def ln_r (x : zSt) (l : Nat) (q : List zIt) (t b : Nat → Bool) : Prop := x_lz x l = q.length ∧ (∀ i (h : i < q.length), it_r x l i q[i]) ∧ row_r (x_lt x l) t ∧ row_r (x_lb x l) b
/-- only the lanes are other -/
def lf_k (x x' : zSt) : Prop := ∃ A B C D E F, x' = u_lr (u_lb (u_lt (u_li (u_lf (u_lz x A) B) C) D) E) F
theorem lf_r (x : zSt) : lf_k x x := ⟨_, _, _, _, _, _, rfl⟩
theorem lf_t {x y z : zSt} (h1 : lf_k x y) (h2 : lf_k y z) : lf_k x z := by
  obtain ⟨A, B, C, D, E, F, rfl⟩ := h1
  obtain ⟨A', B', C', D', E', F', rfl⟩ := h2
  exact ⟨A', B', C', D', E', F', rfl⟩
theorem lf_push (x : zSt) (l : Nat) (v : Int32) : lf_k x (la_push x l v) := ⟨x_lz (la_push x l v), x_lf x, x_li (la_push x l v), x_lt x, x_lb x, x_lr x, rfl⟩
theorem lfk_mk (x : zSt) (l s : Nat) : lf_k x (la_mk x l s) := by
  unfold la_mk
  split
  · exact ⟨x_lz x, x_lf x, x_li x, x_lt x, x_lb x, _, rfl⟩
  · exact lf_r x
theorem mk_k (x : zSt) (l s : Nat) : ∃ f, la_mk x l s = u_lr x f ∧ ∀ l' s', ¬ (l' = l ∧ s' = s) → f l' s' = x_lr x l' s' := by
  unfold la_mk
  split
  · exact ⟨_, rfl, fun l' s' h => va_u2_o _ _ h⟩
  · exact ⟨x_lr x, rfl, fun _ _ _ => rfl⟩
theorem wr_k (x : zSt) (l s : Nat) : ∃ f g, la_wr x l s = u_lt (u_lr x f) (va_up (x_lt x) l (rw_set (x_lt x l) (x_me x))) ∧ f l s = some (rw_set g (x_me x)) ∧ ∀ l' s', ¬ (l' = l ∧ s' = s) → f l' s' = x_lr x l' s' := by
  obtain ⟨f, e, hf⟩ := mk_k x l s
  unfold la_wr
  rw [e]
  refine ⟨va_u2 f l s (some (rw_set (la_row x l s) (x_me x))), la_row x l s, rfl, va_u2_s _ _ _ _, fun l' s' h => ?_⟩
  rw [va_u2_o _ _ h]
  exact hf l' s' h
theorem lf_wr (x : zSt) (l s : Nat) : lf_k x (la_wr x l s) := by
  obtain ⟨f, g, e, _⟩ := wr_k x l s
  rw [e]
  exact ⟨x_lz x, x_lf x, x_li x, va_up (x_lt x) l (rw_set (x_lt x l) (x_me x)), x_lb x, f, rfl⟩
theorem lf_tell (x : zSt) (l : Nat) : lf_k x (la_tell x l) := by
  unfold la_tell
  split
  · exact lf_wr x l _
  · split
    · exact lf_t (lf_push x l _) (lf_wr _ l _)
    · exact lf_r x
theorem rs_ne {f i j : Nat} (hi : i < 121) (hj : j < 121) (h : i ≠ j) : (f + i) % 121 ≠ (f + j) % 121 := by omega
theorem it_cg {x y : zSt} {l l' i : Nat} {it : zIt} (h1 : la_at y l' i = la_at x l i) (h2 : x_lr y l' ((x_lf y l' + i) % 121) = x_lr x l ((x_lf x l + i) % 121)) (h : it_r x l i it) : it_r y l' i it := by
  cases it with
  | inl k => show la_at y l' i = nI k; rw [h1]; exact h
  | inr m =>
    obtain ⟨z1, f, z2, z3⟩ := h
    exact ⟨h1.trans z1, f, h2.trans z2, z3⟩
/-- the last message, as the class asks for it -/
theorem it_last {x : zSt} {l : Nat} {q : List zIt} {t b : Nat → Bool} (h : ln_r x l q t b) (hn : q.length ≤ 121) (hk : ∀ k, k ∈ nt q → k < 600) : la_item x l (nI (x_lz x l) - 1) = -2 ↔ lsT q = true := by
  rw [h.1]
  rcases List.eq_nil_or_concat q with e | ⟨p, i, e⟩
  · subst e
    have : la_item x l (nI 0 - 1) = -1 := by
      unfold la_item
      rw [if_neg (fun z => z.1 (by decide))]
    rw [show nI ([] : List zIt).length - 1 = nI 0 - 1 from rfl, this]
    exact ⟨fun z => absurd z (by decide), fun z => by cases z⟩
  · rw [List.concat_eq_append] at e
    subst e
    have hl : (p ++ [i]).length = p.length + 1 := by rw [List.length_append]; rfl
    have h1 := h.2.1 p.length (by omega)
    rw [List.getElem_append_right (Nat.le_refl _)] at h1
    simp only [Nat.sub_self, List.getElem_cons_zero] at h1
    rw [hl, nI_pred, lsT_app]
    have e2 : la_item x l (nI p.length) = la_at x l p.length := by
      unfold la_item
      rw [if_pos ⟨nI_pos (by omega), by rw [h.1, hl]; exact nI_lt (by omega) (by omega)⟩, nI_clamp (by omega)]
    rw [e2]
    cases i with
    | inl k =>
      rw [show la_at x l p.length = nI k from h1]
      have hk' : k < 600 := hk k (by rw [nt_app]; exact List.mem_append_right _ List.mem_cons_self)
      refine ⟨fun z => ?_, fun z => by cases z⟩
      have := nI_pos (n := k) (by omega)
      rw [z] at this
      exact absurd (by decide) this
    | inr m =>
      rw [show la_at x l p.length = -2 from h1.1]
      exact ⟨fun _ => rfl, fun _ => rfl⟩
theorem tell_o {z : zSt} {l l' : Nat} (hl : l' ≠ l) {q : List zIt} {t b : Nat → Bool} (h : ln_r z l' q t b) : ln_r (la_tell z l) l' q t b := by
  have wr : ∀ (z : zSt) (s : Nat), ln_r z l' q t b → ln_r (la_wr z l s) l' q t b := by
    intro z s h
    obtain ⟨f, g, e, _, hf⟩ := wr_k z l s
    rw [e]
    refine ⟨h.1, fun i hi => ?_, ?_, h.2.2.2⟩
    · refine it_cg (x := z) (l := l') rfl ?_ (h.2.1 i hi)
      exact hf l' _ (fun y => hl y.1)
    · show row_r (va_up (x_lt z) l (rw_set (x_lt z l) (x_me z)) l') t
      rw [va_upo' _ _ hl]; exact h.2.2.1
  unfold la_tell
  split
  · exact wr z _ h
  · split
    · refine wr _ _ ⟨?_, fun i hi => ?_, h.2.2⟩
      · show va_up (x_lz z) l (x_lz z l + 1) l' = _
        rw [va_upo' _ _ hl]; exact h.1
      · refine it_cg (x := z) (l := l') ?_ rfl (h.2.1 i hi)
        show va_up (x_li z) l _ l' _ = _
        rw [va_upo' _ _ hl]; rfl
    · exact h
theorem tell_s {z : zSt} {l : Nat} {q : List zIt} {t b m : Nat → Bool} (h : ln_r z l q t b) (hn : q.length ≤ 121) (hk : ∀ k, k ∈ nt q → k < 600) (hr : lsT q = false → q.length < 121) (hm : row_r (x_me z) m) : ln_r (la_tell z l) l (tlq q m) m b := by
  unfold la_tell tlq
  by_cases hl : lsT q = true
  · rw [if_pos ((it_last h hn hk).mpr hl), if_pos hl]
    obtain ⟨m0, e⟩ := lsT_s hl
    have hlen : q.length = q.dropLast.length + 1 := by
      conv => lhs; rw [e]
      rw [List.length_append]; rfl
    obtain ⟨f, g, ew, hfs, hf⟩ := wr_k z l ((x_lf z l + (x_lz z l - 1)) % 121)
    rw [ew]
    refine ⟨?_, fun i hi => ?_, ?_, h.2.2.2⟩
    · show x_lz z l = _
      rw [h.1, hlen, List.length_append]; rfl
    · have hi' : i < q.dropLast.length + 1 := by
        have := hi
        rw [List.length_append] at this; exact this
      by_cases ei : i = q.dropLast.length
      · subst ei
        have h1 := h.2.1 q.dropLast.length (by omega)
        have g1 : (q.dropLast ++ [.inr m] : List zIt)[q.dropLast.length]'hi = .inr m := by
          rw [List.getElem_append_right (Nat.le_refl _)]
          simp
        have g2 : q[q.dropLast.length]'(by omega) = .inr m0 := by
          have : ∀ (r : List zIt) (hr : q.dropLast.length < r.length), r = q.dropLast ++ [.inr m0] → r[q.dropLast.length]'hr = .inr m0 := by
            intro r hr er
            subst er
            rw [List.getElem_append_right (Nat.le_refl _)]
            simp
          exact this q _ e
        rw [g1]
        rw [g2] at h1
        refine ⟨h1.1, _, ?_, fun k hk' => (zbit_set g (x_me z) hk').trans (hm k hk')⟩
        show f l ((x_lf z l + q.dropLast.length) % 121) = _
        rw [show q.dropLast.length = x_lz z l - 1 by rw [h.1]; omega]
        exact hfs
      · have hlt : i < q.dropLast.length := by omega
        rw [List.getElem_append_left hlt, List.getElem_dropLast]
        refine it_cg (x := z) (l := l) rfl ?_ (h.2.1 i (by omega))
        refine hf l _ (fun y => ?_)
        exact rs_ne (f := x_lf z l) (show i < 121 by omega) (show x_lz z l - 1 < 121 by rw [h.1]; omega) (by rw [h.1]; omega) y.2
    · intro k hk'
      show zbit (va_up (x_lt z) l (rw_set (x_lt z l) (x_me z)) l) k = _
      rw [va_ups', zbit_set _ _ hk']
      exact hm k hk'
  · have hl' : lsT q = false := by cases hq : lsT q with | true => exact absurd hq hl | false => rfl
    have hlt := hr hl'
    rw [if_neg (fun y => hl ((it_last h hn hk).mp y)), if_neg hl, if_pos (show x_lz z l < 121 by rw [h.1]; exact hlt)]
    obtain ⟨f, g, ew, hfs, hf⟩ := wr_k (la_push z l (-2)) l ((x_lf z l + x_lz z l) % 121)
    rw [ew]
    refine ⟨?_, fun i hi => ?_, ?_, h.2.2.2⟩
    · show va_up (x_lz z) l (x_lz z l + 1) l = _
      rw [va_ups', h.1, List.length_append]; rfl
    · have hi' : i < q.length + 1 := by
        have := hi
        rw [List.length_append] at this; exact this
      by_cases ei : i = q.length
      · subst ei
        have g1 : (q ++ [.inr m] : List zIt)[q.length]'hi = .inr m := by
          rw [List.getElem_append_right (Nat.le_refl _)]
          simp
        rw [g1]
        refine ⟨?_, _, ?_, fun k hk' => (zbit_set g _ hk').trans (hm k hk')⟩
        · show va_up (x_li z) l (upd (x_li z l) ((x_lf z l + x_lz z l) % 121) (-2)) l ((x_lf z l + q.length) % 121) = -2
          rw [va_ups', h.1, upd_s']
        · show f l ((x_lf z l + q.length) % 121) = _
          rw [← h.1]
          exact hfs
      · have hlt2 : i < q.length := by omega
        rw [List.getElem_append_left hlt2]
        have hs : (x_lf z l + i) % 121 ≠ (x_lf z l + x_lz z l) % 121 := rs_ne (f := x_lf z l) (show i < 121 by omega) (show x_lz z l < 121 by rw [h.1]; omega) (by rw [h.1]; omega)
        refine it_cg (x := z) (l := l) ?_ ?_ (h.2.1 i hlt2)
        · show va_up (x_li z) l (upd (x_li z l) ((x_lf z l + x_lz z l) % 121) (-2)) l ((x_lf z l + i) % 121) = _
          rw [va_ups', upd_o' _ _ hs]; rfl
        · exact hf l _ (fun y => hs y.2)
    · intro k hk'
      show zbit (va_up (x_lt z) l (rw_set (x_lt z l) (x_me z)) l) k = _
      rw [va_ups', zbit_set _ _ hk']
      exact hm k hk'
/-! a notice is put -/
theorem push_o {z : zSt} {l l' : Nat} (hl : l' ≠ l) {v : Int32} {q : List zIt} {t b : Nat → Bool} (h : ln_r z l' q t b) : ln_r (la_push z l v) l' q t b := by
  refine ⟨?_, fun i hi => ?_, h.2.2⟩
  · show va_up (x_lz z) l (x_lz z l + 1) l' = _
    rw [va_upo' _ _ hl]; exact h.1
  · refine it_cg (x := z) (l := l') ?_ rfl (h.2.1 i hi)
    show va_up (x_li z) l _ l' _ = _
    rw [va_upo' _ _ hl]; rfl
theorem push_s {z : zSt} {l k : Nat} {q : List zIt} {t b : Nat → Bool} (h : ln_r z l q t b) (hn : q.length < 121) : ln_r (la_push z l (nI k)) l (q ++ [.inl k]) t b := by
  refine ⟨?_, fun i hi => ?_, h.2.2⟩
  · show va_up (x_lz z) l (x_lz z l + 1) l = _
    rw [va_ups', h.1, List.length_append]; rfl
  · have hi' : i < q.length + 1 := by
      have := hi
      rw [List.length_append] at this; exact this
    by_cases ei : i = q.length
    · subst ei
      have g1 : (q ++ [.inl k] : List zIt)[q.length]'hi = .inl k := by
        rw [List.getElem_append_right (Nat.le_refl _)]
        simp
      rw [g1]
      show va_up (x_li z) l (upd (x_li z l) ((x_lf z l + x_lz z l) % 121) (nI k)) l ((x_lf z l + q.length) % 121) = nI k
      rw [va_ups', h.1, upd_s']
    · have hlt2 : i < q.length := by omega
      rw [List.getElem_append_left hlt2]
      have hs : (x_lf z l + i) % 121 ≠ (x_lf z l + x_lz z l) % 121 := rs_ne (f := x_lf z l) (show i < 121 by omega) (show x_lz z l < 121 by rw [h.1]; omega) (by rw [h.1]; omega)
      refine it_cg (x := z) (l := l) ?_ rfl (h.2.1 i hlt2)
      show va_up (x_li z) l (upd (x_li z l) ((x_lf z l + x_lz z l) % 121) (nI k)) l ((x_lf z l + i) % 121) = _
      rw [va_ups', upd_o' _ _ hs]; rfl
/-! the first message is taken -/
theorem take_k (x : zSt) (l : Nat) : ∃ f g, la_take x l = u_lz (u_lf (u_lb (u_lr x f) (va_up (x_lb x) l g)) (va_up (x_lf x) l ((x_lf x l + 1) % 121))) (va_up (x_lz x) l (x_lz x l - 1)) ∧ (∀ l' s', ¬ (l' = l ∧ s' = x_lf x l) → f l' s' = x_lr x l' s') ∧ (x_li x l (x_lf x l) ≠ -2 → g = x_lb x l) ∧ (x_li x l (x_lf x l) = -2 → ∀ h, x_lr x l (x_lf x l) = some h → g = rw_set (x_lb x l) h) := by
  unfold la_take la_take1
  by_cases hi : x_li x l (x_lf x l) = -2
  · rw [if_pos hi]
    obtain ⟨f, e, hf⟩ := mk_k x l (x_lf x l)
    refine ⟨f, rw_set (x_lb x l) (la_row x l (x_lf x l)), by rw [e], hf, fun z => absurd hi z, fun _ h hh => ?_⟩
    unfold la_row la_mk
    rw [if_neg (by rw [hh]; simp), hh]
    rfl
  · rw [if_neg hi]
    refine ⟨x_lr x, x_lb x l, ?_, fun _ _ _ => rfl, fun _ => rfl, fun z => absurd z hi⟩
    have e : va_up (x_lb x) l (x_lb x l) = x_lb x := by
      funext j
      simp only [va_up]
      split
      · rename_i z; rw [z]
      · rfl
    rw [e]
    rfl
theorem lf_take (x : zSt) (l : Nat) : lf_k x (la_take x l) := by
  obtain ⟨f, g, e, _⟩ := take_k x l
  rw [e]
  exact ⟨va_up (x_lz x) l (x_lz x l - 1), va_up (x_lf x) l ((x_lf x l + 1) % 121), x_li x, x_lt x, va_up (x_lb x) l g, f, rfl⟩
theorem take_o {z : zSt} {l l' : Nat} (hl : l' ≠ l) {q : List zIt} {t b : Nat → Bool} (h : ln_r z l' q t b) : ln_r (la_take z l) l' q t b := by
  obtain ⟨f, g, e, hf, _⟩ := take_k z l
  rw [e]
  refine ⟨?_, fun i hi => ?_, h.2.2.1, ?_⟩
  · show va_up (x_lz z) l (x_lz z l - 1) l' = _
    rw [va_upo' _ _ hl]; exact h.1
  · refine it_cg (x := z) (l := l') ?_ ?_ (h.2.1 i hi)
    · show x_li z l' ((va_up (x_lf z) l ((x_lf z l + 1) % 121) l' + i) % 121) = _
      rw [va_upo' _ _ hl]; rfl
    · show f l' ((va_up (x_lf z) l ((x_lf z l + 1) % 121) l' + i) % 121) = _
      rw [va_upo' _ _ hl, hf l' _ (fun y => hl y.1)]
  · show row_r (va_up (x_lb z) l g l') b
    rw [va_upo' _ _ hl]; exact h.2.2.2
/-- the table that a message leaves -/
def ta_b (i : zIt) (b : Nat → Bool) : Nat → Bool := match i with
  | .inl _ => b
  | .inr m => m
theorem take_s {z : zSt} {l : Nat} {i : zIt} {q : List zIt} {t b : Nat → Bool} (h : ln_r z l (i :: q) t b) (hn : (i :: q).length ≤ 121) (hf1 : x_lf z l < 121) (hk : ∀ k, i = .inl k → k < 600) : ln_r (la_take z l) l q t (ta_b i b) := by
  obtain ⟨f, g, e, hf, hg1, hg2⟩ := take_k z l
  have hl1 : q.length + 1 ≤ 121 := hn
  have h0 := h.2.1 0 (Nat.zero_lt_succ _)
  have e0 : la_at z l 0 = x_li z l (x_lf z l) := by
    unfold la_at
    rw [Nat.add_zero, Nat.mod_eq_of_lt hf1]
  have tl : x_li (la_take z l) = x_li z := by rw [e]; rfl
  have tf : x_lf (la_take z l) l = (x_lf z l + 1) % 121 := by rw [e]; exact va_ups' _ _ _
  have tr : x_lr (la_take z l) = f := by rw [e]; rfl
  have tt : x_lt (la_take z l) = x_lt z := by rw [e]; rfl
  have tb : x_lb (la_take z l) l = g := by rw [e]; exact va_ups' _ _ _
  have tz : x_lz (la_take z l) l = x_lz z l - 1 := by rw [e]; exact va_ups' _ _ _
  refine ⟨?_, fun j hj => ?_, by rw [tt]; exact h.2.2.1, ?_⟩
  · rw [tz, h.1]; rfl
  · have h1 := h.2.1 (j + 1) (Nat.succ_lt_succ hj)
    have es : ((x_lf z l + 1) % 121 + j) % 121 = (x_lf z l + (j + 1)) % 121 := by omega
    have g1 : (i :: q)[j + 1]'(Nat.succ_lt_succ hj) = q[j] := rfl
    rw [g1] at h1
    have hs : (x_lf z l + (j + 1)) % 121 ≠ x_lf z l := by omega
    have a1 : la_at (la_take z l) l j = la_at z l (j + 1) := by
      unfold la_at
      rw [tl, tf, es]
    cases hq : q[j] with
    | inl k =>
      rw [hq] at h1
      exact a1.trans h1
    | inr m =>
      rw [hq] at h1
      obtain ⟨z1, fr, z2, z3⟩ := h1
      refine ⟨a1.trans z1, fr, ?_, z3⟩
      rw [tr, tf, es, hf l _ (fun y => hs y.2)]
      exact z2
  · rw [tb]
    cases i with
    | inl k =>
      have h0' : la_at z l 0 = nI k := h0
      rw [e0] at h0'
      have : x_li z l (x_lf z l) ≠ -2 := fun y => by
        rw [y] at h0'
        have hk' := nI_pos (n := k) (by have := hk k rfl; omega)
        rw [← h0'] at hk'
        exact absurd (by decide) hk'
      rw [hg1 this]
      exact h.2.2.2
    | inr m =>
      obtain ⟨z1, fr, z2, z3⟩ := h0
      rw [e0] at z1
      rw [Nat.add_zero, Nat.mod_eq_of_lt hf1] at z2
      rw [hg2 z1 fr z2]
      exact fun k hk' => (zbit_set _ _ hk').trans (z3 k hk')
