/-! the reference's memory: its list of messages, road by road -/
/-- five words as a row -/
def bto (f : Nat → Int64) : Nat → Bool := fun k => decide (k < 320) && zbit f k
theorem bto_i {f : Nat → Int64} {k : Nat} (hk : k < 320) : bto f k = zbit f k := by unfold bto; rw [decide_eq_true hk, Bool.true_and]
theorem bto_o {f : Nat → Int64} {k : Nat} (hk : ¬ k < 320) : bto f k = false := by unfold bto; rw [decide_eq_false hk, Bool.false_and]
theorem bto_cg {f g : Nat → Int64} (h : ∀ i, i < 5 → f i = g i) : bto f = bto g := by
  funext k
  by_cases hk : k < 320
  · rw [bto_i hk, bto_i hk]; exact zbit_w h k hk
  · rw [bto_o hk, bto_o hk]
theorem bto_eq {f g : Nat → Int64} : bto f = bto g ↔ ∀ i, i < 5 → f i = g i := by
  constructor
  · intro h
    refine w_eq (fun k hk => ?_)
    have := congrFun h k
    rw [bto_i hk, bto_i hk] at this
    exact this
  · exact bto_cg
theorem bto_r {f : Nat → Int64} {m : Nat → Bool} (h : row_r f m) (hm : ∀ k, m k = true → k < 320) : bto f = m := by
  funext k
  by_cases hk : k < 320
  · rw [bto_i hk]; exact h k hk
  · rw [bto_o hk]
    cases hq : m k with
    | false => rfl
    | true => exact absurd (hm k hq) hk
/-- message m -/
noncomputable def y_it (y : zMS) (m : Nat) : zIt := if y_wh y m = -2 then .inr (bto (sh (y_rw y) (5 * m))) else .inl (y_wh y m).toNatClampNeg
noncomputable def y_hr (y : zMS) (u v m : Nat) : List zIt := if y_fr y m = u ∧ y_tt y m = v then [y_it y m] else []
/-- the messages b .. b + n - 1 that go from u to v -/
noncomputable def yqs (y : zMS) (u v b : Nat) : Nat → List zIt
  | 0 => []
  | n + 1 => yqs y u v b n ++ y_hr y u v (b + n)
noncomputable def yq (y : zMS) (u v : Nat) : List zIt := yqs y u v 0 (y_ms y)
theorem yqs_cg {y z : zMS} {u v b c : Nat} : ∀ n, (∀ i, i < n → y_hr z u v (c + i) = y_hr y u v (b + i)) → yqs z u v c n = yqs y u v b n
  | 0, _ => rfl
  | n + 1, h => by
    show yqs z u v c n ++ _ = yqs y u v b n ++ _
    rw [yqs_cg n (fun i hi => h i (by omega)), h n (by omega)]
theorem yqs_add (y : zMS) (u v b m : Nat) : ∀ n, yqs y u v b (m + n) = yqs y u v b m ++ yqs y u v (b + m) n
  | 0 => (List.append_nil _).symm
  | n + 1 => by
    show yqs y u v b (m + n) ++ y_hr y u v (b + (m + n)) = yqs y u v b m ++ (yqs y u v (b + m) n ++ y_hr y u v (b + m + n))
    rw [yqs_add y u v b m n, List.append_assoc, Nat.add_assoc]
theorem it_cy {y z : zMS} {m k : Nat} (h1 : y_wh z k = y_wh y m) (h2 : ∀ i, i < 5 → y_rw z (5 * k + i) = y_rw y (5 * m + i)) : y_it z k = y_it y m := by
  unfold y_it
  rw [h1, bto_cg (f := sh (y_rw z) (5 * k)) (g := sh (y_rw y) (5 * m)) h2]
theorem hr_cy {y z : zMS} {u v m k : Nat} (h0 : y_fr z k = y_fr y m ∧ y_tt z k = y_tt y m) (h1 : y_wh z k = y_wh y m) (h2 : ∀ i, i < 5 → y_rw z (5 * k + i) = y_rw y (5 * m + i)) : y_hr z u v k = y_hr y u v m := by
  unfold y_hr
  rw [h0.1, h0.2, it_cy h1 h2]
/-- which fields the messages are read from -/
theorem yq_cg {y z : zMS} (hm : y_ms z = y_ms y) (h1 : y_fr z = y_fr y) (h2 : y_tt z = y_tt y) (h3 : y_wh z = y_wh y) (h4 : y_rw z = y_rw y) (u v : Nat) : yq z u v = yq y u v := by
  unfold yq
  rw [hm]
  exact yqs_cg _ (fun i _ => hr_cy ⟨by rw [h1], by rw [h2]⟩ (by rw [h3]) (fun j _ => by rw [h4]))
/-! put -/
theorem pu_old {y : zMS} {u v : Nat} {s : Int32} : y_ms (pu y u v s) = y_ms y + 1 ∧ (∀ m, m < y_ms y → y_fr (pu y u v s) m = y_fr y m ∧ y_tt (pu y u v s) m = y_tt y m ∧ y_wh (pu y u v s) m = y_wh y m ∧ ∀ i, i < 5 → y_rw (pu y u v s) (5 * m + i) = y_rw y (5 * m + i)) ∧ y_fr (pu y u v s) (y_ms y) = u ∧ y_tt (pu y u v s) (y_ms y) = v ∧ y_wh (pu y u v s) (y_ms y) = s := by
  unfold pu
  by_cases e : y_ms y = y_cp y
  · rw [if_pos e]
    refine ⟨rfl, fun m hm => ⟨?_, ?_, ?_, fun i hi => ?_⟩, ?_, ?_, ?_⟩
    · show va_up (cut0 (y_fr y) 0 (y_cp y)) (y_ms y) u m = _
      rw [va_upo' _ _ (by omega)]; exact if_pos (by omega)
    · show va_up (cut0 (y_tt y) 0 (y_cp y)) (y_ms y) v m = _
      rw [va_upo' _ _ (by omega)]; exact if_pos (by omega)
    · show upd (cut0 (y_wh y) 0 (y_cp y)) (y_ms y) s m = _
      rw [upd_o' _ _ (by omega)]; exact if_pos (by omega)
    · show cut0 (y_rw y) 0 (5 * y_cp y) (5 * m + i) = _
      exact if_pos (by omega)
    · exact va_ups' _ _ _
    · exact va_ups' _ _ _
    · exact upd_s' _ _ _
  · rw [if_neg e]
    refine ⟨rfl, fun m hm => ⟨?_, ?_, ?_, fun i hi => rfl⟩, ?_, ?_, ?_⟩
    · show va_up (y_fr y) (y_ms y) u m = _
      rw [va_upo' _ _ (by omega)]
    · show va_up (y_tt y) (y_ms y) v m = _
      rw [va_upo' _ _ (by omega)]
    · show upd (y_wh y) (y_ms y) s m = _
      rw [upd_o' _ _ (by omega)]
    · exact va_ups' _ _ _
    · exact va_ups' _ _ _
    · exact upd_s' _ _ _
/-- a state with one message more, x in place of its row -/
theorem yq_new {y z : zMS} {u v : Nat} (hm : y_ms z = y_ms y + 1) (ho : ∀ m, m < y_ms y → y_fr z m = y_fr y m ∧ y_tt z m = y_tt y m ∧ y_wh z m = y_wh y m ∧ ∀ i, i < 5 → y_rw z (5 * m + i) = y_rw y (5 * m + i)) (h1 : y_fr z (y_ms y) = u) (h2 : y_tt z (y_ms y) = v) (p w : Nat) : yq z p w = if p = u ∧ w = v then yq y p w ++ [y_it z (y_ms y)] else yq y p w := by
  unfold yq
  rw [hm]
  show yqs z p w 0 (y_ms y) ++ y_hr z p w (0 + y_ms y) = _
  rw [yqs_cg (y := y) (b := 0) (y_ms y) (fun i hi => by
    rw [Nat.zero_add]
    exact hr_cy ⟨(ho i hi).1, (ho i hi).2.1⟩ (ho i hi).2.2.1 (ho i hi).2.2.2), Nat.zero_add]
  unfold y_hr
  rw [h1, h2]
  by_cases e : p = u ∧ w = v
  · rw [if_pos e, if_pos ⟨e.1.symm, e.2.symm⟩]
  · rw [if_neg e, if_neg (fun z => e ⟨z.1.symm, z.2.symm⟩), List.append_nil]
/-! drop -/
theorem yq_dr {y : zMS} {m : Nat} (hm : m < y_ms y) (u v : Nat) : yq (dr y m) u v = yqs y u v 0 m ++ yqs y u v (m + 1) (y_ms y - 1 - m) ∧ yq y u v = yqs y u v 0 m ++ y_hr y u v m ++ yqs y u v (m + 1) (y_ms y - 1 - m) := by
  constructor
  · have e0 : yq (dr y m) u v = yqs (dr y m) u v 0 (m + (y_ms y - 1 - m)) := by
      unfold yq
      rw [show y_ms (dr y m) = m + (y_ms y - 1 - m) by rw [dr_ms]; omega]
    rw [e0, yqs_add, Nat.zero_add]
    have a1 : yqs (dr y m) u v 0 m = yqs y u v 0 m := yqs_cg m (fun i hi => by
      rw [Nat.zero_add]
      refine hr_cy ⟨?_, ?_⟩ ?_ (fun j hj => ?_)
      · show dr_f (y_fr y) m (y_ms y - 1) i = _; exact if_neg (by omega)
      · show dr_f (y_tt y) m (y_ms y - 1) i = _; exact if_neg (by omega)
      · show dr_f (y_wh y) m (y_ms y - 1) i = _; exact if_neg (by omega)
      · show dr_r (y_rw y) m (5 * (y_ms y - 1)) (5 * i + j) = _; exact if_neg (by omega))
    have a2 : yqs (dr y m) u v m (y_ms y - 1 - m) = yqs y u v (m + 1) (y_ms y - 1 - m) := yqs_cg _ (fun i hi => by
      refine hr_cy ⟨?_, ?_⟩ ?_ (fun j hj => ?_)
      · show dr_f (y_fr y) m (y_ms y - 1) (m + i) = _
        unfold dr_f
        rw [if_pos (by omega), show m + i + 1 = m + 1 + i by omega]
      · show dr_f (y_tt y) m (y_ms y - 1) (m + i) = _
        unfold dr_f
        rw [if_pos (by omega), show m + i + 1 = m + 1 + i by omega]
      · show dr_f (y_wh y) m (y_ms y - 1) (m + i) = _
        unfold dr_f
        rw [if_pos (by omega), show m + i + 1 = m + 1 + i by omega]
      · show dr_r (y_rw y) m (5 * (y_ms y - 1)) (5 * (m + i) + j) = _
        unfold dr_r
        rw [if_pos (by omega), show 5 * (m + i) + j + 5 = 5 * (m + 1 + i) + j by omega])
    rw [a1, a2]
  · have e0 : yq y u v = yqs y u v 0 (m + (1 + (y_ms y - 1 - m))) := by
      unfold yq
      rw [show m + (1 + (y_ms y - 1 - m)) = y_ms y by omega]
    rw [e0, yqs_add, yqs_add, Nat.zero_add, List.append_assoc]
    rfl
/-- the first message of a road is dropped -/
theorem fsO_q {y : zMS} {u v : Nat} : ∀ {n m : Nat}, fsO y u v n = some m → yqs y u v 0 m = [] ∧ y_fr y m = u ∧ y_tt y m = v ∧ m < n
  | 0, m, h => by cases h
  | n + 1, m, h => by
    simp only [fsO] at h
    split at h
    · rename_i m' e
      cases h
      have := fsO_q e
      exact ⟨this.1, this.2.1, this.2.2.1, by omega⟩
    · rename_i e
      split at h
      · rename_i c
        cases h
        refine ⟨?_, c.1, c.2, by omega⟩
        have none : ∀ k, fsO y u v k = none → yqs y u v 0 k = [] := by
          intro k
          induction k with
          | zero => intro _; rfl
          | succ k ih =>
            intro hk
            simp only [fsO] at hk
            split at hk
            · cases hk
            · rename_i e2
              split at hk
              · cases hk
              · rename_i c2
                show yqs y u v 0 k ++ y_hr y u v (0 + k) = []
                rw [ih e2, Nat.zero_add, List.nil_append]
                exact if_neg c2
        exact none n e
      · cases h
theorem fsO_n {y : zMS} {u v : Nat} : ∀ n, fsO y u v n = none → yqs y u v 0 n = []
  | 0, _ => rfl
  | n + 1, h => by
    simp only [fsO] at h
    split at h
    · cases h
    · rename_i e
      split at h
      · cases h
      · rename_i c
        show yqs y u v 0 n ++ y_hr y u v (0 + n) = []
        rw [fsO_n n e, Nat.zero_add, List.nil_append]
        exact if_neg c
theorem yq_first {y : zMS} {u v m : Nat} (h : fsO y u v (y_ms y) = some m) (p w : Nat) : yq y u v = y_it y m :: (yq y u v).tail ∧ yq (dr y m) p w = if p = u ∧ w = v then (yq y p w).tail else yq y p w := by
  obtain ⟨h1, h2, h3, h4⟩ := fsO_q h
  have d := yq_dr h4 u v
  rw [h1, List.nil_append, List.nil_append] at d
  have e1 : y_hr y u v m = [y_it y m] := if_pos ⟨h2, h3⟩
  rw [e1] at d
  refine ⟨by rw [d.2]; rfl, ?_⟩
  by_cases e : p = u ∧ w = v
  · rw [if_pos e, e.1, e.2, d.1, d.2]; rfl
  · rw [if_neg e]
    have d2 := yq_dr h4 p w
    rw [d2.1, d2.2]
    have e2 : y_hr y p w m = [] := if_neg (fun z => e ⟨z.1.symm.trans h2, z.2.symm.trans h3⟩)
    rw [e2, List.append_nil]
/-! the last message of a road -/
theorem lsO_q {y : zMS} {u v : Nat} : ∀ {n m : Nat}, lsO y u v n = some m → yqs y u v 0 n = yqs y u v 0 m ++ [y_it y m] ∧ y_fr y m = u ∧ y_tt y m = v ∧ m < n
  | 0, m, h => by cases h
  | n + 1, m, h => by
    simp only [lsO] at h
    split at h
    · rename_i c
      cases h
      refine ⟨?_, c.1, c.2, by omega⟩
      show yqs y u v 0 n ++ y_hr y u v (0 + n) = _
      rw [Nat.zero_add, show y_hr y u v n = [y_it y n] from if_pos c]
    · rename_i c
      have := lsO_q h
      refine ⟨?_, this.2.1, this.2.2.1, by omega⟩
      show yqs y u v 0 n ++ y_hr y u v (0 + n) = _
      rw [Nat.zero_add, show y_hr y u v n = [] from if_neg c, List.append_nil]
      exact this.1
theorem lsO_n {y : zMS} {u v : Nat} : ∀ n, lsO y u v n = none → yqs y u v 0 n = []
  | 0, _ => rfl
  | n + 1, h => by
    simp only [lsO] at h
    split at h
    · cases h
    · rename_i c
      show yqs y u v 0 n ++ y_hr y u v (0 + n) = []
      rw [Nat.zero_add, show y_hr y u v n = [] from if_neg c, List.append_nil]
      exact lsO_n n h
theorem isT_it (y : zMS) (m : Nat) : isT (y_it y m) = true ↔ y_wh y m = -2 := by
  unfold y_it
  by_cases h : y_wh y m = -2
  · rw [if_pos h]; exact ⟨fun _ => h, fun _ => rfl⟩
  · rw [if_neg h]; exact ⟨fun z => (by cases z), fun z => absurd z h⟩
/-- a road's messages after a tell with the words g -/
theorem yq_tell {z : zMS} (u v : Nat) (p w : Nat) : yq (tl_w z u v) p w = if p = u ∧ w = v then tlq (yq z p w) (bto (y_me z)) else yq z p w := by
  -- the row that is written
  have row : ∀ (P : zMS) (m : Nat), ∀ k, k ≠ m → ∀ i, i < 5 → rwp (y_rw P) (5 * m) (y_me z) 5 (5 * k + i) = y_rw P (5 * k + i) := fun P m k hk i hi => if_neg (by omega)
  have rowm : ∀ (P : zMS) (m : Nat), ∀ i, i < 5 → rwp (y_rw P) (5 * m) (y_me z) 5 (5 * m + i) = y_me z i := fun P m i hi => by
    unfold rwp
    rw [if_pos (by omega), show 5 * m + i - 5 * m = i by omega]
  have bm : ∀ (P : zMS) (m : Nat), bto (sh (rwp (y_rw P) (5 * m) (y_me z) 5) (5 * m)) = bto (y_me z) := fun P m => bto_cg (fun i hi => rowm P m i hi)
  cases hm : tl_m z u v with
  | some m =>
    have ep : tl_p z u v = z := by unfold tl_p; rw [hm]
    have ei : tl_i z u v = m := by unfold tl_i; rw [hm]
    have ew : tl_w z u v = v_to (v_rw z (rwp (y_rw z) (5 * m) (y_me z) 5)) (rwp (y_to z) (5 * (12 * u + v)) (y_me z) 5) := by unfold tl_w tl_k; rw [ep, ei]
    have hls : lsO z u v (y_ms z) = some m ∧ y_wh z m = -2 := by
      unfold tl_m at hm
      split at hm
      · rename_i m' e
        split at hm
        · rename_i c
          cases hm
          exact ⟨e, c⟩
        · cases hm
      · cases hm
    obtain ⟨q1, q2, q3, q4⟩ := lsO_q hls.1
    have hq : yq z u v = yqs z u v 0 m ++ [y_it z m] := q1
    rw [ew]
    -- before m, at m, behind m
    have hd := yq_dr (y := v_to (v_rw z (rwp (y_rw z) (5 * m) (y_me z) 5)) (rwp (y_to z) (5 * (12 * u + v)) (y_me z) 5)) (m := m) q4 p w
    have hd0 := yq_dr (y := z) (m := m) q4 p w
    have b1 : yqs (v_to (v_rw z (rwp (y_rw z) (5 * m) (y_me z) 5)) (rwp (y_to z) (5 * (12 * u + v)) (y_me z) 5)) p w 0 m = yqs z p w 0 m := yqs_cg m (fun i hi => by
      rw [Nat.zero_add]
      exact hr_cy ⟨rfl, rfl⟩ rfl (fun j hj => row z m i (by omega) j hj))
    have b2 : yqs (v_to (v_rw z (rwp (y_rw z) (5 * m) (y_me z) 5)) (rwp (y_to z) (5 * (12 * u + v)) (y_me z) 5)) p w (m + 1) (y_ms z - 1 - m) = yqs z p w (m + 1) (y_ms z - 1 - m) := yqs_cg _ (fun i hi => hr_cy ⟨rfl, rfl⟩ rfl (fun j hj => row z m (m + 1 + i) (by omega) j hj))
    have hd2 : yq (v_to (v_rw z (rwp (y_rw z) (5 * m) (y_me z) 5)) (rwp (y_to z) (5 * (12 * u + v)) (y_me z) 5)) p w = yqs z p w 0 m ++ y_hr (v_to (v_rw z (rwp (y_rw z) (5 * m) (y_me z) 5)) (rwp (y_to z) (5 * (12 * u + v)) (y_me z) 5)) p w m ++ yqs z p w (m + 1) (y_ms z - 1 - m) := by
      rw [← b1, ← b2]; exact hd.2
    rw [hd2]
    have eit : y_it (v_to (v_rw z (rwp (y_rw z) (5 * m) (y_me z) 5)) (rwp (y_to z) (5 * (12 * u + v)) (y_me z) 5)) m = .inr (bto (y_me z)) := by
      unfold y_it
      rw [show y_wh (v_to (v_rw z (rwp (y_rw z) (5 * m) (y_me z) 5)) (rwp (y_to z) (5 * (12 * u + v)) (y_me z) 5)) m = -2 from hls.2, if_pos rfl]
      exact congrArg Sum.inr (bm z m)
    by_cases e : p = u ∧ w = v
    · obtain ⟨rfl, rfl⟩ := e
      rw [if_pos ⟨rfl, rfl⟩]
      have ehr : y_hr (v_to (v_rw z (rwp (y_rw z) (5 * m) (y_me z) 5)) (rwp (y_to z) (5 * (12 * p + w)) (y_me z) 5)) p w m = [.inr (bto (y_me z))] := by
        refine (if_pos (show y_fr z m = p ∧ y_tt z m = w from ⟨q2, q3⟩)).trans ?_
        rw [eit]
      rw [ehr]
      have ehr0 : y_hr z p w m = [y_it z m] := if_pos ⟨q2, q3⟩
      have hrest : yqs z p w (m + 1) (y_ms z - 1 - m) = [] := by
        have := hd0.2
        rw [ehr0, hq] at this
        have := congrArg List.length this
        simp only [List.length_append, List.length_cons, List.length_nil] at this
        exact List.eq_nil_of_length_eq_zero (by omega)
      rw [hrest, List.append_nil, hq]
      unfold tlq
      rw [lsT_app, (isT_it z m).mpr hls.2, if_pos rfl, List.dropLast_concat]
    · rw [if_neg e]
      have ehr : y_hr (v_to (v_rw z (rwp (y_rw z) (5 * m) (y_me z) 5)) (rwp (y_to z) (5 * (12 * u + v)) (y_me z) 5)) p w m = [] := if_neg (fun y => e ⟨y.1.symm.trans q2, y.2.symm.trans q3⟩)
      have ehr0 : y_hr z p w m = [] := if_neg (fun y => e ⟨y.1.symm.trans q2, y.2.symm.trans q3⟩)
      rw [ehr, hd0.2, ehr0]
  | none =>
    have ep : tl_p z u v = pu z u v (-2) := by unfold tl_p; rw [hm]
    have ei : tl_i z u v = y_ms z := by unfold tl_i; rw [hm]
    have ew : tl_w z u v = v_to (v_rw (pu z u v (-2)) (rwp (y_rw (pu z u v (-2))) (5 * y_ms z) (y_me z) 5)) (rwp (y_to (pu z u v (-2))) (5 * (12 * u + v)) (y_me z) 5) := by unfold tl_w tl_k; rw [ep, ei]
    have hpu := pu_old (y := z) (u := u) (v := v) (s := -2)
    rw [ew]
    have hn := yq_new (y := z) (z := v_to (v_rw (pu z u v (-2)) (rwp (y_rw (pu z u v (-2))) (5 * y_ms z) (y_me z) 5)) (rwp (y_to (pu z u v (-2))) (5 * (12 * u + v)) (y_me z) 5)) (u := u) (v := v) hpu.1 (fun m hm2 => ⟨(hpu.2.1 m hm2).1, (hpu.2.1 m hm2).2.1, (hpu.2.1 m hm2).2.2.1, fun i hi => (row (pu z u v (-2)) (y_ms z) m (by omega) i hi).trans ((hpu.2.1 m hm2).2.2.2 i hi)⟩) hpu.2.2.1 hpu.2.2.2.1 p w
    rw [hn]
    by_cases e : p = u ∧ w = v
    · rw [if_pos e, if_pos e]
      have eit : y_it (v_to (v_rw (pu z u v (-2)) (rwp (y_rw (pu z u v (-2))) (5 * y_ms z) (y_me z) 5)) (rwp (y_to (pu z u v (-2))) (5 * (12 * u + v)) (y_me z) 5)) (y_ms z) = .inr (bto (y_me z)) := by
        unfold y_it
        rw [show y_wh (v_to (v_rw (pu z u v (-2)) (rwp (y_rw (pu z u v (-2))) (5 * y_ms z) (y_me z) 5)) (rwp (y_to (pu z u v (-2))) (5 * (12 * u + v)) (y_me z) 5)) (y_ms z) = -2 from hpu.2.2.2.2, if_pos rfl]
        exact congrArg Sum.inr (bm (pu z u v (-2)) (y_ms z))
      rw [eit]
      have hl : ¬ lsT (yq z p w) = true := by
        rw [e.1, e.2]
        unfold tl_m at hm
        split at hm
        · rename_i m' e2
          split at hm
          · cases hm
          · rename_i c
            obtain ⟨q1, _⟩ := lsO_q e2
            have hq : yq z u v = yqs z u v 0 m' ++ [y_it z m'] := q1
            rw [hq, lsT_app]
            exact fun t => c ((isT_it z m').mp t)
        · rename_i e2
          have : yq z u v = [] := lsO_n _ e2
          rw [this]
          decide
      unfold tlq
      rw [if_neg hl]
    · rw [if_neg e, if_neg e]
