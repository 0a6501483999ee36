/-! a wish is made -/
theorem wgk' (x : zSt) (m n : Nat) : ∀ w, ∃ f, wg x m n w = u_ob x f
  | 0 => ⟨x_ob x, rfl⟩
  | w + 1 => by
    obtain ⟨f, e⟩ := wgk' x m n w
    have e1 : wg x m n (w + 1) = wg_s (wg x m n w) m n w := rfl
    rw [e1, e]
    unfold wg_s
    split
    · exact ⟨_, rfl⟩
    · split
      · exact ⟨_, rfl⟩
      · exact ⟨f, rfl⟩
theorem wg_bits (x : zSt) (m : Nat) (h0 : ∀ j, zbit (x_ob x m) j = false) : ∀ n, n ≤ m → (∀ j, zbit (x_ob (wg x m m n) m) j = true ↔ j < n ∧ ws_takes x j m = true) ∧ (∀ w j, w < m → (zbit (x_ob (wg x m m n) w) j = true ↔ zbit (x_ob x w) j = true ∨ (j = m ∧ w < n ∧ ws_takes x w m = false ∧ ws_takes x m w = true)))
  | 0, _ => by
    refine ⟨fun j => ?_, fun w j hw => ?_⟩
    · show zbit (x_ob x m) j = true ↔ _
      rw [h0 j]
      exact ⟨fun z => (by cases z), fun z => absurd z.1 (Nat.not_lt_zero j)⟩
    · show zbit (x_ob x w) j = true ↔ _
      exact ⟨Or.inl, fun z => z.elim id (fun z => absurd z.2.1 (Nat.not_lt_zero w))⟩
  | n + 1, hn => by
    obtain ⟨i1, i2⟩ := wg_bits x m h0 n (by omega)
    obtain ⟨f, e⟩ := wgk' x m m n
    have e1 : wg x m m (n + 1) = wg_s (wg x m m n) m m n := rfl
    have t : ∀ i j, ws_takes (wg x m m n) i j = ws_takes x i j := fun i j => by rw [e]; rfl
    rw [e1]
    unfold wg_s
    rw [t, t]
    by_cases c1 : ws_takes x n m = true
    · rw [if_pos c1]
      refine ⟨fun j => ?_, fun w j hw => ?_⟩
      · show zbit (va_up (x_ob (wg x m m n)) m (rw_add (x_ob (wg x m m n) m) n) m) j = true ↔ _
        rw [va_ups', zbit_add, Bool.or_eq_true, i1 j, decide_eq_true_iff]
        constructor
        · rintro (z | z)
          · exact ⟨by omega, z.2⟩
          · rw [z]; exact ⟨by omega, c1⟩
        · intro z
          by_cases ej : j = n
          · exact Or.inr ej
          · exact Or.inl ⟨by omega, z.2⟩
      · show zbit (va_up (x_ob (wg x m m n)) m (rw_add (x_ob (wg x m m n) m) n) w) j = true ↔ _
        rw [va_upo' _ _ (show w ≠ m by omega), i2 w j hw]
        refine or_congr Iff.rfl ⟨fun z => ⟨z.1, by omega, z.2.2⟩, fun z => ⟨z.1, ?_, z.2.2⟩⟩
        by_cases ew : w = n
        · rw [ew, c1] at z; exact absurd z.2.2.1 (by decide)
        · omega
    · rw [if_neg c1]
      have c1' : ws_takes x n m = false := by
        cases hq : ws_takes x n m with
        | true => exact absurd hq c1
        | false => rfl
      by_cases c2 : ws_takes x m n = true
      · rw [if_pos c2]
        refine ⟨fun j => ?_, fun w j hw => ?_⟩
        · show zbit (va_up (x_ob (wg x m m n)) n (rw_add (x_ob (wg x m m n) n) m) m) j = true ↔ _
          rw [va_upo' _ _ (show m ≠ n by omega), i1 j]
          refine ⟨fun z => ⟨by omega, z.2⟩, fun z => ⟨?_, z.2⟩⟩
          by_cases ej : j = n
          · rw [ej, c1'] at z; exact absurd z.2 (by decide)
          · omega
        · show zbit (va_up (x_ob (wg x m m n)) n (rw_add (x_ob (wg x m m n) n) m) w) j = true ↔ _
          by_cases ew : w = n
          · subst ew
            rw [va_ups', zbit_add, Bool.or_eq_true, i2 w j hw, decide_eq_true_iff]
            constructor
            · rintro ((z | z) | z)
              · exact Or.inl z
              · exact absurd z.2.1 (Nat.lt_irrefl _)
              · exact Or.inr ⟨z, by omega, c1', c2⟩
            · rintro (z | z)
              · exact Or.inl (Or.inl z)
              · exact Or.inr z.1
          · rw [va_upo' _ _ ew, i2 w j hw]
            exact or_congr Iff.rfl ⟨fun z => ⟨z.1, by omega, z.2.2⟩, fun z => ⟨z.1, by omega, z.2.2⟩⟩
      · rw [if_neg c2]
        refine ⟨fun j => ?_, fun w j hw => ?_⟩
        · rw [i1 j]
          refine ⟨fun z => ⟨by omega, z.2⟩, fun z => ⟨?_, z.2⟩⟩
          by_cases ej : j = n
          · rw [ej, c1'] at z; exact absurd z.2 (by decide)
          · omega
        · rw [i2 w j hw]
          refine or_congr Iff.rfl ⟨fun z => ⟨z.1, by omega, z.2.2⟩, fun z => ⟨z.1, ?_, z.2.2⟩⟩
          by_cases ew : w = n
          · rw [ew] at z; exact absurd z.2.2.2 c2
          · omega
theorem wsh_r {x : zSt} {a : zAb} (hI : Iq x) (hR : Rx x a) {r : Nat} : Rx (wsh_x x r) (a_wsh a r (fun _ _ => 0)) := by
  obtain ⟨hg, hl, hs, hm⟩ := hR
  have eo : x_ow x = a_nw a := hI.2.2.1.trans hg.sc.2.2.1
  have en : x_ng x = a_nw a + 1 := by rw [hI.2.2.2.2.2, hg.sc.2.2.1]
  have enw : x_nw x = a_nw a := hg.sc.2.2.1
  obtain ⟨y0, hy0⟩ : ∃ y0, y0 = u_rg (nw_ft (nw_ws x r)) (x_ng x) := ⟨_, rfl⟩
  have f1 : x_fk y0 = va_up (x_fk x) (a_nw a + 1) (fun _ => 0) := by rw [hy0, ← en]; rfl
  have f2 : x_fz y0 = va_up (x_fz x) (a_nw a + 1) (fun _ => 0) := by rw [hy0, ← en]; rfl
  have f3 : x_fg y0 = va_up (x_fg x) (a_nw a + 1) (fun _ _ => 0) := by rw [hy0, ← en]; rfl
  have f4 : x_ob y0 = va_up (x_ob x) (a_nw a) (fun _ => 0) := by rw [hy0, ← eo]; rfl
  have f5 : x_wr y0 = va_up (x_wr x) (a_nw a) r := by rw [hy0, ← eo]; rfl
  have f6 : x_wa y0 = va_up (x_wa x) (a_nw a) true := by rw [hy0, ← eo]; rfl
  have hts : ∀ w f, w ≤ a_nw a + 1 → f < 4 → x_fk y0 w f = a_fk (a_wsh a r (fun _ _ => 0)) w f ∧ x_fz y0 w f = a_fz (a_wsh a r (fun _ _ => 0)) w f ∧ x_fg y0 w f = a_fg (a_wsh a r (fun _ _ => 0)) w f := fun w f hw hf => by
    show _ = va_up (a_fk a) (a_nw a + 1) (fun _ => 0) w f ∧ _ = va_up (a_fz a) (a_nw a + 1) (fun _ => 0) w f ∧ _ = va_up (a_fg a) (a_nw a + 1) (fun _ _ => 0) w f
    rw [f1, f2, f3]
    by_cases e : w = a_nw a + 1
    · rw [e, va_ups', va_ups', va_ups', va_ups', va_ups', va_ups']; exact ⟨rfl, rfl, rfl⟩
    · rw [va_upo' _ _ e, va_upo' _ _ e, va_upo' _ _ e, va_upo' _ _ e, va_upo' _ _ e, va_upo' _ _ e]; exact hg.ts w f (by omega) hf
  -- class and common state agree on what covers what
  have htk : ∀ i j, i ≤ a_nw a → j ≤ a_nw a → ws_takes y0 i j = a_tk (a_wsh a r (fun _ _ => 0)) i j := fun i j hi hj => by
    unfold ws_takes ws_never ws_wide a_tk
    refine congrArg zd (propext ?_)
    rw [zd_i]
    have e1 : (∃ f, f < 4 ∧ ft_none (x_fk y0 j f) (x_fg y0 j f) = true) ↔ ∃ f, f < 4 ∧ ft_none (a_fk (a_wsh a r (fun _ _ => 0)) j f) (a_fg (a_wsh a r (fun _ _ => 0)) j f) = true := by
      constructor
      · rintro ⟨f, hf, h⟩
        have := hts j f (by omega) hf
        rw [this.1, this.2.2] at h; exact ⟨f, hf, h⟩
      · rintro ⟨f, hf, h⟩
        have := hts j f (by omega) hf
        rw [← this.1, ← this.2.2] at h; exact ⟨f, hf, h⟩
    rw [e1]
    refine or_congr Iff.rfl ⟨fun h f hf => ?_, fun h f hf => ?_⟩
    · have t1 := hts i f (by omega) hf
      have t2 := hts j f (by omega) hf
      have := h f hf
      rw [t1.1, t1.2.1, t1.2.2, t2.1, t2.2.1, t2.2.2] at this; exact this
    · have t1 := hts i f (by omega) hf
      have t2 := hts j f (by omega) hf
      rw [t1.1, t1.2.1, t1.2.2, t2.1, t2.2.1, t2.2.2]; exact h f hf
  have hb := wg_bits y0 (a_nw a) (fun j => by
    rw [f4, va_ups']
    show ((0 : Int64).toBitVec).getLsbD (j % 64) = false
    exact BitVec.getLsbD_zero) (a_nw a) (Nat.le_refl _)
  obtain ⟨f, ef⟩ := wgk' y0 (a_nw a) (a_nw a) (a_nw a)
  rw [ef] at hb
  have hb1 : ∀ j, zbit (f (a_nw a)) j = true ↔ j < a_nw a ∧ ws_takes y0 j (a_nw a) = true := hb.1
  have hb2 : ∀ w j, w < a_nw a → (zbit (f w) j = true ↔ zbit (x_ob y0 w) j = true ∨ (j = a_nw a ∧ w < a_nw a ∧ ws_takes y0 w (a_nw a) = false ∧ ws_takes y0 (a_nw a) w = true)) := hb.2
  obtain ⟨A, B, C, el⟩ := ls_k (u_ob y0 f) 1
  have ex : wsh_x x r = u_nw (u_gb (u_cp (u_lc (u_ob y0 f) A) B) C) (x_nw x + 1) := by
    unfold wsh_x wsh_1
    rw [← hy0, enw, ef, el]
  rw [ex]
  have eout : ∀ w j, w < a_nw a → j < a_nw a → (a_out (a_wsh a r (fun _ _ => 0)) w j ↔ a_out a w j) := fun w j hw hj => out_cg hw ⟨fun _ => hj, fun _ => Nat.lt_succ_of_lt hj⟩ (fun i hi f => wsh_o a r (fun _ _ => 0) (Nat.le_of_lt hi) f)
  have d0 : x_dk y0 = x_dk x ∧ x_nr y0 = x_nr x ∧ x_nn y0 = x_nn x ∧ x_po y0 = x_po x ∧ x_ne y0 = x_ne x ∧ x_td y0 = x_td x := by rw [hy0]; exact ⟨rfl, rfl, rfl, rfl, rfl, rfl⟩
  have d1 : x_rd y0 = x_rd x ∧ x_rz y0 = x_rz x ∧ x_rh y0 = x_rh x ∧ x_nf y0 = x_nf x ∧ x_nd y0 = x_nd x ∧ x_nv y0 = x_nv x ∧ x_nh y0 = x_nh x ∧ x_nb y0 = x_nb x ∧ x_lk y0 = x_lk x ∧ x_nm y0 = x_nm x := by rw [hy0]; exact ⟨rfl, rfl, rfl, rfl, rfl, rfl, rfl, rfl, rfl, rfl⟩
  have hl0 : Rl y0 a := by rw [hy0]; exact hl
  have hs0 : Rs y0 := by rw [hy0]; exact hs
  refine ⟨⟨⟨d0.1.trans hg.sc.1, d0.2.1.trans hg.sc.2.1, ?_, d0.2.2.1.trans hg.sc.2.2.2.1, d0.2.2.2.1.trans hg.sc.2.2.2.2.1, d0.2.2.2.2.1.trans hg.sc.2.2.2.2.2.1, d0.2.2.2.2.2.trans hg.sc.2.2.2.2.2.2⟩, fun q hq => ?_, fun w hw => ?_, fun w q hw hq => hts w q hw hq, fun k hk => ?_, fun p i hp hi => ?_, ?_⟩, hl0, hs0, fun k hk => ?_⟩
  · show x_nw x + 1 = a_nw a + 1
    rw [enw]
  · show x_rd y0 q = nI (a_rd a q) ∧ x_rz y0 q = a_rz a q ∧ ∀ i, i < a_rz a q → x_rh y0 q i = a_rh a q i
    rw [d1.1, d1.2.1, d1.2.2.1]; exact hg.rd q hq
  · have hw2 : w < a_nw a + 1 := hw
    show x_wr y0 w = va_up (a_wr a) (a_nw a) r w ∧ x_wa y0 w = va_up (a_wa a) (a_nw a) true w ∧ ∀ j, j < 320 → zbit (f w) j = zd (a_out (a_wsh a r (fun _ _ => 0)) w j)
    rw [f5, f6]
    by_cases e : w = a_nw a
    · subst e
      rw [va_ups', va_ups', va_ups', va_ups']
      refine ⟨rfl, rfl, fun j hj => b_iff ?_⟩
      rw [hb1 j, zd_i]
      constructor
      · rintro ⟨z1, z2⟩
        rw [htk j (a_nw a) (by omega) (Nat.le_refl _)] at z2
        exact ⟨Nat.lt_succ_of_lt z1, by omega, z2, fun z => by omega⟩
      · rintro ⟨z1, z2, z3, _⟩
        have z1' : j < a_nw a + 1 := z1
        refine ⟨by omega, ?_⟩
        rw [htk j (a_nw a) (by omega) (Nat.le_refl _)]; exact z3
    · rw [va_upo' _ _ e, va_upo' _ _ e, va_upo' _ _ e, va_upo' _ _ e]
      have hw3 : w < a_nw a := by omega
      refine ⟨(hg.ws w hw3).1, (hg.ws w hw3).2.1, fun j hj => b_iff ?_⟩
      rw [hb2 w j hw3, f4, va_upo' _ _ e, (hg.ws w hw3).2.2 j hj, zd_i, zd_i]
      constructor
      · rintro (z | ⟨z1, z2, z3, z4⟩)
        · exact (eout w j hw3 z.1).mpr z
        · rw [htk w (a_nw a) (by omega) (Nat.le_refl _)] at z3
          rw [htk (a_nw a) w (Nat.le_refl _) (by omega)] at z4
          rw [z1]
          exact ⟨Nat.lt_succ_self _, by omega, z4, fun z => by rw [z3] at z; cases z.1⟩
      · intro z
        by_cases ej : j = a_nw a
        · right
          subst ej
          refine ⟨rfl, hw3, ?_, ?_⟩
          · rw [htk w (a_nw a) (by omega) (Nat.le_refl _)]
            cases hq : a_tk (a_wsh a r (fun _ _ => 0)) w (a_nw a) with
            | false => rfl
            | true => exact absurd ⟨hq, hw3⟩ z.2.2.2
          · rw [htk (a_nw a) w (Nat.le_refl _) (by omega)]; exact z.2.2.1
        · left
          have z1 : j < a_nw a + 1 := z.1
          exact (eout w j hw3 (by omega)).mp z
  · show x_nf y0 k = a_nf a k ∧ x_nd y0 k = a_nd a k ∧ (∀ d, d < 12 → inm (x_nv y0 k) (nI d) = a_sn a k d) ∧ ∀ r, r < 24 → inm (x_nh y0 k) (nI r) = a_hb a k r
    rw [d1.2.2.2.1, d1.2.2.2.2.1, d1.2.2.2.2.2.1, d1.2.2.2.2.2.2.1]; exact hg.nt k hk
  · show bt (x_nb y0 p) i = a_lk a p i
    rw [d1.2.2.2.2.2.2.2.1]; exact hg.nb p i hp hi
  · show x_lk y0 = nI (lc a)
    rw [d1.2.2.2.2.2.2.2.2.1]; exact hg.lk
  · show x_nm y0 k = nI (cn a k)
    rw [d1.2.2.2.2.2.2.2.2.2]; exact hm k hk
