/-! a call of the class and the same call of the reference -/
abbrev zT2 : Type := List zAV → zMp → (Option zAV → zMp → Prop) → Nat → Nat → Prop
def zL1 (T : List zAV → zMp → (Option zAV → zMp → Prop) → Prop) (co : List zAV → zMp → Nat × Nat) : zT2 := fun As M Rt c1 c2 => (co As M).1 = c1 ∧ (co As M).2 = c2 ∧ T As M Rt
/-- what always holds between calls -/
def Bth (x : zSt) (y : zMS) (a : zAb) : Prop := Rx x a ∧ Ry y a ∧ AI a ∧ Iq x
theorem Bth_b {x : zSt} {y : zMS} {a : zAb} (h : Bth x y a) : rws x ≤ 17424 ∧ y_cp y ≤ 16384 := by
  refine ⟨rws_le h.1.2.2.1.2.2.2.2.2, ?_⟩
  obtain ⟨e, he, hc⟩ := h.2.1.2.2.1
  have := Nat.pow_le_pow_right (n := 2) (by decide) he
  rw [hc]
  omega
def zPX (TX TY : zT2) (vs : List zAV) (x : zSt) (y : zMS) : Prop := ∃ (r : Int32) (x' : zSt) (c1 c2 d1 d2 : Nat), (c1 + 2 * rws x ≤ 20 + 2 * rws x' ∧ c2 + 6 * rws x ≤ 2100 + 6 * rws x' ∧ rws x' ≤ 17424 ∧ d1 ≤ 16384 ∧ d2 ≤ 262144) ∧ (∀ Rt : Option zAV → zMp → Prop, Rt (some (.inl (.int r))) (pic x') → TX (.inr (0, 0, 0) :: vs) (pic x) Rt c1 c2) ∧ (∀ Rt : Option zAV → zMp → Prop, (∀ y' a', Bth x' y' a' → d1 + y_cp y ≤ y_cp y' → d2 + 16 * y_cp y ≤ 16 * y_cp y' → Rt (some (.inl (.int r))) (mp y')) → TY (.inr (30, 0, 0) :: vs) (mp y) Rt d1 d2)
def zPR (TX TY : zT2) (vs : List zAV) : Prop := ∀ x y a, Bth x y a → zPX TX TY vs x y
/-- nothing changes -/
theorem px_k {TX TY : zT2} {vs : List zAV} {x : zSt} {y : zMS} {a : zAb} (h : Bth x y a) (r : Int32) (c1 c2 : Nat) (h1 : c1 ≤ 20) (h2 : c2 ≤ 2100) (hx : ∀ Rt : Option zAV → zMp → Prop, Rt (some (.inl (.int r))) (pic x) → TX (.inr (0, 0, 0) :: vs) (pic x) Rt c1 c2) (hy : ∀ Rt : Option zAV → zMp → Prop, Rt (some (.inl (.int r))) (mp y) → TY (.inr (30, 0, 0) :: vs) (mp y) Rt 0 0) : zPX TX TY vs x y :=
  ⟨r, x, c1, c2, 0, 0, ⟨by omega, by omega, (Bth_b h).1, by omega, by omega⟩, hx, fun Rt hR => hy Rt (hR y a h (by omega) (by omega))⟩
/-- both go on to a new state -/
theorem px_n {TX TY : zT2} {vs : List zAV} {x x' : zSt} {y y' : zMS} {a' : zAb} (h : Bth x' y' a') (r : Int32) (c1 c2 : Nat) (h1 : c1 + 2 * rws x ≤ 20 + 2 * rws x') (h2 : c2 + 6 * rws x ≤ 2100 + 6 * rws x') (hc : y_cp y ≤ y_cp y') (hx : ∀ Rt : Option zAV → zMp → Prop, Rt (some (.inl (.int r))) (pic x') → TX (.inr (0, 0, 0) :: vs) (pic x) Rt c1 c2) {d1 d2 : Nat} (e1 : d1 = y_cp y' - y_cp y) (e2 : d2 = 16 * (y_cp y' - y_cp y)) (hy : ∀ Rt : Option zAV → zMp → Prop, Rt (some (.inl (.int r))) (mp y') → TY (.inr (30, 0, 0) :: vs) (mp y) Rt d1 d2) : zPX TX TY vs x y :=
  ⟨r, x', c1, c2, d1, d2, ⟨h1, h2, (Bth_b h).1, by have := (Bth_b h).2; omega, by have := (Bth_b h).2; omega⟩, hx, fun Rt hR => hy Rt (hR y' a' h (by omega) (by omega))⟩
theorem isn_c {n : Nat} (hn : n < 2 ^ 31) (d : Int32) : isn n d = false ∨ ∃ k, k < n ∧ d = nI k ∧ isn n d = true := by
  cases h : isn n d with
  | false => exact Or.inl rfl
  | true =>
    obtain ⟨k, h1, h2⟩ := isn_t hn h
    exact Or.inr ⟨k, h1, h2, rfl⟩
theorem bn_f {b : Bool} (h : b = false) : ¬ b = true := by rw [h]; decide
theorem nI_ij {a b n : Nat} (hn : n ≤ 600) (ha : a < n) (hb : b < n) (h : nI a = nI b) : a = b := (nI_eq (by omega) (by omega)).mp h
theorem p_covers (a b : Int32) : zPR (zL1 T_WR_covers co_WR_covers) (zL1 T_Mo_covers co_Mo_covers) [.inl (.int a), .inl (.int b)] := fun x y A h => by
  obtain ⟨hX, hY, hA, hQ⟩ := id h
  have sx := hX.1.sc
  have sy := hY.1.sc
  have lm := hA.1.lim
  have ex : x_nw x = a_nw A := sx.2.2.1
  have ey : y_nw y = a_nw A := sy.2.2.1
  rcases isn_c (n := a_nw A) (by omega) a with h1 | ⟨i, hi, ei, h1⟩
  · refine px_k h (-1) 0 0 (by omega) (by omega) (fun Rt hR => ⟨rfl, rfl, x, a, b, rfl, rfl, hQ.1, fun _ => hR, fun i j hi _ e _ => ?_⟩) (fun Rt hR => ⟨rfl, rfl, y, a, b, rfl, rfl, hY.2.2.2, fun _ => hR, fun i j hi _ e _ => ?_⟩)
    · rw [e, isn_n (by omega) (by omega)] at h1; exact absurd h1 (by decide)
    · rw [e, isn_n (by omega) (by omega)] at h1; exact absurd h1 (by decide)
  · rcases isn_c (n := a_nw A) (by omega) b with h2 | ⟨j, hj, ej, h2⟩
    · refine px_k h (-1) 0 0 (by omega) (by omega) (fun Rt hR => ⟨rfl, rfl, x, a, b, rfl, rfl, hQ.1, fun _ => hR, fun i j _ hj _ e => ?_⟩) (fun Rt hR => ⟨rfl, rfl, y, a, b, rfl, rfl, hY.2.2.2, fun _ => hR, fun i j _ hj _ e => ?_⟩)
      · rw [e, isn_n (by omega) (by omega)] at h2; exact absurd h2 (by decide)
      · rw [e, isn_n (by omega) (by omega)] at h2; exact absurd h2 (by decide)
    · refine px_k h (zb (a_tk A i j)) 0 0 (by omega) (by omega) (fun Rt hR => ⟨rfl, rfl, x, a, b, rfl, rfl, hQ.1, fun z => ?_, fun i' j' hi' hj' e e' => ?_⟩) (fun Rt hR => ⟨rfl, rfl, y, a, b, rfl, rfl, hY.2.2.2, fun z => ?_, fun i' j' hi' hj' e e' => ?_⟩)
      · rw [ex] at z; rw [h1, h2] at z; rcases z with z | z <;> exact absurd z (by decide)
      · have q1 : i' = i := nI_ij (n := a_nw A) (by omega) (by omega) hi (e.symm.trans ei)
        have q2 : j' = j := nI_ij (n := a_nw A) (by omega) (by omega) hj (e'.symm.trans ej)
        subst q1 q2
        rw [takes_r hX.1 (by omega) (by omega)]; exact hR
      · rw [ey] at z; exact absurd ⟨h1, h2⟩ z
      · have q1 : i' = i := nI_ij (n := a_nw A) (by omega) (by omega) hi (e.symm.trans ei)
        have q2 : j' = j := nI_ij (n := a_nw A) (by omega) (by omega) hj (e'.symm.trans ej)
        subst q1 q2
        rw [(hY.1.ws i' hi).2.2 j' hj]; exact hR
theorem p_fits (k p q s t : Int32) : zPR (zL1 T_WR_fits co_WR_fits) (zL1 T_Mo_fits co_Mo_fits) [.inl (.int k), .inl (.int p), .inl (.int q), .inl (.int s), .inl (.int t)] := fun x y A h => by
  obtain ⟨hX, hY, hA, hQ⟩ := id h
  have sx := hX.1.sc
  have sy := hY.1.sc
  have lm := hA.1.lim
  have ex : x_nw x = a_nw A := sx.2.2.1
  have ey : y_nw y = a_nw A := sy.2.2.1
  rcases isn_c (n := a_nw A) (by omega) k with h1 | ⟨i, hi, ei, h1⟩
  · refine px_k h (-1) 1 4 (by omega) (by omega) (fun Rt hR => ⟨rfl, rfl, x, k, p, q, s, t, rfl, rfl, hQ.1, fun _ => hR, fun i hi e => ?_⟩) (fun Rt hR => ⟨rfl, rfl, y, k, p, q, s, t, rfl, rfl, hY.2.2.2, fun _ => hR, fun i hi e => ?_⟩)
    · rw [e, isn_n (by omega) (by omega)] at h1; exact absurd h1 (by decide)
    · rw [e, isn_n (by omega) (by omega)] at h1; exact absurd h1 (by decide)
  · have hb : Bth (ft_x x (zf4 p q s t)) y A := ⟨hX, hY, hA, hQ⟩
    refine px_n (x' := ft_x x (zf4 p q s t)) hb (zb (a_met A i (zf4 p q s t))) 1 4 (Nat.add_le_add (by omega) (Nat.le_refl _)) (Nat.add_le_add (by omega) (Nat.le_refl _)) (Nat.le_refl _) (fun Rt hR => ⟨rfl, rfl, x, k, p, q, s, t, rfl, rfl, hQ.1, fun z => ?_, fun i' hi' e => ?_⟩) (d1 := 0) (d2 := 0) (Nat.sub_self _).symm (by rw [Nat.sub_self]) (fun Rt hR => ⟨rfl, rfl, y, k, p, q, s, t, rfl, rfl, hY.2.2.2, fun z => ?_, fun i' hi' e => ?_⟩)
    · rw [ex, h1] at z; exact absurd z (by decide)
    · have q1 : i' = i := nI_ij (n := a_nw A) (by omega) (by omega) hi (e.symm.trans ei)
      subst q1
      rw [met_r hX.1 (by omega)]; exact hR
    · rw [ey, h1] at z; exact absurd z (by decide)
    · have q1 : i' = i := nI_ij (n := a_nw A) (by omega) (by omega) hi (e.symm.trans ei)
      subst q1
      rw [fit_y hY.1 hA.1.ts hi (fun _ _ => rfl)]; exact hR
/-- both roads and rows -/
theorem dk_c {A : zAb} (lm : a_dk A ≤ 12) (u v : Int32) : (¬ (isn (a_dk A) u = true ∧ isn (a_dk A) v = true)) ∨ ∃ p q, p < a_dk A ∧ q < a_dk A ∧ u = nI p ∧ v = nI q ∧ isn (a_dk A) u = true ∧ isn (a_dk A) v = true := by
  rcases isn_c (n := a_dk A) (by omega) u with h1 | ⟨p, hp, ep, h1⟩
  · exact Or.inl (fun z => by rw [h1] at z; exact absurd z.1 (by decide))
  · rcases isn_c (n := a_dk A) (by omega) v with h2 | ⟨q, hq, eq, h2⟩
    · exact Or.inl (fun z => by rw [h2] at z; exact absurd z.2 (by decide))
    · exact Or.inr ⟨p, q, hp, hq, ep, eq, h1, h2⟩
theorem lnF_0 {x : zSt} {u v : Int32} (h : ¬ (isn (x_dk x) u = true ∧ isn (x_dk x) v = true)) : lnF x u v = none := if_neg h
theorem i_s0 (i : Int32) : i - 0 = i := by
  apply Int32.toBitVec_inj.mp
  rw [Int32.toBitVec_sub]
  exact BitVec.sub_zero _
theorem p_table (u v i : Int32) : zPR (zL1 T_WR_table co_WR_table) (zL1 T_Mo_table co_Mo_table) [.inl (.int u), .inl (.int v), .inl (.int i)] := fun x y A h => by
  obtain ⟨hX, hY, hA, hQ⟩ := id h
  have lm := hA.1.lim
  have ex : x_dk x = a_dk A := hX.1.sc.1
  have ey : y_dk y = a_dk A := hY.1.sc.1
  have ew : y_nw y = a_nw A := hY.1.sc.2.2.1
  rcases dk_c lm.1 u v with hn | ⟨p, q, hp, hq, ep, eq, h1, h2⟩
  · refine px_k h (-1) 0 0 (by omega) (by omega) (fun Rt hR => ⟨rfl, rfl, x, u, v, i, rfl, rfl, hQ.1, fun _ => hR, fun l hl => ?_⟩) (fun Rt hR => ⟨rfl, rfl, y, u, v, i, rfl, rfl, hY.2.2.2, fun _ => hR, fun a b ha hb e1 e2 => ?_⟩)
    · rw [lnF_0 (fun z => hn (by rw [← ex]; exact ⟨z.2, z.1⟩))] at hl; cases hl
    · exact absurd ⟨by rw [e1]; exact isn_n (by omega) (by omega), by rw [e2]; exact isn_n (by omega) (by omega)⟩ hn
  · subst ep eq
    have hL := lnF_r hX.1 hX.2.1 hA.1 hq hp
    have hyl := (hY.2.1 p q (by omega) (by omega)).2.2.2
    have yp : ∀ {a b : Nat}, a < y_dk y → b < y_dk y → nI p = nI a → nI q = nI b → a = p ∧ b = q := fun {a b} ha hb e1 e2 => ⟨nI_ij (n := a_dk A) (by omega) (by omega) hp e1.symm, nI_ij (n := a_dk A) (by omega) (by omega) hq e2.symm⟩
    by_cases hi : i < 0
    · refine px_k h (-1) 0 0 (by omega) (by omega) (fun Rt hR => ⟨rfl, rfl, x, nI p, nI q, i, rfl, rfl, hQ.1, fun _ => hR, fun l hl => ?_⟩) (fun Rt hR => ⟨rfl, rfl, y, nI p, nI q, i, rfl, rfl, hY.2.2.2, fun _ => hR, fun a b ha hb e1 e2 hi' => absurd hi hi'⟩)
      rw [show (0 : Int32) = nI 0 from rfl, nth_neg hi 300 0 0 (by omega) (by omega)]; exact hR
    · rcases hL with ⟨hl, hf⟩ | ⟨hl, l, hf, _, hr⟩
      · have h0 : a_lk A p q = false := by
          cases hz : a_lk A p q with
          | false => rfl
          | true => rw [(hA.1.lk p q hz).1] at hl; exact absurd hl (by decide)
        refine px_k h (-1) 0 0 (by omega) (by omega) (fun Rt hR => ⟨rfl, rfl, x, nI p, nI q, i, rfl, rfl, hQ.1, fun _ => hR, fun l hl => ?_⟩) (fun Rt hR => ⟨rfl, rfl, y, nI p, nI q, i, rfl, rfl, hY.2.2.2, fun _ => hR, fun a b ha hb e1 e2 _ => ?_⟩)
        · rw [hf] at hl; cases hl
        · obtain ⟨rfl, rfl⟩ := yp ha hb e1 e2
          rw [nth_0 (fun k hk => by rw [← bto_i hk, hyl, (hA.1.un _ _ h0).2.2]) _ _ _ (by omega)]; exact hR
      · refine px_k h (nthY (sh (y_tb y) (5 * (12 * p + q))) (y_nw y) 0 i) 0 0 (by omega) (by omega) (fun Rt hR => ⟨rfl, rfl, x, nI p, nI q, i, rfl, rfl, hQ.1, fun hz => ?_, fun l' hl' => ?_⟩) (fun Rt hR => ⟨rfl, rfl, y, nI p, nI q, i, rfl, rfl, hY.2.2.2, fun hz => ?_, fun a b ha hb e1 e2 _ => ?_⟩)
        · rw [hf] at hz; cases hz
        · rw [hf] at hl'; cases hl'
          have hb2 : row_r (x_lb x l) (a_tb A p q) := hr.2.2.2
          rw [nth_e i (nw := y_nw y) (g := sh (y_tb y) (5 * (12 * p + q))) (fun k hk hk2 => ?_) (fun k hk => ?_) hi (y_nw y) 0 0 (by omega) (by omega) 300 (by omega), i_s0]
          · exact hR
          · rw [hb2 k hk2]
            cases hz : a_tb A p q k with
            | false => rfl
            | true => have := (hA.1.bit p q k).2 hz; omega
          · rw [hb2 k hk, ← hyl, bto_i hk]
        · exact absurd ⟨by rw [ey]; exact h1, by rw [ey]; exact h2, hi⟩ hz
        · obtain ⟨rfl, rfl⟩ := yp ha hb e1 e2
          exact hR
theorem p_told (u v i : Int32) : zPR (zL1 T_WR_told co_WR_told) (zL1 T_Mo_told co_Mo_told) [.inl (.int u), .inl (.int v), .inl (.int i)] := fun x y A h => by
  obtain ⟨hX, hY, hA, hQ⟩ := id h
  have lm := hA.1.lim
  have ex : x_dk x = a_dk A := hX.1.sc.1
  have ey : y_dk y = a_dk A := hY.1.sc.1
  have ew : y_nw y = a_nw A := hY.1.sc.2.2.1
  rcases dk_c lm.1 u v with hn | ⟨p, q, hp, hq, ep, eq, h1, h2⟩
  · refine px_k h (-1) 0 0 (by omega) (by omega) (fun Rt hR => ⟨rfl, rfl, x, u, v, i, rfl, rfl, hQ.1, fun _ => hR, fun l hl => ?_⟩) (fun Rt hR => ⟨rfl, rfl, y, u, v, i, rfl, rfl, hY.2.2.2, fun _ => hR, fun a b ha hb e1 e2 => ?_⟩)
    · rw [lnF_0 (fun z => hn (by rw [← ex]; exact z))] at hl; cases hl
    · exact absurd ⟨by rw [e1]; exact isn_n (by omega) (by omega), by rw [e2]; exact isn_n (by omega) (by omega)⟩ hn
  · subst ep eq
    have hL := lnF_r hX.1 hX.2.1 hA.1 hp hq
    have hyl := (hY.2.1 p q (by omega) (by omega)).2.2.1
    have yp : ∀ {a b : Nat}, a < y_dk y → b < y_dk y → nI p = nI a → nI q = nI b → a = p ∧ b = q := fun {a b} ha hb e1 e2 => ⟨nI_ij (n := a_dk A) (by omega) (by omega) hp e1.symm, nI_ij (n := a_dk A) (by omega) (by omega) hq e2.symm⟩
    by_cases hi : i < 0
    · refine px_k h (-1) 0 0 (by omega) (by omega) (fun Rt hR => ⟨rfl, rfl, x, nI p, nI q, i, rfl, rfl, hQ.1, fun _ => hR, fun l hl => ?_⟩) (fun Rt hR => ⟨rfl, rfl, y, nI p, nI q, i, rfl, rfl, hY.2.2.2, fun _ => hR, fun a b ha hb e1 e2 hi' => absurd hi hi'⟩)
      rw [show (0 : Int32) = nI 0 from rfl, nth_neg hi 300 0 0 (by omega) (by omega)]; exact hR
    · rcases hL with ⟨h0, hf⟩ | ⟨hl, l, hf, _, hr⟩
      · refine px_k h (-1) 0 0 (by omega) (by omega) (fun Rt hR => ⟨rfl, rfl, x, nI p, nI q, i, rfl, rfl, hQ.1, fun _ => hR, fun l hl => ?_⟩) (fun Rt hR => ⟨rfl, rfl, y, nI p, nI q, i, rfl, rfl, hY.2.2.2, fun _ => hR, fun a b ha hb e1 e2 _ => ?_⟩)
        · rw [hf] at hl; cases hl
        · obtain ⟨rfl, rfl⟩ := yp ha hb e1 e2
          rw [nth_0 (fun k hk => by rw [← bto_i hk, hyl, (hA.1.un _ _ h0).2.1]) _ _ _ (by omega)]; exact hR
      · refine px_k h (nthY (sh (y_to y) (5 * (12 * p + q))) (y_nw y) 0 i) 0 0 (by omega) (by omega) (fun Rt hR => ⟨rfl, rfl, x, nI p, nI q, i, rfl, rfl, hQ.1, fun hz => ?_, fun l' hl' => ?_⟩) (fun Rt hR => ⟨rfl, rfl, y, nI p, nI q, i, rfl, rfl, hY.2.2.2, fun hz => ?_, fun a b ha hb e1 e2 _ => ?_⟩)
        · rw [hf] at hz; cases hz
        · rw [hf] at hl'; cases hl'
          have hb2 : row_r (x_lt x l) (a_to A p q) := hr.2.2.1
          rw [nth_e i (nw := y_nw y) (g := sh (y_to y) (5 * (12 * p + q))) (fun k hk hk2 => ?_) (fun k hk => ?_) hi (y_nw y) 0 0 (by omega) (by omega) 300 (by omega), i_s0]
          · exact hR
          · rw [hb2 k hk2]
            cases hz : a_to A p q k with
            | false => rfl
            | true => have := (hA.1.bit p q k).1 hz; omega
          · rw [hb2 k hk, ← hyl, bto_i hk]
        · exact absurd ⟨by rw [ey]; exact h1, by rw [ey]; exact h2, hi⟩ hz
        · obtain ⟨rfl, rfl⟩ := yp ha hb e1 e2
          exact hR
