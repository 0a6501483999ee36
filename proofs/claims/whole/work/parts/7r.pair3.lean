/-! a call of the class and the same call of the reference: desks, readers, tests -/
theorem Iq_dk {x : zSt} (h : Iq x) (hd : x_dk x < 12) : Iq (u_dk x (x_dk x + 1)) :=
  Iq_of h ⟨hd, h.1.cnt, h.1.lim, h.1.cap, h.1.gb, fun i hi => ⟨(h.1.rdr i hi).1, (h.1.rdr i hi).2.elim (fun d hd => ⟨d, Nat.lt_succ_of_lt hd.1, hd.2⟩)⟩, h.1.wsh, h.1.rg, h.1.lan, h.1.ln, h.1.sp⟩ rfl
theorem p_desk : zPR (zL1 T_WR_desk co_WR_desk) (zL1 T_Mo_desk co_Mo_desk) [] := fun x y A h => by
  obtain ⟨hX, hY, hA, hQ⟩ := id h
  have lm := hA.1.lim
  have ex : x_dk x = a_dk A := hX.1.sc.1
  have ey : y_dk y = a_dk A := hY.1.sc.1
  by_cases hd : a_dk A < 12
  · refine px_n (x' := u_dk x (x_dk x + 1)) (y' := v_dk y (y_dk y + 1)) (a' := a_dsk A) ⟨dsk_r hX, dsk_y hY hd, AI_dsk hA hd, Iq_dk hQ (by omega)⟩ (nI (a_dk A)) 0 0 (Nat.add_le_add (by omega) (Nat.le_refl _)) (Nat.add_le_add (by omega) (Nat.le_refl _)) (Nat.le_refl _) (fun Rt hR => ⟨rfl, rfl, x, rfl, rfl, hQ.1, fun z => absurd z (by omega), fun _ => by rw [ex] at hR ⊢; exact hR⟩) (d1 := 0) (d2 := 0) (Nat.sub_self _).symm (by rw [show y_cp (v_dk y (y_dk y + 1)) = y_cp y from rfl, Nat.sub_self]) (fun Rt hR => ⟨rfl, rfl, y, rfl, rfl, hY.2.2.2, fun z => absurd z (by omega), fun _ => by rw [ey] at hR ⊢; exact hR⟩)
  · exact px_k h (-8) 0 0 (by omega) (by omega) (fun Rt hR => ⟨rfl, rfl, x, rfl, rfl, hQ.1, fun _ => hR, fun z => absurd z (by omega)⟩) (fun Rt hR => ⟨rfl, rfl, y, rfl, rfl, hY.2.2.2, fun _ => hR, fun z => absurd z (by omega)⟩)
theorem p_reader (d : Int32) : zPR (zL1 T_WR_reader co_WR_reader) (zL1 T_Mo_reader co_Mo_reader) [.inl (.int d)] := fun x y A h => by
  obtain ⟨hX, hY, hA, hQ⟩ := id h
  have lm := hA.1.lim
  have ex : x_dk x = a_dk A := hX.1.sc.1
  have ey : y_dk y = a_dk A := hY.1.sc.1
  have ex2 : x_nr x = a_nr A := hX.1.sc.2.1
  have ey2 : y_nr y = a_nr A := hY.1.sc.2.1
  rcases isn_c (n := a_dk A) (by omega) d with h1 | ⟨k, hk, rfl, h1⟩
  · have h1' := bn_f h1
    exact px_k h (-2) 3 1603 (by omega) (by omega) (fun Rt hR => ⟨rfl, rfl, x, d, rfl, rfl, hQ, fun _ => hR, fun z => absurd (ex ▸ z) h1', fun z => absurd (ex ▸ z) h1'⟩) (fun Rt hR => ⟨rfl, rfl, y, d, rfl, rfl, hY.2.2.2, fun _ => hR, fun z => absurd (ey ▸ z) h1', fun z => absurd (ey ▸ z) h1'⟩)
  · by_cases hr : a_nr A < 24
    · refine px_n (x' := rdr_x x (nI k)) (y' := v_nr (v_do y (upd (y_do y) (y_nr y) (nI k))) (y_nr y + 1)) (a' := a_rdr A k) ⟨rdr_r hQ hX, rdr_y hY hk hr, AI_rdr hA hk hr, Iq_rdr hQ (by omega) (by omega)⟩ (nI (a_nr A)) 3 1603 (Nat.add_le_add (by omega) (Nat.le_of_eq (congrArg (2 * ·) (rws_eq rfl rfl)))) (Nat.add_le_add (by omega) (Nat.le_of_eq (congrArg (6 * ·) (rws_eq rfl rfl)))) (Nat.le_refl _) (fun Rt hR => ⟨rfl, rfl, x, nI k, rfl, rfl, hQ, fun z => ?_, fun _ z => absurd z (by omega), fun _ _ => by rw [ex2]; exact hR⟩) (d1 := 0) (d2 := 0) (Nat.sub_self _).symm (by rw [show y_cp (v_nr (v_do y (upd (y_do y) (y_nr y) (nI k))) (y_nr y + 1)) = y_cp y from rfl, Nat.sub_self]) (fun Rt hR => ⟨rfl, rfl, y, nI k, rfl, rfl, hY.2.2.2, fun z => ?_, fun _ z => absurd z (by omega), fun _ _ => by rw [ey2] at hR ⊢; exact hR⟩)
      · rw [ex, h1] at z; exact absurd z (by decide)
      · rw [ey, h1] at z; exact absurd z (by decide)
    · refine px_k h (-8) 3 1603 (by omega) (by omega) (fun Rt hR => ⟨rfl, rfl, x, nI k, rfl, rfl, hQ, fun z => ?_, fun _ _ => hR, fun _ z => absurd z (by omega)⟩) (fun Rt hR => ⟨rfl, rfl, y, nI k, rfl, rfl, hY.2.2.2, fun z => ?_, fun _ _ => hR, fun _ z => absurd z (by omega)⟩)
      · rw [ex, h1] at z; exact absurd z (by decide)
      · rw [ey, h1] at z; exact absurd z (by decide)
theorem ts_kd {f kd p q : Int32} (h : ts_ok f kd p q = true) : (∃ i, i < 4 ∧ f = nI i) ∧ (kd = 0 ∨ kd = 1 ∨ kd = 2) ∧ (kd = 0 ∨ p ≤ q) := by
  obtain ⟨h1, h2, h3, h4⟩ := zd_i.mp h
  refine ⟨isn_t (by decide) h1, ?_, h4⟩
  have h5 : kd < nI 3 := Int32.lt_of_le_of_lt h3 (by decide)
  obtain ⟨k, hk, rfl⟩ := isn_t (n := 3) (by decide) (zd_t ⟨h2, h5⟩)
  match k, hk with
  | 0, _ => exact Or.inl rfl
  | 1, _ => exact Or.inr (Or.inl rfl)
  | 2, _ => exact Or.inr (Or.inr rfl)
theorem p_test (f kd p q : Int32) : zPR (zL1 T_WR_test co_WR_test) (zL1 T_Mo_test co_Mo_test) [.inl (.int f), .inl (.int kd), .inl (.int p), .inl (.int q)] := fun x y A h => by
  obtain ⟨hX, hY, hA, hQ⟩ := id h
  cases ht : ts_ok f kd p q with
  | false => exact px_k h 0 0 0 (by omega) (by omega) (fun Rt hR => ⟨rfl, rfl, x, f, kd, p, q, rfl, rfl, hQ.1, fun _ => hR, fun i hi e z => absurd z (bn_f ht)⟩) (fun Rt hR => ⟨rfl, rfl, y, f, kd, p, q, rfl, rfl, fun _ => hR, fun i hi e z => absurd z (bn_f ht)⟩)
  | true =>
    obtain ⟨⟨i, hi, rfl⟩, hk, hle⟩ := ts_kd ht
    have hts : tsok kd (if kd = 0 then 0 else 2) (upd (upd (x_fg x (x_rg x) i) 0 p) 1 q) := by
      by_cases h0 : kd = 0
      · rw [if_pos h0]; exact Or.inl ⟨h0, rfl⟩
      · rw [if_neg h0]
        refine Or.inr (Or.inl ⟨hk.resolve_left h0, rfl, ?_⟩)
        have e0 : upd (upd (x_fg x (x_rg x) i) 0 p) 1 q 0 = p := by rw [upd_o' _ _ (by decide), upd_s']
        have e1 : upd (upd (x_fg x (x_rg x) i) 0 p) 1 q 1 = q := by rw [upd_s']
        rw [e0, e1]
        exact hle.resolve_left h0
    refine px_n (x' := ts x i kd p q) (y' := ts_y y i kd p q) (a' := a_tst A i kd (if kd = 0 then 0 else 2) (upd (upd (x_fg x (x_rg x) i) 0 p) 1 q)) ⟨tst_r hQ hX rfl, test_y hY hA.1 hi hk _, AI_tst hA hts, Iq_of hQ (Iv_ts hQ.1) rfl⟩ 1 0 0 (Nat.add_le_add (by omega) (Nat.le_of_eq (congrArg (2 * ·) (rws_eq rfl rfl)))) (Nat.add_le_add (by omega) (Nat.le_of_eq (congrArg (6 * ·) (rws_eq rfl rfl)))) (Nat.le_refl _) (fun Rt hR => ⟨rfl, rfl, x, nI i, kd, p, q, rfl, rfl, hQ.1, fun z => absurd ht (bn_f z), fun i' hi' e _ => ?_⟩) (d1 := 0) (d2 := 0) (Nat.sub_self _).symm (by rw [show y_cp (ts_y y i kd p q) = y_cp y from rfl, Nat.sub_self]) (fun Rt hR => ⟨rfl, rfl, y, nI i, kd, p, q, rfl, rfl, fun z => absurd ht (bn_f z), fun i' hi' e _ => ?_⟩)
    · have q1 : i' = i := nI_ij (n := 4) (by omega) hi' hi e.symm
      subst q1; exact hR
    · have q1 : i' = i := nI_ij (n := 4) (by omega) hi' hi e.symm
      subst q1; exact hR
theorem has_f {n : Nat} {g : Nat → Int32} {v : Int32} (h : ft_has n g v = false) : ∀ i, i < n → g i ≠ v := fun i hi e => by
  have := zd_n.mp h
  exact this ⟨i, hi, e⟩
theorem p_among (f v : Int32) : zPR (zL1 T_WR_among co_WR_among) (zL1 T_Mo_among co_Mo_among) [.inl (.int f), .inl (.int v)] := fun x y A h => by
  obtain ⟨hX, hY, hA, hQ⟩ := id h
  have lm := hA.1.lim
  have eg : x_rg x = a_nw A := hQ.2.2.2.2.1.trans hX.1.sc.2.2.1
  rcases isn_c (n := 4) (by omega) f with h1 | ⟨i, hi, rfl, h1⟩
  · refine px_k h 0 0 0 (by omega) (by omega) (fun Rt hR => ⟨rfl, rfl, x, f, v, rfl, rfl, hQ.1, fun _ => hR, fun i hi e => ?_, fun i hi e => ?_⟩) (fun Rt hR => ⟨rfl, rfl, y, f, v, rfl, rfl, hY.2.2.2, fun _ => hR, fun i hi e => ?_, fun i hi e => ?_⟩)
    all_goals (rw [e, isn_n (by decide) hi] at h1; exact absurd h1 (by decide))
  · have tx := hX.1.ts (a_nw A) i (Nat.le_refl _) hi
    have ex : am_ok x i v = ft_can (a_fk A (a_nw A) i) (a_fz A (a_nw A) i) (a_fg A (a_nw A) i) v := by unfold am_ok; rw [eg, tx.1, tx.2.1, tx.2.2]
    have ey := (can_y hY.1 hi v).1
    have hin : ∀ {i' : Nat}, i' < 4 → nI i = nI i' → i' = i := fun {i'} hi' e => nI_ij (n := 4) (by omega) hi' hi e.symm
    cases hc : ft_can (a_fk A (a_nw A) i) (a_fz A (a_nw A) i) (a_fg A (a_nw A) i) v with
    | false =>
      refine px_k h 0 0 0 (by omega) (by omega) (fun Rt hR => ⟨rfl, rfl, x, nI i, v, rfl, rfl, hQ.1, fun z => absurd h1 (bn_f z), fun _ _ _ _ => hR, fun i' hi' e z => ?_⟩) (fun Rt hR => ⟨rfl, rfl, y, nI i, v, rfl, rfl, hY.2.2.2, fun z => absurd h1 (bn_f z), fun _ _ _ _ => hR, fun i' hi' e z => ?_⟩)
      · obtain rfl := hin hi' e
        rw [ex, hc] at z; exact absurd z (by decide)
      · obtain rfl := hin hi' e
        rw [ey, hc] at z; exact absurd z (by decide)
    | true =>
      have hto := hA.1.ts (a_nw A) i (Nat.le_refl _) hi
      have hcc := zd_i.mp hc
      have hn4 : (if a_fk A (a_nw A) i = 3 then a_fz A (a_nw A) i else 0) < 4 := by
        by_cases h3 : a_fk A (a_nw A) i = 3
        · rw [if_pos h3]; exact (hcc.resolve_left (fun z => z h3)).1
        · rw [if_neg h3]; decide
      have hts : tsok 3 ((if a_fk A (a_nw A) i = 3 then a_fz A (a_nw A) i else 0) + 1) (ft_ins v (if a_fk A (a_nw A) i = 3 then a_fz A (a_nw A) i else 0) (a_fg A (a_nw A) i)) := by
        refine Or.inr (Or.inr ⟨rfl, by omega, by omega, ?_⟩)
        by_cases h3 : a_fk A (a_nw A) i = 3
        · rw [if_pos h3]
          refine (ins_p v _ _ ?_ (has_f (hcc.resolve_left (fun z => z h3)).2)).1
          rcases hto with z | z | z
          · rw [h3] at z; exact absurd z.1 (by decide)
          · rw [h3] at z; exact absurd z.1 (by decide)
          · exact z.2.2.2
        · rw [if_neg h3]
          exact (ins_p v 0 _ (fun i j _ hj => absurd hj (by omega)) (fun i hi => absurd hi (by omega))).1
      have en : am_n x i = (if a_fk A (a_nw A) i = 3 then a_fz A (a_nw A) i else 0) := by unfold am_n; rw [eg, tx.1, tx.2.1]
      have eg2 : x_fg x (x_rg x) i = a_fg A (a_nw A) i := by rw [eg, tx.2.2]
      have hx : am x i v = u_fg (ts_1 x (x_rg x) i 3 ((if a_fk A (a_nw A) i = 3 then a_fz A (a_nw A) i else 0) + 1)) (va_u2 (x_fg x) (x_rg x) i (ft_ins v (if a_fk A (a_nw A) i = 3 then a_fz A (a_nw A) i else 0) (a_fg A (a_nw A) i))) := by
        unfold am
        rw [en, eg2]
        rfl
      have hIv : Iv (am x i v) := by
        rw [hx]
        exact Iv_fg (Iv_ft hQ.1 (by omega))
      have hkq : kq (am x i v) = kq x := by rw [hx]; rfl
      have hrw : rws (am x i v) = rws x := by rw [hx]; exact rws_eq rfl rfl
      have hcp : y_cp (am_y y i v) = y_cp y := by
        unfold am_y am_1
        show y_cp (if y_kd y (1200 + i) = 3 then y else v_mn (v_kd y (upd (y_kd y) (1200 + i) 3)) (va_up (y_mn y) (1200 + i) 0)) = y_cp y
        split <;> rfl
      refine px_n (x' := am x i v) (y' := am_y y i v) (a' := a_tst A i 3 ((if a_fk A (a_nw A) i = 3 then a_fz A (a_nw A) i else 0) + 1) (ft_ins v (if a_fk A (a_nw A) i = 3 then a_fz A (a_nw A) i else 0) (a_fg A (a_nw A) i))) ⟨tst_r hQ hX hx, among_y hY hA.1 hi hn4, AI_tst hA hts, Iq_of hQ hIv hkq⟩ 1 0 0 (by rw [hrw]; omega) (by rw [hrw]; omega) (Nat.le_of_eq hcp.symm) (fun Rt hR => ⟨rfl, rfl, x, nI i, v, rfl, rfl, hQ.1, fun z => absurd h1 (bn_f z), fun i' hi' e z => ?_, fun i' hi' e z => ?_⟩) (d1 := 0) (d2 := 0) (by rw [hcp, Nat.sub_self]) (by rw [hcp, Nat.sub_self]) (fun Rt hR => ⟨rfl, rfl, y, nI i, v, rfl, rfl, hY.2.2.2, fun z => absurd h1 (bn_f z), fun i' hi' e z => ?_, fun i' hi' e z => ?_⟩)
      · obtain rfl := hin hi' e
        rw [ex, hc] at z; exact absurd z (by decide)
      · obtain rfl := hin hi' e; exact hR
      · obtain rfl := hin hi' e
        rw [ey, hc] at z; exact absurd z (by decide)
      · obtain rfl := hin hi' e; exact hR
