/-! the reference's state (printed by a program of ours), and the world that it stands for -/
abbrev zMS : Type := (((((Nat) × (Nat)) × ((Nat) × (Nat))) × (((Nat) × (Nat)) × ((Int32) × (Int32)))) × ((((Int32) × (Nat → Bool)) × ((Nat → Int32) × (Nat → Nat))) × (((Nat → Bool) × (Nat → Int32)) × ((Nat → Nat) × ((Nat → Int32) × (Nat → Int32)))))) × (((((Nat → Int32) × (Nat → Int32)) × ((Nat → Bool) × (Nat → Int32))) × (((Nat → Nat) × (Nat → Int64)) × ((Nat → Int64) × ((Nat → Nat) × (Nat → Nat))))) × ((((Nat → Int32) × (Nat → Int64)) × ((Nat → Int64) × (Nat → Int64))) × (((Nat → Bool) × (Nat → Int64)) × ((Nat → Int64) × ((Nat → Bool) × (Nat → Nat → Option zAE))))))
def y_dk (x : zMS) : Nat := x.1.1.1.1.1
def y_nr (x : zMS) : Nat := x.1.1.1.1.2
def y_nw (x : zMS) : Nat := x.1.1.1.2.1
def y_nn (x : zMS) : Nat := x.1.1.1.2.2
def y_ms (x : zMS) : Nat := x.1.1.2.1.1
def y_cp (x : zMS) : Nat := x.1.1.2.1.2
def y_po (x : zMS) : Int32 := x.1.1.2.2.1
def y_ne (x : zMS) : Int32 := x.1.1.2.2.2
def y_td (x : zMS) : Int32 := x.1.2.1.1.1
def y_lk (x : zMS) : Nat → Bool := x.1.2.1.1.2
def y_do (x : zMS) : Nat → Int32 := x.1.2.1.2.1
def y_ro (x : zMS) : Nat → Nat := x.1.2.1.2.2
def y_al (x : zMS) : Nat → Bool := x.1.2.2.1.1
def y_kd (x : zMS) : Nat → Int32 := x.1.2.2.1.2
def y_mn (x : zMS) : Nat → Nat := x.1.2.2.2.1
def y_nu (x : zMS) : Nat → Int32 := x.1.2.2.2.2.1
def y_fi (x : zMS) : Nat → Int32 := x.1.2.2.2.2.2
def y_sa (x : zMS) : Nat → Int32 := x.2.1.1.1.1
def y_wt (x : zMS) : Nat → Int32 := x.2.1.1.1.2
def y_hh (x : zMS) : Nat → Bool := x.2.1.1.2.1
def y_he (x : zMS) : Nat → Int32 := x.2.1.1.2.2
def y_hm (x : zMS) : Nat → Nat := x.2.1.2.1.1
def y_tb (x : zMS) : Nat → Int64 := x.2.1.2.1.2
def y_to (x : zMS) : Nat → Int64 := x.2.1.2.2.1
def y_fr (x : zMS) : Nat → Nat := x.2.1.2.2.2.1
def y_tt (x : zMS) : Nat → Nat := x.2.1.2.2.2.2
def y_wh (x : zMS) : Nat → Int32 := x.2.2.1.1.1
def y_rw (x : zMS) : Nat → Int64 := x.2.2.1.1.2
def y_lo (x : zMS) : Nat → Int64 := x.2.2.1.2.1
def y_hi (x : zMS) : Nat → Int64 := x.2.2.1.2.2
def y_cv (x : zMS) : Nat → Bool := x.2.2.2.1.1
def y_so (x : zMS) : Nat → Int64 := x.2.2.2.1.2
def y_me (x : zMS) : Nat → Int64 := x.2.2.2.2.1
def y_re (x : zMS) : Nat → Bool := x.2.2.2.2.2.1
def y_gb (x : zMS) : Nat → Nat → Option zAE := x.2.2.2.2.2.2
def v_dk (x : zMS) (v : Nat) : zMS := (((((v, x.1.1.1.1.2), x.1.1.1.2), x.1.1.2), x.1.2), x.2)
def v_nr (x : zMS) (v : Nat) : zMS := (((((x.1.1.1.1.1, v), x.1.1.1.2), x.1.1.2), x.1.2), x.2)
def v_nw (x : zMS) (v : Nat) : zMS := ((((x.1.1.1.1, (v, x.1.1.1.2.2)), x.1.1.2), x.1.2), x.2)
def v_nn (x : zMS) (v : Nat) : zMS := ((((x.1.1.1.1, (x.1.1.1.2.1, v)), x.1.1.2), x.1.2), x.2)
def v_ms (x : zMS) (v : Nat) : zMS := (((x.1.1.1, ((v, x.1.1.2.1.2), x.1.1.2.2)), x.1.2), x.2)
def v_cp (x : zMS) (v : Nat) : zMS := (((x.1.1.1, ((x.1.1.2.1.1, v), x.1.1.2.2)), x.1.2), x.2)
def v_po (x : zMS) (v : Int32) : zMS := (((x.1.1.1, (x.1.1.2.1, (v, x.1.1.2.2.2))), x.1.2), x.2)
def v_ne (x : zMS) (v : Int32) : zMS := (((x.1.1.1, (x.1.1.2.1, (x.1.1.2.2.1, v))), x.1.2), x.2)
def v_td (x : zMS) (v : Int32) : zMS := ((x.1.1, (((v, x.1.2.1.1.2), x.1.2.1.2), x.1.2.2)), x.2)
def v_lk (x : zMS) (v : Nat → Bool) : zMS := ((x.1.1, (((x.1.2.1.1.1, v), x.1.2.1.2), x.1.2.2)), x.2)
def v_do (x : zMS) (v : Nat → Int32) : zMS := ((x.1.1, ((x.1.2.1.1, (v, x.1.2.1.2.2)), x.1.2.2)), x.2)
def v_ro (x : zMS) (v : Nat → Nat) : zMS := ((x.1.1, ((x.1.2.1.1, (x.1.2.1.2.1, v)), x.1.2.2)), x.2)
def v_al (x : zMS) (v : Nat → Bool) : zMS := ((x.1.1, (x.1.2.1, ((v, x.1.2.2.1.2), x.1.2.2.2))), x.2)
def v_kd (x : zMS) (v : Nat → Int32) : zMS := ((x.1.1, (x.1.2.1, ((x.1.2.2.1.1, v), x.1.2.2.2))), x.2)
def v_mn (x : zMS) (v : Nat → Nat) : zMS := ((x.1.1, (x.1.2.1, (x.1.2.2.1, (v, x.1.2.2.2.2)))), x.2)
def v_nu (x : zMS) (v : Nat → Int32) : zMS := ((x.1.1, (x.1.2.1, (x.1.2.2.1, (x.1.2.2.2.1, (v, x.1.2.2.2.2.2))))), x.2)
def v_fi (x : zMS) (v : Nat → Int32) : zMS := ((x.1.1, (x.1.2.1, (x.1.2.2.1, (x.1.2.2.2.1, (x.1.2.2.2.2.1, v))))), x.2)
def v_sa (x : zMS) (v : Nat → Int32) : zMS := (x.1, ((((v, x.2.1.1.1.2), x.2.1.1.2), x.2.1.2), x.2.2))
def v_wt (x : zMS) (v : Nat → Int32) : zMS := (x.1, ((((x.2.1.1.1.1, v), x.2.1.1.2), x.2.1.2), x.2.2))
def v_hh (x : zMS) (v : Nat → Bool) : zMS := (x.1, (((x.2.1.1.1, (v, x.2.1.1.2.2)), x.2.1.2), x.2.2))
def v_he (x : zMS) (v : Nat → Int32) : zMS := (x.1, (((x.2.1.1.1, (x.2.1.1.2.1, v)), x.2.1.2), x.2.2))
def v_hm (x : zMS) (v : Nat → Nat) : zMS := (x.1, ((x.2.1.1, ((v, x.2.1.2.1.2), x.2.1.2.2)), x.2.2))
def v_tb (x : zMS) (v : Nat → Int64) : zMS := (x.1, ((x.2.1.1, ((x.2.1.2.1.1, v), x.2.1.2.2)), x.2.2))
def v_to (x : zMS) (v : Nat → Int64) : zMS := (x.1, ((x.2.1.1, (x.2.1.2.1, (v, x.2.1.2.2.2))), x.2.2))
def v_fr (x : zMS) (v : Nat → Nat) : zMS := (x.1, ((x.2.1.1, (x.2.1.2.1, (x.2.1.2.2.1, (v, x.2.1.2.2.2.2)))), x.2.2))
def v_tt (x : zMS) (v : Nat → Nat) : zMS := (x.1, ((x.2.1.1, (x.2.1.2.1, (x.2.1.2.2.1, (x.2.1.2.2.2.1, v)))), x.2.2))
def v_wh (x : zMS) (v : Nat → Int32) : zMS := (x.1, (x.2.1, (((v, x.2.2.1.1.2), x.2.2.1.2), x.2.2.2)))
def v_rw (x : zMS) (v : Nat → Int64) : zMS := (x.1, (x.2.1, (((x.2.2.1.1.1, v), x.2.2.1.2), x.2.2.2)))
def v_lo (x : zMS) (v : Nat → Int64) : zMS := (x.1, (x.2.1, ((x.2.2.1.1, (v, x.2.2.1.2.2)), x.2.2.2)))
def v_hi (x : zMS) (v : Nat → Int64) : zMS := (x.1, (x.2.1, ((x.2.2.1.1, (x.2.2.1.2.1, v)), x.2.2.2)))
def v_cv (x : zMS) (v : Nat → Bool) : zMS := (x.1, (x.2.1, (x.2.2.1, ((v, x.2.2.2.1.2), x.2.2.2.2))))
def v_so (x : zMS) (v : Nat → Int64) : zMS := (x.1, (x.2.1, (x.2.2.1, ((x.2.2.2.1.1, v), x.2.2.2.2))))
def v_me (x : zMS) (v : Nat → Int64) : zMS := (x.1, (x.2.1, (x.2.2.1, (x.2.2.2.1, (v, x.2.2.2.2.2)))))
def v_re (x : zMS) (v : Nat → Bool) : zMS := (x.1, (x.2.1, (x.2.2.1, (x.2.2.2.1, (x.2.2.2.2.1, (v, x.2.2.2.2.2.2))))))
def v_gb (x : zMS) (v : Nat → Nat → Option zAE) : zMS := (x.1, (x.2.1, (x.2.2.1, (x.2.2.2.1, (x.2.2.2.2.1, (x.2.2.2.2.2.1, v))))))
abbrev zbo (n : Nat) (f : Nat → Bool) : zAE := .inl (.boolean, n, .inl (fun k => zb (f k)))
abbrev znt (n : Nat) (f : Nat → Nat) : zAE := .inl (.int, n, .inl (fun k => nI (f k)))
abbrev zll (n : Nat) (f : Nat → Int64) : zAE := .inl (.long, n, .inr (.inl f))
def m_main (y : zMS) : zAE := .inr (8, [.inl (.int (nI (y_dk y))), .inl (.int (nI (y_nr y))), .inl (.int (nI (y_nw y))), .inl (.int (nI (y_nn y))), .inr (31, 4, 0), .inr (31, 5, 0), .inr (31, 6, 0), .inr (31, 7, 0), .inr (31, 8, 0), .inr (31, 9, 0), .inr (31, 10, 0), .inr (31, 11, 0), .inr (31, 12, 0), .inr (31, 13, 0), .inr (31, 14, 0), .inr (31, 15, 0), .inr (31, 16, 0), .inr (31, 17, 0), .inr (31, 18, 0), .inl (.int (nI (y_ms y))), .inr (32, 0, y_cp y), .inr (32, 1, y_cp y), .inr (32, 2, y_cp y), .inr (32, 3, y_cp y), .inl (.int (y_po y)), .inl (.int (y_ne y)), .inl (.int (y_td y)), .inr (31, 27, 0), .inr (31, 28, 0), .inr (31, 29, 0), .inr (31, 30, 0), .inr (31, 31, 0), .inr (31, 32, 0)])
def m_arr (y : zMS) (i : Nat) : Option zAE := match i with
  | 4 => some (zbo 144 (y_lk y))
  | 5 => some (zin 24 (y_do y))
  | 6 => some (znt 300 (y_ro y))
  | 7 => some (zbo 300 (y_al y))
  | 8 => some (zin 1204 (y_kd y))
  | 9 => some (znt 1204 (y_mn y))
  | 10 => some (zin 4816 (y_nu y))
  | 11 => some (zin 2400 (y_fi y))
  | 12 => some (zin 600 (y_sa y))
  | 13 => some (zin 600 (y_wt y))
  | 14 => some (zbo 14400 (y_hh y))
  | 15 => some (zin 14400 (y_he y))
  | 16 => some (znt 24 (y_hm y))
  | 17 => some (zll 720 (y_tb y))
  | 18 => some (zll 720 (y_to y))
  | 27 => some (zll 8 (y_lo y))
  | 28 => some (zll 8 (y_hi y))
  | 29 => some (zbo 90000 (y_cv y))
  | 30 => some (zll 5 (y_so y))
  | 31 => some (zll 5 (y_me y))
  | 32 => some (zbo 12 (y_re y))
  | _ => none
def m_gro (y : zMS) (i : Nat) : Option zAE := match i with
  | 0 => some (znt (y_cp y) (y_fr y))
  | 1 => some (znt (y_cp y) (y_tt y))
  | 2 => some (zin (y_cp y) (y_wh y))
  | 3 => some (zll (5 * y_cp y) (y_rw y))
  | _ => none
def mp (y : zMS) : zMp := fun n => match n with
  | (k, i, j) => if k = 30 then (if i = 0 ∧ j = 0 then some (m_main y) else none) else if k = 31 then (if j = 0 then m_arr y i else none) else if k = 32 then (if i < 4 ∧ j = y_cp y then m_gro y i else y_gb y i j) else none
theorem q_main (y : zMS) : mp y (30, 0, 0) = some (m_main y) := rfl
theorem q_lk (y : zMS) : mp y (31, 4, 0) = some (zbo 144 (y_lk y)) := rfl
theorem q_do (y : zMS) : mp y (31, 5, 0) = some (zin 24 (y_do y)) := rfl
theorem q_ro (y : zMS) : mp y (31, 6, 0) = some (znt 300 (y_ro y)) := rfl
theorem q_al (y : zMS) : mp y (31, 7, 0) = some (zbo 300 (y_al y)) := rfl
theorem q_kd (y : zMS) : mp y (31, 8, 0) = some (zin 1204 (y_kd y)) := rfl
theorem q_mn (y : zMS) : mp y (31, 9, 0) = some (znt 1204 (y_mn y)) := rfl
theorem q_nu (y : zMS) : mp y (31, 10, 0) = some (zin 4816 (y_nu y)) := rfl
theorem q_fi (y : zMS) : mp y (31, 11, 0) = some (zin 2400 (y_fi y)) := rfl
theorem q_sa (y : zMS) : mp y (31, 12, 0) = some (zin 600 (y_sa y)) := rfl
theorem q_wt (y : zMS) : mp y (31, 13, 0) = some (zin 600 (y_wt y)) := rfl
theorem q_hh (y : zMS) : mp y (31, 14, 0) = some (zbo 14400 (y_hh y)) := rfl
theorem q_he (y : zMS) : mp y (31, 15, 0) = some (zin 14400 (y_he y)) := rfl
theorem q_hm (y : zMS) : mp y (31, 16, 0) = some (znt 24 (y_hm y)) := rfl
theorem q_tb (y : zMS) : mp y (31, 17, 0) = some (zll 720 (y_tb y)) := rfl
theorem q_to (y : zMS) : mp y (31, 18, 0) = some (zll 720 (y_to y)) := rfl
theorem q_lo (y : zMS) : mp y (31, 27, 0) = some (zll 8 (y_lo y)) := rfl
theorem q_hi (y : zMS) : mp y (31, 28, 0) = some (zll 8 (y_hi y)) := rfl
theorem q_cv (y : zMS) : mp y (31, 29, 0) = some (zbo 90000 (y_cv y)) := rfl
theorem q_so (y : zMS) : mp y (31, 30, 0) = some (zll 5 (y_so y)) := rfl
theorem q_me (y : zMS) : mp y (31, 31, 0) = some (zll 5 (y_me y)) := rfl
theorem q_re (y : zMS) : mp y (31, 32, 0) = some (zbo 12 (y_re y)) := rfl
theorem q_fr (y : zMS) : mp y (32, 0, y_cp y) = some (znt (y_cp y) (y_fr y)) := by
  show (if 0 < 4 ∧ y_cp y = y_cp y then m_gro y 0 else y_gb y 0 (y_cp y)) = _
  rw [if_pos ⟨by decide, rfl⟩]
  rfl
theorem q_tt (y : zMS) : mp y (32, 1, y_cp y) = some (znt (y_cp y) (y_tt y)) := by
  show (if 1 < 4 ∧ y_cp y = y_cp y then m_gro y 1 else y_gb y 1 (y_cp y)) = _
  rw [if_pos ⟨by decide, rfl⟩]
  rfl
theorem q_wh (y : zMS) : mp y (32, 2, y_cp y) = some (zin (y_cp y) (y_wh y)) := by
  show (if 2 < 4 ∧ y_cp y = y_cp y then m_gro y 2 else y_gb y 2 (y_cp y)) = _
  rw [if_pos ⟨by decide, rfl⟩]
  rfl
theorem q_rw (y : zMS) : mp y (32, 3, y_cp y) = some (zll (5 * y_cp y) (y_rw y)) := by
  show (if 3 < 4 ∧ y_cp y = y_cp y then m_gro y 3 else y_gb y 3 (y_cp y)) = _
  rw [if_pos ⟨by decide, rfl⟩]
  rfl
/-- a world is a picture's after one write -/
theorem mp_up {y y' : zMS} {a : zNm} {e : zAE} (h1 : mp y' a = some e) (h2 : ∀ k i j, (k, i, j) ≠ a → mp y (k, i, j) = mp y' (k, i, j)) : zup (mp y) a e = mp y' := by
  funext n
  obtain ⟨k, i, j⟩ := n
  by_cases h : (k, i, j) = a
  · rw [h, zup_s, h1]
  · rw [zup_o h, h2 k i j h]
/-- worlds that differ in the main object alone -/
theorem mp_m {y y' : zMS} (ha : m_arr y = m_arr y') (hc : y_cp y = y_cp y') (hg : m_gro y = m_gro y') (hb : y_gb y = y_gb y') : zup (mp y) (30, 0, 0) (m_main y') = mp y' := by
  refine mp_up rfl (fun k i j h => ?_)
  show (if k = 30 then (if i = 0 ∧ j = 0 then some (m_main y) else none) else if k = 31 then (if j = 0 then m_arr y i else none) else if k = 32 then (if i < 4 ∧ j = y_cp y then m_gro y i else y_gb y i j) else none) = (if k = 30 then (if i = 0 ∧ j = 0 then some (m_main y') else none) else if k = 31 then (if j = 0 then m_arr y' i else none) else if k = 32 then (if i < 4 ∧ j = y_cp y' then m_gro y' i else y_gb y' i j) else none)
  rw [ha, hc, hg, hb]
  by_cases hk : k = 30
  · subst hk
    have : ¬ (i = 0 ∧ j = 0) := fun q => h (by rw [q.1, q.2])
    rw [if_pos rfl, if_pos rfl, if_neg this, if_neg this]
  · rw [if_neg hk, if_neg hk]
theorem mp_a {y y' : zMS} {t : Nat} {e : zAE} (he : m_arr y' t = some e) (hm : m_main y = m_main y') (ha : ∀ i, i ≠ t → m_arr y i = m_arr y' i) (hc : y_cp y = y_cp y') (hg : m_gro y = m_gro y') (hb : y_gb y = y_gb y') : zup (mp y) (31, t, 0) e = mp y' := by
  refine mp_up he (fun k i j h => ?_)
  show (if k = 30 then (if i = 0 ∧ j = 0 then some (m_main y) else none) else if k = 31 then (if j = 0 then m_arr y i else none) else if k = 32 then (if i < 4 ∧ j = y_cp y then m_gro y i else y_gb y i j) else none) = (if k = 30 then (if i = 0 ∧ j = 0 then some (m_main y') else none) else if k = 31 then (if j = 0 then m_arr y' i else none) else if k = 32 then (if i < 4 ∧ j = y_cp y' then m_gro y' i else y_gb y' i j) else none)
  rw [hm, hc, hg, hb]
  by_cases hk : k = 31
  · subst hk
    by_cases hj : j = 0
    · subst hj
      rw [ha i (fun q => h (by rw [q]))]
    · simp only [hj, if_false]
  · simp only [hk, if_false]
theorem mp_g {y y' : zMS} {t : Nat} {e : zAE} (ht : t < 4) (he : m_gro y' t = some e) (hm : m_main y = m_main y') (ha : m_arr y = m_arr y') (hc : y_cp y = y_cp y') (hg : ∀ i, i ≠ t → m_gro y i = m_gro y' i) (hb : y_gb y = y_gb y') : zup (mp y) (32, t, y_cp y) e = mp y' := by
  refine mp_up ?_ (fun k i j h => ?_)
  · show (if t < 4 ∧ y_cp y = y_cp y' then m_gro y' t else y_gb y' t (y_cp y)) = some e
    rw [if_pos ⟨ht, hc⟩, he]
  · show (if k = 30 then (if i = 0 ∧ j = 0 then some (m_main y) else none) else if k = 31 then (if j = 0 then m_arr y i else none) else if k = 32 then (if i < 4 ∧ j = y_cp y then m_gro y i else y_gb y i j) else none) = (if k = 30 then (if i = 0 ∧ j = 0 then some (m_main y') else none) else if k = 31 then (if j = 0 then m_arr y' i else none) else if k = 32 then (if i < 4 ∧ j = y_cp y' then m_gro y' i else y_gb y' i j) else none)
    rw [hm, ha, ← hc, hb]
    by_cases hk : k = 32
    · subst hk
      by_cases hq : i < 4 ∧ j = y_cp y
      · have : i ≠ t := fun q => h (by rw [q, hq.2])
        simp only [hq, and_self, if_true, hg i this]
      · simp only [hq, if_false]
    · simp only [hk, if_false]
theorem mu_dk (y : zMS) (v : Nat) : zup (mp y) (30, 0, 0) (m_main (v_dk y v)) = mp (v_dk y v) := mp_m rfl rfl rfl rfl
theorem mu_nr (y : zMS) (v : Nat) : zup (mp y) (30, 0, 0) (m_main (v_nr y v)) = mp (v_nr y v) := mp_m rfl rfl rfl rfl
theorem mu_nw (y : zMS) (v : Nat) : zup (mp y) (30, 0, 0) (m_main (v_nw y v)) = mp (v_nw y v) := mp_m rfl rfl rfl rfl
theorem mu_nn (y : zMS) (v : Nat) : zup (mp y) (30, 0, 0) (m_main (v_nn y v)) = mp (v_nn y v) := mp_m rfl rfl rfl rfl
theorem mu_ms (y : zMS) (v : Nat) : zup (mp y) (30, 0, 0) (m_main (v_ms y v)) = mp (v_ms y v) := mp_m rfl rfl rfl rfl
theorem mu_po (y : zMS) (v : Int32) : zup (mp y) (30, 0, 0) (m_main (v_po y v)) = mp (v_po y v) := mp_m rfl rfl rfl rfl
theorem mu_ne (y : zMS) (v : Int32) : zup (mp y) (30, 0, 0) (m_main (v_ne y v)) = mp (v_ne y v) := mp_m rfl rfl rfl rfl
theorem mu_td (y : zMS) (v : Int32) : zup (mp y) (30, 0, 0) (m_main (v_td y v)) = mp (v_td y v) := mp_m rfl rfl rfl rfl
theorem mu_lk (y : zMS) (v : Nat → Bool) : zup (mp y) (31, 4, 0) (zbo 144 v) = mp (v_lk y v) := by
  refine mp_a rfl rfl (fun i hi => ?_) rfl rfl rfl
  rcases i with _ | _ | _ | _ | _ | _ | _ | _ | _ | _ | _ | _ | _ | _ | _ | _ | _ | _ | _ | _ | _ | _ | _ | _ | _ | _ | _ | _ | _ | _ | _ | _ | _ | _
  all_goals first | rfl | exact absurd rfl hi
theorem mu_do (y : zMS) (v : Nat → Int32) : zup (mp y) (31, 5, 0) (zin 24 v) = mp (v_do y v) := by
  refine mp_a rfl rfl (fun i hi => ?_) rfl rfl rfl
  rcases i with _ | _ | _ | _ | _ | _ | _ | _ | _ | _ | _ | _ | _ | _ | _ | _ | _ | _ | _ | _ | _ | _ | _ | _ | _ | _ | _ | _ | _ | _ | _ | _ | _ | _
  all_goals first | rfl | exact absurd rfl hi
theorem mu_ro (y : zMS) (v : Nat → Nat) : zup (mp y) (31, 6, 0) (znt 300 v) = mp (v_ro y v) := by
  refine mp_a rfl rfl (fun i hi => ?_) rfl rfl rfl
  rcases i with _ | _ | _ | _ | _ | _ | _ | _ | _ | _ | _ | _ | _ | _ | _ | _ | _ | _ | _ | _ | _ | _ | _ | _ | _ | _ | _ | _ | _ | _ | _ | _ | _ | _
  all_goals first | rfl | exact absurd rfl hi
theorem mu_al (y : zMS) (v : Nat → Bool) : zup (mp y) (31, 7, 0) (zbo 300 v) = mp (v_al y v) := by
  refine mp_a rfl rfl (fun i hi => ?_) rfl rfl rfl
  rcases i with _ | _ | _ | _ | _ | _ | _ | _ | _ | _ | _ | _ | _ | _ | _ | _ | _ | _ | _ | _ | _ | _ | _ | _ | _ | _ | _ | _ | _ | _ | _ | _ | _ | _
  all_goals first | rfl | exact absurd rfl hi
theorem mu_kd (y : zMS) (v : Nat → Int32) : zup (mp y) (31, 8, 0) (zin 1204 v) = mp (v_kd y v) := by
  refine mp_a rfl rfl (fun i hi => ?_) rfl rfl rfl
  rcases i with _ | _ | _ | _ | _ | _ | _ | _ | _ | _ | _ | _ | _ | _ | _ | _ | _ | _ | _ | _ | _ | _ | _ | _ | _ | _ | _ | _ | _ | _ | _ | _ | _ | _
  all_goals first | rfl | exact absurd rfl hi
theorem mu_mn (y : zMS) (v : Nat → Nat) : zup (mp y) (31, 9, 0) (znt 1204 v) = mp (v_mn y v) := by
  refine mp_a rfl rfl (fun i hi => ?_) rfl rfl rfl
  rcases i with _ | _ | _ | _ | _ | _ | _ | _ | _ | _ | _ | _ | _ | _ | _ | _ | _ | _ | _ | _ | _ | _ | _ | _ | _ | _ | _ | _ | _ | _ | _ | _ | _ | _
  all_goals first | rfl | exact absurd rfl hi
theorem mu_nu (y : zMS) (v : Nat → Int32) : zup (mp y) (31, 10, 0) (zin 4816 v) = mp (v_nu y v) := by
  refine mp_a rfl rfl (fun i hi => ?_) rfl rfl rfl
  rcases i with _ | _ | _ | _ | _ | _ | _ | _ | _ | _ | _ | _ | _ | _ | _ | _ | _ | _ | _ | _ | _ | _ | _ | _ | _ | _ | _ | _ | _ | _ | _ | _ | _ | _
  all_goals first | rfl | exact absurd rfl hi
theorem mu_fi (y : zMS) (v : Nat → Int32) : zup (mp y) (31, 11, 0) (zin 2400 v) = mp (v_fi y v) := by
  refine mp_a rfl rfl (fun i hi => ?_) rfl rfl rfl
  rcases i with _ | _ | _ | _ | _ | _ | _ | _ | _ | _ | _ | _ | _ | _ | _ | _ | _ | _ | _ | _ | _ | _ | _ | _ | _ | _ | _ | _ | _ | _ | _ | _ | _ | _
  all_goals first | rfl | exact absurd rfl hi
theorem mu_sa (y : zMS) (v : Nat → Int32) : zup (mp y) (31, 12, 0) (zin 600 v) = mp (v_sa y v) := by
  refine mp_a rfl rfl (fun i hi => ?_) rfl rfl rfl
  rcases i with _ | _ | _ | _ | _ | _ | _ | _ | _ | _ | _ | _ | _ | _ | _ | _ | _ | _ | _ | _ | _ | _ | _ | _ | _ | _ | _ | _ | _ | _ | _ | _ | _ | _
  all_goals first | rfl | exact absurd rfl hi
theorem mu_wt (y : zMS) (v : Nat → Int32) : zup (mp y) (31, 13, 0) (zin 600 v) = mp (v_wt y v) := by
  refine mp_a rfl rfl (fun i hi => ?_) rfl rfl rfl
  rcases i with _ | _ | _ | _ | _ | _ | _ | _ | _ | _ | _ | _ | _ | _ | _ | _ | _ | _ | _ | _ | _ | _ | _ | _ | _ | _ | _ | _ | _ | _ | _ | _ | _ | _
  all_goals first | rfl | exact absurd rfl hi
theorem mu_hh (y : zMS) (v : Nat → Bool) : zup (mp y) (31, 14, 0) (zbo 14400 v) = mp (v_hh y v) := by
  refine mp_a rfl rfl (fun i hi => ?_) rfl rfl rfl
  rcases i with _ | _ | _ | _ | _ | _ | _ | _ | _ | _ | _ | _ | _ | _ | _ | _ | _ | _ | _ | _ | _ | _ | _ | _ | _ | _ | _ | _ | _ | _ | _ | _ | _ | _
  all_goals first | rfl | exact absurd rfl hi
theorem mu_he (y : zMS) (v : Nat → Int32) : zup (mp y) (31, 15, 0) (zin 14400 v) = mp (v_he y v) := by
  refine mp_a rfl rfl (fun i hi => ?_) rfl rfl rfl
  rcases i with _ | _ | _ | _ | _ | _ | _ | _ | _ | _ | _ | _ | _ | _ | _ | _ | _ | _ | _ | _ | _ | _ | _ | _ | _ | _ | _ | _ | _ | _ | _ | _ | _ | _
  all_goals first | rfl | exact absurd rfl hi
theorem mu_hm (y : zMS) (v : Nat → Nat) : zup (mp y) (31, 16, 0) (znt 24 v) = mp (v_hm y v) := by
  refine mp_a rfl rfl (fun i hi => ?_) rfl rfl rfl
  rcases i with _ | _ | _ | _ | _ | _ | _ | _ | _ | _ | _ | _ | _ | _ | _ | _ | _ | _ | _ | _ | _ | _ | _ | _ | _ | _ | _ | _ | _ | _ | _ | _ | _ | _
  all_goals first | rfl | exact absurd rfl hi
theorem mu_tb (y : zMS) (v : Nat → Int64) : zup (mp y) (31, 17, 0) (zll 720 v) = mp (v_tb y v) := by
  refine mp_a rfl rfl (fun i hi => ?_) rfl rfl rfl
  rcases i with _ | _ | _ | _ | _ | _ | _ | _ | _ | _ | _ | _ | _ | _ | _ | _ | _ | _ | _ | _ | _ | _ | _ | _ | _ | _ | _ | _ | _ | _ | _ | _ | _ | _
  all_goals first | rfl | exact absurd rfl hi
theorem mu_to (y : zMS) (v : Nat → Int64) : zup (mp y) (31, 18, 0) (zll 720 v) = mp (v_to y v) := by
  refine mp_a rfl rfl (fun i hi => ?_) rfl rfl rfl
  rcases i with _ | _ | _ | _ | _ | _ | _ | _ | _ | _ | _ | _ | _ | _ | _ | _ | _ | _ | _ | _ | _ | _ | _ | _ | _ | _ | _ | _ | _ | _ | _ | _ | _ | _
  all_goals first | rfl | exact absurd rfl hi
theorem mu_lo (y : zMS) (v : Nat → Int64) : zup (mp y) (31, 27, 0) (zll 8 v) = mp (v_lo y v) := by
  refine mp_a rfl rfl (fun i hi => ?_) rfl rfl rfl
  rcases i with _ | _ | _ | _ | _ | _ | _ | _ | _ | _ | _ | _ | _ | _ | _ | _ | _ | _ | _ | _ | _ | _ | _ | _ | _ | _ | _ | _ | _ | _ | _ | _ | _ | _
  all_goals first | rfl | exact absurd rfl hi
theorem mu_hi (y : zMS) (v : Nat → Int64) : zup (mp y) (31, 28, 0) (zll 8 v) = mp (v_hi y v) := by
  refine mp_a rfl rfl (fun i hi => ?_) rfl rfl rfl
  rcases i with _ | _ | _ | _ | _ | _ | _ | _ | _ | _ | _ | _ | _ | _ | _ | _ | _ | _ | _ | _ | _ | _ | _ | _ | _ | _ | _ | _ | _ | _ | _ | _ | _ | _
  all_goals first | rfl | exact absurd rfl hi
theorem mu_cv (y : zMS) (v : Nat → Bool) : zup (mp y) (31, 29, 0) (zbo 90000 v) = mp (v_cv y v) := by
  refine mp_a rfl rfl (fun i hi => ?_) rfl rfl rfl
  rcases i with _ | _ | _ | _ | _ | _ | _ | _ | _ | _ | _ | _ | _ | _ | _ | _ | _ | _ | _ | _ | _ | _ | _ | _ | _ | _ | _ | _ | _ | _ | _ | _ | _ | _
  all_goals first | rfl | exact absurd rfl hi
theorem mu_so (y : zMS) (v : Nat → Int64) : zup (mp y) (31, 30, 0) (zll 5 v) = mp (v_so y v) := by
  refine mp_a rfl rfl (fun i hi => ?_) rfl rfl rfl
  rcases i with _ | _ | _ | _ | _ | _ | _ | _ | _ | _ | _ | _ | _ | _ | _ | _ | _ | _ | _ | _ | _ | _ | _ | _ | _ | _ | _ | _ | _ | _ | _ | _ | _ | _
  all_goals first | rfl | exact absurd rfl hi
theorem mu_me (y : zMS) (v : Nat → Int64) : zup (mp y) (31, 31, 0) (zll 5 v) = mp (v_me y v) := by
  refine mp_a rfl rfl (fun i hi => ?_) rfl rfl rfl
  rcases i with _ | _ | _ | _ | _ | _ | _ | _ | _ | _ | _ | _ | _ | _ | _ | _ | _ | _ | _ | _ | _ | _ | _ | _ | _ | _ | _ | _ | _ | _ | _ | _ | _ | _
  all_goals first | rfl | exact absurd rfl hi
theorem mu_re (y : zMS) (v : Nat → Bool) : zup (mp y) (31, 32, 0) (zbo 12 v) = mp (v_re y v) := by
  refine mp_a rfl rfl (fun i hi => ?_) rfl rfl rfl
  rcases i with _ | _ | _ | _ | _ | _ | _ | _ | _ | _ | _ | _ | _ | _ | _ | _ | _ | _ | _ | _ | _ | _ | _ | _ | _ | _ | _ | _ | _ | _ | _ | _ | _ | _
  all_goals first | rfl | exact absurd rfl hi
theorem mu_fr (y : zMS) (v : Nat → Nat) : zup (mp y) (32, 0, y_cp y) (znt (y_cp y) v) = mp (v_fr y v) := by
  refine mp_g (by decide) rfl rfl rfl rfl (fun i hi => ?_) rfl
  rcases i with _ | _ | _ | _ | _
  all_goals first | rfl | exact absurd rfl hi
theorem mu_tt (y : zMS) (v : Nat → Nat) : zup (mp y) (32, 1, y_cp y) (znt (y_cp y) v) = mp (v_tt y v) := by
  refine mp_g (by decide) rfl rfl rfl rfl (fun i hi => ?_) rfl
  rcases i with _ | _ | _ | _ | _
  all_goals first | rfl | exact absurd rfl hi
theorem mu_wh (y : zMS) (v : Nat → Int32) : zup (mp y) (32, 2, y_cp y) (zin (y_cp y) v) = mp (v_wh y v) := by
  refine mp_g (by decide) rfl rfl rfl rfl (fun i hi => ?_) rfl
  rcases i with _ | _ | _ | _ | _
  all_goals first | rfl | exact absurd rfl hi
theorem mu_rw (y : zMS) (v : Nat → Int64) : zup (mp y) (32, 3, y_cp y) (zll (5 * y_cp y) v) = mp (v_rw y v) := by
  refine mp_g (by decide) rfl rfl rfl rfl (fun i hi => ?_) rfl
  rcases i with _ | _ | _ | _ | _
  all_goals first | rfl | exact absurd rfl hi
theorem upd_nt (f : Nat → Nat) (i v : Nat) : upd (fun k => nI (f k)) i (nI v) = fun k => nI (va_up f i v k) := by
  funext k
  simp only [upd, va_up]
  split <;> rfl
theorem upd_bo (f : Nat → Bool) (i : Nat) (v : Bool) : upd (fun k => zb (f k)) i (zb v) = fun k => zb (va_up f i v k) := by
  funext k
  simp only [upd, va_up]
  split <;> rfl
theorem upd_b1 (f : Nat → Bool) (i : Nat) : upd (fun k => zb (f k)) i 1 = fun k => zb (va_up f i true k) := upd_bo f i true
theorem upd_b0 (f : Nat → Bool) (i : Nat) : upd (fun k => zb (f k)) i 0 = fun k => zb (va_up f i false k) := upd_bo f i false
