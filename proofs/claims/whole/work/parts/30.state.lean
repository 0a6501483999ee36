/-! the class's state (printed by a program of ours), and the world that it stands for -/
abbrev zSt : Type := (((((Nat) × (Int32)) × ((Int32) × ((Int32) × (Int32)))) × (((Nat → Int32) × ((Nat → Option Nat) × (Nat))) × ((Nat) × ((Nat) × (Nat))))) × ((((Nat) × (Nat)) × ((Nat) × ((Nat) × (Nat)))) × (((Nat) × ((Nat → Int32) × (Nat → Nat))) × ((Nat → Nat → Option zAE) × ((Nat → Nat) × (Nat → Int64)))))) × (((((Nat → Int64) × (Nat → Nat → Int64)) × ((Nat → Nat → Int32) × ((Nat → Nat → Nat) × (Nat → Nat → Nat → Int32)))) × (((Nat → Int32) × ((Nat → Nat) × (Nat → Nat → Int32))) × ((Nat → Int32) × ((Nat → Int32) × (Nat → Int32))))) × ((((Nat → Int32) × ((Nat → Nat → Int32) × (Nat → Nat))) × ((Nat → Bool) × ((Nat → Nat) × (Nat → Nat)))) × (((Nat → Nat → Int32) × ((Nat → Nat → Int64) × (Nat → Nat → Int64))) × ((Nat → Nat → Option (Nat → Int64)) × ((Nat) × (Nat → Nat → Int32))))))
def x_dk (x : zSt) : Nat := x.1.1.1.1.1
def x_lk (x : zSt) : Int32 := x.1.1.1.1.2
def x_po (x : zSt) : Int32 := x.1.1.1.2.1
def x_ne (x : zSt) : Int32 := x.1.1.1.2.2.1
def x_td (x : zSt) : Int32 := x.1.1.1.2.2.2
def x_nb (x : zSt) : Nat → Int32 := x.1.1.2.1.1
def x_ln (x : zSt) : Nat → Option Nat := x.1.1.2.1.2.1
def x_nr (x : zSt) : Nat := x.1.1.2.1.2.2
def x_nw (x : zSt) : Nat := x.1.1.2.2.1
def x_nn (x : zSt) : Nat := x.1.1.2.2.2.1
def x_ns (x : zSt) : Nat := x.1.1.2.2.2.2
def x_or (x : zSt) : Nat := x.1.2.1.1.1
def x_ow (x : zSt) : Nat := x.1.2.1.1.2
def x_on (x : zSt) : Nat := x.1.2.1.2.1
def x_nl (x : zSt) : Nat := x.1.2.1.2.2.1
def x_ng (x : zSt) : Nat := x.1.2.1.2.2.2
def x_rg (x : zSt) : Nat := x.1.2.2.1.1
def x_lc (x : zSt) : Nat → Int32 := x.1.2.2.1.2.1
def x_cp (x : zSt) : Nat → Nat := x.1.2.2.1.2.2
def x_gb (x : zSt) : Nat → Nat → Option zAE := x.1.2.2.2.1
def x_sp (x : zSt) : Nat → Nat := x.1.2.2.2.2.1
def x_kn (x : zSt) : Nat → Int64 := x.1.2.2.2.2.2
def x_me (x : zSt) : Nat → Int64 := x.2.1.1.1.1
def x_ob (x : zSt) : Nat → Nat → Int64 := x.2.1.1.1.2
def x_fk (x : zSt) : Nat → Nat → Int32 := x.2.1.1.2.1
def x_fz (x : zSt) : Nat → Nat → Nat := x.2.1.1.2.2.1
def x_fg (x : zSt) : Nat → Nat → Nat → Int32 := x.2.1.1.2.2.2
def x_rd (x : zSt) : Nat → Int32 := x.2.1.2.1.1
def x_rz (x : zSt) : Nat → Nat := x.2.1.2.1.2.1
def x_rh (x : zSt) : Nat → Nat → Int32 := x.2.1.2.1.2.2
def x_nd (x : zSt) : Nat → Int32 := x.2.1.2.2.1
def x_nm (x : zSt) : Nat → Int32 := x.2.1.2.2.2.1
def x_nv (x : zSt) : Nat → Int32 := x.2.1.2.2.2.2
def x_nh (x : zSt) : Nat → Int32 := x.2.2.1.1.1
def x_nf (x : zSt) : Nat → Nat → Int32 := x.2.2.1.1.2.1
def x_wr (x : zSt) : Nat → Nat := x.2.2.1.1.2.2
def x_wa (x : zSt) : Nat → Bool := x.2.2.1.2.1
def x_lz (x : zSt) : Nat → Nat := x.2.2.1.2.2.1
def x_lf (x : zSt) : Nat → Nat := x.2.2.1.2.2.2
def x_li (x : zSt) : Nat → Nat → Int32 := x.2.2.2.1.1
def x_lt (x : zSt) : Nat → Nat → Int64 := x.2.2.2.1.2.1
def x_lb (x : zSt) : Nat → Nat → Int64 := x.2.2.2.1.2.2
def x_lr (x : zSt) : Nat → Nat → Option (Nat → Int64) := x.2.2.2.2.1
def x_tn (x : zSt) : Nat := x.2.2.2.2.2.1
def x_tf (x : zSt) : Nat → Nat → Int32 := x.2.2.2.2.2.2
def u_dk (x : zSt) (v : Nat) : zSt := (((((v, x.1.1.1.1.2), x.1.1.1.2), x.1.1.2), x.1.2), x.2)
def u_lk (x : zSt) (v : Int32) : zSt := (((((x.1.1.1.1.1, v), x.1.1.1.2), x.1.1.2), x.1.2), x.2)
def u_po (x : zSt) (v : Int32) : zSt := ((((x.1.1.1.1, (v, x.1.1.1.2.2)), x.1.1.2), x.1.2), x.2)
def u_ne (x : zSt) (v : Int32) : zSt := ((((x.1.1.1.1, (x.1.1.1.2.1, (v, x.1.1.1.2.2.2))), x.1.1.2), x.1.2), x.2)
def u_td (x : zSt) (v : Int32) : zSt := ((((x.1.1.1.1, (x.1.1.1.2.1, (x.1.1.1.2.2.1, v))), x.1.1.2), x.1.2), x.2)
def u_nb (x : zSt) (v : Nat → Int32) : zSt := (((x.1.1.1, ((v, x.1.1.2.1.2), x.1.1.2.2)), x.1.2), x.2)
def u_ln (x : zSt) (v : Nat → Option Nat) : zSt := (((x.1.1.1, ((x.1.1.2.1.1, (v, x.1.1.2.1.2.2)), x.1.1.2.2)), x.1.2), x.2)
def u_nr (x : zSt) (v : Nat) : zSt := (((x.1.1.1, ((x.1.1.2.1.1, (x.1.1.2.1.2.1, v)), x.1.1.2.2)), x.1.2), x.2)
def u_nw (x : zSt) (v : Nat) : zSt := (((x.1.1.1, (x.1.1.2.1, (v, x.1.1.2.2.2))), x.1.2), x.2)
def u_nn (x : zSt) (v : Nat) : zSt := (((x.1.1.1, (x.1.1.2.1, (x.1.1.2.2.1, (v, x.1.1.2.2.2.2)))), x.1.2), x.2)
def u_ns (x : zSt) (v : Nat) : zSt := (((x.1.1.1, (x.1.1.2.1, (x.1.1.2.2.1, (x.1.1.2.2.2.1, v)))), x.1.2), x.2)
def u_or (x : zSt) (v : Nat) : zSt := ((x.1.1, (((v, x.1.2.1.1.2), x.1.2.1.2), x.1.2.2)), x.2)
def u_ow (x : zSt) (v : Nat) : zSt := ((x.1.1, (((x.1.2.1.1.1, v), x.1.2.1.2), x.1.2.2)), x.2)
def u_on (x : zSt) (v : Nat) : zSt := ((x.1.1, ((x.1.2.1.1, (v, x.1.2.1.2.2)), x.1.2.2)), x.2)
def u_nl (x : zSt) (v : Nat) : zSt := ((x.1.1, ((x.1.2.1.1, (x.1.2.1.2.1, (v, x.1.2.1.2.2.2))), x.1.2.2)), x.2)
def u_ng (x : zSt) (v : Nat) : zSt := ((x.1.1, ((x.1.2.1.1, (x.1.2.1.2.1, (x.1.2.1.2.2.1, v))), x.1.2.2)), x.2)
def u_rg (x : zSt) (v : Nat) : zSt := ((x.1.1, (x.1.2.1, ((v, x.1.2.2.1.2), x.1.2.2.2))), x.2)
def u_lc (x : zSt) (v : Nat → Int32) : zSt := ((x.1.1, (x.1.2.1, ((x.1.2.2.1.1, (v, x.1.2.2.1.2.2)), x.1.2.2.2))), x.2)
def u_cp (x : zSt) (v : Nat → Nat) : zSt := ((x.1.1, (x.1.2.1, ((x.1.2.2.1.1, (x.1.2.2.1.2.1, v)), x.1.2.2.2))), x.2)
def u_gb (x : zSt) (v : Nat → Nat → Option zAE) : zSt := ((x.1.1, (x.1.2.1, (x.1.2.2.1, (v, x.1.2.2.2.2)))), x.2)
def u_sp (x : zSt) (v : Nat → Nat) : zSt := ((x.1.1, (x.1.2.1, (x.1.2.2.1, (x.1.2.2.2.1, (v, x.1.2.2.2.2.2))))), x.2)
def u_kn (x : zSt) (v : Nat → Int64) : zSt := ((x.1.1, (x.1.2.1, (x.1.2.2.1, (x.1.2.2.2.1, (x.1.2.2.2.2.1, v))))), x.2)
def u_me (x : zSt) (v : Nat → Int64) : zSt := (x.1, ((((v, x.2.1.1.1.2), x.2.1.1.2), x.2.1.2), x.2.2))
def u_ob (x : zSt) (v : Nat → Nat → Int64) : zSt := (x.1, ((((x.2.1.1.1.1, v), x.2.1.1.2), x.2.1.2), x.2.2))
def u_fk (x : zSt) (v : Nat → Nat → Int32) : zSt := (x.1, (((x.2.1.1.1, (v, x.2.1.1.2.2)), x.2.1.2), x.2.2))
def u_fz (x : zSt) (v : Nat → Nat → Nat) : zSt := (x.1, (((x.2.1.1.1, (x.2.1.1.2.1, (v, x.2.1.1.2.2.2))), x.2.1.2), x.2.2))
def u_fg (x : zSt) (v : Nat → Nat → Nat → Int32) : zSt := (x.1, (((x.2.1.1.1, (x.2.1.1.2.1, (x.2.1.1.2.2.1, v))), x.2.1.2), x.2.2))
def u_rd (x : zSt) (v : Nat → Int32) : zSt := (x.1, ((x.2.1.1, ((v, x.2.1.2.1.2), x.2.1.2.2)), x.2.2))
def u_rz (x : zSt) (v : Nat → Nat) : zSt := (x.1, ((x.2.1.1, ((x.2.1.2.1.1, (v, x.2.1.2.1.2.2)), x.2.1.2.2)), x.2.2))
def u_rh (x : zSt) (v : Nat → Nat → Int32) : zSt := (x.1, ((x.2.1.1, ((x.2.1.2.1.1, (x.2.1.2.1.2.1, v)), x.2.1.2.2)), x.2.2))
def u_nd (x : zSt) (v : Nat → Int32) : zSt := (x.1, ((x.2.1.1, (x.2.1.2.1, (v, x.2.1.2.2.2))), x.2.2))
def u_nm (x : zSt) (v : Nat → Int32) : zSt := (x.1, ((x.2.1.1, (x.2.1.2.1, (x.2.1.2.2.1, (v, x.2.1.2.2.2.2)))), x.2.2))
def u_nv (x : zSt) (v : Nat → Int32) : zSt := (x.1, ((x.2.1.1, (x.2.1.2.1, (x.2.1.2.2.1, (x.2.1.2.2.2.1, v)))), x.2.2))
def u_nh (x : zSt) (v : Nat → Int32) : zSt := (x.1, (x.2.1, (((v, x.2.2.1.1.2), x.2.2.1.2), x.2.2.2)))
def u_nf (x : zSt) (v : Nat → Nat → Int32) : zSt := (x.1, (x.2.1, (((x.2.2.1.1.1, (v, x.2.2.1.1.2.2)), x.2.2.1.2), x.2.2.2)))
def u_wr (x : zSt) (v : Nat → Nat) : zSt := (x.1, (x.2.1, (((x.2.2.1.1.1, (x.2.2.1.1.2.1, v)), x.2.2.1.2), x.2.2.2)))
def u_wa (x : zSt) (v : Nat → Bool) : zSt := (x.1, (x.2.1, ((x.2.2.1.1, (v, x.2.2.1.2.2)), x.2.2.2)))
def u_lz (x : zSt) (v : Nat → Nat) : zSt := (x.1, (x.2.1, ((x.2.2.1.1, (x.2.2.1.2.1, (v, x.2.2.1.2.2.2))), x.2.2.2)))
def u_lf (x : zSt) (v : Nat → Nat) : zSt := (x.1, (x.2.1, ((x.2.2.1.1, (x.2.2.1.2.1, (x.2.2.1.2.2.1, v))), x.2.2.2)))
def u_li (x : zSt) (v : Nat → Nat → Int32) : zSt := (x.1, (x.2.1, (x.2.2.1, ((v, x.2.2.2.1.2), x.2.2.2.2))))
def u_lt (x : zSt) (v : Nat → Nat → Int64) : zSt := (x.1, (x.2.1, (x.2.2.1, ((x.2.2.2.1.1, (v, x.2.2.2.1.2.2)), x.2.2.2.2))))
def u_lb (x : zSt) (v : Nat → Nat → Int64) : zSt := (x.1, (x.2.1, (x.2.2.1, ((x.2.2.2.1.1, (x.2.2.2.1.2.1, v)), x.2.2.2.2))))
def u_lr (x : zSt) (v : Nat → Nat → Option (Nat → Int64)) : zSt := (x.1, (x.2.1, (x.2.2.1, (x.2.2.2.1, (v, x.2.2.2.2.2)))))
def u_tn (x : zSt) (v : Nat) : zSt := (x.1, (x.2.1, (x.2.2.1, (x.2.2.2.1, (x.2.2.2.2.1, (v, x.2.2.2.2.2.2))))))
def u_tf (x : zSt) (v : Nat → Nat → Int32) : zSt := (x.1, (x.2.1, (x.2.2.1, (x.2.2.2.1, (x.2.2.2.2.1, (x.2.2.2.2.2.1, v))))))
/-- the name of a list's row -/
def x_dn (x : zSt) (i : Nat) : zNm := if x_cp x i = 0 then znE else (2, i, x_cp x i)
/-- what the four lists hold: readers, wishes, notices, spare lanes -/
def x_el (x : zSt) (i : Nat) : Nat → Option zNm := fun k => if i = 0 then (if k < x_nr x then some (10, k, 0) else none) else if i = 1 then (if k < x_nw x then some (15, k, 0) else none) else if i = 2 then (if k < x_nn x then some (12, k, 0) else none) else (if k < x_ns x then some (16, x_sp x k, 0) else none)
def x_sz (x : zSt) (i : Nat) : Nat := if i = 0 then x_nr x else if i = 1 then x_nw x else if i = 2 then x_nn x else x_ns x
/-- the words of the row (i, j) -/
def x_rw (x : zSt) (i j : Nat) : Option (Nat → Int64) := if i = 0 then (if j = 0 then some (x_kn x) else if j = 1 then some (x_me x) else none) else if i = 1 then (if j < x_ow x then some (x_ob x j) else none) else if i = 2 then (if j < x_nl x then some (x_lt x j) else none) else if i = 3 then (if j < x_nl x then some (x_lb x j) else none) else (if i - 4 < x_nl x ∧ j < 121 then x_lr x (i - 4) j else none)
def x_main (x : zSt) : zAE := .inr (7, [.inr (1, 0, 0), .inr (1, 1, 0), .inr (1, 2, 0), .inr (3, 0, 0), .inr (4, 0, 0), .inr (1, 3, 0), .inr (5, 0, 0), .inr (5, 0, 1), .inr (9, x_rg x, 0), .inl (.int (nI (x_dk x))), .inl (.int (x_lk x)), .inl (.int (x_po x)), .inl (.int (x_ne x)), .inl (.int (x_td x))])
abbrev zra (C : String) (n : Nat) (f : Nat → Option zNm) : zAE := .inl (.object C, n, .inr (.inr f))
def x_lane (x : zSt) (j : Nat) : zAE := .inr (2, [.inr (5, 2, j), .inr (5, 3, j), .inl (.int (nI (x_lz x j))), .inr (17, j, 0), .inr (18, j, 0), .inl (.int (nI (x_lf x j)))])
def x_lrs (x : zSt) (j : Nat) : Nat → Option zNm := fun s => if s < 121 then (x_lr x j s).map (fun _ => (5, 4 + j, s)) else none
def x_rdr (x : zSt) (i : Nat) : zAE := .inr (4, [.inl (.int (x_rd x i)), .inr (11, i, 0), .inl (.int (nI (x_rz x i)))])
def x_ntc (x : zSt) (i : Nat) : zAE := .inr (3, [.inl (.int (nI i)), .inl (.int (x_nd x i)), .inr (13, i, 0), .inl (.int (x_nm x i)), .inl (.int (x_nv x i)), .inl (.int (x_nh x i))])
def x_wsh (x : zSt) (i : Nat) : zAE := .inr (6, [.inl (.int (nI (x_wr x i))), .inr (10, x_wr x i, 0), .inr (9, i, 0), .inr (5, 1, i), .inl (.int (zb (x_wa x i)))])
def x_fts (i : Nat) : Nat → Option zNm := fun f => if f < 4 then some (7, i, f) else none
def pic (x : zSt) : zMp := fun n => match n with
  | (k, i, j) => match k with
    | 0 => if i = 0 ∧ j = 0 then some (x_main x) else none
    | 1 => if i < 4 ∧ j = 0 then some (zal (x_lc x i) (x_dn x i) (x_sz x i)) else none
    | 2 => if i < 4 ∧ 0 < j ∧ j = x_cp x i then some (zoa (x_cp x i) (x_el x i)) else x_gb x i j
    | 3 => if i = 0 ∧ j = 0 then some (zin 12 (x_nb x)) else none
    | 4 => if i = 0 ∧ j = 0 then some (zra "WishRoutes$Lane" 144 (fun p => (x_ln x p).map (fun l => (16, l, 0)))) else none
    | 5 => (x_rw x i j).map (fun _ => .inr (5, [.inr (6, i, j)]))
    | 6 => (x_rw x i j).map zlo
    | 7 => if i < x_ng x ∧ j < 4 then some (zfo (x_fk x i j) (8, i, j) (x_fz x i j)) else none
    | 8 => if i < x_ng x ∧ j < 4 then some (zin 4 (x_fg x i j)) else none
    | 9 => if i < x_ng x ∧ j = 0 then some (zra "WishRoutes$FieldTest" 4 (x_fts i)) else none
    | 10 => if i < x_or x ∧ j = 0 then some (x_rdr x i) else none
    | 11 => if i < x_or x ∧ j = 0 then some (zin 600 (x_rh x i)) else none
    | 12 => if i < x_on x ∧ j = 0 then some (x_ntc x i) else none
    | 13 => if i < x_on x ∧ j = 0 then some (zin 4 (x_nf x i)) else none
    | 14 => if i < x_tn x ∧ j = 0 then some (zin 4 (x_tf x i)) else none
    | 15 => if i < x_ow x ∧ j = 0 then some (x_wsh x i) else none
    | 16 => if i < x_nl x ∧ j = 0 then some (x_lane x i) else none
    | 17 => if i < x_nl x ∧ j = 0 then some (zin 121 (x_li x i)) else none
    | 18 => if i < x_nl x ∧ j = 0 then some (zra "WishRoutes$Row" 121 (x_lrs x i)) else none
    | k + 19 => if k = 71 ∧ i = 0 ∧ j = 0 then some (zoa 0 (fun _ => none)) else none
/-- a world is a picture's after one write -/
theorem pic_up {x x' : zSt} {a : zNm} {e : zAE} (h1 : pic x' a = some e) (h2 : ∀ n, n ≠ a → pic x n = pic x' n) : zup (pic x) a e = pic x' := by
  funext n
  by_cases h : n = a
  · subst h; rw [zup_s, h1]
  · rw [zup_o h, h2 n h]

theorem pic_E (x : zSt) : pic x znE = some (zoa 0 (fun _ => none)) := rfl
def va_u2 {α : Type} (f : Nat → Nat → α) (a b : Nat) (v : α) : Nat → Nat → α := fun i j => if i = a ∧ j = b then v else f i j

theorem pu_lk (x : zSt) (v : Int32) : zup (pic x) (0, 0, 0) (x_main (u_lk x v)) = pic (u_lk x v) := by
  refine pic_up rfl (fun n hn => ?_)
  obtain ⟨k, i, j⟩ := n
  rcases k with _ | _ | _ | _ | _ | _ | _ | _ | _ | _ | _ | _ | _ | _ | _ | _ | _ | _ | _ | k
  all_goals first | rfl | skip
  simp only [pic]
  have hn : ¬ (i = 0 ∧ j = 0) := fun h => hn (by rw [h.1, h.2])
  rw [if_neg hn, if_neg hn]
theorem pu_po (x : zSt) (v : Int32) : zup (pic x) (0, 0, 0) (x_main (u_po x v)) = pic (u_po x v) := by
  refine pic_up rfl (fun n hn => ?_)
  obtain ⟨k, i, j⟩ := n
  rcases k with _ | _ | _ | _ | _ | _ | _ | _ | _ | _ | _ | _ | _ | _ | _ | _ | _ | _ | _ | k
  all_goals first | rfl | skip
  simp only [pic]
  have hn : ¬ (i = 0 ∧ j = 0) := fun h => hn (by rw [h.1, h.2])
  rw [if_neg hn, if_neg hn]
theorem pu_ne (x : zSt) (v : Int32) : zup (pic x) (0, 0, 0) (x_main (u_ne x v)) = pic (u_ne x v) := by
  refine pic_up rfl (fun n hn => ?_)
  obtain ⟨k, i, j⟩ := n
  rcases k with _ | _ | _ | _ | _ | _ | _ | _ | _ | _ | _ | _ | _ | _ | _ | _ | _ | _ | _ | k
  all_goals first | rfl | skip
  simp only [pic]
  have hn : ¬ (i = 0 ∧ j = 0) := fun h => hn (by rw [h.1, h.2])
  rw [if_neg hn, if_neg hn]
theorem pu_td (x : zSt) (v : Int32) : zup (pic x) (0, 0, 0) (x_main (u_td x v)) = pic (u_td x v) := by
  refine pic_up rfl (fun n hn => ?_)
  obtain ⟨k, i, j⟩ := n
  rcases k with _ | _ | _ | _ | _ | _ | _ | _ | _ | _ | _ | _ | _ | _ | _ | _ | _ | _ | _ | k
  all_goals first | rfl | skip
  simp only [pic]
  have hn : ¬ (i = 0 ∧ j = 0) := fun h => hn (by rw [h.1, h.2])
  rw [if_neg hn, if_neg hn]
theorem pu_dk (x : zSt) (v : Nat) : zup (pic x) (0, 0, 0) (x_main (u_dk x v)) = pic (u_dk x v) := by
  refine pic_up rfl (fun n hn => ?_)
  obtain ⟨k, i, j⟩ := n
  rcases k with _ | _ | _ | _ | _ | _ | _ | _ | _ | _ | _ | _ | _ | _ | _ | _ | _ | _ | _ | k
  all_goals first | rfl | skip
  simp only [pic]
  have hn : ¬ (i = 0 ∧ j = 0) := fun h => hn (by rw [h.1, h.2])
  rw [if_neg hn, if_neg hn]
theorem pu_rg (x : zSt) (v : Nat) : zup (pic x) (0, 0, 0) (x_main (u_rg x v)) = pic (u_rg x v) := by
  refine pic_up rfl (fun n hn => ?_)
  obtain ⟨k, i, j⟩ := n
  rcases k with _ | _ | _ | _ | _ | _ | _ | _ | _ | _ | _ | _ | _ | _ | _ | _ | _ | _ | _ | k
  all_goals first | rfl | skip
  simp only [pic]
  have hn : ¬ (i = 0 ∧ j = 0) := fun h => hn (by rw [h.1, h.2])
  rw [if_neg hn, if_neg hn]
theorem pu_rd (x : zSt) (a : Nat) (v : Int32) (h : a < x_or x) : zup (pic x) (10, a, 0) (x_rdr (u_rd x (va_up (x_rd x) a v)) a) = pic (u_rd x (va_up (x_rd x) a v)) := by
  refine pic_up (if_pos ⟨h, rfl⟩) (fun n hn => ?_)
  obtain ⟨k, i, j⟩ := n
  rcases k with _ | _ | _ | _ | _ | _ | _ | _ | _ | _ | _ | _ | _ | _ | _ | _ | _ | _ | _ | k
  all_goals first | rfl | skip
  simp only [pic]
  by_cases hi : i = a
  · subst hi
    have hj : ¬ j = 0 := fun q => hn (by rw [q])
    rw [if_neg (fun q => hj q.2), if_neg (fun q => hj q.2)]
  · have e : x_rdr (u_rd x (va_up (x_rd x) a v)) i = x_rdr x i := by
      simp only [x_rdr, x_rd, u_rd, va_up, hi, if_false]
      try rfl
    rw [e]
    rfl
theorem pu_rz (x : zSt) (a : Nat) (v : Nat) (h : a < x_or x) : zup (pic x) (10, a, 0) (x_rdr (u_rz x (va_up (x_rz x) a v)) a) = pic (u_rz x (va_up (x_rz x) a v)) := by
  refine pic_up (if_pos ⟨h, rfl⟩) (fun n hn => ?_)
  obtain ⟨k, i, j⟩ := n
  rcases k with _ | _ | _ | _ | _ | _ | _ | _ | _ | _ | _ | _ | _ | _ | _ | _ | _ | _ | _ | k
  all_goals first | rfl | skip
  simp only [pic]
  by_cases hi : i = a
  · subst hi
    have hj : ¬ j = 0 := fun q => hn (by rw [q])
    rw [if_neg (fun q => hj q.2), if_neg (fun q => hj q.2)]
  · have e : x_rdr (u_rz x (va_up (x_rz x) a v)) i = x_rdr x i := by
      simp only [x_rdr, x_rz, u_rz, va_up, hi, if_false]
      try rfl
    rw [e]
    rfl
theorem pu_nm (x : zSt) (a : Nat) (v : Int32) (h : a < x_on x) : zup (pic x) (12, a, 0) (x_ntc (u_nm x (va_up (x_nm x) a v)) a) = pic (u_nm x (va_up (x_nm x) a v)) := by
  refine pic_up (if_pos ⟨h, rfl⟩) (fun n hn => ?_)
  obtain ⟨k, i, j⟩ := n
  rcases k with _ | _ | _ | _ | _ | _ | _ | _ | _ | _ | _ | _ | _ | _ | _ | _ | _ | _ | _ | k
  all_goals first | rfl | skip
  simp only [pic]
  by_cases hi : i = a
  · subst hi
    have hj : ¬ j = 0 := fun q => hn (by rw [q])
    rw [if_neg (fun q => hj q.2), if_neg (fun q => hj q.2)]
  · have e : x_ntc (u_nm x (va_up (x_nm x) a v)) i = x_ntc x i := by
      simp only [x_ntc, x_nm, u_nm, va_up, hi, if_false]
      try rfl
    rw [e]
    rfl
theorem pu_nv (x : zSt) (a : Nat) (v : Int32) (h : a < x_on x) : zup (pic x) (12, a, 0) (x_ntc (u_nv x (va_up (x_nv x) a v)) a) = pic (u_nv x (va_up (x_nv x) a v)) := by
  refine pic_up (if_pos ⟨h, rfl⟩) (fun n hn => ?_)
  obtain ⟨k, i, j⟩ := n
  rcases k with _ | _ | _ | _ | _ | _ | _ | _ | _ | _ | _ | _ | _ | _ | _ | _ | _ | _ | _ | k
  all_goals first | rfl | skip
  simp only [pic]
  by_cases hi : i = a
  · subst hi
    have hj : ¬ j = 0 := fun q => hn (by rw [q])
    rw [if_neg (fun q => hj q.2), if_neg (fun q => hj q.2)]
  · have e : x_ntc (u_nv x (va_up (x_nv x) a v)) i = x_ntc x i := by
      simp only [x_ntc, x_nv, u_nv, va_up, hi, if_false]
      try rfl
    rw [e]
    rfl
theorem pu_nh (x : zSt) (a : Nat) (v : Int32) (h : a < x_on x) : zup (pic x) (12, a, 0) (x_ntc (u_nh x (va_up (x_nh x) a v)) a) = pic (u_nh x (va_up (x_nh x) a v)) := by
  refine pic_up (if_pos ⟨h, rfl⟩) (fun n hn => ?_)
  obtain ⟨k, i, j⟩ := n
  rcases k with _ | _ | _ | _ | _ | _ | _ | _ | _ | _ | _ | _ | _ | _ | _ | _ | _ | _ | _ | k
  all_goals first | rfl | skip
  simp only [pic]
  by_cases hi : i = a
  · subst hi
    have hj : ¬ j = 0 := fun q => hn (by rw [q])
    rw [if_neg (fun q => hj q.2), if_neg (fun q => hj q.2)]
  · have e : x_ntc (u_nh x (va_up (x_nh x) a v)) i = x_ntc x i := by
      simp only [x_ntc, x_nh, u_nh, va_up, hi, if_false]
      try rfl
    rw [e]
    rfl
theorem pu_wa (x : zSt) (a : Nat) (v : Bool) (h : a < x_ow x) : zup (pic x) (15, a, 0) (x_wsh (u_wa x (va_up (x_wa x) a v)) a) = pic (u_wa x (va_up (x_wa x) a v)) := by
  refine pic_up (if_pos ⟨h, rfl⟩) (fun n hn => ?_)
  obtain ⟨k, i, j⟩ := n
  rcases k with _ | _ | _ | _ | _ | _ | _ | _ | _ | _ | _ | _ | _ | _ | _ | _ | _ | _ | _ | k
  all_goals first | rfl | skip
  simp only [pic]
  by_cases hi : i = a
  · subst hi
    have hj : ¬ j = 0 := fun q => hn (by rw [q])
    rw [if_neg (fun q => hj q.2), if_neg (fun q => hj q.2)]
  · have e : x_wsh (u_wa x (va_up (x_wa x) a v)) i = x_wsh x i := by
      simp only [x_wsh, x_wa, u_wa, va_up, hi, if_false]
      try rfl
    rw [e]
    rfl
theorem pu_lz (x : zSt) (a : Nat) (v : Nat) (h : a < x_nl x) : zup (pic x) (16, a, 0) (x_lane (u_lz x (va_up (x_lz x) a v)) a) = pic (u_lz x (va_up (x_lz x) a v)) := by
  refine pic_up (if_pos ⟨h, rfl⟩) (fun n hn => ?_)
  obtain ⟨k, i, j⟩ := n
  rcases k with _ | _ | _ | _ | _ | _ | _ | _ | _ | _ | _ | _ | _ | _ | _ | _ | _ | _ | _ | k
  all_goals first | rfl | skip
  simp only [pic]
  by_cases hi : i = a
  · subst hi
    have hj : ¬ j = 0 := fun q => hn (by rw [q])
    rw [if_neg (fun q => hj q.2), if_neg (fun q => hj q.2)]
  · have e : x_lane (u_lz x (va_up (x_lz x) a v)) i = x_lane x i := by
      simp only [x_lane, x_lz, u_lz, va_up, hi, if_false]
      try rfl
    rw [e]
    rfl
theorem pu_lf (x : zSt) (a : Nat) (v : Nat) (h : a < x_nl x) : zup (pic x) (16, a, 0) (x_lane (u_lf x (va_up (x_lf x) a v)) a) = pic (u_lf x (va_up (x_lf x) a v)) := by
  refine pic_up (if_pos ⟨h, rfl⟩) (fun n hn => ?_)
  obtain ⟨k, i, j⟩ := n
  rcases k with _ | _ | _ | _ | _ | _ | _ | _ | _ | _ | _ | _ | _ | _ | _ | _ | _ | _ | _ | k
  all_goals first | rfl | skip
  simp only [pic]
  by_cases hi : i = a
  · subst hi
    have hj : ¬ j = 0 := fun q => hn (by rw [q])
    rw [if_neg (fun q => hj q.2), if_neg (fun q => hj q.2)]
  · have e : x_lane (u_lf x (va_up (x_lf x) a v)) i = x_lane x i := by
      simp only [x_lane, x_lf, u_lf, va_up, hi, if_false]
      try rfl
    rw [e]
    rfl
theorem pu_rh (x : zSt) (a : Nat) (v : Nat → Int32) (h : a < x_or x) : zup (pic x) (11, a, 0) (zin 600 v) = pic (u_rh x (va_up (x_rh x) a v)) := by
  refine pic_up ((if_pos ⟨h, rfl⟩).trans (by simp only [x_rh, u_rh, va_up, if_true])) (fun n hn => ?_)
  obtain ⟨k, i, j⟩ := n
  rcases k with _ | _ | _ | _ | _ | _ | _ | _ | _ | _ | _ | _ | _ | _ | _ | _ | _ | _ | _ | k
  all_goals first | rfl | skip
  simp only [pic]
  by_cases hi : i = a
  · subst hi
    have hj : ¬ j = 0 := fun q => hn (by rw [q])
    rw [if_neg (fun q => hj q.2), if_neg (fun q => hj q.2)]
  · have e : x_rh (u_rh x (va_up (x_rh x) a v)) i = x_rh x i := by
      simp only [x_rh, u_rh, va_up, hi, if_false]
    rw [e]
    rfl
theorem pu_nf (x : zSt) (a : Nat) (v : Nat → Int32) (h : a < x_on x) : zup (pic x) (13, a, 0) (zin 4 v) = pic (u_nf x (va_up (x_nf x) a v)) := by
  refine pic_up ((if_pos ⟨h, rfl⟩).trans (by simp only [x_nf, u_nf, va_up, if_true])) (fun n hn => ?_)
  obtain ⟨k, i, j⟩ := n
  rcases k with _ | _ | _ | _ | _ | _ | _ | _ | _ | _ | _ | _ | _ | _ | _ | _ | _ | _ | _ | k
  all_goals first | rfl | skip
  simp only [pic]
  by_cases hi : i = a
  · subst hi
    have hj : ¬ j = 0 := fun q => hn (by rw [q])
    rw [if_neg (fun q => hj q.2), if_neg (fun q => hj q.2)]
  · have e : x_nf (u_nf x (va_up (x_nf x) a v)) i = x_nf x i := by
      simp only [x_nf, u_nf, va_up, hi, if_false]
    rw [e]
    rfl
theorem pu_li (x : zSt) (a : Nat) (v : Nat → Int32) (h : a < x_nl x) : zup (pic x) (17, a, 0) (zin 121 v) = pic (u_li x (va_up (x_li x) a v)) := by
  refine pic_up ((if_pos ⟨h, rfl⟩).trans (by simp only [x_li, u_li, va_up, if_true])) (fun n hn => ?_)
  obtain ⟨k, i, j⟩ := n
  rcases k with _ | _ | _ | _ | _ | _ | _ | _ | _ | _ | _ | _ | _ | _ | _ | _ | _ | _ | _ | k
  all_goals first | rfl | skip
  simp only [pic]
  by_cases hi : i = a
  · subst hi
    have hj : ¬ j = 0 := fun q => hn (by rw [q])
    rw [if_neg (fun q => hj q.2), if_neg (fun q => hj q.2)]
  · have e : x_li (u_li x (va_up (x_li x) a v)) i = x_li x i := by
      simp only [x_li, u_li, va_up, hi, if_false]
    rw [e]
    rfl
theorem pu_ft (x : zSt) (a b : Nat) (kd : Int32) (sz : Nat) (h : a < x_ng x) (h2 : b < 4) : zup (pic x) (7, a, b) (zfo kd (8, a, b) sz) = pic (u_fk (u_fz x (va_u2 (x_fz x) a b sz)) (va_u2 (x_fk x) a b kd)) := by
  refine pic_up ((if_pos ⟨h, h2⟩).trans (by simp only [x_fk, u_fk, x_fz, u_fz, va_u2, and_self, if_true])) (fun n hn => ?_)
  obtain ⟨k, i, j⟩ := n
  rcases k with _ | _ | _ | _ | _ | _ | _ | _ | _ | _ | _ | _ | _ | _ | _ | _ | _ | _ | _ | k
  all_goals first | rfl | skip
  simp only [pic]
  have hn : ¬ (i = a ∧ j = b) := fun h => hn (by rw [h.1, h.2])
  have e1 : x_fk (u_fk (u_fz x (va_u2 (x_fz x) a b sz)) (va_u2 (x_fk x) a b kd)) i j = x_fk x i j := by
    simp only [x_fk, u_fk, va_u2, hn, if_false]
  have e2 : x_fz (u_fk (u_fz x (va_u2 (x_fz x) a b sz)) (va_u2 (x_fk x) a b kd)) i j = x_fz x i j := by
    simp only [x_fz, u_fk, u_fz, va_u2, hn, if_false]
  rw [e1, e2]
  rfl
theorem pu_fg (x : zSt) (a b : Nat) (v : Nat → Int32) (h : a < x_ng x) (h2 : b < 4) : zup (pic x) (8, a, b) (zin 4 v) = pic (u_fg x (va_u2 (x_fg x) a b v)) := by
  refine pic_up ((if_pos ⟨h, h2⟩).trans (by simp only [x_fg, u_fg, va_u2, and_self, if_true])) (fun n hn => ?_)
  obtain ⟨k, i, j⟩ := n
  rcases k with _ | _ | _ | _ | _ | _ | _ | _ | _ | _ | _ | _ | _ | _ | _ | _ | _ | _ | _ | k
  all_goals first | rfl | skip
  simp only [pic]
  have hn : ¬ (i = a ∧ j = b) := fun h => hn (by rw [h.1, h.2])
  have e1 : x_fg (u_fg x (va_u2 (x_fg x) a b v)) i j = x_fg x i j := by
    simp only [x_fg, u_fg, va_u2, hn, if_false]
  rw [e1]
  rfl
theorem pu_nb (x : zSt) (v : Nat → Int32) : zup (pic x) (3, 0, 0) (zin 12 v) = pic (u_nb x v) := by
  refine pic_up rfl (fun n hn => ?_)
  obtain ⟨k, i, j⟩ := n
  rcases k with _ | _ | _ | _ | _ | _ | _ | _ | _ | _ | _ | _ | _ | _ | _ | _ | _ | _ | _ | k
  all_goals first | rfl | skip
  simp only [pic]
  have hn : ¬ (i = 0 ∧ j = 0) := fun h => hn (by rw [h.1, h.2])
  rw [if_neg hn, if_neg hn]
theorem pu_ln (x : zSt) (v : Nat → Option Nat) : zup (pic x) (4, 0, 0) (zra "WishRoutes$Lane" 144 (fun p => (v p).map (fun l => (16, l, 0)))) = pic (u_ln x v) := by
  refine pic_up rfl (fun n hn => ?_)
  obtain ⟨k, i, j⟩ := n
  rcases k with _ | _ | _ | _ | _ | _ | _ | _ | _ | _ | _ | _ | _ | _ | _ | _ | _ | _ | _ | k
  all_goals first | rfl | skip
  simp only [pic]
  have hn : ¬ (i = 0 ∧ j = 0) := fun h => hn (by rw [h.1, h.2])
  rw [if_neg hn, if_neg hn]
/-- words of rows -/
theorem pu_rw (x x' : zSt) (a b : Nat) (f : Nat → Int64) (hr : ∀ i j, x_rw x' i j = if i = a ∧ j = b then some f else x_rw x i j) (hs : x_rw x a b ≠ none) (ho : ∀ k i j, k ≠ 5 → k ≠ 6 → pic x (k, i, j) = pic x' (k, i, j)) : zup (pic x) (6, a, b) (zlo f) = pic x' := by
  refine pic_up ?_ (fun n hn => ?_)
  · show (x_rw x' a b).map zlo = _
    rw [hr, if_pos ⟨rfl, rfl⟩]
    rfl
  · obtain ⟨k, i, j⟩ := n
    by_cases h5 : k = 5
    · subst h5
      show (x_rw x i j).map _ = (x_rw x' i j).map _
      rw [hr]
      split
      · next h =>
        obtain ⟨rfl, rfl⟩ := h
        cases hq : x_rw x i j with
        | none => exact absurd hq hs
        | some g => rfl
      · rfl
    · by_cases h6 : k = 6
      · subst h6
        show (x_rw x i j).map _ = (x_rw x' i j).map _
        rw [hr, if_neg (fun h => hn (by rw [h.1, h.2]))]
      · exact ho k i j h5 h6
theorem pu_kn (x : zSt) (f : Nat → Int64) : zup (pic x) (6, 0, 0) (zlo f) = pic (u_kn x f) := by
  refine pu_rw x _ 0 0 f (fun i j => ?_) (by simp [x_rw]) (fun k i j h5 h6 => ?_)
  · by_cases hi : i = 0
    · subst hi
      by_cases hj : j = 0
      · subst hj; rfl
      · have : ¬ (0 = 0 ∧ j = 0) := fun h => hj h.2
        rw [if_neg this]; rw [x_rw, x_rw, if_pos rfl, if_pos rfl, if_neg hj, if_neg hj]; rfl
    · have : ¬ (i = 0 ∧ j = 0) := fun h => hi h.1
      rw [if_neg this]; rw [x_rw, x_rw, if_neg hi, if_neg hi]; rfl
  · rcases k with _ | _ | _ | _ | _ | _ | _ | _ | _ | _ | _ | _ | _ | _ | _ | _ | _ | _ | _ | k
    all_goals first | rfl | exact absurd rfl h5 | exact absurd rfl h6
theorem pu_me (x : zSt) (f : Nat → Int64) : zup (pic x) (6, 0, 1) (zlo f) = pic (u_me x f) := by
  refine pu_rw x _ 0 1 f (fun i j => ?_) (by simp [x_rw]) (fun k i j h5 h6 => ?_)
  · by_cases hi : i = 0
    · subst hi
      by_cases hj : j = 1
      · subst hj; rfl
      · have : ¬ (0 = 0 ∧ j = 1) := fun h => hj h.2
        rw [if_neg this]; rw [x_rw, x_rw, if_pos rfl, if_pos rfl, if_neg hj, if_neg hj]; rfl
    · have : ¬ (i = 0 ∧ j = 1) := fun h => hi h.1
      rw [if_neg this]; rw [x_rw, x_rw, if_neg hi, if_neg hi]; rfl
  · rcases k with _ | _ | _ | _ | _ | _ | _ | _ | _ | _ | _ | _ | _ | _ | _ | _ | _ | _ | _ | k
    all_goals first | rfl | exact absurd rfl h5 | exact absurd rfl h6
theorem pu_ob (x : zSt) (w : Nat) (f : Nat → Int64) (hw : w < x_ow x) : zup (pic x) (6, 1, w) (zlo f) = pic (u_ob x (va_up (x_ob x) w f)) := by
  refine pu_rw x _ 1 w f (fun i j => ?_) (by simp [x_rw, hw]) (fun k i j h5 h6 => ?_)
  · by_cases hi : i = 1
    · subst hi
      have e : x_ob (u_ob x (va_up (x_ob x) w f)) j = if j = w then f else x_ob x j := by simp only [x_ob, u_ob, va_up]
      have e2 : x_ow (u_ob x (va_up (x_ob x) w f)) = x_ow x := rfl
      simp only [x_rw, e, e2]
      by_cases hj : j = w
      · subst hj; simp [hw]
      · simp [hj]
    · have : ¬ (i = 1 ∧ j = w) := fun h => hi h.1
      rw [if_neg this]
      simp only [x_rw, hi, if_false]
      rfl
  · rcases k with _ | _ | _ | _ | _ | _ | _ | _ | _ | _ | _ | _ | _ | _ | _ | _ | _ | _ | _ | k
    all_goals first | rfl | exact absurd rfl h5 | exact absurd rfl h6
theorem pu_lt (x : zSt) (w : Nat) (f : Nat → Int64) (hw : w < x_nl x) : zup (pic x) (6, 2, w) (zlo f) = pic (u_lt x (va_up (x_lt x) w f)) := by
  refine pu_rw x _ 2 w f (fun i j => ?_) (by simp [x_rw, hw]) (fun k i j h5 h6 => ?_)
  · by_cases hi : i = 2
    · subst hi
      have e : x_lt (u_lt x (va_up (x_lt x) w f)) j = if j = w then f else x_lt x j := by simp only [x_lt, u_lt, va_up]
      have e2 : x_nl (u_lt x (va_up (x_lt x) w f)) = x_nl x := rfl
      simp only [x_rw, e, e2]
      by_cases hj : j = w
      · subst hj; simp [hw]
      · simp [hj]
    · have : ¬ (i = 2 ∧ j = w) := fun h => hi h.1
      rw [if_neg this]
      simp only [x_rw, hi, if_false]
      rfl
  · rcases k with _ | _ | _ | _ | _ | _ | _ | _ | _ | _ | _ | _ | _ | _ | _ | _ | _ | _ | _ | k
    all_goals first | rfl | exact absurd rfl h5 | exact absurd rfl h6
theorem pu_lb (x : zSt) (w : Nat) (f : Nat → Int64) (hw : w < x_nl x) : zup (pic x) (6, 3, w) (zlo f) = pic (u_lb x (va_up (x_lb x) w f)) := by
  refine pu_rw x _ 3 w f (fun i j => ?_) (by simp [x_rw, hw]) (fun k i j h5 h6 => ?_)
  · by_cases hi : i = 3
    · subst hi
      have e : x_lb (u_lb x (va_up (x_lb x) w f)) j = if j = w then f else x_lb x j := by simp only [x_lb, u_lb, va_up]
      have e2 : x_nl (u_lb x (va_up (x_lb x) w f)) = x_nl x := rfl
      simp only [x_rw, e, e2]
      by_cases hj : j = w
      · subst hj; simp [hw]
      · simp [hj]
    · have : ¬ (i = 3 ∧ j = w) := fun h => hi h.1
      rw [if_neg this]
      simp only [x_rw, hi, if_false]
      rfl
  · rcases k with _ | _ | _ | _ | _ | _ | _ | _ | _ | _ | _ | _ | _ | _ | _ | _ | _ | _ | _ | k
    all_goals first | rfl | exact absurd rfl h5 | exact absurd rfl h6
theorem pu_lr (x : zSt) (l s : Nat) (f : Nat → Int64) (hl : l < x_nl x) (hs : s < 121) (hm : x_lr x l s ≠ none) : zup (pic x) (6, 4 + l, s) (zlo f) = pic (u_lr x (va_u2 (x_lr x) l s (some f))) := by
  refine pu_rw x _ (4 + l) s f (fun i j => ?_) ?_ (fun k i j h5 h6 => ?_)
  · have e : ∀ a b, x_lr (u_lr x (va_u2 (x_lr x) l s (some f))) a b = if a = l ∧ b = s then some f else x_lr x a b := fun a b => by simp only [x_lr, u_lr, va_u2]
    have e2 : x_nl (u_lr x (va_u2 (x_lr x) l s (some f))) = x_nl x := rfl
    by_cases h0 : i = 0
    · subst h0; rw [if_neg (fun h => absurd h.1 (by omega))]; rfl
    by_cases h1 : i = 1
    · subst h1; rw [if_neg (fun h => absurd h.1 (by omega))]; rfl
    by_cases h2 : i = 2
    · subst h2; rw [if_neg (fun h => absurd h.1 (by omega))]; rfl
    by_cases h3 : i = 3
    · subst h3; rw [if_neg (fun h => absurd h.1 (by omega))]; rfl
    simp only [x_rw, h0, h1, h2, h3, if_false, e, e2]
    by_cases hi : i = 4 + l
    · subst hi
      have : 4 + l - 4 = l := by omega
      simp only [this, true_and]
      by_cases hj : j = s
      · subst hj; simp [hl, hs]
      · simp [hj]
    · have h4 : ¬ i - 4 = l := by omega
      simp only [h4, hi, false_and, if_false]
  · have : 4 + l - 4 = l := by omega
    have h0 : ¬ 4 + l = 0 := by omega
    have h1 : ¬ 4 + l = 1 := by omega
    have h2 : ¬ 4 + l = 2 := by omega
    have h3 : ¬ 4 + l = 3 := by omega
    simp only [x_rw, h0, h1, h2, h3, if_false, this, hl, hs, and_self, if_true]
    exact hm
  · rcases k with _ | _ | _ | _ | _ | _ | _ | _ | _ | _ | _ | _ | _ | _ | _ | _ | _ | _ | _ | k
    all_goals first | rfl | exact absurd rfl h5 | exact absurd rfl h6 | skip
    have e : x_lrs x i = x_lrs (u_lr x (va_u2 (x_lr x) l s (some f))) i := by
      funext t
      have ee : x_lr (u_lr x (va_u2 (x_lr x) l s (some f))) i t = if i = l ∧ t = s then some f else x_lr x i t := by simp only [x_lr, u_lr, va_u2]
      simp only [x_lrs, ee]
      by_cases hit : i = l ∧ t = s
      · obtain ⟨rfl, rfl⟩ := hit
        cases hq : x_lr x i t with
        | none => exact absurd hq hm
        | some g => simp
      · simp only [hit, if_false]
    simp only [pic, e]
    rfl
