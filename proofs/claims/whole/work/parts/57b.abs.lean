/-! what class and reference have in common: desks, roads, wishes, notices, and on each road what is told, what is known, what is under way (printed by a program of ours) -/
/-- a message: a notice, or a tell with its row -/
abbrev zIt : Type := Nat ⊕ (Nat → Bool)
abbrev zAb : Type := ((((Nat) × (Nat)) × ((Nat) × ((Nat) × (Int32)))) × (((Int32) × ((Int32) × (Nat → Nat → Bool))) × ((Nat → Nat) × ((Nat → Nat) × (Nat → Bool))))) × ((((Nat → Nat → Int32) × ((Nat → Nat → Nat) × (Nat → Nat → Nat → Int32))) × ((Nat → Nat → Int32) × ((Nat → Int32) × (Nat → Nat → Bool)))) × (((Nat → Nat → Bool) × ((Nat → Nat) × (Nat → Nat → Int32))) × ((Nat → Nat → List zIt) × ((Nat → Nat → Nat → Bool) × (Nat → Nat → Nat → Bool)))))
def a_dk (x : zAb) : Nat := x.1.1.1.1
def a_nr (x : zAb) : Nat := x.1.1.1.2
def a_nw (x : zAb) : Nat := x.1.1.2.1
def a_nn (x : zAb) : Nat := x.1.1.2.2.1
def a_po (x : zAb) : Int32 := x.1.1.2.2.2
def a_ne (x : zAb) : Int32 := x.1.2.1.1
def a_td (x : zAb) : Int32 := x.1.2.1.2.1
def a_lk (x : zAb) : Nat → Nat → Bool := x.1.2.1.2.2
def a_rd (x : zAb) : Nat → Nat := x.1.2.2.1
def a_wr (x : zAb) : Nat → Nat := x.1.2.2.2.1
def a_wa (x : zAb) : Nat → Bool := x.1.2.2.2.2
def a_fk (x : zAb) : Nat → Nat → Int32 := x.2.1.1.1
def a_fz (x : zAb) : Nat → Nat → Nat := x.2.1.1.2.1
def a_fg (x : zAb) : Nat → Nat → Nat → Int32 := x.2.1.1.2.2
def a_nf (x : zAb) : Nat → Nat → Int32 := x.2.1.2.1
def a_nd (x : zAb) : Nat → Int32 := x.2.1.2.2.1
def a_sn (x : zAb) : Nat → Nat → Bool := x.2.1.2.2.2
def a_hb (x : zAb) : Nat → Nat → Bool := x.2.2.1.1
def a_rz (x : zAb) : Nat → Nat := x.2.2.1.2.1
def a_rh (x : zAb) : Nat → Nat → Int32 := x.2.2.1.2.2
def a_q (x : zAb) : Nat → Nat → List zIt := x.2.2.2.1
def a_to (x : zAb) : Nat → Nat → Nat → Bool := x.2.2.2.2.1
def a_tb (x : zAb) : Nat → Nat → Nat → Bool := x.2.2.2.2.2
def b_dk (x : zAb) (v : Nat) : zAb := ((((v, x.1.1.1.2), x.1.1.2), x.1.2), x.2)
def b_nr (x : zAb) (v : Nat) : zAb := ((((x.1.1.1.1, v), x.1.1.2), x.1.2), x.2)
def b_nw (x : zAb) (v : Nat) : zAb := (((x.1.1.1, (v, x.1.1.2.2)), x.1.2), x.2)
def b_nn (x : zAb) (v : Nat) : zAb := (((x.1.1.1, (x.1.1.2.1, (v, x.1.1.2.2.2))), x.1.2), x.2)
def b_po (x : zAb) (v : Int32) : zAb := (((x.1.1.1, (x.1.1.2.1, (x.1.1.2.2.1, v))), x.1.2), x.2)
def b_ne (x : zAb) (v : Int32) : zAb := ((x.1.1, ((v, x.1.2.1.2), x.1.2.2)), x.2)
def b_td (x : zAb) (v : Int32) : zAb := ((x.1.1, ((x.1.2.1.1, (v, x.1.2.1.2.2)), x.1.2.2)), x.2)
def b_lk (x : zAb) (v : Nat → Nat → Bool) : zAb := ((x.1.1, ((x.1.2.1.1, (x.1.2.1.2.1, v)), x.1.2.2)), x.2)
def b_rd (x : zAb) (v : Nat → Nat) : zAb := ((x.1.1, (x.1.2.1, (v, x.1.2.2.2))), x.2)
def b_wr (x : zAb) (v : Nat → Nat) : zAb := ((x.1.1, (x.1.2.1, (x.1.2.2.1, (v, x.1.2.2.2.2)))), x.2)
def b_wa (x : zAb) (v : Nat → Bool) : zAb := ((x.1.1, (x.1.2.1, (x.1.2.2.1, (x.1.2.2.2.1, v)))), x.2)
def b_fk (x : zAb) (v : Nat → Nat → Int32) : zAb := (x.1, (((v, x.2.1.1.2), x.2.1.2), x.2.2))
def b_fz (x : zAb) (v : Nat → Nat → Nat) : zAb := (x.1, (((x.2.1.1.1, (v, x.2.1.1.2.2)), x.2.1.2), x.2.2))
def b_fg (x : zAb) (v : Nat → Nat → Nat → Int32) : zAb := (x.1, (((x.2.1.1.1, (x.2.1.1.2.1, v)), x.2.1.2), x.2.2))
def b_nf (x : zAb) (v : Nat → Nat → Int32) : zAb := (x.1, ((x.2.1.1, (v, x.2.1.2.2)), x.2.2))
def b_nd (x : zAb) (v : Nat → Int32) : zAb := (x.1, ((x.2.1.1, (x.2.1.2.1, (v, x.2.1.2.2.2))), x.2.2))
def b_sn (x : zAb) (v : Nat → Nat → Bool) : zAb := (x.1, ((x.2.1.1, (x.2.1.2.1, (x.2.1.2.2.1, v))), x.2.2))
def b_hb (x : zAb) (v : Nat → Nat → Bool) : zAb := (x.1, (x.2.1, ((v, x.2.2.1.2), x.2.2.2)))
def b_rz (x : zAb) (v : Nat → Nat) : zAb := (x.1, (x.2.1, ((x.2.2.1.1, (v, x.2.2.1.2.2)), x.2.2.2)))
def b_rh (x : zAb) (v : Nat → Nat → Int32) : zAb := (x.1, (x.2.1, ((x.2.2.1.1, (x.2.2.1.2.1, v)), x.2.2.2)))
def b_q (x : zAb) (v : Nat → Nat → List zIt) : zAb := (x.1, (x.2.1, (x.2.2.1, (v, x.2.2.2.2))))
def b_to (x : zAb) (v : Nat → Nat → Nat → Bool) : zAb := (x.1, (x.2.1, (x.2.2.1, (x.2.2.2.1, (v, x.2.2.2.2.2)))))
def b_tb (x : zAb) (v : Nat → Nat → Nat → Bool) : zAb := (x.1, (x.2.1, (x.2.2.1, (x.2.2.2.1, (x.2.2.2.2.1, v)))))
theorem e_dk_dk (x : zAb) (v : Nat) : a_dk (b_dk x v) = v := rfl
theorem e_dk_nr (x : zAb) (v : Nat) : a_dk (b_nr x v) = a_dk x := rfl
theorem e_dk_nw (x : zAb) (v : Nat) : a_dk (b_nw x v) = a_dk x := rfl
theorem e_dk_nn (x : zAb) (v : Nat) : a_dk (b_nn x v) = a_dk x := rfl
theorem e_dk_po (x : zAb) (v : Int32) : a_dk (b_po x v) = a_dk x := rfl
theorem e_dk_ne (x : zAb) (v : Int32) : a_dk (b_ne x v) = a_dk x := rfl
theorem e_dk_td (x : zAb) (v : Int32) : a_dk (b_td x v) = a_dk x := rfl
theorem e_dk_lk (x : zAb) (v : Nat → Nat → Bool) : a_dk (b_lk x v) = a_dk x := rfl
theorem e_dk_rd (x : zAb) (v : Nat → Nat) : a_dk (b_rd x v) = a_dk x := rfl
theorem e_dk_wr (x : zAb) (v : Nat → Nat) : a_dk (b_wr x v) = a_dk x := rfl
theorem e_dk_wa (x : zAb) (v : Nat → Bool) : a_dk (b_wa x v) = a_dk x := rfl
theorem e_dk_fk (x : zAb) (v : Nat → Nat → Int32) : a_dk (b_fk x v) = a_dk x := rfl
theorem e_dk_fz (x : zAb) (v : Nat → Nat → Nat) : a_dk (b_fz x v) = a_dk x := rfl
theorem e_dk_fg (x : zAb) (v : Nat → Nat → Nat → Int32) : a_dk (b_fg x v) = a_dk x := rfl
theorem e_dk_nf (x : zAb) (v : Nat → Nat → Int32) : a_dk (b_nf x v) = a_dk x := rfl
theorem e_dk_nd (x : zAb) (v : Nat → Int32) : a_dk (b_nd x v) = a_dk x := rfl
theorem e_dk_sn (x : zAb) (v : Nat → Nat → Bool) : a_dk (b_sn x v) = a_dk x := rfl
theorem e_dk_hb (x : zAb) (v : Nat → Nat → Bool) : a_dk (b_hb x v) = a_dk x := rfl
theorem e_dk_rz (x : zAb) (v : Nat → Nat) : a_dk (b_rz x v) = a_dk x := rfl
theorem e_dk_rh (x : zAb) (v : Nat → Nat → Int32) : a_dk (b_rh x v) = a_dk x := rfl
theorem e_dk_q (x : zAb) (v : Nat → Nat → List zIt) : a_dk (b_q x v) = a_dk x := rfl
theorem e_dk_to (x : zAb) (v : Nat → Nat → Nat → Bool) : a_dk (b_to x v) = a_dk x := rfl
theorem e_dk_tb (x : zAb) (v : Nat → Nat → Nat → Bool) : a_dk (b_tb x v) = a_dk x := rfl
theorem e_nr_dk (x : zAb) (v : Nat) : a_nr (b_dk x v) = a_nr x := rfl
theorem e_nr_nr (x : zAb) (v : Nat) : a_nr (b_nr x v) = v := rfl
theorem e_nr_nw (x : zAb) (v : Nat) : a_nr (b_nw x v) = a_nr x := rfl
theorem e_nr_nn (x : zAb) (v : Nat) : a_nr (b_nn x v) = a_nr x := rfl
theorem e_nr_po (x : zAb) (v : Int32) : a_nr (b_po x v) = a_nr x := rfl
theorem e_nr_ne (x : zAb) (v : Int32) : a_nr (b_ne x v) = a_nr x := rfl
theorem e_nr_td (x : zAb) (v : Int32) : a_nr (b_td x v) = a_nr x := rfl
theorem e_nr_lk (x : zAb) (v : Nat → Nat → Bool) : a_nr (b_lk x v) = a_nr x := rfl
theorem e_nr_rd (x : zAb) (v : Nat → Nat) : a_nr (b_rd x v) = a_nr x := rfl
theorem e_nr_wr (x : zAb) (v : Nat → Nat) : a_nr (b_wr x v) = a_nr x := rfl
theorem e_nr_wa (x : zAb) (v : Nat → Bool) : a_nr (b_wa x v) = a_nr x := rfl
theorem e_nr_fk (x : zAb) (v : Nat → Nat → Int32) : a_nr (b_fk x v) = a_nr x := rfl
theorem e_nr_fz (x : zAb) (v : Nat → Nat → Nat) : a_nr (b_fz x v) = a_nr x := rfl
theorem e_nr_fg (x : zAb) (v : Nat → Nat → Nat → Int32) : a_nr (b_fg x v) = a_nr x := rfl
theorem e_nr_nf (x : zAb) (v : Nat → Nat → Int32) : a_nr (b_nf x v) = a_nr x := rfl
theorem e_nr_nd (x : zAb) (v : Nat → Int32) : a_nr (b_nd x v) = a_nr x := rfl
theorem e_nr_sn (x : zAb) (v : Nat → Nat → Bool) : a_nr (b_sn x v) = a_nr x := rfl
theorem e_nr_hb (x : zAb) (v : Nat → Nat → Bool) : a_nr (b_hb x v) = a_nr x := rfl
theorem e_nr_rz (x : zAb) (v : Nat → Nat) : a_nr (b_rz x v) = a_nr x := rfl
theorem e_nr_rh (x : zAb) (v : Nat → Nat → Int32) : a_nr (b_rh x v) = a_nr x := rfl
theorem e_nr_q (x : zAb) (v : Nat → Nat → List zIt) : a_nr (b_q x v) = a_nr x := rfl
theorem e_nr_to (x : zAb) (v : Nat → Nat → Nat → Bool) : a_nr (b_to x v) = a_nr x := rfl
theorem e_nr_tb (x : zAb) (v : Nat → Nat → Nat → Bool) : a_nr (b_tb x v) = a_nr x := rfl
theorem e_nw_dk (x : zAb) (v : Nat) : a_nw (b_dk x v) = a_nw x := rfl
theorem e_nw_nr (x : zAb) (v : Nat) : a_nw (b_nr x v) = a_nw x := rfl
theorem e_nw_nw (x : zAb) (v : Nat) : a_nw (b_nw x v) = v := rfl
theorem e_nw_nn (x : zAb) (v : Nat) : a_nw (b_nn x v) = a_nw x := rfl
theorem e_nw_po (x : zAb) (v : Int32) : a_nw (b_po x v) = a_nw x := rfl
theorem e_nw_ne (x : zAb) (v : Int32) : a_nw (b_ne x v) = a_nw x := rfl
theorem e_nw_td (x : zAb) (v : Int32) : a_nw (b_td x v) = a_nw x := rfl
theorem e_nw_lk (x : zAb) (v : Nat → Nat → Bool) : a_nw (b_lk x v) = a_nw x := rfl
theorem e_nw_rd (x : zAb) (v : Nat → Nat) : a_nw (b_rd x v) = a_nw x := rfl
theorem e_nw_wr (x : zAb) (v : Nat → Nat) : a_nw (b_wr x v) = a_nw x := rfl
theorem e_nw_wa (x : zAb) (v : Nat → Bool) : a_nw (b_wa x v) = a_nw x := rfl
theorem e_nw_fk (x : zAb) (v : Nat → Nat → Int32) : a_nw (b_fk x v) = a_nw x := rfl
theorem e_nw_fz (x : zAb) (v : Nat → Nat → Nat) : a_nw (b_fz x v) = a_nw x := rfl
theorem e_nw_fg (x : zAb) (v : Nat → Nat → Nat → Int32) : a_nw (b_fg x v) = a_nw x := rfl
theorem e_nw_nf (x : zAb) (v : Nat → Nat → Int32) : a_nw (b_nf x v) = a_nw x := rfl
theorem e_nw_nd (x : zAb) (v : Nat → Int32) : a_nw (b_nd x v) = a_nw x := rfl
theorem e_nw_sn (x : zAb) (v : Nat → Nat → Bool) : a_nw (b_sn x v) = a_nw x := rfl
theorem e_nw_hb (x : zAb) (v : Nat → Nat → Bool) : a_nw (b_hb x v) = a_nw x := rfl
theorem e_nw_rz (x : zAb) (v : Nat → Nat) : a_nw (b_rz x v) = a_nw x := rfl
theorem e_nw_rh (x : zAb) (v : Nat → Nat → Int32) : a_nw (b_rh x v) = a_nw x := rfl
theorem e_nw_q (x : zAb) (v : Nat → Nat → List zIt) : a_nw (b_q x v) = a_nw x := rfl
theorem e_nw_to (x : zAb) (v : Nat → Nat → Nat → Bool) : a_nw (b_to x v) = a_nw x := rfl
theorem e_nw_tb (x : zAb) (v : Nat → Nat → Nat → Bool) : a_nw (b_tb x v) = a_nw x := rfl
theorem e_nn_dk (x : zAb) (v : Nat) : a_nn (b_dk x v) = a_nn x := rfl
theorem e_nn_nr (x : zAb) (v : Nat) : a_nn (b_nr x v) = a_nn x := rfl
theorem e_nn_nw (x : zAb) (v : Nat) : a_nn (b_nw x v) = a_nn x := rfl
theorem e_nn_nn (x : zAb) (v : Nat) : a_nn (b_nn x v) = v := rfl
theorem e_nn_po (x : zAb) (v : Int32) : a_nn (b_po x v) = a_nn x := rfl
theorem e_nn_ne (x : zAb) (v : Int32) : a_nn (b_ne x v) = a_nn x := rfl
theorem e_nn_td (x : zAb) (v : Int32) : a_nn (b_td x v) = a_nn x := rfl
theorem e_nn_lk (x : zAb) (v : Nat → Nat → Bool) : a_nn (b_lk x v) = a_nn x := rfl
theorem e_nn_rd (x : zAb) (v : Nat → Nat) : a_nn (b_rd x v) = a_nn x := rfl
theorem e_nn_wr (x : zAb) (v : Nat → Nat) : a_nn (b_wr x v) = a_nn x := rfl
theorem e_nn_wa (x : zAb) (v : Nat → Bool) : a_nn (b_wa x v) = a_nn x := rfl
theorem e_nn_fk (x : zAb) (v : Nat → Nat → Int32) : a_nn (b_fk x v) = a_nn x := rfl
theorem e_nn_fz (x : zAb) (v : Nat → Nat → Nat) : a_nn (b_fz x v) = a_nn x := rfl
theorem e_nn_fg (x : zAb) (v : Nat → Nat → Nat → Int32) : a_nn (b_fg x v) = a_nn x := rfl
theorem e_nn_nf (x : zAb) (v : Nat → Nat → Int32) : a_nn (b_nf x v) = a_nn x := rfl
theorem e_nn_nd (x : zAb) (v : Nat → Int32) : a_nn (b_nd x v) = a_nn x := rfl
theorem e_nn_sn (x : zAb) (v : Nat → Nat → Bool) : a_nn (b_sn x v) = a_nn x := rfl
theorem e_nn_hb (x : zAb) (v : Nat → Nat → Bool) : a_nn (b_hb x v) = a_nn x := rfl
theorem e_nn_rz (x : zAb) (v : Nat → Nat) : a_nn (b_rz x v) = a_nn x := rfl
theorem e_nn_rh (x : zAb) (v : Nat → Nat → Int32) : a_nn (b_rh x v) = a_nn x := rfl
theorem e_nn_q (x : zAb) (v : Nat → Nat → List zIt) : a_nn (b_q x v) = a_nn x := rfl
theorem e_nn_to (x : zAb) (v : Nat → Nat → Nat → Bool) : a_nn (b_to x v) = a_nn x := rfl
theorem e_nn_tb (x : zAb) (v : Nat → Nat → Nat → Bool) : a_nn (b_tb x v) = a_nn x := rfl
theorem e_po_dk (x : zAb) (v : Nat) : a_po (b_dk x v) = a_po x := rfl
theorem e_po_nr (x : zAb) (v : Nat) : a_po (b_nr x v) = a_po x := rfl
theorem e_po_nw (x : zAb) (v : Nat) : a_po (b_nw x v) = a_po x := rfl
theorem e_po_nn (x : zAb) (v : Nat) : a_po (b_nn x v) = a_po x := rfl
theorem e_po_po (x : zAb) (v : Int32) : a_po (b_po x v) = v := rfl
theorem e_po_ne (x : zAb) (v : Int32) : a_po (b_ne x v) = a_po x := rfl
theorem e_po_td (x : zAb) (v : Int32) : a_po (b_td x v) = a_po x := rfl
theorem e_po_lk (x : zAb) (v : Nat → Nat → Bool) : a_po (b_lk x v) = a_po x := rfl
theorem e_po_rd (x : zAb) (v : Nat → Nat) : a_po (b_rd x v) = a_po x := rfl
theorem e_po_wr (x : zAb) (v : Nat → Nat) : a_po (b_wr x v) = a_po x := rfl
theorem e_po_wa (x : zAb) (v : Nat → Bool) : a_po (b_wa x v) = a_po x := rfl
theorem e_po_fk (x : zAb) (v : Nat → Nat → Int32) : a_po (b_fk x v) = a_po x := rfl
theorem e_po_fz (x : zAb) (v : Nat → Nat → Nat) : a_po (b_fz x v) = a_po x := rfl
theorem e_po_fg (x : zAb) (v : Nat → Nat → Nat → Int32) : a_po (b_fg x v) = a_po x := rfl
theorem e_po_nf (x : zAb) (v : Nat → Nat → Int32) : a_po (b_nf x v) = a_po x := rfl
theorem e_po_nd (x : zAb) (v : Nat → Int32) : a_po (b_nd x v) = a_po x := rfl
theorem e_po_sn (x : zAb) (v : Nat → Nat → Bool) : a_po (b_sn x v) = a_po x := rfl
theorem e_po_hb (x : zAb) (v : Nat → Nat → Bool) : a_po (b_hb x v) = a_po x := rfl
theorem e_po_rz (x : zAb) (v : Nat → Nat) : a_po (b_rz x v) = a_po x := rfl
theorem e_po_rh (x : zAb) (v : Nat → Nat → Int32) : a_po (b_rh x v) = a_po x := rfl
theorem e_po_q (x : zAb) (v : Nat → Nat → List zIt) : a_po (b_q x v) = a_po x := rfl
theorem e_po_to (x : zAb) (v : Nat → Nat → Nat → Bool) : a_po (b_to x v) = a_po x := rfl
theorem e_po_tb (x : zAb) (v : Nat → Nat → Nat → Bool) : a_po (b_tb x v) = a_po x := rfl
theorem e_ne_dk (x : zAb) (v : Nat) : a_ne (b_dk x v) = a_ne x := rfl
theorem e_ne_nr (x : zAb) (v : Nat) : a_ne (b_nr x v) = a_ne x := rfl
theorem e_ne_nw (x : zAb) (v : Nat) : a_ne (b_nw x v) = a_ne x := rfl
theorem e_ne_nn (x : zAb) (v : Nat) : a_ne (b_nn x v) = a_ne x := rfl
theorem e_ne_po (x : zAb) (v : Int32) : a_ne (b_po x v) = a_ne x := rfl
theorem e_ne_ne (x : zAb) (v : Int32) : a_ne (b_ne x v) = v := rfl
theorem e_ne_td (x : zAb) (v : Int32) : a_ne (b_td x v) = a_ne x := rfl
theorem e_ne_lk (x : zAb) (v : Nat → Nat → Bool) : a_ne (b_lk x v) = a_ne x := rfl
theorem e_ne_rd (x : zAb) (v : Nat → Nat) : a_ne (b_rd x v) = a_ne x := rfl
theorem e_ne_wr (x : zAb) (v : Nat → Nat) : a_ne (b_wr x v) = a_ne x := rfl
theorem e_ne_wa (x : zAb) (v : Nat → Bool) : a_ne (b_wa x v) = a_ne x := rfl
theorem e_ne_fk (x : zAb) (v : Nat → Nat → Int32) : a_ne (b_fk x v) = a_ne x := rfl
theorem e_ne_fz (x : zAb) (v : Nat → Nat → Nat) : a_ne (b_fz x v) = a_ne x := rfl
theorem e_ne_fg (x : zAb) (v : Nat → Nat → Nat → Int32) : a_ne (b_fg x v) = a_ne x := rfl
theorem e_ne_nf (x : zAb) (v : Nat → Nat → Int32) : a_ne (b_nf x v) = a_ne x := rfl
theorem e_ne_nd (x : zAb) (v : Nat → Int32) : a_ne (b_nd x v) = a_ne x := rfl
theorem e_ne_sn (x : zAb) (v : Nat → Nat → Bool) : a_ne (b_sn x v) = a_ne x := rfl
theorem e_ne_hb (x : zAb) (v : Nat → Nat → Bool) : a_ne (b_hb x v) = a_ne x := rfl
theorem e_ne_rz (x : zAb) (v : Nat → Nat) : a_ne (b_rz x v) = a_ne x := rfl
theorem e_ne_rh (x : zAb) (v : Nat → Nat → Int32) : a_ne (b_rh x v) = a_ne x := rfl
theorem e_ne_q (x : zAb) (v : Nat → Nat → List zIt) : a_ne (b_q x v) = a_ne x := rfl
theorem e_ne_to (x : zAb) (v : Nat → Nat → Nat → Bool) : a_ne (b_to x v) = a_ne x := rfl
theorem e_ne_tb (x : zAb) (v : Nat → Nat → Nat → Bool) : a_ne (b_tb x v) = a_ne x := rfl
theorem e_td_dk (x : zAb) (v : Nat) : a_td (b_dk x v) = a_td x := rfl
theorem e_td_nr (x : zAb) (v : Nat) : a_td (b_nr x v) = a_td x := rfl
theorem e_td_nw (x : zAb) (v : Nat) : a_td (b_nw x v) = a_td x := rfl
theorem e_td_nn (x : zAb) (v : Nat) : a_td (b_nn x v) = a_td x := rfl
theorem e_td_po (x : zAb) (v : Int32) : a_td (b_po x v) = a_td x := rfl
theorem e_td_ne (x : zAb) (v : Int32) : a_td (b_ne x v) = a_td x := rfl
theorem e_td_td (x : zAb) (v : Int32) : a_td (b_td x v) = v := rfl
theorem e_td_lk (x : zAb) (v : Nat → Nat → Bool) : a_td (b_lk x v) = a_td x := rfl
theorem e_td_rd (x : zAb) (v : Nat → Nat) : a_td (b_rd x v) = a_td x := rfl
theorem e_td_wr (x : zAb) (v : Nat → Nat) : a_td (b_wr x v) = a_td x := rfl
theorem e_td_wa (x : zAb) (v : Nat → Bool) : a_td (b_wa x v) = a_td x := rfl
theorem e_td_fk (x : zAb) (v : Nat → Nat → Int32) : a_td (b_fk x v) = a_td x := rfl
theorem e_td_fz (x : zAb) (v : Nat → Nat → Nat) : a_td (b_fz x v) = a_td x := rfl
theorem e_td_fg (x : zAb) (v : Nat → Nat → Nat → Int32) : a_td (b_fg x v) = a_td x := rfl
theorem e_td_nf (x : zAb) (v : Nat → Nat → Int32) : a_td (b_nf x v) = a_td x := rfl
theorem e_td_nd (x : zAb) (v : Nat → Int32) : a_td (b_nd x v) = a_td x := rfl
theorem e_td_sn (x : zAb) (v : Nat → Nat → Bool) : a_td (b_sn x v) = a_td x := rfl
theorem e_td_hb (x : zAb) (v : Nat → Nat → Bool) : a_td (b_hb x v) = a_td x := rfl
theorem e_td_rz (x : zAb) (v : Nat → Nat) : a_td (b_rz x v) = a_td x := rfl
theorem e_td_rh (x : zAb) (v : Nat → Nat → Int32) : a_td (b_rh x v) = a_td x := rfl
theorem e_td_q (x : zAb) (v : Nat → Nat → List zIt) : a_td (b_q x v) = a_td x := rfl
theorem e_td_to (x : zAb) (v : Nat → Nat → Nat → Bool) : a_td (b_to x v) = a_td x := rfl
theorem e_td_tb (x : zAb) (v : Nat → Nat → Nat → Bool) : a_td (b_tb x v) = a_td x := rfl
theorem e_lk_dk (x : zAb) (v : Nat) : a_lk (b_dk x v) = a_lk x := rfl
theorem e_lk_nr (x : zAb) (v : Nat) : a_lk (b_nr x v) = a_lk x := rfl
theorem e_lk_nw (x : zAb) (v : Nat) : a_lk (b_nw x v) = a_lk x := rfl
theorem e_lk_nn (x : zAb) (v : Nat) : a_lk (b_nn x v) = a_lk x := rfl
theorem e_lk_po (x : zAb) (v : Int32) : a_lk (b_po x v) = a_lk x := rfl
theorem e_lk_ne (x : zAb) (v : Int32) : a_lk (b_ne x v) = a_lk x := rfl
theorem e_lk_td (x : zAb) (v : Int32) : a_lk (b_td x v) = a_lk x := rfl
theorem e_lk_lk (x : zAb) (v : Nat → Nat → Bool) : a_lk (b_lk x v) = v := rfl
theorem e_lk_rd (x : zAb) (v : Nat → Nat) : a_lk (b_rd x v) = a_lk x := rfl
theorem e_lk_wr (x : zAb) (v : Nat → Nat) : a_lk (b_wr x v) = a_lk x := rfl
theorem e_lk_wa (x : zAb) (v : Nat → Bool) : a_lk (b_wa x v) = a_lk x := rfl
theorem e_lk_fk (x : zAb) (v : Nat → Nat → Int32) : a_lk (b_fk x v) = a_lk x := rfl
theorem e_lk_fz (x : zAb) (v : Nat → Nat → Nat) : a_lk (b_fz x v) = a_lk x := rfl
theorem e_lk_fg (x : zAb) (v : Nat → Nat → Nat → Int32) : a_lk (b_fg x v) = a_lk x := rfl
theorem e_lk_nf (x : zAb) (v : Nat → Nat → Int32) : a_lk (b_nf x v) = a_lk x := rfl
theorem e_lk_nd (x : zAb) (v : Nat → Int32) : a_lk (b_nd x v) = a_lk x := rfl
theorem e_lk_sn (x : zAb) (v : Nat → Nat → Bool) : a_lk (b_sn x v) = a_lk x := rfl
theorem e_lk_hb (x : zAb) (v : Nat → Nat → Bool) : a_lk (b_hb x v) = a_lk x := rfl
theorem e_lk_rz (x : zAb) (v : Nat → Nat) : a_lk (b_rz x v) = a_lk x := rfl
theorem e_lk_rh (x : zAb) (v : Nat → Nat → Int32) : a_lk (b_rh x v) = a_lk x := rfl
theorem e_lk_q (x : zAb) (v : Nat → Nat → List zIt) : a_lk (b_q x v) = a_lk x := rfl
theorem e_lk_to (x : zAb) (v : Nat → Nat → Nat → Bool) : a_lk (b_to x v) = a_lk x := rfl
theorem e_lk_tb (x : zAb) (v : Nat → Nat → Nat → Bool) : a_lk (b_tb x v) = a_lk x := rfl
theorem e_rd_dk (x : zAb) (v : Nat) : a_rd (b_dk x v) = a_rd x := rfl
theorem e_rd_nr (x : zAb) (v : Nat) : a_rd (b_nr x v) = a_rd x := rfl
theorem e_rd_nw (x : zAb) (v : Nat) : a_rd (b_nw x v) = a_rd x := rfl
theorem e_rd_nn (x : zAb) (v : Nat) : a_rd (b_nn x v) = a_rd x := rfl
theorem e_rd_po (x : zAb) (v : Int32) : a_rd (b_po x v) = a_rd x := rfl
theorem e_rd_ne (x : zAb) (v : Int32) : a_rd (b_ne x v) = a_rd x := rfl
theorem e_rd_td (x : zAb) (v : Int32) : a_rd (b_td x v) = a_rd x := rfl
theorem e_rd_lk (x : zAb) (v : Nat → Nat → Bool) : a_rd (b_lk x v) = a_rd x := rfl
theorem e_rd_rd (x : zAb) (v : Nat → Nat) : a_rd (b_rd x v) = v := rfl
theorem e_rd_wr (x : zAb) (v : Nat → Nat) : a_rd (b_wr x v) = a_rd x := rfl
theorem e_rd_wa (x : zAb) (v : Nat → Bool) : a_rd (b_wa x v) = a_rd x := rfl
theorem e_rd_fk (x : zAb) (v : Nat → Nat → Int32) : a_rd (b_fk x v) = a_rd x := rfl
theorem e_rd_fz (x : zAb) (v : Nat → Nat → Nat) : a_rd (b_fz x v) = a_rd x := rfl
theorem e_rd_fg (x : zAb) (v : Nat → Nat → Nat → Int32) : a_rd (b_fg x v) = a_rd x := rfl
theorem e_rd_nf (x : zAb) (v : Nat → Nat → Int32) : a_rd (b_nf x v) = a_rd x := rfl
theorem e_rd_nd (x : zAb) (v : Nat → Int32) : a_rd (b_nd x v) = a_rd x := rfl
theorem e_rd_sn (x : zAb) (v : Nat → Nat → Bool) : a_rd (b_sn x v) = a_rd x := rfl
theorem e_rd_hb (x : zAb) (v : Nat → Nat → Bool) : a_rd (b_hb x v) = a_rd x := rfl
theorem e_rd_rz (x : zAb) (v : Nat → Nat) : a_rd (b_rz x v) = a_rd x := rfl
theorem e_rd_rh (x : zAb) (v : Nat → Nat → Int32) : a_rd (b_rh x v) = a_rd x := rfl
theorem e_rd_q (x : zAb) (v : Nat → Nat → List zIt) : a_rd (b_q x v) = a_rd x := rfl
theorem e_rd_to (x : zAb) (v : Nat → Nat → Nat → Bool) : a_rd (b_to x v) = a_rd x := rfl
theorem e_rd_tb (x : zAb) (v : Nat → Nat → Nat → Bool) : a_rd (b_tb x v) = a_rd x := rfl
theorem e_wr_dk (x : zAb) (v : Nat) : a_wr (b_dk x v) = a_wr x := rfl
theorem e_wr_nr (x : zAb) (v : Nat) : a_wr (b_nr x v) = a_wr x := rfl
theorem e_wr_nw (x : zAb) (v : Nat) : a_wr (b_nw x v) = a_wr x := rfl
theorem e_wr_nn (x : zAb) (v : Nat) : a_wr (b_nn x v) = a_wr x := rfl
theorem e_wr_po (x : zAb) (v : Int32) : a_wr (b_po x v) = a_wr x := rfl
theorem e_wr_ne (x : zAb) (v : Int32) : a_wr (b_ne x v) = a_wr x := rfl
theorem e_wr_td (x : zAb) (v : Int32) : a_wr (b_td x v) = a_wr x := rfl
theorem e_wr_lk (x : zAb) (v : Nat → Nat → Bool) : a_wr (b_lk x v) = a_wr x := rfl
theorem e_wr_rd (x : zAb) (v : Nat → Nat) : a_wr (b_rd x v) = a_wr x := rfl
theorem e_wr_wr (x : zAb) (v : Nat → Nat) : a_wr (b_wr x v) = v := rfl
theorem e_wr_wa (x : zAb) (v : Nat → Bool) : a_wr (b_wa x v) = a_wr x := rfl
theorem e_wr_fk (x : zAb) (v : Nat → Nat → Int32) : a_wr (b_fk x v) = a_wr x := rfl
theorem e_wr_fz (x : zAb) (v : Nat → Nat → Nat) : a_wr (b_fz x v) = a_wr x := rfl
theorem e_wr_fg (x : zAb) (v : Nat → Nat → Nat → Int32) : a_wr (b_fg x v) = a_wr x := rfl
theorem e_wr_nf (x : zAb) (v : Nat → Nat → Int32) : a_wr (b_nf x v) = a_wr x := rfl
theorem e_wr_nd (x : zAb) (v : Nat → Int32) : a_wr (b_nd x v) = a_wr x := rfl
theorem e_wr_sn (x : zAb) (v : Nat → Nat → Bool) : a_wr (b_sn x v) = a_wr x := rfl
theorem e_wr_hb (x : zAb) (v : Nat → Nat → Bool) : a_wr (b_hb x v) = a_wr x := rfl
theorem e_wr_rz (x : zAb) (v : Nat → Nat) : a_wr (b_rz x v) = a_wr x := rfl
theorem e_wr_rh (x : zAb) (v : Nat → Nat → Int32) : a_wr (b_rh x v) = a_wr x := rfl
theorem e_wr_q (x : zAb) (v : Nat → Nat → List zIt) : a_wr (b_q x v) = a_wr x := rfl
theorem e_wr_to (x : zAb) (v : Nat → Nat → Nat → Bool) : a_wr (b_to x v) = a_wr x := rfl
theorem e_wr_tb (x : zAb) (v : Nat → Nat → Nat → Bool) : a_wr (b_tb x v) = a_wr x := rfl
theorem e_wa_dk (x : zAb) (v : Nat) : a_wa (b_dk x v) = a_wa x := rfl
theorem e_wa_nr (x : zAb) (v : Nat) : a_wa (b_nr x v) = a_wa x := rfl
theorem e_wa_nw (x : zAb) (v : Nat) : a_wa (b_nw x v) = a_wa x := rfl
theorem e_wa_nn (x : zAb) (v : Nat) : a_wa (b_nn x v) = a_wa x := rfl
theorem e_wa_po (x : zAb) (v : Int32) : a_wa (b_po x v) = a_wa x := rfl
theorem e_wa_ne (x : zAb) (v : Int32) : a_wa (b_ne x v) = a_wa x := rfl
theorem e_wa_td (x : zAb) (v : Int32) : a_wa (b_td x v) = a_wa x := rfl
theorem e_wa_lk (x : zAb) (v : Nat → Nat → Bool) : a_wa (b_lk x v) = a_wa x := rfl
theorem e_wa_rd (x : zAb) (v : Nat → Nat) : a_wa (b_rd x v) = a_wa x := rfl
theorem e_wa_wr (x : zAb) (v : Nat → Nat) : a_wa (b_wr x v) = a_wa x := rfl
theorem e_wa_wa (x : zAb) (v : Nat → Bool) : a_wa (b_wa x v) = v := rfl
theorem e_wa_fk (x : zAb) (v : Nat → Nat → Int32) : a_wa (b_fk x v) = a_wa x := rfl
theorem e_wa_fz (x : zAb) (v : Nat → Nat → Nat) : a_wa (b_fz x v) = a_wa x := rfl
theorem e_wa_fg (x : zAb) (v : Nat → Nat → Nat → Int32) : a_wa (b_fg x v) = a_wa x := rfl
theorem e_wa_nf (x : zAb) (v : Nat → Nat → Int32) : a_wa (b_nf x v) = a_wa x := rfl
theorem e_wa_nd (x : zAb) (v : Nat → Int32) : a_wa (b_nd x v) = a_wa x := rfl
theorem e_wa_sn (x : zAb) (v : Nat → Nat → Bool) : a_wa (b_sn x v) = a_wa x := rfl
theorem e_wa_hb (x : zAb) (v : Nat → Nat → Bool) : a_wa (b_hb x v) = a_wa x := rfl
theorem e_wa_rz (x : zAb) (v : Nat → Nat) : a_wa (b_rz x v) = a_wa x := rfl
theorem e_wa_rh (x : zAb) (v : Nat → Nat → Int32) : a_wa (b_rh x v) = a_wa x := rfl
theorem e_wa_q (x : zAb) (v : Nat → Nat → List zIt) : a_wa (b_q x v) = a_wa x := rfl
theorem e_wa_to (x : zAb) (v : Nat → Nat → Nat → Bool) : a_wa (b_to x v) = a_wa x := rfl
theorem e_wa_tb (x : zAb) (v : Nat → Nat → Nat → Bool) : a_wa (b_tb x v) = a_wa x := rfl
theorem e_fk_dk (x : zAb) (v : Nat) : a_fk (b_dk x v) = a_fk x := rfl
theorem e_fk_nr (x : zAb) (v : Nat) : a_fk (b_nr x v) = a_fk x := rfl
theorem e_fk_nw (x : zAb) (v : Nat) : a_fk (b_nw x v) = a_fk x := rfl
theorem e_fk_nn (x : zAb) (v : Nat) : a_fk (b_nn x v) = a_fk x := rfl
theorem e_fk_po (x : zAb) (v : Int32) : a_fk (b_po x v) = a_fk x := rfl
theorem e_fk_ne (x : zAb) (v : Int32) : a_fk (b_ne x v) = a_fk x := rfl
theorem e_fk_td (x : zAb) (v : Int32) : a_fk (b_td x v) = a_fk x := rfl
theorem e_fk_lk (x : zAb) (v : Nat → Nat → Bool) : a_fk (b_lk x v) = a_fk x := rfl
theorem e_fk_rd (x : zAb) (v : Nat → Nat) : a_fk (b_rd x v) = a_fk x := rfl
theorem e_fk_wr (x : zAb) (v : Nat → Nat) : a_fk (b_wr x v) = a_fk x := rfl
theorem e_fk_wa (x : zAb) (v : Nat → Bool) : a_fk (b_wa x v) = a_fk x := rfl
theorem e_fk_fk (x : zAb) (v : Nat → Nat → Int32) : a_fk (b_fk x v) = v := rfl
theorem e_fk_fz (x : zAb) (v : Nat → Nat → Nat) : a_fk (b_fz x v) = a_fk x := rfl
theorem e_fk_fg (x : zAb) (v : Nat → Nat → Nat → Int32) : a_fk (b_fg x v) = a_fk x := rfl
theorem e_fk_nf (x : zAb) (v : Nat → Nat → Int32) : a_fk (b_nf x v) = a_fk x := rfl
theorem e_fk_nd (x : zAb) (v : Nat → Int32) : a_fk (b_nd x v) = a_fk x := rfl
theorem e_fk_sn (x : zAb) (v : Nat → Nat → Bool) : a_fk (b_sn x v) = a_fk x := rfl
theorem e_fk_hb (x : zAb) (v : Nat → Nat → Bool) : a_fk (b_hb x v) = a_fk x := rfl
theorem e_fk_rz (x : zAb) (v : Nat → Nat) : a_fk (b_rz x v) = a_fk x := rfl
theorem e_fk_rh (x : zAb) (v : Nat → Nat → Int32) : a_fk (b_rh x v) = a_fk x := rfl
theorem e_fk_q (x : zAb) (v : Nat → Nat → List zIt) : a_fk (b_q x v) = a_fk x := rfl
theorem e_fk_to (x : zAb) (v : Nat → Nat → Nat → Bool) : a_fk (b_to x v) = a_fk x := rfl
theorem e_fk_tb (x : zAb) (v : Nat → Nat → Nat → Bool) : a_fk (b_tb x v) = a_fk x := rfl
theorem e_fz_dk (x : zAb) (v : Nat) : a_fz (b_dk x v) = a_fz x := rfl
theorem e_fz_nr (x : zAb) (v : Nat) : a_fz (b_nr x v) = a_fz x := rfl
theorem e_fz_nw (x : zAb) (v : Nat) : a_fz (b_nw x v) = a_fz x := rfl
theorem e_fz_nn (x : zAb) (v : Nat) : a_fz (b_nn x v) = a_fz x := rfl
theorem e_fz_po (x : zAb) (v : Int32) : a_fz (b_po x v) = a_fz x := rfl
theorem e_fz_ne (x : zAb) (v : Int32) : a_fz (b_ne x v) = a_fz x := rfl
theorem e_fz_td (x : zAb) (v : Int32) : a_fz (b_td x v) = a_fz x := rfl
theorem e_fz_lk (x : zAb) (v : Nat → Nat → Bool) : a_fz (b_lk x v) = a_fz x := rfl
theorem e_fz_rd (x : zAb) (v : Nat → Nat) : a_fz (b_rd x v) = a_fz x := rfl
theorem e_fz_wr (x : zAb) (v : Nat → Nat) : a_fz (b_wr x v) = a_fz x := rfl
theorem e_fz_wa (x : zAb) (v : Nat → Bool) : a_fz (b_wa x v) = a_fz x := rfl
theorem e_fz_fk (x : zAb) (v : Nat → Nat → Int32) : a_fz (b_fk x v) = a_fz x := rfl
theorem e_fz_fz (x : zAb) (v : Nat → Nat → Nat) : a_fz (b_fz x v) = v := rfl
theorem e_fz_fg (x : zAb) (v : Nat → Nat → Nat → Int32) : a_fz (b_fg x v) = a_fz x := rfl
theorem e_fz_nf (x : zAb) (v : Nat → Nat → Int32) : a_fz (b_nf x v) = a_fz x := rfl
theorem e_fz_nd (x : zAb) (v : Nat → Int32) : a_fz (b_nd x v) = a_fz x := rfl
theorem e_fz_sn (x : zAb) (v : Nat → Nat → Bool) : a_fz (b_sn x v) = a_fz x := rfl
theorem e_fz_hb (x : zAb) (v : Nat → Nat → Bool) : a_fz (b_hb x v) = a_fz x := rfl
theorem e_fz_rz (x : zAb) (v : Nat → Nat) : a_fz (b_rz x v) = a_fz x := rfl
theorem e_fz_rh (x : zAb) (v : Nat → Nat → Int32) : a_fz (b_rh x v) = a_fz x := rfl
theorem e_fz_q (x : zAb) (v : Nat → Nat → List zIt) : a_fz (b_q x v) = a_fz x := rfl
theorem e_fz_to (x : zAb) (v : Nat → Nat → Nat → Bool) : a_fz (b_to x v) = a_fz x := rfl
theorem e_fz_tb (x : zAb) (v : Nat → Nat → Nat → Bool) : a_fz (b_tb x v) = a_fz x := rfl
theorem e_fg_dk (x : zAb) (v : Nat) : a_fg (b_dk x v) = a_fg x := rfl
theorem e_fg_nr (x : zAb) (v : Nat) : a_fg (b_nr x v) = a_fg x := rfl
theorem e_fg_nw (x : zAb) (v : Nat) : a_fg (b_nw x v) = a_fg x := rfl
theorem e_fg_nn (x : zAb) (v : Nat) : a_fg (b_nn x v) = a_fg x := rfl
theorem e_fg_po (x : zAb) (v : Int32) : a_fg (b_po x v) = a_fg x := rfl
theorem e_fg_ne (x : zAb) (v : Int32) : a_fg (b_ne x v) = a_fg x := rfl
theorem e_fg_td (x : zAb) (v : Int32) : a_fg (b_td x v) = a_fg x := rfl
theorem e_fg_lk (x : zAb) (v : Nat → Nat → Bool) : a_fg (b_lk x v) = a_fg x := rfl
theorem e_fg_rd (x : zAb) (v : Nat → Nat) : a_fg (b_rd x v) = a_fg x := rfl
theorem e_fg_wr (x : zAb) (v : Nat → Nat) : a_fg (b_wr x v) = a_fg x := rfl
theorem e_fg_wa (x : zAb) (v : Nat → Bool) : a_fg (b_wa x v) = a_fg x := rfl
theorem e_fg_fk (x : zAb) (v : Nat → Nat → Int32) : a_fg (b_fk x v) = a_fg x := rfl
theorem e_fg_fz (x : zAb) (v : Nat → Nat → Nat) : a_fg (b_fz x v) = a_fg x := rfl
theorem e_fg_fg (x : zAb) (v : Nat → Nat → Nat → Int32) : a_fg (b_fg x v) = v := rfl
theorem e_fg_nf (x : zAb) (v : Nat → Nat → Int32) : a_fg (b_nf x v) = a_fg x := rfl
theorem e_fg_nd (x : zAb) (v : Nat → Int32) : a_fg (b_nd x v) = a_fg x := rfl
theorem e_fg_sn (x : zAb) (v : Nat → Nat → Bool) : a_fg (b_sn x v) = a_fg x := rfl
theorem e_fg_hb (x : zAb) (v : Nat → Nat → Bool) : a_fg (b_hb x v) = a_fg x := rfl
theorem e_fg_rz (x : zAb) (v : Nat → Nat) : a_fg (b_rz x v) = a_fg x := rfl
theorem e_fg_rh (x : zAb) (v : Nat → Nat → Int32) : a_fg (b_rh x v) = a_fg x := rfl
theorem e_fg_q (x : zAb) (v : Nat → Nat → List zIt) : a_fg (b_q x v) = a_fg x := rfl
theorem e_fg_to (x : zAb) (v : Nat → Nat → Nat → Bool) : a_fg (b_to x v) = a_fg x := rfl
theorem e_fg_tb (x : zAb) (v : Nat → Nat → Nat → Bool) : a_fg (b_tb x v) = a_fg x := rfl
theorem e_nf_dk (x : zAb) (v : Nat) : a_nf (b_dk x v) = a_nf x := rfl
theorem e_nf_nr (x : zAb) (v : Nat) : a_nf (b_nr x v) = a_nf x := rfl
theorem e_nf_nw (x : zAb) (v : Nat) : a_nf (b_nw x v) = a_nf x := rfl
theorem e_nf_nn (x : zAb) (v : Nat) : a_nf (b_nn x v) = a_nf x := rfl
theorem e_nf_po (x : zAb) (v : Int32) : a_nf (b_po x v) = a_nf x := rfl
theorem e_nf_ne (x : zAb) (v : Int32) : a_nf (b_ne x v) = a_nf x := rfl
theorem e_nf_td (x : zAb) (v : Int32) : a_nf (b_td x v) = a_nf x := rfl
theorem e_nf_lk (x : zAb) (v : Nat → Nat → Bool) : a_nf (b_lk x v) = a_nf x := rfl
theorem e_nf_rd (x : zAb) (v : Nat → Nat) : a_nf (b_rd x v) = a_nf x := rfl
theorem e_nf_wr (x : zAb) (v : Nat → Nat) : a_nf (b_wr x v) = a_nf x := rfl
theorem e_nf_wa (x : zAb) (v : Nat → Bool) : a_nf (b_wa x v) = a_nf x := rfl
theorem e_nf_fk (x : zAb) (v : Nat → Nat → Int32) : a_nf (b_fk x v) = a_nf x := rfl
theorem e_nf_fz (x : zAb) (v : Nat → Nat → Nat) : a_nf (b_fz x v) = a_nf x := rfl
theorem e_nf_fg (x : zAb) (v : Nat → Nat → Nat → Int32) : a_nf (b_fg x v) = a_nf x := rfl
theorem e_nf_nf (x : zAb) (v : Nat → Nat → Int32) : a_nf (b_nf x v) = v := rfl
theorem e_nf_nd (x : zAb) (v : Nat → Int32) : a_nf (b_nd x v) = a_nf x := rfl
theorem e_nf_sn (x : zAb) (v : Nat → Nat → Bool) : a_nf (b_sn x v) = a_nf x := rfl
theorem e_nf_hb (x : zAb) (v : Nat → Nat → Bool) : a_nf (b_hb x v) = a_nf x := rfl
theorem e_nf_rz (x : zAb) (v : Nat → Nat) : a_nf (b_rz x v) = a_nf x := rfl
theorem e_nf_rh (x : zAb) (v : Nat → Nat → Int32) : a_nf (b_rh x v) = a_nf x := rfl
theorem e_nf_q (x : zAb) (v : Nat → Nat → List zIt) : a_nf (b_q x v) = a_nf x := rfl
theorem e_nf_to (x : zAb) (v : Nat → Nat → Nat → Bool) : a_nf (b_to x v) = a_nf x := rfl
theorem e_nf_tb (x : zAb) (v : Nat → Nat → Nat → Bool) : a_nf (b_tb x v) = a_nf x := rfl
theorem e_nd_dk (x : zAb) (v : Nat) : a_nd (b_dk x v) = a_nd x := rfl
theorem e_nd_nr (x : zAb) (v : Nat) : a_nd (b_nr x v) = a_nd x := rfl
theorem e_nd_nw (x : zAb) (v : Nat) : a_nd (b_nw x v) = a_nd x := rfl
theorem e_nd_nn (x : zAb) (v : Nat) : a_nd (b_nn x v) = a_nd x := rfl
theorem e_nd_po (x : zAb) (v : Int32) : a_nd (b_po x v) = a_nd x := rfl
theorem e_nd_ne (x : zAb) (v : Int32) : a_nd (b_ne x v) = a_nd x := rfl
theorem e_nd_td (x : zAb) (v : Int32) : a_nd (b_td x v) = a_nd x := rfl
theorem e_nd_lk (x : zAb) (v : Nat → Nat → Bool) : a_nd (b_lk x v) = a_nd x := rfl
theorem e_nd_rd (x : zAb) (v : Nat → Nat) : a_nd (b_rd x v) = a_nd x := rfl
theorem e_nd_wr (x : zAb) (v : Nat → Nat) : a_nd (b_wr x v) = a_nd x := rfl
theorem e_nd_wa (x : zAb) (v : Nat → Bool) : a_nd (b_wa x v) = a_nd x := rfl
theorem e_nd_fk (x : zAb) (v : Nat → Nat → Int32) : a_nd (b_fk x v) = a_nd x := rfl
theorem e_nd_fz (x : zAb) (v : Nat → Nat → Nat) : a_nd (b_fz x v) = a_nd x := rfl
theorem e_nd_fg (x : zAb) (v : Nat → Nat → Nat → Int32) : a_nd (b_fg x v) = a_nd x := rfl
theorem e_nd_nf (x : zAb) (v : Nat → Nat → Int32) : a_nd (b_nf x v) = a_nd x := rfl
theorem e_nd_nd (x : zAb) (v : Nat → Int32) : a_nd (b_nd x v) = v := rfl
theorem e_nd_sn (x : zAb) (v : Nat → Nat → Bool) : a_nd (b_sn x v) = a_nd x := rfl
theorem e_nd_hb (x : zAb) (v : Nat → Nat → Bool) : a_nd (b_hb x v) = a_nd x := rfl
theorem e_nd_rz (x : zAb) (v : Nat → Nat) : a_nd (b_rz x v) = a_nd x := rfl
theorem e_nd_rh (x : zAb) (v : Nat → Nat → Int32) : a_nd (b_rh x v) = a_nd x := rfl
theorem e_nd_q (x : zAb) (v : Nat → Nat → List zIt) : a_nd (b_q x v) = a_nd x := rfl
theorem e_nd_to (x : zAb) (v : Nat → Nat → Nat → Bool) : a_nd (b_to x v) = a_nd x := rfl
theorem e_nd_tb (x : zAb) (v : Nat → Nat → Nat → Bool) : a_nd (b_tb x v) = a_nd x := rfl
theorem e_sn_dk (x : zAb) (v : Nat) : a_sn (b_dk x v) = a_sn x := rfl
theorem e_sn_nr (x : zAb) (v : Nat) : a_sn (b_nr x v) = a_sn x := rfl
theorem e_sn_nw (x : zAb) (v : Nat) : a_sn (b_nw x v) = a_sn x := rfl
theorem e_sn_nn (x : zAb) (v : Nat) : a_sn (b_nn x v) = a_sn x := rfl
theorem e_sn_po (x : zAb) (v : Int32) : a_sn (b_po x v) = a_sn x := rfl
theorem e_sn_ne (x : zAb) (v : Int32) : a_sn (b_ne x v) = a_sn x := rfl
theorem e_sn_td (x : zAb) (v : Int32) : a_sn (b_td x v) = a_sn x := rfl
theorem e_sn_lk (x : zAb) (v : Nat → Nat → Bool) : a_sn (b_lk x v) = a_sn x := rfl
theorem e_sn_rd (x : zAb) (v : Nat → Nat) : a_sn (b_rd x v) = a_sn x := rfl
theorem e_sn_wr (x : zAb) (v : Nat → Nat) : a_sn (b_wr x v) = a_sn x := rfl
theorem e_sn_wa (x : zAb) (v : Nat → Bool) : a_sn (b_wa x v) = a_sn x := rfl
theorem e_sn_fk (x : zAb) (v : Nat → Nat → Int32) : a_sn (b_fk x v) = a_sn x := rfl
theorem e_sn_fz (x : zAb) (v : Nat → Nat → Nat) : a_sn (b_fz x v) = a_sn x := rfl
theorem e_sn_fg (x : zAb) (v : Nat → Nat → Nat → Int32) : a_sn (b_fg x v) = a_sn x := rfl
theorem e_sn_nf (x : zAb) (v : Nat → Nat → Int32) : a_sn (b_nf x v) = a_sn x := rfl
theorem e_sn_nd (x : zAb) (v : Nat → Int32) : a_sn (b_nd x v) = a_sn x := rfl
theorem e_sn_sn (x : zAb) (v : Nat → Nat → Bool) : a_sn (b_sn x v) = v := rfl
theorem e_sn_hb (x : zAb) (v : Nat → Nat → Bool) : a_sn (b_hb x v) = a_sn x := rfl
theorem e_sn_rz (x : zAb) (v : Nat → Nat) : a_sn (b_rz x v) = a_sn x := rfl
theorem e_sn_rh (x : zAb) (v : Nat → Nat → Int32) : a_sn (b_rh x v) = a_sn x := rfl
theorem e_sn_q (x : zAb) (v : Nat → Nat → List zIt) : a_sn (b_q x v) = a_sn x := rfl
theorem e_sn_to (x : zAb) (v : Nat → Nat → Nat → Bool) : a_sn (b_to x v) = a_sn x := rfl
theorem e_sn_tb (x : zAb) (v : Nat → Nat → Nat → Bool) : a_sn (b_tb x v) = a_sn x := rfl
theorem e_hb_dk (x : zAb) (v : Nat) : a_hb (b_dk x v) = a_hb x := rfl
theorem e_hb_nr (x : zAb) (v : Nat) : a_hb (b_nr x v) = a_hb x := rfl
theorem e_hb_nw (x : zAb) (v : Nat) : a_hb (b_nw x v) = a_hb x := rfl
theorem e_hb_nn (x : zAb) (v : Nat) : a_hb (b_nn x v) = a_hb x := rfl
theorem e_hb_po (x : zAb) (v : Int32) : a_hb (b_po x v) = a_hb x := rfl
theorem e_hb_ne (x : zAb) (v : Int32) : a_hb (b_ne x v) = a_hb x := rfl
theorem e_hb_td (x : zAb) (v : Int32) : a_hb (b_td x v) = a_hb x := rfl
theorem e_hb_lk (x : zAb) (v : Nat → Nat → Bool) : a_hb (b_lk x v) = a_hb x := rfl
theorem e_hb_rd (x : zAb) (v : Nat → Nat) : a_hb (b_rd x v) = a_hb x := rfl
theorem e_hb_wr (x : zAb) (v : Nat → Nat) : a_hb (b_wr x v) = a_hb x := rfl
theorem e_hb_wa (x : zAb) (v : Nat → Bool) : a_hb (b_wa x v) = a_hb x := rfl
theorem e_hb_fk (x : zAb) (v : Nat → Nat → Int32) : a_hb (b_fk x v) = a_hb x := rfl
theorem e_hb_fz (x : zAb) (v : Nat → Nat → Nat) : a_hb (b_fz x v) = a_hb x := rfl
theorem e_hb_fg (x : zAb) (v : Nat → Nat → Nat → Int32) : a_hb (b_fg x v) = a_hb x := rfl
theorem e_hb_nf (x : zAb) (v : Nat → Nat → Int32) : a_hb (b_nf x v) = a_hb x := rfl
theorem e_hb_nd (x : zAb) (v : Nat → Int32) : a_hb (b_nd x v) = a_hb x := rfl
theorem e_hb_sn (x : zAb) (v : Nat → Nat → Bool) : a_hb (b_sn x v) = a_hb x := rfl
theorem e_hb_hb (x : zAb) (v : Nat → Nat → Bool) : a_hb (b_hb x v) = v := rfl
theorem e_hb_rz (x : zAb) (v : Nat → Nat) : a_hb (b_rz x v) = a_hb x := rfl
theorem e_hb_rh (x : zAb) (v : Nat → Nat → Int32) : a_hb (b_rh x v) = a_hb x := rfl
theorem e_hb_q (x : zAb) (v : Nat → Nat → List zIt) : a_hb (b_q x v) = a_hb x := rfl
theorem e_hb_to (x : zAb) (v : Nat → Nat → Nat → Bool) : a_hb (b_to x v) = a_hb x := rfl
theorem e_hb_tb (x : zAb) (v : Nat → Nat → Nat → Bool) : a_hb (b_tb x v) = a_hb x := rfl
theorem e_rz_dk (x : zAb) (v : Nat) : a_rz (b_dk x v) = a_rz x := rfl
theorem e_rz_nr (x : zAb) (v : Nat) : a_rz (b_nr x v) = a_rz x := rfl
theorem e_rz_nw (x : zAb) (v : Nat) : a_rz (b_nw x v) = a_rz x := rfl
theorem e_rz_nn (x : zAb) (v : Nat) : a_rz (b_nn x v) = a_rz x := rfl
theorem e_rz_po (x : zAb) (v : Int32) : a_rz (b_po x v) = a_rz x := rfl
theorem e_rz_ne (x : zAb) (v : Int32) : a_rz (b_ne x v) = a_rz x := rfl
theorem e_rz_td (x : zAb) (v : Int32) : a_rz (b_td x v) = a_rz x := rfl
theorem e_rz_lk (x : zAb) (v : Nat → Nat → Bool) : a_rz (b_lk x v) = a_rz x := rfl
theorem e_rz_rd (x : zAb) (v : Nat → Nat) : a_rz (b_rd x v) = a_rz x := rfl
theorem e_rz_wr (x : zAb) (v : Nat → Nat) : a_rz (b_wr x v) = a_rz x := rfl
theorem e_rz_wa (x : zAb) (v : Nat → Bool) : a_rz (b_wa x v) = a_rz x := rfl
theorem e_rz_fk (x : zAb) (v : Nat → Nat → Int32) : a_rz (b_fk x v) = a_rz x := rfl
theorem e_rz_fz (x : zAb) (v : Nat → Nat → Nat) : a_rz (b_fz x v) = a_rz x := rfl
theorem e_rz_fg (x : zAb) (v : Nat → Nat → Nat → Int32) : a_rz (b_fg x v) = a_rz x := rfl
theorem e_rz_nf (x : zAb) (v : Nat → Nat → Int32) : a_rz (b_nf x v) = a_rz x := rfl
theorem e_rz_nd (x : zAb) (v : Nat → Int32) : a_rz (b_nd x v) = a_rz x := rfl
theorem e_rz_sn (x : zAb) (v : Nat → Nat → Bool) : a_rz (b_sn x v) = a_rz x := rfl
theorem e_rz_hb (x : zAb) (v : Nat → Nat → Bool) : a_rz (b_hb x v) = a_rz x := rfl
theorem e_rz_rz (x : zAb) (v : Nat → Nat) : a_rz (b_rz x v) = v := rfl
theorem e_rz_rh (x : zAb) (v : Nat → Nat → Int32) : a_rz (b_rh x v) = a_rz x := rfl
theorem e_rz_q (x : zAb) (v : Nat → Nat → List zIt) : a_rz (b_q x v) = a_rz x := rfl
theorem e_rz_to (x : zAb) (v : Nat → Nat → Nat → Bool) : a_rz (b_to x v) = a_rz x := rfl
theorem e_rz_tb (x : zAb) (v : Nat → Nat → Nat → Bool) : a_rz (b_tb x v) = a_rz x := rfl
theorem e_rh_dk (x : zAb) (v : Nat) : a_rh (b_dk x v) = a_rh x := rfl
theorem e_rh_nr (x : zAb) (v : Nat) : a_rh (b_nr x v) = a_rh x := rfl
theorem e_rh_nw (x : zAb) (v : Nat) : a_rh (b_nw x v) = a_rh x := rfl
theorem e_rh_nn (x : zAb) (v : Nat) : a_rh (b_nn x v) = a_rh x := rfl
theorem e_rh_po (x : zAb) (v : Int32) : a_rh (b_po x v) = a_rh x := rfl
theorem e_rh_ne (x : zAb) (v : Int32) : a_rh (b_ne x v) = a_rh x := rfl
theorem e_rh_td (x : zAb) (v : Int32) : a_rh (b_td x v) = a_rh x := rfl
theorem e_rh_lk (x : zAb) (v : Nat → Nat → Bool) : a_rh (b_lk x v) = a_rh x := rfl
theorem e_rh_rd (x : zAb) (v : Nat → Nat) : a_rh (b_rd x v) = a_rh x := rfl
theorem e_rh_wr (x : zAb) (v : Nat → Nat) : a_rh (b_wr x v) = a_rh x := rfl
theorem e_rh_wa (x : zAb) (v : Nat → Bool) : a_rh (b_wa x v) = a_rh x := rfl
theorem e_rh_fk (x : zAb) (v : Nat → Nat → Int32) : a_rh (b_fk x v) = a_rh x := rfl
theorem e_rh_fz (x : zAb) (v : Nat → Nat → Nat) : a_rh (b_fz x v) = a_rh x := rfl
theorem e_rh_fg (x : zAb) (v : Nat → Nat → Nat → Int32) : a_rh (b_fg x v) = a_rh x := rfl
theorem e_rh_nf (x : zAb) (v : Nat → Nat → Int32) : a_rh (b_nf x v) = a_rh x := rfl
theorem e_rh_nd (x : zAb) (v : Nat → Int32) : a_rh (b_nd x v) = a_rh x := rfl
theorem e_rh_sn (x : zAb) (v : Nat → Nat → Bool) : a_rh (b_sn x v) = a_rh x := rfl
theorem e_rh_hb (x : zAb) (v : Nat → Nat → Bool) : a_rh (b_hb x v) = a_rh x := rfl
theorem e_rh_rz (x : zAb) (v : Nat → Nat) : a_rh (b_rz x v) = a_rh x := rfl
theorem e_rh_rh (x : zAb) (v : Nat → Nat → Int32) : a_rh (b_rh x v) = v := rfl
theorem e_rh_q (x : zAb) (v : Nat → Nat → List zIt) : a_rh (b_q x v) = a_rh x := rfl
theorem e_rh_to (x : zAb) (v : Nat → Nat → Nat → Bool) : a_rh (b_to x v) = a_rh x := rfl
theorem e_rh_tb (x : zAb) (v : Nat → Nat → Nat → Bool) : a_rh (b_tb x v) = a_rh x := rfl
theorem e_q_dk (x : zAb) (v : Nat) : a_q (b_dk x v) = a_q x := rfl
theorem e_q_nr (x : zAb) (v : Nat) : a_q (b_nr x v) = a_q x := rfl
theorem e_q_nw (x : zAb) (v : Nat) : a_q (b_nw x v) = a_q x := rfl
theorem e_q_nn (x : zAb) (v : Nat) : a_q (b_nn x v) = a_q x := rfl
theorem e_q_po (x : zAb) (v : Int32) : a_q (b_po x v) = a_q x := rfl
theorem e_q_ne (x : zAb) (v : Int32) : a_q (b_ne x v) = a_q x := rfl
theorem e_q_td (x : zAb) (v : Int32) : a_q (b_td x v) = a_q x := rfl
theorem e_q_lk (x : zAb) (v : Nat → Nat → Bool) : a_q (b_lk x v) = a_q x := rfl
theorem e_q_rd (x : zAb) (v : Nat → Nat) : a_q (b_rd x v) = a_q x := rfl
theorem e_q_wr (x : zAb) (v : Nat → Nat) : a_q (b_wr x v) = a_q x := rfl
theorem e_q_wa (x : zAb) (v : Nat → Bool) : a_q (b_wa x v) = a_q x := rfl
theorem e_q_fk (x : zAb) (v : Nat → Nat → Int32) : a_q (b_fk x v) = a_q x := rfl
theorem e_q_fz (x : zAb) (v : Nat → Nat → Nat) : a_q (b_fz x v) = a_q x := rfl
theorem e_q_fg (x : zAb) (v : Nat → Nat → Nat → Int32) : a_q (b_fg x v) = a_q x := rfl
theorem e_q_nf (x : zAb) (v : Nat → Nat → Int32) : a_q (b_nf x v) = a_q x := rfl
theorem e_q_nd (x : zAb) (v : Nat → Int32) : a_q (b_nd x v) = a_q x := rfl
theorem e_q_sn (x : zAb) (v : Nat → Nat → Bool) : a_q (b_sn x v) = a_q x := rfl
theorem e_q_hb (x : zAb) (v : Nat → Nat → Bool) : a_q (b_hb x v) = a_q x := rfl
theorem e_q_rz (x : zAb) (v : Nat → Nat) : a_q (b_rz x v) = a_q x := rfl
theorem e_q_rh (x : zAb) (v : Nat → Nat → Int32) : a_q (b_rh x v) = a_q x := rfl
theorem e_q_q (x : zAb) (v : Nat → Nat → List zIt) : a_q (b_q x v) = v := rfl
theorem e_q_to (x : zAb) (v : Nat → Nat → Nat → Bool) : a_q (b_to x v) = a_q x := rfl
theorem e_q_tb (x : zAb) (v : Nat → Nat → Nat → Bool) : a_q (b_tb x v) = a_q x := rfl
theorem e_to_dk (x : zAb) (v : Nat) : a_to (b_dk x v) = a_to x := rfl
theorem e_to_nr (x : zAb) (v : Nat) : a_to (b_nr x v) = a_to x := rfl
theorem e_to_nw (x : zAb) (v : Nat) : a_to (b_nw x v) = a_to x := rfl
theorem e_to_nn (x : zAb) (v : Nat) : a_to (b_nn x v) = a_to x := rfl
theorem e_to_po (x : zAb) (v : Int32) : a_to (b_po x v) = a_to x := rfl
theorem e_to_ne (x : zAb) (v : Int32) : a_to (b_ne x v) = a_to x := rfl
theorem e_to_td (x : zAb) (v : Int32) : a_to (b_td x v) = a_to x := rfl
theorem e_to_lk (x : zAb) (v : Nat → Nat → Bool) : a_to (b_lk x v) = a_to x := rfl
theorem e_to_rd (x : zAb) (v : Nat → Nat) : a_to (b_rd x v) = a_to x := rfl
theorem e_to_wr (x : zAb) (v : Nat → Nat) : a_to (b_wr x v) = a_to x := rfl
theorem e_to_wa (x : zAb) (v : Nat → Bool) : a_to (b_wa x v) = a_to x := rfl
theorem e_to_fk (x : zAb) (v : Nat → Nat → Int32) : a_to (b_fk x v) = a_to x := rfl
theorem e_to_fz (x : zAb) (v : Nat → Nat → Nat) : a_to (b_fz x v) = a_to x := rfl
theorem e_to_fg (x : zAb) (v : Nat → Nat → Nat → Int32) : a_to (b_fg x v) = a_to x := rfl
theorem e_to_nf (x : zAb) (v : Nat → Nat → Int32) : a_to (b_nf x v) = a_to x := rfl
theorem e_to_nd (x : zAb) (v : Nat → Int32) : a_to (b_nd x v) = a_to x := rfl
theorem e_to_sn (x : zAb) (v : Nat → Nat → Bool) : a_to (b_sn x v) = a_to x := rfl
theorem e_to_hb (x : zAb) (v : Nat → Nat → Bool) : a_to (b_hb x v) = a_to x := rfl
theorem e_to_rz (x : zAb) (v : Nat → Nat) : a_to (b_rz x v) = a_to x := rfl
theorem e_to_rh (x : zAb) (v : Nat → Nat → Int32) : a_to (b_rh x v) = a_to x := rfl
theorem e_to_q (x : zAb) (v : Nat → Nat → List zIt) : a_to (b_q x v) = a_to x := rfl
theorem e_to_to (x : zAb) (v : Nat → Nat → Nat → Bool) : a_to (b_to x v) = v := rfl
theorem e_to_tb (x : zAb) (v : Nat → Nat → Nat → Bool) : a_to (b_tb x v) = a_to x := rfl
theorem e_tb_dk (x : zAb) (v : Nat) : a_tb (b_dk x v) = a_tb x := rfl
theorem e_tb_nr (x : zAb) (v : Nat) : a_tb (b_nr x v) = a_tb x := rfl
theorem e_tb_nw (x : zAb) (v : Nat) : a_tb (b_nw x v) = a_tb x := rfl
theorem e_tb_nn (x : zAb) (v : Nat) : a_tb (b_nn x v) = a_tb x := rfl
theorem e_tb_po (x : zAb) (v : Int32) : a_tb (b_po x v) = a_tb x := rfl
theorem e_tb_ne (x : zAb) (v : Int32) : a_tb (b_ne x v) = a_tb x := rfl
theorem e_tb_td (x : zAb) (v : Int32) : a_tb (b_td x v) = a_tb x := rfl
theorem e_tb_lk (x : zAb) (v : Nat → Nat → Bool) : a_tb (b_lk x v) = a_tb x := rfl
theorem e_tb_rd (x : zAb) (v : Nat → Nat) : a_tb (b_rd x v) = a_tb x := rfl
theorem e_tb_wr (x : zAb) (v : Nat → Nat) : a_tb (b_wr x v) = a_tb x := rfl
theorem e_tb_wa (x : zAb) (v : Nat → Bool) : a_tb (b_wa x v) = a_tb x := rfl
theorem e_tb_fk (x : zAb) (v : Nat → Nat → Int32) : a_tb (b_fk x v) = a_tb x := rfl
theorem e_tb_fz (x : zAb) (v : Nat → Nat → Nat) : a_tb (b_fz x v) = a_tb x := rfl
theorem e_tb_fg (x : zAb) (v : Nat → Nat → Nat → Int32) : a_tb (b_fg x v) = a_tb x := rfl
theorem e_tb_nf (x : zAb) (v : Nat → Nat → Int32) : a_tb (b_nf x v) = a_tb x := rfl
theorem e_tb_nd (x : zAb) (v : Nat → Int32) : a_tb (b_nd x v) = a_tb x := rfl
theorem e_tb_sn (x : zAb) (v : Nat → Nat → Bool) : a_tb (b_sn x v) = a_tb x := rfl
theorem e_tb_hb (x : zAb) (v : Nat → Nat → Bool) : a_tb (b_hb x v) = a_tb x := rfl
theorem e_tb_rz (x : zAb) (v : Nat → Nat) : a_tb (b_rz x v) = a_tb x := rfl
theorem e_tb_rh (x : zAb) (v : Nat → Nat → Int32) : a_tb (b_rh x v) = a_tb x := rfl
theorem e_tb_q (x : zAb) (v : Nat → Nat → List zIt) : a_tb (b_q x v) = a_tb x := rfl
theorem e_tb_to (x : zAb) (v : Nat → Nat → Nat → Bool) : a_tb (b_to x v) = a_tb x := rfl
theorem e_tb_tb (x : zAb) (v : Nat → Nat → Nat → Bool) : a_tb (b_tb x v) = v := rfl
