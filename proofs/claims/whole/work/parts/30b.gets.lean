/-! reading what was set -/
theorem zM {P : zMp → Prop} {M M' : zMp} (e : M = M') (h : P M') : P M := e ▸ h
theorem g_dk_dk (x : zSt) (v : Nat) : x_dk (u_dk x v) = v := rfl
theorem g_dk_lk (x : zSt) (v : Int32) : x_dk (u_lk x v) = x_dk x := rfl
theorem g_dk_po (x : zSt) (v : Int32) : x_dk (u_po x v) = x_dk x := rfl
theorem g_dk_ne (x : zSt) (v : Int32) : x_dk (u_ne x v) = x_dk x := rfl
theorem g_dk_td (x : zSt) (v : Int32) : x_dk (u_td x v) = x_dk x := rfl
theorem g_dk_nb (x : zSt) (v : Nat → Int32) : x_dk (u_nb x v) = x_dk x := rfl
theorem g_dk_ln (x : zSt) (v : Nat → Option Nat) : x_dk (u_ln x v) = x_dk x := rfl
theorem g_dk_nr (x : zSt) (v : Nat) : x_dk (u_nr x v) = x_dk x := rfl
theorem g_dk_nw (x : zSt) (v : Nat) : x_dk (u_nw x v) = x_dk x := rfl
theorem g_dk_nn (x : zSt) (v : Nat) : x_dk (u_nn x v) = x_dk x := rfl
theorem g_dk_ns (x : zSt) (v : Nat) : x_dk (u_ns x v) = x_dk x := rfl
theorem g_dk_or (x : zSt) (v : Nat) : x_dk (u_or x v) = x_dk x := rfl
theorem g_dk_ow (x : zSt) (v : Nat) : x_dk (u_ow x v) = x_dk x := rfl
theorem g_dk_on (x : zSt) (v : Nat) : x_dk (u_on x v) = x_dk x := rfl
theorem g_dk_nl (x : zSt) (v : Nat) : x_dk (u_nl x v) = x_dk x := rfl
theorem g_dk_ng (x : zSt) (v : Nat) : x_dk (u_ng x v) = x_dk x := rfl
theorem g_dk_rg (x : zSt) (v : Nat) : x_dk (u_rg x v) = x_dk x := rfl
theorem g_dk_lc (x : zSt) (v : Nat → Int32) : x_dk (u_lc x v) = x_dk x := rfl
theorem g_dk_cp (x : zSt) (v : Nat → Nat) : x_dk (u_cp x v) = x_dk x := rfl
theorem g_dk_gb (x : zSt) (v : Nat → Nat → Option zAE) : x_dk (u_gb x v) = x_dk x := rfl
theorem g_dk_sp (x : zSt) (v : Nat → Nat) : x_dk (u_sp x v) = x_dk x := rfl
theorem g_dk_kn (x : zSt) (v : Nat → Int64) : x_dk (u_kn x v) = x_dk x := rfl
theorem g_dk_me (x : zSt) (v : Nat → Int64) : x_dk (u_me x v) = x_dk x := rfl
theorem g_dk_ob (x : zSt) (v : Nat → Nat → Int64) : x_dk (u_ob x v) = x_dk x := rfl
theorem g_dk_fk (x : zSt) (v : Nat → Nat → Int32) : x_dk (u_fk x v) = x_dk x := rfl
theorem g_dk_fz (x : zSt) (v : Nat → Nat → Nat) : x_dk (u_fz x v) = x_dk x := rfl
theorem g_dk_fg (x : zSt) (v : Nat → Nat → Nat → Int32) : x_dk (u_fg x v) = x_dk x := rfl
theorem g_dk_rd (x : zSt) (v : Nat → Int32) : x_dk (u_rd x v) = x_dk x := rfl
theorem g_dk_rz (x : zSt) (v : Nat → Nat) : x_dk (u_rz x v) = x_dk x := rfl
theorem g_dk_rh (x : zSt) (v : Nat → Nat → Int32) : x_dk (u_rh x v) = x_dk x := rfl
theorem g_dk_nd (x : zSt) (v : Nat → Int32) : x_dk (u_nd x v) = x_dk x := rfl
theorem g_dk_nm (x : zSt) (v : Nat → Int32) : x_dk (u_nm x v) = x_dk x := rfl
theorem g_dk_nv (x : zSt) (v : Nat → Int32) : x_dk (u_nv x v) = x_dk x := rfl
theorem g_dk_nh (x : zSt) (v : Nat → Int32) : x_dk (u_nh x v) = x_dk x := rfl
theorem g_dk_nf (x : zSt) (v : Nat → Nat → Int32) : x_dk (u_nf x v) = x_dk x := rfl
theorem g_dk_wr (x : zSt) (v : Nat → Nat) : x_dk (u_wr x v) = x_dk x := rfl
theorem g_dk_wa (x : zSt) (v : Nat → Bool) : x_dk (u_wa x v) = x_dk x := rfl
theorem g_dk_lz (x : zSt) (v : Nat → Nat) : x_dk (u_lz x v) = x_dk x := rfl
theorem g_dk_lf (x : zSt) (v : Nat → Nat) : x_dk (u_lf x v) = x_dk x := rfl
theorem g_dk_li (x : zSt) (v : Nat → Nat → Int32) : x_dk (u_li x v) = x_dk x := rfl
theorem g_dk_lt (x : zSt) (v : Nat → Nat → Int64) : x_dk (u_lt x v) = x_dk x := rfl
theorem g_dk_lb (x : zSt) (v : Nat → Nat → Int64) : x_dk (u_lb x v) = x_dk x := rfl
theorem g_dk_lr (x : zSt) (v : Nat → Nat → Option (Nat → Int64)) : x_dk (u_lr x v) = x_dk x := rfl
theorem g_dk_tn (x : zSt) (v : Nat) : x_dk (u_tn x v) = x_dk x := rfl
theorem g_dk_tf (x : zSt) (v : Nat → Nat → Int32) : x_dk (u_tf x v) = x_dk x := rfl
theorem g_lk_dk (x : zSt) (v : Nat) : x_lk (u_dk x v) = x_lk x := rfl
theorem g_lk_lk (x : zSt) (v : Int32) : x_lk (u_lk x v) = v := rfl
theorem g_lk_po (x : zSt) (v : Int32) : x_lk (u_po x v) = x_lk x := rfl
theorem g_lk_ne (x : zSt) (v : Int32) : x_lk (u_ne x v) = x_lk x := rfl
theorem g_lk_td (x : zSt) (v : Int32) : x_lk (u_td x v) = x_lk x := rfl
theorem g_lk_nb (x : zSt) (v : Nat → Int32) : x_lk (u_nb x v) = x_lk x := rfl
theorem g_lk_ln (x : zSt) (v : Nat → Option Nat) : x_lk (u_ln x v) = x_lk x := rfl
theorem g_lk_nr (x : zSt) (v : Nat) : x_lk (u_nr x v) = x_lk x := rfl
theorem g_lk_nw (x : zSt) (v : Nat) : x_lk (u_nw x v) = x_lk x := rfl
theorem g_lk_nn (x : zSt) (v : Nat) : x_lk (u_nn x v) = x_lk x := rfl
theorem g_lk_ns (x : zSt) (v : Nat) : x_lk (u_ns x v) = x_lk x := rfl
theorem g_lk_or (x : zSt) (v : Nat) : x_lk (u_or x v) = x_lk x := rfl
theorem g_lk_ow (x : zSt) (v : Nat) : x_lk (u_ow x v) = x_lk x := rfl
theorem g_lk_on (x : zSt) (v : Nat) : x_lk (u_on x v) = x_lk x := rfl
theorem g_lk_nl (x : zSt) (v : Nat) : x_lk (u_nl x v) = x_lk x := rfl
theorem g_lk_ng (x : zSt) (v : Nat) : x_lk (u_ng x v) = x_lk x := rfl
theorem g_lk_rg (x : zSt) (v : Nat) : x_lk (u_rg x v) = x_lk x := rfl
theorem g_lk_lc (x : zSt) (v : Nat → Int32) : x_lk (u_lc x v) = x_lk x := rfl
theorem g_lk_cp (x : zSt) (v : Nat → Nat) : x_lk (u_cp x v) = x_lk x := rfl
theorem g_lk_gb (x : zSt) (v : Nat → Nat → Option zAE) : x_lk (u_gb x v) = x_lk x := rfl
theorem g_lk_sp (x : zSt) (v : Nat → Nat) : x_lk (u_sp x v) = x_lk x := rfl
theorem g_lk_kn (x : zSt) (v : Nat → Int64) : x_lk (u_kn x v) = x_lk x := rfl
theorem g_lk_me (x : zSt) (v : Nat → Int64) : x_lk (u_me x v) = x_lk x := rfl
theorem g_lk_ob (x : zSt) (v : Nat → Nat → Int64) : x_lk (u_ob x v) = x_lk x := rfl
theorem g_lk_fk (x : zSt) (v : Nat → Nat → Int32) : x_lk (u_fk x v) = x_lk x := rfl
theorem g_lk_fz (x : zSt) (v : Nat → Nat → Nat) : x_lk (u_fz x v) = x_lk x := rfl
theorem g_lk_fg (x : zSt) (v : Nat → Nat → Nat → Int32) : x_lk (u_fg x v) = x_lk x := rfl
theorem g_lk_rd (x : zSt) (v : Nat → Int32) : x_lk (u_rd x v) = x_lk x := rfl
theorem g_lk_rz (x : zSt) (v : Nat → Nat) : x_lk (u_rz x v) = x_lk x := rfl
theorem g_lk_rh (x : zSt) (v : Nat → Nat → Int32) : x_lk (u_rh x v) = x_lk x := rfl
theorem g_lk_nd (x : zSt) (v : Nat → Int32) : x_lk (u_nd x v) = x_lk x := rfl
theorem g_lk_nm (x : zSt) (v : Nat → Int32) : x_lk (u_nm x v) = x_lk x := rfl
theorem g_lk_nv (x : zSt) (v : Nat → Int32) : x_lk (u_nv x v) = x_lk x := rfl
theorem g_lk_nh (x : zSt) (v : Nat → Int32) : x_lk (u_nh x v) = x_lk x := rfl
theorem g_lk_nf (x : zSt) (v : Nat → Nat → Int32) : x_lk (u_nf x v) = x_lk x := rfl
theorem g_lk_wr (x : zSt) (v : Nat → Nat) : x_lk (u_wr x v) = x_lk x := rfl
theorem g_lk_wa (x : zSt) (v : Nat → Bool) : x_lk (u_wa x v) = x_lk x := rfl
theorem g_lk_lz (x : zSt) (v : Nat → Nat) : x_lk (u_lz x v) = x_lk x := rfl
theorem g_lk_lf (x : zSt) (v : Nat → Nat) : x_lk (u_lf x v) = x_lk x := rfl
theorem g_lk_li (x : zSt) (v : Nat → Nat → Int32) : x_lk (u_li x v) = x_lk x := rfl
theorem g_lk_lt (x : zSt) (v : Nat → Nat → Int64) : x_lk (u_lt x v) = x_lk x := rfl
theorem g_lk_lb (x : zSt) (v : Nat → Nat → Int64) : x_lk (u_lb x v) = x_lk x := rfl
theorem g_lk_lr (x : zSt) (v : Nat → Nat → Option (Nat → Int64)) : x_lk (u_lr x v) = x_lk x := rfl
theorem g_lk_tn (x : zSt) (v : Nat) : x_lk (u_tn x v) = x_lk x := rfl
theorem g_lk_tf (x : zSt) (v : Nat → Nat → Int32) : x_lk (u_tf x v) = x_lk x := rfl
theorem g_po_dk (x : zSt) (v : Nat) : x_po (u_dk x v) = x_po x := rfl
theorem g_po_lk (x : zSt) (v : Int32) : x_po (u_lk x v) = x_po x := rfl
theorem g_po_po (x : zSt) (v : Int32) : x_po (u_po x v) = v := rfl
theorem g_po_ne (x : zSt) (v : Int32) : x_po (u_ne x v) = x_po x := rfl
theorem g_po_td (x : zSt) (v : Int32) : x_po (u_td x v) = x_po x := rfl
theorem g_po_nb (x : zSt) (v : Nat → Int32) : x_po (u_nb x v) = x_po x := rfl
theorem g_po_ln (x : zSt) (v : Nat → Option Nat) : x_po (u_ln x v) = x_po x := rfl
theorem g_po_nr (x : zSt) (v : Nat) : x_po (u_nr x v) = x_po x := rfl
theorem g_po_nw (x : zSt) (v : Nat) : x_po (u_nw x v) = x_po x := rfl
theorem g_po_nn (x : zSt) (v : Nat) : x_po (u_nn x v) = x_po x := rfl
theorem g_po_ns (x : zSt) (v : Nat) : x_po (u_ns x v) = x_po x := rfl
theorem g_po_or (x : zSt) (v : Nat) : x_po (u_or x v) = x_po x := rfl
theorem g_po_ow (x : zSt) (v : Nat) : x_po (u_ow x v) = x_po x := rfl
theorem g_po_on (x : zSt) (v : Nat) : x_po (u_on x v) = x_po x := rfl
theorem g_po_nl (x : zSt) (v : Nat) : x_po (u_nl x v) = x_po x := rfl
theorem g_po_ng (x : zSt) (v : Nat) : x_po (u_ng x v) = x_po x := rfl
theorem g_po_rg (x : zSt) (v : Nat) : x_po (u_rg x v) = x_po x := rfl
theorem g_po_lc (x : zSt) (v : Nat → Int32) : x_po (u_lc x v) = x_po x := rfl
theorem g_po_cp (x : zSt) (v : Nat → Nat) : x_po (u_cp x v) = x_po x := rfl
theorem g_po_gb (x : zSt) (v : Nat → Nat → Option zAE) : x_po (u_gb x v) = x_po x := rfl
theorem g_po_sp (x : zSt) (v : Nat → Nat) : x_po (u_sp x v) = x_po x := rfl
theorem g_po_kn (x : zSt) (v : Nat → Int64) : x_po (u_kn x v) = x_po x := rfl
theorem g_po_me (x : zSt) (v : Nat → Int64) : x_po (u_me x v) = x_po x := rfl
theorem g_po_ob (x : zSt) (v : Nat → Nat → Int64) : x_po (u_ob x v) = x_po x := rfl
theorem g_po_fk (x : zSt) (v : Nat → Nat → Int32) : x_po (u_fk x v) = x_po x := rfl
theorem g_po_fz (x : zSt) (v : Nat → Nat → Nat) : x_po (u_fz x v) = x_po x := rfl
theorem g_po_fg (x : zSt) (v : Nat → Nat → Nat → Int32) : x_po (u_fg x v) = x_po x := rfl
theorem g_po_rd (x : zSt) (v : Nat → Int32) : x_po (u_rd x v) = x_po x := rfl
theorem g_po_rz (x : zSt) (v : Nat → Nat) : x_po (u_rz x v) = x_po x := rfl
theorem g_po_rh (x : zSt) (v : Nat → Nat → Int32) : x_po (u_rh x v) = x_po x := rfl
theorem g_po_nd (x : zSt) (v : Nat → Int32) : x_po (u_nd x v) = x_po x := rfl
theorem g_po_nm (x : zSt) (v : Nat → Int32) : x_po (u_nm x v) = x_po x := rfl
theorem g_po_nv (x : zSt) (v : Nat → Int32) : x_po (u_nv x v) = x_po x := rfl
theorem g_po_nh (x : zSt) (v : Nat → Int32) : x_po (u_nh x v) = x_po x := rfl
theorem g_po_nf (x : zSt) (v : Nat → Nat → Int32) : x_po (u_nf x v) = x_po x := rfl
theorem g_po_wr (x : zSt) (v : Nat → Nat) : x_po (u_wr x v) = x_po x := rfl
theorem g_po_wa (x : zSt) (v : Nat → Bool) : x_po (u_wa x v) = x_po x := rfl
theorem g_po_lz (x : zSt) (v : Nat → Nat) : x_po (u_lz x v) = x_po x := rfl
theorem g_po_lf (x : zSt) (v : Nat → Nat) : x_po (u_lf x v) = x_po x := rfl
theorem g_po_li (x : zSt) (v : Nat → Nat → Int32) : x_po (u_li x v) = x_po x := rfl
theorem g_po_lt (x : zSt) (v : Nat → Nat → Int64) : x_po (u_lt x v) = x_po x := rfl
theorem g_po_lb (x : zSt) (v : Nat → Nat → Int64) : x_po (u_lb x v) = x_po x := rfl
theorem g_po_lr (x : zSt) (v : Nat → Nat → Option (Nat → Int64)) : x_po (u_lr x v) = x_po x := rfl
theorem g_po_tn (x : zSt) (v : Nat) : x_po (u_tn x v) = x_po x := rfl
theorem g_po_tf (x : zSt) (v : Nat → Nat → Int32) : x_po (u_tf x v) = x_po x := rfl
theorem g_ne_dk (x : zSt) (v : Nat) : x_ne (u_dk x v) = x_ne x := rfl
theorem g_ne_lk (x : zSt) (v : Int32) : x_ne (u_lk x v) = x_ne x := rfl
theorem g_ne_po (x : zSt) (v : Int32) : x_ne (u_po x v) = x_ne x := rfl
theorem g_ne_ne (x : zSt) (v : Int32) : x_ne (u_ne x v) = v := rfl
theorem g_ne_td (x : zSt) (v : Int32) : x_ne (u_td x v) = x_ne x := rfl
theorem g_ne_nb (x : zSt) (v : Nat → Int32) : x_ne (u_nb x v) = x_ne x := rfl
theorem g_ne_ln (x : zSt) (v : Nat → Option Nat) : x_ne (u_ln x v) = x_ne x := rfl
theorem g_ne_nr (x : zSt) (v : Nat) : x_ne (u_nr x v) = x_ne x := rfl
theorem g_ne_nw (x : zSt) (v : Nat) : x_ne (u_nw x v) = x_ne x := rfl
theorem g_ne_nn (x : zSt) (v : Nat) : x_ne (u_nn x v) = x_ne x := rfl
theorem g_ne_ns (x : zSt) (v : Nat) : x_ne (u_ns x v) = x_ne x := rfl
theorem g_ne_or (x : zSt) (v : Nat) : x_ne (u_or x v) = x_ne x := rfl
theorem g_ne_ow (x : zSt) (v : Nat) : x_ne (u_ow x v) = x_ne x := rfl
theorem g_ne_on (x : zSt) (v : Nat) : x_ne (u_on x v) = x_ne x := rfl
theorem g_ne_nl (x : zSt) (v : Nat) : x_ne (u_nl x v) = x_ne x := rfl
theorem g_ne_ng (x : zSt) (v : Nat) : x_ne (u_ng x v) = x_ne x := rfl
theorem g_ne_rg (x : zSt) (v : Nat) : x_ne (u_rg x v) = x_ne x := rfl
theorem g_ne_lc (x : zSt) (v : Nat → Int32) : x_ne (u_lc x v) = x_ne x := rfl
theorem g_ne_cp (x : zSt) (v : Nat → Nat) : x_ne (u_cp x v) = x_ne x := rfl
theorem g_ne_gb (x : zSt) (v : Nat → Nat → Option zAE) : x_ne (u_gb x v) = x_ne x := rfl
theorem g_ne_sp (x : zSt) (v : Nat → Nat) : x_ne (u_sp x v) = x_ne x := rfl
theorem g_ne_kn (x : zSt) (v : Nat → Int64) : x_ne (u_kn x v) = x_ne x := rfl
theorem g_ne_me (x : zSt) (v : Nat → Int64) : x_ne (u_me x v) = x_ne x := rfl
theorem g_ne_ob (x : zSt) (v : Nat → Nat → Int64) : x_ne (u_ob x v) = x_ne x := rfl
theorem g_ne_fk (x : zSt) (v : Nat → Nat → Int32) : x_ne (u_fk x v) = x_ne x := rfl
theorem g_ne_fz (x : zSt) (v : Nat → Nat → Nat) : x_ne (u_fz x v) = x_ne x := rfl
theorem g_ne_fg (x : zSt) (v : Nat → Nat → Nat → Int32) : x_ne (u_fg x v) = x_ne x := rfl
theorem g_ne_rd (x : zSt) (v : Nat → Int32) : x_ne (u_rd x v) = x_ne x := rfl
theorem g_ne_rz (x : zSt) (v : Nat → Nat) : x_ne (u_rz x v) = x_ne x := rfl
theorem g_ne_rh (x : zSt) (v : Nat → Nat → Int32) : x_ne (u_rh x v) = x_ne x := rfl
theorem g_ne_nd (x : zSt) (v : Nat → Int32) : x_ne (u_nd x v) = x_ne x := rfl
theorem g_ne_nm (x : zSt) (v : Nat → Int32) : x_ne (u_nm x v) = x_ne x := rfl
theorem g_ne_nv (x : zSt) (v : Nat → Int32) : x_ne (u_nv x v) = x_ne x := rfl
theorem g_ne_nh (x : zSt) (v : Nat → Int32) : x_ne (u_nh x v) = x_ne x := rfl
theorem g_ne_nf (x : zSt) (v : Nat → Nat → Int32) : x_ne (u_nf x v) = x_ne x := rfl
theorem g_ne_wr (x : zSt) (v : Nat → Nat) : x_ne (u_wr x v) = x_ne x := rfl
theorem g_ne_wa (x : zSt) (v : Nat → Bool) : x_ne (u_wa x v) = x_ne x := rfl
theorem g_ne_lz (x : zSt) (v : Nat → Nat) : x_ne (u_lz x v) = x_ne x := rfl
theorem g_ne_lf (x : zSt) (v : Nat → Nat) : x_ne (u_lf x v) = x_ne x := rfl
theorem g_ne_li (x : zSt) (v : Nat → Nat → Int32) : x_ne (u_li x v) = x_ne x := rfl
theorem g_ne_lt (x : zSt) (v : Nat → Nat → Int64) : x_ne (u_lt x v) = x_ne x := rfl
theorem g_ne_lb (x : zSt) (v : Nat → Nat → Int64) : x_ne (u_lb x v) = x_ne x := rfl
theorem g_ne_lr (x : zSt) (v : Nat → Nat → Option (Nat → Int64)) : x_ne (u_lr x v) = x_ne x := rfl
theorem g_ne_tn (x : zSt) (v : Nat) : x_ne (u_tn x v) = x_ne x := rfl
theorem g_ne_tf (x : zSt) (v : Nat → Nat → Int32) : x_ne (u_tf x v) = x_ne x := rfl
theorem g_td_dk (x : zSt) (v : Nat) : x_td (u_dk x v) = x_td x := rfl
theorem g_td_lk (x : zSt) (v : Int32) : x_td (u_lk x v) = x_td x := rfl
theorem g_td_po (x : zSt) (v : Int32) : x_td (u_po x v) = x_td x := rfl
theorem g_td_ne (x : zSt) (v : Int32) : x_td (u_ne x v) = x_td x := rfl
theorem g_td_td (x : zSt) (v : Int32) : x_td (u_td x v) = v := rfl
theorem g_td_nb (x : zSt) (v : Nat → Int32) : x_td (u_nb x v) = x_td x := rfl
theorem g_td_ln (x : zSt) (v : Nat → Option Nat) : x_td (u_ln x v) = x_td x := rfl
theorem g_td_nr (x : zSt) (v : Nat) : x_td (u_nr x v) = x_td x := rfl
theorem g_td_nw (x : zSt) (v : Nat) : x_td (u_nw x v) = x_td x := rfl
theorem g_td_nn (x : zSt) (v : Nat) : x_td (u_nn x v) = x_td x := rfl
theorem g_td_ns (x : zSt) (v : Nat) : x_td (u_ns x v) = x_td x := rfl
theorem g_td_or (x : zSt) (v : Nat) : x_td (u_or x v) = x_td x := rfl
theorem g_td_ow (x : zSt) (v : Nat) : x_td (u_ow x v) = x_td x := rfl
theorem g_td_on (x : zSt) (v : Nat) : x_td (u_on x v) = x_td x := rfl
theorem g_td_nl (x : zSt) (v : Nat) : x_td (u_nl x v) = x_td x := rfl
theorem g_td_ng (x : zSt) (v : Nat) : x_td (u_ng x v) = x_td x := rfl
theorem g_td_rg (x : zSt) (v : Nat) : x_td (u_rg x v) = x_td x := rfl
theorem g_td_lc (x : zSt) (v : Nat → Int32) : x_td (u_lc x v) = x_td x := rfl
theorem g_td_cp (x : zSt) (v : Nat → Nat) : x_td (u_cp x v) = x_td x := rfl
theorem g_td_gb (x : zSt) (v : Nat → Nat → Option zAE) : x_td (u_gb x v) = x_td x := rfl
theorem g_td_sp (x : zSt) (v : Nat → Nat) : x_td (u_sp x v) = x_td x := rfl
theorem g_td_kn (x : zSt) (v : Nat → Int64) : x_td (u_kn x v) = x_td x := rfl
theorem g_td_me (x : zSt) (v : Nat → Int64) : x_td (u_me x v) = x_td x := rfl
theorem g_td_ob (x : zSt) (v : Nat → Nat → Int64) : x_td (u_ob x v) = x_td x := rfl
theorem g_td_fk (x : zSt) (v : Nat → Nat → Int32) : x_td (u_fk x v) = x_td x := rfl
theorem g_td_fz (x : zSt) (v : Nat → Nat → Nat) : x_td (u_fz x v) = x_td x := rfl
theorem g_td_fg (x : zSt) (v : Nat → Nat → Nat → Int32) : x_td (u_fg x v) = x_td x := rfl
theorem g_td_rd (x : zSt) (v : Nat → Int32) : x_td (u_rd x v) = x_td x := rfl
theorem g_td_rz (x : zSt) (v : Nat → Nat) : x_td (u_rz x v) = x_td x := rfl
theorem g_td_rh (x : zSt) (v : Nat → Nat → Int32) : x_td (u_rh x v) = x_td x := rfl
theorem g_td_nd (x : zSt) (v : Nat → Int32) : x_td (u_nd x v) = x_td x := rfl
theorem g_td_nm (x : zSt) (v : Nat → Int32) : x_td (u_nm x v) = x_td x := rfl
theorem g_td_nv (x : zSt) (v : Nat → Int32) : x_td (u_nv x v) = x_td x := rfl
theorem g_td_nh (x : zSt) (v : Nat → Int32) : x_td (u_nh x v) = x_td x := rfl
theorem g_td_nf (x : zSt) (v : Nat → Nat → Int32) : x_td (u_nf x v) = x_td x := rfl
theorem g_td_wr (x : zSt) (v : Nat → Nat) : x_td (u_wr x v) = x_td x := rfl
theorem g_td_wa (x : zSt) (v : Nat → Bool) : x_td (u_wa x v) = x_td x := rfl
theorem g_td_lz (x : zSt) (v : Nat → Nat) : x_td (u_lz x v) = x_td x := rfl
theorem g_td_lf (x : zSt) (v : Nat → Nat) : x_td (u_lf x v) = x_td x := rfl
theorem g_td_li (x : zSt) (v : Nat → Nat → Int32) : x_td (u_li x v) = x_td x := rfl
theorem g_td_lt (x : zSt) (v : Nat → Nat → Int64) : x_td (u_lt x v) = x_td x := rfl
theorem g_td_lb (x : zSt) (v : Nat → Nat → Int64) : x_td (u_lb x v) = x_td x := rfl
theorem g_td_lr (x : zSt) (v : Nat → Nat → Option (Nat → Int64)) : x_td (u_lr x v) = x_td x := rfl
theorem g_td_tn (x : zSt) (v : Nat) : x_td (u_tn x v) = x_td x := rfl
theorem g_td_tf (x : zSt) (v : Nat → Nat → Int32) : x_td (u_tf x v) = x_td x := rfl
theorem g_nb_dk (x : zSt) (v : Nat) : x_nb (u_dk x v) = x_nb x := rfl
theorem g_nb_lk (x : zSt) (v : Int32) : x_nb (u_lk x v) = x_nb x := rfl
theorem g_nb_po (x : zSt) (v : Int32) : x_nb (u_po x v) = x_nb x := rfl
theorem g_nb_ne (x : zSt) (v : Int32) : x_nb (u_ne x v) = x_nb x := rfl
theorem g_nb_td (x : zSt) (v : Int32) : x_nb (u_td x v) = x_nb x := rfl
theorem g_nb_nb (x : zSt) (v : Nat → Int32) : x_nb (u_nb x v) = v := rfl
theorem g_nb_ln (x : zSt) (v : Nat → Option Nat) : x_nb (u_ln x v) = x_nb x := rfl
theorem g_nb_nr (x : zSt) (v : Nat) : x_nb (u_nr x v) = x_nb x := rfl
theorem g_nb_nw (x : zSt) (v : Nat) : x_nb (u_nw x v) = x_nb x := rfl
theorem g_nb_nn (x : zSt) (v : Nat) : x_nb (u_nn x v) = x_nb x := rfl
theorem g_nb_ns (x : zSt) (v : Nat) : x_nb (u_ns x v) = x_nb x := rfl
theorem g_nb_or (x : zSt) (v : Nat) : x_nb (u_or x v) = x_nb x := rfl
theorem g_nb_ow (x : zSt) (v : Nat) : x_nb (u_ow x v) = x_nb x := rfl
theorem g_nb_on (x : zSt) (v : Nat) : x_nb (u_on x v) = x_nb x := rfl
theorem g_nb_nl (x : zSt) (v : Nat) : x_nb (u_nl x v) = x_nb x := rfl
theorem g_nb_ng (x : zSt) (v : Nat) : x_nb (u_ng x v) = x_nb x := rfl
theorem g_nb_rg (x : zSt) (v : Nat) : x_nb (u_rg x v) = x_nb x := rfl
theorem g_nb_lc (x : zSt) (v : Nat → Int32) : x_nb (u_lc x v) = x_nb x := rfl
theorem g_nb_cp (x : zSt) (v : Nat → Nat) : x_nb (u_cp x v) = x_nb x := rfl
theorem g_nb_gb (x : zSt) (v : Nat → Nat → Option zAE) : x_nb (u_gb x v) = x_nb x := rfl
theorem g_nb_sp (x : zSt) (v : Nat → Nat) : x_nb (u_sp x v) = x_nb x := rfl
theorem g_nb_kn (x : zSt) (v : Nat → Int64) : x_nb (u_kn x v) = x_nb x := rfl
theorem g_nb_me (x : zSt) (v : Nat → Int64) : x_nb (u_me x v) = x_nb x := rfl
theorem g_nb_ob (x : zSt) (v : Nat → Nat → Int64) : x_nb (u_ob x v) = x_nb x := rfl
theorem g_nb_fk (x : zSt) (v : Nat → Nat → Int32) : x_nb (u_fk x v) = x_nb x := rfl
theorem g_nb_fz (x : zSt) (v : Nat → Nat → Nat) : x_nb (u_fz x v) = x_nb x := rfl
theorem g_nb_fg (x : zSt) (v : Nat → Nat → Nat → Int32) : x_nb (u_fg x v) = x_nb x := rfl
theorem g_nb_rd (x : zSt) (v : Nat → Int32) : x_nb (u_rd x v) = x_nb x := rfl
theorem g_nb_rz (x : zSt) (v : Nat → Nat) : x_nb (u_rz x v) = x_nb x := rfl
theorem g_nb_rh (x : zSt) (v : Nat → Nat → Int32) : x_nb (u_rh x v) = x_nb x := rfl
theorem g_nb_nd (x : zSt) (v : Nat → Int32) : x_nb (u_nd x v) = x_nb x := rfl
theorem g_nb_nm (x : zSt) (v : Nat → Int32) : x_nb (u_nm x v) = x_nb x := rfl
theorem g_nb_nv (x : zSt) (v : Nat → Int32) : x_nb (u_nv x v) = x_nb x := rfl
theorem g_nb_nh (x : zSt) (v : Nat → Int32) : x_nb (u_nh x v) = x_nb x := rfl
theorem g_nb_nf (x : zSt) (v : Nat → Nat → Int32) : x_nb (u_nf x v) = x_nb x := rfl
theorem g_nb_wr (x : zSt) (v : Nat → Nat) : x_nb (u_wr x v) = x_nb x := rfl
theorem g_nb_wa (x : zSt) (v : Nat → Bool) : x_nb (u_wa x v) = x_nb x := rfl
theorem g_nb_lz (x : zSt) (v : Nat → Nat) : x_nb (u_lz x v) = x_nb x := rfl
theorem g_nb_lf (x : zSt) (v : Nat → Nat) : x_nb (u_lf x v) = x_nb x := rfl
theorem g_nb_li (x : zSt) (v : Nat → Nat → Int32) : x_nb (u_li x v) = x_nb x := rfl
theorem g_nb_lt (x : zSt) (v : Nat → Nat → Int64) : x_nb (u_lt x v) = x_nb x := rfl
theorem g_nb_lb (x : zSt) (v : Nat → Nat → Int64) : x_nb (u_lb x v) = x_nb x := rfl
theorem g_nb_lr (x : zSt) (v : Nat → Nat → Option (Nat → Int64)) : x_nb (u_lr x v) = x_nb x := rfl
theorem g_nb_tn (x : zSt) (v : Nat) : x_nb (u_tn x v) = x_nb x := rfl
theorem g_nb_tf (x : zSt) (v : Nat → Nat → Int32) : x_nb (u_tf x v) = x_nb x := rfl
theorem g_ln_dk (x : zSt) (v : Nat) : x_ln (u_dk x v) = x_ln x := rfl
theorem g_ln_lk (x : zSt) (v : Int32) : x_ln (u_lk x v) = x_ln x := rfl
theorem g_ln_po (x : zSt) (v : Int32) : x_ln (u_po x v) = x_ln x := rfl
theorem g_ln_ne (x : zSt) (v : Int32) : x_ln (u_ne x v) = x_ln x := rfl
theorem g_ln_td (x : zSt) (v : Int32) : x_ln (u_td x v) = x_ln x := rfl
theorem g_ln_nb (x : zSt) (v : Nat → Int32) : x_ln (u_nb x v) = x_ln x := rfl
theorem g_ln_ln (x : zSt) (v : Nat → Option Nat) : x_ln (u_ln x v) = v := rfl
theorem g_ln_nr (x : zSt) (v : Nat) : x_ln (u_nr x v) = x_ln x := rfl
theorem g_ln_nw (x : zSt) (v : Nat) : x_ln (u_nw x v) = x_ln x := rfl
theorem g_ln_nn (x : zSt) (v : Nat) : x_ln (u_nn x v) = x_ln x := rfl
theorem g_ln_ns (x : zSt) (v : Nat) : x_ln (u_ns x v) = x_ln x := rfl
theorem g_ln_or (x : zSt) (v : Nat) : x_ln (u_or x v) = x_ln x := rfl
theorem g_ln_ow (x : zSt) (v : Nat) : x_ln (u_ow x v) = x_ln x := rfl
theorem g_ln_on (x : zSt) (v : Nat) : x_ln (u_on x v) = x_ln x := rfl
theorem g_ln_nl (x : zSt) (v : Nat) : x_ln (u_nl x v) = x_ln x := rfl
theorem g_ln_ng (x : zSt) (v : Nat) : x_ln (u_ng x v) = x_ln x := rfl
theorem g_ln_rg (x : zSt) (v : Nat) : x_ln (u_rg x v) = x_ln x := rfl
theorem g_ln_lc (x : zSt) (v : Nat → Int32) : x_ln (u_lc x v) = x_ln x := rfl
theorem g_ln_cp (x : zSt) (v : Nat → Nat) : x_ln (u_cp x v) = x_ln x := rfl
theorem g_ln_gb (x : zSt) (v : Nat → Nat → Option zAE) : x_ln (u_gb x v) = x_ln x := rfl
theorem g_ln_sp (x : zSt) (v : Nat → Nat) : x_ln (u_sp x v) = x_ln x := rfl
theorem g_ln_kn (x : zSt) (v : Nat → Int64) : x_ln (u_kn x v) = x_ln x := rfl
theorem g_ln_me (x : zSt) (v : Nat → Int64) : x_ln (u_me x v) = x_ln x := rfl
theorem g_ln_ob (x : zSt) (v : Nat → Nat → Int64) : x_ln (u_ob x v) = x_ln x := rfl
theorem g_ln_fk (x : zSt) (v : Nat → Nat → Int32) : x_ln (u_fk x v) = x_ln x := rfl
theorem g_ln_fz (x : zSt) (v : Nat → Nat → Nat) : x_ln (u_fz x v) = x_ln x := rfl
theorem g_ln_fg (x : zSt) (v : Nat → Nat → Nat → Int32) : x_ln (u_fg x v) = x_ln x := rfl
theorem g_ln_rd (x : zSt) (v : Nat → Int32) : x_ln (u_rd x v) = x_ln x := rfl
theorem g_ln_rz (x : zSt) (v : Nat → Nat) : x_ln (u_rz x v) = x_ln x := rfl
theorem g_ln_rh (x : zSt) (v : Nat → Nat → Int32) : x_ln (u_rh x v) = x_ln x := rfl
theorem g_ln_nd (x : zSt) (v : Nat → Int32) : x_ln (u_nd x v) = x_ln x := rfl
theorem g_ln_nm (x : zSt) (v : Nat → Int32) : x_ln (u_nm x v) = x_ln x := rfl
theorem g_ln_nv (x : zSt) (v : Nat → Int32) : x_ln (u_nv x v) = x_ln x := rfl
theorem g_ln_nh (x : zSt) (v : Nat → Int32) : x_ln (u_nh x v) = x_ln x := rfl
theorem g_ln_nf (x : zSt) (v : Nat → Nat → Int32) : x_ln (u_nf x v) = x_ln x := rfl
theorem g_ln_wr (x : zSt) (v : Nat → Nat) : x_ln (u_wr x v) = x_ln x := rfl
theorem g_ln_wa (x : zSt) (v : Nat → Bool) : x_ln (u_wa x v) = x_ln x := rfl
theorem g_ln_lz (x : zSt) (v : Nat → Nat) : x_ln (u_lz x v) = x_ln x := rfl
theorem g_ln_lf (x : zSt) (v : Nat → Nat) : x_ln (u_lf x v) = x_ln x := rfl
theorem g_ln_li (x : zSt) (v : Nat → Nat → Int32) : x_ln (u_li x v) = x_ln x := rfl
theorem g_ln_lt (x : zSt) (v : Nat → Nat → Int64) : x_ln (u_lt x v) = x_ln x := rfl
theorem g_ln_lb (x : zSt) (v : Nat → Nat → Int64) : x_ln (u_lb x v) = x_ln x := rfl
theorem g_ln_lr (x : zSt) (v : Nat → Nat → Option (Nat → Int64)) : x_ln (u_lr x v) = x_ln x := rfl
theorem g_ln_tn (x : zSt) (v : Nat) : x_ln (u_tn x v) = x_ln x := rfl
theorem g_ln_tf (x : zSt) (v : Nat → Nat → Int32) : x_ln (u_tf x v) = x_ln x := rfl
theorem g_nr_dk (x : zSt) (v : Nat) : x_nr (u_dk x v) = x_nr x := rfl
theorem g_nr_lk (x : zSt) (v : Int32) : x_nr (u_lk x v) = x_nr x := rfl
theorem g_nr_po (x : zSt) (v : Int32) : x_nr (u_po x v) = x_nr x := rfl
theorem g_nr_ne (x : zSt) (v : Int32) : x_nr (u_ne x v) = x_nr x := rfl
theorem g_nr_td (x : zSt) (v : Int32) : x_nr (u_td x v) = x_nr x := rfl
theorem g_nr_nb (x : zSt) (v : Nat → Int32) : x_nr (u_nb x v) = x_nr x := rfl
theorem g_nr_ln (x : zSt) (v : Nat → Option Nat) : x_nr (u_ln x v) = x_nr x := rfl
theorem g_nr_nr (x : zSt) (v : Nat) : x_nr (u_nr x v) = v := rfl
theorem g_nr_nw (x : zSt) (v : Nat) : x_nr (u_nw x v) = x_nr x := rfl
theorem g_nr_nn (x : zSt) (v : Nat) : x_nr (u_nn x v) = x_nr x := rfl
theorem g_nr_ns (x : zSt) (v : Nat) : x_nr (u_ns x v) = x_nr x := rfl
theorem g_nr_or (x : zSt) (v : Nat) : x_nr (u_or x v) = x_nr x := rfl
theorem g_nr_ow (x : zSt) (v : Nat) : x_nr (u_ow x v) = x_nr x := rfl
theorem g_nr_on (x : zSt) (v : Nat) : x_nr (u_on x v) = x_nr x := rfl
theorem g_nr_nl (x : zSt) (v : Nat) : x_nr (u_nl x v) = x_nr x := rfl
theorem g_nr_ng (x : zSt) (v : Nat) : x_nr (u_ng x v) = x_nr x := rfl
theorem g_nr_rg (x : zSt) (v : Nat) : x_nr (u_rg x v) = x_nr x := rfl
theorem g_nr_lc (x : zSt) (v : Nat → Int32) : x_nr (u_lc x v) = x_nr x := rfl
theorem g_nr_cp (x : zSt) (v : Nat → Nat) : x_nr (u_cp x v) = x_nr x := rfl
theorem g_nr_gb (x : zSt) (v : Nat → Nat → Option zAE) : x_nr (u_gb x v) = x_nr x := rfl
theorem g_nr_sp (x : zSt) (v : Nat → Nat) : x_nr (u_sp x v) = x_nr x := rfl
theorem g_nr_kn (x : zSt) (v : Nat → Int64) : x_nr (u_kn x v) = x_nr x := rfl
theorem g_nr_me (x : zSt) (v : Nat → Int64) : x_nr (u_me x v) = x_nr x := rfl
theorem g_nr_ob (x : zSt) (v : Nat → Nat → Int64) : x_nr (u_ob x v) = x_nr x := rfl
theorem g_nr_fk (x : zSt) (v : Nat → Nat → Int32) : x_nr (u_fk x v) = x_nr x := rfl
theorem g_nr_fz (x : zSt) (v : Nat → Nat → Nat) : x_nr (u_fz x v) = x_nr x := rfl
theorem g_nr_fg (x : zSt) (v : Nat → Nat → Nat → Int32) : x_nr (u_fg x v) = x_nr x := rfl
theorem g_nr_rd (x : zSt) (v : Nat → Int32) : x_nr (u_rd x v) = x_nr x := rfl
theorem g_nr_rz (x : zSt) (v : Nat → Nat) : x_nr (u_rz x v) = x_nr x := rfl
theorem g_nr_rh (x : zSt) (v : Nat → Nat → Int32) : x_nr (u_rh x v) = x_nr x := rfl
theorem g_nr_nd (x : zSt) (v : Nat → Int32) : x_nr (u_nd x v) = x_nr x := rfl
theorem g_nr_nm (x : zSt) (v : Nat → Int32) : x_nr (u_nm x v) = x_nr x := rfl
theorem g_nr_nv (x : zSt) (v : Nat → Int32) : x_nr (u_nv x v) = x_nr x := rfl
theorem g_nr_nh (x : zSt) (v : Nat → Int32) : x_nr (u_nh x v) = x_nr x := rfl
theorem g_nr_nf (x : zSt) (v : Nat → Nat → Int32) : x_nr (u_nf x v) = x_nr x := rfl
theorem g_nr_wr (x : zSt) (v : Nat → Nat) : x_nr (u_wr x v) = x_nr x := rfl
theorem g_nr_wa (x : zSt) (v : Nat → Bool) : x_nr (u_wa x v) = x_nr x := rfl
theorem g_nr_lz (x : zSt) (v : Nat → Nat) : x_nr (u_lz x v) = x_nr x := rfl
theorem g_nr_lf (x : zSt) (v : Nat → Nat) : x_nr (u_lf x v) = x_nr x := rfl
theorem g_nr_li (x : zSt) (v : Nat → Nat → Int32) : x_nr (u_li x v) = x_nr x := rfl
theorem g_nr_lt (x : zSt) (v : Nat → Nat → Int64) : x_nr (u_lt x v) = x_nr x := rfl
theorem g_nr_lb (x : zSt) (v : Nat → Nat → Int64) : x_nr (u_lb x v) = x_nr x := rfl
theorem g_nr_lr (x : zSt) (v : Nat → Nat → Option (Nat → Int64)) : x_nr (u_lr x v) = x_nr x := rfl
theorem g_nr_tn (x : zSt) (v : Nat) : x_nr (u_tn x v) = x_nr x := rfl
theorem g_nr_tf (x : zSt) (v : Nat → Nat → Int32) : x_nr (u_tf x v) = x_nr x := rfl
theorem g_nw_dk (x : zSt) (v : Nat) : x_nw (u_dk x v) = x_nw x := rfl
theorem g_nw_lk (x : zSt) (v : Int32) : x_nw (u_lk x v) = x_nw x := rfl
theorem g_nw_po (x : zSt) (v : Int32) : x_nw (u_po x v) = x_nw x := rfl
theorem g_nw_ne (x : zSt) (v : Int32) : x_nw (u_ne x v) = x_nw x := rfl
theorem g_nw_td (x : zSt) (v : Int32) : x_nw (u_td x v) = x_nw x := rfl
theorem g_nw_nb (x : zSt) (v : Nat → Int32) : x_nw (u_nb x v) = x_nw x := rfl
theorem g_nw_ln (x : zSt) (v : Nat → Option Nat) : x_nw (u_ln x v) = x_nw x := rfl
theorem g_nw_nr (x : zSt) (v : Nat) : x_nw (u_nr x v) = x_nw x := rfl
theorem g_nw_nw (x : zSt) (v : Nat) : x_nw (u_nw x v) = v := rfl
theorem g_nw_nn (x : zSt) (v : Nat) : x_nw (u_nn x v) = x_nw x := rfl
theorem g_nw_ns (x : zSt) (v : Nat) : x_nw (u_ns x v) = x_nw x := rfl
theorem g_nw_or (x : zSt) (v : Nat) : x_nw (u_or x v) = x_nw x := rfl
theorem g_nw_ow (x : zSt) (v : Nat) : x_nw (u_ow x v) = x_nw x := rfl
theorem g_nw_on (x : zSt) (v : Nat) : x_nw (u_on x v) = x_nw x := rfl
theorem g_nw_nl (x : zSt) (v : Nat) : x_nw (u_nl x v) = x_nw x := rfl
theorem g_nw_ng (x : zSt) (v : Nat) : x_nw (u_ng x v) = x_nw x := rfl
theorem g_nw_rg (x : zSt) (v : Nat) : x_nw (u_rg x v) = x_nw x := rfl
theorem g_nw_lc (x : zSt) (v : Nat → Int32) : x_nw (u_lc x v) = x_nw x := rfl
theorem g_nw_cp (x : zSt) (v : Nat → Nat) : x_nw (u_cp x v) = x_nw x := rfl
theorem g_nw_gb (x : zSt) (v : Nat → Nat → Option zAE) : x_nw (u_gb x v) = x_nw x := rfl
theorem g_nw_sp (x : zSt) (v : Nat → Nat) : x_nw (u_sp x v) = x_nw x := rfl
theorem g_nw_kn (x : zSt) (v : Nat → Int64) : x_nw (u_kn x v) = x_nw x := rfl
theorem g_nw_me (x : zSt) (v : Nat → Int64) : x_nw (u_me x v) = x_nw x := rfl
theorem g_nw_ob (x : zSt) (v : Nat → Nat → Int64) : x_nw (u_ob x v) = x_nw x := rfl
theorem g_nw_fk (x : zSt) (v : Nat → Nat → Int32) : x_nw (u_fk x v) = x_nw x := rfl
theorem g_nw_fz (x : zSt) (v : Nat → Nat → Nat) : x_nw (u_fz x v) = x_nw x := rfl
theorem g_nw_fg (x : zSt) (v : Nat → Nat → Nat → Int32) : x_nw (u_fg x v) = x_nw x := rfl
theorem g_nw_rd (x : zSt) (v : Nat → Int32) : x_nw (u_rd x v) = x_nw x := rfl
theorem g_nw_rz (x : zSt) (v : Nat → Nat) : x_nw (u_rz x v) = x_nw x := rfl
theorem g_nw_rh (x : zSt) (v : Nat → Nat → Int32) : x_nw (u_rh x v) = x_nw x := rfl
theorem g_nw_nd (x : zSt) (v : Nat → Int32) : x_nw (u_nd x v) = x_nw x := rfl
theorem g_nw_nm (x : zSt) (v : Nat → Int32) : x_nw (u_nm x v) = x_nw x := rfl
theorem g_nw_nv (x : zSt) (v : Nat → Int32) : x_nw (u_nv x v) = x_nw x := rfl
theorem g_nw_nh (x : zSt) (v : Nat → Int32) : x_nw (u_nh x v) = x_nw x := rfl
theorem g_nw_nf (x : zSt) (v : Nat → Nat → Int32) : x_nw (u_nf x v) = x_nw x := rfl
theorem g_nw_wr (x : zSt) (v : Nat → Nat) : x_nw (u_wr x v) = x_nw x := rfl
theorem g_nw_wa (x : zSt) (v : Nat → Bool) : x_nw (u_wa x v) = x_nw x := rfl
theorem g_nw_lz (x : zSt) (v : Nat → Nat) : x_nw (u_lz x v) = x_nw x := rfl
theorem g_nw_lf (x : zSt) (v : Nat → Nat) : x_nw (u_lf x v) = x_nw x := rfl
theorem g_nw_li (x : zSt) (v : Nat → Nat → Int32) : x_nw (u_li x v) = x_nw x := rfl
theorem g_nw_lt (x : zSt) (v : Nat → Nat → Int64) : x_nw (u_lt x v) = x_nw x := rfl
theorem g_nw_lb (x : zSt) (v : Nat → Nat → Int64) : x_nw (u_lb x v) = x_nw x := rfl
theorem g_nw_lr (x : zSt) (v : Nat → Nat → Option (Nat → Int64)) : x_nw (u_lr x v) = x_nw x := rfl
theorem g_nw_tn (x : zSt) (v : Nat) : x_nw (u_tn x v) = x_nw x := rfl
theorem g_nw_tf (x : zSt) (v : Nat → Nat → Int32) : x_nw (u_tf x v) = x_nw x := rfl
theorem g_nn_dk (x : zSt) (v : Nat) : x_nn (u_dk x v) = x_nn x := rfl
theorem g_nn_lk (x : zSt) (v : Int32) : x_nn (u_lk x v) = x_nn x := rfl
theorem g_nn_po (x : zSt) (v : Int32) : x_nn (u_po x v) = x_nn x := rfl
theorem g_nn_ne (x : zSt) (v : Int32) : x_nn (u_ne x v) = x_nn x := rfl
theorem g_nn_td (x : zSt) (v : Int32) : x_nn (u_td x v) = x_nn x := rfl
theorem g_nn_nb (x : zSt) (v : Nat → Int32) : x_nn (u_nb x v) = x_nn x := rfl
theorem g_nn_ln (x : zSt) (v : Nat → Option Nat) : x_nn (u_ln x v) = x_nn x := rfl
theorem g_nn_nr (x : zSt) (v : Nat) : x_nn (u_nr x v) = x_nn x := rfl
theorem g_nn_nw (x : zSt) (v : Nat) : x_nn (u_nw x v) = x_nn x := rfl
theorem g_nn_nn (x : zSt) (v : Nat) : x_nn (u_nn x v) = v := rfl
theorem g_nn_ns (x : zSt) (v : Nat) : x_nn (u_ns x v) = x_nn x := rfl
theorem g_nn_or (x : zSt) (v : Nat) : x_nn (u_or x v) = x_nn x := rfl
theorem g_nn_ow (x : zSt) (v : Nat) : x_nn (u_ow x v) = x_nn x := rfl
theorem g_nn_on (x : zSt) (v : Nat) : x_nn (u_on x v) = x_nn x := rfl
theorem g_nn_nl (x : zSt) (v : Nat) : x_nn (u_nl x v) = x_nn x := rfl
theorem g_nn_ng (x : zSt) (v : Nat) : x_nn (u_ng x v) = x_nn x := rfl
theorem g_nn_rg (x : zSt) (v : Nat) : x_nn (u_rg x v) = x_nn x := rfl
theorem g_nn_lc (x : zSt) (v : Nat → Int32) : x_nn (u_lc x v) = x_nn x := rfl
theorem g_nn_cp (x : zSt) (v : Nat → Nat) : x_nn (u_cp x v) = x_nn x := rfl
theorem g_nn_gb (x : zSt) (v : Nat → Nat → Option zAE) : x_nn (u_gb x v) = x_nn x := rfl
theorem g_nn_sp (x : zSt) (v : Nat → Nat) : x_nn (u_sp x v) = x_nn x := rfl
theorem g_nn_kn (x : zSt) (v : Nat → Int64) : x_nn (u_kn x v) = x_nn x := rfl
theorem g_nn_me (x : zSt) (v : Nat → Int64) : x_nn (u_me x v) = x_nn x := rfl
theorem g_nn_ob (x : zSt) (v : Nat → Nat → Int64) : x_nn (u_ob x v) = x_nn x := rfl
theorem g_nn_fk (x : zSt) (v : Nat → Nat → Int32) : x_nn (u_fk x v) = x_nn x := rfl
theorem g_nn_fz (x : zSt) (v : Nat → Nat → Nat) : x_nn (u_fz x v) = x_nn x := rfl
theorem g_nn_fg (x : zSt) (v : Nat → Nat → Nat → Int32) : x_nn (u_fg x v) = x_nn x := rfl
theorem g_nn_rd (x : zSt) (v : Nat → Int32) : x_nn (u_rd x v) = x_nn x := rfl
theorem g_nn_rz (x : zSt) (v : Nat → Nat) : x_nn (u_rz x v) = x_nn x := rfl
theorem g_nn_rh (x : zSt) (v : Nat → Nat → Int32) : x_nn (u_rh x v) = x_nn x := rfl
theorem g_nn_nd (x : zSt) (v : Nat → Int32) : x_nn (u_nd x v) = x_nn x := rfl
theorem g_nn_nm (x : zSt) (v : Nat → Int32) : x_nn (u_nm x v) = x_nn x := rfl
theorem g_nn_nv (x : zSt) (v : Nat → Int32) : x_nn (u_nv x v) = x_nn x := rfl
theorem g_nn_nh (x : zSt) (v : Nat → Int32) : x_nn (u_nh x v) = x_nn x := rfl
theorem g_nn_nf (x : zSt) (v : Nat → Nat → Int32) : x_nn (u_nf x v) = x_nn x := rfl
theorem g_nn_wr (x : zSt) (v : Nat → Nat) : x_nn (u_wr x v) = x_nn x := rfl
theorem g_nn_wa (x : zSt) (v : Nat → Bool) : x_nn (u_wa x v) = x_nn x := rfl
theorem g_nn_lz (x : zSt) (v : Nat → Nat) : x_nn (u_lz x v) = x_nn x := rfl
theorem g_nn_lf (x : zSt) (v : Nat → Nat) : x_nn (u_lf x v) = x_nn x := rfl
theorem g_nn_li (x : zSt) (v : Nat → Nat → Int32) : x_nn (u_li x v) = x_nn x := rfl
theorem g_nn_lt (x : zSt) (v : Nat → Nat → Int64) : x_nn (u_lt x v) = x_nn x := rfl
theorem g_nn_lb (x : zSt) (v : Nat → Nat → Int64) : x_nn (u_lb x v) = x_nn x := rfl
theorem g_nn_lr (x : zSt) (v : Nat → Nat → Option (Nat → Int64)) : x_nn (u_lr x v) = x_nn x := rfl
theorem g_nn_tn (x : zSt) (v : Nat) : x_nn (u_tn x v) = x_nn x := rfl
theorem g_nn_tf (x : zSt) (v : Nat → Nat → Int32) : x_nn (u_tf x v) = x_nn x := rfl
theorem g_ns_dk (x : zSt) (v : Nat) : x_ns (u_dk x v) = x_ns x := rfl
theorem g_ns_lk (x : zSt) (v : Int32) : x_ns (u_lk x v) = x_ns x := rfl
theorem g_ns_po (x : zSt) (v : Int32) : x_ns (u_po x v) = x_ns x := rfl
theorem g_ns_ne (x : zSt) (v : Int32) : x_ns (u_ne x v) = x_ns x := rfl
theorem g_ns_td (x : zSt) (v : Int32) : x_ns (u_td x v) = x_ns x := rfl
theorem g_ns_nb (x : zSt) (v : Nat → Int32) : x_ns (u_nb x v) = x_ns x := rfl
theorem g_ns_ln (x : zSt) (v : Nat → Option Nat) : x_ns (u_ln x v) = x_ns x := rfl
theorem g_ns_nr (x : zSt) (v : Nat) : x_ns (u_nr x v) = x_ns x := rfl
theorem g_ns_nw (x : zSt) (v : Nat) : x_ns (u_nw x v) = x_ns x := rfl
theorem g_ns_nn (x : zSt) (v : Nat) : x_ns (u_nn x v) = x_ns x := rfl
theorem g_ns_ns (x : zSt) (v : Nat) : x_ns (u_ns x v) = v := rfl
theorem g_ns_or (x : zSt) (v : Nat) : x_ns (u_or x v) = x_ns x := rfl
theorem g_ns_ow (x : zSt) (v : Nat) : x_ns (u_ow x v) = x_ns x := rfl
theorem g_ns_on (x : zSt) (v : Nat) : x_ns (u_on x v) = x_ns x := rfl
theorem g_ns_nl (x : zSt) (v : Nat) : x_ns (u_nl x v) = x_ns x := rfl
theorem g_ns_ng (x : zSt) (v : Nat) : x_ns (u_ng x v) = x_ns x := rfl
theorem g_ns_rg (x : zSt) (v : Nat) : x_ns (u_rg x v) = x_ns x := rfl
theorem g_ns_lc (x : zSt) (v : Nat → Int32) : x_ns (u_lc x v) = x_ns x := rfl
theorem g_ns_cp (x : zSt) (v : Nat → Nat) : x_ns (u_cp x v) = x_ns x := rfl
theorem g_ns_gb (x : zSt) (v : Nat → Nat → Option zAE) : x_ns (u_gb x v) = x_ns x := rfl
theorem g_ns_sp (x : zSt) (v : Nat → Nat) : x_ns (u_sp x v) = x_ns x := rfl
theorem g_ns_kn (x : zSt) (v : Nat → Int64) : x_ns (u_kn x v) = x_ns x := rfl
theorem g_ns_me (x : zSt) (v : Nat → Int64) : x_ns (u_me x v) = x_ns x := rfl
theorem g_ns_ob (x : zSt) (v : Nat → Nat → Int64) : x_ns (u_ob x v) = x_ns x := rfl
theorem g_ns_fk (x : zSt) (v : Nat → Nat → Int32) : x_ns (u_fk x v) = x_ns x := rfl
theorem g_ns_fz (x : zSt) (v : Nat → Nat → Nat) : x_ns (u_fz x v) = x_ns x := rfl
theorem g_ns_fg (x : zSt) (v : Nat → Nat → Nat → Int32) : x_ns (u_fg x v) = x_ns x := rfl
theorem g_ns_rd (x : zSt) (v : Nat → Int32) : x_ns (u_rd x v) = x_ns x := rfl
theorem g_ns_rz (x : zSt) (v : Nat → Nat) : x_ns (u_rz x v) = x_ns x := rfl
theorem g_ns_rh (x : zSt) (v : Nat → Nat → Int32) : x_ns (u_rh x v) = x_ns x := rfl
theorem g_ns_nd (x : zSt) (v : Nat → Int32) : x_ns (u_nd x v) = x_ns x := rfl
theorem g_ns_nm (x : zSt) (v : Nat → Int32) : x_ns (u_nm x v) = x_ns x := rfl
theorem g_ns_nv (x : zSt) (v : Nat → Int32) : x_ns (u_nv x v) = x_ns x := rfl
theorem g_ns_nh (x : zSt) (v : Nat → Int32) : x_ns (u_nh x v) = x_ns x := rfl
theorem g_ns_nf (x : zSt) (v : Nat → Nat → Int32) : x_ns (u_nf x v) = x_ns x := rfl
theorem g_ns_wr (x : zSt) (v : Nat → Nat) : x_ns (u_wr x v) = x_ns x := rfl
theorem g_ns_wa (x : zSt) (v : Nat → Bool) : x_ns (u_wa x v) = x_ns x := rfl
theorem g_ns_lz (x : zSt) (v : Nat → Nat) : x_ns (u_lz x v) = x_ns x := rfl
theorem g_ns_lf (x : zSt) (v : Nat → Nat) : x_ns (u_lf x v) = x_ns x := rfl
theorem g_ns_li (x : zSt) (v : Nat → Nat → Int32) : x_ns (u_li x v) = x_ns x := rfl
theorem g_ns_lt (x : zSt) (v : Nat → Nat → Int64) : x_ns (u_lt x v) = x_ns x := rfl
theorem g_ns_lb (x : zSt) (v : Nat → Nat → Int64) : x_ns (u_lb x v) = x_ns x := rfl
theorem g_ns_lr (x : zSt) (v : Nat → Nat → Option (Nat → Int64)) : x_ns (u_lr x v) = x_ns x := rfl
theorem g_ns_tn (x : zSt) (v : Nat) : x_ns (u_tn x v) = x_ns x := rfl
theorem g_ns_tf (x : zSt) (v : Nat → Nat → Int32) : x_ns (u_tf x v) = x_ns x := rfl
theorem g_or_dk (x : zSt) (v : Nat) : x_or (u_dk x v) = x_or x := rfl
theorem g_or_lk (x : zSt) (v : Int32) : x_or (u_lk x v) = x_or x := rfl
theorem g_or_po (x : zSt) (v : Int32) : x_or (u_po x v) = x_or x := rfl
theorem g_or_ne (x : zSt) (v : Int32) : x_or (u_ne x v) = x_or x := rfl
theorem g_or_td (x : zSt) (v : Int32) : x_or (u_td x v) = x_or x := rfl
theorem g_or_nb (x : zSt) (v : Nat → Int32) : x_or (u_nb x v) = x_or x := rfl
theorem g_or_ln (x : zSt) (v : Nat → Option Nat) : x_or (u_ln x v) = x_or x := rfl
theorem g_or_nr (x : zSt) (v : Nat) : x_or (u_nr x v) = x_or x := rfl
theorem g_or_nw (x : zSt) (v : Nat) : x_or (u_nw x v) = x_or x := rfl
theorem g_or_nn (x : zSt) (v : Nat) : x_or (u_nn x v) = x_or x := rfl
theorem g_or_ns (x : zSt) (v : Nat) : x_or (u_ns x v) = x_or x := rfl
theorem g_or_or (x : zSt) (v : Nat) : x_or (u_or x v) = v := rfl
theorem g_or_ow (x : zSt) (v : Nat) : x_or (u_ow x v) = x_or x := rfl
theorem g_or_on (x : zSt) (v : Nat) : x_or (u_on x v) = x_or x := rfl
theorem g_or_nl (x : zSt) (v : Nat) : x_or (u_nl x v) = x_or x := rfl
theorem g_or_ng (x : zSt) (v : Nat) : x_or (u_ng x v) = x_or x := rfl
theorem g_or_rg (x : zSt) (v : Nat) : x_or (u_rg x v) = x_or x := rfl
theorem g_or_lc (x : zSt) (v : Nat → Int32) : x_or (u_lc x v) = x_or x := rfl
theorem g_or_cp (x : zSt) (v : Nat → Nat) : x_or (u_cp x v) = x_or x := rfl
theorem g_or_gb (x : zSt) (v : Nat → Nat → Option zAE) : x_or (u_gb x v) = x_or x := rfl
theorem g_or_sp (x : zSt) (v : Nat → Nat) : x_or (u_sp x v) = x_or x := rfl
theorem g_or_kn (x : zSt) (v : Nat → Int64) : x_or (u_kn x v) = x_or x := rfl
theorem g_or_me (x : zSt) (v : Nat → Int64) : x_or (u_me x v) = x_or x := rfl
theorem g_or_ob (x : zSt) (v : Nat → Nat → Int64) : x_or (u_ob x v) = x_or x := rfl
theorem g_or_fk (x : zSt) (v : Nat → Nat → Int32) : x_or (u_fk x v) = x_or x := rfl
theorem g_or_fz (x : zSt) (v : Nat → Nat → Nat) : x_or (u_fz x v) = x_or x := rfl
theorem g_or_fg (x : zSt) (v : Nat → Nat → Nat → Int32) : x_or (u_fg x v) = x_or x := rfl
theorem g_or_rd (x : zSt) (v : Nat → Int32) : x_or (u_rd x v) = x_or x := rfl
theorem g_or_rz (x : zSt) (v : Nat → Nat) : x_or (u_rz x v) = x_or x := rfl
theorem g_or_rh (x : zSt) (v : Nat → Nat → Int32) : x_or (u_rh x v) = x_or x := rfl
theorem g_or_nd (x : zSt) (v : Nat → Int32) : x_or (u_nd x v) = x_or x := rfl
theorem g_or_nm (x : zSt) (v : Nat → Int32) : x_or (u_nm x v) = x_or x := rfl
theorem g_or_nv (x : zSt) (v : Nat → Int32) : x_or (u_nv x v) = x_or x := rfl
theorem g_or_nh (x : zSt) (v : Nat → Int32) : x_or (u_nh x v) = x_or x := rfl
theorem g_or_nf (x : zSt) (v : Nat → Nat → Int32) : x_or (u_nf x v) = x_or x := rfl
theorem g_or_wr (x : zSt) (v : Nat → Nat) : x_or (u_wr x v) = x_or x := rfl
theorem g_or_wa (x : zSt) (v : Nat → Bool) : x_or (u_wa x v) = x_or x := rfl
theorem g_or_lz (x : zSt) (v : Nat → Nat) : x_or (u_lz x v) = x_or x := rfl
theorem g_or_lf (x : zSt) (v : Nat → Nat) : x_or (u_lf x v) = x_or x := rfl
theorem g_or_li (x : zSt) (v : Nat → Nat → Int32) : x_or (u_li x v) = x_or x := rfl
theorem g_or_lt (x : zSt) (v : Nat → Nat → Int64) : x_or (u_lt x v) = x_or x := rfl
theorem g_or_lb (x : zSt) (v : Nat → Nat → Int64) : x_or (u_lb x v) = x_or x := rfl
theorem g_or_lr (x : zSt) (v : Nat → Nat → Option (Nat → Int64)) : x_or (u_lr x v) = x_or x := rfl
theorem g_or_tn (x : zSt) (v : Nat) : x_or (u_tn x v) = x_or x := rfl
theorem g_or_tf (x : zSt) (v : Nat → Nat → Int32) : x_or (u_tf x v) = x_or x := rfl
theorem g_ow_dk (x : zSt) (v : Nat) : x_ow (u_dk x v) = x_ow x := rfl
theorem g_ow_lk (x : zSt) (v : Int32) : x_ow (u_lk x v) = x_ow x := rfl
theorem g_ow_po (x : zSt) (v : Int32) : x_ow (u_po x v) = x_ow x := rfl
theorem g_ow_ne (x : zSt) (v : Int32) : x_ow (u_ne x v) = x_ow x := rfl
theorem g_ow_td (x : zSt) (v : Int32) : x_ow (u_td x v) = x_ow x := rfl
theorem g_ow_nb (x : zSt) (v : Nat → Int32) : x_ow (u_nb x v) = x_ow x := rfl
theorem g_ow_ln (x : zSt) (v : Nat → Option Nat) : x_ow (u_ln x v) = x_ow x := rfl
theorem g_ow_nr (x : zSt) (v : Nat) : x_ow (u_nr x v) = x_ow x := rfl
theorem g_ow_nw (x : zSt) (v : Nat) : x_ow (u_nw x v) = x_ow x := rfl
theorem g_ow_nn (x : zSt) (v : Nat) : x_ow (u_nn x v) = x_ow x := rfl
theorem g_ow_ns (x : zSt) (v : Nat) : x_ow (u_ns x v) = x_ow x := rfl
theorem g_ow_or (x : zSt) (v : Nat) : x_ow (u_or x v) = x_ow x := rfl
theorem g_ow_ow (x : zSt) (v : Nat) : x_ow (u_ow x v) = v := rfl
theorem g_ow_on (x : zSt) (v : Nat) : x_ow (u_on x v) = x_ow x := rfl
theorem g_ow_nl (x : zSt) (v : Nat) : x_ow (u_nl x v) = x_ow x := rfl
theorem g_ow_ng (x : zSt) (v : Nat) : x_ow (u_ng x v) = x_ow x := rfl
theorem g_ow_rg (x : zSt) (v : Nat) : x_ow (u_rg x v) = x_ow x := rfl
theorem g_ow_lc (x : zSt) (v : Nat → Int32) : x_ow (u_lc x v) = x_ow x := rfl
theorem g_ow_cp (x : zSt) (v : Nat → Nat) : x_ow (u_cp x v) = x_ow x := rfl
theorem g_ow_gb (x : zSt) (v : Nat → Nat → Option zAE) : x_ow (u_gb x v) = x_ow x := rfl
theorem g_ow_sp (x : zSt) (v : Nat → Nat) : x_ow (u_sp x v) = x_ow x := rfl
theorem g_ow_kn (x : zSt) (v : Nat → Int64) : x_ow (u_kn x v) = x_ow x := rfl
theorem g_ow_me (x : zSt) (v : Nat → Int64) : x_ow (u_me x v) = x_ow x := rfl
theorem g_ow_ob (x : zSt) (v : Nat → Nat → Int64) : x_ow (u_ob x v) = x_ow x := rfl
theorem g_ow_fk (x : zSt) (v : Nat → Nat → Int32) : x_ow (u_fk x v) = x_ow x := rfl
theorem g_ow_fz (x : zSt) (v : Nat → Nat → Nat) : x_ow (u_fz x v) = x_ow x := rfl
theorem g_ow_fg (x : zSt) (v : Nat → Nat → Nat → Int32) : x_ow (u_fg x v) = x_ow x := rfl
theorem g_ow_rd (x : zSt) (v : Nat → Int32) : x_ow (u_rd x v) = x_ow x := rfl
theorem g_ow_rz (x : zSt) (v : Nat → Nat) : x_ow (u_rz x v) = x_ow x := rfl
theorem g_ow_rh (x : zSt) (v : Nat → Nat → Int32) : x_ow (u_rh x v) = x_ow x := rfl
theorem g_ow_nd (x : zSt) (v : Nat → Int32) : x_ow (u_nd x v) = x_ow x := rfl
theorem g_ow_nm (x : zSt) (v : Nat → Int32) : x_ow (u_nm x v) = x_ow x := rfl
theorem g_ow_nv (x : zSt) (v : Nat → Int32) : x_ow (u_nv x v) = x_ow x := rfl
theorem g_ow_nh (x : zSt) (v : Nat → Int32) : x_ow (u_nh x v) = x_ow x := rfl
theorem g_ow_nf (x : zSt) (v : Nat → Nat → Int32) : x_ow (u_nf x v) = x_ow x := rfl
theorem g_ow_wr (x : zSt) (v : Nat → Nat) : x_ow (u_wr x v) = x_ow x := rfl
theorem g_ow_wa (x : zSt) (v : Nat → Bool) : x_ow (u_wa x v) = x_ow x := rfl
theorem g_ow_lz (x : zSt) (v : Nat → Nat) : x_ow (u_lz x v) = x_ow x := rfl
theorem g_ow_lf (x : zSt) (v : Nat → Nat) : x_ow (u_lf x v) = x_ow x := rfl
theorem g_ow_li (x : zSt) (v : Nat → Nat → Int32) : x_ow (u_li x v) = x_ow x := rfl
theorem g_ow_lt (x : zSt) (v : Nat → Nat → Int64) : x_ow (u_lt x v) = x_ow x := rfl
theorem g_ow_lb (x : zSt) (v : Nat → Nat → Int64) : x_ow (u_lb x v) = x_ow x := rfl
theorem g_ow_lr (x : zSt) (v : Nat → Nat → Option (Nat → Int64)) : x_ow (u_lr x v) = x_ow x := rfl
theorem g_ow_tn (x : zSt) (v : Nat) : x_ow (u_tn x v) = x_ow x := rfl
theorem g_ow_tf (x : zSt) (v : Nat → Nat → Int32) : x_ow (u_tf x v) = x_ow x := rfl
theorem g_on_dk (x : zSt) (v : Nat) : x_on (u_dk x v) = x_on x := rfl
theorem g_on_lk (x : zSt) (v : Int32) : x_on (u_lk x v) = x_on x := rfl
theorem g_on_po (x : zSt) (v : Int32) : x_on (u_po x v) = x_on x := rfl
theorem g_on_ne (x : zSt) (v : Int32) : x_on (u_ne x v) = x_on x := rfl
theorem g_on_td (x : zSt) (v : Int32) : x_on (u_td x v) = x_on x := rfl
theorem g_on_nb (x : zSt) (v : Nat → Int32) : x_on (u_nb x v) = x_on x := rfl
theorem g_on_ln (x : zSt) (v : Nat → Option Nat) : x_on (u_ln x v) = x_on x := rfl
theorem g_on_nr (x : zSt) (v : Nat) : x_on (u_nr x v) = x_on x := rfl
theorem g_on_nw (x : zSt) (v : Nat) : x_on (u_nw x v) = x_on x := rfl
theorem g_on_nn (x : zSt) (v : Nat) : x_on (u_nn x v) = x_on x := rfl
theorem g_on_ns (x : zSt) (v : Nat) : x_on (u_ns x v) = x_on x := rfl
theorem g_on_or (x : zSt) (v : Nat) : x_on (u_or x v) = x_on x := rfl
theorem g_on_ow (x : zSt) (v : Nat) : x_on (u_ow x v) = x_on x := rfl
theorem g_on_on (x : zSt) (v : Nat) : x_on (u_on x v) = v := rfl
theorem g_on_nl (x : zSt) (v : Nat) : x_on (u_nl x v) = x_on x := rfl
theorem g_on_ng (x : zSt) (v : Nat) : x_on (u_ng x v) = x_on x := rfl
theorem g_on_rg (x : zSt) (v : Nat) : x_on (u_rg x v) = x_on x := rfl
theorem g_on_lc (x : zSt) (v : Nat → Int32) : x_on (u_lc x v) = x_on x := rfl
theorem g_on_cp (x : zSt) (v : Nat → Nat) : x_on (u_cp x v) = x_on x := rfl
theorem g_on_gb (x : zSt) (v : Nat → Nat → Option zAE) : x_on (u_gb x v) = x_on x := rfl
theorem g_on_sp (x : zSt) (v : Nat → Nat) : x_on (u_sp x v) = x_on x := rfl
theorem g_on_kn (x : zSt) (v : Nat → Int64) : x_on (u_kn x v) = x_on x := rfl
theorem g_on_me (x : zSt) (v : Nat → Int64) : x_on (u_me x v) = x_on x := rfl
theorem g_on_ob (x : zSt) (v : Nat → Nat → Int64) : x_on (u_ob x v) = x_on x := rfl
theorem g_on_fk (x : zSt) (v : Nat → Nat → Int32) : x_on (u_fk x v) = x_on x := rfl
theorem g_on_fz (x : zSt) (v : Nat → Nat → Nat) : x_on (u_fz x v) = x_on x := rfl
theorem g_on_fg (x : zSt) (v : Nat → Nat → Nat → Int32) : x_on (u_fg x v) = x_on x := rfl
theorem g_on_rd (x : zSt) (v : Nat → Int32) : x_on (u_rd x v) = x_on x := rfl
theorem g_on_rz (x : zSt) (v : Nat → Nat) : x_on (u_rz x v) = x_on x := rfl
theorem g_on_rh (x : zSt) (v : Nat → Nat → Int32) : x_on (u_rh x v) = x_on x := rfl
theorem g_on_nd (x : zSt) (v : Nat → Int32) : x_on (u_nd x v) = x_on x := rfl
theorem g_on_nm (x : zSt) (v : Nat → Int32) : x_on (u_nm x v) = x_on x := rfl
theorem g_on_nv (x : zSt) (v : Nat → Int32) : x_on (u_nv x v) = x_on x := rfl
theorem g_on_nh (x : zSt) (v : Nat → Int32) : x_on (u_nh x v) = x_on x := rfl
theorem g_on_nf (x : zSt) (v : Nat → Nat → Int32) : x_on (u_nf x v) = x_on x := rfl
theorem g_on_wr (x : zSt) (v : Nat → Nat) : x_on (u_wr x v) = x_on x := rfl
theorem g_on_wa (x : zSt) (v : Nat → Bool) : x_on (u_wa x v) = x_on x := rfl
theorem g_on_lz (x : zSt) (v : Nat → Nat) : x_on (u_lz x v) = x_on x := rfl
theorem g_on_lf (x : zSt) (v : Nat → Nat) : x_on (u_lf x v) = x_on x := rfl
theorem g_on_li (x : zSt) (v : Nat → Nat → Int32) : x_on (u_li x v) = x_on x := rfl
theorem g_on_lt (x : zSt) (v : Nat → Nat → Int64) : x_on (u_lt x v) = x_on x := rfl
theorem g_on_lb (x : zSt) (v : Nat → Nat → Int64) : x_on (u_lb x v) = x_on x := rfl
theorem g_on_lr (x : zSt) (v : Nat → Nat → Option (Nat → Int64)) : x_on (u_lr x v) = x_on x := rfl
theorem g_on_tn (x : zSt) (v : Nat) : x_on (u_tn x v) = x_on x := rfl
theorem g_on_tf (x : zSt) (v : Nat → Nat → Int32) : x_on (u_tf x v) = x_on x := rfl
theorem g_nl_dk (x : zSt) (v : Nat) : x_nl (u_dk x v) = x_nl x := rfl
theorem g_nl_lk (x : zSt) (v : Int32) : x_nl (u_lk x v) = x_nl x := rfl
theorem g_nl_po (x : zSt) (v : Int32) : x_nl (u_po x v) = x_nl x := rfl
theorem g_nl_ne (x : zSt) (v : Int32) : x_nl (u_ne x v) = x_nl x := rfl
theorem g_nl_td (x : zSt) (v : Int32) : x_nl (u_td x v) = x_nl x := rfl
theorem g_nl_nb (x : zSt) (v : Nat → Int32) : x_nl (u_nb x v) = x_nl x := rfl
theorem g_nl_ln (x : zSt) (v : Nat → Option Nat) : x_nl (u_ln x v) = x_nl x := rfl
theorem g_nl_nr (x : zSt) (v : Nat) : x_nl (u_nr x v) = x_nl x := rfl
theorem g_nl_nw (x : zSt) (v : Nat) : x_nl (u_nw x v) = x_nl x := rfl
theorem g_nl_nn (x : zSt) (v : Nat) : x_nl (u_nn x v) = x_nl x := rfl
theorem g_nl_ns (x : zSt) (v : Nat) : x_nl (u_ns x v) = x_nl x := rfl
theorem g_nl_or (x : zSt) (v : Nat) : x_nl (u_or x v) = x_nl x := rfl
theorem g_nl_ow (x : zSt) (v : Nat) : x_nl (u_ow x v) = x_nl x := rfl
theorem g_nl_on (x : zSt) (v : Nat) : x_nl (u_on x v) = x_nl x := rfl
theorem g_nl_nl (x : zSt) (v : Nat) : x_nl (u_nl x v) = v := rfl
theorem g_nl_ng (x : zSt) (v : Nat) : x_nl (u_ng x v) = x_nl x := rfl
theorem g_nl_rg (x : zSt) (v : Nat) : x_nl (u_rg x v) = x_nl x := rfl
theorem g_nl_lc (x : zSt) (v : Nat → Int32) : x_nl (u_lc x v) = x_nl x := rfl
theorem g_nl_cp (x : zSt) (v : Nat → Nat) : x_nl (u_cp x v) = x_nl x := rfl
theorem g_nl_gb (x : zSt) (v : Nat → Nat → Option zAE) : x_nl (u_gb x v) = x_nl x := rfl
theorem g_nl_sp (x : zSt) (v : Nat → Nat) : x_nl (u_sp x v) = x_nl x := rfl
theorem g_nl_kn (x : zSt) (v : Nat → Int64) : x_nl (u_kn x v) = x_nl x := rfl
theorem g_nl_me (x : zSt) (v : Nat → Int64) : x_nl (u_me x v) = x_nl x := rfl
theorem g_nl_ob (x : zSt) (v : Nat → Nat → Int64) : x_nl (u_ob x v) = x_nl x := rfl
theorem g_nl_fk (x : zSt) (v : Nat → Nat → Int32) : x_nl (u_fk x v) = x_nl x := rfl
theorem g_nl_fz (x : zSt) (v : Nat → Nat → Nat) : x_nl (u_fz x v) = x_nl x := rfl
theorem g_nl_fg (x : zSt) (v : Nat → Nat → Nat → Int32) : x_nl (u_fg x v) = x_nl x := rfl
theorem g_nl_rd (x : zSt) (v : Nat → Int32) : x_nl (u_rd x v) = x_nl x := rfl
theorem g_nl_rz (x : zSt) (v : Nat → Nat) : x_nl (u_rz x v) = x_nl x := rfl
theorem g_nl_rh (x : zSt) (v : Nat → Nat → Int32) : x_nl (u_rh x v) = x_nl x := rfl
theorem g_nl_nd (x : zSt) (v : Nat → Int32) : x_nl (u_nd x v) = x_nl x := rfl
theorem g_nl_nm (x : zSt) (v : Nat → Int32) : x_nl (u_nm x v) = x_nl x := rfl
theorem g_nl_nv (x : zSt) (v : Nat → Int32) : x_nl (u_nv x v) = x_nl x := rfl
theorem g_nl_nh (x : zSt) (v : Nat → Int32) : x_nl (u_nh x v) = x_nl x := rfl
theorem g_nl_nf (x : zSt) (v : Nat → Nat → Int32) : x_nl (u_nf x v) = x_nl x := rfl
theorem g_nl_wr (x : zSt) (v : Nat → Nat) : x_nl (u_wr x v) = x_nl x := rfl
theorem g_nl_wa (x : zSt) (v : Nat → Bool) : x_nl (u_wa x v) = x_nl x := rfl
theorem g_nl_lz (x : zSt) (v : Nat → Nat) : x_nl (u_lz x v) = x_nl x := rfl
theorem g_nl_lf (x : zSt) (v : Nat → Nat) : x_nl (u_lf x v) = x_nl x := rfl
theorem g_nl_li (x : zSt) (v : Nat → Nat → Int32) : x_nl (u_li x v) = x_nl x := rfl
theorem g_nl_lt (x : zSt) (v : Nat → Nat → Int64) : x_nl (u_lt x v) = x_nl x := rfl
theorem g_nl_lb (x : zSt) (v : Nat → Nat → Int64) : x_nl (u_lb x v) = x_nl x := rfl
theorem g_nl_lr (x : zSt) (v : Nat → Nat → Option (Nat → Int64)) : x_nl (u_lr x v) = x_nl x := rfl
theorem g_nl_tn (x : zSt) (v : Nat) : x_nl (u_tn x v) = x_nl x := rfl
theorem g_nl_tf (x : zSt) (v : Nat → Nat → Int32) : x_nl (u_tf x v) = x_nl x := rfl
theorem g_ng_dk (x : zSt) (v : Nat) : x_ng (u_dk x v) = x_ng x := rfl
theorem g_ng_lk (x : zSt) (v : Int32) : x_ng (u_lk x v) = x_ng x := rfl
theorem g_ng_po (x : zSt) (v : Int32) : x_ng (u_po x v) = x_ng x := rfl
theorem g_ng_ne (x : zSt) (v : Int32) : x_ng (u_ne x v) = x_ng x := rfl
theorem g_ng_td (x : zSt) (v : Int32) : x_ng (u_td x v) = x_ng x := rfl
theorem g_ng_nb (x : zSt) (v : Nat → Int32) : x_ng (u_nb x v) = x_ng x := rfl
theorem g_ng_ln (x : zSt) (v : Nat → Option Nat) : x_ng (u_ln x v) = x_ng x := rfl
theorem g_ng_nr (x : zSt) (v : Nat) : x_ng (u_nr x v) = x_ng x := rfl
theorem g_ng_nw (x : zSt) (v : Nat) : x_ng (u_nw x v) = x_ng x := rfl
theorem g_ng_nn (x : zSt) (v : Nat) : x_ng (u_nn x v) = x_ng x := rfl
theorem g_ng_ns (x : zSt) (v : Nat) : x_ng (u_ns x v) = x_ng x := rfl
theorem g_ng_or (x : zSt) (v : Nat) : x_ng (u_or x v) = x_ng x := rfl
theorem g_ng_ow (x : zSt) (v : Nat) : x_ng (u_ow x v) = x_ng x := rfl
theorem g_ng_on (x : zSt) (v : Nat) : x_ng (u_on x v) = x_ng x := rfl
theorem g_ng_nl (x : zSt) (v : Nat) : x_ng (u_nl x v) = x_ng x := rfl
theorem g_ng_ng (x : zSt) (v : Nat) : x_ng (u_ng x v) = v := rfl
theorem g_ng_rg (x : zSt) (v : Nat) : x_ng (u_rg x v) = x_ng x := rfl
theorem g_ng_lc (x : zSt) (v : Nat → Int32) : x_ng (u_lc x v) = x_ng x := rfl
theorem g_ng_cp (x : zSt) (v : Nat → Nat) : x_ng (u_cp x v) = x_ng x := rfl
theorem g_ng_gb (x : zSt) (v : Nat → Nat → Option zAE) : x_ng (u_gb x v) = x_ng x := rfl
theorem g_ng_sp (x : zSt) (v : Nat → Nat) : x_ng (u_sp x v) = x_ng x := rfl
theorem g_ng_kn (x : zSt) (v : Nat → Int64) : x_ng (u_kn x v) = x_ng x := rfl
theorem g_ng_me (x : zSt) (v : Nat → Int64) : x_ng (u_me x v) = x_ng x := rfl
theorem g_ng_ob (x : zSt) (v : Nat → Nat → Int64) : x_ng (u_ob x v) = x_ng x := rfl
theorem g_ng_fk (x : zSt) (v : Nat → Nat → Int32) : x_ng (u_fk x v) = x_ng x := rfl
theorem g_ng_fz (x : zSt) (v : Nat → Nat → Nat) : x_ng (u_fz x v) = x_ng x := rfl
theorem g_ng_fg (x : zSt) (v : Nat → Nat → Nat → Int32) : x_ng (u_fg x v) = x_ng x := rfl
theorem g_ng_rd (x : zSt) (v : Nat → Int32) : x_ng (u_rd x v) = x_ng x := rfl
theorem g_ng_rz (x : zSt) (v : Nat → Nat) : x_ng (u_rz x v) = x_ng x := rfl
theorem g_ng_rh (x : zSt) (v : Nat → Nat → Int32) : x_ng (u_rh x v) = x_ng x := rfl
theorem g_ng_nd (x : zSt) (v : Nat → Int32) : x_ng (u_nd x v) = x_ng x := rfl
theorem g_ng_nm (x : zSt) (v : Nat → Int32) : x_ng (u_nm x v) = x_ng x := rfl
theorem g_ng_nv (x : zSt) (v : Nat → Int32) : x_ng (u_nv x v) = x_ng x := rfl
theorem g_ng_nh (x : zSt) (v : Nat → Int32) : x_ng (u_nh x v) = x_ng x := rfl
theorem g_ng_nf (x : zSt) (v : Nat → Nat → Int32) : x_ng (u_nf x v) = x_ng x := rfl
theorem g_ng_wr (x : zSt) (v : Nat → Nat) : x_ng (u_wr x v) = x_ng x := rfl
theorem g_ng_wa (x : zSt) (v : Nat → Bool) : x_ng (u_wa x v) = x_ng x := rfl
theorem g_ng_lz (x : zSt) (v : Nat → Nat) : x_ng (u_lz x v) = x_ng x := rfl
theorem g_ng_lf (x : zSt) (v : Nat → Nat) : x_ng (u_lf x v) = x_ng x := rfl
theorem g_ng_li (x : zSt) (v : Nat → Nat → Int32) : x_ng (u_li x v) = x_ng x := rfl
theorem g_ng_lt (x : zSt) (v : Nat → Nat → Int64) : x_ng (u_lt x v) = x_ng x := rfl
theorem g_ng_lb (x : zSt) (v : Nat → Nat → Int64) : x_ng (u_lb x v) = x_ng x := rfl
theorem g_ng_lr (x : zSt) (v : Nat → Nat → Option (Nat → Int64)) : x_ng (u_lr x v) = x_ng x := rfl
theorem g_ng_tn (x : zSt) (v : Nat) : x_ng (u_tn x v) = x_ng x := rfl
theorem g_ng_tf (x : zSt) (v : Nat → Nat → Int32) : x_ng (u_tf x v) = x_ng x := rfl
theorem g_rg_dk (x : zSt) (v : Nat) : x_rg (u_dk x v) = x_rg x := rfl
theorem g_rg_lk (x : zSt) (v : Int32) : x_rg (u_lk x v) = x_rg x := rfl
theorem g_rg_po (x : zSt) (v : Int32) : x_rg (u_po x v) = x_rg x := rfl
theorem g_rg_ne (x : zSt) (v : Int32) : x_rg (u_ne x v) = x_rg x := rfl
theorem g_rg_td (x : zSt) (v : Int32) : x_rg (u_td x v) = x_rg x := rfl
theorem g_rg_nb (x : zSt) (v : Nat → Int32) : x_rg (u_nb x v) = x_rg x := rfl
theorem g_rg_ln (x : zSt) (v : Nat → Option Nat) : x_rg (u_ln x v) = x_rg x := rfl
theorem g_rg_nr (x : zSt) (v : Nat) : x_rg (u_nr x v) = x_rg x := rfl
theorem g_rg_nw (x : zSt) (v : Nat) : x_rg (u_nw x v) = x_rg x := rfl
theorem g_rg_nn (x : zSt) (v : Nat) : x_rg (u_nn x v) = x_rg x := rfl
theorem g_rg_ns (x : zSt) (v : Nat) : x_rg (u_ns x v) = x_rg x := rfl
theorem g_rg_or (x : zSt) (v : Nat) : x_rg (u_or x v) = x_rg x := rfl
theorem g_rg_ow (x : zSt) (v : Nat) : x_rg (u_ow x v) = x_rg x := rfl
theorem g_rg_on (x : zSt) (v : Nat) : x_rg (u_on x v) = x_rg x := rfl
theorem g_rg_nl (x : zSt) (v : Nat) : x_rg (u_nl x v) = x_rg x := rfl
theorem g_rg_ng (x : zSt) (v : Nat) : x_rg (u_ng x v) = x_rg x := rfl
theorem g_rg_rg (x : zSt) (v : Nat) : x_rg (u_rg x v) = v := rfl
theorem g_rg_lc (x : zSt) (v : Nat → Int32) : x_rg (u_lc x v) = x_rg x := rfl
theorem g_rg_cp (x : zSt) (v : Nat → Nat) : x_rg (u_cp x v) = x_rg x := rfl
theorem g_rg_gb (x : zSt) (v : Nat → Nat → Option zAE) : x_rg (u_gb x v) = x_rg x := rfl
theorem g_rg_sp (x : zSt) (v : Nat → Nat) : x_rg (u_sp x v) = x_rg x := rfl
theorem g_rg_kn (x : zSt) (v : Nat → Int64) : x_rg (u_kn x v) = x_rg x := rfl
theorem g_rg_me (x : zSt) (v : Nat → Int64) : x_rg (u_me x v) = x_rg x := rfl
theorem g_rg_ob (x : zSt) (v : Nat → Nat → Int64) : x_rg (u_ob x v) = x_rg x := rfl
theorem g_rg_fk (x : zSt) (v : Nat → Nat → Int32) : x_rg (u_fk x v) = x_rg x := rfl
theorem g_rg_fz (x : zSt) (v : Nat → Nat → Nat) : x_rg (u_fz x v) = x_rg x := rfl
theorem g_rg_fg (x : zSt) (v : Nat → Nat → Nat → Int32) : x_rg (u_fg x v) = x_rg x := rfl
theorem g_rg_rd (x : zSt) (v : Nat → Int32) : x_rg (u_rd x v) = x_rg x := rfl
theorem g_rg_rz (x : zSt) (v : Nat → Nat) : x_rg (u_rz x v) = x_rg x := rfl
theorem g_rg_rh (x : zSt) (v : Nat → Nat → Int32) : x_rg (u_rh x v) = x_rg x := rfl
theorem g_rg_nd (x : zSt) (v : Nat → Int32) : x_rg (u_nd x v) = x_rg x := rfl
theorem g_rg_nm (x : zSt) (v : Nat → Int32) : x_rg (u_nm x v) = x_rg x := rfl
theorem g_rg_nv (x : zSt) (v : Nat → Int32) : x_rg (u_nv x v) = x_rg x := rfl
theorem g_rg_nh (x : zSt) (v : Nat → Int32) : x_rg (u_nh x v) = x_rg x := rfl
theorem g_rg_nf (x : zSt) (v : Nat → Nat → Int32) : x_rg (u_nf x v) = x_rg x := rfl
theorem g_rg_wr (x : zSt) (v : Nat → Nat) : x_rg (u_wr x v) = x_rg x := rfl
theorem g_rg_wa (x : zSt) (v : Nat → Bool) : x_rg (u_wa x v) = x_rg x := rfl
theorem g_rg_lz (x : zSt) (v : Nat → Nat) : x_rg (u_lz x v) = x_rg x := rfl
theorem g_rg_lf (x : zSt) (v : Nat → Nat) : x_rg (u_lf x v) = x_rg x := rfl
theorem g_rg_li (x : zSt) (v : Nat → Nat → Int32) : x_rg (u_li x v) = x_rg x := rfl
theorem g_rg_lt (x : zSt) (v : Nat → Nat → Int64) : x_rg (u_lt x v) = x_rg x := rfl
theorem g_rg_lb (x : zSt) (v : Nat → Nat → Int64) : x_rg (u_lb x v) = x_rg x := rfl
theorem g_rg_lr (x : zSt) (v : Nat → Nat → Option (Nat → Int64)) : x_rg (u_lr x v) = x_rg x := rfl
theorem g_rg_tn (x : zSt) (v : Nat) : x_rg (u_tn x v) = x_rg x := rfl
theorem g_rg_tf (x : zSt) (v : Nat → Nat → Int32) : x_rg (u_tf x v) = x_rg x := rfl
theorem g_lc_dk (x : zSt) (v : Nat) : x_lc (u_dk x v) = x_lc x := rfl
theorem g_lc_lk (x : zSt) (v : Int32) : x_lc (u_lk x v) = x_lc x := rfl
theorem g_lc_po (x : zSt) (v : Int32) : x_lc (u_po x v) = x_lc x := rfl
theorem g_lc_ne (x : zSt) (v : Int32) : x_lc (u_ne x v) = x_lc x := rfl
theorem g_lc_td (x : zSt) (v : Int32) : x_lc (u_td x v) = x_lc x := rfl
theorem g_lc_nb (x : zSt) (v : Nat → Int32) : x_lc (u_nb x v) = x_lc x := rfl
theorem g_lc_ln (x : zSt) (v : Nat → Option Nat) : x_lc (u_ln x v) = x_lc x := rfl
theorem g_lc_nr (x : zSt) (v : Nat) : x_lc (u_nr x v) = x_lc x := rfl
theorem g_lc_nw (x : zSt) (v : Nat) : x_lc (u_nw x v) = x_lc x := rfl
theorem g_lc_nn (x : zSt) (v : Nat) : x_lc (u_nn x v) = x_lc x := rfl
theorem g_lc_ns (x : zSt) (v : Nat) : x_lc (u_ns x v) = x_lc x := rfl
theorem g_lc_or (x : zSt) (v : Nat) : x_lc (u_or x v) = x_lc x := rfl
theorem g_lc_ow (x : zSt) (v : Nat) : x_lc (u_ow x v) = x_lc x := rfl
theorem g_lc_on (x : zSt) (v : Nat) : x_lc (u_on x v) = x_lc x := rfl
theorem g_lc_nl (x : zSt) (v : Nat) : x_lc (u_nl x v) = x_lc x := rfl
theorem g_lc_ng (x : zSt) (v : Nat) : x_lc (u_ng x v) = x_lc x := rfl
theorem g_lc_rg (x : zSt) (v : Nat) : x_lc (u_rg x v) = x_lc x := rfl
theorem g_lc_lc (x : zSt) (v : Nat → Int32) : x_lc (u_lc x v) = v := rfl
theorem g_lc_cp (x : zSt) (v : Nat → Nat) : x_lc (u_cp x v) = x_lc x := rfl
theorem g_lc_gb (x : zSt) (v : Nat → Nat → Option zAE) : x_lc (u_gb x v) = x_lc x := rfl
theorem g_lc_sp (x : zSt) (v : Nat → Nat) : x_lc (u_sp x v) = x_lc x := rfl
theorem g_lc_kn (x : zSt) (v : Nat → Int64) : x_lc (u_kn x v) = x_lc x := rfl
theorem g_lc_me (x : zSt) (v : Nat → Int64) : x_lc (u_me x v) = x_lc x := rfl
theorem g_lc_ob (x : zSt) (v : Nat → Nat → Int64) : x_lc (u_ob x v) = x_lc x := rfl
theorem g_lc_fk (x : zSt) (v : Nat → Nat → Int32) : x_lc (u_fk x v) = x_lc x := rfl
theorem g_lc_fz (x : zSt) (v : Nat → Nat → Nat) : x_lc (u_fz x v) = x_lc x := rfl
theorem g_lc_fg (x : zSt) (v : Nat → Nat → Nat → Int32) : x_lc (u_fg x v) = x_lc x := rfl
theorem g_lc_rd (x : zSt) (v : Nat → Int32) : x_lc (u_rd x v) = x_lc x := rfl
theorem g_lc_rz (x : zSt) (v : Nat → Nat) : x_lc (u_rz x v) = x_lc x := rfl
theorem g_lc_rh (x : zSt) (v : Nat → Nat → Int32) : x_lc (u_rh x v) = x_lc x := rfl
theorem g_lc_nd (x : zSt) (v : Nat → Int32) : x_lc (u_nd x v) = x_lc x := rfl
theorem g_lc_nm (x : zSt) (v : Nat → Int32) : x_lc (u_nm x v) = x_lc x := rfl
theorem g_lc_nv (x : zSt) (v : Nat → Int32) : x_lc (u_nv x v) = x_lc x := rfl
theorem g_lc_nh (x : zSt) (v : Nat → Int32) : x_lc (u_nh x v) = x_lc x := rfl
theorem g_lc_nf (x : zSt) (v : Nat → Nat → Int32) : x_lc (u_nf x v) = x_lc x := rfl
theorem g_lc_wr (x : zSt) (v : Nat → Nat) : x_lc (u_wr x v) = x_lc x := rfl
theorem g_lc_wa (x : zSt) (v : Nat → Bool) : x_lc (u_wa x v) = x_lc x := rfl
theorem g_lc_lz (x : zSt) (v : Nat → Nat) : x_lc (u_lz x v) = x_lc x := rfl
theorem g_lc_lf (x : zSt) (v : Nat → Nat) : x_lc (u_lf x v) = x_lc x := rfl
theorem g_lc_li (x : zSt) (v : Nat → Nat → Int32) : x_lc (u_li x v) = x_lc x := rfl
theorem g_lc_lt (x : zSt) (v : Nat → Nat → Int64) : x_lc (u_lt x v) = x_lc x := rfl
theorem g_lc_lb (x : zSt) (v : Nat → Nat → Int64) : x_lc (u_lb x v) = x_lc x := rfl
theorem g_lc_lr (x : zSt) (v : Nat → Nat → Option (Nat → Int64)) : x_lc (u_lr x v) = x_lc x := rfl
theorem g_lc_tn (x : zSt) (v : Nat) : x_lc (u_tn x v) = x_lc x := rfl
theorem g_lc_tf (x : zSt) (v : Nat → Nat → Int32) : x_lc (u_tf x v) = x_lc x := rfl
theorem g_cp_dk (x : zSt) (v : Nat) : x_cp (u_dk x v) = x_cp x := rfl
theorem g_cp_lk (x : zSt) (v : Int32) : x_cp (u_lk x v) = x_cp x := rfl
theorem g_cp_po (x : zSt) (v : Int32) : x_cp (u_po x v) = x_cp x := rfl
theorem g_cp_ne (x : zSt) (v : Int32) : x_cp (u_ne x v) = x_cp x := rfl
theorem g_cp_td (x : zSt) (v : Int32) : x_cp (u_td x v) = x_cp x := rfl
theorem g_cp_nb (x : zSt) (v : Nat → Int32) : x_cp (u_nb x v) = x_cp x := rfl
theorem g_cp_ln (x : zSt) (v : Nat → Option Nat) : x_cp (u_ln x v) = x_cp x := rfl
theorem g_cp_nr (x : zSt) (v : Nat) : x_cp (u_nr x v) = x_cp x := rfl
theorem g_cp_nw (x : zSt) (v : Nat) : x_cp (u_nw x v) = x_cp x := rfl
theorem g_cp_nn (x : zSt) (v : Nat) : x_cp (u_nn x v) = x_cp x := rfl
theorem g_cp_ns (x : zSt) (v : Nat) : x_cp (u_ns x v) = x_cp x := rfl
theorem g_cp_or (x : zSt) (v : Nat) : x_cp (u_or x v) = x_cp x := rfl
theorem g_cp_ow (x : zSt) (v : Nat) : x_cp (u_ow x v) = x_cp x := rfl
theorem g_cp_on (x : zSt) (v : Nat) : x_cp (u_on x v) = x_cp x := rfl
theorem g_cp_nl (x : zSt) (v : Nat) : x_cp (u_nl x v) = x_cp x := rfl
theorem g_cp_ng (x : zSt) (v : Nat) : x_cp (u_ng x v) = x_cp x := rfl
theorem g_cp_rg (x : zSt) (v : Nat) : x_cp (u_rg x v) = x_cp x := rfl
theorem g_cp_lc (x : zSt) (v : Nat → Int32) : x_cp (u_lc x v) = x_cp x := rfl
theorem g_cp_cp (x : zSt) (v : Nat → Nat) : x_cp (u_cp x v) = v := rfl
theorem g_cp_gb (x : zSt) (v : Nat → Nat → Option zAE) : x_cp (u_gb x v) = x_cp x := rfl
theorem g_cp_sp (x : zSt) (v : Nat → Nat) : x_cp (u_sp x v) = x_cp x := rfl
theorem g_cp_kn (x : zSt) (v : Nat → Int64) : x_cp (u_kn x v) = x_cp x := rfl
theorem g_cp_me (x : zSt) (v : Nat → Int64) : x_cp (u_me x v) = x_cp x := rfl
theorem g_cp_ob (x : zSt) (v : Nat → Nat → Int64) : x_cp (u_ob x v) = x_cp x := rfl
theorem g_cp_fk (x : zSt) (v : Nat → Nat → Int32) : x_cp (u_fk x v) = x_cp x := rfl
theorem g_cp_fz (x : zSt) (v : Nat → Nat → Nat) : x_cp (u_fz x v) = x_cp x := rfl
theorem g_cp_fg (x : zSt) (v : Nat → Nat → Nat → Int32) : x_cp (u_fg x v) = x_cp x := rfl
theorem g_cp_rd (x : zSt) (v : Nat → Int32) : x_cp (u_rd x v) = x_cp x := rfl
theorem g_cp_rz (x : zSt) (v : Nat → Nat) : x_cp (u_rz x v) = x_cp x := rfl
theorem g_cp_rh (x : zSt) (v : Nat → Nat → Int32) : x_cp (u_rh x v) = x_cp x := rfl
theorem g_cp_nd (x : zSt) (v : Nat → Int32) : x_cp (u_nd x v) = x_cp x := rfl
theorem g_cp_nm (x : zSt) (v : Nat → Int32) : x_cp (u_nm x v) = x_cp x := rfl
theorem g_cp_nv (x : zSt) (v : Nat → Int32) : x_cp (u_nv x v) = x_cp x := rfl
theorem g_cp_nh (x : zSt) (v : Nat → Int32) : x_cp (u_nh x v) = x_cp x := rfl
theorem g_cp_nf (x : zSt) (v : Nat → Nat → Int32) : x_cp (u_nf x v) = x_cp x := rfl
theorem g_cp_wr (x : zSt) (v : Nat → Nat) : x_cp (u_wr x v) = x_cp x := rfl
theorem g_cp_wa (x : zSt) (v : Nat → Bool) : x_cp (u_wa x v) = x_cp x := rfl
theorem g_cp_lz (x : zSt) (v : Nat → Nat) : x_cp (u_lz x v) = x_cp x := rfl
theorem g_cp_lf (x : zSt) (v : Nat → Nat) : x_cp (u_lf x v) = x_cp x := rfl
theorem g_cp_li (x : zSt) (v : Nat → Nat → Int32) : x_cp (u_li x v) = x_cp x := rfl
theorem g_cp_lt (x : zSt) (v : Nat → Nat → Int64) : x_cp (u_lt x v) = x_cp x := rfl
theorem g_cp_lb (x : zSt) (v : Nat → Nat → Int64) : x_cp (u_lb x v) = x_cp x := rfl
theorem g_cp_lr (x : zSt) (v : Nat → Nat → Option (Nat → Int64)) : x_cp (u_lr x v) = x_cp x := rfl
theorem g_cp_tn (x : zSt) (v : Nat) : x_cp (u_tn x v) = x_cp x := rfl
theorem g_cp_tf (x : zSt) (v : Nat → Nat → Int32) : x_cp (u_tf x v) = x_cp x := rfl
theorem g_gb_dk (x : zSt) (v : Nat) : x_gb (u_dk x v) = x_gb x := rfl
theorem g_gb_lk (x : zSt) (v : Int32) : x_gb (u_lk x v) = x_gb x := rfl
theorem g_gb_po (x : zSt) (v : Int32) : x_gb (u_po x v) = x_gb x := rfl
theorem g_gb_ne (x : zSt) (v : Int32) : x_gb (u_ne x v) = x_gb x := rfl
theorem g_gb_td (x : zSt) (v : Int32) : x_gb (u_td x v) = x_gb x := rfl
theorem g_gb_nb (x : zSt) (v : Nat → Int32) : x_gb (u_nb x v) = x_gb x := rfl
theorem g_gb_ln (x : zSt) (v : Nat → Option Nat) : x_gb (u_ln x v) = x_gb x := rfl
theorem g_gb_nr (x : zSt) (v : Nat) : x_gb (u_nr x v) = x_gb x := rfl
theorem g_gb_nw (x : zSt) (v : Nat) : x_gb (u_nw x v) = x_gb x := rfl
theorem g_gb_nn (x : zSt) (v : Nat) : x_gb (u_nn x v) = x_gb x := rfl
theorem g_gb_ns (x : zSt) (v : Nat) : x_gb (u_ns x v) = x_gb x := rfl
theorem g_gb_or (x : zSt) (v : Nat) : x_gb (u_or x v) = x_gb x := rfl
theorem g_gb_ow (x : zSt) (v : Nat) : x_gb (u_ow x v) = x_gb x := rfl
theorem g_gb_on (x : zSt) (v : Nat) : x_gb (u_on x v) = x_gb x := rfl
theorem g_gb_nl (x : zSt) (v : Nat) : x_gb (u_nl x v) = x_gb x := rfl
theorem g_gb_ng (x : zSt) (v : Nat) : x_gb (u_ng x v) = x_gb x := rfl
theorem g_gb_rg (x : zSt) (v : Nat) : x_gb (u_rg x v) = x_gb x := rfl
theorem g_gb_lc (x : zSt) (v : Nat → Int32) : x_gb (u_lc x v) = x_gb x := rfl
theorem g_gb_cp (x : zSt) (v : Nat → Nat) : x_gb (u_cp x v) = x_gb x := rfl
theorem g_gb_gb (x : zSt) (v : Nat → Nat → Option zAE) : x_gb (u_gb x v) = v := rfl
theorem g_gb_sp (x : zSt) (v : Nat → Nat) : x_gb (u_sp x v) = x_gb x := rfl
theorem g_gb_kn (x : zSt) (v : Nat → Int64) : x_gb (u_kn x v) = x_gb x := rfl
theorem g_gb_me (x : zSt) (v : Nat → Int64) : x_gb (u_me x v) = x_gb x := rfl
theorem g_gb_ob (x : zSt) (v : Nat → Nat → Int64) : x_gb (u_ob x v) = x_gb x := rfl
theorem g_gb_fk (x : zSt) (v : Nat → Nat → Int32) : x_gb (u_fk x v) = x_gb x := rfl
theorem g_gb_fz (x : zSt) (v : Nat → Nat → Nat) : x_gb (u_fz x v) = x_gb x := rfl
theorem g_gb_fg (x : zSt) (v : Nat → Nat → Nat → Int32) : x_gb (u_fg x v) = x_gb x := rfl
theorem g_gb_rd (x : zSt) (v : Nat → Int32) : x_gb (u_rd x v) = x_gb x := rfl
theorem g_gb_rz (x : zSt) (v : Nat → Nat) : x_gb (u_rz x v) = x_gb x := rfl
theorem g_gb_rh (x : zSt) (v : Nat → Nat → Int32) : x_gb (u_rh x v) = x_gb x := rfl
theorem g_gb_nd (x : zSt) (v : Nat → Int32) : x_gb (u_nd x v) = x_gb x := rfl
theorem g_gb_nm (x : zSt) (v : Nat → Int32) : x_gb (u_nm x v) = x_gb x := rfl
theorem g_gb_nv (x : zSt) (v : Nat → Int32) : x_gb (u_nv x v) = x_gb x := rfl
theorem g_gb_nh (x : zSt) (v : Nat → Int32) : x_gb (u_nh x v) = x_gb x := rfl
theorem g_gb_nf (x : zSt) (v : Nat → Nat → Int32) : x_gb (u_nf x v) = x_gb x := rfl
theorem g_gb_wr (x : zSt) (v : Nat → Nat) : x_gb (u_wr x v) = x_gb x := rfl
theorem g_gb_wa (x : zSt) (v : Nat → Bool) : x_gb (u_wa x v) = x_gb x := rfl
theorem g_gb_lz (x : zSt) (v : Nat → Nat) : x_gb (u_lz x v) = x_gb x := rfl
theorem g_gb_lf (x : zSt) (v : Nat → Nat) : x_gb (u_lf x v) = x_gb x := rfl
theorem g_gb_li (x : zSt) (v : Nat → Nat → Int32) : x_gb (u_li x v) = x_gb x := rfl
theorem g_gb_lt (x : zSt) (v : Nat → Nat → Int64) : x_gb (u_lt x v) = x_gb x := rfl
theorem g_gb_lb (x : zSt) (v : Nat → Nat → Int64) : x_gb (u_lb x v) = x_gb x := rfl
theorem g_gb_lr (x : zSt) (v : Nat → Nat → Option (Nat → Int64)) : x_gb (u_lr x v) = x_gb x := rfl
theorem g_gb_tn (x : zSt) (v : Nat) : x_gb (u_tn x v) = x_gb x := rfl
theorem g_gb_tf (x : zSt) (v : Nat → Nat → Int32) : x_gb (u_tf x v) = x_gb x := rfl
theorem g_sp_dk (x : zSt) (v : Nat) : x_sp (u_dk x v) = x_sp x := rfl
theorem g_sp_lk (x : zSt) (v : Int32) : x_sp (u_lk x v) = x_sp x := rfl
theorem g_sp_po (x : zSt) (v : Int32) : x_sp (u_po x v) = x_sp x := rfl
theorem g_sp_ne (x : zSt) (v : Int32) : x_sp (u_ne x v) = x_sp x := rfl
theorem g_sp_td (x : zSt) (v : Int32) : x_sp (u_td x v) = x_sp x := rfl
theorem g_sp_nb (x : zSt) (v : Nat → Int32) : x_sp (u_nb x v) = x_sp x := rfl
theorem g_sp_ln (x : zSt) (v : Nat → Option Nat) : x_sp (u_ln x v) = x_sp x := rfl
theorem g_sp_nr (x : zSt) (v : Nat) : x_sp (u_nr x v) = x_sp x := rfl
theorem g_sp_nw (x : zSt) (v : Nat) : x_sp (u_nw x v) = x_sp x := rfl
theorem g_sp_nn (x : zSt) (v : Nat) : x_sp (u_nn x v) = x_sp x := rfl
theorem g_sp_ns (x : zSt) (v : Nat) : x_sp (u_ns x v) = x_sp x := rfl
theorem g_sp_or (x : zSt) (v : Nat) : x_sp (u_or x v) = x_sp x := rfl
theorem g_sp_ow (x : zSt) (v : Nat) : x_sp (u_ow x v) = x_sp x := rfl
theorem g_sp_on (x : zSt) (v : Nat) : x_sp (u_on x v) = x_sp x := rfl
theorem g_sp_nl (x : zSt) (v : Nat) : x_sp (u_nl x v) = x_sp x := rfl
theorem g_sp_ng (x : zSt) (v : Nat) : x_sp (u_ng x v) = x_sp x := rfl
theorem g_sp_rg (x : zSt) (v : Nat) : x_sp (u_rg x v) = x_sp x := rfl
theorem g_sp_lc (x : zSt) (v : Nat → Int32) : x_sp (u_lc x v) = x_sp x := rfl
theorem g_sp_cp (x : zSt) (v : Nat → Nat) : x_sp (u_cp x v) = x_sp x := rfl
theorem g_sp_gb (x : zSt) (v : Nat → Nat → Option zAE) : x_sp (u_gb x v) = x_sp x := rfl
theorem g_sp_sp (x : zSt) (v : Nat → Nat) : x_sp (u_sp x v) = v := rfl
theorem g_sp_kn (x : zSt) (v : Nat → Int64) : x_sp (u_kn x v) = x_sp x := rfl
theorem g_sp_me (x : zSt) (v : Nat → Int64) : x_sp (u_me x v) = x_sp x := rfl
theorem g_sp_ob (x : zSt) (v : Nat → Nat → Int64) : x_sp (u_ob x v) = x_sp x := rfl
theorem g_sp_fk (x : zSt) (v : Nat → Nat → Int32) : x_sp (u_fk x v) = x_sp x := rfl
theorem g_sp_fz (x : zSt) (v : Nat → Nat → Nat) : x_sp (u_fz x v) = x_sp x := rfl
theorem g_sp_fg (x : zSt) (v : Nat → Nat → Nat → Int32) : x_sp (u_fg x v) = x_sp x := rfl
theorem g_sp_rd (x : zSt) (v : Nat → Int32) : x_sp (u_rd x v) = x_sp x := rfl
theorem g_sp_rz (x : zSt) (v : Nat → Nat) : x_sp (u_rz x v) = x_sp x := rfl
theorem g_sp_rh (x : zSt) (v : Nat → Nat → Int32) : x_sp (u_rh x v) = x_sp x := rfl
theorem g_sp_nd (x : zSt) (v : Nat → Int32) : x_sp (u_nd x v) = x_sp x := rfl
theorem g_sp_nm (x : zSt) (v : Nat → Int32) : x_sp (u_nm x v) = x_sp x := rfl
theorem g_sp_nv (x : zSt) (v : Nat → Int32) : x_sp (u_nv x v) = x_sp x := rfl
theorem g_sp_nh (x : zSt) (v : Nat → Int32) : x_sp (u_nh x v) = x_sp x := rfl
theorem g_sp_nf (x : zSt) (v : Nat → Nat → Int32) : x_sp (u_nf x v) = x_sp x := rfl
theorem g_sp_wr (x : zSt) (v : Nat → Nat) : x_sp (u_wr x v) = x_sp x := rfl
theorem g_sp_wa (x : zSt) (v : Nat → Bool) : x_sp (u_wa x v) = x_sp x := rfl
theorem g_sp_lz (x : zSt) (v : Nat → Nat) : x_sp (u_lz x v) = x_sp x := rfl
theorem g_sp_lf (x : zSt) (v : Nat → Nat) : x_sp (u_lf x v) = x_sp x := rfl
theorem g_sp_li (x : zSt) (v : Nat → Nat → Int32) : x_sp (u_li x v) = x_sp x := rfl
theorem g_sp_lt (x : zSt) (v : Nat → Nat → Int64) : x_sp (u_lt x v) = x_sp x := rfl
theorem g_sp_lb (x : zSt) (v : Nat → Nat → Int64) : x_sp (u_lb x v) = x_sp x := rfl
theorem g_sp_lr (x : zSt) (v : Nat → Nat → Option (Nat → Int64)) : x_sp (u_lr x v) = x_sp x := rfl
theorem g_sp_tn (x : zSt) (v : Nat) : x_sp (u_tn x v) = x_sp x := rfl
theorem g_sp_tf (x : zSt) (v : Nat → Nat → Int32) : x_sp (u_tf x v) = x_sp x := rfl
theorem g_kn_dk (x : zSt) (v : Nat) : x_kn (u_dk x v) = x_kn x := rfl
theorem g_kn_lk (x : zSt) (v : Int32) : x_kn (u_lk x v) = x_kn x := rfl
theorem g_kn_po (x : zSt) (v : Int32) : x_kn (u_po x v) = x_kn x := rfl
theorem g_kn_ne (x : zSt) (v : Int32) : x_kn (u_ne x v) = x_kn x := rfl
theorem g_kn_td (x : zSt) (v : Int32) : x_kn (u_td x v) = x_kn x := rfl
theorem g_kn_nb (x : zSt) (v : Nat → Int32) : x_kn (u_nb x v) = x_kn x := rfl
theorem g_kn_ln (x : zSt) (v : Nat → Option Nat) : x_kn (u_ln x v) = x_kn x := rfl
theorem g_kn_nr (x : zSt) (v : Nat) : x_kn (u_nr x v) = x_kn x := rfl
theorem g_kn_nw (x : zSt) (v : Nat) : x_kn (u_nw x v) = x_kn x := rfl
theorem g_kn_nn (x : zSt) (v : Nat) : x_kn (u_nn x v) = x_kn x := rfl
theorem g_kn_ns (x : zSt) (v : Nat) : x_kn (u_ns x v) = x_kn x := rfl
theorem g_kn_or (x : zSt) (v : Nat) : x_kn (u_or x v) = x_kn x := rfl
theorem g_kn_ow (x : zSt) (v : Nat) : x_kn (u_ow x v) = x_kn x := rfl
theorem g_kn_on (x : zSt) (v : Nat) : x_kn (u_on x v) = x_kn x := rfl
theorem g_kn_nl (x : zSt) (v : Nat) : x_kn (u_nl x v) = x_kn x := rfl
theorem g_kn_ng (x : zSt) (v : Nat) : x_kn (u_ng x v) = x_kn x := rfl
theorem g_kn_rg (x : zSt) (v : Nat) : x_kn (u_rg x v) = x_kn x := rfl
theorem g_kn_lc (x : zSt) (v : Nat → Int32) : x_kn (u_lc x v) = x_kn x := rfl
theorem g_kn_cp (x : zSt) (v : Nat → Nat) : x_kn (u_cp x v) = x_kn x := rfl
theorem g_kn_gb (x : zSt) (v : Nat → Nat → Option zAE) : x_kn (u_gb x v) = x_kn x := rfl
theorem g_kn_sp (x : zSt) (v : Nat → Nat) : x_kn (u_sp x v) = x_kn x := rfl
theorem g_kn_kn (x : zSt) (v : Nat → Int64) : x_kn (u_kn x v) = v := rfl
theorem g_kn_me (x : zSt) (v : Nat → Int64) : x_kn (u_me x v) = x_kn x := rfl
theorem g_kn_ob (x : zSt) (v : Nat → Nat → Int64) : x_kn (u_ob x v) = x_kn x := rfl
theorem g_kn_fk (x : zSt) (v : Nat → Nat → Int32) : x_kn (u_fk x v) = x_kn x := rfl
theorem g_kn_fz (x : zSt) (v : Nat → Nat → Nat) : x_kn (u_fz x v) = x_kn x := rfl
theorem g_kn_fg (x : zSt) (v : Nat → Nat → Nat → Int32) : x_kn (u_fg x v) = x_kn x := rfl
theorem g_kn_rd (x : zSt) (v : Nat → Int32) : x_kn (u_rd x v) = x_kn x := rfl
theorem g_kn_rz (x : zSt) (v : Nat → Nat) : x_kn (u_rz x v) = x_kn x := rfl
theorem g_kn_rh (x : zSt) (v : Nat → Nat → Int32) : x_kn (u_rh x v) = x_kn x := rfl
theorem g_kn_nd (x : zSt) (v : Nat → Int32) : x_kn (u_nd x v) = x_kn x := rfl
theorem g_kn_nm (x : zSt) (v : Nat → Int32) : x_kn (u_nm x v) = x_kn x := rfl
theorem g_kn_nv (x : zSt) (v : Nat → Int32) : x_kn (u_nv x v) = x_kn x := rfl
theorem g_kn_nh (x : zSt) (v : Nat → Int32) : x_kn (u_nh x v) = x_kn x := rfl
theorem g_kn_nf (x : zSt) (v : Nat → Nat → Int32) : x_kn (u_nf x v) = x_kn x := rfl
theorem g_kn_wr (x : zSt) (v : Nat → Nat) : x_kn (u_wr x v) = x_kn x := rfl
theorem g_kn_wa (x : zSt) (v : Nat → Bool) : x_kn (u_wa x v) = x_kn x := rfl
theorem g_kn_lz (x : zSt) (v : Nat → Nat) : x_kn (u_lz x v) = x_kn x := rfl
theorem g_kn_lf (x : zSt) (v : Nat → Nat) : x_kn (u_lf x v) = x_kn x := rfl
theorem g_kn_li (x : zSt) (v : Nat → Nat → Int32) : x_kn (u_li x v) = x_kn x := rfl
theorem g_kn_lt (x : zSt) (v : Nat → Nat → Int64) : x_kn (u_lt x v) = x_kn x := rfl
theorem g_kn_lb (x : zSt) (v : Nat → Nat → Int64) : x_kn (u_lb x v) = x_kn x := rfl
theorem g_kn_lr (x : zSt) (v : Nat → Nat → Option (Nat → Int64)) : x_kn (u_lr x v) = x_kn x := rfl
theorem g_kn_tn (x : zSt) (v : Nat) : x_kn (u_tn x v) = x_kn x := rfl
theorem g_kn_tf (x : zSt) (v : Nat → Nat → Int32) : x_kn (u_tf x v) = x_kn x := rfl
theorem g_me_dk (x : zSt) (v : Nat) : x_me (u_dk x v) = x_me x := rfl
theorem g_me_lk (x : zSt) (v : Int32) : x_me (u_lk x v) = x_me x := rfl
theorem g_me_po (x : zSt) (v : Int32) : x_me (u_po x v) = x_me x := rfl
theorem g_me_ne (x : zSt) (v : Int32) : x_me (u_ne x v) = x_me x := rfl
theorem g_me_td (x : zSt) (v : Int32) : x_me (u_td x v) = x_me x := rfl
theorem g_me_nb (x : zSt) (v : Nat → Int32) : x_me (u_nb x v) = x_me x := rfl
theorem g_me_ln (x : zSt) (v : Nat → Option Nat) : x_me (u_ln x v) = x_me x := rfl
theorem g_me_nr (x : zSt) (v : Nat) : x_me (u_nr x v) = x_me x := rfl
theorem g_me_nw (x : zSt) (v : Nat) : x_me (u_nw x v) = x_me x := rfl
theorem g_me_nn (x : zSt) (v : Nat) : x_me (u_nn x v) = x_me x := rfl
theorem g_me_ns (x : zSt) (v : Nat) : x_me (u_ns x v) = x_me x := rfl
theorem g_me_or (x : zSt) (v : Nat) : x_me (u_or x v) = x_me x := rfl
theorem g_me_ow (x : zSt) (v : Nat) : x_me (u_ow x v) = x_me x := rfl
theorem g_me_on (x : zSt) (v : Nat) : x_me (u_on x v) = x_me x := rfl
theorem g_me_nl (x : zSt) (v : Nat) : x_me (u_nl x v) = x_me x := rfl
theorem g_me_ng (x : zSt) (v : Nat) : x_me (u_ng x v) = x_me x := rfl
theorem g_me_rg (x : zSt) (v : Nat) : x_me (u_rg x v) = x_me x := rfl
theorem g_me_lc (x : zSt) (v : Nat → Int32) : x_me (u_lc x v) = x_me x := rfl
theorem g_me_cp (x : zSt) (v : Nat → Nat) : x_me (u_cp x v) = x_me x := rfl
theorem g_me_gb (x : zSt) (v : Nat → Nat → Option zAE) : x_me (u_gb x v) = x_me x := rfl
theorem g_me_sp (x : zSt) (v : Nat → Nat) : x_me (u_sp x v) = x_me x := rfl
theorem g_me_kn (x : zSt) (v : Nat → Int64) : x_me (u_kn x v) = x_me x := rfl
theorem g_me_me (x : zSt) (v : Nat → Int64) : x_me (u_me x v) = v := rfl
theorem g_me_ob (x : zSt) (v : Nat → Nat → Int64) : x_me (u_ob x v) = x_me x := rfl
theorem g_me_fk (x : zSt) (v : Nat → Nat → Int32) : x_me (u_fk x v) = x_me x := rfl
theorem g_me_fz (x : zSt) (v : Nat → Nat → Nat) : x_me (u_fz x v) = x_me x := rfl
theorem g_me_fg (x : zSt) (v : Nat → Nat → Nat → Int32) : x_me (u_fg x v) = x_me x := rfl
theorem g_me_rd (x : zSt) (v : Nat → Int32) : x_me (u_rd x v) = x_me x := rfl
theorem g_me_rz (x : zSt) (v : Nat → Nat) : x_me (u_rz x v) = x_me x := rfl
theorem g_me_rh (x : zSt) (v : Nat → Nat → Int32) : x_me (u_rh x v) = x_me x := rfl
theorem g_me_nd (x : zSt) (v : Nat → Int32) : x_me (u_nd x v) = x_me x := rfl
theorem g_me_nm (x : zSt) (v : Nat → Int32) : x_me (u_nm x v) = x_me x := rfl
theorem g_me_nv (x : zSt) (v : Nat → Int32) : x_me (u_nv x v) = x_me x := rfl
theorem g_me_nh (x : zSt) (v : Nat → Int32) : x_me (u_nh x v) = x_me x := rfl
theorem g_me_nf (x : zSt) (v : Nat → Nat → Int32) : x_me (u_nf x v) = x_me x := rfl
theorem g_me_wr (x : zSt) (v : Nat → Nat) : x_me (u_wr x v) = x_me x := rfl
theorem g_me_wa (x : zSt) (v : Nat → Bool) : x_me (u_wa x v) = x_me x := rfl
theorem g_me_lz (x : zSt) (v : Nat → Nat) : x_me (u_lz x v) = x_me x := rfl
theorem g_me_lf (x : zSt) (v : Nat → Nat) : x_me (u_lf x v) = x_me x := rfl
theorem g_me_li (x : zSt) (v : Nat → Nat → Int32) : x_me (u_li x v) = x_me x := rfl
theorem g_me_lt (x : zSt) (v : Nat → Nat → Int64) : x_me (u_lt x v) = x_me x := rfl
theorem g_me_lb (x : zSt) (v : Nat → Nat → Int64) : x_me (u_lb x v) = x_me x := rfl
theorem g_me_lr (x : zSt) (v : Nat → Nat → Option (Nat → Int64)) : x_me (u_lr x v) = x_me x := rfl
theorem g_me_tn (x : zSt) (v : Nat) : x_me (u_tn x v) = x_me x := rfl
theorem g_me_tf (x : zSt) (v : Nat → Nat → Int32) : x_me (u_tf x v) = x_me x := rfl
theorem g_ob_dk (x : zSt) (v : Nat) : x_ob (u_dk x v) = x_ob x := rfl
theorem g_ob_lk (x : zSt) (v : Int32) : x_ob (u_lk x v) = x_ob x := rfl
theorem g_ob_po (x : zSt) (v : Int32) : x_ob (u_po x v) = x_ob x := rfl
theorem g_ob_ne (x : zSt) (v : Int32) : x_ob (u_ne x v) = x_ob x := rfl
theorem g_ob_td (x : zSt) (v : Int32) : x_ob (u_td x v) = x_ob x := rfl
theorem g_ob_nb (x : zSt) (v : Nat → Int32) : x_ob (u_nb x v) = x_ob x := rfl
theorem g_ob_ln (x : zSt) (v : Nat → Option Nat) : x_ob (u_ln x v) = x_ob x := rfl
theorem g_ob_nr (x : zSt) (v : Nat) : x_ob (u_nr x v) = x_ob x := rfl
theorem g_ob_nw (x : zSt) (v : Nat) : x_ob (u_nw x v) = x_ob x := rfl
theorem g_ob_nn (x : zSt) (v : Nat) : x_ob (u_nn x v) = x_ob x := rfl
theorem g_ob_ns (x : zSt) (v : Nat) : x_ob (u_ns x v) = x_ob x := rfl
theorem g_ob_or (x : zSt) (v : Nat) : x_ob (u_or x v) = x_ob x := rfl
theorem g_ob_ow (x : zSt) (v : Nat) : x_ob (u_ow x v) = x_ob x := rfl
theorem g_ob_on (x : zSt) (v : Nat) : x_ob (u_on x v) = x_ob x := rfl
theorem g_ob_nl (x : zSt) (v : Nat) : x_ob (u_nl x v) = x_ob x := rfl
theorem g_ob_ng (x : zSt) (v : Nat) : x_ob (u_ng x v) = x_ob x := rfl
theorem g_ob_rg (x : zSt) (v : Nat) : x_ob (u_rg x v) = x_ob x := rfl
theorem g_ob_lc (x : zSt) (v : Nat → Int32) : x_ob (u_lc x v) = x_ob x := rfl
theorem g_ob_cp (x : zSt) (v : Nat → Nat) : x_ob (u_cp x v) = x_ob x := rfl
theorem g_ob_gb (x : zSt) (v : Nat → Nat → Option zAE) : x_ob (u_gb x v) = x_ob x := rfl
theorem g_ob_sp (x : zSt) (v : Nat → Nat) : x_ob (u_sp x v) = x_ob x := rfl
theorem g_ob_kn (x : zSt) (v : Nat → Int64) : x_ob (u_kn x v) = x_ob x := rfl
theorem g_ob_me (x : zSt) (v : Nat → Int64) : x_ob (u_me x v) = x_ob x := rfl
theorem g_ob_ob (x : zSt) (v : Nat → Nat → Int64) : x_ob (u_ob x v) = v := rfl
theorem g_ob_fk (x : zSt) (v : Nat → Nat → Int32) : x_ob (u_fk x v) = x_ob x := rfl
theorem g_ob_fz (x : zSt) (v : Nat → Nat → Nat) : x_ob (u_fz x v) = x_ob x := rfl
theorem g_ob_fg (x : zSt) (v : Nat → Nat → Nat → Int32) : x_ob (u_fg x v) = x_ob x := rfl
theorem g_ob_rd (x : zSt) (v : Nat → Int32) : x_ob (u_rd x v) = x_ob x := rfl
theorem g_ob_rz (x : zSt) (v : Nat → Nat) : x_ob (u_rz x v) = x_ob x := rfl
theorem g_ob_rh (x : zSt) (v : Nat → Nat → Int32) : x_ob (u_rh x v) = x_ob x := rfl
theorem g_ob_nd (x : zSt) (v : Nat → Int32) : x_ob (u_nd x v) = x_ob x := rfl
theorem g_ob_nm (x : zSt) (v : Nat → Int32) : x_ob (u_nm x v) = x_ob x := rfl
theorem g_ob_nv (x : zSt) (v : Nat → Int32) : x_ob (u_nv x v) = x_ob x := rfl
theorem g_ob_nh (x : zSt) (v : Nat → Int32) : x_ob (u_nh x v) = x_ob x := rfl
theorem g_ob_nf (x : zSt) (v : Nat → Nat → Int32) : x_ob (u_nf x v) = x_ob x := rfl
theorem g_ob_wr (x : zSt) (v : Nat → Nat) : x_ob (u_wr x v) = x_ob x := rfl
theorem g_ob_wa (x : zSt) (v : Nat → Bool) : x_ob (u_wa x v) = x_ob x := rfl
theorem g_ob_lz (x : zSt) (v : Nat → Nat) : x_ob (u_lz x v) = x_ob x := rfl
theorem g_ob_lf (x : zSt) (v : Nat → Nat) : x_ob (u_lf x v) = x_ob x := rfl
theorem g_ob_li (x : zSt) (v : Nat → Nat → Int32) : x_ob (u_li x v) = x_ob x := rfl
theorem g_ob_lt (x : zSt) (v : Nat → Nat → Int64) : x_ob (u_lt x v) = x_ob x := rfl
theorem g_ob_lb (x : zSt) (v : Nat → Nat → Int64) : x_ob (u_lb x v) = x_ob x := rfl
theorem g_ob_lr (x : zSt) (v : Nat → Nat → Option (Nat → Int64)) : x_ob (u_lr x v) = x_ob x := rfl
theorem g_ob_tn (x : zSt) (v : Nat) : x_ob (u_tn x v) = x_ob x := rfl
theorem g_ob_tf (x : zSt) (v : Nat → Nat → Int32) : x_ob (u_tf x v) = x_ob x := rfl
theorem g_fk_dk (x : zSt) (v : Nat) : x_fk (u_dk x v) = x_fk x := rfl
theorem g_fk_lk (x : zSt) (v : Int32) : x_fk (u_lk x v) = x_fk x := rfl
theorem g_fk_po (x : zSt) (v : Int32) : x_fk (u_po x v) = x_fk x := rfl
theorem g_fk_ne (x : zSt) (v : Int32) : x_fk (u_ne x v) = x_fk x := rfl
theorem g_fk_td (x : zSt) (v : Int32) : x_fk (u_td x v) = x_fk x := rfl
theorem g_fk_nb (x : zSt) (v : Nat → Int32) : x_fk (u_nb x v) = x_fk x := rfl
theorem g_fk_ln (x : zSt) (v : Nat → Option Nat) : x_fk (u_ln x v) = x_fk x := rfl
theorem g_fk_nr (x : zSt) (v : Nat) : x_fk (u_nr x v) = x_fk x := rfl
theorem g_fk_nw (x : zSt) (v : Nat) : x_fk (u_nw x v) = x_fk x := rfl
theorem g_fk_nn (x : zSt) (v : Nat) : x_fk (u_nn x v) = x_fk x := rfl
theorem g_fk_ns (x : zSt) (v : Nat) : x_fk (u_ns x v) = x_fk x := rfl
theorem g_fk_or (x : zSt) (v : Nat) : x_fk (u_or x v) = x_fk x := rfl
theorem g_fk_ow (x : zSt) (v : Nat) : x_fk (u_ow x v) = x_fk x := rfl
theorem g_fk_on (x : zSt) (v : Nat) : x_fk (u_on x v) = x_fk x := rfl
theorem g_fk_nl (x : zSt) (v : Nat) : x_fk (u_nl x v) = x_fk x := rfl
theorem g_fk_ng (x : zSt) (v : Nat) : x_fk (u_ng x v) = x_fk x := rfl
theorem g_fk_rg (x : zSt) (v : Nat) : x_fk (u_rg x v) = x_fk x := rfl
theorem g_fk_lc (x : zSt) (v : Nat → Int32) : x_fk (u_lc x v) = x_fk x := rfl
theorem g_fk_cp (x : zSt) (v : Nat → Nat) : x_fk (u_cp x v) = x_fk x := rfl
theorem g_fk_gb (x : zSt) (v : Nat → Nat → Option zAE) : x_fk (u_gb x v) = x_fk x := rfl
theorem g_fk_sp (x : zSt) (v : Nat → Nat) : x_fk (u_sp x v) = x_fk x := rfl
theorem g_fk_kn (x : zSt) (v : Nat → Int64) : x_fk (u_kn x v) = x_fk x := rfl
theorem g_fk_me (x : zSt) (v : Nat → Int64) : x_fk (u_me x v) = x_fk x := rfl
theorem g_fk_ob (x : zSt) (v : Nat → Nat → Int64) : x_fk (u_ob x v) = x_fk x := rfl
theorem g_fk_fk (x : zSt) (v : Nat → Nat → Int32) : x_fk (u_fk x v) = v := rfl
theorem g_fk_fz (x : zSt) (v : Nat → Nat → Nat) : x_fk (u_fz x v) = x_fk x := rfl
theorem g_fk_fg (x : zSt) (v : Nat → Nat → Nat → Int32) : x_fk (u_fg x v) = x_fk x := rfl
theorem g_fk_rd (x : zSt) (v : Nat → Int32) : x_fk (u_rd x v) = x_fk x := rfl
theorem g_fk_rz (x : zSt) (v : Nat → Nat) : x_fk (u_rz x v) = x_fk x := rfl
theorem g_fk_rh (x : zSt) (v : Nat → Nat → Int32) : x_fk (u_rh x v) = x_fk x := rfl
theorem g_fk_nd (x : zSt) (v : Nat → Int32) : x_fk (u_nd x v) = x_fk x := rfl
theorem g_fk_nm (x : zSt) (v : Nat → Int32) : x_fk (u_nm x v) = x_fk x := rfl
theorem g_fk_nv (x : zSt) (v : Nat → Int32) : x_fk (u_nv x v) = x_fk x := rfl
theorem g_fk_nh (x : zSt) (v : Nat → Int32) : x_fk (u_nh x v) = x_fk x := rfl
theorem g_fk_nf (x : zSt) (v : Nat → Nat → Int32) : x_fk (u_nf x v) = x_fk x := rfl
theorem g_fk_wr (x : zSt) (v : Nat → Nat) : x_fk (u_wr x v) = x_fk x := rfl
theorem g_fk_wa (x : zSt) (v : Nat → Bool) : x_fk (u_wa x v) = x_fk x := rfl
theorem g_fk_lz (x : zSt) (v : Nat → Nat) : x_fk (u_lz x v) = x_fk x := rfl
theorem g_fk_lf (x : zSt) (v : Nat → Nat) : x_fk (u_lf x v) = x_fk x := rfl
theorem g_fk_li (x : zSt) (v : Nat → Nat → Int32) : x_fk (u_li x v) = x_fk x := rfl
theorem g_fk_lt (x : zSt) (v : Nat → Nat → Int64) : x_fk (u_lt x v) = x_fk x := rfl
theorem g_fk_lb (x : zSt) (v : Nat → Nat → Int64) : x_fk (u_lb x v) = x_fk x := rfl
theorem g_fk_lr (x : zSt) (v : Nat → Nat → Option (Nat → Int64)) : x_fk (u_lr x v) = x_fk x := rfl
theorem g_fk_tn (x : zSt) (v : Nat) : x_fk (u_tn x v) = x_fk x := rfl
theorem g_fk_tf (x : zSt) (v : Nat → Nat → Int32) : x_fk (u_tf x v) = x_fk x := rfl
theorem g_fz_dk (x : zSt) (v : Nat) : x_fz (u_dk x v) = x_fz x := rfl
theorem g_fz_lk (x : zSt) (v : Int32) : x_fz (u_lk x v) = x_fz x := rfl
theorem g_fz_po (x : zSt) (v : Int32) : x_fz (u_po x v) = x_fz x := rfl
theorem g_fz_ne (x : zSt) (v : Int32) : x_fz (u_ne x v) = x_fz x := rfl
theorem g_fz_td (x : zSt) (v : Int32) : x_fz (u_td x v) = x_fz x := rfl
theorem g_fz_nb (x : zSt) (v : Nat → Int32) : x_fz (u_nb x v) = x_fz x := rfl
theorem g_fz_ln (x : zSt) (v : Nat → Option Nat) : x_fz (u_ln x v) = x_fz x := rfl
theorem g_fz_nr (x : zSt) (v : Nat) : x_fz (u_nr x v) = x_fz x := rfl
theorem g_fz_nw (x : zSt) (v : Nat) : x_fz (u_nw x v) = x_fz x := rfl
theorem g_fz_nn (x : zSt) (v : Nat) : x_fz (u_nn x v) = x_fz x := rfl
theorem g_fz_ns (x : zSt) (v : Nat) : x_fz (u_ns x v) = x_fz x := rfl
theorem g_fz_or (x : zSt) (v : Nat) : x_fz (u_or x v) = x_fz x := rfl
theorem g_fz_ow (x : zSt) (v : Nat) : x_fz (u_ow x v) = x_fz x := rfl
theorem g_fz_on (x : zSt) (v : Nat) : x_fz (u_on x v) = x_fz x := rfl
theorem g_fz_nl (x : zSt) (v : Nat) : x_fz (u_nl x v) = x_fz x := rfl
theorem g_fz_ng (x : zSt) (v : Nat) : x_fz (u_ng x v) = x_fz x := rfl
theorem g_fz_rg (x : zSt) (v : Nat) : x_fz (u_rg x v) = x_fz x := rfl
theorem g_fz_lc (x : zSt) (v : Nat → Int32) : x_fz (u_lc x v) = x_fz x := rfl
theorem g_fz_cp (x : zSt) (v : Nat → Nat) : x_fz (u_cp x v) = x_fz x := rfl
theorem g_fz_gb (x : zSt) (v : Nat → Nat → Option zAE) : x_fz (u_gb x v) = x_fz x := rfl
theorem g_fz_sp (x : zSt) (v : Nat → Nat) : x_fz (u_sp x v) = x_fz x := rfl
theorem g_fz_kn (x : zSt) (v : Nat → Int64) : x_fz (u_kn x v) = x_fz x := rfl
theorem g_fz_me (x : zSt) (v : Nat → Int64) : x_fz (u_me x v) = x_fz x := rfl
theorem g_fz_ob (x : zSt) (v : Nat → Nat → Int64) : x_fz (u_ob x v) = x_fz x := rfl
theorem g_fz_fk (x : zSt) (v : Nat → Nat → Int32) : x_fz (u_fk x v) = x_fz x := rfl
theorem g_fz_fz (x : zSt) (v : Nat → Nat → Nat) : x_fz (u_fz x v) = v := rfl
theorem g_fz_fg (x : zSt) (v : Nat → Nat → Nat → Int32) : x_fz (u_fg x v) = x_fz x := rfl
theorem g_fz_rd (x : zSt) (v : Nat → Int32) : x_fz (u_rd x v) = x_fz x := rfl
theorem g_fz_rz (x : zSt) (v : Nat → Nat) : x_fz (u_rz x v) = x_fz x := rfl
theorem g_fz_rh (x : zSt) (v : Nat → Nat → Int32) : x_fz (u_rh x v) = x_fz x := rfl
theorem g_fz_nd (x : zSt) (v : Nat → Int32) : x_fz (u_nd x v) = x_fz x := rfl
theorem g_fz_nm (x : zSt) (v : Nat → Int32) : x_fz (u_nm x v) = x_fz x := rfl
theorem g_fz_nv (x : zSt) (v : Nat → Int32) : x_fz (u_nv x v) = x_fz x := rfl
theorem g_fz_nh (x : zSt) (v : Nat → Int32) : x_fz (u_nh x v) = x_fz x := rfl
theorem g_fz_nf (x : zSt) (v : Nat → Nat → Int32) : x_fz (u_nf x v) = x_fz x := rfl
theorem g_fz_wr (x : zSt) (v : Nat → Nat) : x_fz (u_wr x v) = x_fz x := rfl
theorem g_fz_wa (x : zSt) (v : Nat → Bool) : x_fz (u_wa x v) = x_fz x := rfl
theorem g_fz_lz (x : zSt) (v : Nat → Nat) : x_fz (u_lz x v) = x_fz x := rfl
theorem g_fz_lf (x : zSt) (v : Nat → Nat) : x_fz (u_lf x v) = x_fz x := rfl
theorem g_fz_li (x : zSt) (v : Nat → Nat → Int32) : x_fz (u_li x v) = x_fz x := rfl
theorem g_fz_lt (x : zSt) (v : Nat → Nat → Int64) : x_fz (u_lt x v) = x_fz x := rfl
theorem g_fz_lb (x : zSt) (v : Nat → Nat → Int64) : x_fz (u_lb x v) = x_fz x := rfl
theorem g_fz_lr (x : zSt) (v : Nat → Nat → Option (Nat → Int64)) : x_fz (u_lr x v) = x_fz x := rfl
theorem g_fz_tn (x : zSt) (v : Nat) : x_fz (u_tn x v) = x_fz x := rfl
theorem g_fz_tf (x : zSt) (v : Nat → Nat → Int32) : x_fz (u_tf x v) = x_fz x := rfl
theorem g_fg_dk (x : zSt) (v : Nat) : x_fg (u_dk x v) = x_fg x := rfl
theorem g_fg_lk (x : zSt) (v : Int32) : x_fg (u_lk x v) = x_fg x := rfl
theorem g_fg_po (x : zSt) (v : Int32) : x_fg (u_po x v) = x_fg x := rfl
theorem g_fg_ne (x : zSt) (v : Int32) : x_fg (u_ne x v) = x_fg x := rfl
theorem g_fg_td (x : zSt) (v : Int32) : x_fg (u_td x v) = x_fg x := rfl
theorem g_fg_nb (x : zSt) (v : Nat → Int32) : x_fg (u_nb x v) = x_fg x := rfl
theorem g_fg_ln (x : zSt) (v : Nat → Option Nat) : x_fg (u_ln x v) = x_fg x := rfl
theorem g_fg_nr (x : zSt) (v : Nat) : x_fg (u_nr x v) = x_fg x := rfl
theorem g_fg_nw (x : zSt) (v : Nat) : x_fg (u_nw x v) = x_fg x := rfl
theorem g_fg_nn (x : zSt) (v : Nat) : x_fg (u_nn x v) = x_fg x := rfl
theorem g_fg_ns (x : zSt) (v : Nat) : x_fg (u_ns x v) = x_fg x := rfl
theorem g_fg_or (x : zSt) (v : Nat) : x_fg (u_or x v) = x_fg x := rfl
theorem g_fg_ow (x : zSt) (v : Nat) : x_fg (u_ow x v) = x_fg x := rfl
theorem g_fg_on (x : zSt) (v : Nat) : x_fg (u_on x v) = x_fg x := rfl
theorem g_fg_nl (x : zSt) (v : Nat) : x_fg (u_nl x v) = x_fg x := rfl
theorem g_fg_ng (x : zSt) (v : Nat) : x_fg (u_ng x v) = x_fg x := rfl
theorem g_fg_rg (x : zSt) (v : Nat) : x_fg (u_rg x v) = x_fg x := rfl
theorem g_fg_lc (x : zSt) (v : Nat → Int32) : x_fg (u_lc x v) = x_fg x := rfl
theorem g_fg_cp (x : zSt) (v : Nat → Nat) : x_fg (u_cp x v) = x_fg x := rfl
theorem g_fg_gb (x : zSt) (v : Nat → Nat → Option zAE) : x_fg (u_gb x v) = x_fg x := rfl
theorem g_fg_sp (x : zSt) (v : Nat → Nat) : x_fg (u_sp x v) = x_fg x := rfl
theorem g_fg_kn (x : zSt) (v : Nat → Int64) : x_fg (u_kn x v) = x_fg x := rfl
theorem g_fg_me (x : zSt) (v : Nat → Int64) : x_fg (u_me x v) = x_fg x := rfl
theorem g_fg_ob (x : zSt) (v : Nat → Nat → Int64) : x_fg (u_ob x v) = x_fg x := rfl
theorem g_fg_fk (x : zSt) (v : Nat → Nat → Int32) : x_fg (u_fk x v) = x_fg x := rfl
theorem g_fg_fz (x : zSt) (v : Nat → Nat → Nat) : x_fg (u_fz x v) = x_fg x := rfl
theorem g_fg_fg (x : zSt) (v : Nat → Nat → Nat → Int32) : x_fg (u_fg x v) = v := rfl
theorem g_fg_rd (x : zSt) (v : Nat → Int32) : x_fg (u_rd x v) = x_fg x := rfl
theorem g_fg_rz (x : zSt) (v : Nat → Nat) : x_fg (u_rz x v) = x_fg x := rfl
theorem g_fg_rh (x : zSt) (v : Nat → Nat → Int32) : x_fg (u_rh x v) = x_fg x := rfl
theorem g_fg_nd (x : zSt) (v : Nat → Int32) : x_fg (u_nd x v) = x_fg x := rfl
theorem g_fg_nm (x : zSt) (v : Nat → Int32) : x_fg (u_nm x v) = x_fg x := rfl
theorem g_fg_nv (x : zSt) (v : Nat → Int32) : x_fg (u_nv x v) = x_fg x := rfl
theorem g_fg_nh (x : zSt) (v : Nat → Int32) : x_fg (u_nh x v) = x_fg x := rfl
theorem g_fg_nf (x : zSt) (v : Nat → Nat → Int32) : x_fg (u_nf x v) = x_fg x := rfl
theorem g_fg_wr (x : zSt) (v : Nat → Nat) : x_fg (u_wr x v) = x_fg x := rfl
theorem g_fg_wa (x : zSt) (v : Nat → Bool) : x_fg (u_wa x v) = x_fg x := rfl
theorem g_fg_lz (x : zSt) (v : Nat → Nat) : x_fg (u_lz x v) = x_fg x := rfl
theorem g_fg_lf (x : zSt) (v : Nat → Nat) : x_fg (u_lf x v) = x_fg x := rfl
theorem g_fg_li (x : zSt) (v : Nat → Nat → Int32) : x_fg (u_li x v) = x_fg x := rfl
theorem g_fg_lt (x : zSt) (v : Nat → Nat → Int64) : x_fg (u_lt x v) = x_fg x := rfl
theorem g_fg_lb (x : zSt) (v : Nat → Nat → Int64) : x_fg (u_lb x v) = x_fg x := rfl
theorem g_fg_lr (x : zSt) (v : Nat → Nat → Option (Nat → Int64)) : x_fg (u_lr x v) = x_fg x := rfl
theorem g_fg_tn (x : zSt) (v : Nat) : x_fg (u_tn x v) = x_fg x := rfl
theorem g_fg_tf (x : zSt) (v : Nat → Nat → Int32) : x_fg (u_tf x v) = x_fg x := rfl
theorem g_rd_dk (x : zSt) (v : Nat) : x_rd (u_dk x v) = x_rd x := rfl
theorem g_rd_lk (x : zSt) (v : Int32) : x_rd (u_lk x v) = x_rd x := rfl
theorem g_rd_po (x : zSt) (v : Int32) : x_rd (u_po x v) = x_rd x := rfl
theorem g_rd_ne (x : zSt) (v : Int32) : x_rd (u_ne x v) = x_rd x := rfl
theorem g_rd_td (x : zSt) (v : Int32) : x_rd (u_td x v) = x_rd x := rfl
theorem g_rd_nb (x : zSt) (v : Nat → Int32) : x_rd (u_nb x v) = x_rd x := rfl
theorem g_rd_ln (x : zSt) (v : Nat → Option Nat) : x_rd (u_ln x v) = x_rd x := rfl
theorem g_rd_nr (x : zSt) (v : Nat) : x_rd (u_nr x v) = x_rd x := rfl
theorem g_rd_nw (x : zSt) (v : Nat) : x_rd (u_nw x v) = x_rd x := rfl
theorem g_rd_nn (x : zSt) (v : Nat) : x_rd (u_nn x v) = x_rd x := rfl
theorem g_rd_ns (x : zSt) (v : Nat) : x_rd (u_ns x v) = x_rd x := rfl
theorem g_rd_or (x : zSt) (v : Nat) : x_rd (u_or x v) = x_rd x := rfl
theorem g_rd_ow (x : zSt) (v : Nat) : x_rd (u_ow x v) = x_rd x := rfl
theorem g_rd_on (x : zSt) (v : Nat) : x_rd (u_on x v) = x_rd x := rfl
theorem g_rd_nl (x : zSt) (v : Nat) : x_rd (u_nl x v) = x_rd x := rfl
theorem g_rd_ng (x : zSt) (v : Nat) : x_rd (u_ng x v) = x_rd x := rfl
theorem g_rd_rg (x : zSt) (v : Nat) : x_rd (u_rg x v) = x_rd x := rfl
theorem g_rd_lc (x : zSt) (v : Nat → Int32) : x_rd (u_lc x v) = x_rd x := rfl
theorem g_rd_cp (x : zSt) (v : Nat → Nat) : x_rd (u_cp x v) = x_rd x := rfl
theorem g_rd_gb (x : zSt) (v : Nat → Nat → Option zAE) : x_rd (u_gb x v) = x_rd x := rfl
theorem g_rd_sp (x : zSt) (v : Nat → Nat) : x_rd (u_sp x v) = x_rd x := rfl
theorem g_rd_kn (x : zSt) (v : Nat → Int64) : x_rd (u_kn x v) = x_rd x := rfl
theorem g_rd_me (x : zSt) (v : Nat → Int64) : x_rd (u_me x v) = x_rd x := rfl
theorem g_rd_ob (x : zSt) (v : Nat → Nat → Int64) : x_rd (u_ob x v) = x_rd x := rfl
theorem g_rd_fk (x : zSt) (v : Nat → Nat → Int32) : x_rd (u_fk x v) = x_rd x := rfl
theorem g_rd_fz (x : zSt) (v : Nat → Nat → Nat) : x_rd (u_fz x v) = x_rd x := rfl
theorem g_rd_fg (x : zSt) (v : Nat → Nat → Nat → Int32) : x_rd (u_fg x v) = x_rd x := rfl
theorem g_rd_rd (x : zSt) (v : Nat → Int32) : x_rd (u_rd x v) = v := rfl
theorem g_rd_rz (x : zSt) (v : Nat → Nat) : x_rd (u_rz x v) = x_rd x := rfl
theorem g_rd_rh (x : zSt) (v : Nat → Nat → Int32) : x_rd (u_rh x v) = x_rd x := rfl
theorem g_rd_nd (x : zSt) (v : Nat → Int32) : x_rd (u_nd x v) = x_rd x := rfl
theorem g_rd_nm (x : zSt) (v : Nat → Int32) : x_rd (u_nm x v) = x_rd x := rfl
theorem g_rd_nv (x : zSt) (v : Nat → Int32) : x_rd (u_nv x v) = x_rd x := rfl
theorem g_rd_nh (x : zSt) (v : Nat → Int32) : x_rd (u_nh x v) = x_rd x := rfl
theorem g_rd_nf (x : zSt) (v : Nat → Nat → Int32) : x_rd (u_nf x v) = x_rd x := rfl
theorem g_rd_wr (x : zSt) (v : Nat → Nat) : x_rd (u_wr x v) = x_rd x := rfl
theorem g_rd_wa (x : zSt) (v : Nat → Bool) : x_rd (u_wa x v) = x_rd x := rfl
theorem g_rd_lz (x : zSt) (v : Nat → Nat) : x_rd (u_lz x v) = x_rd x := rfl
theorem g_rd_lf (x : zSt) (v : Nat → Nat) : x_rd (u_lf x v) = x_rd x := rfl
theorem g_rd_li (x : zSt) (v : Nat → Nat → Int32) : x_rd (u_li x v) = x_rd x := rfl
theorem g_rd_lt (x : zSt) (v : Nat → Nat → Int64) : x_rd (u_lt x v) = x_rd x := rfl
theorem g_rd_lb (x : zSt) (v : Nat → Nat → Int64) : x_rd (u_lb x v) = x_rd x := rfl
theorem g_rd_lr (x : zSt) (v : Nat → Nat → Option (Nat → Int64)) : x_rd (u_lr x v) = x_rd x := rfl
theorem g_rd_tn (x : zSt) (v : Nat) : x_rd (u_tn x v) = x_rd x := rfl
theorem g_rd_tf (x : zSt) (v : Nat → Nat → Int32) : x_rd (u_tf x v) = x_rd x := rfl
theorem g_rz_dk (x : zSt) (v : Nat) : x_rz (u_dk x v) = x_rz x := rfl
theorem g_rz_lk (x : zSt) (v : Int32) : x_rz (u_lk x v) = x_rz x := rfl
theorem g_rz_po (x : zSt) (v : Int32) : x_rz (u_po x v) = x_rz x := rfl
theorem g_rz_ne (x : zSt) (v : Int32) : x_rz (u_ne x v) = x_rz x := rfl
theorem g_rz_td (x : zSt) (v : Int32) : x_rz (u_td x v) = x_rz x := rfl
theorem g_rz_nb (x : zSt) (v : Nat → Int32) : x_rz (u_nb x v) = x_rz x := rfl
theorem g_rz_ln (x : zSt) (v : Nat → Option Nat) : x_rz (u_ln x v) = x_rz x := rfl
theorem g_rz_nr (x : zSt) (v : Nat) : x_rz (u_nr x v) = x_rz x := rfl
theorem g_rz_nw (x : zSt) (v : Nat) : x_rz (u_nw x v) = x_rz x := rfl
theorem g_rz_nn (x : zSt) (v : Nat) : x_rz (u_nn x v) = x_rz x := rfl
theorem g_rz_ns (x : zSt) (v : Nat) : x_rz (u_ns x v) = x_rz x := rfl
theorem g_rz_or (x : zSt) (v : Nat) : x_rz (u_or x v) = x_rz x := rfl
theorem g_rz_ow (x : zSt) (v : Nat) : x_rz (u_ow x v) = x_rz x := rfl
theorem g_rz_on (x : zSt) (v : Nat) : x_rz (u_on x v) = x_rz x := rfl
theorem g_rz_nl (x : zSt) (v : Nat) : x_rz (u_nl x v) = x_rz x := rfl
theorem g_rz_ng (x : zSt) (v : Nat) : x_rz (u_ng x v) = x_rz x := rfl
theorem g_rz_rg (x : zSt) (v : Nat) : x_rz (u_rg x v) = x_rz x := rfl
theorem g_rz_lc (x : zSt) (v : Nat → Int32) : x_rz (u_lc x v) = x_rz x := rfl
theorem g_rz_cp (x : zSt) (v : Nat → Nat) : x_rz (u_cp x v) = x_rz x := rfl
theorem g_rz_gb (x : zSt) (v : Nat → Nat → Option zAE) : x_rz (u_gb x v) = x_rz x := rfl
theorem g_rz_sp (x : zSt) (v : Nat → Nat) : x_rz (u_sp x v) = x_rz x := rfl
theorem g_rz_kn (x : zSt) (v : Nat → Int64) : x_rz (u_kn x v) = x_rz x := rfl
theorem g_rz_me (x : zSt) (v : Nat → Int64) : x_rz (u_me x v) = x_rz x := rfl
theorem g_rz_ob (x : zSt) (v : Nat → Nat → Int64) : x_rz (u_ob x v) = x_rz x := rfl
theorem g_rz_fk (x : zSt) (v : Nat → Nat → Int32) : x_rz (u_fk x v) = x_rz x := rfl
theorem g_rz_fz (x : zSt) (v : Nat → Nat → Nat) : x_rz (u_fz x v) = x_rz x := rfl
theorem g_rz_fg (x : zSt) (v : Nat → Nat → Nat → Int32) : x_rz (u_fg x v) = x_rz x := rfl
theorem g_rz_rd (x : zSt) (v : Nat → Int32) : x_rz (u_rd x v) = x_rz x := rfl
theorem g_rz_rz (x : zSt) (v : Nat → Nat) : x_rz (u_rz x v) = v := rfl
theorem g_rz_rh (x : zSt) (v : Nat → Nat → Int32) : x_rz (u_rh x v) = x_rz x := rfl
theorem g_rz_nd (x : zSt) (v : Nat → Int32) : x_rz (u_nd x v) = x_rz x := rfl
theorem g_rz_nm (x : zSt) (v : Nat → Int32) : x_rz (u_nm x v) = x_rz x := rfl
theorem g_rz_nv (x : zSt) (v : Nat → Int32) : x_rz (u_nv x v) = x_rz x := rfl
theorem g_rz_nh (x : zSt) (v : Nat → Int32) : x_rz (u_nh x v) = x_rz x := rfl
theorem g_rz_nf (x : zSt) (v : Nat → Nat → Int32) : x_rz (u_nf x v) = x_rz x := rfl
theorem g_rz_wr (x : zSt) (v : Nat → Nat) : x_rz (u_wr x v) = x_rz x := rfl
theorem g_rz_wa (x : zSt) (v : Nat → Bool) : x_rz (u_wa x v) = x_rz x := rfl
theorem g_rz_lz (x : zSt) (v : Nat → Nat) : x_rz (u_lz x v) = x_rz x := rfl
theorem g_rz_lf (x : zSt) (v : Nat → Nat) : x_rz (u_lf x v) = x_rz x := rfl
theorem g_rz_li (x : zSt) (v : Nat → Nat → Int32) : x_rz (u_li x v) = x_rz x := rfl
theorem g_rz_lt (x : zSt) (v : Nat → Nat → Int64) : x_rz (u_lt x v) = x_rz x := rfl
theorem g_rz_lb (x : zSt) (v : Nat → Nat → Int64) : x_rz (u_lb x v) = x_rz x := rfl
theorem g_rz_lr (x : zSt) (v : Nat → Nat → Option (Nat → Int64)) : x_rz (u_lr x v) = x_rz x := rfl
theorem g_rz_tn (x : zSt) (v : Nat) : x_rz (u_tn x v) = x_rz x := rfl
theorem g_rz_tf (x : zSt) (v : Nat → Nat → Int32) : x_rz (u_tf x v) = x_rz x := rfl
theorem g_rh_dk (x : zSt) (v : Nat) : x_rh (u_dk x v) = x_rh x := rfl
theorem g_rh_lk (x : zSt) (v : Int32) : x_rh (u_lk x v) = x_rh x := rfl
theorem g_rh_po (x : zSt) (v : Int32) : x_rh (u_po x v) = x_rh x := rfl
theorem g_rh_ne (x : zSt) (v : Int32) : x_rh (u_ne x v) = x_rh x := rfl
theorem g_rh_td (x : zSt) (v : Int32) : x_rh (u_td x v) = x_rh x := rfl
theorem g_rh_nb (x : zSt) (v : Nat → Int32) : x_rh (u_nb x v) = x_rh x := rfl
theorem g_rh_ln (x : zSt) (v : Nat → Option Nat) : x_rh (u_ln x v) = x_rh x := rfl
theorem g_rh_nr (x : zSt) (v : Nat) : x_rh (u_nr x v) = x_rh x := rfl
theorem g_rh_nw (x : zSt) (v : Nat) : x_rh (u_nw x v) = x_rh x := rfl
theorem g_rh_nn (x : zSt) (v : Nat) : x_rh (u_nn x v) = x_rh x := rfl
theorem g_rh_ns (x : zSt) (v : Nat) : x_rh (u_ns x v) = x_rh x := rfl
theorem g_rh_or (x : zSt) (v : Nat) : x_rh (u_or x v) = x_rh x := rfl
theorem g_rh_ow (x : zSt) (v : Nat) : x_rh (u_ow x v) = x_rh x := rfl
theorem g_rh_on (x : zSt) (v : Nat) : x_rh (u_on x v) = x_rh x := rfl
theorem g_rh_nl (x : zSt) (v : Nat) : x_rh (u_nl x v) = x_rh x := rfl
theorem g_rh_ng (x : zSt) (v : Nat) : x_rh (u_ng x v) = x_rh x := rfl
theorem g_rh_rg (x : zSt) (v : Nat) : x_rh (u_rg x v) = x_rh x := rfl
theorem g_rh_lc (x : zSt) (v : Nat → Int32) : x_rh (u_lc x v) = x_rh x := rfl
theorem g_rh_cp (x : zSt) (v : Nat → Nat) : x_rh (u_cp x v) = x_rh x := rfl
theorem g_rh_gb (x : zSt) (v : Nat → Nat → Option zAE) : x_rh (u_gb x v) = x_rh x := rfl
theorem g_rh_sp (x : zSt) (v : Nat → Nat) : x_rh (u_sp x v) = x_rh x := rfl
theorem g_rh_kn (x : zSt) (v : Nat → Int64) : x_rh (u_kn x v) = x_rh x := rfl
theorem g_rh_me (x : zSt) (v : Nat → Int64) : x_rh (u_me x v) = x_rh x := rfl
theorem g_rh_ob (x : zSt) (v : Nat → Nat → Int64) : x_rh (u_ob x v) = x_rh x := rfl
theorem g_rh_fk (x : zSt) (v : Nat → Nat → Int32) : x_rh (u_fk x v) = x_rh x := rfl
theorem g_rh_fz (x : zSt) (v : Nat → Nat → Nat) : x_rh (u_fz x v) = x_rh x := rfl
theorem g_rh_fg (x : zSt) (v : Nat → Nat → Nat → Int32) : x_rh (u_fg x v) = x_rh x := rfl
theorem g_rh_rd (x : zSt) (v : Nat → Int32) : x_rh (u_rd x v) = x_rh x := rfl
theorem g_rh_rz (x : zSt) (v : Nat → Nat) : x_rh (u_rz x v) = x_rh x := rfl
theorem g_rh_rh (x : zSt) (v : Nat → Nat → Int32) : x_rh (u_rh x v) = v := rfl
theorem g_rh_nd (x : zSt) (v : Nat → Int32) : x_rh (u_nd x v) = x_rh x := rfl
theorem g_rh_nm (x : zSt) (v : Nat → Int32) : x_rh (u_nm x v) = x_rh x := rfl
theorem g_rh_nv (x : zSt) (v : Nat → Int32) : x_rh (u_nv x v) = x_rh x := rfl
theorem g_rh_nh (x : zSt) (v : Nat → Int32) : x_rh (u_nh x v) = x_rh x := rfl
theorem g_rh_nf (x : zSt) (v : Nat → Nat → Int32) : x_rh (u_nf x v) = x_rh x := rfl
theorem g_rh_wr (x : zSt) (v : Nat → Nat) : x_rh (u_wr x v) = x_rh x := rfl
theorem g_rh_wa (x : zSt) (v : Nat → Bool) : x_rh (u_wa x v) = x_rh x := rfl
theorem g_rh_lz (x : zSt) (v : Nat → Nat) : x_rh (u_lz x v) = x_rh x := rfl
theorem g_rh_lf (x : zSt) (v : Nat → Nat) : x_rh (u_lf x v) = x_rh x := rfl
theorem g_rh_li (x : zSt) (v : Nat → Nat → Int32) : x_rh (u_li x v) = x_rh x := rfl
theorem g_rh_lt (x : zSt) (v : Nat → Nat → Int64) : x_rh (u_lt x v) = x_rh x := rfl
theorem g_rh_lb (x : zSt) (v : Nat → Nat → Int64) : x_rh (u_lb x v) = x_rh x := rfl
theorem g_rh_lr (x : zSt) (v : Nat → Nat → Option (Nat → Int64)) : x_rh (u_lr x v) = x_rh x := rfl
theorem g_rh_tn (x : zSt) (v : Nat) : x_rh (u_tn x v) = x_rh x := rfl
theorem g_rh_tf (x : zSt) (v : Nat → Nat → Int32) : x_rh (u_tf x v) = x_rh x := rfl
theorem g_nd_dk (x : zSt) (v : Nat) : x_nd (u_dk x v) = x_nd x := rfl
theorem g_nd_lk (x : zSt) (v : Int32) : x_nd (u_lk x v) = x_nd x := rfl
theorem g_nd_po (x : zSt) (v : Int32) : x_nd (u_po x v) = x_nd x := rfl
theorem g_nd_ne (x : zSt) (v : Int32) : x_nd (u_ne x v) = x_nd x := rfl
theorem g_nd_td (x : zSt) (v : Int32) : x_nd (u_td x v) = x_nd x := rfl
theorem g_nd_nb (x : zSt) (v : Nat → Int32) : x_nd (u_nb x v) = x_nd x := rfl
theorem g_nd_ln (x : zSt) (v : Nat → Option Nat) : x_nd (u_ln x v) = x_nd x := rfl
theorem g_nd_nr (x : zSt) (v : Nat) : x_nd (u_nr x v) = x_nd x := rfl
theorem g_nd_nw (x : zSt) (v : Nat) : x_nd (u_nw x v) = x_nd x := rfl
theorem g_nd_nn (x : zSt) (v : Nat) : x_nd (u_nn x v) = x_nd x := rfl
theorem g_nd_ns (x : zSt) (v : Nat) : x_nd (u_ns x v) = x_nd x := rfl
theorem g_nd_or (x : zSt) (v : Nat) : x_nd (u_or x v) = x_nd x := rfl
theorem g_nd_ow (x : zSt) (v : Nat) : x_nd (u_ow x v) = x_nd x := rfl
theorem g_nd_on (x : zSt) (v : Nat) : x_nd (u_on x v) = x_nd x := rfl
theorem g_nd_nl (x : zSt) (v : Nat) : x_nd (u_nl x v) = x_nd x := rfl
theorem g_nd_ng (x : zSt) (v : Nat) : x_nd (u_ng x v) = x_nd x := rfl
theorem g_nd_rg (x : zSt) (v : Nat) : x_nd (u_rg x v) = x_nd x := rfl
theorem g_nd_lc (x : zSt) (v : Nat → Int32) : x_nd (u_lc x v) = x_nd x := rfl
theorem g_nd_cp (x : zSt) (v : Nat → Nat) : x_nd (u_cp x v) = x_nd x := rfl
theorem g_nd_gb (x : zSt) (v : Nat → Nat → Option zAE) : x_nd (u_gb x v) = x_nd x := rfl
theorem g_nd_sp (x : zSt) (v : Nat → Nat) : x_nd (u_sp x v) = x_nd x := rfl
theorem g_nd_kn (x : zSt) (v : Nat → Int64) : x_nd (u_kn x v) = x_nd x := rfl
theorem g_nd_me (x : zSt) (v : Nat → Int64) : x_nd (u_me x v) = x_nd x := rfl
theorem g_nd_ob (x : zSt) (v : Nat → Nat → Int64) : x_nd (u_ob x v) = x_nd x := rfl
theorem g_nd_fk (x : zSt) (v : Nat → Nat → Int32) : x_nd (u_fk x v) = x_nd x := rfl
theorem g_nd_fz (x : zSt) (v : Nat → Nat → Nat) : x_nd (u_fz x v) = x_nd x := rfl
theorem g_nd_fg (x : zSt) (v : Nat → Nat → Nat → Int32) : x_nd (u_fg x v) = x_nd x := rfl
theorem g_nd_rd (x : zSt) (v : Nat → Int32) : x_nd (u_rd x v) = x_nd x := rfl
theorem g_nd_rz (x : zSt) (v : Nat → Nat) : x_nd (u_rz x v) = x_nd x := rfl
theorem g_nd_rh (x : zSt) (v : Nat → Nat → Int32) : x_nd (u_rh x v) = x_nd x := rfl
theorem g_nd_nd (x : zSt) (v : Nat → Int32) : x_nd (u_nd x v) = v := rfl
theorem g_nd_nm (x : zSt) (v : Nat → Int32) : x_nd (u_nm x v) = x_nd x := rfl
theorem g_nd_nv (x : zSt) (v : Nat → Int32) : x_nd (u_nv x v) = x_nd x := rfl
theorem g_nd_nh (x : zSt) (v : Nat → Int32) : x_nd (u_nh x v) = x_nd x := rfl
theorem g_nd_nf (x : zSt) (v : Nat → Nat → Int32) : x_nd (u_nf x v) = x_nd x := rfl
theorem g_nd_wr (x : zSt) (v : Nat → Nat) : x_nd (u_wr x v) = x_nd x := rfl
theorem g_nd_wa (x : zSt) (v : Nat → Bool) : x_nd (u_wa x v) = x_nd x := rfl
theorem g_nd_lz (x : zSt) (v : Nat → Nat) : x_nd (u_lz x v) = x_nd x := rfl
theorem g_nd_lf (x : zSt) (v : Nat → Nat) : x_nd (u_lf x v) = x_nd x := rfl
theorem g_nd_li (x : zSt) (v : Nat → Nat → Int32) : x_nd (u_li x v) = x_nd x := rfl
theorem g_nd_lt (x : zSt) (v : Nat → Nat → Int64) : x_nd (u_lt x v) = x_nd x := rfl
theorem g_nd_lb (x : zSt) (v : Nat → Nat → Int64) : x_nd (u_lb x v) = x_nd x := rfl
theorem g_nd_lr (x : zSt) (v : Nat → Nat → Option (Nat → Int64)) : x_nd (u_lr x v) = x_nd x := rfl
theorem g_nd_tn (x : zSt) (v : Nat) : x_nd (u_tn x v) = x_nd x := rfl
theorem g_nd_tf (x : zSt) (v : Nat → Nat → Int32) : x_nd (u_tf x v) = x_nd x := rfl
theorem g_nm_dk (x : zSt) (v : Nat) : x_nm (u_dk x v) = x_nm x := rfl
theorem g_nm_lk (x : zSt) (v : Int32) : x_nm (u_lk x v) = x_nm x := rfl
theorem g_nm_po (x : zSt) (v : Int32) : x_nm (u_po x v) = x_nm x := rfl
theorem g_nm_ne (x : zSt) (v : Int32) : x_nm (u_ne x v) = x_nm x := rfl
theorem g_nm_td (x : zSt) (v : Int32) : x_nm (u_td x v) = x_nm x := rfl
theorem g_nm_nb (x : zSt) (v : Nat → Int32) : x_nm (u_nb x v) = x_nm x := rfl
theorem g_nm_ln (x : zSt) (v : Nat → Option Nat) : x_nm (u_ln x v) = x_nm x := rfl
theorem g_nm_nr (x : zSt) (v : Nat) : x_nm (u_nr x v) = x_nm x := rfl
theorem g_nm_nw (x : zSt) (v : Nat) : x_nm (u_nw x v) = x_nm x := rfl
theorem g_nm_nn (x : zSt) (v : Nat) : x_nm (u_nn x v) = x_nm x := rfl
theorem g_nm_ns (x : zSt) (v : Nat) : x_nm (u_ns x v) = x_nm x := rfl
theorem g_nm_or (x : zSt) (v : Nat) : x_nm (u_or x v) = x_nm x := rfl
theorem g_nm_ow (x : zSt) (v : Nat) : x_nm (u_ow x v) = x_nm x := rfl
theorem g_nm_on (x : zSt) (v : Nat) : x_nm (u_on x v) = x_nm x := rfl
theorem g_nm_nl (x : zSt) (v : Nat) : x_nm (u_nl x v) = x_nm x := rfl
theorem g_nm_ng (x : zSt) (v : Nat) : x_nm (u_ng x v) = x_nm x := rfl
theorem g_nm_rg (x : zSt) (v : Nat) : x_nm (u_rg x v) = x_nm x := rfl
theorem g_nm_lc (x : zSt) (v : Nat → Int32) : x_nm (u_lc x v) = x_nm x := rfl
theorem g_nm_cp (x : zSt) (v : Nat → Nat) : x_nm (u_cp x v) = x_nm x := rfl
theorem g_nm_gb (x : zSt) (v : Nat → Nat → Option zAE) : x_nm (u_gb x v) = x_nm x := rfl
theorem g_nm_sp (x : zSt) (v : Nat → Nat) : x_nm (u_sp x v) = x_nm x := rfl
theorem g_nm_kn (x : zSt) (v : Nat → Int64) : x_nm (u_kn x v) = x_nm x := rfl
theorem g_nm_me (x : zSt) (v : Nat → Int64) : x_nm (u_me x v) = x_nm x := rfl
theorem g_nm_ob (x : zSt) (v : Nat → Nat → Int64) : x_nm (u_ob x v) = x_nm x := rfl
theorem g_nm_fk (x : zSt) (v : Nat → Nat → Int32) : x_nm (u_fk x v) = x_nm x := rfl
theorem g_nm_fz (x : zSt) (v : Nat → Nat → Nat) : x_nm (u_fz x v) = x_nm x := rfl
theorem g_nm_fg (x : zSt) (v : Nat → Nat → Nat → Int32) : x_nm (u_fg x v) = x_nm x := rfl
theorem g_nm_rd (x : zSt) (v : Nat → Int32) : x_nm (u_rd x v) = x_nm x := rfl
theorem g_nm_rz (x : zSt) (v : Nat → Nat) : x_nm (u_rz x v) = x_nm x := rfl
theorem g_nm_rh (x : zSt) (v : Nat → Nat → Int32) : x_nm (u_rh x v) = x_nm x := rfl
theorem g_nm_nd (x : zSt) (v : Nat → Int32) : x_nm (u_nd x v) = x_nm x := rfl
theorem g_nm_nm (x : zSt) (v : Nat → Int32) : x_nm (u_nm x v) = v := rfl
theorem g_nm_nv (x : zSt) (v : Nat → Int32) : x_nm (u_nv x v) = x_nm x := rfl
theorem g_nm_nh (x : zSt) (v : Nat → Int32) : x_nm (u_nh x v) = x_nm x := rfl
theorem g_nm_nf (x : zSt) (v : Nat → Nat → Int32) : x_nm (u_nf x v) = x_nm x := rfl
theorem g_nm_wr (x : zSt) (v : Nat → Nat) : x_nm (u_wr x v) = x_nm x := rfl
theorem g_nm_wa (x : zSt) (v : Nat → Bool) : x_nm (u_wa x v) = x_nm x := rfl
theorem g_nm_lz (x : zSt) (v : Nat → Nat) : x_nm (u_lz x v) = x_nm x := rfl
theorem g_nm_lf (x : zSt) (v : Nat → Nat) : x_nm (u_lf x v) = x_nm x := rfl
theorem g_nm_li (x : zSt) (v : Nat → Nat → Int32) : x_nm (u_li x v) = x_nm x := rfl
theorem g_nm_lt (x : zSt) (v : Nat → Nat → Int64) : x_nm (u_lt x v) = x_nm x := rfl
theorem g_nm_lb (x : zSt) (v : Nat → Nat → Int64) : x_nm (u_lb x v) = x_nm x := rfl
theorem g_nm_lr (x : zSt) (v : Nat → Nat → Option (Nat → Int64)) : x_nm (u_lr x v) = x_nm x := rfl
theorem g_nm_tn (x : zSt) (v : Nat) : x_nm (u_tn x v) = x_nm x := rfl
theorem g_nm_tf (x : zSt) (v : Nat → Nat → Int32) : x_nm (u_tf x v) = x_nm x := rfl
theorem g_nv_dk (x : zSt) (v : Nat) : x_nv (u_dk x v) = x_nv x := rfl
theorem g_nv_lk (x : zSt) (v : Int32) : x_nv (u_lk x v) = x_nv x := rfl
theorem g_nv_po (x : zSt) (v : Int32) : x_nv (u_po x v) = x_nv x := rfl
theorem g_nv_ne (x : zSt) (v : Int32) : x_nv (u_ne x v) = x_nv x := rfl
theorem g_nv_td (x : zSt) (v : Int32) : x_nv (u_td x v) = x_nv x := rfl
theorem g_nv_nb (x : zSt) (v : Nat → Int32) : x_nv (u_nb x v) = x_nv x := rfl
theorem g_nv_ln (x : zSt) (v : Nat → Option Nat) : x_nv (u_ln x v) = x_nv x := rfl
theorem g_nv_nr (x : zSt) (v : Nat) : x_nv (u_nr x v) = x_nv x := rfl
theorem g_nv_nw (x : zSt) (v : Nat) : x_nv (u_nw x v) = x_nv x := rfl
theorem g_nv_nn (x : zSt) (v : Nat) : x_nv (u_nn x v) = x_nv x := rfl
theorem g_nv_ns (x : zSt) (v : Nat) : x_nv (u_ns x v) = x_nv x := rfl
theorem g_nv_or (x : zSt) (v : Nat) : x_nv (u_or x v) = x_nv x := rfl
theorem g_nv_ow (x : zSt) (v : Nat) : x_nv (u_ow x v) = x_nv x := rfl
theorem g_nv_on (x : zSt) (v : Nat) : x_nv (u_on x v) = x_nv x := rfl
theorem g_nv_nl (x : zSt) (v : Nat) : x_nv (u_nl x v) = x_nv x := rfl
theorem g_nv_ng (x : zSt) (v : Nat) : x_nv (u_ng x v) = x_nv x := rfl
theorem g_nv_rg (x : zSt) (v : Nat) : x_nv (u_rg x v) = x_nv x := rfl
theorem g_nv_lc (x : zSt) (v : Nat → Int32) : x_nv (u_lc x v) = x_nv x := rfl
theorem g_nv_cp (x : zSt) (v : Nat → Nat) : x_nv (u_cp x v) = x_nv x := rfl
theorem g_nv_gb (x : zSt) (v : Nat → Nat → Option zAE) : x_nv (u_gb x v) = x_nv x := rfl
theorem g_nv_sp (x : zSt) (v : Nat → Nat) : x_nv (u_sp x v) = x_nv x := rfl
theorem g_nv_kn (x : zSt) (v : Nat → Int64) : x_nv (u_kn x v) = x_nv x := rfl
theorem g_nv_me (x : zSt) (v : Nat → Int64) : x_nv (u_me x v) = x_nv x := rfl
theorem g_nv_ob (x : zSt) (v : Nat → Nat → Int64) : x_nv (u_ob x v) = x_nv x := rfl
theorem g_nv_fk (x : zSt) (v : Nat → Nat → Int32) : x_nv (u_fk x v) = x_nv x := rfl
theorem g_nv_fz (x : zSt) (v : Nat → Nat → Nat) : x_nv (u_fz x v) = x_nv x := rfl
theorem g_nv_fg (x : zSt) (v : Nat → Nat → Nat → Int32) : x_nv (u_fg x v) = x_nv x := rfl
theorem g_nv_rd (x : zSt) (v : Nat → Int32) : x_nv (u_rd x v) = x_nv x := rfl
theorem g_nv_rz (x : zSt) (v : Nat → Nat) : x_nv (u_rz x v) = x_nv x := rfl
theorem g_nv_rh (x : zSt) (v : Nat → Nat → Int32) : x_nv (u_rh x v) = x_nv x := rfl
theorem g_nv_nd (x : zSt) (v : Nat → Int32) : x_nv (u_nd x v) = x_nv x := rfl
theorem g_nv_nm (x : zSt) (v : Nat → Int32) : x_nv (u_nm x v) = x_nv x := rfl
theorem g_nv_nv (x : zSt) (v : Nat → Int32) : x_nv (u_nv x v) = v := rfl
theorem g_nv_nh (x : zSt) (v : Nat → Int32) : x_nv (u_nh x v) = x_nv x := rfl
theorem g_nv_nf (x : zSt) (v : Nat → Nat → Int32) : x_nv (u_nf x v) = x_nv x := rfl
theorem g_nv_wr (x : zSt) (v : Nat → Nat) : x_nv (u_wr x v) = x_nv x := rfl
theorem g_nv_wa (x : zSt) (v : Nat → Bool) : x_nv (u_wa x v) = x_nv x := rfl
theorem g_nv_lz (x : zSt) (v : Nat → Nat) : x_nv (u_lz x v) = x_nv x := rfl
theorem g_nv_lf (x : zSt) (v : Nat → Nat) : x_nv (u_lf x v) = x_nv x := rfl
theorem g_nv_li (x : zSt) (v : Nat → Nat → Int32) : x_nv (u_li x v) = x_nv x := rfl
theorem g_nv_lt (x : zSt) (v : Nat → Nat → Int64) : x_nv (u_lt x v) = x_nv x := rfl
theorem g_nv_lb (x : zSt) (v : Nat → Nat → Int64) : x_nv (u_lb x v) = x_nv x := rfl
theorem g_nv_lr (x : zSt) (v : Nat → Nat → Option (Nat → Int64)) : x_nv (u_lr x v) = x_nv x := rfl
theorem g_nv_tn (x : zSt) (v : Nat) : x_nv (u_tn x v) = x_nv x := rfl
theorem g_nv_tf (x : zSt) (v : Nat → Nat → Int32) : x_nv (u_tf x v) = x_nv x := rfl
theorem g_nh_dk (x : zSt) (v : Nat) : x_nh (u_dk x v) = x_nh x := rfl
theorem g_nh_lk (x : zSt) (v : Int32) : x_nh (u_lk x v) = x_nh x := rfl
theorem g_nh_po (x : zSt) (v : Int32) : x_nh (u_po x v) = x_nh x := rfl
theorem g_nh_ne (x : zSt) (v : Int32) : x_nh (u_ne x v) = x_nh x := rfl
theorem g_nh_td (x : zSt) (v : Int32) : x_nh (u_td x v) = x_nh x := rfl
theorem g_nh_nb (x : zSt) (v : Nat → Int32) : x_nh (u_nb x v) = x_nh x := rfl
theorem g_nh_ln (x : zSt) (v : Nat → Option Nat) : x_nh (u_ln x v) = x_nh x := rfl
theorem g_nh_nr (x : zSt) (v : Nat) : x_nh (u_nr x v) = x_nh x := rfl
theorem g_nh_nw (x : zSt) (v : Nat) : x_nh (u_nw x v) = x_nh x := rfl
theorem g_nh_nn (x : zSt) (v : Nat) : x_nh (u_nn x v) = x_nh x := rfl
theorem g_nh_ns (x : zSt) (v : Nat) : x_nh (u_ns x v) = x_nh x := rfl
theorem g_nh_or (x : zSt) (v : Nat) : x_nh (u_or x v) = x_nh x := rfl
theorem g_nh_ow (x : zSt) (v : Nat) : x_nh (u_ow x v) = x_nh x := rfl
theorem g_nh_on (x : zSt) (v : Nat) : x_nh (u_on x v) = x_nh x := rfl
theorem g_nh_nl (x : zSt) (v : Nat) : x_nh (u_nl x v) = x_nh x := rfl
theorem g_nh_ng (x : zSt) (v : Nat) : x_nh (u_ng x v) = x_nh x := rfl
theorem g_nh_rg (x : zSt) (v : Nat) : x_nh (u_rg x v) = x_nh x := rfl
theorem g_nh_lc (x : zSt) (v : Nat → Int32) : x_nh (u_lc x v) = x_nh x := rfl
theorem g_nh_cp (x : zSt) (v : Nat → Nat) : x_nh (u_cp x v) = x_nh x := rfl
theorem g_nh_gb (x : zSt) (v : Nat → Nat → Option zAE) : x_nh (u_gb x v) = x_nh x := rfl
theorem g_nh_sp (x : zSt) (v : Nat → Nat) : x_nh (u_sp x v) = x_nh x := rfl
theorem g_nh_kn (x : zSt) (v : Nat → Int64) : x_nh (u_kn x v) = x_nh x := rfl
theorem g_nh_me (x : zSt) (v : Nat → Int64) : x_nh (u_me x v) = x_nh x := rfl
theorem g_nh_ob (x : zSt) (v : Nat → Nat → Int64) : x_nh (u_ob x v) = x_nh x := rfl
theorem g_nh_fk (x : zSt) (v : Nat → Nat → Int32) : x_nh (u_fk x v) = x_nh x := rfl
theorem g_nh_fz (x : zSt) (v : Nat → Nat → Nat) : x_nh (u_fz x v) = x_nh x := rfl
theorem g_nh_fg (x : zSt) (v : Nat → Nat → Nat → Int32) : x_nh (u_fg x v) = x_nh x := rfl
theorem g_nh_rd (x : zSt) (v : Nat → Int32) : x_nh (u_rd x v) = x_nh x := rfl
theorem g_nh_rz (x : zSt) (v : Nat → Nat) : x_nh (u_rz x v) = x_nh x := rfl
theorem g_nh_rh (x : zSt) (v : Nat → Nat → Int32) : x_nh (u_rh x v) = x_nh x := rfl
theorem g_nh_nd (x : zSt) (v : Nat → Int32) : x_nh (u_nd x v) = x_nh x := rfl
theorem g_nh_nm (x : zSt) (v : Nat → Int32) : x_nh (u_nm x v) = x_nh x := rfl
theorem g_nh_nv (x : zSt) (v : Nat → Int32) : x_nh (u_nv x v) = x_nh x := rfl
theorem g_nh_nh (x : zSt) (v : Nat → Int32) : x_nh (u_nh x v) = v := rfl
theorem g_nh_nf (x : zSt) (v : Nat → Nat → Int32) : x_nh (u_nf x v) = x_nh x := rfl
theorem g_nh_wr (x : zSt) (v : Nat → Nat) : x_nh (u_wr x v) = x_nh x := rfl
theorem g_nh_wa (x : zSt) (v : Nat → Bool) : x_nh (u_wa x v) = x_nh x := rfl
theorem g_nh_lz (x : zSt) (v : Nat → Nat) : x_nh (u_lz x v) = x_nh x := rfl
theorem g_nh_lf (x : zSt) (v : Nat → Nat) : x_nh (u_lf x v) = x_nh x := rfl
theorem g_nh_li (x : zSt) (v : Nat → Nat → Int32) : x_nh (u_li x v) = x_nh x := rfl
theorem g_nh_lt (x : zSt) (v : Nat → Nat → Int64) : x_nh (u_lt x v) = x_nh x := rfl
theorem g_nh_lb (x : zSt) (v : Nat → Nat → Int64) : x_nh (u_lb x v) = x_nh x := rfl
theorem g_nh_lr (x : zSt) (v : Nat → Nat → Option (Nat → Int64)) : x_nh (u_lr x v) = x_nh x := rfl
theorem g_nh_tn (x : zSt) (v : Nat) : x_nh (u_tn x v) = x_nh x := rfl
theorem g_nh_tf (x : zSt) (v : Nat → Nat → Int32) : x_nh (u_tf x v) = x_nh x := rfl
theorem g_nf_dk (x : zSt) (v : Nat) : x_nf (u_dk x v) = x_nf x := rfl
theorem g_nf_lk (x : zSt) (v : Int32) : x_nf (u_lk x v) = x_nf x := rfl
theorem g_nf_po (x : zSt) (v : Int32) : x_nf (u_po x v) = x_nf x := rfl
theorem g_nf_ne (x : zSt) (v : Int32) : x_nf (u_ne x v) = x_nf x := rfl
theorem g_nf_td (x : zSt) (v : Int32) : x_nf (u_td x v) = x_nf x := rfl
theorem g_nf_nb (x : zSt) (v : Nat → Int32) : x_nf (u_nb x v) = x_nf x := rfl
theorem g_nf_ln (x : zSt) (v : Nat → Option Nat) : x_nf (u_ln x v) = x_nf x := rfl
theorem g_nf_nr (x : zSt) (v : Nat) : x_nf (u_nr x v) = x_nf x := rfl
theorem g_nf_nw (x : zSt) (v : Nat) : x_nf (u_nw x v) = x_nf x := rfl
theorem g_nf_nn (x : zSt) (v : Nat) : x_nf (u_nn x v) = x_nf x := rfl
theorem g_nf_ns (x : zSt) (v : Nat) : x_nf (u_ns x v) = x_nf x := rfl
theorem g_nf_or (x : zSt) (v : Nat) : x_nf (u_or x v) = x_nf x := rfl
theorem g_nf_ow (x : zSt) (v : Nat) : x_nf (u_ow x v) = x_nf x := rfl
theorem g_nf_on (x : zSt) (v : Nat) : x_nf (u_on x v) = x_nf x := rfl
theorem g_nf_nl (x : zSt) (v : Nat) : x_nf (u_nl x v) = x_nf x := rfl
theorem g_nf_ng (x : zSt) (v : Nat) : x_nf (u_ng x v) = x_nf x := rfl
theorem g_nf_rg (x : zSt) (v : Nat) : x_nf (u_rg x v) = x_nf x := rfl
theorem g_nf_lc (x : zSt) (v : Nat → Int32) : x_nf (u_lc x v) = x_nf x := rfl
theorem g_nf_cp (x : zSt) (v : Nat → Nat) : x_nf (u_cp x v) = x_nf x := rfl
theorem g_nf_gb (x : zSt) (v : Nat → Nat → Option zAE) : x_nf (u_gb x v) = x_nf x := rfl
theorem g_nf_sp (x : zSt) (v : Nat → Nat) : x_nf (u_sp x v) = x_nf x := rfl
theorem g_nf_kn (x : zSt) (v : Nat → Int64) : x_nf (u_kn x v) = x_nf x := rfl
theorem g_nf_me (x : zSt) (v : Nat → Int64) : x_nf (u_me x v) = x_nf x := rfl
theorem g_nf_ob (x : zSt) (v : Nat → Nat → Int64) : x_nf (u_ob x v) = x_nf x := rfl
theorem g_nf_fk (x : zSt) (v : Nat → Nat → Int32) : x_nf (u_fk x v) = x_nf x := rfl
theorem g_nf_fz (x : zSt) (v : Nat → Nat → Nat) : x_nf (u_fz x v) = x_nf x := rfl
theorem g_nf_fg (x : zSt) (v : Nat → Nat → Nat → Int32) : x_nf (u_fg x v) = x_nf x := rfl
theorem g_nf_rd (x : zSt) (v : Nat → Int32) : x_nf (u_rd x v) = x_nf x := rfl
theorem g_nf_rz (x : zSt) (v : Nat → Nat) : x_nf (u_rz x v) = x_nf x := rfl
theorem g_nf_rh (x : zSt) (v : Nat → Nat → Int32) : x_nf (u_rh x v) = x_nf x := rfl
theorem g_nf_nd (x : zSt) (v : Nat → Int32) : x_nf (u_nd x v) = x_nf x := rfl
theorem g_nf_nm (x : zSt) (v : Nat → Int32) : x_nf (u_nm x v) = x_nf x := rfl
theorem g_nf_nv (x : zSt) (v : Nat → Int32) : x_nf (u_nv x v) = x_nf x := rfl
theorem g_nf_nh (x : zSt) (v : Nat → Int32) : x_nf (u_nh x v) = x_nf x := rfl
theorem g_nf_nf (x : zSt) (v : Nat → Nat → Int32) : x_nf (u_nf x v) = v := rfl
theorem g_nf_wr (x : zSt) (v : Nat → Nat) : x_nf (u_wr x v) = x_nf x := rfl
theorem g_nf_wa (x : zSt) (v : Nat → Bool) : x_nf (u_wa x v) = x_nf x := rfl
theorem g_nf_lz (x : zSt) (v : Nat → Nat) : x_nf (u_lz x v) = x_nf x := rfl
theorem g_nf_lf (x : zSt) (v : Nat → Nat) : x_nf (u_lf x v) = x_nf x := rfl
theorem g_nf_li (x : zSt) (v : Nat → Nat → Int32) : x_nf (u_li x v) = x_nf x := rfl
theorem g_nf_lt (x : zSt) (v : Nat → Nat → Int64) : x_nf (u_lt x v) = x_nf x := rfl
theorem g_nf_lb (x : zSt) (v : Nat → Nat → Int64) : x_nf (u_lb x v) = x_nf x := rfl
theorem g_nf_lr (x : zSt) (v : Nat → Nat → Option (Nat → Int64)) : x_nf (u_lr x v) = x_nf x := rfl
theorem g_nf_tn (x : zSt) (v : Nat) : x_nf (u_tn x v) = x_nf x := rfl
theorem g_nf_tf (x : zSt) (v : Nat → Nat → Int32) : x_nf (u_tf x v) = x_nf x := rfl
theorem g_wr_dk (x : zSt) (v : Nat) : x_wr (u_dk x v) = x_wr x := rfl
theorem g_wr_lk (x : zSt) (v : Int32) : x_wr (u_lk x v) = x_wr x := rfl
theorem g_wr_po (x : zSt) (v : Int32) : x_wr (u_po x v) = x_wr x := rfl
theorem g_wr_ne (x : zSt) (v : Int32) : x_wr (u_ne x v) = x_wr x := rfl
theorem g_wr_td (x : zSt) (v : Int32) : x_wr (u_td x v) = x_wr x := rfl
theorem g_wr_nb (x : zSt) (v : Nat → Int32) : x_wr (u_nb x v) = x_wr x := rfl
theorem g_wr_ln (x : zSt) (v : Nat → Option Nat) : x_wr (u_ln x v) = x_wr x := rfl
theorem g_wr_nr (x : zSt) (v : Nat) : x_wr (u_nr x v) = x_wr x := rfl
theorem g_wr_nw (x : zSt) (v : Nat) : x_wr (u_nw x v) = x_wr x := rfl
theorem g_wr_nn (x : zSt) (v : Nat) : x_wr (u_nn x v) = x_wr x := rfl
theorem g_wr_ns (x : zSt) (v : Nat) : x_wr (u_ns x v) = x_wr x := rfl
theorem g_wr_or (x : zSt) (v : Nat) : x_wr (u_or x v) = x_wr x := rfl
theorem g_wr_ow (x : zSt) (v : Nat) : x_wr (u_ow x v) = x_wr x := rfl
theorem g_wr_on (x : zSt) (v : Nat) : x_wr (u_on x v) = x_wr x := rfl
theorem g_wr_nl (x : zSt) (v : Nat) : x_wr (u_nl x v) = x_wr x := rfl
theorem g_wr_ng (x : zSt) (v : Nat) : x_wr (u_ng x v) = x_wr x := rfl
theorem g_wr_rg (x : zSt) (v : Nat) : x_wr (u_rg x v) = x_wr x := rfl
theorem g_wr_lc (x : zSt) (v : Nat → Int32) : x_wr (u_lc x v) = x_wr x := rfl
theorem g_wr_cp (x : zSt) (v : Nat → Nat) : x_wr (u_cp x v) = x_wr x := rfl
theorem g_wr_gb (x : zSt) (v : Nat → Nat → Option zAE) : x_wr (u_gb x v) = x_wr x := rfl
theorem g_wr_sp (x : zSt) (v : Nat → Nat) : x_wr (u_sp x v) = x_wr x := rfl
theorem g_wr_kn (x : zSt) (v : Nat → Int64) : x_wr (u_kn x v) = x_wr x := rfl
theorem g_wr_me (x : zSt) (v : Nat → Int64) : x_wr (u_me x v) = x_wr x := rfl
theorem g_wr_ob (x : zSt) (v : Nat → Nat → Int64) : x_wr (u_ob x v) = x_wr x := rfl
theorem g_wr_fk (x : zSt) (v : Nat → Nat → Int32) : x_wr (u_fk x v) = x_wr x := rfl
theorem g_wr_fz (x : zSt) (v : Nat → Nat → Nat) : x_wr (u_fz x v) = x_wr x := rfl
theorem g_wr_fg (x : zSt) (v : Nat → Nat → Nat → Int32) : x_wr (u_fg x v) = x_wr x := rfl
theorem g_wr_rd (x : zSt) (v : Nat → Int32) : x_wr (u_rd x v) = x_wr x := rfl
theorem g_wr_rz (x : zSt) (v : Nat → Nat) : x_wr (u_rz x v) = x_wr x := rfl
theorem g_wr_rh (x : zSt) (v : Nat → Nat → Int32) : x_wr (u_rh x v) = x_wr x := rfl
theorem g_wr_nd (x : zSt) (v : Nat → Int32) : x_wr (u_nd x v) = x_wr x := rfl
theorem g_wr_nm (x : zSt) (v : Nat → Int32) : x_wr (u_nm x v) = x_wr x := rfl
theorem g_wr_nv (x : zSt) (v : Nat → Int32) : x_wr (u_nv x v) = x_wr x := rfl
theorem g_wr_nh (x : zSt) (v : Nat → Int32) : x_wr (u_nh x v) = x_wr x := rfl
theorem g_wr_nf (x : zSt) (v : Nat → Nat → Int32) : x_wr (u_nf x v) = x_wr x := rfl
theorem g_wr_wr (x : zSt) (v : Nat → Nat) : x_wr (u_wr x v) = v := rfl
theorem g_wr_wa (x : zSt) (v : Nat → Bool) : x_wr (u_wa x v) = x_wr x := rfl
theorem g_wr_lz (x : zSt) (v : Nat → Nat) : x_wr (u_lz x v) = x_wr x := rfl
theorem g_wr_lf (x : zSt) (v : Nat → Nat) : x_wr (u_lf x v) = x_wr x := rfl
theorem g_wr_li (x : zSt) (v : Nat → Nat → Int32) : x_wr (u_li x v) = x_wr x := rfl
theorem g_wr_lt (x : zSt) (v : Nat → Nat → Int64) : x_wr (u_lt x v) = x_wr x := rfl
theorem g_wr_lb (x : zSt) (v : Nat → Nat → Int64) : x_wr (u_lb x v) = x_wr x := rfl
theorem g_wr_lr (x : zSt) (v : Nat → Nat → Option (Nat → Int64)) : x_wr (u_lr x v) = x_wr x := rfl
theorem g_wr_tn (x : zSt) (v : Nat) : x_wr (u_tn x v) = x_wr x := rfl
theorem g_wr_tf (x : zSt) (v : Nat → Nat → Int32) : x_wr (u_tf x v) = x_wr x := rfl
theorem g_wa_dk (x : zSt) (v : Nat) : x_wa (u_dk x v) = x_wa x := rfl
theorem g_wa_lk (x : zSt) (v : Int32) : x_wa (u_lk x v) = x_wa x := rfl
theorem g_wa_po (x : zSt) (v : Int32) : x_wa (u_po x v) = x_wa x := rfl
theorem g_wa_ne (x : zSt) (v : Int32) : x_wa (u_ne x v) = x_wa x := rfl
theorem g_wa_td (x : zSt) (v : Int32) : x_wa (u_td x v) = x_wa x := rfl
theorem g_wa_nb (x : zSt) (v : Nat → Int32) : x_wa (u_nb x v) = x_wa x := rfl
theorem g_wa_ln (x : zSt) (v : Nat → Option Nat) : x_wa (u_ln x v) = x_wa x := rfl
theorem g_wa_nr (x : zSt) (v : Nat) : x_wa (u_nr x v) = x_wa x := rfl
theorem g_wa_nw (x : zSt) (v : Nat) : x_wa (u_nw x v) = x_wa x := rfl
theorem g_wa_nn (x : zSt) (v : Nat) : x_wa (u_nn x v) = x_wa x := rfl
theorem g_wa_ns (x : zSt) (v : Nat) : x_wa (u_ns x v) = x_wa x := rfl
theorem g_wa_or (x : zSt) (v : Nat) : x_wa (u_or x v) = x_wa x := rfl
theorem g_wa_ow (x : zSt) (v : Nat) : x_wa (u_ow x v) = x_wa x := rfl
theorem g_wa_on (x : zSt) (v : Nat) : x_wa (u_on x v) = x_wa x := rfl
theorem g_wa_nl (x : zSt) (v : Nat) : x_wa (u_nl x v) = x_wa x := rfl
theorem g_wa_ng (x : zSt) (v : Nat) : x_wa (u_ng x v) = x_wa x := rfl
theorem g_wa_rg (x : zSt) (v : Nat) : x_wa (u_rg x v) = x_wa x := rfl
theorem g_wa_lc (x : zSt) (v : Nat → Int32) : x_wa (u_lc x v) = x_wa x := rfl
theorem g_wa_cp (x : zSt) (v : Nat → Nat) : x_wa (u_cp x v) = x_wa x := rfl
theorem g_wa_gb (x : zSt) (v : Nat → Nat → Option zAE) : x_wa (u_gb x v) = x_wa x := rfl
theorem g_wa_sp (x : zSt) (v : Nat → Nat) : x_wa (u_sp x v) = x_wa x := rfl
theorem g_wa_kn (x : zSt) (v : Nat → Int64) : x_wa (u_kn x v) = x_wa x := rfl
theorem g_wa_me (x : zSt) (v : Nat → Int64) : x_wa (u_me x v) = x_wa x := rfl
theorem g_wa_ob (x : zSt) (v : Nat → Nat → Int64) : x_wa (u_ob x v) = x_wa x := rfl
theorem g_wa_fk (x : zSt) (v : Nat → Nat → Int32) : x_wa (u_fk x v) = x_wa x := rfl
theorem g_wa_fz (x : zSt) (v : Nat → Nat → Nat) : x_wa (u_fz x v) = x_wa x := rfl
theorem g_wa_fg (x : zSt) (v : Nat → Nat → Nat → Int32) : x_wa (u_fg x v) = x_wa x := rfl
theorem g_wa_rd (x : zSt) (v : Nat → Int32) : x_wa (u_rd x v) = x_wa x := rfl
theorem g_wa_rz (x : zSt) (v : Nat → Nat) : x_wa (u_rz x v) = x_wa x := rfl
theorem g_wa_rh (x : zSt) (v : Nat → Nat → Int32) : x_wa (u_rh x v) = x_wa x := rfl
theorem g_wa_nd (x : zSt) (v : Nat → Int32) : x_wa (u_nd x v) = x_wa x := rfl
theorem g_wa_nm (x : zSt) (v : Nat → Int32) : x_wa (u_nm x v) = x_wa x := rfl
theorem g_wa_nv (x : zSt) (v : Nat → Int32) : x_wa (u_nv x v) = x_wa x := rfl
theorem g_wa_nh (x : zSt) (v : Nat → Int32) : x_wa (u_nh x v) = x_wa x := rfl
theorem g_wa_nf (x : zSt) (v : Nat → Nat → Int32) : x_wa (u_nf x v) = x_wa x := rfl
theorem g_wa_wr (x : zSt) (v : Nat → Nat) : x_wa (u_wr x v) = x_wa x := rfl
theorem g_wa_wa (x : zSt) (v : Nat → Bool) : x_wa (u_wa x v) = v := rfl
theorem g_wa_lz (x : zSt) (v : Nat → Nat) : x_wa (u_lz x v) = x_wa x := rfl
theorem g_wa_lf (x : zSt) (v : Nat → Nat) : x_wa (u_lf x v) = x_wa x := rfl
theorem g_wa_li (x : zSt) (v : Nat → Nat → Int32) : x_wa (u_li x v) = x_wa x := rfl
theorem g_wa_lt (x : zSt) (v : Nat → Nat → Int64) : x_wa (u_lt x v) = x_wa x := rfl
theorem g_wa_lb (x : zSt) (v : Nat → Nat → Int64) : x_wa (u_lb x v) = x_wa x := rfl
theorem g_wa_lr (x : zSt) (v : Nat → Nat → Option (Nat → Int64)) : x_wa (u_lr x v) = x_wa x := rfl
theorem g_wa_tn (x : zSt) (v : Nat) : x_wa (u_tn x v) = x_wa x := rfl
theorem g_wa_tf (x : zSt) (v : Nat → Nat → Int32) : x_wa (u_tf x v) = x_wa x := rfl
theorem g_lz_dk (x : zSt) (v : Nat) : x_lz (u_dk x v) = x_lz x := rfl
theorem g_lz_lk (x : zSt) (v : Int32) : x_lz (u_lk x v) = x_lz x := rfl
theorem g_lz_po (x : zSt) (v : Int32) : x_lz (u_po x v) = x_lz x := rfl
theorem g_lz_ne (x : zSt) (v : Int32) : x_lz (u_ne x v) = x_lz x := rfl
theorem g_lz_td (x : zSt) (v : Int32) : x_lz (u_td x v) = x_lz x := rfl
theorem g_lz_nb (x : zSt) (v : Nat → Int32) : x_lz (u_nb x v) = x_lz x := rfl
theorem g_lz_ln (x : zSt) (v : Nat → Option Nat) : x_lz (u_ln x v) = x_lz x := rfl
theorem g_lz_nr (x : zSt) (v : Nat) : x_lz (u_nr x v) = x_lz x := rfl
theorem g_lz_nw (x : zSt) (v : Nat) : x_lz (u_nw x v) = x_lz x := rfl
theorem g_lz_nn (x : zSt) (v : Nat) : x_lz (u_nn x v) = x_lz x := rfl
theorem g_lz_ns (x : zSt) (v : Nat) : x_lz (u_ns x v) = x_lz x := rfl
theorem g_lz_or (x : zSt) (v : Nat) : x_lz (u_or x v) = x_lz x := rfl
theorem g_lz_ow (x : zSt) (v : Nat) : x_lz (u_ow x v) = x_lz x := rfl
theorem g_lz_on (x : zSt) (v : Nat) : x_lz (u_on x v) = x_lz x := rfl
theorem g_lz_nl (x : zSt) (v : Nat) : x_lz (u_nl x v) = x_lz x := rfl
theorem g_lz_ng (x : zSt) (v : Nat) : x_lz (u_ng x v) = x_lz x := rfl
theorem g_lz_rg (x : zSt) (v : Nat) : x_lz (u_rg x v) = x_lz x := rfl
theorem g_lz_lc (x : zSt) (v : Nat → Int32) : x_lz (u_lc x v) = x_lz x := rfl
theorem g_lz_cp (x : zSt) (v : Nat → Nat) : x_lz (u_cp x v) = x_lz x := rfl
theorem g_lz_gb (x : zSt) (v : Nat → Nat → Option zAE) : x_lz (u_gb x v) = x_lz x := rfl
theorem g_lz_sp (x : zSt) (v : Nat → Nat) : x_lz (u_sp x v) = x_lz x := rfl
theorem g_lz_kn (x : zSt) (v : Nat → Int64) : x_lz (u_kn x v) = x_lz x := rfl
theorem g_lz_me (x : zSt) (v : Nat → Int64) : x_lz (u_me x v) = x_lz x := rfl
theorem g_lz_ob (x : zSt) (v : Nat → Nat → Int64) : x_lz (u_ob x v) = x_lz x := rfl
theorem g_lz_fk (x : zSt) (v : Nat → Nat → Int32) : x_lz (u_fk x v) = x_lz x := rfl
theorem g_lz_fz (x : zSt) (v : Nat → Nat → Nat) : x_lz (u_fz x v) = x_lz x := rfl
theorem g_lz_fg (x : zSt) (v : Nat → Nat → Nat → Int32) : x_lz (u_fg x v) = x_lz x := rfl
theorem g_lz_rd (x : zSt) (v : Nat → Int32) : x_lz (u_rd x v) = x_lz x := rfl
theorem g_lz_rz (x : zSt) (v : Nat → Nat) : x_lz (u_rz x v) = x_lz x := rfl
theorem g_lz_rh (x : zSt) (v : Nat → Nat → Int32) : x_lz (u_rh x v) = x_lz x := rfl
theorem g_lz_nd (x : zSt) (v : Nat → Int32) : x_lz (u_nd x v) = x_lz x := rfl
theorem g_lz_nm (x : zSt) (v : Nat → Int32) : x_lz (u_nm x v) = x_lz x := rfl
theorem g_lz_nv (x : zSt) (v : Nat → Int32) : x_lz (u_nv x v) = x_lz x := rfl
theorem g_lz_nh (x : zSt) (v : Nat → Int32) : x_lz (u_nh x v) = x_lz x := rfl
theorem g_lz_nf (x : zSt) (v : Nat → Nat → Int32) : x_lz (u_nf x v) = x_lz x := rfl
theorem g_lz_wr (x : zSt) (v : Nat → Nat) : x_lz (u_wr x v) = x_lz x := rfl
theorem g_lz_wa (x : zSt) (v : Nat → Bool) : x_lz (u_wa x v) = x_lz x := rfl
theorem g_lz_lz (x : zSt) (v : Nat → Nat) : x_lz (u_lz x v) = v := rfl
theorem g_lz_lf (x : zSt) (v : Nat → Nat) : x_lz (u_lf x v) = x_lz x := rfl
theorem g_lz_li (x : zSt) (v : Nat → Nat → Int32) : x_lz (u_li x v) = x_lz x := rfl
theorem g_lz_lt (x : zSt) (v : Nat → Nat → Int64) : x_lz (u_lt x v) = x_lz x := rfl
theorem g_lz_lb (x : zSt) (v : Nat → Nat → Int64) : x_lz (u_lb x v) = x_lz x := rfl
theorem g_lz_lr (x : zSt) (v : Nat → Nat → Option (Nat → Int64)) : x_lz (u_lr x v) = x_lz x := rfl
theorem g_lz_tn (x : zSt) (v : Nat) : x_lz (u_tn x v) = x_lz x := rfl
theorem g_lz_tf (x : zSt) (v : Nat → Nat → Int32) : x_lz (u_tf x v) = x_lz x := rfl
theorem g_lf_dk (x : zSt) (v : Nat) : x_lf (u_dk x v) = x_lf x := rfl
theorem g_lf_lk (x : zSt) (v : Int32) : x_lf (u_lk x v) = x_lf x := rfl
theorem g_lf_po (x : zSt) (v : Int32) : x_lf (u_po x v) = x_lf x := rfl
theorem g_lf_ne (x : zSt) (v : Int32) : x_lf (u_ne x v) = x_lf x := rfl
theorem g_lf_td (x : zSt) (v : Int32) : x_lf (u_td x v) = x_lf x := rfl
theorem g_lf_nb (x : zSt) (v : Nat → Int32) : x_lf (u_nb x v) = x_lf x := rfl
theorem g_lf_ln (x : zSt) (v : Nat → Option Nat) : x_lf (u_ln x v) = x_lf x := rfl
theorem g_lf_nr (x : zSt) (v : Nat) : x_lf (u_nr x v) = x_lf x := rfl
theorem g_lf_nw (x : zSt) (v : Nat) : x_lf (u_nw x v) = x_lf x := rfl
theorem g_lf_nn (x : zSt) (v : Nat) : x_lf (u_nn x v) = x_lf x := rfl
theorem g_lf_ns (x : zSt) (v : Nat) : x_lf (u_ns x v) = x_lf x := rfl
theorem g_lf_or (x : zSt) (v : Nat) : x_lf (u_or x v) = x_lf x := rfl
theorem g_lf_ow (x : zSt) (v : Nat) : x_lf (u_ow x v) = x_lf x := rfl
theorem g_lf_on (x : zSt) (v : Nat) : x_lf (u_on x v) = x_lf x := rfl
theorem g_lf_nl (x : zSt) (v : Nat) : x_lf (u_nl x v) = x_lf x := rfl
theorem g_lf_ng (x : zSt) (v : Nat) : x_lf (u_ng x v) = x_lf x := rfl
theorem g_lf_rg (x : zSt) (v : Nat) : x_lf (u_rg x v) = x_lf x := rfl
theorem g_lf_lc (x : zSt) (v : Nat → Int32) : x_lf (u_lc x v) = x_lf x := rfl
theorem g_lf_cp (x : zSt) (v : Nat → Nat) : x_lf (u_cp x v) = x_lf x := rfl
theorem g_lf_gb (x : zSt) (v : Nat → Nat → Option zAE) : x_lf (u_gb x v) = x_lf x := rfl
theorem g_lf_sp (x : zSt) (v : Nat → Nat) : x_lf (u_sp x v) = x_lf x := rfl
theorem g_lf_kn (x : zSt) (v : Nat → Int64) : x_lf (u_kn x v) = x_lf x := rfl
theorem g_lf_me (x : zSt) (v : Nat → Int64) : x_lf (u_me x v) = x_lf x := rfl
theorem g_lf_ob (x : zSt) (v : Nat → Nat → Int64) : x_lf (u_ob x v) = x_lf x := rfl
theorem g_lf_fk (x : zSt) (v : Nat → Nat → Int32) : x_lf (u_fk x v) = x_lf x := rfl
theorem g_lf_fz (x : zSt) (v : Nat → Nat → Nat) : x_lf (u_fz x v) = x_lf x := rfl
theorem g_lf_fg (x : zSt) (v : Nat → Nat → Nat → Int32) : x_lf (u_fg x v) = x_lf x := rfl
theorem g_lf_rd (x : zSt) (v : Nat → Int32) : x_lf (u_rd x v) = x_lf x := rfl
theorem g_lf_rz (x : zSt) (v : Nat → Nat) : x_lf (u_rz x v) = x_lf x := rfl
theorem g_lf_rh (x : zSt) (v : Nat → Nat → Int32) : x_lf (u_rh x v) = x_lf x := rfl
theorem g_lf_nd (x : zSt) (v : Nat → Int32) : x_lf (u_nd x v) = x_lf x := rfl
theorem g_lf_nm (x : zSt) (v : Nat → Int32) : x_lf (u_nm x v) = x_lf x := rfl
theorem g_lf_nv (x : zSt) (v : Nat → Int32) : x_lf (u_nv x v) = x_lf x := rfl
theorem g_lf_nh (x : zSt) (v : Nat → Int32) : x_lf (u_nh x v) = x_lf x := rfl
theorem g_lf_nf (x : zSt) (v : Nat → Nat → Int32) : x_lf (u_nf x v) = x_lf x := rfl
theorem g_lf_wr (x : zSt) (v : Nat → Nat) : x_lf (u_wr x v) = x_lf x := rfl
theorem g_lf_wa (x : zSt) (v : Nat → Bool) : x_lf (u_wa x v) = x_lf x := rfl
theorem g_lf_lz (x : zSt) (v : Nat → Nat) : x_lf (u_lz x v) = x_lf x := rfl
theorem g_lf_lf (x : zSt) (v : Nat → Nat) : x_lf (u_lf x v) = v := rfl
theorem g_lf_li (x : zSt) (v : Nat → Nat → Int32) : x_lf (u_li x v) = x_lf x := rfl
theorem g_lf_lt (x : zSt) (v : Nat → Nat → Int64) : x_lf (u_lt x v) = x_lf x := rfl
theorem g_lf_lb (x : zSt) (v : Nat → Nat → Int64) : x_lf (u_lb x v) = x_lf x := rfl
theorem g_lf_lr (x : zSt) (v : Nat → Nat → Option (Nat → Int64)) : x_lf (u_lr x v) = x_lf x := rfl
theorem g_lf_tn (x : zSt) (v : Nat) : x_lf (u_tn x v) = x_lf x := rfl
theorem g_lf_tf (x : zSt) (v : Nat → Nat → Int32) : x_lf (u_tf x v) = x_lf x := rfl
theorem g_li_dk (x : zSt) (v : Nat) : x_li (u_dk x v) = x_li x := rfl
theorem g_li_lk (x : zSt) (v : Int32) : x_li (u_lk x v) = x_li x := rfl
theorem g_li_po (x : zSt) (v : Int32) : x_li (u_po x v) = x_li x := rfl
theorem g_li_ne (x : zSt) (v : Int32) : x_li (u_ne x v) = x_li x := rfl
theorem g_li_td (x : zSt) (v : Int32) : x_li (u_td x v) = x_li x := rfl
theorem g_li_nb (x : zSt) (v : Nat → Int32) : x_li (u_nb x v) = x_li x := rfl
theorem g_li_ln (x : zSt) (v : Nat → Option Nat) : x_li (u_ln x v) = x_li x := rfl
theorem g_li_nr (x : zSt) (v : Nat) : x_li (u_nr x v) = x_li x := rfl
theorem g_li_nw (x : zSt) (v : Nat) : x_li (u_nw x v) = x_li x := rfl
theorem g_li_nn (x : zSt) (v : Nat) : x_li (u_nn x v) = x_li x := rfl
theorem g_li_ns (x : zSt) (v : Nat) : x_li (u_ns x v) = x_li x := rfl
theorem g_li_or (x : zSt) (v : Nat) : x_li (u_or x v) = x_li x := rfl
theorem g_li_ow (x : zSt) (v : Nat) : x_li (u_ow x v) = x_li x := rfl
theorem g_li_on (x : zSt) (v : Nat) : x_li (u_on x v) = x_li x := rfl
theorem g_li_nl (x : zSt) (v : Nat) : x_li (u_nl x v) = x_li x := rfl
theorem g_li_ng (x : zSt) (v : Nat) : x_li (u_ng x v) = x_li x := rfl
theorem g_li_rg (x : zSt) (v : Nat) : x_li (u_rg x v) = x_li x := rfl
theorem g_li_lc (x : zSt) (v : Nat → Int32) : x_li (u_lc x v) = x_li x := rfl
theorem g_li_cp (x : zSt) (v : Nat → Nat) : x_li (u_cp x v) = x_li x := rfl
theorem g_li_gb (x : zSt) (v : Nat → Nat → Option zAE) : x_li (u_gb x v) = x_li x := rfl
theorem g_li_sp (x : zSt) (v : Nat → Nat) : x_li (u_sp x v) = x_li x := rfl
theorem g_li_kn (x : zSt) (v : Nat → Int64) : x_li (u_kn x v) = x_li x := rfl
theorem g_li_me (x : zSt) (v : Nat → Int64) : x_li (u_me x v) = x_li x := rfl
theorem g_li_ob (x : zSt) (v : Nat → Nat → Int64) : x_li (u_ob x v) = x_li x := rfl
theorem g_li_fk (x : zSt) (v : Nat → Nat → Int32) : x_li (u_fk x v) = x_li x := rfl
theorem g_li_fz (x : zSt) (v : Nat → Nat → Nat) : x_li (u_fz x v) = x_li x := rfl
theorem g_li_fg (x : zSt) (v : Nat → Nat → Nat → Int32) : x_li (u_fg x v) = x_li x := rfl
theorem g_li_rd (x : zSt) (v : Nat → Int32) : x_li (u_rd x v) = x_li x := rfl
theorem g_li_rz (x : zSt) (v : Nat → Nat) : x_li (u_rz x v) = x_li x := rfl
theorem g_li_rh (x : zSt) (v : Nat → Nat → Int32) : x_li (u_rh x v) = x_li x := rfl
theorem g_li_nd (x : zSt) (v : Nat → Int32) : x_li (u_nd x v) = x_li x := rfl
theorem g_li_nm (x : zSt) (v : Nat → Int32) : x_li (u_nm x v) = x_li x := rfl
theorem g_li_nv (x : zSt) (v : Nat → Int32) : x_li (u_nv x v) = x_li x := rfl
theorem g_li_nh (x : zSt) (v : Nat → Int32) : x_li (u_nh x v) = x_li x := rfl
theorem g_li_nf (x : zSt) (v : Nat → Nat → Int32) : x_li (u_nf x v) = x_li x := rfl
theorem g_li_wr (x : zSt) (v : Nat → Nat) : x_li (u_wr x v) = x_li x := rfl
theorem g_li_wa (x : zSt) (v : Nat → Bool) : x_li (u_wa x v) = x_li x := rfl
theorem g_li_lz (x : zSt) (v : Nat → Nat) : x_li (u_lz x v) = x_li x := rfl
theorem g_li_lf (x : zSt) (v : Nat → Nat) : x_li (u_lf x v) = x_li x := rfl
theorem g_li_li (x : zSt) (v : Nat → Nat → Int32) : x_li (u_li x v) = v := rfl
theorem g_li_lt (x : zSt) (v : Nat → Nat → Int64) : x_li (u_lt x v) = x_li x := rfl
theorem g_li_lb (x : zSt) (v : Nat → Nat → Int64) : x_li (u_lb x v) = x_li x := rfl
theorem g_li_lr (x : zSt) (v : Nat → Nat → Option (Nat → Int64)) : x_li (u_lr x v) = x_li x := rfl
theorem g_li_tn (x : zSt) (v : Nat) : x_li (u_tn x v) = x_li x := rfl
theorem g_li_tf (x : zSt) (v : Nat → Nat → Int32) : x_li (u_tf x v) = x_li x := rfl
theorem g_lt_dk (x : zSt) (v : Nat) : x_lt (u_dk x v) = x_lt x := rfl
theorem g_lt_lk (x : zSt) (v : Int32) : x_lt (u_lk x v) = x_lt x := rfl
theorem g_lt_po (x : zSt) (v : Int32) : x_lt (u_po x v) = x_lt x := rfl
theorem g_lt_ne (x : zSt) (v : Int32) : x_lt (u_ne x v) = x_lt x := rfl
theorem g_lt_td (x : zSt) (v : Int32) : x_lt (u_td x v) = x_lt x := rfl
theorem g_lt_nb (x : zSt) (v : Nat → Int32) : x_lt (u_nb x v) = x_lt x := rfl
theorem g_lt_ln (x : zSt) (v : Nat → Option Nat) : x_lt (u_ln x v) = x_lt x := rfl
theorem g_lt_nr (x : zSt) (v : Nat) : x_lt (u_nr x v) = x_lt x := rfl
theorem g_lt_nw (x : zSt) (v : Nat) : x_lt (u_nw x v) = x_lt x := rfl
theorem g_lt_nn (x : zSt) (v : Nat) : x_lt (u_nn x v) = x_lt x := rfl
theorem g_lt_ns (x : zSt) (v : Nat) : x_lt (u_ns x v) = x_lt x := rfl
theorem g_lt_or (x : zSt) (v : Nat) : x_lt (u_or x v) = x_lt x := rfl
theorem g_lt_ow (x : zSt) (v : Nat) : x_lt (u_ow x v) = x_lt x := rfl
theorem g_lt_on (x : zSt) (v : Nat) : x_lt (u_on x v) = x_lt x := rfl
theorem g_lt_nl (x : zSt) (v : Nat) : x_lt (u_nl x v) = x_lt x := rfl
theorem g_lt_ng (x : zSt) (v : Nat) : x_lt (u_ng x v) = x_lt x := rfl
theorem g_lt_rg (x : zSt) (v : Nat) : x_lt (u_rg x v) = x_lt x := rfl
theorem g_lt_lc (x : zSt) (v : Nat → Int32) : x_lt (u_lc x v) = x_lt x := rfl
theorem g_lt_cp (x : zSt) (v : Nat → Nat) : x_lt (u_cp x v) = x_lt x := rfl
theorem g_lt_gb (x : zSt) (v : Nat → Nat → Option zAE) : x_lt (u_gb x v) = x_lt x := rfl
theorem g_lt_sp (x : zSt) (v : Nat → Nat) : x_lt (u_sp x v) = x_lt x := rfl
theorem g_lt_kn (x : zSt) (v : Nat → Int64) : x_lt (u_kn x v) = x_lt x := rfl
theorem g_lt_me (x : zSt) (v : Nat → Int64) : x_lt (u_me x v) = x_lt x := rfl
theorem g_lt_ob (x : zSt) (v : Nat → Nat → Int64) : x_lt (u_ob x v) = x_lt x := rfl
theorem g_lt_fk (x : zSt) (v : Nat → Nat → Int32) : x_lt (u_fk x v) = x_lt x := rfl
theorem g_lt_fz (x : zSt) (v : Nat → Nat → Nat) : x_lt (u_fz x v) = x_lt x := rfl
theorem g_lt_fg (x : zSt) (v : Nat → Nat → Nat → Int32) : x_lt (u_fg x v) = x_lt x := rfl
theorem g_lt_rd (x : zSt) (v : Nat → Int32) : x_lt (u_rd x v) = x_lt x := rfl
theorem g_lt_rz (x : zSt) (v : Nat → Nat) : x_lt (u_rz x v) = x_lt x := rfl
theorem g_lt_rh (x : zSt) (v : Nat → Nat → Int32) : x_lt (u_rh x v) = x_lt x := rfl
theorem g_lt_nd (x : zSt) (v : Nat → Int32) : x_lt (u_nd x v) = x_lt x := rfl
theorem g_lt_nm (x : zSt) (v : Nat → Int32) : x_lt (u_nm x v) = x_lt x := rfl
theorem g_lt_nv (x : zSt) (v : Nat → Int32) : x_lt (u_nv x v) = x_lt x := rfl
theorem g_lt_nh (x : zSt) (v : Nat → Int32) : x_lt (u_nh x v) = x_lt x := rfl
theorem g_lt_nf (x : zSt) (v : Nat → Nat → Int32) : x_lt (u_nf x v) = x_lt x := rfl
theorem g_lt_wr (x : zSt) (v : Nat → Nat) : x_lt (u_wr x v) = x_lt x := rfl
theorem g_lt_wa (x : zSt) (v : Nat → Bool) : x_lt (u_wa x v) = x_lt x := rfl
theorem g_lt_lz (x : zSt) (v : Nat → Nat) : x_lt (u_lz x v) = x_lt x := rfl
theorem g_lt_lf (x : zSt) (v : Nat → Nat) : x_lt (u_lf x v) = x_lt x := rfl
theorem g_lt_li (x : zSt) (v : Nat → Nat → Int32) : x_lt (u_li x v) = x_lt x := rfl
theorem g_lt_lt (x : zSt) (v : Nat → Nat → Int64) : x_lt (u_lt x v) = v := rfl
theorem g_lt_lb (x : zSt) (v : Nat → Nat → Int64) : x_lt (u_lb x v) = x_lt x := rfl
theorem g_lt_lr (x : zSt) (v : Nat → Nat → Option (Nat → Int64)) : x_lt (u_lr x v) = x_lt x := rfl
theorem g_lt_tn (x : zSt) (v : Nat) : x_lt (u_tn x v) = x_lt x := rfl
theorem g_lt_tf (x : zSt) (v : Nat → Nat → Int32) : x_lt (u_tf x v) = x_lt x := rfl
theorem g_lb_dk (x : zSt) (v : Nat) : x_lb (u_dk x v) = x_lb x := rfl
theorem g_lb_lk (x : zSt) (v : Int32) : x_lb (u_lk x v) = x_lb x := rfl
theorem g_lb_po (x : zSt) (v : Int32) : x_lb (u_po x v) = x_lb x := rfl
theorem g_lb_ne (x : zSt) (v : Int32) : x_lb (u_ne x v) = x_lb x := rfl
theorem g_lb_td (x : zSt) (v : Int32) : x_lb (u_td x v) = x_lb x := rfl
theorem g_lb_nb (x : zSt) (v : Nat → Int32) : x_lb (u_nb x v) = x_lb x := rfl
theorem g_lb_ln (x : zSt) (v : Nat → Option Nat) : x_lb (u_ln x v) = x_lb x := rfl
theorem g_lb_nr (x : zSt) (v : Nat) : x_lb (u_nr x v) = x_lb x := rfl
theorem g_lb_nw (x : zSt) (v : Nat) : x_lb (u_nw x v) = x_lb x := rfl
theorem g_lb_nn (x : zSt) (v : Nat) : x_lb (u_nn x v) = x_lb x := rfl
theorem g_lb_ns (x : zSt) (v : Nat) : x_lb (u_ns x v) = x_lb x := rfl
theorem g_lb_or (x : zSt) (v : Nat) : x_lb (u_or x v) = x_lb x := rfl
theorem g_lb_ow (x : zSt) (v : Nat) : x_lb (u_ow x v) = x_lb x := rfl
theorem g_lb_on (x : zSt) (v : Nat) : x_lb (u_on x v) = x_lb x := rfl
theorem g_lb_nl (x : zSt) (v : Nat) : x_lb (u_nl x v) = x_lb x := rfl
theorem g_lb_ng (x : zSt) (v : Nat) : x_lb (u_ng x v) = x_lb x := rfl
theorem g_lb_rg (x : zSt) (v : Nat) : x_lb (u_rg x v) = x_lb x := rfl
theorem g_lb_lc (x : zSt) (v : Nat → Int32) : x_lb (u_lc x v) = x_lb x := rfl
theorem g_lb_cp (x : zSt) (v : Nat → Nat) : x_lb (u_cp x v) = x_lb x := rfl
theorem g_lb_gb (x : zSt) (v : Nat → Nat → Option zAE) : x_lb (u_gb x v) = x_lb x := rfl
theorem g_lb_sp (x : zSt) (v : Nat → Nat) : x_lb (u_sp x v) = x_lb x := rfl
theorem g_lb_kn (x : zSt) (v : Nat → Int64) : x_lb (u_kn x v) = x_lb x := rfl
theorem g_lb_me (x : zSt) (v : Nat → Int64) : x_lb (u_me x v) = x_lb x := rfl
theorem g_lb_ob (x : zSt) (v : Nat → Nat → Int64) : x_lb (u_ob x v) = x_lb x := rfl
theorem g_lb_fk (x : zSt) (v : Nat → Nat → Int32) : x_lb (u_fk x v) = x_lb x := rfl
theorem g_lb_fz (x : zSt) (v : Nat → Nat → Nat) : x_lb (u_fz x v) = x_lb x := rfl
theorem g_lb_fg (x : zSt) (v : Nat → Nat → Nat → Int32) : x_lb (u_fg x v) = x_lb x := rfl
theorem g_lb_rd (x : zSt) (v : Nat → Int32) : x_lb (u_rd x v) = x_lb x := rfl
theorem g_lb_rz (x : zSt) (v : Nat → Nat) : x_lb (u_rz x v) = x_lb x := rfl
theorem g_lb_rh (x : zSt) (v : Nat → Nat → Int32) : x_lb (u_rh x v) = x_lb x := rfl
theorem g_lb_nd (x : zSt) (v : Nat → Int32) : x_lb (u_nd x v) = x_lb x := rfl
theorem g_lb_nm (x : zSt) (v : Nat → Int32) : x_lb (u_nm x v) = x_lb x := rfl
theorem g_lb_nv (x : zSt) (v : Nat → Int32) : x_lb (u_nv x v) = x_lb x := rfl
theorem g_lb_nh (x : zSt) (v : Nat → Int32) : x_lb (u_nh x v) = x_lb x := rfl
theorem g_lb_nf (x : zSt) (v : Nat → Nat → Int32) : x_lb (u_nf x v) = x_lb x := rfl
theorem g_lb_wr (x : zSt) (v : Nat → Nat) : x_lb (u_wr x v) = x_lb x := rfl
theorem g_lb_wa (x : zSt) (v : Nat → Bool) : x_lb (u_wa x v) = x_lb x := rfl
theorem g_lb_lz (x : zSt) (v : Nat → Nat) : x_lb (u_lz x v) = x_lb x := rfl
theorem g_lb_lf (x : zSt) (v : Nat → Nat) : x_lb (u_lf x v) = x_lb x := rfl
theorem g_lb_li (x : zSt) (v : Nat → Nat → Int32) : x_lb (u_li x v) = x_lb x := rfl
theorem g_lb_lt (x : zSt) (v : Nat → Nat → Int64) : x_lb (u_lt x v) = x_lb x := rfl
theorem g_lb_lb (x : zSt) (v : Nat → Nat → Int64) : x_lb (u_lb x v) = v := rfl
theorem g_lb_lr (x : zSt) (v : Nat → Nat → Option (Nat → Int64)) : x_lb (u_lr x v) = x_lb x := rfl
theorem g_lb_tn (x : zSt) (v : Nat) : x_lb (u_tn x v) = x_lb x := rfl
theorem g_lb_tf (x : zSt) (v : Nat → Nat → Int32) : x_lb (u_tf x v) = x_lb x := rfl
theorem g_lr_dk (x : zSt) (v : Nat) : x_lr (u_dk x v) = x_lr x := rfl
theorem g_lr_lk (x : zSt) (v : Int32) : x_lr (u_lk x v) = x_lr x := rfl
theorem g_lr_po (x : zSt) (v : Int32) : x_lr (u_po x v) = x_lr x := rfl
theorem g_lr_ne (x : zSt) (v : Int32) : x_lr (u_ne x v) = x_lr x := rfl
theorem g_lr_td (x : zSt) (v : Int32) : x_lr (u_td x v) = x_lr x := rfl
theorem g_lr_nb (x : zSt) (v : Nat → Int32) : x_lr (u_nb x v) = x_lr x := rfl
theorem g_lr_ln (x : zSt) (v : Nat → Option Nat) : x_lr (u_ln x v) = x_lr x := rfl
theorem g_lr_nr (x : zSt) (v : Nat) : x_lr (u_nr x v) = x_lr x := rfl
theorem g_lr_nw (x : zSt) (v : Nat) : x_lr (u_nw x v) = x_lr x := rfl
theorem g_lr_nn (x : zSt) (v : Nat) : x_lr (u_nn x v) = x_lr x := rfl
theorem g_lr_ns (x : zSt) (v : Nat) : x_lr (u_ns x v) = x_lr x := rfl
theorem g_lr_or (x : zSt) (v : Nat) : x_lr (u_or x v) = x_lr x := rfl
theorem g_lr_ow (x : zSt) (v : Nat) : x_lr (u_ow x v) = x_lr x := rfl
theorem g_lr_on (x : zSt) (v : Nat) : x_lr (u_on x v) = x_lr x := rfl
theorem g_lr_nl (x : zSt) (v : Nat) : x_lr (u_nl x v) = x_lr x := rfl
theorem g_lr_ng (x : zSt) (v : Nat) : x_lr (u_ng x v) = x_lr x := rfl
theorem g_lr_rg (x : zSt) (v : Nat) : x_lr (u_rg x v) = x_lr x := rfl
theorem g_lr_lc (x : zSt) (v : Nat → Int32) : x_lr (u_lc x v) = x_lr x := rfl
theorem g_lr_cp (x : zSt) (v : Nat → Nat) : x_lr (u_cp x v) = x_lr x := rfl
theorem g_lr_gb (x : zSt) (v : Nat → Nat → Option zAE) : x_lr (u_gb x v) = x_lr x := rfl
theorem g_lr_sp (x : zSt) (v : Nat → Nat) : x_lr (u_sp x v) = x_lr x := rfl
theorem g_lr_kn (x : zSt) (v : Nat → Int64) : x_lr (u_kn x v) = x_lr x := rfl
theorem g_lr_me (x : zSt) (v : Nat → Int64) : x_lr (u_me x v) = x_lr x := rfl
theorem g_lr_ob (x : zSt) (v : Nat → Nat → Int64) : x_lr (u_ob x v) = x_lr x := rfl
theorem g_lr_fk (x : zSt) (v : Nat → Nat → Int32) : x_lr (u_fk x v) = x_lr x := rfl
theorem g_lr_fz (x : zSt) (v : Nat → Nat → Nat) : x_lr (u_fz x v) = x_lr x := rfl
theorem g_lr_fg (x : zSt) (v : Nat → Nat → Nat → Int32) : x_lr (u_fg x v) = x_lr x := rfl
theorem g_lr_rd (x : zSt) (v : Nat → Int32) : x_lr (u_rd x v) = x_lr x := rfl
theorem g_lr_rz (x : zSt) (v : Nat → Nat) : x_lr (u_rz x v) = x_lr x := rfl
theorem g_lr_rh (x : zSt) (v : Nat → Nat → Int32) : x_lr (u_rh x v) = x_lr x := rfl
theorem g_lr_nd (x : zSt) (v : Nat → Int32) : x_lr (u_nd x v) = x_lr x := rfl
theorem g_lr_nm (x : zSt) (v : Nat → Int32) : x_lr (u_nm x v) = x_lr x := rfl
theorem g_lr_nv (x : zSt) (v : Nat → Int32) : x_lr (u_nv x v) = x_lr x := rfl
theorem g_lr_nh (x : zSt) (v : Nat → Int32) : x_lr (u_nh x v) = x_lr x := rfl
theorem g_lr_nf (x : zSt) (v : Nat → Nat → Int32) : x_lr (u_nf x v) = x_lr x := rfl
theorem g_lr_wr (x : zSt) (v : Nat → Nat) : x_lr (u_wr x v) = x_lr x := rfl
theorem g_lr_wa (x : zSt) (v : Nat → Bool) : x_lr (u_wa x v) = x_lr x := rfl
theorem g_lr_lz (x : zSt) (v : Nat → Nat) : x_lr (u_lz x v) = x_lr x := rfl
theorem g_lr_lf (x : zSt) (v : Nat → Nat) : x_lr (u_lf x v) = x_lr x := rfl
theorem g_lr_li (x : zSt) (v : Nat → Nat → Int32) : x_lr (u_li x v) = x_lr x := rfl
theorem g_lr_lt (x : zSt) (v : Nat → Nat → Int64) : x_lr (u_lt x v) = x_lr x := rfl
theorem g_lr_lb (x : zSt) (v : Nat → Nat → Int64) : x_lr (u_lb x v) = x_lr x := rfl
theorem g_lr_lr (x : zSt) (v : Nat → Nat → Option (Nat → Int64)) : x_lr (u_lr x v) = v := rfl
theorem g_lr_tn (x : zSt) (v : Nat) : x_lr (u_tn x v) = x_lr x := rfl
theorem g_lr_tf (x : zSt) (v : Nat → Nat → Int32) : x_lr (u_tf x v) = x_lr x := rfl
theorem g_tn_dk (x : zSt) (v : Nat) : x_tn (u_dk x v) = x_tn x := rfl
theorem g_tn_lk (x : zSt) (v : Int32) : x_tn (u_lk x v) = x_tn x := rfl
theorem g_tn_po (x : zSt) (v : Int32) : x_tn (u_po x v) = x_tn x := rfl
theorem g_tn_ne (x : zSt) (v : Int32) : x_tn (u_ne x v) = x_tn x := rfl
theorem g_tn_td (x : zSt) (v : Int32) : x_tn (u_td x v) = x_tn x := rfl
theorem g_tn_nb (x : zSt) (v : Nat → Int32) : x_tn (u_nb x v) = x_tn x := rfl
theorem g_tn_ln (x : zSt) (v : Nat → Option Nat) : x_tn (u_ln x v) = x_tn x := rfl
theorem g_tn_nr (x : zSt) (v : Nat) : x_tn (u_nr x v) = x_tn x := rfl
theorem g_tn_nw (x : zSt) (v : Nat) : x_tn (u_nw x v) = x_tn x := rfl
theorem g_tn_nn (x : zSt) (v : Nat) : x_tn (u_nn x v) = x_tn x := rfl
theorem g_tn_ns (x : zSt) (v : Nat) : x_tn (u_ns x v) = x_tn x := rfl
theorem g_tn_or (x : zSt) (v : Nat) : x_tn (u_or x v) = x_tn x := rfl
theorem g_tn_ow (x : zSt) (v : Nat) : x_tn (u_ow x v) = x_tn x := rfl
theorem g_tn_on (x : zSt) (v : Nat) : x_tn (u_on x v) = x_tn x := rfl
theorem g_tn_nl (x : zSt) (v : Nat) : x_tn (u_nl x v) = x_tn x := rfl
theorem g_tn_ng (x : zSt) (v : Nat) : x_tn (u_ng x v) = x_tn x := rfl
theorem g_tn_rg (x : zSt) (v : Nat) : x_tn (u_rg x v) = x_tn x := rfl
theorem g_tn_lc (x : zSt) (v : Nat → Int32) : x_tn (u_lc x v) = x_tn x := rfl
theorem g_tn_cp (x : zSt) (v : Nat → Nat) : x_tn (u_cp x v) = x_tn x := rfl
theorem g_tn_gb (x : zSt) (v : Nat → Nat → Option zAE) : x_tn (u_gb x v) = x_tn x := rfl
theorem g_tn_sp (x : zSt) (v : Nat → Nat) : x_tn (u_sp x v) = x_tn x := rfl
theorem g_tn_kn (x : zSt) (v : Nat → Int64) : x_tn (u_kn x v) = x_tn x := rfl
theorem g_tn_me (x : zSt) (v : Nat → Int64) : x_tn (u_me x v) = x_tn x := rfl
theorem g_tn_ob (x : zSt) (v : Nat → Nat → Int64) : x_tn (u_ob x v) = x_tn x := rfl
theorem g_tn_fk (x : zSt) (v : Nat → Nat → Int32) : x_tn (u_fk x v) = x_tn x := rfl
theorem g_tn_fz (x : zSt) (v : Nat → Nat → Nat) : x_tn (u_fz x v) = x_tn x := rfl
theorem g_tn_fg (x : zSt) (v : Nat → Nat → Nat → Int32) : x_tn (u_fg x v) = x_tn x := rfl
theorem g_tn_rd (x : zSt) (v : Nat → Int32) : x_tn (u_rd x v) = x_tn x := rfl
theorem g_tn_rz (x : zSt) (v : Nat → Nat) : x_tn (u_rz x v) = x_tn x := rfl
theorem g_tn_rh (x : zSt) (v : Nat → Nat → Int32) : x_tn (u_rh x v) = x_tn x := rfl
theorem g_tn_nd (x : zSt) (v : Nat → Int32) : x_tn (u_nd x v) = x_tn x := rfl
theorem g_tn_nm (x : zSt) (v : Nat → Int32) : x_tn (u_nm x v) = x_tn x := rfl
theorem g_tn_nv (x : zSt) (v : Nat → Int32) : x_tn (u_nv x v) = x_tn x := rfl
theorem g_tn_nh (x : zSt) (v : Nat → Int32) : x_tn (u_nh x v) = x_tn x := rfl
theorem g_tn_nf (x : zSt) (v : Nat → Nat → Int32) : x_tn (u_nf x v) = x_tn x := rfl
theorem g_tn_wr (x : zSt) (v : Nat → Nat) : x_tn (u_wr x v) = x_tn x := rfl
theorem g_tn_wa (x : zSt) (v : Nat → Bool) : x_tn (u_wa x v) = x_tn x := rfl
theorem g_tn_lz (x : zSt) (v : Nat → Nat) : x_tn (u_lz x v) = x_tn x := rfl
theorem g_tn_lf (x : zSt) (v : Nat → Nat) : x_tn (u_lf x v) = x_tn x := rfl
theorem g_tn_li (x : zSt) (v : Nat → Nat → Int32) : x_tn (u_li x v) = x_tn x := rfl
theorem g_tn_lt (x : zSt) (v : Nat → Nat → Int64) : x_tn (u_lt x v) = x_tn x := rfl
theorem g_tn_lb (x : zSt) (v : Nat → Nat → Int64) : x_tn (u_lb x v) = x_tn x := rfl
theorem g_tn_lr (x : zSt) (v : Nat → Nat → Option (Nat → Int64)) : x_tn (u_lr x v) = x_tn x := rfl
theorem g_tn_tn (x : zSt) (v : Nat) : x_tn (u_tn x v) = v := rfl
theorem g_tn_tf (x : zSt) (v : Nat → Nat → Int32) : x_tn (u_tf x v) = x_tn x := rfl
theorem g_tf_dk (x : zSt) (v : Nat) : x_tf (u_dk x v) = x_tf x := rfl
theorem g_tf_lk (x : zSt) (v : Int32) : x_tf (u_lk x v) = x_tf x := rfl
theorem g_tf_po (x : zSt) (v : Int32) : x_tf (u_po x v) = x_tf x := rfl
theorem g_tf_ne (x : zSt) (v : Int32) : x_tf (u_ne x v) = x_tf x := rfl
theorem g_tf_td (x : zSt) (v : Int32) : x_tf (u_td x v) = x_tf x := rfl
theorem g_tf_nb (x : zSt) (v : Nat → Int32) : x_tf (u_nb x v) = x_tf x := rfl
theorem g_tf_ln (x : zSt) (v : Nat → Option Nat) : x_tf (u_ln x v) = x_tf x := rfl
theorem g_tf_nr (x : zSt) (v : Nat) : x_tf (u_nr x v) = x_tf x := rfl
theorem g_tf_nw (x : zSt) (v : Nat) : x_tf (u_nw x v) = x_tf x := rfl
theorem g_tf_nn (x : zSt) (v : Nat) : x_tf (u_nn x v) = x_tf x := rfl
theorem g_tf_ns (x : zSt) (v : Nat) : x_tf (u_ns x v) = x_tf x := rfl
theorem g_tf_or (x : zSt) (v : Nat) : x_tf (u_or x v) = x_tf x := rfl
theorem g_tf_ow (x : zSt) (v : Nat) : x_tf (u_ow x v) = x_tf x := rfl
theorem g_tf_on (x : zSt) (v : Nat) : x_tf (u_on x v) = x_tf x := rfl
theorem g_tf_nl (x : zSt) (v : Nat) : x_tf (u_nl x v) = x_tf x := rfl
theorem g_tf_ng (x : zSt) (v : Nat) : x_tf (u_ng x v) = x_tf x := rfl
theorem g_tf_rg (x : zSt) (v : Nat) : x_tf (u_rg x v) = x_tf x := rfl
theorem g_tf_lc (x : zSt) (v : Nat → Int32) : x_tf (u_lc x v) = x_tf x := rfl
theorem g_tf_cp (x : zSt) (v : Nat → Nat) : x_tf (u_cp x v) = x_tf x := rfl
theorem g_tf_gb (x : zSt) (v : Nat → Nat → Option zAE) : x_tf (u_gb x v) = x_tf x := rfl
theorem g_tf_sp (x : zSt) (v : Nat → Nat) : x_tf (u_sp x v) = x_tf x := rfl
theorem g_tf_kn (x : zSt) (v : Nat → Int64) : x_tf (u_kn x v) = x_tf x := rfl
theorem g_tf_me (x : zSt) (v : Nat → Int64) : x_tf (u_me x v) = x_tf x := rfl
theorem g_tf_ob (x : zSt) (v : Nat → Nat → Int64) : x_tf (u_ob x v) = x_tf x := rfl
theorem g_tf_fk (x : zSt) (v : Nat → Nat → Int32) : x_tf (u_fk x v) = x_tf x := rfl
theorem g_tf_fz (x : zSt) (v : Nat → Nat → Nat) : x_tf (u_fz x v) = x_tf x := rfl
theorem g_tf_fg (x : zSt) (v : Nat → Nat → Nat → Int32) : x_tf (u_fg x v) = x_tf x := rfl
theorem g_tf_rd (x : zSt) (v : Nat → Int32) : x_tf (u_rd x v) = x_tf x := rfl
theorem g_tf_rz (x : zSt) (v : Nat → Nat) : x_tf (u_rz x v) = x_tf x := rfl
theorem g_tf_rh (x : zSt) (v : Nat → Nat → Int32) : x_tf (u_rh x v) = x_tf x := rfl
theorem g_tf_nd (x : zSt) (v : Nat → Int32) : x_tf (u_nd x v) = x_tf x := rfl
theorem g_tf_nm (x : zSt) (v : Nat → Int32) : x_tf (u_nm x v) = x_tf x := rfl
theorem g_tf_nv (x : zSt) (v : Nat → Int32) : x_tf (u_nv x v) = x_tf x := rfl
theorem g_tf_nh (x : zSt) (v : Nat → Int32) : x_tf (u_nh x v) = x_tf x := rfl
theorem g_tf_nf (x : zSt) (v : Nat → Nat → Int32) : x_tf (u_nf x v) = x_tf x := rfl
theorem g_tf_wr (x : zSt) (v : Nat → Nat) : x_tf (u_wr x v) = x_tf x := rfl
theorem g_tf_wa (x : zSt) (v : Nat → Bool) : x_tf (u_wa x v) = x_tf x := rfl
theorem g_tf_lz (x : zSt) (v : Nat → Nat) : x_tf (u_lz x v) = x_tf x := rfl
theorem g_tf_lf (x : zSt) (v : Nat → Nat) : x_tf (u_lf x v) = x_tf x := rfl
theorem g_tf_li (x : zSt) (v : Nat → Nat → Int32) : x_tf (u_li x v) = x_tf x := rfl
theorem g_tf_lt (x : zSt) (v : Nat → Nat → Int64) : x_tf (u_lt x v) = x_tf x := rfl
theorem g_tf_lb (x : zSt) (v : Nat → Nat → Int64) : x_tf (u_lb x v) = x_tf x := rfl
theorem g_tf_lr (x : zSt) (v : Nat → Nat → Option (Nat → Int64)) : x_tf (u_lr x v) = x_tf x := rfl
theorem g_tf_tn (x : zSt) (v : Nat) : x_tf (u_tn x v) = x_tf x := rfl
theorem g_tf_tf (x : zSt) (v : Nat → Nat → Int32) : x_tf (u_tf x v) = v := rfl
