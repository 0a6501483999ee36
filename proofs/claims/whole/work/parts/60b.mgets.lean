/-! reading what was set, in the reference -/
theorem k_dk_dk (x : zMS) (v : Nat) : y_dk (v_dk x v) = v := rfl
theorem k_dk_nr (x : zMS) (v : Nat) : y_dk (v_nr x v) = y_dk x := rfl
theorem k_dk_nw (x : zMS) (v : Nat) : y_dk (v_nw x v) = y_dk x := rfl
theorem k_dk_nn (x : zMS) (v : Nat) : y_dk (v_nn x v) = y_dk x := rfl
theorem k_dk_ms (x : zMS) (v : Nat) : y_dk (v_ms x v) = y_dk x := rfl
theorem k_dk_cp (x : zMS) (v : Nat) : y_dk (v_cp x v) = y_dk x := rfl
theorem k_dk_po (x : zMS) (v : Int32) : y_dk (v_po x v) = y_dk x := rfl
theorem k_dk_ne (x : zMS) (v : Int32) : y_dk (v_ne x v) = y_dk x := rfl
theorem k_dk_td (x : zMS) (v : Int32) : y_dk (v_td x v) = y_dk x := rfl
theorem k_dk_lk (x : zMS) (v : Nat → Bool) : y_dk (v_lk x v) = y_dk x := rfl
theorem k_dk_do (x : zMS) (v : Nat → Int32) : y_dk (v_do x v) = y_dk x := rfl
theorem k_dk_ro (x : zMS) (v : Nat → Nat) : y_dk (v_ro x v) = y_dk x := rfl
theorem k_dk_al (x : zMS) (v : Nat → Bool) : y_dk (v_al x v) = y_dk x := rfl
theorem k_dk_kd (x : zMS) (v : Nat → Int32) : y_dk (v_kd x v) = y_dk x := rfl
theorem k_dk_mn (x : zMS) (v : Nat → Nat) : y_dk (v_mn x v) = y_dk x := rfl
theorem k_dk_nu (x : zMS) (v : Nat → Int32) : y_dk (v_nu x v) = y_dk x := rfl
theorem k_dk_fi (x : zMS) (v : Nat → Int32) : y_dk (v_fi x v) = y_dk x := rfl
theorem k_dk_sa (x : zMS) (v : Nat → Int32) : y_dk (v_sa x v) = y_dk x := rfl
theorem k_dk_wt (x : zMS) (v : Nat → Int32) : y_dk (v_wt x v) = y_dk x := rfl
theorem k_dk_hh (x : zMS) (v : Nat → Bool) : y_dk (v_hh x v) = y_dk x := rfl
theorem k_dk_he (x : zMS) (v : Nat → Int32) : y_dk (v_he x v) = y_dk x := rfl
theorem k_dk_hm (x : zMS) (v : Nat → Nat) : y_dk (v_hm x v) = y_dk x := rfl
theorem k_dk_tb (x : zMS) (v : Nat → Int64) : y_dk (v_tb x v) = y_dk x := rfl
theorem k_dk_to (x : zMS) (v : Nat → Int64) : y_dk (v_to x v) = y_dk x := rfl
theorem k_dk_fr (x : zMS) (v : Nat → Nat) : y_dk (v_fr x v) = y_dk x := rfl
theorem k_dk_tt (x : zMS) (v : Nat → Nat) : y_dk (v_tt x v) = y_dk x := rfl
theorem k_dk_wh (x : zMS) (v : Nat → Int32) : y_dk (v_wh x v) = y_dk x := rfl
theorem k_dk_rw (x : zMS) (v : Nat → Int64) : y_dk (v_rw x v) = y_dk x := rfl
theorem k_dk_lo (x : zMS) (v : Nat → Int64) : y_dk (v_lo x v) = y_dk x := rfl
theorem k_dk_hi (x : zMS) (v : Nat → Int64) : y_dk (v_hi x v) = y_dk x := rfl
theorem k_dk_cv (x : zMS) (v : Nat → Bool) : y_dk (v_cv x v) = y_dk x := rfl
theorem k_dk_so (x : zMS) (v : Nat → Int64) : y_dk (v_so x v) = y_dk x := rfl
theorem k_dk_me (x : zMS) (v : Nat → Int64) : y_dk (v_me x v) = y_dk x := rfl
theorem k_dk_re (x : zMS) (v : Nat → Bool) : y_dk (v_re x v) = y_dk x := rfl
theorem k_dk_gb (x : zMS) (v : Nat → Nat → Option zAE) : y_dk (v_gb x v) = y_dk x := rfl
theorem k_nr_dk (x : zMS) (v : Nat) : y_nr (v_dk x v) = y_nr x := rfl
theorem k_nr_nr (x : zMS) (v : Nat) : y_nr (v_nr x v) = v := rfl
theorem k_nr_nw (x : zMS) (v : Nat) : y_nr (v_nw x v) = y_nr x := rfl
theorem k_nr_nn (x : zMS) (v : Nat) : y_nr (v_nn x v) = y_nr x := rfl
theorem k_nr_ms (x : zMS) (v : Nat) : y_nr (v_ms x v) = y_nr x := rfl
theorem k_nr_cp (x : zMS) (v : Nat) : y_nr (v_cp x v) = y_nr x := rfl
theorem k_nr_po (x : zMS) (v : Int32) : y_nr (v_po x v) = y_nr x := rfl
theorem k_nr_ne (x : zMS) (v : Int32) : y_nr (v_ne x v) = y_nr x := rfl
theorem k_nr_td (x : zMS) (v : Int32) : y_nr (v_td x v) = y_nr x := rfl
theorem k_nr_lk (x : zMS) (v : Nat → Bool) : y_nr (v_lk x v) = y_nr x := rfl
theorem k_nr_do (x : zMS) (v : Nat → Int32) : y_nr (v_do x v) = y_nr x := rfl
theorem k_nr_ro (x : zMS) (v : Nat → Nat) : y_nr (v_ro x v) = y_nr x := rfl
theorem k_nr_al (x : zMS) (v : Nat → Bool) : y_nr (v_al x v) = y_nr x := rfl
theorem k_nr_kd (x : zMS) (v : Nat → Int32) : y_nr (v_kd x v) = y_nr x := rfl
theorem k_nr_mn (x : zMS) (v : Nat → Nat) : y_nr (v_mn x v) = y_nr x := rfl
theorem k_nr_nu (x : zMS) (v : Nat → Int32) : y_nr (v_nu x v) = y_nr x := rfl
theorem k_nr_fi (x : zMS) (v : Nat → Int32) : y_nr (v_fi x v) = y_nr x := rfl
theorem k_nr_sa (x : zMS) (v : Nat → Int32) : y_nr (v_sa x v) = y_nr x := rfl
theorem k_nr_wt (x : zMS) (v : Nat → Int32) : y_nr (v_wt x v) = y_nr x := rfl
theorem k_nr_hh (x : zMS) (v : Nat → Bool) : y_nr (v_hh x v) = y_nr x := rfl
theorem k_nr_he (x : zMS) (v : Nat → Int32) : y_nr (v_he x v) = y_nr x := rfl
theorem k_nr_hm (x : zMS) (v : Nat → Nat) : y_nr (v_hm x v) = y_nr x := rfl
theorem k_nr_tb (x : zMS) (v : Nat → Int64) : y_nr (v_tb x v) = y_nr x := rfl
theorem k_nr_to (x : zMS) (v : Nat → Int64) : y_nr (v_to x v) = y_nr x := rfl
theorem k_nr_fr (x : zMS) (v : Nat → Nat) : y_nr (v_fr x v) = y_nr x := rfl
theorem k_nr_tt (x : zMS) (v : Nat → Nat) : y_nr (v_tt x v) = y_nr x := rfl
theorem k_nr_wh (x : zMS) (v : Nat → Int32) : y_nr (v_wh x v) = y_nr x := rfl
theorem k_nr_rw (x : zMS) (v : Nat → Int64) : y_nr (v_rw x v) = y_nr x := rfl
theorem k_nr_lo (x : zMS) (v : Nat → Int64) : y_nr (v_lo x v) = y_nr x := rfl
theorem k_nr_hi (x : zMS) (v : Nat → Int64) : y_nr (v_hi x v) = y_nr x := rfl
theorem k_nr_cv (x : zMS) (v : Nat → Bool) : y_nr (v_cv x v) = y_nr x := rfl
theorem k_nr_so (x : zMS) (v : Nat → Int64) : y_nr (v_so x v) = y_nr x := rfl
theorem k_nr_me (x : zMS) (v : Nat → Int64) : y_nr (v_me x v) = y_nr x := rfl
theorem k_nr_re (x : zMS) (v : Nat → Bool) : y_nr (v_re x v) = y_nr x := rfl
theorem k_nr_gb (x : zMS) (v : Nat → Nat → Option zAE) : y_nr (v_gb x v) = y_nr x := rfl
theorem k_nw_dk (x : zMS) (v : Nat) : y_nw (v_dk x v) = y_nw x := rfl
theorem k_nw_nr (x : zMS) (v : Nat) : y_nw (v_nr x v) = y_nw x := rfl
theorem k_nw_nw (x : zMS) (v : Nat) : y_nw (v_nw x v) = v := rfl
theorem k_nw_nn (x : zMS) (v : Nat) : y_nw (v_nn x v) = y_nw x := rfl
theorem k_nw_ms (x : zMS) (v : Nat) : y_nw (v_ms x v) = y_nw x := rfl
theorem k_nw_cp (x : zMS) (v : Nat) : y_nw (v_cp x v) = y_nw x := rfl
theorem k_nw_po (x : zMS) (v : Int32) : y_nw (v_po x v) = y_nw x := rfl
theorem k_nw_ne (x : zMS) (v : Int32) : y_nw (v_ne x v) = y_nw x := rfl
theorem k_nw_td (x : zMS) (v : Int32) : y_nw (v_td x v) = y_nw x := rfl
theorem k_nw_lk (x : zMS) (v : Nat → Bool) : y_nw (v_lk x v) = y_nw x := rfl
theorem k_nw_do (x : zMS) (v : Nat → Int32) : y_nw (v_do x v) = y_nw x := rfl
theorem k_nw_ro (x : zMS) (v : Nat → Nat) : y_nw (v_ro x v) = y_nw x := rfl
theorem k_nw_al (x : zMS) (v : Nat → Bool) : y_nw (v_al x v) = y_nw x := rfl
theorem k_nw_kd (x : zMS) (v : Nat → Int32) : y_nw (v_kd x v) = y_nw x := rfl
theorem k_nw_mn (x : zMS) (v : Nat → Nat) : y_nw (v_mn x v) = y_nw x := rfl
theorem k_nw_nu (x : zMS) (v : Nat → Int32) : y_nw (v_nu x v) = y_nw x := rfl
theorem k_nw_fi (x : zMS) (v : Nat → Int32) : y_nw (v_fi x v) = y_nw x := rfl
theorem k_nw_sa (x : zMS) (v : Nat → Int32) : y_nw (v_sa x v) = y_nw x := rfl
theorem k_nw_wt (x : zMS) (v : Nat → Int32) : y_nw (v_wt x v) = y_nw x := rfl
theorem k_nw_hh (x : zMS) (v : Nat → Bool) : y_nw (v_hh x v) = y_nw x := rfl
theorem k_nw_he (x : zMS) (v : Nat → Int32) : y_nw (v_he x v) = y_nw x := rfl
theorem k_nw_hm (x : zMS) (v : Nat → Nat) : y_nw (v_hm x v) = y_nw x := rfl
theorem k_nw_tb (x : zMS) (v : Nat → Int64) : y_nw (v_tb x v) = y_nw x := rfl
theorem k_nw_to (x : zMS) (v : Nat → Int64) : y_nw (v_to x v) = y_nw x := rfl
theorem k_nw_fr (x : zMS) (v : Nat → Nat) : y_nw (v_fr x v) = y_nw x := rfl
theorem k_nw_tt (x : zMS) (v : Nat → Nat) : y_nw (v_tt x v) = y_nw x := rfl
theorem k_nw_wh (x : zMS) (v : Nat → Int32) : y_nw (v_wh x v) = y_nw x := rfl
theorem k_nw_rw (x : zMS) (v : Nat → Int64) : y_nw (v_rw x v) = y_nw x := rfl
theorem k_nw_lo (x : zMS) (v : Nat → Int64) : y_nw (v_lo x v) = y_nw x := rfl
theorem k_nw_hi (x : zMS) (v : Nat → Int64) : y_nw (v_hi x v) = y_nw x := rfl
theorem k_nw_cv (x : zMS) (v : Nat → Bool) : y_nw (v_cv x v) = y_nw x := rfl
theorem k_nw_so (x : zMS) (v : Nat → Int64) : y_nw (v_so x v) = y_nw x := rfl
theorem k_nw_me (x : zMS) (v : Nat → Int64) : y_nw (v_me x v) = y_nw x := rfl
theorem k_nw_re (x : zMS) (v : Nat → Bool) : y_nw (v_re x v) = y_nw x := rfl
theorem k_nw_gb (x : zMS) (v : Nat → Nat → Option zAE) : y_nw (v_gb x v) = y_nw x := rfl
theorem k_nn_dk (x : zMS) (v : Nat) : y_nn (v_dk x v) = y_nn x := rfl
theorem k_nn_nr (x : zMS) (v : Nat) : y_nn (v_nr x v) = y_nn x := rfl
theorem k_nn_nw (x : zMS) (v : Nat) : y_nn (v_nw x v) = y_nn x := rfl
theorem k_nn_nn (x : zMS) (v : Nat) : y_nn (v_nn x v) = v := rfl
theorem k_nn_ms (x : zMS) (v : Nat) : y_nn (v_ms x v) = y_nn x := rfl
theorem k_nn_cp (x : zMS) (v : Nat) : y_nn (v_cp x v) = y_nn x := rfl
theorem k_nn_po (x : zMS) (v : Int32) : y_nn (v_po x v) = y_nn x := rfl
theorem k_nn_ne (x : zMS) (v : Int32) : y_nn (v_ne x v) = y_nn x := rfl
theorem k_nn_td (x : zMS) (v : Int32) : y_nn (v_td x v) = y_nn x := rfl
theorem k_nn_lk (x : zMS) (v : Nat → Bool) : y_nn (v_lk x v) = y_nn x := rfl
theorem k_nn_do (x : zMS) (v : Nat → Int32) : y_nn (v_do x v) = y_nn x := rfl
theorem k_nn_ro (x : zMS) (v : Nat → Nat) : y_nn (v_ro x v) = y_nn x := rfl
theorem k_nn_al (x : zMS) (v : Nat → Bool) : y_nn (v_al x v) = y_nn x := rfl
theorem k_nn_kd (x : zMS) (v : Nat → Int32) : y_nn (v_kd x v) = y_nn x := rfl
theorem k_nn_mn (x : zMS) (v : Nat → Nat) : y_nn (v_mn x v) = y_nn x := rfl
theorem k_nn_nu (x : zMS) (v : Nat → Int32) : y_nn (v_nu x v) = y_nn x := rfl
theorem k_nn_fi (x : zMS) (v : Nat → Int32) : y_nn (v_fi x v) = y_nn x := rfl
theorem k_nn_sa (x : zMS) (v : Nat → Int32) : y_nn (v_sa x v) = y_nn x := rfl
theorem k_nn_wt (x : zMS) (v : Nat → Int32) : y_nn (v_wt x v) = y_nn x := rfl
theorem k_nn_hh (x : zMS) (v : Nat → Bool) : y_nn (v_hh x v) = y_nn x := rfl
theorem k_nn_he (x : zMS) (v : Nat → Int32) : y_nn (v_he x v) = y_nn x := rfl
theorem k_nn_hm (x : zMS) (v : Nat → Nat) : y_nn (v_hm x v) = y_nn x := rfl
theorem k_nn_tb (x : zMS) (v : Nat → Int64) : y_nn (v_tb x v) = y_nn x := rfl
theorem k_nn_to (x : zMS) (v : Nat → Int64) : y_nn (v_to x v) = y_nn x := rfl
theorem k_nn_fr (x : zMS) (v : Nat → Nat) : y_nn (v_fr x v) = y_nn x := rfl
theorem k_nn_tt (x : zMS) (v : Nat → Nat) : y_nn (v_tt x v) = y_nn x := rfl
theorem k_nn_wh (x : zMS) (v : Nat → Int32) : y_nn (v_wh x v) = y_nn x := rfl
theorem k_nn_rw (x : zMS) (v : Nat → Int64) : y_nn (v_rw x v) = y_nn x := rfl
theorem k_nn_lo (x : zMS) (v : Nat → Int64) : y_nn (v_lo x v) = y_nn x := rfl
theorem k_nn_hi (x : zMS) (v : Nat → Int64) : y_nn (v_hi x v) = y_nn x := rfl
theorem k_nn_cv (x : zMS) (v : Nat → Bool) : y_nn (v_cv x v) = y_nn x := rfl
theorem k_nn_so (x : zMS) (v : Nat → Int64) : y_nn (v_so x v) = y_nn x := rfl
theorem k_nn_me (x : zMS) (v : Nat → Int64) : y_nn (v_me x v) = y_nn x := rfl
theorem k_nn_re (x : zMS) (v : Nat → Bool) : y_nn (v_re x v) = y_nn x := rfl
theorem k_nn_gb (x : zMS) (v : Nat → Nat → Option zAE) : y_nn (v_gb x v) = y_nn x := rfl
theorem k_ms_dk (x : zMS) (v : Nat) : y_ms (v_dk x v) = y_ms x := rfl
theorem k_ms_nr (x : zMS) (v : Nat) : y_ms (v_nr x v) = y_ms x := rfl
theorem k_ms_nw (x : zMS) (v : Nat) : y_ms (v_nw x v) = y_ms x := rfl
theorem k_ms_nn (x : zMS) (v : Nat) : y_ms (v_nn x v) = y_ms x := rfl
theorem k_ms_ms (x : zMS) (v : Nat) : y_ms (v_ms x v) = v := rfl
theorem k_ms_cp (x : zMS) (v : Nat) : y_ms (v_cp x v) = y_ms x := rfl
theorem k_ms_po (x : zMS) (v : Int32) : y_ms (v_po x v) = y_ms x := rfl
theorem k_ms_ne (x : zMS) (v : Int32) : y_ms (v_ne x v) = y_ms x := rfl
theorem k_ms_td (x : zMS) (v : Int32) : y_ms (v_td x v) = y_ms x := rfl
theorem k_ms_lk (x : zMS) (v : Nat → Bool) : y_ms (v_lk x v) = y_ms x := rfl
theorem k_ms_do (x : zMS) (v : Nat → Int32) : y_ms (v_do x v) = y_ms x := rfl
theorem k_ms_ro (x : zMS) (v : Nat → Nat) : y_ms (v_ro x v) = y_ms x := rfl
theorem k_ms_al (x : zMS) (v : Nat → Bool) : y_ms (v_al x v) = y_ms x := rfl
theorem k_ms_kd (x : zMS) (v : Nat → Int32) : y_ms (v_kd x v) = y_ms x := rfl
theorem k_ms_mn (x : zMS) (v : Nat → Nat) : y_ms (v_mn x v) = y_ms x := rfl
theorem k_ms_nu (x : zMS) (v : Nat → Int32) : y_ms (v_nu x v) = y_ms x := rfl
theorem k_ms_fi (x : zMS) (v : Nat → Int32) : y_ms (v_fi x v) = y_ms x := rfl
theorem k_ms_sa (x : zMS) (v : Nat → Int32) : y_ms (v_sa x v) = y_ms x := rfl
theorem k_ms_wt (x : zMS) (v : Nat → Int32) : y_ms (v_wt x v) = y_ms x := rfl
theorem k_ms_hh (x : zMS) (v : Nat → Bool) : y_ms (v_hh x v) = y_ms x := rfl
theorem k_ms_he (x : zMS) (v : Nat → Int32) : y_ms (v_he x v) = y_ms x := rfl
theorem k_ms_hm (x : zMS) (v : Nat → Nat) : y_ms (v_hm x v) = y_ms x := rfl
theorem k_ms_tb (x : zMS) (v : Nat → Int64) : y_ms (v_tb x v) = y_ms x := rfl
theorem k_ms_to (x : zMS) (v : Nat → Int64) : y_ms (v_to x v) = y_ms x := rfl
theorem k_ms_fr (x : zMS) (v : Nat → Nat) : y_ms (v_fr x v) = y_ms x := rfl
theorem k_ms_tt (x : zMS) (v : Nat → Nat) : y_ms (v_tt x v) = y_ms x := rfl
theorem k_ms_wh (x : zMS) (v : Nat → Int32) : y_ms (v_wh x v) = y_ms x := rfl
theorem k_ms_rw (x : zMS) (v : Nat → Int64) : y_ms (v_rw x v) = y_ms x := rfl
theorem k_ms_lo (x : zMS) (v : Nat → Int64) : y_ms (v_lo x v) = y_ms x := rfl
theorem k_ms_hi (x : zMS) (v : Nat → Int64) : y_ms (v_hi x v) = y_ms x := rfl
theorem k_ms_cv (x : zMS) (v : Nat → Bool) : y_ms (v_cv x v) = y_ms x := rfl
theorem k_ms_so (x : zMS) (v : Nat → Int64) : y_ms (v_so x v) = y_ms x := rfl
theorem k_ms_me (x : zMS) (v : Nat → Int64) : y_ms (v_me x v) = y_ms x := rfl
theorem k_ms_re (x : zMS) (v : Nat → Bool) : y_ms (v_re x v) = y_ms x := rfl
theorem k_ms_gb (x : zMS) (v : Nat → Nat → Option zAE) : y_ms (v_gb x v) = y_ms x := rfl
theorem k_cp_dk (x : zMS) (v : Nat) : y_cp (v_dk x v) = y_cp x := rfl
theorem k_cp_nr (x : zMS) (v : Nat) : y_cp (v_nr x v) = y_cp x := rfl
theorem k_cp_nw (x : zMS) (v : Nat) : y_cp (v_nw x v) = y_cp x := rfl
theorem k_cp_nn (x : zMS) (v : Nat) : y_cp (v_nn x v) = y_cp x := rfl
theorem k_cp_ms (x : zMS) (v : Nat) : y_cp (v_ms x v) = y_cp x := rfl
theorem k_cp_cp (x : zMS) (v : Nat) : y_cp (v_cp x v) = v := rfl
theorem k_cp_po (x : zMS) (v : Int32) : y_cp (v_po x v) = y_cp x := rfl
theorem k_cp_ne (x : zMS) (v : Int32) : y_cp (v_ne x v) = y_cp x := rfl
theorem k_cp_td (x : zMS) (v : Int32) : y_cp (v_td x v) = y_cp x := rfl
theorem k_cp_lk (x : zMS) (v : Nat → Bool) : y_cp (v_lk x v) = y_cp x := rfl
theorem k_cp_do (x : zMS) (v : Nat → Int32) : y_cp (v_do x v) = y_cp x := rfl
theorem k_cp_ro (x : zMS) (v : Nat → Nat) : y_cp (v_ro x v) = y_cp x := rfl
theorem k_cp_al (x : zMS) (v : Nat → Bool) : y_cp (v_al x v) = y_cp x := rfl
theorem k_cp_kd (x : zMS) (v : Nat → Int32) : y_cp (v_kd x v) = y_cp x := rfl
theorem k_cp_mn (x : zMS) (v : Nat → Nat) : y_cp (v_mn x v) = y_cp x := rfl
theorem k_cp_nu (x : zMS) (v : Nat → Int32) : y_cp (v_nu x v) = y_cp x := rfl
theorem k_cp_fi (x : zMS) (v : Nat → Int32) : y_cp (v_fi x v) = y_cp x := rfl
theorem k_cp_sa (x : zMS) (v : Nat → Int32) : y_cp (v_sa x v) = y_cp x := rfl
theorem k_cp_wt (x : zMS) (v : Nat → Int32) : y_cp (v_wt x v) = y_cp x := rfl
theorem k_cp_hh (x : zMS) (v : Nat → Bool) : y_cp (v_hh x v) = y_cp x := rfl
theorem k_cp_he (x : zMS) (v : Nat → Int32) : y_cp (v_he x v) = y_cp x := rfl
theorem k_cp_hm (x : zMS) (v : Nat → Nat) : y_cp (v_hm x v) = y_cp x := rfl
theorem k_cp_tb (x : zMS) (v : Nat → Int64) : y_cp (v_tb x v) = y_cp x := rfl
theorem k_cp_to (x : zMS) (v : Nat → Int64) : y_cp (v_to x v) = y_cp x := rfl
theorem k_cp_fr (x : zMS) (v : Nat → Nat) : y_cp (v_fr x v) = y_cp x := rfl
theorem k_cp_tt (x : zMS) (v : Nat → Nat) : y_cp (v_tt x v) = y_cp x := rfl
theorem k_cp_wh (x : zMS) (v : Nat → Int32) : y_cp (v_wh x v) = y_cp x := rfl
theorem k_cp_rw (x : zMS) (v : Nat → Int64) : y_cp (v_rw x v) = y_cp x := rfl
theorem k_cp_lo (x : zMS) (v : Nat → Int64) : y_cp (v_lo x v) = y_cp x := rfl
theorem k_cp_hi (x : zMS) (v : Nat → Int64) : y_cp (v_hi x v) = y_cp x := rfl
theorem k_cp_cv (x : zMS) (v : Nat → Bool) : y_cp (v_cv x v) = y_cp x := rfl
theorem k_cp_so (x : zMS) (v : Nat → Int64) : y_cp (v_so x v) = y_cp x := rfl
theorem k_cp_me (x : zMS) (v : Nat → Int64) : y_cp (v_me x v) = y_cp x := rfl
theorem k_cp_re (x : zMS) (v : Nat → Bool) : y_cp (v_re x v) = y_cp x := rfl
theorem k_cp_gb (x : zMS) (v : Nat → Nat → Option zAE) : y_cp (v_gb x v) = y_cp x := rfl
theorem k_po_dk (x : zMS) (v : Nat) : y_po (v_dk x v) = y_po x := rfl
theorem k_po_nr (x : zMS) (v : Nat) : y_po (v_nr x v) = y_po x := rfl
theorem k_po_nw (x : zMS) (v : Nat) : y_po (v_nw x v) = y_po x := rfl
theorem k_po_nn (x : zMS) (v : Nat) : y_po (v_nn x v) = y_po x := rfl
theorem k_po_ms (x : zMS) (v : Nat) : y_po (v_ms x v) = y_po x := rfl
theorem k_po_cp (x : zMS) (v : Nat) : y_po (v_cp x v) = y_po x := rfl
theorem k_po_po (x : zMS) (v : Int32) : y_po (v_po x v) = v := rfl
theorem k_po_ne (x : zMS) (v : Int32) : y_po (v_ne x v) = y_po x := rfl
theorem k_po_td (x : zMS) (v : Int32) : y_po (v_td x v) = y_po x := rfl
theorem k_po_lk (x : zMS) (v : Nat → Bool) : y_po (v_lk x v) = y_po x := rfl
theorem k_po_do (x : zMS) (v : Nat → Int32) : y_po (v_do x v) = y_po x := rfl
theorem k_po_ro (x : zMS) (v : Nat → Nat) : y_po (v_ro x v) = y_po x := rfl
theorem k_po_al (x : zMS) (v : Nat → Bool) : y_po (v_al x v) = y_po x := rfl
theorem k_po_kd (x : zMS) (v : Nat → Int32) : y_po (v_kd x v) = y_po x := rfl
theorem k_po_mn (x : zMS) (v : Nat → Nat) : y_po (v_mn x v) = y_po x := rfl
theorem k_po_nu (x : zMS) (v : Nat → Int32) : y_po (v_nu x v) = y_po x := rfl
theorem k_po_fi (x : zMS) (v : Nat → Int32) : y_po (v_fi x v) = y_po x := rfl
theorem k_po_sa (x : zMS) (v : Nat → Int32) : y_po (v_sa x v) = y_po x := rfl
theorem k_po_wt (x : zMS) (v : Nat → Int32) : y_po (v_wt x v) = y_po x := rfl
theorem k_po_hh (x : zMS) (v : Nat → Bool) : y_po (v_hh x v) = y_po x := rfl
theorem k_po_he (x : zMS) (v : Nat → Int32) : y_po (v_he x v) = y_po x := rfl
theorem k_po_hm (x : zMS) (v : Nat → Nat) : y_po (v_hm x v) = y_po x := rfl
theorem k_po_tb (x : zMS) (v : Nat → Int64) : y_po (v_tb x v) = y_po x := rfl
theorem k_po_to (x : zMS) (v : Nat → Int64) : y_po (v_to x v) = y_po x := rfl
theorem k_po_fr (x : zMS) (v : Nat → Nat) : y_po (v_fr x v) = y_po x := rfl
theorem k_po_tt (x : zMS) (v : Nat → Nat) : y_po (v_tt x v) = y_po x := rfl
theorem k_po_wh (x : zMS) (v : Nat → Int32) : y_po (v_wh x v) = y_po x := rfl
theorem k_po_rw (x : zMS) (v : Nat → Int64) : y_po (v_rw x v) = y_po x := rfl
theorem k_po_lo (x : zMS) (v : Nat → Int64) : y_po (v_lo x v) = y_po x := rfl
theorem k_po_hi (x : zMS) (v : Nat → Int64) : y_po (v_hi x v) = y_po x := rfl
theorem k_po_cv (x : zMS) (v : Nat → Bool) : y_po (v_cv x v) = y_po x := rfl
theorem k_po_so (x : zMS) (v : Nat → Int64) : y_po (v_so x v) = y_po x := rfl
theorem k_po_me (x : zMS) (v : Nat → Int64) : y_po (v_me x v) = y_po x := rfl
theorem k_po_re (x : zMS) (v : Nat → Bool) : y_po (v_re x v) = y_po x := rfl
theorem k_po_gb (x : zMS) (v : Nat → Nat → Option zAE) : y_po (v_gb x v) = y_po x := rfl
theorem k_ne_dk (x : zMS) (v : Nat) : y_ne (v_dk x v) = y_ne x := rfl
theorem k_ne_nr (x : zMS) (v : Nat) : y_ne (v_nr x v) = y_ne x := rfl
theorem k_ne_nw (x : zMS) (v : Nat) : y_ne (v_nw x v) = y_ne x := rfl
theorem k_ne_nn (x : zMS) (v : Nat) : y_ne (v_nn x v) = y_ne x := rfl
theorem k_ne_ms (x : zMS) (v : Nat) : y_ne (v_ms x v) = y_ne x := rfl
theorem k_ne_cp (x : zMS) (v : Nat) : y_ne (v_cp x v) = y_ne x := rfl
theorem k_ne_po (x : zMS) (v : Int32) : y_ne (v_po x v) = y_ne x := rfl
theorem k_ne_ne (x : zMS) (v : Int32) : y_ne (v_ne x v) = v := rfl
theorem k_ne_td (x : zMS) (v : Int32) : y_ne (v_td x v) = y_ne x := rfl
theorem k_ne_lk (x : zMS) (v : Nat → Bool) : y_ne (v_lk x v) = y_ne x := rfl
theorem k_ne_do (x : zMS) (v : Nat → Int32) : y_ne (v_do x v) = y_ne x := rfl
theorem k_ne_ro (x : zMS) (v : Nat → Nat) : y_ne (v_ro x v) = y_ne x := rfl
theorem k_ne_al (x : zMS) (v : Nat → Bool) : y_ne (v_al x v) = y_ne x := rfl
theorem k_ne_kd (x : zMS) (v : Nat → Int32) : y_ne (v_kd x v) = y_ne x := rfl
theorem k_ne_mn (x : zMS) (v : Nat → Nat) : y_ne (v_mn x v) = y_ne x := rfl
theorem k_ne_nu (x : zMS) (v : Nat → Int32) : y_ne (v_nu x v) = y_ne x := rfl
theorem k_ne_fi (x : zMS) (v : Nat → Int32) : y_ne (v_fi x v) = y_ne x := rfl
theorem k_ne_sa (x : zMS) (v : Nat → Int32) : y_ne (v_sa x v) = y_ne x := rfl
theorem k_ne_wt (x : zMS) (v : Nat → Int32) : y_ne (v_wt x v) = y_ne x := rfl
theorem k_ne_hh (x : zMS) (v : Nat → Bool) : y_ne (v_hh x v) = y_ne x := rfl
theorem k_ne_he (x : zMS) (v : Nat → Int32) : y_ne (v_he x v) = y_ne x := rfl
theorem k_ne_hm (x : zMS) (v : Nat → Nat) : y_ne (v_hm x v) = y_ne x := rfl
theorem k_ne_tb (x : zMS) (v : Nat → Int64) : y_ne (v_tb x v) = y_ne x := rfl
theorem k_ne_to (x : zMS) (v : Nat → Int64) : y_ne (v_to x v) = y_ne x := rfl
theorem k_ne_fr (x : zMS) (v : Nat → Nat) : y_ne (v_fr x v) = y_ne x := rfl
theorem k_ne_tt (x : zMS) (v : Nat → Nat) : y_ne (v_tt x v) = y_ne x := rfl
theorem k_ne_wh (x : zMS) (v : Nat → Int32) : y_ne (v_wh x v) = y_ne x := rfl
theorem k_ne_rw (x : zMS) (v : Nat → Int64) : y_ne (v_rw x v) = y_ne x := rfl
theorem k_ne_lo (x : zMS) (v : Nat → Int64) : y_ne (v_lo x v) = y_ne x := rfl
theorem k_ne_hi (x : zMS) (v : Nat → Int64) : y_ne (v_hi x v) = y_ne x := rfl
theorem k_ne_cv (x : zMS) (v : Nat → Bool) : y_ne (v_cv x v) = y_ne x := rfl
theorem k_ne_so (x : zMS) (v : Nat → Int64) : y_ne (v_so x v) = y_ne x := rfl
theorem k_ne_me (x : zMS) (v : Nat → Int64) : y_ne (v_me x v) = y_ne x := rfl
theorem k_ne_re (x : zMS) (v : Nat → Bool) : y_ne (v_re x v) = y_ne x := rfl
theorem k_ne_gb (x : zMS) (v : Nat → Nat → Option zAE) : y_ne (v_gb x v) = y_ne x := rfl
theorem k_td_dk (x : zMS) (v : Nat) : y_td (v_dk x v) = y_td x := rfl
theorem k_td_nr (x : zMS) (v : Nat) : y_td (v_nr x v) = y_td x := rfl
theorem k_td_nw (x : zMS) (v : Nat) : y_td (v_nw x v) = y_td x := rfl
theorem k_td_nn (x : zMS) (v : Nat) : y_td (v_nn x v) = y_td x := rfl
theorem k_td_ms (x : zMS) (v : Nat) : y_td (v_ms x v) = y_td x := rfl
theorem k_td_cp (x : zMS) (v : Nat) : y_td (v_cp x v) = y_td x := rfl
theorem k_td_po (x : zMS) (v : Int32) : y_td (v_po x v) = y_td x := rfl
theorem k_td_ne (x : zMS) (v : Int32) : y_td (v_ne x v) = y_td x := rfl
theorem k_td_td (x : zMS) (v : Int32) : y_td (v_td x v) = v := rfl
theorem k_td_lk (x : zMS) (v : Nat → Bool) : y_td (v_lk x v) = y_td x := rfl
theorem k_td_do (x : zMS) (v : Nat → Int32) : y_td (v_do x v) = y_td x := rfl
theorem k_td_ro (x : zMS) (v : Nat → Nat) : y_td (v_ro x v) = y_td x := rfl
theorem k_td_al (x : zMS) (v : Nat → Bool) : y_td (v_al x v) = y_td x := rfl
theorem k_td_kd (x : zMS) (v : Nat → Int32) : y_td (v_kd x v) = y_td x := rfl
theorem k_td_mn (x : zMS) (v : Nat → Nat) : y_td (v_mn x v) = y_td x := rfl
theorem k_td_nu (x : zMS) (v : Nat → Int32) : y_td (v_nu x v) = y_td x := rfl
theorem k_td_fi (x : zMS) (v : Nat → Int32) : y_td (v_fi x v) = y_td x := rfl
theorem k_td_sa (x : zMS) (v : Nat → Int32) : y_td (v_sa x v) = y_td x := rfl
theorem k_td_wt (x : zMS) (v : Nat → Int32) : y_td (v_wt x v) = y_td x := rfl
theorem k_td_hh (x : zMS) (v : Nat → Bool) : y_td (v_hh x v) = y_td x := rfl
theorem k_td_he (x : zMS) (v : Nat → Int32) : y_td (v_he x v) = y_td x := rfl
theorem k_td_hm (x : zMS) (v : Nat → Nat) : y_td (v_hm x v) = y_td x := rfl
theorem k_td_tb (x : zMS) (v : Nat → Int64) : y_td (v_tb x v) = y_td x := rfl
theorem k_td_to (x : zMS) (v : Nat → Int64) : y_td (v_to x v) = y_td x := rfl
theorem k_td_fr (x : zMS) (v : Nat → Nat) : y_td (v_fr x v) = y_td x := rfl
theorem k_td_tt (x : zMS) (v : Nat → Nat) : y_td (v_tt x v) = y_td x := rfl
theorem k_td_wh (x : zMS) (v : Nat → Int32) : y_td (v_wh x v) = y_td x := rfl
theorem k_td_rw (x : zMS) (v : Nat → Int64) : y_td (v_rw x v) = y_td x := rfl
theorem k_td_lo (x : zMS) (v : Nat → Int64) : y_td (v_lo x v) = y_td x := rfl
theorem k_td_hi (x : zMS) (v : Nat → Int64) : y_td (v_hi x v) = y_td x := rfl
theorem k_td_cv (x : zMS) (v : Nat → Bool) : y_td (v_cv x v) = y_td x := rfl
theorem k_td_so (x : zMS) (v : Nat → Int64) : y_td (v_so x v) = y_td x := rfl
theorem k_td_me (x : zMS) (v : Nat → Int64) : y_td (v_me x v) = y_td x := rfl
theorem k_td_re (x : zMS) (v : Nat → Bool) : y_td (v_re x v) = y_td x := rfl
theorem k_td_gb (x : zMS) (v : Nat → Nat → Option zAE) : y_td (v_gb x v) = y_td x := rfl
theorem k_lk_dk (x : zMS) (v : Nat) : y_lk (v_dk x v) = y_lk x := rfl
theorem k_lk_nr (x : zMS) (v : Nat) : y_lk (v_nr x v) = y_lk x := rfl
theorem k_lk_nw (x : zMS) (v : Nat) : y_lk (v_nw x v) = y_lk x := rfl
theorem k_lk_nn (x : zMS) (v : Nat) : y_lk (v_nn x v) = y_lk x := rfl
theorem k_lk_ms (x : zMS) (v : Nat) : y_lk (v_ms x v) = y_lk x := rfl
theorem k_lk_cp (x : zMS) (v : Nat) : y_lk (v_cp x v) = y_lk x := rfl
theorem k_lk_po (x : zMS) (v : Int32) : y_lk (v_po x v) = y_lk x := rfl
theorem k_lk_ne (x : zMS) (v : Int32) : y_lk (v_ne x v) = y_lk x := rfl
theorem k_lk_td (x : zMS) (v : Int32) : y_lk (v_td x v) = y_lk x := rfl
theorem k_lk_lk (x : zMS) (v : Nat → Bool) : y_lk (v_lk x v) = v := rfl
theorem k_lk_do (x : zMS) (v : Nat → Int32) : y_lk (v_do x v) = y_lk x := rfl
theorem k_lk_ro (x : zMS) (v : Nat → Nat) : y_lk (v_ro x v) = y_lk x := rfl
theorem k_lk_al (x : zMS) (v : Nat → Bool) : y_lk (v_al x v) = y_lk x := rfl
theorem k_lk_kd (x : zMS) (v : Nat → Int32) : y_lk (v_kd x v) = y_lk x := rfl
theorem k_lk_mn (x : zMS) (v : Nat → Nat) : y_lk (v_mn x v) = y_lk x := rfl
theorem k_lk_nu (x : zMS) (v : Nat → Int32) : y_lk (v_nu x v) = y_lk x := rfl
theorem k_lk_fi (x : zMS) (v : Nat → Int32) : y_lk (v_fi x v) = y_lk x := rfl
theorem k_lk_sa (x : zMS) (v : Nat → Int32) : y_lk (v_sa x v) = y_lk x := rfl
theorem k_lk_wt (x : zMS) (v : Nat → Int32) : y_lk (v_wt x v) = y_lk x := rfl
theorem k_lk_hh (x : zMS) (v : Nat → Bool) : y_lk (v_hh x v) = y_lk x := rfl
theorem k_lk_he (x : zMS) (v : Nat → Int32) : y_lk (v_he x v) = y_lk x := rfl
theorem k_lk_hm (x : zMS) (v : Nat → Nat) : y_lk (v_hm x v) = y_lk x := rfl
theorem k_lk_tb (x : zMS) (v : Nat → Int64) : y_lk (v_tb x v) = y_lk x := rfl
theorem k_lk_to (x : zMS) (v : Nat → Int64) : y_lk (v_to x v) = y_lk x := rfl
theorem k_lk_fr (x : zMS) (v : Nat → Nat) : y_lk (v_fr x v) = y_lk x := rfl
theorem k_lk_tt (x : zMS) (v : Nat → Nat) : y_lk (v_tt x v) = y_lk x := rfl
theorem k_lk_wh (x : zMS) (v : Nat → Int32) : y_lk (v_wh x v) = y_lk x := rfl
theorem k_lk_rw (x : zMS) (v : Nat → Int64) : y_lk (v_rw x v) = y_lk x := rfl
theorem k_lk_lo (x : zMS) (v : Nat → Int64) : y_lk (v_lo x v) = y_lk x := rfl
theorem k_lk_hi (x : zMS) (v : Nat → Int64) : y_lk (v_hi x v) = y_lk x := rfl
theorem k_lk_cv (x : zMS) (v : Nat → Bool) : y_lk (v_cv x v) = y_lk x := rfl
theorem k_lk_so (x : zMS) (v : Nat → Int64) : y_lk (v_so x v) = y_lk x := rfl
theorem k_lk_me (x : zMS) (v : Nat → Int64) : y_lk (v_me x v) = y_lk x := rfl
theorem k_lk_re (x : zMS) (v : Nat → Bool) : y_lk (v_re x v) = y_lk x := rfl
theorem k_lk_gb (x : zMS) (v : Nat → Nat → Option zAE) : y_lk (v_gb x v) = y_lk x := rfl
theorem k_do_dk (x : zMS) (v : Nat) : y_do (v_dk x v) = y_do x := rfl
theorem k_do_nr (x : zMS) (v : Nat) : y_do (v_nr x v) = y_do x := rfl
theorem k_do_nw (x : zMS) (v : Nat) : y_do (v_nw x v) = y_do x := rfl
theorem k_do_nn (x : zMS) (v : Nat) : y_do (v_nn x v) = y_do x := rfl
theorem k_do_ms (x : zMS) (v : Nat) : y_do (v_ms x v) = y_do x := rfl
theorem k_do_cp (x : zMS) (v : Nat) : y_do (v_cp x v) = y_do x := rfl
theorem k_do_po (x : zMS) (v : Int32) : y_do (v_po x v) = y_do x := rfl
theorem k_do_ne (x : zMS) (v : Int32) : y_do (v_ne x v) = y_do x := rfl
theorem k_do_td (x : zMS) (v : Int32) : y_do (v_td x v) = y_do x := rfl
theorem k_do_lk (x : zMS) (v : Nat → Bool) : y_do (v_lk x v) = y_do x := rfl
theorem k_do_do (x : zMS) (v : Nat → Int32) : y_do (v_do x v) = v := rfl
theorem k_do_ro (x : zMS) (v : Nat → Nat) : y_do (v_ro x v) = y_do x := rfl
theorem k_do_al (x : zMS) (v : Nat → Bool) : y_do (v_al x v) = y_do x := rfl
theorem k_do_kd (x : zMS) (v : Nat → Int32) : y_do (v_kd x v) = y_do x := rfl
theorem k_do_mn (x : zMS) (v : Nat → Nat) : y_do (v_mn x v) = y_do x := rfl
theorem k_do_nu (x : zMS) (v : Nat → Int32) : y_do (v_nu x v) = y_do x := rfl
theorem k_do_fi (x : zMS) (v : Nat → Int32) : y_do (v_fi x v) = y_do x := rfl
theorem k_do_sa (x : zMS) (v : Nat → Int32) : y_do (v_sa x v) = y_do x := rfl
theorem k_do_wt (x : zMS) (v : Nat → Int32) : y_do (v_wt x v) = y_do x := rfl
theorem k_do_hh (x : zMS) (v : Nat → Bool) : y_do (v_hh x v) = y_do x := rfl
theorem k_do_he (x : zMS) (v : Nat → Int32) : y_do (v_he x v) = y_do x := rfl
theorem k_do_hm (x : zMS) (v : Nat → Nat) : y_do (v_hm x v) = y_do x := rfl
theorem k_do_tb (x : zMS) (v : Nat → Int64) : y_do (v_tb x v) = y_do x := rfl
theorem k_do_to (x : zMS) (v : Nat → Int64) : y_do (v_to x v) = y_do x := rfl
theorem k_do_fr (x : zMS) (v : Nat → Nat) : y_do (v_fr x v) = y_do x := rfl
theorem k_do_tt (x : zMS) (v : Nat → Nat) : y_do (v_tt x v) = y_do x := rfl
theorem k_do_wh (x : zMS) (v : Nat → Int32) : y_do (v_wh x v) = y_do x := rfl
theorem k_do_rw (x : zMS) (v : Nat → Int64) : y_do (v_rw x v) = y_do x := rfl
theorem k_do_lo (x : zMS) (v : Nat → Int64) : y_do (v_lo x v) = y_do x := rfl
theorem k_do_hi (x : zMS) (v : Nat → Int64) : y_do (v_hi x v) = y_do x := rfl
theorem k_do_cv (x : zMS) (v : Nat → Bool) : y_do (v_cv x v) = y_do x := rfl
theorem k_do_so (x : zMS) (v : Nat → Int64) : y_do (v_so x v) = y_do x := rfl
theorem k_do_me (x : zMS) (v : Nat → Int64) : y_do (v_me x v) = y_do x := rfl
theorem k_do_re (x : zMS) (v : Nat → Bool) : y_do (v_re x v) = y_do x := rfl
theorem k_do_gb (x : zMS) (v : Nat → Nat → Option zAE) : y_do (v_gb x v) = y_do x := rfl
theorem k_ro_dk (x : zMS) (v : Nat) : y_ro (v_dk x v) = y_ro x := rfl
theorem k_ro_nr (x : zMS) (v : Nat) : y_ro (v_nr x v) = y_ro x := rfl
theorem k_ro_nw (x : zMS) (v : Nat) : y_ro (v_nw x v) = y_ro x := rfl
theorem k_ro_nn (x : zMS) (v : Nat) : y_ro (v_nn x v) = y_ro x := rfl
theorem k_ro_ms (x : zMS) (v : Nat) : y_ro (v_ms x v) = y_ro x := rfl
theorem k_ro_cp (x : zMS) (v : Nat) : y_ro (v_cp x v) = y_ro x := rfl
theorem k_ro_po (x : zMS) (v : Int32) : y_ro (v_po x v) = y_ro x := rfl
theorem k_ro_ne (x : zMS) (v : Int32) : y_ro (v_ne x v) = y_ro x := rfl
theorem k_ro_td (x : zMS) (v : Int32) : y_ro (v_td x v) = y_ro x := rfl
theorem k_ro_lk (x : zMS) (v : Nat → Bool) : y_ro (v_lk x v) = y_ro x := rfl
theorem k_ro_do (x : zMS) (v : Nat → Int32) : y_ro (v_do x v) = y_ro x := rfl
theorem k_ro_ro (x : zMS) (v : Nat → Nat) : y_ro (v_ro x v) = v := rfl
theorem k_ro_al (x : zMS) (v : Nat → Bool) : y_ro (v_al x v) = y_ro x := rfl
theorem k_ro_kd (x : zMS) (v : Nat → Int32) : y_ro (v_kd x v) = y_ro x := rfl
theorem k_ro_mn (x : zMS) (v : Nat → Nat) : y_ro (v_mn x v) = y_ro x := rfl
theorem k_ro_nu (x : zMS) (v : Nat → Int32) : y_ro (v_nu x v) = y_ro x := rfl
theorem k_ro_fi (x : zMS) (v : Nat → Int32) : y_ro (v_fi x v) = y_ro x := rfl
theorem k_ro_sa (x : zMS) (v : Nat → Int32) : y_ro (v_sa x v) = y_ro x := rfl
theorem k_ro_wt (x : zMS) (v : Nat → Int32) : y_ro (v_wt x v) = y_ro x := rfl
theorem k_ro_hh (x : zMS) (v : Nat → Bool) : y_ro (v_hh x v) = y_ro x := rfl
theorem k_ro_he (x : zMS) (v : Nat → Int32) : y_ro (v_he x v) = y_ro x := rfl
theorem k_ro_hm (x : zMS) (v : Nat → Nat) : y_ro (v_hm x v) = y_ro x := rfl
theorem k_ro_tb (x : zMS) (v : Nat → Int64) : y_ro (v_tb x v) = y_ro x := rfl
theorem k_ro_to (x : zMS) (v : Nat → Int64) : y_ro (v_to x v) = y_ro x := rfl
theorem k_ro_fr (x : zMS) (v : Nat → Nat) : y_ro (v_fr x v) = y_ro x := rfl
theorem k_ro_tt (x : zMS) (v : Nat → Nat) : y_ro (v_tt x v) = y_ro x := rfl
theorem k_ro_wh (x : zMS) (v : Nat → Int32) : y_ro (v_wh x v) = y_ro x := rfl
theorem k_ro_rw (x : zMS) (v : Nat → Int64) : y_ro (v_rw x v) = y_ro x := rfl
theorem k_ro_lo (x : zMS) (v : Nat → Int64) : y_ro (v_lo x v) = y_ro x := rfl
theorem k_ro_hi (x : zMS) (v : Nat → Int64) : y_ro (v_hi x v) = y_ro x := rfl
theorem k_ro_cv (x : zMS) (v : Nat → Bool) : y_ro (v_cv x v) = y_ro x := rfl
theorem k_ro_so (x : zMS) (v : Nat → Int64) : y_ro (v_so x v) = y_ro x := rfl
theorem k_ro_me (x : zMS) (v : Nat → Int64) : y_ro (v_me x v) = y_ro x := rfl
theorem k_ro_re (x : zMS) (v : Nat → Bool) : y_ro (v_re x v) = y_ro x := rfl
theorem k_ro_gb (x : zMS) (v : Nat → Nat → Option zAE) : y_ro (v_gb x v) = y_ro x := rfl
theorem k_al_dk (x : zMS) (v : Nat) : y_al (v_dk x v) = y_al x := rfl
theorem k_al_nr (x : zMS) (v : Nat) : y_al (v_nr x v) = y_al x := rfl
theorem k_al_nw (x : zMS) (v : Nat) : y_al (v_nw x v) = y_al x := rfl
theorem k_al_nn (x : zMS) (v : Nat) : y_al (v_nn x v) = y_al x := rfl
theorem k_al_ms (x : zMS) (v : Nat) : y_al (v_ms x v) = y_al x := rfl
theorem k_al_cp (x : zMS) (v : Nat) : y_al (v_cp x v) = y_al x := rfl
theorem k_al_po (x : zMS) (v : Int32) : y_al (v_po x v) = y_al x := rfl
theorem k_al_ne (x : zMS) (v : Int32) : y_al (v_ne x v) = y_al x := rfl
theorem k_al_td (x : zMS) (v : Int32) : y_al (v_td x v) = y_al x := rfl
theorem k_al_lk (x : zMS) (v : Nat → Bool) : y_al (v_lk x v) = y_al x := rfl
theorem k_al_do (x : zMS) (v : Nat → Int32) : y_al (v_do x v) = y_al x := rfl
theorem k_al_ro (x : zMS) (v : Nat → Nat) : y_al (v_ro x v) = y_al x := rfl
theorem k_al_al (x : zMS) (v : Nat → Bool) : y_al (v_al x v) = v := rfl
theorem k_al_kd (x : zMS) (v : Nat → Int32) : y_al (v_kd x v) = y_al x := rfl
theorem k_al_mn (x : zMS) (v : Nat → Nat) : y_al (v_mn x v) = y_al x := rfl
theorem k_al_nu (x : zMS) (v : Nat → Int32) : y_al (v_nu x v) = y_al x := rfl
theorem k_al_fi (x : zMS) (v : Nat → Int32) : y_al (v_fi x v) = y_al x := rfl
theorem k_al_sa (x : zMS) (v : Nat → Int32) : y_al (v_sa x v) = y_al x := rfl
theorem k_al_wt (x : zMS) (v : Nat → Int32) : y_al (v_wt x v) = y_al x := rfl
theorem k_al_hh (x : zMS) (v : Nat → Bool) : y_al (v_hh x v) = y_al x := rfl
theorem k_al_he (x : zMS) (v : Nat → Int32) : y_al (v_he x v) = y_al x := rfl
theorem k_al_hm (x : zMS) (v : Nat → Nat) : y_al (v_hm x v) = y_al x := rfl
theorem k_al_tb (x : zMS) (v : Nat → Int64) : y_al (v_tb x v) = y_al x := rfl
theorem k_al_to (x : zMS) (v : Nat → Int64) : y_al (v_to x v) = y_al x := rfl
theorem k_al_fr (x : zMS) (v : Nat → Nat) : y_al (v_fr x v) = y_al x := rfl
theorem k_al_tt (x : zMS) (v : Nat → Nat) : y_al (v_tt x v) = y_al x := rfl
theorem k_al_wh (x : zMS) (v : Nat → Int32) : y_al (v_wh x v) = y_al x := rfl
theorem k_al_rw (x : zMS) (v : Nat → Int64) : y_al (v_rw x v) = y_al x := rfl
theorem k_al_lo (x : zMS) (v : Nat → Int64) : y_al (v_lo x v) = y_al x := rfl
theorem k_al_hi (x : zMS) (v : Nat → Int64) : y_al (v_hi x v) = y_al x := rfl
theorem k_al_cv (x : zMS) (v : Nat → Bool) : y_al (v_cv x v) = y_al x := rfl
theorem k_al_so (x : zMS) (v : Nat → Int64) : y_al (v_so x v) = y_al x := rfl
theorem k_al_me (x : zMS) (v : Nat → Int64) : y_al (v_me x v) = y_al x := rfl
theorem k_al_re (x : zMS) (v : Nat → Bool) : y_al (v_re x v) = y_al x := rfl
theorem k_al_gb (x : zMS) (v : Nat → Nat → Option zAE) : y_al (v_gb x v) = y_al x := rfl
theorem k_kd_dk (x : zMS) (v : Nat) : y_kd (v_dk x v) = y_kd x := rfl
theorem k_kd_nr (x : zMS) (v : Nat) : y_kd (v_nr x v) = y_kd x := rfl
theorem k_kd_nw (x : zMS) (v : Nat) : y_kd (v_nw x v) = y_kd x := rfl
theorem k_kd_nn (x : zMS) (v : Nat) : y_kd (v_nn x v) = y_kd x := rfl
theorem k_kd_ms (x : zMS) (v : Nat) : y_kd (v_ms x v) = y_kd x := rfl
theorem k_kd_cp (x : zMS) (v : Nat) : y_kd (v_cp x v) = y_kd x := rfl
theorem k_kd_po (x : zMS) (v : Int32) : y_kd (v_po x v) = y_kd x := rfl
theorem k_kd_ne (x : zMS) (v : Int32) : y_kd (v_ne x v) = y_kd x := rfl
theorem k_kd_td (x : zMS) (v : Int32) : y_kd (v_td x v) = y_kd x := rfl
theorem k_kd_lk (x : zMS) (v : Nat → Bool) : y_kd (v_lk x v) = y_kd x := rfl
theorem k_kd_do (x : zMS) (v : Nat → Int32) : y_kd (v_do x v) = y_kd x := rfl
theorem k_kd_ro (x : zMS) (v : Nat → Nat) : y_kd (v_ro x v) = y_kd x := rfl
theorem k_kd_al (x : zMS) (v : Nat → Bool) : y_kd (v_al x v) = y_kd x := rfl
theorem k_kd_kd (x : zMS) (v : Nat → Int32) : y_kd (v_kd x v) = v := rfl
theorem k_kd_mn (x : zMS) (v : Nat → Nat) : y_kd (v_mn x v) = y_kd x := rfl
theorem k_kd_nu (x : zMS) (v : Nat → Int32) : y_kd (v_nu x v) = y_kd x := rfl
theorem k_kd_fi (x : zMS) (v : Nat → Int32) : y_kd (v_fi x v) = y_kd x := rfl
theorem k_kd_sa (x : zMS) (v : Nat → Int32) : y_kd (v_sa x v) = y_kd x := rfl
theorem k_kd_wt (x : zMS) (v : Nat → Int32) : y_kd (v_wt x v) = y_kd x := rfl
theorem k_kd_hh (x : zMS) (v : Nat → Bool) : y_kd (v_hh x v) = y_kd x := rfl
theorem k_kd_he (x : zMS) (v : Nat → Int32) : y_kd (v_he x v) = y_kd x := rfl
theorem k_kd_hm (x : zMS) (v : Nat → Nat) : y_kd (v_hm x v) = y_kd x := rfl
theorem k_kd_tb (x : zMS) (v : Nat → Int64) : y_kd (v_tb x v) = y_kd x := rfl
theorem k_kd_to (x : zMS) (v : Nat → Int64) : y_kd (v_to x v) = y_kd x := rfl
theorem k_kd_fr (x : zMS) (v : Nat → Nat) : y_kd (v_fr x v) = y_kd x := rfl
theorem k_kd_tt (x : zMS) (v : Nat → Nat) : y_kd (v_tt x v) = y_kd x := rfl
theorem k_kd_wh (x : zMS) (v : Nat → Int32) : y_kd (v_wh x v) = y_kd x := rfl
theorem k_kd_rw (x : zMS) (v : Nat → Int64) : y_kd (v_rw x v) = y_kd x := rfl
theorem k_kd_lo (x : zMS) (v : Nat → Int64) : y_kd (v_lo x v) = y_kd x := rfl
theorem k_kd_hi (x : zMS) (v : Nat → Int64) : y_kd (v_hi x v) = y_kd x := rfl
theorem k_kd_cv (x : zMS) (v : Nat → Bool) : y_kd (v_cv x v) = y_kd x := rfl
theorem k_kd_so (x : zMS) (v : Nat → Int64) : y_kd (v_so x v) = y_kd x := rfl
theorem k_kd_me (x : zMS) (v : Nat → Int64) : y_kd (v_me x v) = y_kd x := rfl
theorem k_kd_re (x : zMS) (v : Nat → Bool) : y_kd (v_re x v) = y_kd x := rfl
theorem k_kd_gb (x : zMS) (v : Nat → Nat → Option zAE) : y_kd (v_gb x v) = y_kd x := rfl
theorem k_mn_dk (x : zMS) (v : Nat) : y_mn (v_dk x v) = y_mn x := rfl
theorem k_mn_nr (x : zMS) (v : Nat) : y_mn (v_nr x v) = y_mn x := rfl
theorem k_mn_nw (x : zMS) (v : Nat) : y_mn (v_nw x v) = y_mn x := rfl
theorem k_mn_nn (x : zMS) (v : Nat) : y_mn (v_nn x v) = y_mn x := rfl
theorem k_mn_ms (x : zMS) (v : Nat) : y_mn (v_ms x v) = y_mn x := rfl
theorem k_mn_cp (x : zMS) (v : Nat) : y_mn (v_cp x v) = y_mn x := rfl
theorem k_mn_po (x : zMS) (v : Int32) : y_mn (v_po x v) = y_mn x := rfl
theorem k_mn_ne (x : zMS) (v : Int32) : y_mn (v_ne x v) = y_mn x := rfl
theorem k_mn_td (x : zMS) (v : Int32) : y_mn (v_td x v) = y_mn x := rfl
theorem k_mn_lk (x : zMS) (v : Nat → Bool) : y_mn (v_lk x v) = y_mn x := rfl
theorem k_mn_do (x : zMS) (v : Nat → Int32) : y_mn (v_do x v) = y_mn x := rfl
theorem k_mn_ro (x : zMS) (v : Nat → Nat) : y_mn (v_ro x v) = y_mn x := rfl
theorem k_mn_al (x : zMS) (v : Nat → Bool) : y_mn (v_al x v) = y_mn x := rfl
theorem k_mn_kd (x : zMS) (v : Nat → Int32) : y_mn (v_kd x v) = y_mn x := rfl
theorem k_mn_mn (x : zMS) (v : Nat → Nat) : y_mn (v_mn x v) = v := rfl
theorem k_mn_nu (x : zMS) (v : Nat → Int32) : y_mn (v_nu x v) = y_mn x := rfl
theorem k_mn_fi (x : zMS) (v : Nat → Int32) : y_mn (v_fi x v) = y_mn x := rfl
theorem k_mn_sa (x : zMS) (v : Nat → Int32) : y_mn (v_sa x v) = y_mn x := rfl
theorem k_mn_wt (x : zMS) (v : Nat → Int32) : y_mn (v_wt x v) = y_mn x := rfl
theorem k_mn_hh (x : zMS) (v : Nat → Bool) : y_mn (v_hh x v) = y_mn x := rfl
theorem k_mn_he (x : zMS) (v : Nat → Int32) : y_mn (v_he x v) = y_mn x := rfl
theorem k_mn_hm (x : zMS) (v : Nat → Nat) : y_mn (v_hm x v) = y_mn x := rfl
theorem k_mn_tb (x : zMS) (v : Nat → Int64) : y_mn (v_tb x v) = y_mn x := rfl
theorem k_mn_to (x : zMS) (v : Nat → Int64) : y_mn (v_to x v) = y_mn x := rfl
theorem k_mn_fr (x : zMS) (v : Nat → Nat) : y_mn (v_fr x v) = y_mn x := rfl
theorem k_mn_tt (x : zMS) (v : Nat → Nat) : y_mn (v_tt x v) = y_mn x := rfl
theorem k_mn_wh (x : zMS) (v : Nat → Int32) : y_mn (v_wh x v) = y_mn x := rfl
theorem k_mn_rw (x : zMS) (v : Nat → Int64) : y_mn (v_rw x v) = y_mn x := rfl
theorem k_mn_lo (x : zMS) (v : Nat → Int64) : y_mn (v_lo x v) = y_mn x := rfl
theorem k_mn_hi (x : zMS) (v : Nat → Int64) : y_mn (v_hi x v) = y_mn x := rfl
theorem k_mn_cv (x : zMS) (v : Nat → Bool) : y_mn (v_cv x v) = y_mn x := rfl
theorem k_mn_so (x : zMS) (v : Nat → Int64) : y_mn (v_so x v) = y_mn x := rfl
theorem k_mn_me (x : zMS) (v : Nat → Int64) : y_mn (v_me x v) = y_mn x := rfl
theorem k_mn_re (x : zMS) (v : Nat → Bool) : y_mn (v_re x v) = y_mn x := rfl
theorem k_mn_gb (x : zMS) (v : Nat → Nat → Option zAE) : y_mn (v_gb x v) = y_mn x := rfl
theorem k_nu_dk (x : zMS) (v : Nat) : y_nu (v_dk x v) = y_nu x := rfl
theorem k_nu_nr (x : zMS) (v : Nat) : y_nu (v_nr x v) = y_nu x := rfl
theorem k_nu_nw (x : zMS) (v : Nat) : y_nu (v_nw x v) = y_nu x := rfl
theorem k_nu_nn (x : zMS) (v : Nat) : y_nu (v_nn x v) = y_nu x := rfl
theorem k_nu_ms (x : zMS) (v : Nat) : y_nu (v_ms x v) = y_nu x := rfl
theorem k_nu_cp (x : zMS) (v : Nat) : y_nu (v_cp x v) = y_nu x := rfl
theorem k_nu_po (x : zMS) (v : Int32) : y_nu (v_po x v) = y_nu x := rfl
theorem k_nu_ne (x : zMS) (v : Int32) : y_nu (v_ne x v) = y_nu x := rfl
theorem k_nu_td (x : zMS) (v : Int32) : y_nu (v_td x v) = y_nu x := rfl
theorem k_nu_lk (x : zMS) (v : Nat → Bool) : y_nu (v_lk x v) = y_nu x := rfl
theorem k_nu_do (x : zMS) (v : Nat → Int32) : y_nu (v_do x v) = y_nu x := rfl
theorem k_nu_ro (x : zMS) (v : Nat → Nat) : y_nu (v_ro x v) = y_nu x := rfl
theorem k_nu_al (x : zMS) (v : Nat → Bool) : y_nu (v_al x v) = y_nu x := rfl
theorem k_nu_kd (x : zMS) (v : Nat → Int32) : y_nu (v_kd x v) = y_nu x := rfl
theorem k_nu_mn (x : zMS) (v : Nat → Nat) : y_nu (v_mn x v) = y_nu x := rfl
theorem k_nu_nu (x : zMS) (v : Nat → Int32) : y_nu (v_nu x v) = v := rfl
theorem k_nu_fi (x : zMS) (v : Nat → Int32) : y_nu (v_fi x v) = y_nu x := rfl
theorem k_nu_sa (x : zMS) (v : Nat → Int32) : y_nu (v_sa x v) = y_nu x := rfl
theorem k_nu_wt (x : zMS) (v : Nat → Int32) : y_nu (v_wt x v) = y_nu x := rfl
theorem k_nu_hh (x : zMS) (v : Nat → Bool) : y_nu (v_hh x v) = y_nu x := rfl
theorem k_nu_he (x : zMS) (v : Nat → Int32) : y_nu (v_he x v) = y_nu x := rfl
theorem k_nu_hm (x : zMS) (v : Nat → Nat) : y_nu (v_hm x v) = y_nu x := rfl
theorem k_nu_tb (x : zMS) (v : Nat → Int64) : y_nu (v_tb x v) = y_nu x := rfl
theorem k_nu_to (x : zMS) (v : Nat → Int64) : y_nu (v_to x v) = y_nu x := rfl
theorem k_nu_fr (x : zMS) (v : Nat → Nat) : y_nu (v_fr x v) = y_nu x := rfl
theorem k_nu_tt (x : zMS) (v : Nat → Nat) : y_nu (v_tt x v) = y_nu x := rfl
theorem k_nu_wh (x : zMS) (v : Nat → Int32) : y_nu (v_wh x v) = y_nu x := rfl
theorem k_nu_rw (x : zMS) (v : Nat → Int64) : y_nu (v_rw x v) = y_nu x := rfl
theorem k_nu_lo (x : zMS) (v : Nat → Int64) : y_nu (v_lo x v) = y_nu x := rfl
theorem k_nu_hi (x : zMS) (v : Nat → Int64) : y_nu (v_hi x v) = y_nu x := rfl
theorem k_nu_cv (x : zMS) (v : Nat → Bool) : y_nu (v_cv x v) = y_nu x := rfl
theorem k_nu_so (x : zMS) (v : Nat → Int64) : y_nu (v_so x v) = y_nu x := rfl
theorem k_nu_me (x : zMS) (v : Nat → Int64) : y_nu (v_me x v) = y_nu x := rfl
theorem k_nu_re (x : zMS) (v : Nat → Bool) : y_nu (v_re x v) = y_nu x := rfl
theorem k_nu_gb (x : zMS) (v : Nat → Nat → Option zAE) : y_nu (v_gb x v) = y_nu x := rfl
theorem k_fi_dk (x : zMS) (v : Nat) : y_fi (v_dk x v) = y_fi x := rfl
theorem k_fi_nr (x : zMS) (v : Nat) : y_fi (v_nr x v) = y_fi x := rfl
theorem k_fi_nw (x : zMS) (v : Nat) : y_fi (v_nw x v) = y_fi x := rfl
theorem k_fi_nn (x : zMS) (v : Nat) : y_fi (v_nn x v) = y_fi x := rfl
theorem k_fi_ms (x : zMS) (v : Nat) : y_fi (v_ms x v) = y_fi x := rfl
theorem k_fi_cp (x : zMS) (v : Nat) : y_fi (v_cp x v) = y_fi x := rfl
theorem k_fi_po (x : zMS) (v : Int32) : y_fi (v_po x v) = y_fi x := rfl
theorem k_fi_ne (x : zMS) (v : Int32) : y_fi (v_ne x v) = y_fi x := rfl
theorem k_fi_td (x : zMS) (v : Int32) : y_fi (v_td x v) = y_fi x := rfl
theorem k_fi_lk (x : zMS) (v : Nat → Bool) : y_fi (v_lk x v) = y_fi x := rfl
theorem k_fi_do (x : zMS) (v : Nat → Int32) : y_fi (v_do x v) = y_fi x := rfl
theorem k_fi_ro (x : zMS) (v : Nat → Nat) : y_fi (v_ro x v) = y_fi x := rfl
theorem k_fi_al (x : zMS) (v : Nat → Bool) : y_fi (v_al x v) = y_fi x := rfl
theorem k_fi_kd (x : zMS) (v : Nat → Int32) : y_fi (v_kd x v) = y_fi x := rfl
theorem k_fi_mn (x : zMS) (v : Nat → Nat) : y_fi (v_mn x v) = y_fi x := rfl
theorem k_fi_nu (x : zMS) (v : Nat → Int32) : y_fi (v_nu x v) = y_fi x := rfl
theorem k_fi_fi (x : zMS) (v : Nat → Int32) : y_fi (v_fi x v) = v := rfl
theorem k_fi_sa (x : zMS) (v : Nat → Int32) : y_fi (v_sa x v) = y_fi x := rfl
theorem k_fi_wt (x : zMS) (v : Nat → Int32) : y_fi (v_wt x v) = y_fi x := rfl
theorem k_fi_hh (x : zMS) (v : Nat → Bool) : y_fi (v_hh x v) = y_fi x := rfl
theorem k_fi_he (x : zMS) (v : Nat → Int32) : y_fi (v_he x v) = y_fi x := rfl
theorem k_fi_hm (x : zMS) (v : Nat → Nat) : y_fi (v_hm x v) = y_fi x := rfl
theorem k_fi_tb (x : zMS) (v : Nat → Int64) : y_fi (v_tb x v) = y_fi x := rfl
theorem k_fi_to (x : zMS) (v : Nat → Int64) : y_fi (v_to x v) = y_fi x := rfl
theorem k_fi_fr (x : zMS) (v : Nat → Nat) : y_fi (v_fr x v) = y_fi x := rfl
theorem k_fi_tt (x : zMS) (v : Nat → Nat) : y_fi (v_tt x v) = y_fi x := rfl
theorem k_fi_wh (x : zMS) (v : Nat → Int32) : y_fi (v_wh x v) = y_fi x := rfl
theorem k_fi_rw (x : zMS) (v : Nat → Int64) : y_fi (v_rw x v) = y_fi x := rfl
theorem k_fi_lo (x : zMS) (v : Nat → Int64) : y_fi (v_lo x v) = y_fi x := rfl
theorem k_fi_hi (x : zMS) (v : Nat → Int64) : y_fi (v_hi x v) = y_fi x := rfl
theorem k_fi_cv (x : zMS) (v : Nat → Bool) : y_fi (v_cv x v) = y_fi x := rfl
theorem k_fi_so (x : zMS) (v : Nat → Int64) : y_fi (v_so x v) = y_fi x := rfl
theorem k_fi_me (x : zMS) (v : Nat → Int64) : y_fi (v_me x v) = y_fi x := rfl
theorem k_fi_re (x : zMS) (v : Nat → Bool) : y_fi (v_re x v) = y_fi x := rfl
theorem k_fi_gb (x : zMS) (v : Nat → Nat → Option zAE) : y_fi (v_gb x v) = y_fi x := rfl
theorem k_sa_dk (x : zMS) (v : Nat) : y_sa (v_dk x v) = y_sa x := rfl
theorem k_sa_nr (x : zMS) (v : Nat) : y_sa (v_nr x v) = y_sa x := rfl
theorem k_sa_nw (x : zMS) (v : Nat) : y_sa (v_nw x v) = y_sa x := rfl
theorem k_sa_nn (x : zMS) (v : Nat) : y_sa (v_nn x v) = y_sa x := rfl
theorem k_sa_ms (x : zMS) (v : Nat) : y_sa (v_ms x v) = y_sa x := rfl
theorem k_sa_cp (x : zMS) (v : Nat) : y_sa (v_cp x v) = y_sa x := rfl
theorem k_sa_po (x : zMS) (v : Int32) : y_sa (v_po x v) = y_sa x := rfl
theorem k_sa_ne (x : zMS) (v : Int32) : y_sa (v_ne x v) = y_sa x := rfl
theorem k_sa_td (x : zMS) (v : Int32) : y_sa (v_td x v) = y_sa x := rfl
theorem k_sa_lk (x : zMS) (v : Nat → Bool) : y_sa (v_lk x v) = y_sa x := rfl
theorem k_sa_do (x : zMS) (v : Nat → Int32) : y_sa (v_do x v) = y_sa x := rfl
theorem k_sa_ro (x : zMS) (v : Nat → Nat) : y_sa (v_ro x v) = y_sa x := rfl
theorem k_sa_al (x : zMS) (v : Nat → Bool) : y_sa (v_al x v) = y_sa x := rfl
theorem k_sa_kd (x : zMS) (v : Nat → Int32) : y_sa (v_kd x v) = y_sa x := rfl
theorem k_sa_mn (x : zMS) (v : Nat → Nat) : y_sa (v_mn x v) = y_sa x := rfl
theorem k_sa_nu (x : zMS) (v : Nat → Int32) : y_sa (v_nu x v) = y_sa x := rfl
theorem k_sa_fi (x : zMS) (v : Nat → Int32) : y_sa (v_fi x v) = y_sa x := rfl
theorem k_sa_sa (x : zMS) (v : Nat → Int32) : y_sa (v_sa x v) = v := rfl
theorem k_sa_wt (x : zMS) (v : Nat → Int32) : y_sa (v_wt x v) = y_sa x := rfl
theorem k_sa_hh (x : zMS) (v : Nat → Bool) : y_sa (v_hh x v) = y_sa x := rfl
theorem k_sa_he (x : zMS) (v : Nat → Int32) : y_sa (v_he x v) = y_sa x := rfl
theorem k_sa_hm (x : zMS) (v : Nat → Nat) : y_sa (v_hm x v) = y_sa x := rfl
theorem k_sa_tb (x : zMS) (v : Nat → Int64) : y_sa (v_tb x v) = y_sa x := rfl
theorem k_sa_to (x : zMS) (v : Nat → Int64) : y_sa (v_to x v) = y_sa x := rfl
theorem k_sa_fr (x : zMS) (v : Nat → Nat) : y_sa (v_fr x v) = y_sa x := rfl
theorem k_sa_tt (x : zMS) (v : Nat → Nat) : y_sa (v_tt x v) = y_sa x := rfl
theorem k_sa_wh (x : zMS) (v : Nat → Int32) : y_sa (v_wh x v) = y_sa x := rfl
theorem k_sa_rw (x : zMS) (v : Nat → Int64) : y_sa (v_rw x v) = y_sa x := rfl
theorem k_sa_lo (x : zMS) (v : Nat → Int64) : y_sa (v_lo x v) = y_sa x := rfl
theorem k_sa_hi (x : zMS) (v : Nat → Int64) : y_sa (v_hi x v) = y_sa x := rfl
theorem k_sa_cv (x : zMS) (v : Nat → Bool) : y_sa (v_cv x v) = y_sa x := rfl
theorem k_sa_so (x : zMS) (v : Nat → Int64) : y_sa (v_so x v) = y_sa x := rfl
theorem k_sa_me (x : zMS) (v : Nat → Int64) : y_sa (v_me x v) = y_sa x := rfl
theorem k_sa_re (x : zMS) (v : Nat → Bool) : y_sa (v_re x v) = y_sa x := rfl
theorem k_sa_gb (x : zMS) (v : Nat → Nat → Option zAE) : y_sa (v_gb x v) = y_sa x := rfl
theorem k_wt_dk (x : zMS) (v : Nat) : y_wt (v_dk x v) = y_wt x := rfl
theorem k_wt_nr (x : zMS) (v : Nat) : y_wt (v_nr x v) = y_wt x := rfl
theorem k_wt_nw (x : zMS) (v : Nat) : y_wt (v_nw x v) = y_wt x := rfl
theorem k_wt_nn (x : zMS) (v : Nat) : y_wt (v_nn x v) = y_wt x := rfl
theorem k_wt_ms (x : zMS) (v : Nat) : y_wt (v_ms x v) = y_wt x := rfl
theorem k_wt_cp (x : zMS) (v : Nat) : y_wt (v_cp x v) = y_wt x := rfl
theorem k_wt_po (x : zMS) (v : Int32) : y_wt (v_po x v) = y_wt x := rfl
theorem k_wt_ne (x : zMS) (v : Int32) : y_wt (v_ne x v) = y_wt x := rfl
theorem k_wt_td (x : zMS) (v : Int32) : y_wt (v_td x v) = y_wt x := rfl
theorem k_wt_lk (x : zMS) (v : Nat → Bool) : y_wt (v_lk x v) = y_wt x := rfl
theorem k_wt_do (x : zMS) (v : Nat → Int32) : y_wt (v_do x v) = y_wt x := rfl
theorem k_wt_ro (x : zMS) (v : Nat → Nat) : y_wt (v_ro x v) = y_wt x := rfl
theorem k_wt_al (x : zMS) (v : Nat → Bool) : y_wt (v_al x v) = y_wt x := rfl
theorem k_wt_kd (x : zMS) (v : Nat → Int32) : y_wt (v_kd x v) = y_wt x := rfl
theorem k_wt_mn (x : zMS) (v : Nat → Nat) : y_wt (v_mn x v) = y_wt x := rfl
theorem k_wt_nu (x : zMS) (v : Nat → Int32) : y_wt (v_nu x v) = y_wt x := rfl
theorem k_wt_fi (x : zMS) (v : Nat → Int32) : y_wt (v_fi x v) = y_wt x := rfl
theorem k_wt_sa (x : zMS) (v : Nat → Int32) : y_wt (v_sa x v) = y_wt x := rfl
theorem k_wt_wt (x : zMS) (v : Nat → Int32) : y_wt (v_wt x v) = v := rfl
theorem k_wt_hh (x : zMS) (v : Nat → Bool) : y_wt (v_hh x v) = y_wt x := rfl
theorem k_wt_he (x : zMS) (v : Nat → Int32) : y_wt (v_he x v) = y_wt x := rfl
theorem k_wt_hm (x : zMS) (v : Nat → Nat) : y_wt (v_hm x v) = y_wt x := rfl
theorem k_wt_tb (x : zMS) (v : Nat → Int64) : y_wt (v_tb x v) = y_wt x := rfl
theorem k_wt_to (x : zMS) (v : Nat → Int64) : y_wt (v_to x v) = y_wt x := rfl
theorem k_wt_fr (x : zMS) (v : Nat → Nat) : y_wt (v_fr x v) = y_wt x := rfl
theorem k_wt_tt (x : zMS) (v : Nat → Nat) : y_wt (v_tt x v) = y_wt x := rfl
theorem k_wt_wh (x : zMS) (v : Nat → Int32) : y_wt (v_wh x v) = y_wt x := rfl
theorem k_wt_rw (x : zMS) (v : Nat → Int64) : y_wt (v_rw x v) = y_wt x := rfl
theorem k_wt_lo (x : zMS) (v : Nat → Int64) : y_wt (v_lo x v) = y_wt x := rfl
theorem k_wt_hi (x : zMS) (v : Nat → Int64) : y_wt (v_hi x v) = y_wt x := rfl
theorem k_wt_cv (x : zMS) (v : Nat → Bool) : y_wt (v_cv x v) = y_wt x := rfl
theorem k_wt_so (x : zMS) (v : Nat → Int64) : y_wt (v_so x v) = y_wt x := rfl
theorem k_wt_me (x : zMS) (v : Nat → Int64) : y_wt (v_me x v) = y_wt x := rfl
theorem k_wt_re (x : zMS) (v : Nat → Bool) : y_wt (v_re x v) = y_wt x := rfl
theorem k_wt_gb (x : zMS) (v : Nat → Nat → Option zAE) : y_wt (v_gb x v) = y_wt x := rfl
theorem k_hh_dk (x : zMS) (v : Nat) : y_hh (v_dk x v) = y_hh x := rfl
theorem k_hh_nr (x : zMS) (v : Nat) : y_hh (v_nr x v) = y_hh x := rfl
theorem k_hh_nw (x : zMS) (v : Nat) : y_hh (v_nw x v) = y_hh x := rfl
theorem k_hh_nn (x : zMS) (v : Nat) : y_hh (v_nn x v) = y_hh x := rfl
theorem k_hh_ms (x : zMS) (v : Nat) : y_hh (v_ms x v) = y_hh x := rfl
theorem k_hh_cp (x : zMS) (v : Nat) : y_hh (v_cp x v) = y_hh x := rfl
theorem k_hh_po (x : zMS) (v : Int32) : y_hh (v_po x v) = y_hh x := rfl
theorem k_hh_ne (x : zMS) (v : Int32) : y_hh (v_ne x v) = y_hh x := rfl
theorem k_hh_td (x : zMS) (v : Int32) : y_hh (v_td x v) = y_hh x := rfl
theorem k_hh_lk (x : zMS) (v : Nat → Bool) : y_hh (v_lk x v) = y_hh x := rfl
theorem k_hh_do (x : zMS) (v : Nat → Int32) : y_hh (v_do x v) = y_hh x := rfl
theorem k_hh_ro (x : zMS) (v : Nat → Nat) : y_hh (v_ro x v) = y_hh x := rfl
theorem k_hh_al (x : zMS) (v : Nat → Bool) : y_hh (v_al x v) = y_hh x := rfl
theorem k_hh_kd (x : zMS) (v : Nat → Int32) : y_hh (v_kd x v) = y_hh x := rfl
theorem k_hh_mn (x : zMS) (v : Nat → Nat) : y_hh (v_mn x v) = y_hh x := rfl
theorem k_hh_nu (x : zMS) (v : Nat → Int32) : y_hh (v_nu x v) = y_hh x := rfl
theorem k_hh_fi (x : zMS) (v : Nat → Int32) : y_hh (v_fi x v) = y_hh x := rfl
theorem k_hh_sa (x : zMS) (v : Nat → Int32) : y_hh (v_sa x v) = y_hh x := rfl
theorem k_hh_wt (x : zMS) (v : Nat → Int32) : y_hh (v_wt x v) = y_hh x := rfl
theorem k_hh_hh (x : zMS) (v : Nat → Bool) : y_hh (v_hh x v) = v := rfl
theorem k_hh_he (x : zMS) (v : Nat → Int32) : y_hh (v_he x v) = y_hh x := rfl
theorem k_hh_hm (x : zMS) (v : Nat → Nat) : y_hh (v_hm x v) = y_hh x := rfl
theorem k_hh_tb (x : zMS) (v : Nat → Int64) : y_hh (v_tb x v) = y_hh x := rfl
theorem k_hh_to (x : zMS) (v : Nat → Int64) : y_hh (v_to x v) = y_hh x := rfl
theorem k_hh_fr (x : zMS) (v : Nat → Nat) : y_hh (v_fr x v) = y_hh x := rfl
theorem k_hh_tt (x : zMS) (v : Nat → Nat) : y_hh (v_tt x v) = y_hh x := rfl
theorem k_hh_wh (x : zMS) (v : Nat → Int32) : y_hh (v_wh x v) = y_hh x := rfl
theorem k_hh_rw (x : zMS) (v : Nat → Int64) : y_hh (v_rw x v) = y_hh x := rfl
theorem k_hh_lo (x : zMS) (v : Nat → Int64) : y_hh (v_lo x v) = y_hh x := rfl
theorem k_hh_hi (x : zMS) (v : Nat → Int64) : y_hh (v_hi x v) = y_hh x := rfl
theorem k_hh_cv (x : zMS) (v : Nat → Bool) : y_hh (v_cv x v) = y_hh x := rfl
theorem k_hh_so (x : zMS) (v : Nat → Int64) : y_hh (v_so x v) = y_hh x := rfl
theorem k_hh_me (x : zMS) (v : Nat → Int64) : y_hh (v_me x v) = y_hh x := rfl
theorem k_hh_re (x : zMS) (v : Nat → Bool) : y_hh (v_re x v) = y_hh x := rfl
theorem k_hh_gb (x : zMS) (v : Nat → Nat → Option zAE) : y_hh (v_gb x v) = y_hh x := rfl
theorem k_he_dk (x : zMS) (v : Nat) : y_he (v_dk x v) = y_he x := rfl
theorem k_he_nr (x : zMS) (v : Nat) : y_he (v_nr x v) = y_he x := rfl
theorem k_he_nw (x : zMS) (v : Nat) : y_he (v_nw x v) = y_he x := rfl
theorem k_he_nn (x : zMS) (v : Nat) : y_he (v_nn x v) = y_he x := rfl
theorem k_he_ms (x : zMS) (v : Nat) : y_he (v_ms x v) = y_he x := rfl
theorem k_he_cp (x : zMS) (v : Nat) : y_he (v_cp x v) = y_he x := rfl
theorem k_he_po (x : zMS) (v : Int32) : y_he (v_po x v) = y_he x := rfl
theorem k_he_ne (x : zMS) (v : Int32) : y_he (v_ne x v) = y_he x := rfl
theorem k_he_td (x : zMS) (v : Int32) : y_he (v_td x v) = y_he x := rfl
theorem k_he_lk (x : zMS) (v : Nat → Bool) : y_he (v_lk x v) = y_he x := rfl
theorem k_he_do (x : zMS) (v : Nat → Int32) : y_he (v_do x v) = y_he x := rfl
theorem k_he_ro (x : zMS) (v : Nat → Nat) : y_he (v_ro x v) = y_he x := rfl
theorem k_he_al (x : zMS) (v : Nat → Bool) : y_he (v_al x v) = y_he x := rfl
theorem k_he_kd (x : zMS) (v : Nat → Int32) : y_he (v_kd x v) = y_he x := rfl
theorem k_he_mn (x : zMS) (v : Nat → Nat) : y_he (v_mn x v) = y_he x := rfl
theorem k_he_nu (x : zMS) (v : Nat → Int32) : y_he (v_nu x v) = y_he x := rfl
theorem k_he_fi (x : zMS) (v : Nat → Int32) : y_he (v_fi x v) = y_he x := rfl
theorem k_he_sa (x : zMS) (v : Nat → Int32) : y_he (v_sa x v) = y_he x := rfl
theorem k_he_wt (x : zMS) (v : Nat → Int32) : y_he (v_wt x v) = y_he x := rfl
theorem k_he_hh (x : zMS) (v : Nat → Bool) : y_he (v_hh x v) = y_he x := rfl
theorem k_he_he (x : zMS) (v : Nat → Int32) : y_he (v_he x v) = v := rfl
theorem k_he_hm (x : zMS) (v : Nat → Nat) : y_he (v_hm x v) = y_he x := rfl
theorem k_he_tb (x : zMS) (v : Nat → Int64) : y_he (v_tb x v) = y_he x := rfl
theorem k_he_to (x : zMS) (v : Nat → Int64) : y_he (v_to x v) = y_he x := rfl
theorem k_he_fr (x : zMS) (v : Nat → Nat) : y_he (v_fr x v) = y_he x := rfl
theorem k_he_tt (x : zMS) (v : Nat → Nat) : y_he (v_tt x v) = y_he x := rfl
theorem k_he_wh (x : zMS) (v : Nat → Int32) : y_he (v_wh x v) = y_he x := rfl
theorem k_he_rw (x : zMS) (v : Nat → Int64) : y_he (v_rw x v) = y_he x := rfl
theorem k_he_lo (x : zMS) (v : Nat → Int64) : y_he (v_lo x v) = y_he x := rfl
theorem k_he_hi (x : zMS) (v : Nat → Int64) : y_he (v_hi x v) = y_he x := rfl
theorem k_he_cv (x : zMS) (v : Nat → Bool) : y_he (v_cv x v) = y_he x := rfl
theorem k_he_so (x : zMS) (v : Nat → Int64) : y_he (v_so x v) = y_he x := rfl
theorem k_he_me (x : zMS) (v : Nat → Int64) : y_he (v_me x v) = y_he x := rfl
theorem k_he_re (x : zMS) (v : Nat → Bool) : y_he (v_re x v) = y_he x := rfl
theorem k_he_gb (x : zMS) (v : Nat → Nat → Option zAE) : y_he (v_gb x v) = y_he x := rfl
theorem k_hm_dk (x : zMS) (v : Nat) : y_hm (v_dk x v) = y_hm x := rfl
theorem k_hm_nr (x : zMS) (v : Nat) : y_hm (v_nr x v) = y_hm x := rfl
theorem k_hm_nw (x : zMS) (v : Nat) : y_hm (v_nw x v) = y_hm x := rfl
theorem k_hm_nn (x : zMS) (v : Nat) : y_hm (v_nn x v) = y_hm x := rfl
theorem k_hm_ms (x : zMS) (v : Nat) : y_hm (v_ms x v) = y_hm x := rfl
theorem k_hm_cp (x : zMS) (v : Nat) : y_hm (v_cp x v) = y_hm x := rfl
theorem k_hm_po (x : zMS) (v : Int32) : y_hm (v_po x v) = y_hm x := rfl
theorem k_hm_ne (x : zMS) (v : Int32) : y_hm (v_ne x v) = y_hm x := rfl
theorem k_hm_td (x : zMS) (v : Int32) : y_hm (v_td x v) = y_hm x := rfl
theorem k_hm_lk (x : zMS) (v : Nat → Bool) : y_hm (v_lk x v) = y_hm x := rfl
theorem k_hm_do (x : zMS) (v : Nat → Int32) : y_hm (v_do x v) = y_hm x := rfl
theorem k_hm_ro (x : zMS) (v : Nat → Nat) : y_hm (v_ro x v) = y_hm x := rfl
theorem k_hm_al (x : zMS) (v : Nat → Bool) : y_hm (v_al x v) = y_hm x := rfl
theorem k_hm_kd (x : zMS) (v : Nat → Int32) : y_hm (v_kd x v) = y_hm x := rfl
theorem k_hm_mn (x : zMS) (v : Nat → Nat) : y_hm (v_mn x v) = y_hm x := rfl
theorem k_hm_nu (x : zMS) (v : Nat → Int32) : y_hm (v_nu x v) = y_hm x := rfl
theorem k_hm_fi (x : zMS) (v : Nat → Int32) : y_hm (v_fi x v) = y_hm x := rfl
theorem k_hm_sa (x : zMS) (v : Nat → Int32) : y_hm (v_sa x v) = y_hm x := rfl
theorem k_hm_wt (x : zMS) (v : Nat → Int32) : y_hm (v_wt x v) = y_hm x := rfl
theorem k_hm_hh (x : zMS) (v : Nat → Bool) : y_hm (v_hh x v) = y_hm x := rfl
theorem k_hm_he (x : zMS) (v : Nat → Int32) : y_hm (v_he x v) = y_hm x := rfl
theorem k_hm_hm (x : zMS) (v : Nat → Nat) : y_hm (v_hm x v) = v := rfl
theorem k_hm_tb (x : zMS) (v : Nat → Int64) : y_hm (v_tb x v) = y_hm x := rfl
theorem k_hm_to (x : zMS) (v : Nat → Int64) : y_hm (v_to x v) = y_hm x := rfl
theorem k_hm_fr (x : zMS) (v : Nat → Nat) : y_hm (v_fr x v) = y_hm x := rfl
theorem k_hm_tt (x : zMS) (v : Nat → Nat) : y_hm (v_tt x v) = y_hm x := rfl
theorem k_hm_wh (x : zMS) (v : Nat → Int32) : y_hm (v_wh x v) = y_hm x := rfl
theorem k_hm_rw (x : zMS) (v : Nat → Int64) : y_hm (v_rw x v) = y_hm x := rfl
theorem k_hm_lo (x : zMS) (v : Nat → Int64) : y_hm (v_lo x v) = y_hm x := rfl
theorem k_hm_hi (x : zMS) (v : Nat → Int64) : y_hm (v_hi x v) = y_hm x := rfl
theorem k_hm_cv (x : zMS) (v : Nat → Bool) : y_hm (v_cv x v) = y_hm x := rfl
theorem k_hm_so (x : zMS) (v : Nat → Int64) : y_hm (v_so x v) = y_hm x := rfl
theorem k_hm_me (x : zMS) (v : Nat → Int64) : y_hm (v_me x v) = y_hm x := rfl
theorem k_hm_re (x : zMS) (v : Nat → Bool) : y_hm (v_re x v) = y_hm x := rfl
theorem k_hm_gb (x : zMS) (v : Nat → Nat → Option zAE) : y_hm (v_gb x v) = y_hm x := rfl
theorem k_tb_dk (x : zMS) (v : Nat) : y_tb (v_dk x v) = y_tb x := rfl
theorem k_tb_nr (x : zMS) (v : Nat) : y_tb (v_nr x v) = y_tb x := rfl
theorem k_tb_nw (x : zMS) (v : Nat) : y_tb (v_nw x v) = y_tb x := rfl
theorem k_tb_nn (x : zMS) (v : Nat) : y_tb (v_nn x v) = y_tb x := rfl
theorem k_tb_ms (x : zMS) (v : Nat) : y_tb (v_ms x v) = y_tb x := rfl
theorem k_tb_cp (x : zMS) (v : Nat) : y_tb (v_cp x v) = y_tb x := rfl
theorem k_tb_po (x : zMS) (v : Int32) : y_tb (v_po x v) = y_tb x := rfl
theorem k_tb_ne (x : zMS) (v : Int32) : y_tb (v_ne x v) = y_tb x := rfl
theorem k_tb_td (x : zMS) (v : Int32) : y_tb (v_td x v) = y_tb x := rfl
theorem k_tb_lk (x : zMS) (v : Nat → Bool) : y_tb (v_lk x v) = y_tb x := rfl
theorem k_tb_do (x : zMS) (v : Nat → Int32) : y_tb (v_do x v) = y_tb x := rfl
theorem k_tb_ro (x : zMS) (v : Nat → Nat) : y_tb (v_ro x v) = y_tb x := rfl
theorem k_tb_al (x : zMS) (v : Nat → Bool) : y_tb (v_al x v) = y_tb x := rfl
theorem k_tb_kd (x : zMS) (v : Nat → Int32) : y_tb (v_kd x v) = y_tb x := rfl
theorem k_tb_mn (x : zMS) (v : Nat → Nat) : y_tb (v_mn x v) = y_tb x := rfl
theorem k_tb_nu (x : zMS) (v : Nat → Int32) : y_tb (v_nu x v) = y_tb x := rfl
theorem k_tb_fi (x : zMS) (v : Nat → Int32) : y_tb (v_fi x v) = y_tb x := rfl
theorem k_tb_sa (x : zMS) (v : Nat → Int32) : y_tb (v_sa x v) = y_tb x := rfl
theorem k_tb_wt (x : zMS) (v : Nat → Int32) : y_tb (v_wt x v) = y_tb x := rfl
theorem k_tb_hh (x : zMS) (v : Nat → Bool) : y_tb (v_hh x v) = y_tb x := rfl
theorem k_tb_he (x : zMS) (v : Nat → Int32) : y_tb (v_he x v) = y_tb x := rfl
theorem k_tb_hm (x : zMS) (v : Nat → Nat) : y_tb (v_hm x v) = y_tb x := rfl
theorem k_tb_tb (x : zMS) (v : Nat → Int64) : y_tb (v_tb x v) = v := rfl
theorem k_tb_to (x : zMS) (v : Nat → Int64) : y_tb (v_to x v) = y_tb x := rfl
theorem k_tb_fr (x : zMS) (v : Nat → Nat) : y_tb (v_fr x v) = y_tb x := rfl
theorem k_tb_tt (x : zMS) (v : Nat → Nat) : y_tb (v_tt x v) = y_tb x := rfl
theorem k_tb_wh (x : zMS) (v : Nat → Int32) : y_tb (v_wh x v) = y_tb x := rfl
theorem k_tb_rw (x : zMS) (v : Nat → Int64) : y_tb (v_rw x v) = y_tb x := rfl
theorem k_tb_lo (x : zMS) (v : Nat → Int64) : y_tb (v_lo x v) = y_tb x := rfl
theorem k_tb_hi (x : zMS) (v : Nat → Int64) : y_tb (v_hi x v) = y_tb x := rfl
theorem k_tb_cv (x : zMS) (v : Nat → Bool) : y_tb (v_cv x v) = y_tb x := rfl
theorem k_tb_so (x : zMS) (v : Nat → Int64) : y_tb (v_so x v) = y_tb x := rfl
theorem k_tb_me (x : zMS) (v : Nat → Int64) : y_tb (v_me x v) = y_tb x := rfl
theorem k_tb_re (x : zMS) (v : Nat → Bool) : y_tb (v_re x v) = y_tb x := rfl
theorem k_tb_gb (x : zMS) (v : Nat → Nat → Option zAE) : y_tb (v_gb x v) = y_tb x := rfl
theorem k_to_dk (x : zMS) (v : Nat) : y_to (v_dk x v) = y_to x := rfl
theorem k_to_nr (x : zMS) (v : Nat) : y_to (v_nr x v) = y_to x := rfl
theorem k_to_nw (x : zMS) (v : Nat) : y_to (v_nw x v) = y_to x := rfl
theorem k_to_nn (x : zMS) (v : Nat) : y_to (v_nn x v) = y_to x := rfl
theorem k_to_ms (x : zMS) (v : Nat) : y_to (v_ms x v) = y_to x := rfl
theorem k_to_cp (x : zMS) (v : Nat) : y_to (v_cp x v) = y_to x := rfl
theorem k_to_po (x : zMS) (v : Int32) : y_to (v_po x v) = y_to x := rfl
theorem k_to_ne (x : zMS) (v : Int32) : y_to (v_ne x v) = y_to x := rfl
theorem k_to_td (x : zMS) (v : Int32) : y_to (v_td x v) = y_to x := rfl
theorem k_to_lk (x : zMS) (v : Nat → Bool) : y_to (v_lk x v) = y_to x := rfl
theorem k_to_do (x : zMS) (v : Nat → Int32) : y_to (v_do x v) = y_to x := rfl
theorem k_to_ro (x : zMS) (v : Nat → Nat) : y_to (v_ro x v) = y_to x := rfl
theorem k_to_al (x : zMS) (v : Nat → Bool) : y_to (v_al x v) = y_to x := rfl
theorem k_to_kd (x : zMS) (v : Nat → Int32) : y_to (v_kd x v) = y_to x := rfl
theorem k_to_mn (x : zMS) (v : Nat → Nat) : y_to (v_mn x v) = y_to x := rfl
theorem k_to_nu (x : zMS) (v : Nat → Int32) : y_to (v_nu x v) = y_to x := rfl
theorem k_to_fi (x : zMS) (v : Nat → Int32) : y_to (v_fi x v) = y_to x := rfl
theorem k_to_sa (x : zMS) (v : Nat → Int32) : y_to (v_sa x v) = y_to x := rfl
theorem k_to_wt (x : zMS) (v : Nat → Int32) : y_to (v_wt x v) = y_to x := rfl
theorem k_to_hh (x : zMS) (v : Nat → Bool) : y_to (v_hh x v) = y_to x := rfl
theorem k_to_he (x : zMS) (v : Nat → Int32) : y_to (v_he x v) = y_to x := rfl
theorem k_to_hm (x : zMS) (v : Nat → Nat) : y_to (v_hm x v) = y_to x := rfl
theorem k_to_tb (x : zMS) (v : Nat → Int64) : y_to (v_tb x v) = y_to x := rfl
theorem k_to_to (x : zMS) (v : Nat → Int64) : y_to (v_to x v) = v := rfl
theorem k_to_fr (x : zMS) (v : Nat → Nat) : y_to (v_fr x v) = y_to x := rfl
theorem k_to_tt (x : zMS) (v : Nat → Nat) : y_to (v_tt x v) = y_to x := rfl
theorem k_to_wh (x : zMS) (v : Nat → Int32) : y_to (v_wh x v) = y_to x := rfl
theorem k_to_rw (x : zMS) (v : Nat → Int64) : y_to (v_rw x v) = y_to x := rfl
theorem k_to_lo (x : zMS) (v : Nat → Int64) : y_to (v_lo x v) = y_to x := rfl
theorem k_to_hi (x : zMS) (v : Nat → Int64) : y_to (v_hi x v) = y_to x := rfl
theorem k_to_cv (x : zMS) (v : Nat → Bool) : y_to (v_cv x v) = y_to x := rfl
theorem k_to_so (x : zMS) (v : Nat → Int64) : y_to (v_so x v) = y_to x := rfl
theorem k_to_me (x : zMS) (v : Nat → Int64) : y_to (v_me x v) = y_to x := rfl
theorem k_to_re (x : zMS) (v : Nat → Bool) : y_to (v_re x v) = y_to x := rfl
theorem k_to_gb (x : zMS) (v : Nat → Nat → Option zAE) : y_to (v_gb x v) = y_to x := rfl
theorem k_fr_dk (x : zMS) (v : Nat) : y_fr (v_dk x v) = y_fr x := rfl
theorem k_fr_nr (x : zMS) (v : Nat) : y_fr (v_nr x v) = y_fr x := rfl
theorem k_fr_nw (x : zMS) (v : Nat) : y_fr (v_nw x v) = y_fr x := rfl
theorem k_fr_nn (x : zMS) (v : Nat) : y_fr (v_nn x v) = y_fr x := rfl
theorem k_fr_ms (x : zMS) (v : Nat) : y_fr (v_ms x v) = y_fr x := rfl
theorem k_fr_cp (x : zMS) (v : Nat) : y_fr (v_cp x v) = y_fr x := rfl
theorem k_fr_po (x : zMS) (v : Int32) : y_fr (v_po x v) = y_fr x := rfl
theorem k_fr_ne (x : zMS) (v : Int32) : y_fr (v_ne x v) = y_fr x := rfl
theorem k_fr_td (x : zMS) (v : Int32) : y_fr (v_td x v) = y_fr x := rfl
theorem k_fr_lk (x : zMS) (v : Nat → Bool) : y_fr (v_lk x v) = y_fr x := rfl
theorem k_fr_do (x : zMS) (v : Nat → Int32) : y_fr (v_do x v) = y_fr x := rfl
theorem k_fr_ro (x : zMS) (v : Nat → Nat) : y_fr (v_ro x v) = y_fr x := rfl
theorem k_fr_al (x : zMS) (v : Nat → Bool) : y_fr (v_al x v) = y_fr x := rfl
theorem k_fr_kd (x : zMS) (v : Nat → Int32) : y_fr (v_kd x v) = y_fr x := rfl
theorem k_fr_mn (x : zMS) (v : Nat → Nat) : y_fr (v_mn x v) = y_fr x := rfl
theorem k_fr_nu (x : zMS) (v : Nat → Int32) : y_fr (v_nu x v) = y_fr x := rfl
theorem k_fr_fi (x : zMS) (v : Nat → Int32) : y_fr (v_fi x v) = y_fr x := rfl
theorem k_fr_sa (x : zMS) (v : Nat → Int32) : y_fr (v_sa x v) = y_fr x := rfl
theorem k_fr_wt (x : zMS) (v : Nat → Int32) : y_fr (v_wt x v) = y_fr x := rfl
theorem k_fr_hh (x : zMS) (v : Nat → Bool) : y_fr (v_hh x v) = y_fr x := rfl
theorem k_fr_he (x : zMS) (v : Nat → Int32) : y_fr (v_he x v) = y_fr x := rfl
theorem k_fr_hm (x : zMS) (v : Nat → Nat) : y_fr (v_hm x v) = y_fr x := rfl
theorem k_fr_tb (x : zMS) (v : Nat → Int64) : y_fr (v_tb x v) = y_fr x := rfl
theorem k_fr_to (x : zMS) (v : Nat → Int64) : y_fr (v_to x v) = y_fr x := rfl
theorem k_fr_fr (x : zMS) (v : Nat → Nat) : y_fr (v_fr x v) = v := rfl
theorem k_fr_tt (x : zMS) (v : Nat → Nat) : y_fr (v_tt x v) = y_fr x := rfl
theorem k_fr_wh (x : zMS) (v : Nat → Int32) : y_fr (v_wh x v) = y_fr x := rfl
theorem k_fr_rw (x : zMS) (v : Nat → Int64) : y_fr (v_rw x v) = y_fr x := rfl
theorem k_fr_lo (x : zMS) (v : Nat → Int64) : y_fr (v_lo x v) = y_fr x := rfl
theorem k_fr_hi (x : zMS) (v : Nat → Int64) : y_fr (v_hi x v) = y_fr x := rfl
theorem k_fr_cv (x : zMS) (v : Nat → Bool) : y_fr (v_cv x v) = y_fr x := rfl
theorem k_fr_so (x : zMS) (v : Nat → Int64) : y_fr (v_so x v) = y_fr x := rfl
theorem k_fr_me (x : zMS) (v : Nat → Int64) : y_fr (v_me x v) = y_fr x := rfl
theorem k_fr_re (x : zMS) (v : Nat → Bool) : y_fr (v_re x v) = y_fr x := rfl
theorem k_fr_gb (x : zMS) (v : Nat → Nat → Option zAE) : y_fr (v_gb x v) = y_fr x := rfl
theorem k_tt_dk (x : zMS) (v : Nat) : y_tt (v_dk x v) = y_tt x := rfl
theorem k_tt_nr (x : zMS) (v : Nat) : y_tt (v_nr x v) = y_tt x := rfl
theorem k_tt_nw (x : zMS) (v : Nat) : y_tt (v_nw x v) = y_tt x := rfl
theorem k_tt_nn (x : zMS) (v : Nat) : y_tt (v_nn x v) = y_tt x := rfl
theorem k_tt_ms (x : zMS) (v : Nat) : y_tt (v_ms x v) = y_tt x := rfl
theorem k_tt_cp (x : zMS) (v : Nat) : y_tt (v_cp x v) = y_tt x := rfl
theorem k_tt_po (x : zMS) (v : Int32) : y_tt (v_po x v) = y_tt x := rfl
theorem k_tt_ne (x : zMS) (v : Int32) : y_tt (v_ne x v) = y_tt x := rfl
theorem k_tt_td (x : zMS) (v : Int32) : y_tt (v_td x v) = y_tt x := rfl
theorem k_tt_lk (x : zMS) (v : Nat → Bool) : y_tt (v_lk x v) = y_tt x := rfl
theorem k_tt_do (x : zMS) (v : Nat → Int32) : y_tt (v_do x v) = y_tt x := rfl
theorem k_tt_ro (x : zMS) (v : Nat → Nat) : y_tt (v_ro x v) = y_tt x := rfl
theorem k_tt_al (x : zMS) (v : Nat → Bool) : y_tt (v_al x v) = y_tt x := rfl
theorem k_tt_kd (x : zMS) (v : Nat → Int32) : y_tt (v_kd x v) = y_tt x := rfl
theorem k_tt_mn (x : zMS) (v : Nat → Nat) : y_tt (v_mn x v) = y_tt x := rfl
theorem k_tt_nu (x : zMS) (v : Nat → Int32) : y_tt (v_nu x v) = y_tt x := rfl
theorem k_tt_fi (x : zMS) (v : Nat → Int32) : y_tt (v_fi x v) = y_tt x := rfl
theorem k_tt_sa (x : zMS) (v : Nat → Int32) : y_tt (v_sa x v) = y_tt x := rfl
theorem k_tt_wt (x : zMS) (v : Nat → Int32) : y_tt (v_wt x v) = y_tt x := rfl
theorem k_tt_hh (x : zMS) (v : Nat → Bool) : y_tt (v_hh x v) = y_tt x := rfl
theorem k_tt_he (x : zMS) (v : Nat → Int32) : y_tt (v_he x v) = y_tt x := rfl
theorem k_tt_hm (x : zMS) (v : Nat → Nat) : y_tt (v_hm x v) = y_tt x := rfl
theorem k_tt_tb (x : zMS) (v : Nat → Int64) : y_tt (v_tb x v) = y_tt x := rfl
theorem k_tt_to (x : zMS) (v : Nat → Int64) : y_tt (v_to x v) = y_tt x := rfl
theorem k_tt_fr (x : zMS) (v : Nat → Nat) : y_tt (v_fr x v) = y_tt x := rfl
theorem k_tt_tt (x : zMS) (v : Nat → Nat) : y_tt (v_tt x v) = v := rfl
theorem k_tt_wh (x : zMS) (v : Nat → Int32) : y_tt (v_wh x v) = y_tt x := rfl
theorem k_tt_rw (x : zMS) (v : Nat → Int64) : y_tt (v_rw x v) = y_tt x := rfl
theorem k_tt_lo (x : zMS) (v : Nat → Int64) : y_tt (v_lo x v) = y_tt x := rfl
theorem k_tt_hi (x : zMS) (v : Nat → Int64) : y_tt (v_hi x v) = y_tt x := rfl
theorem k_tt_cv (x : zMS) (v : Nat → Bool) : y_tt (v_cv x v) = y_tt x := rfl
theorem k_tt_so (x : zMS) (v : Nat → Int64) : y_tt (v_so x v) = y_tt x := rfl
theorem k_tt_me (x : zMS) (v : Nat → Int64) : y_tt (v_me x v) = y_tt x := rfl
theorem k_tt_re (x : zMS) (v : Nat → Bool) : y_tt (v_re x v) = y_tt x := rfl
theorem k_tt_gb (x : zMS) (v : Nat → Nat → Option zAE) : y_tt (v_gb x v) = y_tt x := rfl
theorem k_wh_dk (x : zMS) (v : Nat) : y_wh (v_dk x v) = y_wh x := rfl
theorem k_wh_nr (x : zMS) (v : Nat) : y_wh (v_nr x v) = y_wh x := rfl
theorem k_wh_nw (x : zMS) (v : Nat) : y_wh (v_nw x v) = y_wh x := rfl
theorem k_wh_nn (x : zMS) (v : Nat) : y_wh (v_nn x v) = y_wh x := rfl
theorem k_wh_ms (x : zMS) (v : Nat) : y_wh (v_ms x v) = y_wh x := rfl
theorem k_wh_cp (x : zMS) (v : Nat) : y_wh (v_cp x v) = y_wh x := rfl
theorem k_wh_po (x : zMS) (v : Int32) : y_wh (v_po x v) = y_wh x := rfl
theorem k_wh_ne (x : zMS) (v : Int32) : y_wh (v_ne x v) = y_wh x := rfl
theorem k_wh_td (x : zMS) (v : Int32) : y_wh (v_td x v) = y_wh x := rfl
theorem k_wh_lk (x : zMS) (v : Nat → Bool) : y_wh (v_lk x v) = y_wh x := rfl
theorem k_wh_do (x : zMS) (v : Nat → Int32) : y_wh (v_do x v) = y_wh x := rfl
theorem k_wh_ro (x : zMS) (v : Nat → Nat) : y_wh (v_ro x v) = y_wh x := rfl
theorem k_wh_al (x : zMS) (v : Nat → Bool) : y_wh (v_al x v) = y_wh x := rfl
theorem k_wh_kd (x : zMS) (v : Nat → Int32) : y_wh (v_kd x v) = y_wh x := rfl
theorem k_wh_mn (x : zMS) (v : Nat → Nat) : y_wh (v_mn x v) = y_wh x := rfl
theorem k_wh_nu (x : zMS) (v : Nat → Int32) : y_wh (v_nu x v) = y_wh x := rfl
theorem k_wh_fi (x : zMS) (v : Nat → Int32) : y_wh (v_fi x v) = y_wh x := rfl
theorem k_wh_sa (x : zMS) (v : Nat → Int32) : y_wh (v_sa x v) = y_wh x := rfl
theorem k_wh_wt (x : zMS) (v : Nat → Int32) : y_wh (v_wt x v) = y_wh x := rfl
theorem k_wh_hh (x : zMS) (v : Nat → Bool) : y_wh (v_hh x v) = y_wh x := rfl
theorem k_wh_he (x : zMS) (v : Nat → Int32) : y_wh (v_he x v) = y_wh x := rfl
theorem k_wh_hm (x : zMS) (v : Nat → Nat) : y_wh (v_hm x v) = y_wh x := rfl
theorem k_wh_tb (x : zMS) (v : Nat → Int64) : y_wh (v_tb x v) = y_wh x := rfl
theorem k_wh_to (x : zMS) (v : Nat → Int64) : y_wh (v_to x v) = y_wh x := rfl
theorem k_wh_fr (x : zMS) (v : Nat → Nat) : y_wh (v_fr x v) = y_wh x := rfl
theorem k_wh_tt (x : zMS) (v : Nat → Nat) : y_wh (v_tt x v) = y_wh x := rfl
theorem k_wh_wh (x : zMS) (v : Nat → Int32) : y_wh (v_wh x v) = v := rfl
theorem k_wh_rw (x : zMS) (v : Nat → Int64) : y_wh (v_rw x v) = y_wh x := rfl
theorem k_wh_lo (x : zMS) (v : Nat → Int64) : y_wh (v_lo x v) = y_wh x := rfl
theorem k_wh_hi (x : zMS) (v : Nat → Int64) : y_wh (v_hi x v) = y_wh x := rfl
theorem k_wh_cv (x : zMS) (v : Nat → Bool) : y_wh (v_cv x v) = y_wh x := rfl
theorem k_wh_so (x : zMS) (v : Nat → Int64) : y_wh (v_so x v) = y_wh x := rfl
theorem k_wh_me (x : zMS) (v : Nat → Int64) : y_wh (v_me x v) = y_wh x := rfl
theorem k_wh_re (x : zMS) (v : Nat → Bool) : y_wh (v_re x v) = y_wh x := rfl
theorem k_wh_gb (x : zMS) (v : Nat → Nat → Option zAE) : y_wh (v_gb x v) = y_wh x := rfl
theorem k_rw_dk (x : zMS) (v : Nat) : y_rw (v_dk x v) = y_rw x := rfl
theorem k_rw_nr (x : zMS) (v : Nat) : y_rw (v_nr x v) = y_rw x := rfl
theorem k_rw_nw (x : zMS) (v : Nat) : y_rw (v_nw x v) = y_rw x := rfl
theorem k_rw_nn (x : zMS) (v : Nat) : y_rw (v_nn x v) = y_rw x := rfl
theorem k_rw_ms (x : zMS) (v : Nat) : y_rw (v_ms x v) = y_rw x := rfl
theorem k_rw_cp (x : zMS) (v : Nat) : y_rw (v_cp x v) = y_rw x := rfl
theorem k_rw_po (x : zMS) (v : Int32) : y_rw (v_po x v) = y_rw x := rfl
theorem k_rw_ne (x : zMS) (v : Int32) : y_rw (v_ne x v) = y_rw x := rfl
theorem k_rw_td (x : zMS) (v : Int32) : y_rw (v_td x v) = y_rw x := rfl
theorem k_rw_lk (x : zMS) (v : Nat → Bool) : y_rw (v_lk x v) = y_rw x := rfl
theorem k_rw_do (x : zMS) (v : Nat → Int32) : y_rw (v_do x v) = y_rw x := rfl
theorem k_rw_ro (x : zMS) (v : Nat → Nat) : y_rw (v_ro x v) = y_rw x := rfl
theorem k_rw_al (x : zMS) (v : Nat → Bool) : y_rw (v_al x v) = y_rw x := rfl
theorem k_rw_kd (x : zMS) (v : Nat → Int32) : y_rw (v_kd x v) = y_rw x := rfl
theorem k_rw_mn (x : zMS) (v : Nat → Nat) : y_rw (v_mn x v) = y_rw x := rfl
theorem k_rw_nu (x : zMS) (v : Nat → Int32) : y_rw (v_nu x v) = y_rw x := rfl
theorem k_rw_fi (x : zMS) (v : Nat → Int32) : y_rw (v_fi x v) = y_rw x := rfl
theorem k_rw_sa (x : zMS) (v : Nat → Int32) : y_rw (v_sa x v) = y_rw x := rfl
theorem k_rw_wt (x : zMS) (v : Nat → Int32) : y_rw (v_wt x v) = y_rw x := rfl
theorem k_rw_hh (x : zMS) (v : Nat → Bool) : y_rw (v_hh x v) = y_rw x := rfl
theorem k_rw_he (x : zMS) (v : Nat → Int32) : y_rw (v_he x v) = y_rw x := rfl
theorem k_rw_hm (x : zMS) (v : Nat → Nat) : y_rw (v_hm x v) = y_rw x := rfl
theorem k_rw_tb (x : zMS) (v : Nat → Int64) : y_rw (v_tb x v) = y_rw x := rfl
theorem k_rw_to (x : zMS) (v : Nat → Int64) : y_rw (v_to x v) = y_rw x := rfl
theorem k_rw_fr (x : zMS) (v : Nat → Nat) : y_rw (v_fr x v) = y_rw x := rfl
theorem k_rw_tt (x : zMS) (v : Nat → Nat) : y_rw (v_tt x v) = y_rw x := rfl
theorem k_rw_wh (x : zMS) (v : Nat → Int32) : y_rw (v_wh x v) = y_rw x := rfl
theorem k_rw_rw (x : zMS) (v : Nat → Int64) : y_rw (v_rw x v) = v := rfl
theorem k_rw_lo (x : zMS) (v : Nat → Int64) : y_rw (v_lo x v) = y_rw x := rfl
theorem k_rw_hi (x : zMS) (v : Nat → Int64) : y_rw (v_hi x v) = y_rw x := rfl
theorem k_rw_cv (x : zMS) (v : Nat → Bool) : y_rw (v_cv x v) = y_rw x := rfl
theorem k_rw_so (x : zMS) (v : Nat → Int64) : y_rw (v_so x v) = y_rw x := rfl
theorem k_rw_me (x : zMS) (v : Nat → Int64) : y_rw (v_me x v) = y_rw x := rfl
theorem k_rw_re (x : zMS) (v : Nat → Bool) : y_rw (v_re x v) = y_rw x := rfl
theorem k_rw_gb (x : zMS) (v : Nat → Nat → Option zAE) : y_rw (v_gb x v) = y_rw x := rfl
theorem k_lo_dk (x : zMS) (v : Nat) : y_lo (v_dk x v) = y_lo x := rfl
theorem k_lo_nr (x : zMS) (v : Nat) : y_lo (v_nr x v) = y_lo x := rfl
theorem k_lo_nw (x : zMS) (v : Nat) : y_lo (v_nw x v) = y_lo x := rfl
theorem k_lo_nn (x : zMS) (v : Nat) : y_lo (v_nn x v) = y_lo x := rfl
theorem k_lo_ms (x : zMS) (v : Nat) : y_lo (v_ms x v) = y_lo x := rfl
theorem k_lo_cp (x : zMS) (v : Nat) : y_lo (v_cp x v) = y_lo x := rfl
theorem k_lo_po (x : zMS) (v : Int32) : y_lo (v_po x v) = y_lo x := rfl
theorem k_lo_ne (x : zMS) (v : Int32) : y_lo (v_ne x v) = y_lo x := rfl
theorem k_lo_td (x : zMS) (v : Int32) : y_lo (v_td x v) = y_lo x := rfl
theorem k_lo_lk (x : zMS) (v : Nat → Bool) : y_lo (v_lk x v) = y_lo x := rfl
theorem k_lo_do (x : zMS) (v : Nat → Int32) : y_lo (v_do x v) = y_lo x := rfl
theorem k_lo_ro (x : zMS) (v : Nat → Nat) : y_lo (v_ro x v) = y_lo x := rfl
theorem k_lo_al (x : zMS) (v : Nat → Bool) : y_lo (v_al x v) = y_lo x := rfl
theorem k_lo_kd (x : zMS) (v : Nat → Int32) : y_lo (v_kd x v) = y_lo x := rfl
theorem k_lo_mn (x : zMS) (v : Nat → Nat) : y_lo (v_mn x v) = y_lo x := rfl
theorem k_lo_nu (x : zMS) (v : Nat → Int32) : y_lo (v_nu x v) = y_lo x := rfl
theorem k_lo_fi (x : zMS) (v : Nat → Int32) : y_lo (v_fi x v) = y_lo x := rfl
theorem k_lo_sa (x : zMS) (v : Nat → Int32) : y_lo (v_sa x v) = y_lo x := rfl
theorem k_lo_wt (x : zMS) (v : Nat → Int32) : y_lo (v_wt x v) = y_lo x := rfl
theorem k_lo_hh (x : zMS) (v : Nat → Bool) : y_lo (v_hh x v) = y_lo x := rfl
theorem k_lo_he (x : zMS) (v : Nat → Int32) : y_lo (v_he x v) = y_lo x := rfl
theorem k_lo_hm (x : zMS) (v : Nat → Nat) : y_lo (v_hm x v) = y_lo x := rfl
theorem k_lo_tb (x : zMS) (v : Nat → Int64) : y_lo (v_tb x v) = y_lo x := rfl
theorem k_lo_to (x : zMS) (v : Nat → Int64) : y_lo (v_to x v) = y_lo x := rfl
theorem k_lo_fr (x : zMS) (v : Nat → Nat) : y_lo (v_fr x v) = y_lo x := rfl
theorem k_lo_tt (x : zMS) (v : Nat → Nat) : y_lo (v_tt x v) = y_lo x := rfl
theorem k_lo_wh (x : zMS) (v : Nat → Int32) : y_lo (v_wh x v) = y_lo x := rfl
theorem k_lo_rw (x : zMS) (v : Nat → Int64) : y_lo (v_rw x v) = y_lo x := rfl
theorem k_lo_lo (x : zMS) (v : Nat → Int64) : y_lo (v_lo x v) = v := rfl
theorem k_lo_hi (x : zMS) (v : Nat → Int64) : y_lo (v_hi x v) = y_lo x := rfl
theorem k_lo_cv (x : zMS) (v : Nat → Bool) : y_lo (v_cv x v) = y_lo x := rfl
theorem k_lo_so (x : zMS) (v : Nat → Int64) : y_lo (v_so x v) = y_lo x := rfl
theorem k_lo_me (x : zMS) (v : Nat → Int64) : y_lo (v_me x v) = y_lo x := rfl
theorem k_lo_re (x : zMS) (v : Nat → Bool) : y_lo (v_re x v) = y_lo x := rfl
theorem k_lo_gb (x : zMS) (v : Nat → Nat → Option zAE) : y_lo (v_gb x v) = y_lo x := rfl
theorem k_hi_dk (x : zMS) (v : Nat) : y_hi (v_dk x v) = y_hi x := rfl
theorem k_hi_nr (x : zMS) (v : Nat) : y_hi (v_nr x v) = y_hi x := rfl
theorem k_hi_nw (x : zMS) (v : Nat) : y_hi (v_nw x v) = y_hi x := rfl
theorem k_hi_nn (x : zMS) (v : Nat) : y_hi (v_nn x v) = y_hi x := rfl
theorem k_hi_ms (x : zMS) (v : Nat) : y_hi (v_ms x v) = y_hi x := rfl
theorem k_hi_cp (x : zMS) (v : Nat) : y_hi (v_cp x v) = y_hi x := rfl
theorem k_hi_po (x : zMS) (v : Int32) : y_hi (v_po x v) = y_hi x := rfl
theorem k_hi_ne (x : zMS) (v : Int32) : y_hi (v_ne x v) = y_hi x := rfl
theorem k_hi_td (x : zMS) (v : Int32) : y_hi (v_td x v) = y_hi x := rfl
theorem k_hi_lk (x : zMS) (v : Nat → Bool) : y_hi (v_lk x v) = y_hi x := rfl
theorem k_hi_do (x : zMS) (v : Nat → Int32) : y_hi (v_do x v) = y_hi x := rfl
theorem k_hi_ro (x : zMS) (v : Nat → Nat) : y_hi (v_ro x v) = y_hi x := rfl
theorem k_hi_al (x : zMS) (v : Nat → Bool) : y_hi (v_al x v) = y_hi x := rfl
theorem k_hi_kd (x : zMS) (v : Nat → Int32) : y_hi (v_kd x v) = y_hi x := rfl
theorem k_hi_mn (x : zMS) (v : Nat → Nat) : y_hi (v_mn x v) = y_hi x := rfl
theorem k_hi_nu (x : zMS) (v : Nat → Int32) : y_hi (v_nu x v) = y_hi x := rfl
theorem k_hi_fi (x : zMS) (v : Nat → Int32) : y_hi (v_fi x v) = y_hi x := rfl
theorem k_hi_sa (x : zMS) (v : Nat → Int32) : y_hi (v_sa x v) = y_hi x := rfl
theorem k_hi_wt (x : zMS) (v : Nat → Int32) : y_hi (v_wt x v) = y_hi x := rfl
theorem k_hi_hh (x : zMS) (v : Nat → Bool) : y_hi (v_hh x v) = y_hi x := rfl
theorem k_hi_he (x : zMS) (v : Nat → Int32) : y_hi (v_he x v) = y_hi x := rfl
theorem k_hi_hm (x : zMS) (v : Nat → Nat) : y_hi (v_hm x v) = y_hi x := rfl
theorem k_hi_tb (x : zMS) (v : Nat → Int64) : y_hi (v_tb x v) = y_hi x := rfl
theorem k_hi_to (x : zMS) (v : Nat → Int64) : y_hi (v_to x v) = y_hi x := rfl
theorem k_hi_fr (x : zMS) (v : Nat → Nat) : y_hi (v_fr x v) = y_hi x := rfl
theorem k_hi_tt (x : zMS) (v : Nat → Nat) : y_hi (v_tt x v) = y_hi x := rfl
theorem k_hi_wh (x : zMS) (v : Nat → Int32) : y_hi (v_wh x v) = y_hi x := rfl
theorem k_hi_rw (x : zMS) (v : Nat → Int64) : y_hi (v_rw x v) = y_hi x := rfl
theorem k_hi_lo (x : zMS) (v : Nat → Int64) : y_hi (v_lo x v) = y_hi x := rfl
theorem k_hi_hi (x : zMS) (v : Nat → Int64) : y_hi (v_hi x v) = v := rfl
theorem k_hi_cv (x : zMS) (v : Nat → Bool) : y_hi (v_cv x v) = y_hi x := rfl
theorem k_hi_so (x : zMS) (v : Nat → Int64) : y_hi (v_so x v) = y_hi x := rfl
theorem k_hi_me (x : zMS) (v : Nat → Int64) : y_hi (v_me x v) = y_hi x := rfl
theorem k_hi_re (x : zMS) (v : Nat → Bool) : y_hi (v_re x v) = y_hi x := rfl
theorem k_hi_gb (x : zMS) (v : Nat → Nat → Option zAE) : y_hi (v_gb x v) = y_hi x := rfl
theorem k_cv_dk (x : zMS) (v : Nat) : y_cv (v_dk x v) = y_cv x := rfl
theorem k_cv_nr (x : zMS) (v : Nat) : y_cv (v_nr x v) = y_cv x := rfl
theorem k_cv_nw (x : zMS) (v : Nat) : y_cv (v_nw x v) = y_cv x := rfl
theorem k_cv_nn (x : zMS) (v : Nat) : y_cv (v_nn x v) = y_cv x := rfl
theorem k_cv_ms (x : zMS) (v : Nat) : y_cv (v_ms x v) = y_cv x := rfl
theorem k_cv_cp (x : zMS) (v : Nat) : y_cv (v_cp x v) = y_cv x := rfl
theorem k_cv_po (x : zMS) (v : Int32) : y_cv (v_po x v) = y_cv x := rfl
theorem k_cv_ne (x : zMS) (v : Int32) : y_cv (v_ne x v) = y_cv x := rfl
theorem k_cv_td (x : zMS) (v : Int32) : y_cv (v_td x v) = y_cv x := rfl
theorem k_cv_lk (x : zMS) (v : Nat → Bool) : y_cv (v_lk x v) = y_cv x := rfl
theorem k_cv_do (x : zMS) (v : Nat → Int32) : y_cv (v_do x v) = y_cv x := rfl
theorem k_cv_ro (x : zMS) (v : Nat → Nat) : y_cv (v_ro x v) = y_cv x := rfl
theorem k_cv_al (x : zMS) (v : Nat → Bool) : y_cv (v_al x v) = y_cv x := rfl
theorem k_cv_kd (x : zMS) (v : Nat → Int32) : y_cv (v_kd x v) = y_cv x := rfl
theorem k_cv_mn (x : zMS) (v : Nat → Nat) : y_cv (v_mn x v) = y_cv x := rfl
theorem k_cv_nu (x : zMS) (v : Nat → Int32) : y_cv (v_nu x v) = y_cv x := rfl
theorem k_cv_fi (x : zMS) (v : Nat → Int32) : y_cv (v_fi x v) = y_cv x := rfl
theorem k_cv_sa (x : zMS) (v : Nat → Int32) : y_cv (v_sa x v) = y_cv x := rfl
theorem k_cv_wt (x : zMS) (v : Nat → Int32) : y_cv (v_wt x v) = y_cv x := rfl
theorem k_cv_hh (x : zMS) (v : Nat → Bool) : y_cv (v_hh x v) = y_cv x := rfl
theorem k_cv_he (x : zMS) (v : Nat → Int32) : y_cv (v_he x v) = y_cv x := rfl
theorem k_cv_hm (x : zMS) (v : Nat → Nat) : y_cv (v_hm x v) = y_cv x := rfl
theorem k_cv_tb (x : zMS) (v : Nat → Int64) : y_cv (v_tb x v) = y_cv x := rfl
theorem k_cv_to (x : zMS) (v : Nat → Int64) : y_cv (v_to x v) = y_cv x := rfl
theorem k_cv_fr (x : zMS) (v : Nat → Nat) : y_cv (v_fr x v) = y_cv x := rfl
theorem k_cv_tt (x : zMS) (v : Nat → Nat) : y_cv (v_tt x v) = y_cv x := rfl
theorem k_cv_wh (x : zMS) (v : Nat → Int32) : y_cv (v_wh x v) = y_cv x := rfl
theorem k_cv_rw (x : zMS) (v : Nat → Int64) : y_cv (v_rw x v) = y_cv x := rfl
theorem k_cv_lo (x : zMS) (v : Nat → Int64) : y_cv (v_lo x v) = y_cv x := rfl
theorem k_cv_hi (x : zMS) (v : Nat → Int64) : y_cv (v_hi x v) = y_cv x := rfl
theorem k_cv_cv (x : zMS) (v : Nat → Bool) : y_cv (v_cv x v) = v := rfl
theorem k_cv_so (x : zMS) (v : Nat → Int64) : y_cv (v_so x v) = y_cv x := rfl
theorem k_cv_me (x : zMS) (v : Nat → Int64) : y_cv (v_me x v) = y_cv x := rfl
theorem k_cv_re (x : zMS) (v : Nat → Bool) : y_cv (v_re x v) = y_cv x := rfl
theorem k_cv_gb (x : zMS) (v : Nat → Nat → Option zAE) : y_cv (v_gb x v) = y_cv x := rfl
theorem k_so_dk (x : zMS) (v : Nat) : y_so (v_dk x v) = y_so x := rfl
theorem k_so_nr (x : zMS) (v : Nat) : y_so (v_nr x v) = y_so x := rfl
theorem k_so_nw (x : zMS) (v : Nat) : y_so (v_nw x v) = y_so x := rfl
theorem k_so_nn (x : zMS) (v : Nat) : y_so (v_nn x v) = y_so x := rfl
theorem k_so_ms (x : zMS) (v : Nat) : y_so (v_ms x v) = y_so x := rfl
theorem k_so_cp (x : zMS) (v : Nat) : y_so (v_cp x v) = y_so x := rfl
theorem k_so_po (x : zMS) (v : Int32) : y_so (v_po x v) = y_so x := rfl
theorem k_so_ne (x : zMS) (v : Int32) : y_so (v_ne x v) = y_so x := rfl
theorem k_so_td (x : zMS) (v : Int32) : y_so (v_td x v) = y_so x := rfl
theorem k_so_lk (x : zMS) (v : Nat → Bool) : y_so (v_lk x v) = y_so x := rfl
theorem k_so_do (x : zMS) (v : Nat → Int32) : y_so (v_do x v) = y_so x := rfl
theorem k_so_ro (x : zMS) (v : Nat → Nat) : y_so (v_ro x v) = y_so x := rfl
theorem k_so_al (x : zMS) (v : Nat → Bool) : y_so (v_al x v) = y_so x := rfl
theorem k_so_kd (x : zMS) (v : Nat → Int32) : y_so (v_kd x v) = y_so x := rfl
theorem k_so_mn (x : zMS) (v : Nat → Nat) : y_so (v_mn x v) = y_so x := rfl
theorem k_so_nu (x : zMS) (v : Nat → Int32) : y_so (v_nu x v) = y_so x := rfl
theorem k_so_fi (x : zMS) (v : Nat → Int32) : y_so (v_fi x v) = y_so x := rfl
theorem k_so_sa (x : zMS) (v : Nat → Int32) : y_so (v_sa x v) = y_so x := rfl
theorem k_so_wt (x : zMS) (v : Nat → Int32) : y_so (v_wt x v) = y_so x := rfl
theorem k_so_hh (x : zMS) (v : Nat → Bool) : y_so (v_hh x v) = y_so x := rfl
theorem k_so_he (x : zMS) (v : Nat → Int32) : y_so (v_he x v) = y_so x := rfl
theorem k_so_hm (x : zMS) (v : Nat → Nat) : y_so (v_hm x v) = y_so x := rfl
theorem k_so_tb (x : zMS) (v : Nat → Int64) : y_so (v_tb x v) = y_so x := rfl
theorem k_so_to (x : zMS) (v : Nat → Int64) : y_so (v_to x v) = y_so x := rfl
theorem k_so_fr (x : zMS) (v : Nat → Nat) : y_so (v_fr x v) = y_so x := rfl
theorem k_so_tt (x : zMS) (v : Nat → Nat) : y_so (v_tt x v) = y_so x := rfl
theorem k_so_wh (x : zMS) (v : Nat → Int32) : y_so (v_wh x v) = y_so x := rfl
theorem k_so_rw (x : zMS) (v : Nat → Int64) : y_so (v_rw x v) = y_so x := rfl
theorem k_so_lo (x : zMS) (v : Nat → Int64) : y_so (v_lo x v) = y_so x := rfl
theorem k_so_hi (x : zMS) (v : Nat → Int64) : y_so (v_hi x v) = y_so x := rfl
theorem k_so_cv (x : zMS) (v : Nat → Bool) : y_so (v_cv x v) = y_so x := rfl
theorem k_so_so (x : zMS) (v : Nat → Int64) : y_so (v_so x v) = v := rfl
theorem k_so_me (x : zMS) (v : Nat → Int64) : y_so (v_me x v) = y_so x := rfl
theorem k_so_re (x : zMS) (v : Nat → Bool) : y_so (v_re x v) = y_so x := rfl
theorem k_so_gb (x : zMS) (v : Nat → Nat → Option zAE) : y_so (v_gb x v) = y_so x := rfl
theorem k_me_dk (x : zMS) (v : Nat) : y_me (v_dk x v) = y_me x := rfl
theorem k_me_nr (x : zMS) (v : Nat) : y_me (v_nr x v) = y_me x := rfl
theorem k_me_nw (x : zMS) (v : Nat) : y_me (v_nw x v) = y_me x := rfl
theorem k_me_nn (x : zMS) (v : Nat) : y_me (v_nn x v) = y_me x := rfl
theorem k_me_ms (x : zMS) (v : Nat) : y_me (v_ms x v) = y_me x := rfl
theorem k_me_cp (x : zMS) (v : Nat) : y_me (v_cp x v) = y_me x := rfl
theorem k_me_po (x : zMS) (v : Int32) : y_me (v_po x v) = y_me x := rfl
theorem k_me_ne (x : zMS) (v : Int32) : y_me (v_ne x v) = y_me x := rfl
theorem k_me_td (x : zMS) (v : Int32) : y_me (v_td x v) = y_me x := rfl
theorem k_me_lk (x : zMS) (v : Nat → Bool) : y_me (v_lk x v) = y_me x := rfl
theorem k_me_do (x : zMS) (v : Nat → Int32) : y_me (v_do x v) = y_me x := rfl
theorem k_me_ro (x : zMS) (v : Nat → Nat) : y_me (v_ro x v) = y_me x := rfl
theorem k_me_al (x : zMS) (v : Nat → Bool) : y_me (v_al x v) = y_me x := rfl
theorem k_me_kd (x : zMS) (v : Nat → Int32) : y_me (v_kd x v) = y_me x := rfl
theorem k_me_mn (x : zMS) (v : Nat → Nat) : y_me (v_mn x v) = y_me x := rfl
theorem k_me_nu (x : zMS) (v : Nat → Int32) : y_me (v_nu x v) = y_me x := rfl
theorem k_me_fi (x : zMS) (v : Nat → Int32) : y_me (v_fi x v) = y_me x := rfl
theorem k_me_sa (x : zMS) (v : Nat → Int32) : y_me (v_sa x v) = y_me x := rfl
theorem k_me_wt (x : zMS) (v : Nat → Int32) : y_me (v_wt x v) = y_me x := rfl
theorem k_me_hh (x : zMS) (v : Nat → Bool) : y_me (v_hh x v) = y_me x := rfl
theorem k_me_he (x : zMS) (v : Nat → Int32) : y_me (v_he x v) = y_me x := rfl
theorem k_me_hm (x : zMS) (v : Nat → Nat) : y_me (v_hm x v) = y_me x := rfl
theorem k_me_tb (x : zMS) (v : Nat → Int64) : y_me (v_tb x v) = y_me x := rfl
theorem k_me_to (x : zMS) (v : Nat → Int64) : y_me (v_to x v) = y_me x := rfl
theorem k_me_fr (x : zMS) (v : Nat → Nat) : y_me (v_fr x v) = y_me x := rfl
theorem k_me_tt (x : zMS) (v : Nat → Nat) : y_me (v_tt x v) = y_me x := rfl
theorem k_me_wh (x : zMS) (v : Nat → Int32) : y_me (v_wh x v) = y_me x := rfl
theorem k_me_rw (x : zMS) (v : Nat → Int64) : y_me (v_rw x v) = y_me x := rfl
theorem k_me_lo (x : zMS) (v : Nat → Int64) : y_me (v_lo x v) = y_me x := rfl
theorem k_me_hi (x : zMS) (v : Nat → Int64) : y_me (v_hi x v) = y_me x := rfl
theorem k_me_cv (x : zMS) (v : Nat → Bool) : y_me (v_cv x v) = y_me x := rfl
theorem k_me_so (x : zMS) (v : Nat → Int64) : y_me (v_so x v) = y_me x := rfl
theorem k_me_me (x : zMS) (v : Nat → Int64) : y_me (v_me x v) = v := rfl
theorem k_me_re (x : zMS) (v : Nat → Bool) : y_me (v_re x v) = y_me x := rfl
theorem k_me_gb (x : zMS) (v : Nat → Nat → Option zAE) : y_me (v_gb x v) = y_me x := rfl
theorem k_re_dk (x : zMS) (v : Nat) : y_re (v_dk x v) = y_re x := rfl
theorem k_re_nr (x : zMS) (v : Nat) : y_re (v_nr x v) = y_re x := rfl
theorem k_re_nw (x : zMS) (v : Nat) : y_re (v_nw x v) = y_re x := rfl
theorem k_re_nn (x : zMS) (v : Nat) : y_re (v_nn x v) = y_re x := rfl
theorem k_re_ms (x : zMS) (v : Nat) : y_re (v_ms x v) = y_re x := rfl
theorem k_re_cp (x : zMS) (v : Nat) : y_re (v_cp x v) = y_re x := rfl
theorem k_re_po (x : zMS) (v : Int32) : y_re (v_po x v) = y_re x := rfl
theorem k_re_ne (x : zMS) (v : Int32) : y_re (v_ne x v) = y_re x := rfl
theorem k_re_td (x : zMS) (v : Int32) : y_re (v_td x v) = y_re x := rfl
theorem k_re_lk (x : zMS) (v : Nat → Bool) : y_re (v_lk x v) = y_re x := rfl
theorem k_re_do (x : zMS) (v : Nat → Int32) : y_re (v_do x v) = y_re x := rfl
theorem k_re_ro (x : zMS) (v : Nat → Nat) : y_re (v_ro x v) = y_re x := rfl
theorem k_re_al (x : zMS) (v : Nat → Bool) : y_re (v_al x v) = y_re x := rfl
theorem k_re_kd (x : zMS) (v : Nat → Int32) : y_re (v_kd x v) = y_re x := rfl
theorem k_re_mn (x : zMS) (v : Nat → Nat) : y_re (v_mn x v) = y_re x := rfl
theorem k_re_nu (x : zMS) (v : Nat → Int32) : y_re (v_nu x v) = y_re x := rfl
theorem k_re_fi (x : zMS) (v : Nat → Int32) : y_re (v_fi x v) = y_re x := rfl
theorem k_re_sa (x : zMS) (v : Nat → Int32) : y_re (v_sa x v) = y_re x := rfl
theorem k_re_wt (x : zMS) (v : Nat → Int32) : y_re (v_wt x v) = y_re x := rfl
theorem k_re_hh (x : zMS) (v : Nat → Bool) : y_re (v_hh x v) = y_re x := rfl
theorem k_re_he (x : zMS) (v : Nat → Int32) : y_re (v_he x v) = y_re x := rfl
theorem k_re_hm (x : zMS) (v : Nat → Nat) : y_re (v_hm x v) = y_re x := rfl
theorem k_re_tb (x : zMS) (v : Nat → Int64) : y_re (v_tb x v) = y_re x := rfl
theorem k_re_to (x : zMS) (v : Nat → Int64) : y_re (v_to x v) = y_re x := rfl
theorem k_re_fr (x : zMS) (v : Nat → Nat) : y_re (v_fr x v) = y_re x := rfl
theorem k_re_tt (x : zMS) (v : Nat → Nat) : y_re (v_tt x v) = y_re x := rfl
theorem k_re_wh (x : zMS) (v : Nat → Int32) : y_re (v_wh x v) = y_re x := rfl
theorem k_re_rw (x : zMS) (v : Nat → Int64) : y_re (v_rw x v) = y_re x := rfl
theorem k_re_lo (x : zMS) (v : Nat → Int64) : y_re (v_lo x v) = y_re x := rfl
theorem k_re_hi (x : zMS) (v : Nat → Int64) : y_re (v_hi x v) = y_re x := rfl
theorem k_re_cv (x : zMS) (v : Nat → Bool) : y_re (v_cv x v) = y_re x := rfl
theorem k_re_so (x : zMS) (v : Nat → Int64) : y_re (v_so x v) = y_re x := rfl
theorem k_re_me (x : zMS) (v : Nat → Int64) : y_re (v_me x v) = y_re x := rfl
theorem k_re_re (x : zMS) (v : Nat → Bool) : y_re (v_re x v) = v := rfl
theorem k_re_gb (x : zMS) (v : Nat → Nat → Option zAE) : y_re (v_gb x v) = y_re x := rfl
theorem k_gb_dk (x : zMS) (v : Nat) : y_gb (v_dk x v) = y_gb x := rfl
theorem k_gb_nr (x : zMS) (v : Nat) : y_gb (v_nr x v) = y_gb x := rfl
theorem k_gb_nw (x : zMS) (v : Nat) : y_gb (v_nw x v) = y_gb x := rfl
theorem k_gb_nn (x : zMS) (v : Nat) : y_gb (v_nn x v) = y_gb x := rfl
theorem k_gb_ms (x : zMS) (v : Nat) : y_gb (v_ms x v) = y_gb x := rfl
theorem k_gb_cp (x : zMS) (v : Nat) : y_gb (v_cp x v) = y_gb x := rfl
theorem k_gb_po (x : zMS) (v : Int32) : y_gb (v_po x v) = y_gb x := rfl
theorem k_gb_ne (x : zMS) (v : Int32) : y_gb (v_ne x v) = y_gb x := rfl
theorem k_gb_td (x : zMS) (v : Int32) : y_gb (v_td x v) = y_gb x := rfl
theorem k_gb_lk (x : zMS) (v : Nat → Bool) : y_gb (v_lk x v) = y_gb x := rfl
theorem k_gb_do (x : zMS) (v : Nat → Int32) : y_gb (v_do x v) = y_gb x := rfl
theorem k_gb_ro (x : zMS) (v : Nat → Nat) : y_gb (v_ro x v) = y_gb x := rfl
theorem k_gb_al (x : zMS) (v : Nat → Bool) : y_gb (v_al x v) = y_gb x := rfl
theorem k_gb_kd (x : zMS) (v : Nat → Int32) : y_gb (v_kd x v) = y_gb x := rfl
theorem k_gb_mn (x : zMS) (v : Nat → Nat) : y_gb (v_mn x v) = y_gb x := rfl
theorem k_gb_nu (x : zMS) (v : Nat → Int32) : y_gb (v_nu x v) = y_gb x := rfl
theorem k_gb_fi (x : zMS) (v : Nat → Int32) : y_gb (v_fi x v) = y_gb x := rfl
theorem k_gb_sa (x : zMS) (v : Nat → Int32) : y_gb (v_sa x v) = y_gb x := rfl
theorem k_gb_wt (x : zMS) (v : Nat → Int32) : y_gb (v_wt x v) = y_gb x := rfl
theorem k_gb_hh (x : zMS) (v : Nat → Bool) : y_gb (v_hh x v) = y_gb x := rfl
theorem k_gb_he (x : zMS) (v : Nat → Int32) : y_gb (v_he x v) = y_gb x := rfl
theorem k_gb_hm (x : zMS) (v : Nat → Nat) : y_gb (v_hm x v) = y_gb x := rfl
theorem k_gb_tb (x : zMS) (v : Nat → Int64) : y_gb (v_tb x v) = y_gb x := rfl
theorem k_gb_to (x : zMS) (v : Nat → Int64) : y_gb (v_to x v) = y_gb x := rfl
theorem k_gb_fr (x : zMS) (v : Nat → Nat) : y_gb (v_fr x v) = y_gb x := rfl
theorem k_gb_tt (x : zMS) (v : Nat → Nat) : y_gb (v_tt x v) = y_gb x := rfl
theorem k_gb_wh (x : zMS) (v : Nat → Int32) : y_gb (v_wh x v) = y_gb x := rfl
theorem k_gb_rw (x : zMS) (v : Nat → Int64) : y_gb (v_rw x v) = y_gb x := rfl
theorem k_gb_lo (x : zMS) (v : Nat → Int64) : y_gb (v_lo x v) = y_gb x := rfl
theorem k_gb_hi (x : zMS) (v : Nat → Int64) : y_gb (v_hi x v) = y_gb x := rfl
theorem k_gb_cv (x : zMS) (v : Nat → Bool) : y_gb (v_cv x v) = y_gb x := rfl
theorem k_gb_so (x : zMS) (v : Nat → Int64) : y_gb (v_so x v) = y_gb x := rfl
theorem k_gb_me (x : zMS) (v : Nat → Int64) : y_gb (v_me x v) = y_gb x := rfl
theorem k_gb_re (x : zMS) (v : Nat → Bool) : y_gb (v_re x v) = y_gb x := rfl
theorem k_gb_gb (x : zMS) (v : Nat → Nat → Option zAE) : y_gb (v_gb x v) = v := rfl
