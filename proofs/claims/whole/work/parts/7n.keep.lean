/-! costs over many deliveries; the numbers of things made -/
theorem dlc_r {x : zSt} {a : zAb} (hI : Iv x) (hR : Rx x a) (hA : AI a) {u v : Nat} (hu : u < a_dk a) (hv : v < a_dk a) (hlk : a_lk a u v = true) : ∀ n, n ≤ (a_q a u v).length → dl_c x (nI u) (nI v) n + rws x ≤ rws (dl x (nI u) (nI v) n)
  | 0, _ => by show 0 + rws x ≤ rws x; omega
  | n + 1, hn => by
    have ih := dlc_r hI hR hA hu hv hlk n (by omega)
    obtain ⟨j1, j2⟩ := dlx_r hI hR hA hu hv hlk n (by omega)
    obtain ⟨h1, h2, h3, h4⟩ := aS_p hA hlk n
    have hs := dfc_r j1 j2 h1 (by rw [h3]; exact hu) (by rw [h3]; exact hv) h2 (fun z => by rw [z] at h4; simp only [List.length_nil] at h4; omega)
    have e1 : dl_c x (nI u) (nI v) (n + 1) = dl_c x (nI u) (nI v) n + df_c (dl x (nI u) (nI v) n) (nI u) (nI v) := rfl
    have e2 : dl x (nI u) (nI v) (n + 1) = df (dl x (nI u) (nI v) n) (nI u) (nI v) := rfl
    rw [e1, e2]
    omega
theorem alc_r {x : zSt} {a : zAb} (hI : Iv x) (hR : Rx x a) (hA : AI a) {N : Nat} (hN : ∀ i, i < N → fb (aA a i) 144 ≠ none) : ∀ n, n ≤ N → al_c (xA x a) (a_pl a) n + rws x ≤ rws (xA x a n)
  | 0, _ => by show 0 + rws x ≤ rws x; omega
  | n + 1, hn => by
    have ih := alc_r hI hR hA hN n (by omega)
    obtain ⟨j1, j2⟩ := xA_r hI hR hA hN n (by omega)
    have hf := hN n (by omega)
    have hb := (fb_s (a_pl_e hf)).2.1
    have hAn := aA_AI hA n
    have hlk := bz_lk hAn.1 hb
    have hs := dfc_r j1 j2 hAn (hAn.1.lk _ _ hlk).2 (hAn.1.lk _ _ (hAn.1.lk _ _ hlk).1).2 hlk hb
    have e1 : al_c (xA x a) (a_pl a) (n + 1) = al_c (xA x a) (a_pl a) n + df_c (xA x a n) (nI (a_pl a n / 12)) (nI (a_pl a n % 12)) := rfl
    have e2 : xA x a (n + 1) = df (xA x a n) (nI (a_pl a n / 12)) (nI (a_pl a n % 12)) := rfl
    rw [e1, e2]
    omega
/-- numbers that only making things changes -/
def kq (x : zSt) : Nat × Nat × Nat × Nat × Nat × Nat × Nat × Nat := (x_or x, x_nr x, x_ow x, x_nw x, x_on x, x_nn x, x_rg x, x_ng x)
theorem Iq_of {x y : zSt} (h : Iq x) (hI : Iv y) (hk : kq y = kq x) : Iq y := by
  unfold kq at hk
  simp only [Prod.mk.injEq] at hk
  obtain ⟨h1, h2, h3, h4, h5, h6, h7, h8⟩ := hk
  obtain ⟨_, g1, g2, g3, g4, g5⟩ := h
  exact ⟨hI, by rw [h1, h2]; exact g1, by rw [h3, h4]; exact g2, by rw [h5, h6]; exact g3, by rw [h7, h4]; exact g4, by rw [h8, h4]; exact g5⟩
theorem kq_lf {x y : zSt} (h : lf_k x y) : kq y = kq x := by
  obtain ⟨A, B, C, D, E, F, rfl⟩ := h
  rfl
theorem kq_tns (x : zSt) (u : Int32) (n : Nat) : kq (tn_s x u n) = kq x := by
  unfold tn_s
  split
  · rfl
  · split
    · rfl
    · rename_i l _ _
      exact (kq_lf (lf_tell (fmn x u (nI n)) l)).trans rfl
theorem kq_tn (x : zSt) (u : Int32) : ∀ n, kq (tn x u n) = kq x
  | 0 => rfl
  | n + 1 => (kq_tns _ u n).trans (kq_tn x u n)
theorem kq_lh (x : zSt) (k : Nat) (d : Int32) : ∀ n, kq (lh x k d n) = kq x
  | 0 => rfl
  | n + 1 => by
    have ih := kq_lh x k d n
    have e : lh x k d (n + 1) = lh_s (lh x k d n) k d n := rfl
    rw [e, ← ih]
    unfold lh_s
    split
    · unfold rd_add
      split <;> rfl
    · rfl
theorem kq_po (x : zSt) (k : Nat) (d f : Int32) : ∀ n, kq (po x k d f n) = kq x
  | 0 => rfl
  | n + 1 => by
    have ih := kq_po x k d f n
    have e : po x k d f (n + 1) = po_s (po x k d f n) k d f n := rfl
    rw [e, ← ih]
    generalize po x k d f n = z
    unfold po_s
    split
    · rfl
    · split
      · rfl
      · split
        · unfold po_4
          have h1 : ∀ a, kq (po_1 z a k) = kq z := fun a => by
            unfold po_1
            split <;> rfl
          split
          · exact h1 _
          · exact h1 _
        · rfl
theorem kq_df (x : zSt) (u v : Int32) : kq (df x u v) = kq x := by
  have h2 : ∀ (z : zSt) (it : Int32), kq (df2 z u v it) = kq z := fun z it => by
    unfold df2
    split
    · exact (kq_tn (df_t z) v _).trans rfl
    · split
      · unfold df3
        split
        · rfl
        · exact (kq_po _ _ _ _ _).trans ((kq_lh _ _ _ _).trans rfl)
      · rfl
  unfold df
  split
  · exact h2 x _
  · rename_i l _
    refine (h2 _ _).trans ?_
    unfold df_y
    split
    · rfl
    · exact kq_lf (lf_take x l)
theorem kq_dl (x : zSt) (u v : Int32) : ∀ n, kq (dl x u v n) = kq x
  | 0 => rfl
  | n + 1 => (kq_df _ u v).trans (kq_dl x u v n)
theorem kq_xA (x : zSt) (a : zAb) : ∀ n, kq (xA x a n) = kq x
  | 0 => rfl
  | n + 1 => (kq_df _ _ _).trans (kq_xA x a n)
theorem ol_f (x : zSt) (u v : Nat) : kq (ol x u v) = kq x ∧ rws (ol x u v) = rws x := by
  have h : kq (ol_1 x) = kq x ∧ rws (ol_1 x) = rws x := by
    unfold ol_1
    split
    · exact ⟨rfl, rws_eq rfl rfl⟩
    · refine ⟨rfl, ?_⟩
      unfold rws
      show sm (fun l => ct (fun s => va_up (x_lr x) (x_nl x) (fun _ => none) l s ≠ none) 121) (x_nl x) + ct (fun s => va_up (x_lr x) (x_nl x) (fun _ => none) (x_nl x) s ≠ none) 121 = _
      rw [sm_cg (g := fun l => ct (fun s => x_lr x l s ≠ none) 121) (x_nl x) (fun l hl => ct_cg _ (fun s _ => by rw [va_upo' _ _ (show l ≠ x_nl x by omega)])), ct_zero (fun s _ z => z (by rw [va_ups']))]
      rfl
  exact ⟨h.1, (rws_eq rfl rfl).trans h.2⟩
theorem lkx_f (x : zSt) (u v : Nat) : kq (lk_x x u v) = kq x ∧ rws (lk_x x u v) = rws x := by
  have h1 := ol_f x u v
  have h2 := ol_f (ol x u v) v u
  refine ⟨?_, ?_⟩
  · show kq (ol (ol x u v) v u) = _
    rw [h2.1, h1.1]
  · have e : rws (lk_x x u v) = rws (ol (ol x u v) v u) := rws_eq rfl rfl
    rw [e, h2.2, h1.2]
theorem cln_f (x : zSt) (l : Nat) : ∀ n, kq (cl_n x l n) = kq x ∧ x_lr (cl_n x l n) = x_lr x ∧ x_nl (cl_n x l n) = x_nl x ∧ x_ns (cl_n x l n) = x_ns x
  | 0 => ⟨rfl, rfl, rfl, rfl⟩
  | n + 1 => by
    have ih := cln_f x l n
    have e : cl_n x l (n + 1) = cl_s (cl_n x l n) l n := rfl
    rw [e]
    unfold cl_s
    split
    · exact ih
    · exact ih
theorem cl_f (x : zSt) (u v : Nat) : kq (cl x u v) = kq x ∧ rws (cl x u v) = rws x ∧ x_ns (cl x u v) ≤ x_ns x + 1 := by
  unfold cl
  split
  · exact ⟨rfl, rfl, by omega⟩
  · rename_i l _
    have h := cln_f x l (x_lz x l)
    refine ⟨?_, ?_, ?_⟩
    · exact h.1
    · exact rws_eq h.2.2.1 h.2.1
    · show x_ns (cl_n x l (x_lz x l)) + 1 ≤ x_ns x + 1
      rw [h.2.2.2]
      exact Nat.le_refl _
theorem ctx_f (x : zSt) (u v : Nat) : kq (ct_x x u v) = kq x ∧ rws (ct_x x u v) = rws x := by
  have h1 := cl_f x u v
  have h2 := cl_f (cl x u v) v u
  refine ⟨?_, ?_⟩
  · show kq (cl (cl x u v) v u) = _
    rw [h2.1, h1.1]
  · have e : rws (ct_x x u v) = rws (cl (cl x u v) v u) := rws_eq rfl rfl
    rw [e, h2.2.1, h1.2.1]
theorem ns_le {x : zSt} (hs : Rs x) : x_ns x ≤ 144 := by
  have := hs.2.2.2.2
  omega
theorem wsh_f (x : zSt) (r : Nat) : rws (wsh_x x r) = rws x := by
  unfold wsh_x wsh_1
  obtain ⟨A, B, C, e⟩ := ls_k (wg (u_rg (nw_ft (nw_ws x r)) (x_ng x)) (x_nw x) (x_nw x) (x_nw x)) 1
  rw [e]
  obtain ⟨f, e2⟩ := wgk' (u_rg (nw_ft (nw_ws x r)) (x_ng x)) (x_nw x) (x_nw x) (x_nw x)
  rw [e2]
  exact rws_eq rfl rfl
theorem snd_f (x : zSt) (d : Int32) (g : Nat → Int32) : rws (snd_x x d g) = rws x := by
  unfold snd_x
  refine rws_eq ?_ ?_
  · rw [(po_lr _ _ _ _ _).2, (lh_lr _ _ _ _).2]
    rfl
  · rw [(po_lr _ _ _ _ _).1, (lh_lr _ _ _ _).1]
    rfl
