/-! link, cut -/
theorem lc_e (a : zAb) : lc a = sm2 (fun p w => if zd (w < p ∧ a_lk a p w = true) = true then 1 else 0) := rfl
/-- the count of roads when one is opened or closed -/
theorem lc_up {a b : zAb} {u v : Nat} (hu : u < 12) (hv : v < 12) (hne : u ≠ v) (c : Bool) (hb : ∀ p w, a_lk b p w = if (p = u ∧ w = v) ∨ (p = v ∧ w = u) then c else a_lk a p w) (h1 : a_lk a u v = !c) (h2 : a_lk a v u = !c) : lc b + (if c = true then 0 else 1) = lc a + (if c = true then 1 else 0) := by
  rw [lc_e, lc_e]
  have main : ∀ m n, m < 12 → n < 12 → n < m → a_lk a m n = !c → (∀ p w, w < p → a_lk b p w = if p = m ∧ w = n then c else a_lk a p w) → sm2 (fun p w => if zd (w < p ∧ a_lk b p w = true) = true then 1 else 0) + (if c = true then 0 else 1) = sm2 (fun p w => if zd (w < p ∧ a_lk a p w = true) = true then 1 else 0) + (if c = true then 1 else 0) := by
    intro m n hm hn hmn hl hb2
    have h := sm2_up (fun p w => if zd (w < p ∧ a_lk a p w = true) = true then 1 else 0) (if c = true then 1 else 0) hm hn
    have e : sm2 (fun p w => if zd (w < p ∧ a_lk b p w = true) = true then 1 else 0) = sm2 (va_u2 (fun p w => if zd (w < p ∧ a_lk a p w = true) = true then 1 else 0) m n (if c = true then 1 else 0)) := by
      refine congrArg sm2 ?_
      funext p w
      by_cases hw : w < p
      · rw [hb2 p w hw]
        simp only [va_u2]
        by_cases e : p = m ∧ w = n
        · rw [if_pos e, if_pos e]
          cases c with
          | true => rw [zd_t ⟨hw, rfl⟩]
          | false => rw [zd_f (fun z => absurd z.2 (by decide))]
        · rw [if_neg e, if_neg e]
      · rw [zd_f (fun z => hw z.1)]
        simp only [va_u2]
        rw [if_neg (show ¬ (p = m ∧ w = n) from fun z => hw (by omega)), zd_f (fun z => hw z.1)]
    rw [e]
    have e3 : (if zd (n < m ∧ a_lk a m n = true) = true then 1 else 0) = (if c = true then 0 else 1) := by
      rw [hl]
      cases c with
      | true => rw [zd_f (fun z => absurd z.2 (by decide))]; rfl
      | false => rw [zd_t ⟨hmn, rfl⟩]; rfl
    have h' : sm2 (va_u2 (fun p w => if zd (w < p ∧ a_lk a p w = true) = true then 1 else 0) m n (if c = true then 1 else 0)) + (if zd (n < m ∧ a_lk a m n = true) = true then 1 else 0) = sm2 (fun p w => if zd (w < p ∧ a_lk a p w = true) = true then 1 else 0) + (if c = true then 1 else 0) := h
    rw [e3] at h'
    exact h'
  rcases Nat.lt_or_gt_of_ne hne with h | h
  · refine main v u hv hu h h2 (fun p w hw => ?_)
    rw [hb p w]
    by_cases e : p = v ∧ w = u
    · rw [if_pos (Or.inr e), if_pos e]
    · rw [if_neg (show ¬ ((p = u ∧ w = v) ∨ (p = v ∧ w = u)) from fun z => z.elim (fun z => by omega) e), if_neg e]
  · refine main u v hu hv h h1 (fun p w hw => ?_)
    rw [hb p w]
    by_cases e : p = u ∧ w = v
    · rw [if_pos (Or.inl e), if_pos e]
    · rw [if_neg (show ¬ ((p = u ∧ w = v) ∨ (p = v ∧ w = u)) from fun z => z.elim e (fun z => by omega)), if_neg e]
theorem lnk_r {x : zSt} {a : zAb} (hI : Iv x) (hR : Rx x a) (hJ : AJ a) {u v : Nat} (hu : u < a_dk a) (hv : v < a_dk a) (hn : ¬ Cn (a_E a) u v) : Rx (lk_x x u v) (a_lnk a u v) := by
  obtain ⟨hg, hl, hs, hm⟩ := hR
  have h3 := hJ.lim
  have huv : u ≠ v := fun z => hn (z ▸ Cn_refl _ _)
  have f1 : a_lk a u v = false := by
    cases hq : a_lk a u v with
    | false => rfl
    | true => exact absurd (Cn_one hq) hn
  have f2 : a_lk a v u = false := by rw [lk_sy hJ]; exact f1
  have n1 := hJ.un u v f1
  have n2 := hJ.un v u f2
  have k1 := ol_r hI hl hs hg.nb (show u < 12 by omega) (show v < 12 by omega) f1 n1.1 n1.2.1 n2.2.2
  have f3 : a_lk (a_half a u v) v u = false := by
    show va_u2 (a_lk a) u v true v u = false
    rw [va_u2_o _ _ (fun z => huv z.1.symm)]; exact f2
  have k2 := ol_r (Iv_ol hI) k1.1 k1.2.1 k1.2.2 (show v < 12 by omega) (show u < 12 by omega) f3 n2.1 n2.2.1 n1.2.2
  have ea : a_half (a_half a u v) v u = a_lnk a u v := rfl
  rw [ea] at k2
  -- what the two lanes leave as it was
  have fr : ∀ (y : zSt) (p w : Nat), x_dk (ol y p w) = x_dk y ∧ x_nr (ol y p w) = x_nr y ∧ x_nw (ol y p w) = x_nw y ∧ x_nn (ol y p w) = x_nn y ∧ x_po (ol y p w) = x_po y ∧ x_ne (ol y p w) = x_ne y ∧ x_td (ol y p w) = x_td y ∧ x_rd (ol y p w) = x_rd y ∧ x_rz (ol y p w) = x_rz y ∧ x_rh (ol y p w) = x_rh y ∧ x_wr (ol y p w) = x_wr y ∧ x_wa (ol y p w) = x_wa y ∧ x_ob (ol y p w) = x_ob y ∧ x_fk (ol y p w) = x_fk y ∧ x_fz (ol y p w) = x_fz y ∧ x_fg (ol y p w) = x_fg y ∧ x_nf (ol y p w) = x_nf y ∧ x_nd (ol y p w) = x_nd y ∧ x_nv (ol y p w) = x_nv y ∧ x_nh (ol y p w) = x_nh y ∧ x_nm (ol y p w) = x_nm y ∧ x_lk (ol y p w) = x_lk y := by
    intro y p w
    unfold ol ol_1
    split <;> exact ⟨rfl, rfl, rfl, rfl, rfl, rfl, rfl, rfl, rfl, rfl, rfl, rfl, rfl, rfl, rfl, rfl, rfl, rfl, rfl, rfl, rfl, rfl⟩
  have hlc : lc (a_lnk a u v) = lc a + 1 := by
    have := lc_up (a := a) (b := a_lnk a u v) (show u < 12 by omega) (show v < 12 by omega) huv true (fun p w => by
      show va_u2 (va_u2 (a_lk a) u v true) v u true p w = _
      simp only [va_u2]
      by_cases e1 : p = v ∧ w = u
      · rw [if_pos e1, if_pos (Or.inr e1)]
      · rw [if_neg e1]
        by_cases e2 : p = u ∧ w = v
        · rw [if_pos e2, if_pos (Or.inl e2)]
        · rw [if_neg e2, if_neg (fun z => z.elim e2 e1)]) f1 f2
    simpa using this
  have q1 := fr x u v
  have q2 := fr (ol x u v) v u
  have qq : ∃ Y, Y = ol (ol x u v) v u ∧ x_dk Y = x_dk x ∧ x_nr Y = x_nr x ∧ x_nw Y = x_nw x ∧ x_nn Y = x_nn x ∧ x_po Y = x_po x ∧ x_ne Y = x_ne x ∧ x_td Y = x_td x ∧ x_rd Y = x_rd x ∧ x_rz Y = x_rz x ∧ x_rh Y = x_rh x ∧ x_wr Y = x_wr x ∧ x_wa Y = x_wa x ∧ x_ob Y = x_ob x ∧ x_fk Y = x_fk x ∧ x_fz Y = x_fz x ∧ x_fg Y = x_fg x ∧ x_nf Y = x_nf x ∧ x_nd Y = x_nd x ∧ x_nv Y = x_nv x ∧ x_nh Y = x_nh x ∧ x_nm Y = x_nm x ∧ x_lk Y = x_lk x := by
    refine ⟨_, rfl, ?_⟩
    obtain ⟨a1, a2, a3, a4, a5, a6, a7, a8, a9, a10, a11, a12, a13, a14, a15, a16, a17, a18, a19, a20, a21, a22⟩ := q1
    obtain ⟨b1, b2, b3, b4, b5, b6, b7, b8, b9, b10, b11, b12, b13, b14, b15, b16, b17, b18, b19, b20, b21, b22⟩ := q2
    exact ⟨b1.trans a1, b2.trans a2, b3.trans a3, b4.trans a4, b5.trans a5, b6.trans a6, b7.trans a7, b8.trans a8, b9.trans a9, b10.trans a10, b11.trans a11, b12.trans a12, b13.trans a13, b14.trans a14, b15.trans a15, b16.trans a16, b17.trans a17, b18.trans a18, b19.trans a19, b20.trans a20, b21.trans a21, b22.trans a22⟩
  obtain ⟨Y, hY, c1, c2, c3, c4, c5, c6, c7, c8, c9, c10, c11, c12, c13, c14, c15, c16, c17, c18, c19, c20, c21, c22⟩ := qq
  rw [← hY] at k2
  have eY : lk_x x u v = u_lk Y (x_lk Y + 1) := by unfold lk_x; rw [← hY]
  rw [eY]
  refine ⟨⟨⟨c1.trans hg.sc.1, c2.trans hg.sc.2.1, c3.trans hg.sc.2.2.1, c4.trans hg.sc.2.2.2.1, c5.trans hg.sc.2.2.2.2.1, c6.trans hg.sc.2.2.2.2.2.1, c7.trans hg.sc.2.2.2.2.2.2⟩, fun r hr => ?_, fun w hw => ?_, fun w f hw hf => ?_, fun k hk => ?_, k2.2.2, ?_⟩, k2.1, k2.2.1, fun k hk => ?_⟩
  · show x_rd Y r = nI (a_rd a r) ∧ x_rz Y r = a_rz a r ∧ ∀ i, i < a_rz a r → x_rh Y r i = a_rh a r i
    rw [c8, c9, c10]; exact hg.rd r hr
  · show x_wr Y w = a_wr a w ∧ x_wa Y w = a_wa a w ∧ ∀ j, j < 320 → zbit (x_ob Y w) j = zd (a_out a w j)
    rw [c11, c12, c13]; exact hg.ws w hw
  · show x_fk Y w f = a_fk a w f ∧ x_fz Y w f = a_fz a w f ∧ x_fg Y w f = a_fg a w f
    rw [c14, c15, c16]; exact hg.ts w f hw hf
  · show x_nf Y k = a_nf a k ∧ x_nd Y k = a_nd a k ∧ (∀ d, d < 12 → inm (x_nv Y k) (nI d) = a_sn a k d) ∧ ∀ r, r < 24 → inm (x_nh Y k) (nI r) = a_hb a k r
    rw [c17, c18, c19, c20]; exact hg.nt k hk
  · show x_lk Y + 1 = nI (lc (a_lnk a u v))
    rw [hlc, c22, hg.lk, nI_1]
  · show x_nm Y k = nI (cn a k)
    rw [c21]; exact hm k hk
/-! a lane is closed -/
def a_hc (a : zAb) (u v : Nat) : zAb := b_tb (b_to (b_q (b_lk a (va_u2 (a_lk a) u v false)) (va_u2 (a_q a) u v [])) (va_u2 (a_to a) u v (fun _ => false))) (va_u2 (a_tb a) v u (fun _ => false))
theorem hc_2 (a : zAb) (u v : Nat) : a_hc (a_hc a u v) v u = a_ctt a u v := by
  have e : va_u2 (va_u2 (a_tb a) v u (fun _ => false)) u v (fun _ => false) = cut2 (a_tb a) u v (fun _ => false) := by
    unfold cut2
    funext p w
    simp only [va_u2]
    by_cases e1 : p = u ∧ w = v <;> by_cases e2 : p = v ∧ w = u <;> simp [e1, e2]
  show b_tb (b_to (b_q (b_lk (a_hc a u v) _) _) _) (va_u2 (va_u2 (a_tb a) v u (fun _ => false)) u v (fun _ => false)) = _
  rw [e]
  rfl
/-- only the counts of messages are other -/
theorem cln_k {x : zSt} {a : zAb} (hg : Rg x a) (hJn : a_nn a ≤ 600) {l : Nat} {q : List zIt} {t b : Nat → Bool} (h : ln_r x l q t b) (hk : ∀ k, k ∈ nt q → k < a_nn a) : ∀ n, n ≤ q.length → ∃ f, cl_n x l n = u_nm x f ∧ ∀ j c, j < a_nn a → x_nm x j = nI (c + (nt (q.take n)).count j) → f j = nI c
  | 0, _ => ⟨x_nm x, rfl, fun j c _ e => by rw [e]; rfl⟩
  | n + 1, hn => by
    obtain ⟨f, e, hf⟩ := cln_k hg hJn h hk n (by omega)
    have e1 : cl_n x l (n + 1) = cl_s (cl_n x l n) l n := rfl
    rw [e1, e]
    unfold cl_s
    have e2 : la_at (u_nm x f) l n = la_at x l n := rfl
    have e3 : x_nn (u_nm x f) = a_nn a := hg.sc.2.2.2.1
    have hit := h.2.1 n (by omega)
    have htk : q.take (n + 1) = q.take n ++ [q[n]] := List.take_succ_eq_append_getElem (by omega)
    rw [e2, e3]
    cases hq : q[n]'(by omega) with
    | inl k =>
      rw [hq] at hit
      have hit' : la_at x l n = nI k := hit
      have hkk : k < a_nn a := hk k (nt_mem.mpr (by rw [← hq]; exact List.getElem_mem _))
      rw [hit', if_pos (isn_n (by omega) hkk), nI_clamp (by omega)]
      refine ⟨va_up f k (f k - 1), rfl, fun j c hj hc => ?_⟩
      rw [htk, hq, nt_app, List.count_append] at hc
      have e5 : List.count j (nt [.inl k]) = if j = k then 1 else 0 := by
        show List.count j [k] = _
        rw [List.count_singleton]
        by_cases e : j = k
        · rw [e]; simp
        · have : ¬ k = j := fun z => e z.symm
          simp [e, this]
      rw [e5] at hc
      by_cases e : j = k
      · rw [e, va_ups']
        rw [e, if_pos rfl] at hc
        have := hf k (c + 1) hkk (by rw [hc, show c + (List.count k (nt (List.take n q)) + 1) = c + 1 + List.count k (nt (List.take n q)) by omega])
        rw [this, nI_pred]
      · rw [va_upo' _ _ e]
        rw [if_neg e] at hc
        exact hf j c hj hc
    | inr m =>
      rw [hq] at hit
      have hit' : la_at x l n = -2 := hit.1
      have : ¬ isn (a_nn a) (-2) = true := fun z => by
        obtain ⟨k, hk1, hk2⟩ := isn_t (by omega) z
        exact nI_n2 (by omega) hk2.symm
      rw [hit', if_neg this]
      refine ⟨f, rfl, fun j c hj hc => ?_⟩
      rw [htk, hq, nt_app, List.count_append] at hc
      exact hf j c hj hc
theorem cn_hc (a : zAb) {u v : Nat} (hu : u < 12) (hv : v < 12) (k : Nat) : cn (a_hc a u v) k + (nt (a_q a u v)).count k = cn a k := by
  unfold cn
  have h := sm2_up (fun u v => (nt (a_q a u v)).count k) 0 hu hv
  have e : sm2 (fun p w => (nt (a_q (a_hc a u v) p w)).count k) = sm2 (va_u2 (fun u v => (nt (a_q a u v)).count k) u v 0) := by
    refine congrArg sm2 ?_
    funext p w
    show (nt (va_u2 (a_q a) u v [] p w)).count k = _
    simp only [va_u2]
    split <;> rfl
  rw [e]
  exact h
theorem hc_r {x : zSt} {a : zAb} (hg : Rg x a) (hJn : a_nn a ≤ 600) (hl : Rl x a) (hs : Rs x) (hm : Rn x a) {u v : Nat} (hu : u < 12) (hv : v < 12) (hF : lnF x (nI u) (nI v) = x_ln x (12 * u + v)) (hlk : a_lk a u v = true) (hk : ∀ k, k ∈ nt (a_q a u v) → k < a_nn a) : ∃ Y, Y = cl x u v ∧ Rl Y (a_hc a u v) ∧ Rs Y ∧ NbR Y (a_hc a u v) ∧ Rn Y (a_hc a u v) ∧ x_dk Y = x_dk x ∧ x_nr Y = x_nr x ∧ x_nw Y = x_nw x ∧ x_nn Y = x_nn x ∧ x_po Y = x_po x ∧ x_ne Y = x_ne x ∧ x_td Y = x_td x ∧ x_rd Y = x_rd x ∧ x_rz Y = x_rz x ∧ x_rh Y = x_rh x ∧ x_wr Y = x_wr x ∧ x_wa Y = x_wa x ∧ x_ob Y = x_ob x ∧ x_fk Y = x_fk x ∧ x_fz Y = x_fz x ∧ x_fg Y = x_fg x ∧ x_nf Y = x_nf x ∧ x_nd Y = x_nd x ∧ x_nv Y = x_nv x ∧ x_nh Y = x_nh x ∧ x_lk Y = x_lk x := by
  obtain ⟨l, h1, h2⟩ := (hl u v hu hv).2 hlk
  have hF2 : lnF x (nI u) (nI v) = some l := hF.trans h1
  obtain ⟨f, e1, hf⟩ := cln_k hg hJn h2 hk (x_lz x l) (by rw [h2.1]; exact Nat.le_refl _)
  obtain ⟨A, B, C, e2⟩ := ls_k (la_clear (u_nm x f) l) 3
  have e3 : cl x u v = u_nb (u_ln (u_sp (u_ns (u_gb (u_cp (u_lc (la_clear (u_nm x f) l) A) B) C) (x_ns x + 1)) (va_up (x_sp x) (x_ns x) l)) (va_up (x_ln x) (12 * u + v) none)) (upd (x_nb x) u (x_nb x u &&& ((1 <<< (nI v &&& 31)) ^^^ (-1)))) := by
    unfold cl
    rw [hF2]
    show cl_2 x l u v = _
    unfold cl_2 cl_1 sp_add
    rw [e1, e2]
    rfl
  have hnew : ln_r (la_clear (u_nm x f) l) l [] (fun _ => false) (fun _ => false) := by
    refine ⟨va_ups' _ _ _, fun i hi => absurd hi (Nat.not_lt_zero i), fun k hk2 => ?_, fun k hk2 => ?_⟩
    · show zbit (va_up (x_lt x) l (rw_clr (x_lt x l)) l) k = false
      rw [va_ups', zbit_clr _ hk2]
    · show zbit (va_up (x_lb x) l (rw_clr (x_lb x l)) l) k = false
      rw [va_ups', zbit_clr _ hk2]
  have hold : ∀ l' q t b, l' ≠ l → ln_r x l' q t b → ln_r (la_clear (u_nm x f) l) l' q t b := fun l' q t b hne h => by
    refine ⟨?_, fun i hi => ?_, ?_, ?_⟩
    · show va_up (x_lz x) l 0 l' = _
      rw [va_upo' _ _ hne]; exact h.1
    · refine it_cg (x := x) (l := l') ?_ ?_ (h.2.1 i hi)
      · show x_li x l' ((va_up (x_lf x) l 0 l' + i) % 121) = _
        rw [va_upo' _ _ hne]; rfl
      · show x_lr x l' ((va_up (x_lf x) l 0 l' + i) % 121) = _
        rw [va_upo' _ _ hne]
    · show row_r (va_up (x_lt x) l (rw_clr (x_lt x l)) l') t
      rw [va_upo' _ _ hne]; exact h.2.2.1
    · show row_r (va_up (x_lb x) l (rw_clr (x_lb x l)) l') b
      rw [va_upo' _ _ hne]; exact h.2.2.2
  have hct : ct (fun p => x_ln x p ≠ none) 144 = ct (fun p => va_up (x_ln x) (12 * u + v) none p ≠ none) 144 + 1 := by
    rw [← ct_add1 (p := fun p => va_up (x_ln x) (12 * u + v) none p ≠ none) (show 12 * u + v < 144 by omega) (fun z => z (va_ups' _ _ _))]
    refine ct_cg _ (fun p _ => ?_)
    by_cases e : p = 12 * u + v
    · rw [e, va_ups', h1]; exact ⟨fun _ => Or.inr rfl, fun _ => by simp⟩
    · rw [va_upo' _ _ e]; exact ⟨Or.inl, fun z => z.elim id (fun z => absurd z e)⟩
  refine ⟨_, rfl, ?_⟩
  rw [e3]
  have hlast : ∀ p, p < 144 → p ≠ 12 * u + v → x_ln x p ≠ some l := fun p hp hne z => hne (hs.1 p (12 * u + v) l hp (by omega) z h1)
  have esp : ∀ k, k < x_ns x + 1 → (k = x_ns x ∧ va_up (x_sp x) (x_ns x) l k = l) ∨ (k < x_ns x ∧ va_up (x_sp x) (x_ns x) l k = x_sp x k ∧ x_sp x k ≠ l) := fun k hk2 => by
    by_cases e : k = x_ns x
    · exact Or.inl ⟨e, by rw [e, va_ups']⟩
    · refine Or.inr ⟨by omega, va_upo' _ _ e, fun z => hs.2.1 k (12 * u + v) (by omega) (by omega) (by rw [z]; exact h1)⟩
  refine ⟨fun p w hp hw => ?_, ⟨fun p p' l' hp hp' g1 g2 => ?_, fun k p hk2 hp => ?_, fun k k' hk2 hk3 => ?_, fun k hk2 => ?_, ?_, ?_⟩, fun p i hp hi => ?_, fun k hk2 => ?_, rfl, rfl, rfl, rfl, rfl, rfl, rfl, rfl, rfl, rfl, rfl, rfl, rfl, rfl, rfl, rfl, rfl, rfl, rfl, rfl, rfl⟩
  · show (va_u2 (a_lk a) u v false p w = false → va_up (x_ln x) (12 * u + v) none (12 * p + w) = none) ∧ (va_u2 (a_lk a) u v false p w = true → ∃ l', va_up (x_ln x) (12 * u + v) none (12 * p + w) = some l' ∧ ln_r (la_clear (u_nm x f) l) l' (va_u2 (a_q a) u v [] p w) (va_u2 (a_to a) u v (fun _ => false) p w) (va_u2 (a_tb a) v u (fun _ => false) w p))
    by_cases e : p = u ∧ w = v
    · rw [e.1, e.2, va_u2_s, va_ups']
      exact ⟨fun _ => rfl, fun z => (by cases z)⟩
    · have hne : 12 * p + w ≠ 12 * u + v := by intro z; exact e ⟨by omega, by omega⟩
      rw [va_u2_o _ _ e, va_upo' _ _ hne, va_u2_o _ _ e, va_u2_o _ _ e, va_u2_o _ _ (show ¬ (w = v ∧ p = u) from fun z => e ⟨z.2, z.1⟩)]
      refine ⟨(hl p w hp hw).1, fun z => ?_⟩
      obtain ⟨l', g1, g2⟩ := (hl p w hp hw).2 z
      exact ⟨l', g1, hold l' _ _ _ (fun q => hlast (12 * p + w) (by omega) hne (by rw [← q]; exact g1)) g2⟩
  · have g1' : va_up (x_ln x) (12 * u + v) none p = some l' := g1
    have g2' : va_up (x_ln x) (12 * u + v) none p' = some l' := g2
    by_cases e1 : p = 12 * u + v
    · rw [e1, va_ups'] at g1'; cases g1'
    · by_cases e2 : p' = 12 * u + v
      · rw [e2, va_ups'] at g2'; cases g2'
      · rw [va_upo' _ _ e1] at g1'
        rw [va_upo' _ _ e2] at g2'
        exact hs.1 p p' l' hp hp' g1' g2'
  · show va_up (x_ln x) (12 * u + v) none p ≠ some (va_up (x_sp x) (x_ns x) l k)
    by_cases e1 : p = 12 * u + v
    · rw [e1, va_ups']; simp
    · rw [va_upo' _ _ e1]
      rcases esp k hk2 with ⟨_, z⟩ | ⟨z1, z2, _⟩
      · rw [z]; exact hlast p hp e1
      · rw [z2]; exact hs.2.1 k p z1 hp
  · show va_up (x_sp x) (x_ns x) l k = va_up (x_sp x) (x_ns x) l k' → k = k'
    rcases esp k hk2 with ⟨y1, z⟩ | ⟨z1, z2, z3⟩
    · rcases esp k' hk3 with ⟨y2, _⟩ | ⟨w1, w2, w3⟩
      · intro _; rw [y1, y2]
      · rw [z, w2]; intro q; exact absurd q.symm w3
    · rcases esp k' hk3 with ⟨_, w⟩ | ⟨w1, w2, w3⟩
      · rw [z2, w]; intro q; exact absurd q z3
      · rw [z2, w2]; exact hs.2.2.1 k k' z1 w1
  · show ln_r (la_clear (u_nm x f) l) (va_up (x_sp x) (x_ns x) l k) [] (fun _ => false) (fun _ => false)
    rcases esp k hk2 with ⟨_, z⟩ | ⟨z1, z2, z3⟩
    · rw [z]; exact hnew
    · rw [z2]; exact hold _ _ _ _ z3 (hs.2.2.2.1 k z1)
  · show x_nl x = x_ns x + 1 + ct (fun p => va_up (x_ln x) (12 * u + v) none p ≠ none) 144
    rw [hs.2.2.2.2.1, hct]
    omega
  · exact hs.2.2.2.2.2
  · show bt (upd (x_nb x) u (x_nb x u &&& ((1 <<< (nI v &&& 31)) ^^^ (-1))) p) i = va_u2 (a_lk a) u v false p i
    by_cases e : p = u
    · subst e
      rw [upd_s', b_and, b_xor, b_m1 i hi, Bool.xor_true, hg.nb p i hp hi]
      by_cases e2 : i = v
      · rw [e2, va_u2_s, (one_b v hv v (by omega)).mpr rfl]; simp
      · rw [va_u2_o _ _ (fun z => e2 z.2)]
        have : bt ((1 : Int32) <<< (nI v &&& 31)) i = false := by
          cases hq : bt ((1 : Int32) <<< (nI v &&& 31)) i with
          | false => rfl
          | true => exact absurd ((one_b v hv i hi).mp hq) e2
        rw [this]; simp
    · rw [upd_o' _ _ e, va_u2_o _ _ (fun z => e z.1)]; exact hg.nb p i hp hi
  · show f k = nI (cn (a_hc a u v) k)
    refine hf k _ hk2 ?_
    rw [hm k hk2, h2.1, List.take_length, cn_hc a hu hv k]
set_option maxHeartbeats 1000000 in
theorem cut_r {x : zSt} {a : zAb} (hR : Rx x a) (hJ : AJ a) {u v : Nat} (hu : u < a_dk a) (hv : v < a_dk a) (hlk : a_lk a u v = true) : Rx (ct_x x u v) (a_ctt a u v) := by
  obtain ⟨hg, hl, hs, hm⟩ := hR
  have h3 := hJ.lim
  have huv : u ≠ v := fun z => Br_irr hJ.br (show a_E a u u from by rw [← z] at hlk; exact hlk)
  have hF1 : lnF x (nI u) (nI v) = x_ln x (12 * u + v) := lnF_n (by rw [hg.sc.1]; exact h3.1) (by rw [hg.sc.1]; exact hu) (by rw [hg.sc.1]; exact hv)
  obtain ⟨Y, eY, k1, k2, k3, k4, c1, c2, c3, c4, c5, c6, c7, c8, c9, c10, c11, c12, c13, c14, c15, c16, c17, c18, c19, c20, c21⟩ := hc_r hg h3.2.2.2 hl hs hm (show u < 12 by omega) (show v < 12 by omega) hF1 hlk (fun k hk => ((hJ.ql u v).2.2.1 k hk).1)
  have f2 : a_lk (a_hc a u v) v u = true := by
    show va_u2 (a_lk a) u v false v u = true
    rw [va_u2_o _ _ (fun z => huv z.1.symm)]; exact (hJ.lk u v hlk).1
  have hF2 : lnF Y (nI v) (nI u) = x_ln Y (12 * v + u) := lnF_n (by rw [c1, hg.sc.1]; exact h3.1) (by rw [c1, hg.sc.1]; exact hv) (by rw [c1, hg.sc.1]; exact hu)
  have hgY2 : Rg (u_lk Y (nI (lc (a_hc a u v)))) (a_hc a u v) := by
    refine ⟨⟨c1.trans hg.sc.1, c2.trans hg.sc.2.1, c3.trans hg.sc.2.2.1, c4.trans hg.sc.2.2.2.1, c5.trans hg.sc.2.2.2.2.1, c6.trans hg.sc.2.2.2.2.2.1, c7.trans hg.sc.2.2.2.2.2.2⟩, fun r hr => ?_, fun w hw => ?_, fun w f hw hf => ?_, fun k hk => ?_, k3, rfl⟩
    · show x_rd Y r = nI (a_rd a r) ∧ x_rz Y r = a_rz a r ∧ ∀ i, i < a_rz a r → x_rh Y r i = a_rh a r i
      rw [c8, c9, c10]; exact hg.rd r hr
    · show x_wr Y w = a_wr a w ∧ x_wa Y w = a_wa a w ∧ ∀ j, j < 320 → zbit (x_ob Y w) j = zd (a_out a w j)
      rw [c11, c12, c13]; exact hg.ws w hw
    · show x_fk Y w f = a_fk a w f ∧ x_fz Y w f = a_fz a w f ∧ x_fg Y w f = a_fg a w f
      rw [c14, c15, c16]; exact hg.ts w f hw hf
    · show x_nf Y k = a_nf a k ∧ x_nd Y k = a_nd a k ∧ (∀ d, d < 12 → inm (x_nv Y k) (nI d) = a_sn a k d) ∧ ∀ r, r < 24 → inm (x_nh Y k) (nI r) = a_hb a k r
      rw [c17, c18, c19, c20]; exact hg.nt k hk
  have hq2 : a_q (a_hc a u v) v u = a_q a v u := va_u2_o _ _ (fun z => huv z.1.symm)
  obtain ⟨Z, eZ, m1, m2, m3, m4, d1, d2, d3, d4, d5, d6, d7, d8, d9, d10, d11, d12, d13, d14, d15, d16, d17, d18, d19, d20, d21⟩ := hc_r (x := u_lk Y (nI (lc (a_hc a u v)))) hgY2 h3.2.2.2 k1 k2 k4 (show v < 12 by omega) (show u < 12 by omega) hF2 f2 (fun k hk => by rw [hq2] at hk; exact ((hJ.ql v u).2.2.1 k hk).1)
  rw [hc_2] at m1 m3 m4
  -- closing does not look at the count of roads
  have eW : ∃ W, W = cl Y v u ∧ Z = u_lk W (nI (lc (a_hc a u v))) ∧ x_lk W = x_lk Y := by
    refine ⟨_, rfl, ?_, ?_⟩
    · rw [eZ]
      unfold cl
      have e0 : lnF (u_lk Y (nI (lc (a_hc a u v)))) (nI v) (nI u) = lnF Y (nI v) (nI u) := rfl
      rw [e0]
      cases lnF Y (nI v) (nI u) with
      | none => rfl
      | some l =>
        show cl_2 (u_lk Y (nI (lc (a_hc a u v)))) l v u = u_lk (cl_2 Y l v u) (nI (lc (a_hc a u v)))
        have en : ∀ n, cl_n (u_lk Y (nI (lc (a_hc a u v)))) l n = u_lk (cl_n Y l n) (nI (lc (a_hc a u v))) := by
          intro n
          induction n with
          | zero => rfl
          | succ n ih =>
            show cl_s (cl_n (u_lk Y _) l n) l n = u_lk (cl_s (cl_n Y l n) l n) _
            rw [ih]
            unfold cl_s
            have e1 : ∀ z : zSt, la_at (u_lk z (nI (lc (a_hc a u v)))) l n = la_at z l n := fun _ => rfl
            have e2 : ∀ z : zSt, x_nn (u_lk z (nI (lc (a_hc a u v)))) = x_nn z := fun _ => rfl
            rw [e1, e2]
            split <;> rfl
        unfold cl_2 cl_1
        rw [show x_lz (u_lk Y (nI (lc (a_hc a u v)))) = x_lz Y from rfl, en]
        rfl
    · unfold cl
      cases lnF Y (nI v) (nI u) with
      | none => rfl
      | some l =>
        show x_lk (cl_2 Y l v u) = x_lk Y
        have en : ∀ n, x_lk (cl_n Y l n) = x_lk Y := by
          intro n
          induction n with
          | zero => rfl
          | succ n ih =>
            show x_lk (cl_s (cl_n Y l n) l n) = x_lk Y
            rw [← ih]
            unfold cl_s
            split <;> rfl
        exact en (x_lz Y l)
  obtain ⟨W, eW1, eW2, eW3⟩ := eW
  have hlc : lc a = lc (a_ctt a u v) + 1 := by
    have := lc_up (a := a) (b := a_ctt a u v) (show u < 12 by omega) (show v < 12 by omega) huv false (fun p w => by
      by_cases e : (p = u ∧ w = v) ∨ (p = v ∧ w = u)
      · rw [if_pos e]
        exact (ctt_c a u v p w).elim (fun z => z.2.1) (fun z => absurd e z.1)
      · rw [if_neg e]
        exact (ctt_c a u v p w).elim (fun z => absurd z.1 e) (fun z => z.2.1)) hlk (hJ.lk u v hlk).1
    simp at this
    exact this.symm
  have ect : ct_x x u v = u_lk W (x_lk W - 1) := by
    unfold ct_x
    rw [← eY, ← eW1]
  rw [ect, eW3, c21, hg.lk, hlc, nI_pred]
  rw [eW2] at m1 m2 m3 m4 d1 d2 d3 d4 d5 d6 d7 d8 d9 d10 d11 d12 d13 d14 d15 d16 d17 d18 d19 d20
  have B : ∀ {α : Type} {p q r : α}, p = q → q = r → p = r := fun h1 h2 => h1.trans h2
  refine ⟨⟨⟨(B d1 c1).trans hg.sc.1, (B d2 c2).trans hg.sc.2.1, (B d3 c3).trans hg.sc.2.2.1, (B d4 c4).trans hg.sc.2.2.2.1, (B d5 c5).trans hg.sc.2.2.2.2.1, (B d6 c6).trans hg.sc.2.2.2.2.2.1, (B d7 c7).trans hg.sc.2.2.2.2.2.2⟩, fun r hr => ?_, fun w hw => ?_, fun w f hw hf => ?_, fun k hk => ?_, m3, rfl⟩, m1, m2, m4⟩
  · have e8 : x_rd W = x_rd x := B d8 c8
    have e9 : x_rz W = x_rz x := B d9 c9
    have e10 : x_rh W = x_rh x := B d10 c10
    show x_rd W r = nI (a_rd a r) ∧ x_rz W r = a_rz a r ∧ ∀ i, i < a_rz a r → x_rh W r i = a_rh a r i
    rw [e8, e9, e10]; exact hg.rd r hr
  · have e8 : x_wr W = x_wr x := B d11 c11
    have e9 : x_wa W = x_wa x := B d12 c12
    have e10 : x_ob W = x_ob x := B d13 c13
    show x_wr W w = a_wr a w ∧ x_wa W w = a_wa a w ∧ ∀ j, j < 320 → zbit (x_ob W w) j = zd (a_out a w j)
    rw [e8, e9, e10]; exact hg.ws w hw
  · have e8 : x_fk W = x_fk x := B d14 c14
    have e9 : x_fz W = x_fz x := B d15 c15
    have e10 : x_fg W = x_fg x := B d16 c16
    show x_fk W w f = a_fk a w f ∧ x_fz W w f = a_fz a w f ∧ x_fg W w f = a_fg a w f
    rw [e8, e9, e10]; exact hg.ts w f hw hf
  · have e8 : x_nf W = x_nf x := B d17 c17
    have e9 : x_nd W = x_nd x := B d18 c18
    have e10 : x_nv W = x_nv x := B d19 c19
    have e11 : x_nh W = x_nh x := B d20 c20
    show x_nf W k = a_nf a k ∧ x_nd W k = a_nd a k ∧ (∀ d, d < 12 → inm (x_nv W k) (nI d) = a_sn a k d) ∧ ∀ r, r < 24 → inm (x_nh W k) (nI r) = a_hb a k r
    rw [e8, e9, e10, e11]; exact hg.nt k hk
