/-! hearing, passing on -/
theorem met_r {x : zSt} {a : zAb} (hg : Rg x a) {w : Nat} (hw : w ≤ a_nw a) (g : Nat → Int32) : ws_met x w g = a_met a w g := by
  unfold ws_met a_met
  refine congrArg zd (propext ⟨fun h f hf => ?_, fun h f hf => ?_⟩)
  · have := hg.ts w f hw hf
    rw [← this.1, ← this.2.1, ← this.2.2]; exact h f hf
  · have := hg.ts w f hw hf
    rw [this.1, this.2.1, this.2.2]; exact h f hf
theorem takes_r {x : zSt} {a : zAb} (hg : Rg x a) {i j : Nat} (hi : i ≤ a_nw a) (hj : j ≤ a_nw a) : ws_takes x i j = a_tk a i j := by
  unfold ws_takes ws_never ws_wide a_tk
  refine congrArg zd (propext ?_)
  rw [zd_i]
  have e1 : (∃ f, f < 4 ∧ ft_none (x_fk x j f) (x_fg x j f) = true) ↔ ∃ f, f < 4 ∧ ft_none (a_fk a j f) (a_fg a j f) = true := by
    constructor
    · rintro ⟨f, hf, h⟩
      have := hg.ts j f hj hf
      rw [this.1, this.2.2] at h; exact ⟨f, hf, h⟩
    · rintro ⟨f, hf, h⟩
      have := hg.ts j f hj hf
      rw [← this.1, ← this.2.2] at h; exact ⟨f, hf, h⟩
  rw [e1]
  refine or_congr Iff.rfl ⟨fun h f hf => ?_, fun h f hf => ?_⟩
  · have t1 := hg.ts i f hi hf
    have t2 := hg.ts j f hj hf
    have := h f hf
    rw [t1.1, t1.2.1, t1.2.2, t2.1, t2.2.1, t2.2.2] at this; exact this
  · have t1 := hg.ts i f hi hf
    have t2 := hg.ts j f hj hf
    rw [t1.1, t1.2.1, t1.2.2, t2.1, t2.2.1, t2.2.2]; exact h f hf
/-- who hears for one of the first n wishes -/
def a_newN (a : zAb) (k d n r : Nat) : Prop := r < a_nr a ∧ a_rd a r = d ∧ a_hb a k r = false ∧ ∃ w, w < n ∧ a_wa a w = true ∧ a_wr a w = r ∧ a_met a w (a_nf a k) = true
noncomputable def a_hearN (a : zAb) (k d n : Nat) : zAb := b_rh (b_rz (b_hb (b_sn a (va_u2 (a_sn a) k d true)) (fun k' r => if k' = k ∧ zd (a_newN a k d n r) = true then true else a_hb a k' r)) (fun r => if zd (a_newN a k d n r) = true then a_rz a r + 1 else a_rz a r)) (fun r i => if zd (a_newN a k d n r) = true ∧ i = a_rz a r then nI k else a_rh a r i)
theorem hearN_e (a : zAb) (k d : Nat) : a_hearN a k d (a_nw a) = a_hear a k d := rfl
theorem hear_r {x : zSt} {a : zAb} (hR : Rx x a) (hJ : AJ a) {k d : Nat} (hk : k < a_nn a) (hd : d < 12) : ∀ n, n ≤ a_nw a → Rx (lh x k (nI d) n) (a_hearN a k d n)
  | 0, _ => by
    obtain ⟨hg, hl, hs, hm⟩ := hR
    have h0 : ∀ r, ¬ a_newN a k d 0 r := fun r ⟨_, _, _, w, hw, _⟩ => Nat.not_lt_zero w hw
    have e1 : ∀ r, a_rz (a_hearN a k d 0) r = a_rz a r := fun r => by
      show (if zd (a_newN a k d 0 r) = true then a_rz a r + 1 else a_rz a r) = _
      rw [zd_f (h0 r)]; rfl
    refine ⟨⟨hg.1, fun r hr => ?_, hg.ws, hg.ts, fun j hj => ?_, hg.nb, hg.lk⟩, hl, hs, hm⟩
    · rw [e1 r]
      refine ⟨(hg.rd r hr).1, (hg.rd r hr).2.1, fun i hi => ?_⟩
      show x_rh x r i = (if zd (a_newN a k d 0 r) = true ∧ i = a_rz a r then nI k else a_rh a r i)
      rw [zd_f (h0 r), if_neg (fun z => absurd z.1 (by decide))]
      exact (hg.rd r hr).2.2 i hi
    · have hj' : j < a_nn a := hj
      refine ⟨(hg.nt j hj').1, (hg.nt j hj').2.1, fun d' hd' => ?_, fun r hr => ?_⟩
      · show inm (va_up (x_nv x) k (x_nv x k ||| (1 <<< (nI d &&& 31))) j) (nI d') = va_u2 (a_sn a) k d true j d'
        by_cases e : j = k
        · subst e
          rw [va_ups', inm_or (by omega) (by omega), (hg.nt j hj').2.2.1 d' hd']
          by_cases e2 : d' = d
          · rw [e2, va_u2_s, decide_eq_true rfl, Bool.or_true]
          · rw [va_u2_o _ _ (fun z => e2 z.2), decide_eq_false e2, Bool.or_false]
        · rw [va_upo' _ _ e, va_u2_o _ _ (fun z => e z.1)]
          exact (hg.nt j hj').2.2.1 d' hd'
      · show inm (x_nh x j) (nI r) = (if j = k ∧ zd (a_newN a k d 0 r) = true then true else a_hb a j r)
        rw [zd_f (h0 r), if_neg (fun z => absurd z.2 (by decide))]
        exact (hg.nt j hj').2.2.2 r hr
  | n + 1, hn => by
    have ih := hear_r hR hJ hk hd n (by omega)
    have h3 := hJ.lim
    show Rx (lh_s (lh x k (nI d) n) k (nI d) n) _
    generalize lh x k (nI d) n = y at ih
    obtain ⟨hg, hl, hs, hm⟩ := ih
    have w1 := hg.ws n (show n < a_nw a by omega)
    have r1 := hJ.wr n (by omega)
    have r2 := hg.rd (a_wr a n) r1
    have r3 := hJ.rd (a_wr a n) r1
    have hnt := hg.nt k hk
    have eh : ∀ j r, a_hb (a_hearN a k d n) j r = (if j = k ∧ zd (a_newN a k d n r) = true then true else a_hb a j r) := fun _ _ => rfl
    have x1 : x_wr y n = a_wr a n := w1.1
    have x2 : x_wa y n = a_wa a n := w1.2.1
    have x3 : x_rd y (a_wr a n) = nI (a_rd a (a_wr a n)) := r2.1
    have x4 : inm (x_nh y k) (nI (a_wr a n)) = a_hb (a_hearN a k d n) k (a_wr a n) := hnt.2.2.2 _ (by omega)
    have x5 : ws_met y n (x_nf y k) = a_met a n (a_nf a k) := by rw [met_r hg (show n ≤ a_nw a by omega)]; rw [hnt.1]; rfl
    have hc : (x_wa y n = true ∧ x_rd y (x_wr y n) = nI d ∧ inm (x_nh y k) (nI (x_wr y n)) = false ∧ ws_met y n (x_nf y k) = true) ↔ (a_wa a n = true ∧ a_rd a (a_wr a n) = d ∧ ¬ a_newN a k d n (a_wr a n) ∧ a_hb a k (a_wr a n) = false ∧ a_met a n (a_nf a k) = true) := by
      rw [x1, x2, x3, x4, x5, nI_eq (by omega) (by omega), eh]
      constructor
      · rintro ⟨q1, q2, q3, q4⟩
        by_cases hnw : a_newN a k d n (a_wr a n)
        · rw [zd_t hnw, if_pos ⟨rfl, rfl⟩] at q3; cases q3
        · rw [zd_f hnw, if_neg (fun z => absurd z.2 (by decide))] at q3
          exact ⟨q1, q2, hnw, q3, q4⟩
      · rintro ⟨q1, q2, q3, q4, q5⟩
        refine ⟨q1, q2, ?_, q5⟩
        rw [zd_f q3, if_neg (fun z => absurd z.2 (by decide))]
        exact q4
    unfold lh_s
    by_cases c : x_wa y n = true ∧ x_rd y (x_wr y n) = nI d ∧ inm (x_nh y k) (nI (x_wr y n)) = false ∧ ws_met y n (x_nf y k) = true
    · rw [if_pos c, x1]
      obtain ⟨q1, q2, q3, q4, q5⟩ := hc.mp c
      generalize hr0 : a_wr a n = r0 at *
      have hnew : ∀ r, zd (a_newN a k d (n + 1) r) = if r = r0 then true else zd (a_newN a k d n r) := fun r => by
        by_cases e : r = r0
        · rw [if_pos e]
          exact zd_t ⟨by rw [e]; exact r1, by rw [e]; exact q2, by rw [e]; exact q4, n, by omega, q1, by rw [e]; exact hr0, q5⟩
        · rw [if_neg e]
          refine congrArg zd (propext ⟨fun ⟨z1, z2, z3, w, z4, z5, z6, z7⟩ => ⟨z1, z2, z3, w, ?_, z5, z6, z7⟩, fun ⟨z1, z2, z3, w, z4, z5⟩ => ⟨z1, z2, z3, w, by omega, z5⟩⟩)
          by_cases ew : w = n
          · rw [ew, hr0] at z6; exact absurd z6.symm e
          · omega
      have hz0 : x_rz y r0 = a_rz a r0 := by
        have : x_rz y r0 = (if zd (a_newN a k d n r0) = true then a_rz a r0 + 1 else a_rz a r0) := r2.2.1
        rw [zd_f q3] at this
        exact this
      have hlt : a_rz a r0 < 600 := by
        have e := hJ.hd.1 r0 r1
        have h2 := ct_add1 (p := fun j => a_hb a j r0 = true) hk (by rw [q4]; decide)
        have h4 := ct_le (fun j => a_hb a j r0 = true ∨ j = k) (a_nn a)
        omega
      unfold rd_add
      have hz1 : x_rz (u_nh y (va_up (x_nh y) k (x_nh y k ||| (1 <<< (nI r0 &&& 31))))) r0 = a_rz a r0 := hz0
      rw [if_pos (by rw [hz1]; exact hlt)]
      refine ⟨⟨hg.1, fun r hr => ?_, hg.ws, hg.ts, fun j hj => ⟨(hg.nt j hj).1, (hg.nt j hj).2.1, (hg.nt j hj).2.2.1, fun r hr => ?_⟩, hg.nb, hg.lk⟩, hl, hs, hm⟩
      · have o := hg.rd r hr
        have o2 : x_rz y r = (if zd (a_newN a k d n r) = true then a_rz a r + 1 else a_rz a r) := o.2.1
        have o3 : ∀ i, i < (if zd (a_newN a k d n r) = true then a_rz a r + 1 else a_rz a r) → x_rh y r i = (if zd (a_newN a k d n r) = true ∧ i = a_rz a r then nI k else a_rh a r i) := o.2.2
        refine ⟨o.1, ?_, ?_⟩
        · show va_up (x_rz y) r0 (x_rz y r0 + 1) r = (if zd (a_newN a k d (n + 1) r) = true then a_rz a r + 1 else a_rz a r)
          rw [hnew]
          by_cases e : r = r0
          · rw [e, va_ups', if_pos rfl, if_pos rfl, hz0]
          · rw [va_upo' _ _ e, if_neg e]; exact o2
        · show ∀ i, i < (if zd (a_newN a k d (n + 1) r) = true then a_rz a r + 1 else a_rz a r) → va_up (x_rh y) r0 (upd (x_rh y r0) (x_rz y r0) (nI k)) r i = (if zd (a_newN a k d (n + 1) r) = true ∧ i = a_rz a r then nI k else a_rh a r i)
          rw [hnew]
          by_cases e : r = r0
          · subst e
            rw [zd_f q3] at o3
            rw [if_pos rfl, if_pos rfl, va_ups', hz0]
            intro i hi
            by_cases ei : i = a_rz a r
            · rw [ei, upd_s', if_pos ⟨rfl, rfl⟩]
            · rw [upd_o' _ _ ei, if_neg (fun z => ei z.2)]
              have := o3 i (by show i < a_rz a r; omega)
              rw [if_neg (fun z => absurd z.1 (by decide))] at this
              exact this
          · rw [va_upo' _ _ e, if_neg e]; exact o3
      · show inm (va_up (x_nh y) k (x_nh y k ||| (1 <<< (nI r0 &&& 31))) j) (nI r) = (if j = k ∧ zd (a_newN a k d (n + 1) r) = true then true else a_hb a j r)
        have o : inm (x_nh y j) (nI r) = (if j = k ∧ zd (a_newN a k d n r) = true then true else a_hb a j r) := (hg.nt j hj).2.2.2 r hr
        rw [hnew]
        by_cases ej : j = k
        · subst ej
          rw [va_ups', inm_or (by omega) (by omega), o]
          by_cases er : r = r0
          · rw [decide_eq_true er, Bool.or_true, if_pos er, if_pos ⟨rfl, rfl⟩]
          · rw [if_neg er, decide_eq_false er, Bool.or_false]
        · rw [va_upo' _ _ ej, o, if_neg (fun z => ej z.1), if_neg (fun z => ej z.1)]
    · rw [if_neg c]
      have hsame : ∀ r, zd (a_newN a k d (n + 1) r) = zd (a_newN a k d n r) := fun r => by
        refine congrArg zd (propext ⟨fun ⟨z1, z2, z3, w, z4, z5, z6, z7⟩ => ?_, fun ⟨z1, z2, z3, w, z4, z5⟩ => ⟨z1, z2, z3, w, by omega, z5⟩⟩)
        by_cases ew : w = n
        · apply Classical.byContradiction
          intro hno
          subst ew
          exact c (hc.mpr ⟨z5, by rw [z6]; exact z2, by rw [z6]; exact hno, by rw [z6]; exact z3, z7⟩)
        · exact ⟨z1, z2, z3, w, by omega, z5, z6, z7⟩
      have e : a_hearN a k d (n + 1) = a_hearN a k d n := by
        unfold a_hearN
        simp only [hsame]
      rw [e]
      exact ⟨hg, hl, hs, hm⟩
/-! passing on -/
theorem cn_q {a b : zAb} {d v k0 : Nat} (hd : d < 12) (hv : v < 12) (hq : a_q b = va_u2 (a_q a) d v (a_q a d v ++ [.inl k0])) (k : Nat) : cn b k = cn a k + (if k = k0 then 1 else 0) := by
  unfold cn
  have h := sm2_up (fun u v => (nt (a_q a u v)).count k) ((nt (a_q a d v ++ [.inl k0])).count k) hd hv
  have e : sm2 (fun u v => (nt (a_q b u v)).count k) = sm2 (va_u2 (fun u v => (nt (a_q a u v)).count k) d v ((nt (a_q a d v ++ [.inl k0])).count k)) := by
    refine congrArg sm2 ?_
    funext p w
    rw [hq]
    simp only [va_u2]
    split <;> rfl
  rw [e]
  have e2 : (nt (a_q a d v ++ [.inl k0])).count k = (nt (a_q a d v)).count k + (if k = k0 then 1 else 0) := by
    rw [nt_app, List.count_append]
    show _ + List.count k [k0] = _
    rw [List.count_singleton]
    by_cases e : k = k0
    · rw [e]; simp
    · have : ¬ k0 = k := fun z => e z.symm
      simp [e, this]
  rw [e2] at h
  rw [e2]
  omega
theorem it_r2 {x : zSt} {a : zAb} (hg : Rg x a) (hJ : AJ a) {k : Nat} (hk : k < a_nn a) {f : Nat → Int64} {t : Nat → Bool} (hf : row_r f t) : it_in x (x_nf x k) f = zd (∃ w, w < a_nw a ∧ t w = true ∧ a_met a w (a_nf a k) = true) := by
  unfold it_in
  rw [hg.sc.2.2.1, (hg.nt k hk).1]
  have h3 := hJ.lim
  refine congrArg zd (propext ⟨fun ⟨w, h1, h2, h4⟩ => ⟨w, h1, ?_, ?_⟩, fun ⟨w, h1, h2, h4⟩ => ⟨w, h1, ?_, ?_⟩⟩)
  · rw [← hf w (by omega)]; exact h2
  · rw [← met_r hg (by omega)]; exact h4
  · rw [hf w (by omega)]; exact h2
  · rw [met_r hg (by omega)]; exact h4
theorem need_r {x : zSt} {a : zAb} (hg : Rg x a) (hJ : AJ a) {k d v : Nat} (hk : k < a_nn a) (hd : d < 12) (hv : v < 12) : wt_at x (x_nf x k) (x_reach x (nI v) (nI d)) = zd (a_need a k d v) := by
  unfold wt_at a_need
  rw [hg.sc.2.2.1, (hg.nt k hk).1]
  have h3 := hJ.lim
  refine congrArg zd (propext ⟨fun ⟨w, h1, h2, h4, h5⟩ => ?_, fun ⟨r, h1, h2, w, h4, h5, h6, h7⟩ => ?_⟩)
  · have w1 := hg.ws w h1
    have r1 := hJ.wr w h1
    have r2 := hg.rd _ r1
    have r3 := hJ.rd _ r1
    rw [w1.1, r2.1, reach_b hg hJ hv hd _ (by omega)] at h4
    exact ⟨a_wr a w, r1, zd_i.mp h4, w, h1, by rw [← w1.2.1]; exact h2, rfl, by rw [← met_r hg (by omega)]; exact h5⟩
  · have w1 := hg.ws w h4
    have r1 := hJ.wr w h4
    have r2 := hg.rd _ r1
    have r3 := hJ.rd _ r1
    refine ⟨w, h4, by rw [w1.2.1]; exact h5, ?_, by rw [met_r hg (by omega)]; exact h7⟩
    rw [w1.1, r2.1, reach_b hg hJ hv hd _ (by omega), h6]
    exact zd_t h2
/-- one desk looked at -/
theorem pos_r {x : zSt} {a : zAb} (hR : Rx x a) (hJ : AJ a) {k d n : Nat} {f : Nat} (hk : k < a_nn a) (hd : d < a_dk a) (hn : n < a_dk a) (hf : f ≤ 12) {fI : Int32} (hfI : nI n = fI ↔ n = f) (hno : k ∉ nt (a_q a d n)) (hu : ct (fun j => a_uw a j ∨ j = k) (a_nn a) ≤ 60) : Rx (po_s x k (nI d) fI n) (a_ps1 a k d f n) := by
  obtain ⟨hg, hl, hs, hm⟩ := hR
  have h3 := hJ.lim
  have hid : ¬ a_pc a k d f n → a_ps1 a k d f n = a := fun q => by unfold a_ps1; rw [zd_f q]; rfl
  unfold po_s
  rcases lnF_r hg hl hJ hd hn with ⟨k1, k2⟩ | ⟨k1, l, k2, k3, k4⟩
  · rw [k2, hid (fun q => by rw [q.2.1] at k1; cases k1)]
    exact ⟨hg, hl, hs, hm⟩
  · rcases lnF_r hg hl hJ hn hd with ⟨j1, j2⟩ | ⟨j1, b, j2, j3, j4⟩
    · rw [lk_sy hJ, k1] at j1; cases j1
    · rw [k2, j2]
      show Rx (if ¬ nI n = fI ∧ it_in x (x_nf x k) (x_lb x b) = true then po_4 (po_3 (po_2 (po_1 x l k) k)) k (nI d) (nI n) else x) _
      have hit := it_r2 hg hJ hk j4.2.2.2
      have hc : (¬ nI n = fI ∧ it_in x (x_nf x k) (x_lb x b) = true) ↔ a_pc a k d f n := by
        rw [hit, zd_i, hfI]
        exact ⟨fun z => ⟨z.1, k1, z.2⟩, fun z => ⟨z.1, z.2.2⟩⟩
      by_cases c : a_pc a k d f n
      · rw [if_pos (hc.mpr c)]
        have hlen := ql_pn hJ hk hno hu
        have e1 : po_1 x l k = la_push x l (nI k) := by unfold po_1; rw [if_pos (by rw [k4.1]; exact hlen)]
        rw [e1]
        have ea : a_ps1 a k d f n = b_ne (b_po (b_q a (va_u2 (a_q a) d n (a_q a d n ++ [.inl k]))) (a_po a + 1)) (if zd (a_need a k d n) = true then a_ne a else a_ne a + 1) := by unfold a_ps1; rw [zd_t c]; rfl
        rw [ea]
        have key := Rl_1 (a' := b_q a (va_u2 (a_q a) d n (a_q a d n ++ [.inl k]))) hs (lf_push x l (nI k)) (show d < 12 by omega) (show n < 12 by omega) k3 hl rfl (fun l' q t b hne h => push_o hne h) (fun p w hne => ⟨va_u2_o _ _ hne, rfl, rfl⟩) (by
          show ln_r _ l (va_u2 (a_q a) d n (a_q a d n ++ [.inl k]) d n) _ _
          rw [va_u2_s]
          exact push_s k4 hlen)
        have hg1 : Rg (la_push x l (nI k)) a := Rg_lf (lf_push x l (nI k)) hg
        have hnm : x_nm (la_push x l (nI k)) = x_nm x := (lf_ln (lf_push x l (nI k))).2.2.2.2
        generalize la_push x l (nI k) = z at key hg1 hnm
        have hneed := need_r (x := po_3 (po_2 z k)) (a := b_po a (a_po a + 1)) (k := k) (d := d) (v := n) (by
          refine ⟨⟨hg1.sc.1, hg1.sc.2.1, hg1.sc.2.2.1, hg1.sc.2.2.2.1, ?_, hg1.sc.2.2.2.2.2⟩, hg1.2⟩
          show x_po z + 1 = a_po a + 1
          rw [hg1.sc.2.2.2.2.1]) hJ hk (by omega) (by omega)
        have hneed' : wt_at (po_3 (po_2 z k)) (x_nf (po_3 (po_2 z k)) k) (x_reach (po_3 (po_2 z k)) (nI n) (nI d)) = zd (a_need a k d n) := hneed
        have hcn : ∀ j, cn (b_ne (b_po (b_q a (va_u2 (a_q a) d n (a_q a d n ++ [.inl k]))) (a_po a + 1)) (if zd (a_need a k d n) = true then a_ne a else a_ne a + 1)) j = cn a j + (if j = k then 1 else 0) := fun j => cn_q (show d < 12 by omega) (show n < 12 by omega) rfl j
        have hn1 : ∀ j, j < a_nn a → va_up (x_nm z) k (x_nm z k + 1) j = nI (cn a j + (if j = k then 1 else 0)) := fun j hj => by
          by_cases e : j = k
          · rw [e, va_ups', if_pos rfl, hnm, hm k hk, nI_1]
          · rw [va_upo' _ _ e, if_neg e, hnm, hm j hj]; rfl
        unfold po_4
        rw [hneed']
        by_cases hq : zd (a_need a k d n) = true
        · rw [if_pos hq, if_pos hq]
          refine ⟨⟨⟨hg1.sc.1, hg1.sc.2.1, hg1.sc.2.2.1, hg1.sc.2.2.2.1, ?_, hg1.sc.2.2.2.2.2⟩, hg1.2⟩, key.1, key.2, fun j hj => ?_⟩
          · show x_po z + 1 = a_po a + 1
            rw [hg1.sc.2.2.2.2.1]
          · have := hcn j
            rw [if_pos hq] at this
            rw [this]
            exact hn1 j hj
        · rw [if_neg hq, if_neg hq]
          refine ⟨⟨⟨hg1.sc.1, hg1.sc.2.1, hg1.sc.2.2.1, hg1.sc.2.2.2.1, ?_, ?_, hg1.sc.2.2.2.2.2.2⟩, hg1.2⟩, key.1, key.2, fun j hj => ?_⟩
          · show x_po z + 1 = a_po a + 1
            rw [hg1.sc.2.2.2.2.1]
          · show x_ne z + 1 = a_ne a + 1
            rw [hg1.sc.2.2.2.2.2.1]
          · have := hcn j
            rw [if_neg hq] at this
            rw [this]
            exact hn1 j hj
      · rw [if_neg (fun z => c (hc.mp z)), hid c]
        exact ⟨hg, hl, hs, hm⟩
theorem po_r {x : zSt} {a : zAb} (hR : Rx x a) (hJ : AJ a) {k d f : Nat} (hk : k < a_nn a) (hd : d < a_dk a) (hf : f ≤ 12) {fI : Int32} (hfI : ∀ n, n < a_dk a → (nI n = fI ↔ n = f)) (hsn : a_sn a k d = true) (hno : ∀ v, k ∉ nt (a_q a d v)) (hu : ct (fun j => a_uw a j ∨ j = k) (a_nn a) ≤ 60) : ∀ n, n ≤ a_dk a → Rx (po x k (nI d) fI n) (a_ps a k d f n)
  | 0, _ => hR
  | n + 1, hn => by
    have ih := po_r hR hJ hk hd hf hfI hsn hno hu n (by omega)
    have hJn : AJ (a_ps a k d f n) := AJ_ps hJ hk hsn hno hu
    have hq := ps_q a k d f n
    have hks := psk_n a k d f n
    have e1 : a_dk (a_ps a k d f n) = a_dk a ∧ a_nn (a_ps a k d f n) = a_nn a := by
      obtain ⟨q, p, m, e⟩ := hks
      rw [e]; exact ⟨rfl, rfl⟩
    refine pos_r ih hJn (by rw [e1.2]; exact hk) (by rw [e1.1]; exact hd) (by rw [e1.1]; omega) hf (hfI n (by omega)) ?_ ?_
    · rw [hq]
      show k ∉ nt (if d = d ∧ n < n ∧ zd (a_pc a k d f n) = true then a_q a d n ++ [.inl k] else a_q a d n)
      rw [if_neg (fun z => Nat.lt_irrefl n z.2.1)]
      exact hno n
    · rw [e1.2]
      refine Nat.le_trans (ct_mono _ (fun j _ hj => ?_)) hu
      rcases hj with ⟨p, w, hj⟩ | hj
      · rw [hq] at hj
        have hj' : j ∈ nt (if p = d ∧ w < n ∧ zd (a_pc a k d f w) = true then a_q a p w ++ [.inl k] else a_q a p w) := hj
        split at hj'
        · rw [nt_app] at hj'
          rcases List.mem_append.mp hj' with y | y
          · exact Or.inl ⟨p, w, y⟩
          · exact Or.inr (List.mem_singleton.mp y)
        · exact Or.inl ⟨p, w, hj'⟩
      · exact Or.inr hj
