/-! the reference: tells, notices that come -/
theorem tlv_y {y : zMS} {a : zAb} (hR : Ry y a) (hJ : AJ a) {u : Nat} (hu : u < a_dk a) : ∀ n, n ≤ a_dk a → Ry (tl_v y u n) (tlP a (fun p q => p = u ∧ q < n))
  | 0, _ => by
    rw [tlP_no (fun p q h _ => absurd h.2 (Nat.not_lt_zero q))]
    exact hR
  | n + 1, hn => by
    have ih := tlv_y hR hJ hu n (by omega)
    have hs := tl1_y ih (AJ_tlP hJ _) (u := u) (v := n) hu (show n < a_dk a by omega)
    rw [tlP_2] at hs
    have e : (fun p q => (p = u ∧ q < n) ∨ (p = u ∧ q = n)) = (fun p q => p = u ∧ q < n + 1) := by
      funext p q
      refine propext ⟨fun z => z.elim (fun z => ⟨z.1, by omega⟩) (fun z => ⟨z.1, by omega⟩), fun z => ?_⟩
      by_cases e : q = n
      · exact Or.inr ⟨z.1, e⟩
      · exact Or.inl ⟨z.1, by omega⟩
    rw [e] at hs
    exact hs
theorem tlu_y {y : zMS} {a : zAb} (hR : Ry y a) (hJ : AJ a) : ∀ n, n ≤ a_dk a → Ry (tl_u y n) (tlP a (fun p q => p < n ∧ q < a_dk a))
  | 0, _ => by
    rw [tlP_no (fun p q h _ => absurd h.1 (Nat.not_lt_zero p))]
    exact hR
  | n + 1, hn => by
    have ih := tlu_y hR hJ n (by omega)
    have hs := tlv_y ih (AJ_tlP hJ _) (u := n) (show n < a_dk a by omega) (a_dk a) (Nat.le_refl _)
    rw [tlP_2] at hs
    have e : (fun p q => (p < n ∧ q < a_dk a) ∨ (p = n ∧ q < a_dk a)) = (fun p q => p < n + 1 ∧ q < a_dk a) := by
      funext p q
      refine propext ⟨fun z => z.elim (fun z => ⟨by omega, z.2⟩) (fun z => ⟨by omega, z.2⟩), fun z => ?_⟩
      by_cases e : p = n
      · exact Or.inr ⟨e, z.2⟩
      · exact Or.inl ⟨by omega, z.2⟩
    rw [e] at hs
    show Ry (tl_v (tl_u y n) n (y_dk y)) _
    rw [hR.1.sc.1]
    exact hs
theorem tl_y {y : zMS} {a : zAb} (hR : Ry y a) (hJ : AJ a) : Ry (tl y) (tlA a) := by
  have h := tlu_y hR hJ (a_dk a) (Nat.le_refl _)
  have e : tlP a (fun p q => p < a_dk a ∧ q < a_dk a) = tlA a := tl_at (fun p q hw => ⟨(hJ.lk p q hw.1).2, (hJ.lk q p (hJ.lk p q hw.1).1).2⟩)
  rw [e] at h
  unfold tl
  rw [hR.1.sc.1]
  exact h
theorem tlok_y {y : zMS} {a : zAb} (hR : Ry y a) (hJ : AJ a) : tl_ok y := fun u v hu hv => by
  rw [hR.1.sc.1] at hu hv
  have h1 := tlu_y hR hJ u (by omega)
  have h2 := tlv_y h1 (AJ_tlP hJ _) (u := u) hu v (show v ≤ a_dk a by omega)
  exact rm_y h2 (AJ_tlP (AJ_tlP hJ _) _)
/-! who hears -/
def a_newR (a : zAb) (k d n r : Nat) : Prop := r < n ∧ a_new a k d r
noncomputable def a_hearR (a : zAb) (k d n : Nat) : zAb := b_rh (b_rz (b_hb (b_sn a (va_u2 (a_sn a) k d true)) (fun k' r => if k' = k ∧ zd (a_newR a k d n r) = true then true else a_hb a k' r)) (fun r => if zd (a_newR a k d n r) = true then a_rz a r + 1 else a_rz a r)) (fun r i => if zd (a_newR a k d n r) = true ∧ i = a_rz a r then nI k else a_rh a r i)
theorem hearR_e (a : zAb) (k d : Nat) : a_hearR a k d (a_nr a) = a_hear a k d := by
  have e : ∀ r, zd (a_newR a k d (a_nr a) r) = zd (a_new a k d r) := fun r => congrArg zd (propext ⟨fun z => z.2, fun z => ⟨z.1, z⟩⟩)
  unfold a_hearR a_hear
  simp only [e]
theorem chok_y {y : zMS} {a : zAb} (hR : Ry y a) (hJ : AJ a) {k d : Nat} (hk : k < a_nn a) : ch_ok y k d := fun r hr _ hh => by
  obtain ⟨hg, _⟩ := hR
  have h3 := hJ.lim
  rw [hg.sc.2.1] at hr
  rw [(hg.hm r (by omega)).1 hr]
  rw [(hg.sn k (by omega)).2 r (by omega)] at hh
  have e := hJ.hd.1 r hr
  have h2 := ct_add1 (p := fun j => a_hb a j r = true) hk (by rw [hh]; decide)
  have h4 := ct_le (fun j => a_hb a j r = true ∨ j = k) (a_nn a)
  omega
theorem ch_y {y : zMS} {a : zAb} (hR : Ry y a) (hJ : AJ a) {k d : Nat} (hk : k < a_nn a) (hd : d < 12) : ∀ n, n ≤ a_nr a → Ry (ch y k d n) (a_hearR a k d n)
  | 0, _ => by
    obtain ⟨hg, hl, hc, hJv⟩ := hR
    have h3 := hJ.lim
    have h0 : ∀ r, ¬ a_newR a k d 0 r := fun r z => Nat.not_lt_zero r z.1
    refine ⟨⟨hg.1, hg.rd, fun r hr => ⟨fun h => ?_, (hg.hm r hr).2.1, fun i h hi => ?_⟩, hg.ws, ⟨hg.ts, hg.rg⟩, hg.nt, fun j hj => ⟨fun d' hd' => ?_, fun r hr => ?_⟩⟩, fun u v hu hv => ⟨(hl u v hu hv).1, (yq_cg (y := y) (z := ch y k d 0) rfl rfl rfl rfl rfl u v).trans (hl u v hu hv).2.1, (hl u v hu hv).2.2⟩, hc, hJv⟩
    · show y_hm y r = (if zd (a_newR a k d 0 r) = true then a_rz a r + 1 else a_rz a r)
      rw [zd_f (h0 r)]; exact (hg.hm r hr).1 h
    · have hi' : i < (if zd (a_newR a k d 0 r) = true then a_rz a r + 1 else a_rz a r) := hi
      rw [zd_f (h0 r)] at hi'
      show y_he y (600 * r + i) = (if zd (a_newR a k d 0 r) = true ∧ i = a_rz a r then nI k else a_rh a r i)
      rw [zd_f (h0 r), if_neg (fun z => absurd z.1 (by decide))]
      exact (hg.hm r hr).2.2 i h hi'
    · show inm (upd (y_wt y) k (y_wt y k ||| (1 <<< (nI d &&& 31))) j) (nI d') = va_u2 (a_sn a) k d true j d'
      by_cases e : j = k
      · subst e
        rw [upd_s', inm_or (by omega) (by omega), (hg.sn j hj).1 d' hd']
        by_cases e2 : d' = d
        · rw [e2, va_u2_s, decide_eq_true rfl, Bool.or_true]
        · rw [va_u2_o _ _ (fun z => e2 z.2), decide_eq_false e2, Bool.or_false]
      · rw [upd_o' _ _ e, va_u2_o _ _ (fun z => e z.1)]
        exact (hg.sn j hj).1 d' hd'
    · show y_hh y (600 * r + j) = (if j = k ∧ zd (a_newR a k d 0 r) = true then true else a_hb a j r)
      rw [zd_f (h0 r), if_neg (fun z => absurd z.2 (by decide))]
      exact (hg.sn j hj).2 r hr
  | n + 1, hn => by
    have ih := ch_y hR hJ hk hd n (by omega)
    have h3 := hJ.lim
    have hJn : Jv (ch y k d (n + 1)) := Jv_ch hR.2.2.2 (by omega) (chok_y hR hJ hk) (n + 1) (by rw [hR.1.sc.2.1]; exact hn)
    have e1 : ch y k d (n + 1) = ch_s (ch y k d n) k d n := rfl
    rw [e1] at hJn ⊢
    generalize ch y k d n = z at ih hJn
    obtain ⟨hg, hl, hc, hJv⟩ := ih
    have eh : ∀ j r, a_hb (a_hearR a k d n) j r = (if j = k ∧ zd (a_newR a k d n r) = true then true else a_hb a j r) := fun _ _ => rfl
    have ez : ∀ r, a_rz (a_hearR a k d n) r = (if zd (a_newR a k d n r) = true then a_rz a r + 1 else a_rz a r) := fun _ => rfl
    have nn : ¬ a_newR a k d n n := fun q => Nat.lt_irrefl n q.1
    have hb0 : a_hb (a_hearR a k d n) k n = a_hb a k n := by rw [eh, zd_f nn, if_neg (fun z => absurd z.2 (by decide))]
    have x1 : y_do z n = nI (a_rd a n) := hg.rd n (show n < a_nr a by omega)
    have x2 : y_hh z (600 * n + k) = a_hb a k n := by rw [(hg.sn k (by omega)).2 n (by omega), hb0]
    have x3 : y_wants z n k = zd (a_wants a n k) := wants_y (a := a_hearR a k d n) hg hJ.ts hk
    have r3 := hJ.rd n (show n < a_nr a by omega)
    have hcnd : (y_do z n = nI d ∧ y_hh z (600 * n + k) = false ∧ y_wants z n k = true) ↔ a_new a k d n := by
      rw [x1, x2, x3, zd_i, nI_eq (by omega) (by omega)]
      exact ⟨fun q => ⟨by omega, q⟩, fun q => q.2⟩
    unfold ch_s at hJn ⊢
    by_cases c : y_do z n = nI d ∧ y_hh z (600 * n + k) = false ∧ y_wants z n k = true
    · rw [if_pos c] at hJn ⊢
      have hnew : ∀ r, zd (a_newR a k d (n + 1) r) = if r = n then true else zd (a_newR a k d n r) := fun r => by
        by_cases e : r = n
        · rw [if_pos e]; exact zd_t ⟨by omega, by rw [e]; exact hcnd.mp c⟩
        · rw [if_neg e]; exact congrArg zd (propext ⟨fun q => ⟨by have := q.1; omega, q.2⟩, fun q => ⟨by have := q.1; omega, q.2⟩⟩)
      have hmn : y_hm z n = a_rz a n := by
        have := (hg.hm n (by omega)).1 (show n < a_nr a by omega)
        rw [ez, zd_f nn] at this
        exact this
      have hr6 : a_rz a n < 600 := by
        have := chok_y hR hJ hk (d := d) n (by rw [hR.1.sc.2.1]; omega) (by rw [hR.1.rd n (by omega), (hcnd.mp c).2.1]) (by rw [(hR.1.sn k (by omega)).2 n (by omega)]; exact (hcnd.mp c).2.2.1)
        rw [(hR.1.hm n (by omega)).1 (by omega)] at this
        exact this
      refine ⟨⟨hg.1, hg.rd, fun r hr => ⟨fun h => ?_, fun h => ?_, fun i h hi => ?_⟩, hg.ws, ⟨hg.ts, hg.rg⟩, hg.nt, fun j hj => ⟨(hg.sn j hj).1, fun r hr => ?_⟩⟩, fun u v hu hv => ⟨(hl u v hu hv).1, (yq_cg (y := z) (z := v_hm (v_he (v_hh z (va_up (y_hh z) (600 * n + k) true)) (upd (y_he z) (600 * n + y_hm z n) (nI k))) (va_up (y_hm z) n (y_hm z n + 1))) rfl rfl rfl rfl rfl u v).trans (hl u v hu hv).2.1, (hl u v hu hv).2.2⟩, hc, hJn⟩
      · show va_up (y_hm z) n (y_hm z n + 1) r = (if zd (a_newR a k d (n + 1) r) = true then a_rz a r + 1 else a_rz a r)
        rw [hnew]
        by_cases e : r = n
        · rw [e, va_ups', if_pos rfl, if_pos rfl, hmn]
        · rw [va_upo' _ _ e, if_neg e]; exact (hg.hm r hr).1 h
      · have h' : ¬ r < a_nr a := h
        show va_up (y_hm z) n (y_hm z n + 1) r = 0
        rw [va_upo' _ _ (by omega)]; exact (hg.hm r hr).2.1 h
      · have h' : r < a_nr a := h
        have hi' : i < (if zd (a_newR a k d (n + 1) r) = true then a_rz a r + 1 else a_rz a r) := hi
        show upd (y_he z) (600 * n + y_hm z n) (nI k) (600 * r + i) = (if zd (a_newR a k d (n + 1) r) = true ∧ i = a_rz a r then nI k else a_rh a r i)
        rw [hnew] at hi' ⊢
        rw [hmn]
        by_cases e : r = n
        · subst e
          rw [if_pos rfl, if_pos rfl] at hi'
          rw [if_pos rfl]
          by_cases ei : i = a_rz a r
          · rw [ei, upd_s', if_pos ⟨rfl, rfl⟩]
          · rw [upd_o' _ _ (by omega), if_neg (fun q => ei q.2)]
            have := (hg.hm r hr).2.2 i h' (by rw [ez, zd_f nn]; show i < a_rz a r; omega)
            refine this.trans ?_
            show (if zd (a_newR a k d r r) = true ∧ i = a_rz a r then nI k else a_rh a r i) = _
            rw [zd_f nn, if_neg (fun q => absurd q.1 (by decide))]
        · rw [if_neg e] at hi' ⊢
          have hz := hJ.hd.1 r h'
          have hz2 := ct_le (fun k => a_hb a k r = true) (a_nn a)
          have hi3 : i < 601 := by
            split at hi' <;> omega
          rw [upd_o' _ _ (by
            intro q
            have : r < n ∨ n < r := by omega
            rcases this with q1 | q1
            · have : 600 * r + 600 ≤ 600 * n := by omega
              have h5 : i ≤ 600 := by omega
              have h6 : i = 600 := by omega
              -- a reader cannot have heard more than all
              by_cases c9 : zd (a_newR a k d n r) = true
              · have hnw := (zd_i.mp c9).2
                have h2 := ct_add1 (p := fun j => a_hb a j r = true) hk (by rw [hnw.2.2.1]; decide)
                have h4 := ct_le (fun j => a_hb a j r = true ∨ j = k) (a_nn a)
                rw [if_pos c9] at hi'
                omega
              · rw [if_neg c9] at hi'
                omega
            · omega)]
          exact (hg.hm r hr).2.2 i h' hi'
      · show va_up (y_hh z) (600 * n + k) true (600 * r + j) = (if j = k ∧ zd (a_newR a k d (n + 1) r) = true then true else a_hb a j r)
        have o : y_hh z (600 * r + j) = (if j = k ∧ zd (a_newR a k d n r) = true then true else a_hb a j r) := (hg.sn j hj).2 r hr
        rw [hnew]
        by_cases e : j = k ∧ r = n
        · rw [e.1, e.2, va_ups', if_pos rfl, if_pos ⟨rfl, rfl⟩]
        · rw [va_upo' _ _ (by intro q; exact e ⟨by omega, by omega⟩), o]
          by_cases ej : j = k
          · rw [if_neg (fun q => e ⟨ej, q⟩)]
          · rw [if_neg (fun q => ej q.1), if_neg (fun q => ej q.1)]
    · rw [if_neg c] at hJn ⊢
      have hsame : ∀ r, zd (a_newR a k d (n + 1) r) = zd (a_newR a k d n r) := fun r => by
        refine congrArg zd (propext ⟨fun q => ⟨?_, q.2⟩, fun q => ⟨by have := q.1; omega, q.2⟩⟩)
        by_cases e : r = n
        · rw [e] at q; exact absurd (hcnd.mpr q.2) c
        · have := q.1; omega
      have e : a_hearR a k d (n + 1) = a_hearR a k d n := by
        unfold a_hearR
        simp only [hsame]
      rw [e]
      exact ⟨hg, hl, hc, hJv⟩
/-! passing on -/
theorem is_y {y : zMS} {a : zAb} (hg : Yg y a) (hl : Yl y a) (hJ : AJ a) {k d v : Nat} (hk : k < a_nn a) (hd : d < 12) (hv : v < 12) : y_is y k d v (a_nw a) = zd (∃ w, w < a_nw a ∧ a_tb a d v w = true ∧ a_met a w (a_nf a k) = true) := by
  have h3 := hJ.lim
  unfold y_is
  have e : ∀ w, w < a_nw a → zbit (sh (y_tb y) (5 * (12 * d + v))) w = a_tb a d v w := fun w hw => by rw [← (hl d v hd hv).2.2.2, bto_i (by omega)]
  have e2 : ∀ w, w < a_nw a → y_fit y w (y_f y k) = a_met a w (a_nf a k) := fun w hw => fit_y hg hJ.ts hw (fun i hi => (hg.nt k hk).1 i hi)
  refine congrArg zd (propext ⟨fun ⟨w, h1, h2, h4⟩ => ⟨w, h1, ?_, ?_⟩, fun ⟨w, h1, h2, h4⟩ => ⟨w, h1, ?_, ?_⟩⟩)
  · rw [← e w h1]; exact h2
  · rw [← e2 w h1]; exact h4
  · rw [e w h1]; exact h2
  · rw [e2 w h1]; exact h4
theorem rE_y {y : zMS} {a : zAb} (hg : Yg y a) (hl : Yl y a) (hJ : AJ a) {b : Nat} (hb : b < 12) (p q : Nat) : rE y (nI b) p q ↔ Av (a_E a) b p q := by
  have h3 := hJ.lim
  unfold rE Av a_E
  rw [hg.sc.1]
  constructor
  · rintro ⟨⟨z1, z2⟩, z3, z4⟩
    rw [(hl p q (by omega) (by omega)).1] at z3
    exact ⟨z3, fun z => z4 (by rw [z])⟩
  · rintro ⟨z1, z2⟩
    have k1 := (hJ.lk p q z1).2
    have k2 := (hJ.lk q p (hJ.lk p q z1).1).2
    exact ⟨⟨k1, k2⟩, by rw [(hl p q (by omega) (by omega)).1]; exact z1, fun z => z2 ((nI_eq (by omega) (by omega)).mp z)⟩
theorem rE_0 {y : zMS} {a : zAb} (hg : Yg y a) (hl : Yl y a) (hJ : AJ a) (p q : Nat) : rE y (-1) p q ↔ a_E a p q := by
  have h3 := hJ.lim
  unfold rE a_E
  rw [hg.sc.1]
  constructor
  · rintro ⟨⟨z1, z2⟩, z3, _⟩
    rw [(hl p q (by omega) (by omega)).1] at z3
    exact z3
  · intro z1
    have k1 := (hJ.lk p q z1).2
    have k2 := (hJ.lk q p (hJ.lk p q z1).1).2
    refine ⟨⟨k1, k2⟩, by rw [(hl p q (by omega) (by omega)).1]; exact z1, fun z => ?_⟩
    have := nI_pos (n := q) (by omega)
    rw [z] at this
    exact absurd (by decide) this
theorem need_y {y : zMS} {a : zAb} (hg : Yg y a) (hl : Yl y a) (hJ : AJ a) {k d v : Nat} (hk : k < a_nn a) (hd : d < 12) : y_need y k d v = zd (a_need a k d v) := by
  have h3 := hJ.lim
  unfold y_need a_need
  rw [hg.sc.2.1]
  have e : ∀ r, r < a_nr a → (re_x y v (nI d) (y_do y r).toNatClampNeg = true ↔ Cn (Av (a_E a) d) v (a_rd a r)) := fun r hr => by
    have r3 := hJ.rd r hr
    rw [hg.rd r hr, nI_clamp (by omega)]
    unfold re_x
    rw [if_pos (by omega), zd_i]
    exact ⟨fun z => Cn_mono (fun p q => (rE_y hg hl hJ hd p q).mp) z, fun z => Cn_mono (fun p q => (rE_y hg hl hJ hd p q).mpr) z⟩
  refine congrArg zd (propext ⟨fun ⟨r, h1, h2, h4⟩ => ⟨r, h1, (e r h1).mp h2, ?_⟩, fun ⟨r, h1, h2, h4⟩ => ⟨r, h1, (e r h1).mpr h2, ?_⟩⟩)
  · rw [wants_y hg hJ.ts hk] at h4; exact zd_i.mp h4
  · rw [wants_y hg hJ.ts hk]; exact zd_t h4
/-- a notice is put on a road -/
theorem put_y {y : zMS} {a : zAb} (hR : Ry y a) (hJ : AJ a) {k d v : Nat} (hk : k < a_nn a) (hd : d < 12) (hv : v < 12) : Ry (pu y d v (nI k)) (b_q a (va_u2 (a_q a) d v (a_q a d v ++ [.inl k]))) := by
  have hrm := rm_y hR hJ
  obtain ⟨hg, hl, hc, hJv⟩ := hR
  have h3 := hJ.lim
  have hpu := pu_old (y := y) (u := d) (v := v) (s := nI k)
  have hJp : Jv (pu y d v (nI k)) := Jv_pu hJv hrm hd hv (Or.inr ⟨k, by rw [hg.sc.2.2.2.1]; exact hk, rfl⟩)
  have hlk : y_lk (pu y d v (nI k)) = y_lk y ∧ y_to (pu y d v (nI k)) = y_to y ∧ y_tb (pu y d v (nI k)) = y_tb y := by
    unfold pu; split <;> exact ⟨rfl, rfl, rfl⟩
  refine ⟨?_, fun p w hp hw => ⟨?_, ?_, ?_, ?_⟩, Yc_pu hc hrm, hJp⟩
  · unfold pu; split <;> exact hg
  · rw [hlk.1]; exact (hl p w hp hw).1
  · rw [yq_new (y := y) hpu.1 hpu.2.1 hpu.2.2.1 hpu.2.2.2.1 p w]
    show _ = va_u2 (a_q a) d v (a_q a d v ++ [.inl k]) p w
    have eit : y_it (pu y d v (nI k)) (y_ms y) = .inl k := by
      unfold y_it
      rw [hpu.2.2.2.2, if_neg (nI_n2 (by omega)), nI_clamp (by omega)]
    rw [eit]
    simp only [va_u2]
    by_cases e : p = d ∧ w = v
    · rw [if_pos e, if_pos e, (hl p w hp hw).2.1, e.1, e.2]
    · rw [if_neg e, if_neg e, (hl p w hp hw).2.1]
  · rw [hlk.2.1]; exact (hl p w hp hw).2.2.1
  · rw [hlk.2.2]; exact (hl p w hp hw).2.2.2
theorem cs_y {y : zMS} {a : zAb} (hR : Ry y a) (hJ : AJ a) {k d n f : Nat} {fI : Int32} (hk : k < a_nn a) (hd : d < a_dk a) (hn : n < a_dk a) (hfI : nI n = fI ↔ n = f) : Ry (cs y k d fI n) (a_ps1 a k d f n) := by
  have h3 := hJ.lim
  obtain ⟨hg, hl, hc, hJv⟩ := hR
  have his := is_y hg hl hJ hk (show d < 12 by omega) (show n < 12 by omega)
  have hcn : (¬ nI n = fI ∧ y_lk y (12 * d + n) = true ∧ y_is y k d n (y_nw y) = true) ↔ a_pc a k d f n := by
    rw [hg.sc.2.2.1, his, zd_i, hfI, (hl d n (by omega) (by omega)).1]
    exact Iff.rfl
  unfold cs a_ps1
  by_cases c : a_pc a k d f n
  · rw [if_pos (hcn.mpr c), zd_t c, if_pos rfl]
    have hp := put_y ⟨hg, hl, hc, hJv⟩ hJ hk (show d < 12 by omega) (show n < 12 by omega)
    unfold cs_2 cs_1
    -- the counts
    have epo : y_po y = a_po a := hg.sc.2.2.2.2.1
    have h1 : Ry (v_po (pu y d n (nI k)) (y_po y + 1)) (b_po (b_q a (va_u2 (a_q a) d n (a_q a d n ++ [.inl k]))) (a_po a + 1)) := by
      obtain ⟨pg, pl, pc, pJ⟩ := hp
      refine ⟨⟨⟨pg.sc.1, pg.sc.2.1, pg.sc.2.2.1, pg.sc.2.2.2.1, ?_, pg.sc.2.2.2.2.2⟩, pg.2⟩, fun u v hu hv => ⟨(pl u v hu hv).1, (yq_cg (y := pu y d n (nI k)) (z := v_po (pu y d n (nI k)) (y_po y + 1)) rfl rfl rfl rfl rfl u v).trans (pl u v hu hv).2.1, (pl u v hu hv).2.2⟩, pc, pJ⟩
      show y_po y + 1 = a_po a + 1
      rw [epo]
    generalize v_po (pu y d n (nI k)) (y_po y + 1) = z at h1
    obtain ⟨zg, zl, zc, zJ⟩ := h1
    -- what is needed does not look at the messages
    have hneed : y_need z k d n = zd (a_need a k d n) := by
      have hJ' : AJ a := hJ
      have zg' : Yg z (b_po a (a_po a + 1)) := zg
      have h5 : Yl z (b_po a (a_po a + 1)) ∨ True := Or.inr trivial
      unfold y_need a_need
      have e : ∀ r, r < a_nr a → (re_x z n (nI d) (y_do z r).toNatClampNeg = true ↔ Cn (Av (a_E a) d) n (a_rd a r)) := fun r hr => by
        have r3 := hJ.rd r hr
        rw [show y_do z r = nI (a_rd a r) from zg.rd r hr, nI_clamp (by omega)]
        unfold re_x
        rw [if_pos (by omega), zd_i]
        have er : ∀ p q, rE z (nI d) p q ↔ Av (a_E a) d p q := fun p q => by
          have : y_dk z = a_dk a := zg.sc.1
          unfold rE Av a_E
          rw [this]
          constructor
          · rintro ⟨⟨z1, z2⟩, z3, z4⟩
            rw [(zl p q (by omega) (by omega)).1] at z3
            exact ⟨z3, fun q2 => z4 (by rw [q2])⟩
          · rintro ⟨z1, z2⟩
            have k1 := (hJ.lk p q z1).2
            have k2 := (hJ.lk q p (hJ.lk p q z1).1).2
            exact ⟨⟨k1, k2⟩, by rw [(zl p q (by omega) (by omega)).1]; exact z1, fun q2 => z2 ((nI_eq (by omega) (by omega)).mp q2)⟩
        exact ⟨fun w => Cn_mono (fun p q => (er p q).mp) w, fun w => Cn_mono (fun p q => (er p q).mpr) w⟩
      rw [show y_nr z = a_nr a from zg.sc.2.1]
      have ew : ∀ r, y_wants z r k = zd (a_wants a r k) := fun r => wants_y (a := b_po a (a_po a + 1)) zg' hJ.ts hk
      refine congrArg zd (propext ⟨fun ⟨r, w1, w2, w4⟩ => ⟨r, w1, (e r w1).mp w2, ?_⟩, fun ⟨r, w1, w2, w4⟩ => ⟨r, w1, (e r w1).mpr w2, ?_⟩⟩)
      · rw [ew] at w4; exact zd_i.mp w4
      · rw [ew]; exact zd_t w4
    rw [hneed]
    have ene : y_ne z = a_ne a := zg.sc.2.2.2.2.2.1
    refine ⟨⟨⟨zg.sc.1, zg.sc.2.1, zg.sc.2.2.1, zg.sc.2.2.2.1, zg.sc.2.2.2.2.1, ?_, zg.sc.2.2.2.2.2.2⟩, zg.2⟩, fun u v hu hv => ⟨(zl u v hu hv).1, (yq_cg (y := z) (z := v_ne (v_re z (re_x z n (nI d))) (y_ne z + (if zd (a_need a k d n) = true then 0 else 1))) rfl rfl rfl rfl rfl u v).trans (zl u v hu hv).2.1, (zl u v hu hv).2.2⟩, zc, zJ⟩
    show y_ne z + (if zd (a_need a k d n) = true then 0 else 1) = (if zd (a_need a k d n) = true then a_ne a else a_ne a + 1)
    rw [ene]
    by_cases q : zd (a_need a k d n) = true
    · rw [if_pos q, if_pos q, Int32.add_zero]
    · rw [if_neg q, if_neg q]
  · rw [if_neg (fun z => c (hcn.mp z)), zd_f c]
    exact ⟨hg, hl, hc, hJv⟩
theorem cps_y {y : zMS} {a : zAb} (hR : Ry y a) (hJ : AJ a) {k d f : Nat} {fI : Int32} (hk : k < a_nn a) (hd : d < a_dk a) (hfI : ∀ n, n < a_dk a → (nI n = fI ↔ n = f)) (hsn : a_sn a k d = true) (hno : ∀ v, k ∉ nt (a_q a d v)) (hu : ct (fun j => a_uw a j ∨ j = k) (a_nn a) ≤ 60) : ∀ n, n ≤ a_dk a → Ry (cps y k d fI n) (a_ps a k d f n)
  | 0, _ => hR
  | n + 1, hn => by
    have ih := cps_y hR hJ hk hd hfI hsn hno hu n (by omega)
    have hJn : AJ (a_ps a k d f n) := AJ_ps hJ hk hsn hno hu
    have e1 : a_dk (a_ps a k d f n) = a_dk a ∧ a_nn (a_ps a k d f n) = a_nn a := by
      obtain ⟨q, p, m, e⟩ := psk_n a k d f n
      rw [e]; exact ⟨rfl, rfl⟩
    exact cs_y ih hJn (by rw [e1.2]; exact hk) (by rw [e1.1]; exact hd) (by rw [e1.1]; omega) (hfI n (by omega))
/-- a notice comes to a desk where it was not -/
theorem come_y {y : zMS} {a : zAb} (hR : Ry y a) (hJ : AJ a) {k d f : Nat} {fI : Int32} (hk : k < a_nn a) (hd : d < a_dk a) (hfI : ∀ n, n < a_dk a → (nI n = fI ↔ n = f)) (hsn : a_sn a k d = false) (hu : ct (fun j => a_uw a j ∨ j = k) (a_nn a) ≤ 60) : Ry (cm y k d fI) (a_come a k d f) ∧ cm_ok y k d fI := by
  have h3 := hJ.lim
  have hh := ch_y hR hJ hk (show d < 12 by omega) (a_nr a) (Nat.le_refl _)
  rw [hearR_e] at hh
  have hJh : AJ (a_hear a k d) := AJ_hear hJ hk
  have hno : ∀ v, k ∉ nt (a_q (a_hear a k d) d v) := fun v hv => by
    have := ((hJ.ql d v).2.2.1 k hv).2
    rw [hsn] at this
    cases this
  have hps := fun n hn => cps_y hh hJh hk hd hfI (va_u2_s _ _ _ _) hno hu n hn
  constructor
  · unfold cm a_come
    rw [if_neg (by rw [hsn]; decide), hR.1.sc.2.1, hR.1.sc.1]
    exact hps (a_dk a) (Nat.le_refl _)
  · refine ⟨chok_y hR hJ hk, fun v hv => ?_⟩
    rw [hR.1.sc.1] at hv
    rw [hR.1.sc.2.1]
    exact rm_y (hps v (show v ≤ a_dk a by omega)) (AJ_ps hJh hk (va_u2_s _ _ _ _) hno hu)
