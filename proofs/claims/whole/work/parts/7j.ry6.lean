/-! the reference: roads, sending, delivering -/
theorem cl2_in (f : Nat → Int64) (b c : Nat) : bto (sh (cl2 f b c 5) b) = (fun _ => false) ∧ bto (sh (cl2 f b c 5) c) = (fun _ => false) := by
  have z : ∀ g : Nat → Int64, (∀ i, i < 5 → g i = 0) → bto g = (fun _ => false) := fun g hg => by
    rw [bto_cg (g := fun _ => 0) hg]
    funext k
    by_cases hk : k < 320
    · rw [bto_i hk]; exact row_0 k hk
    · exact bto_o hk
  exact ⟨z _ (fun i hi => if_pos (by omega)), z _ (fun i hi => if_pos (by omega))⟩
theorem cl2_o (f : Nat → Int64) {b c d : Nat} (h1 : d + 5 ≤ b ∨ b + 5 ≤ d) (h2 : d + 5 ≤ c ∨ c + 5 ≤ d) : bto (sh (cl2 f b c 5) d) = bto (sh f d) := bto_cg (fun i hi => by
  show cl2 f b c 5 (d + i) = f (d + i)
  exact if_neg (by omega))
theorem lnk_y {y : zMS} {a : zAb} (hR : Ry y a) (hJ : AJ a) {u v : Nat} (hu : u < a_dk a) (hv : v < a_dk a) (hn : ¬ Cn (a_E a) u v) (re : Nat → Bool) : Ry (lk_y (v_re y re) u v true) (a_lnk a u v) := by
  obtain ⟨hg, hl, hc, hJv⟩ := hR
  have h3 := hJ.lim
  have huv : u ≠ v := fun z => hn (z ▸ Cn_refl _ _)
  have f1 : a_lk a u v = false := by
    cases hq : a_lk a u v with
    | false => rfl
    | true => exact absurd (Cn_one hq) hn
  have f2 : a_lk a v u = false := by rw [lk_sy hJ]; exact f1
  have n1 := hJ.un u v f1
  have n2 := hJ.un v u f2
  refine ⟨hg, fun p w hp hw => ⟨?_, ?_, ?_, ?_⟩, hc, hJv⟩
  · show va_up (va_up (y_lk y) (12 * u + v) true) (12 * v + u) true (12 * p + w) = va_u2 (va_u2 (a_lk a) u v true) v u true p w
    by_cases e1 : p = v ∧ w = u
    · rw [e1.1, e1.2, va_ups', va_u2_s]
    · rw [va_upo' _ _ (by intro z; exact e1 ⟨by omega, by omega⟩), va_u2_o _ _ e1]
      by_cases e2 : p = u ∧ w = v
      · rw [e2.1, e2.2, va_ups', va_u2_s]
      · rw [va_upo' _ _ (by intro z; exact e2 ⟨by omega, by omega⟩), va_u2_o _ _ e2]; exact (hl p w hp hw).1
  · exact (yq_cg (y := y) (z := lk_y (v_re y re) u v true) rfl rfl rfl rfl rfl p w).trans (hl p w hp hw).2.1
  · show bto (sh (cl2 (y_to y) (5 * (12 * u + v)) (5 * (12 * v + u)) 5) (5 * (12 * p + w))) = a_to a p w
    by_cases e1 : p = v ∧ w = u
    · rw [e1.1, e1.2, (cl2_in _ _ _).2, n2.2.1]
    · by_cases e2 : p = u ∧ w = v
      · rw [e2.1, e2.2, (cl2_in _ _ _).1, n1.2.1]
      · rw [cl2_o _ (by omega) (by omega)]; exact (hl p w hp hw).2.2.1
  · show bto (sh (cl2 (y_tb y) (5 * (12 * u + v)) (5 * (12 * v + u)) 5) (5 * (12 * p + w))) = a_tb a p w
    by_cases e1 : p = v ∧ w = u
    · rw [e1.1, e1.2, (cl2_in _ _ _).2, n2.2.2]
    · by_cases e2 : p = u ∧ w = v
      · rw [e2.1, e2.2, (cl2_in _ _ _).1, n1.2.2]
      · rw [cl2_o _ (by omega) (by omega)]; exact (hl p w hp hw).2.2.2
/-! cut -/
theorem ctn_q (u v : Nat) : ∀ (n : Nat) (z : zMS), n ≤ y_ms z → ∀ p w, yq (ct_n u v n z) p w = if (p = u ∧ w = v) ∨ (p = v ∧ w = u) then yqs z p w n (y_ms z - n) else yq z p w
  | 0, z, _, p, w => by
    show yq z p w = _
    split
    · rfl
    · rfl
  | n + 1, z, hn, p, w => by
    show yq (ct_n u v n (if ct_p z u v n = true then dr z n else z)) p w = _
    have hd := yq_dr (y := z) (m := n) (by omega) p w
    by_cases c : ct_p z u v n = true
    · rw [if_pos c]
      have hc := of_decide_eq_true c
      have hms : y_ms (dr z n) = y_ms z - 1 := rfl
      rw [ctn_q u v n (dr z n) (by rw [hms]; omega) p w]
      by_cases e : (p = u ∧ w = v) ∨ (p = v ∧ w = u)
      · rw [if_pos e, if_pos e, hms]
        have e2 : y_ms z - (n + 1) = y_ms z - 1 - n := by omega
        rw [e2]
        exact yqs_cg _ (fun i hi => by
          refine hr_cy ⟨?_, ?_⟩ ?_ (fun j hj => ?_)
          · show dr_f (y_fr z) n (y_ms z - 1) (n + i) = _
            unfold dr_f
            rw [if_pos (by omega), show n + i + 1 = n + 1 + i by omega]
          · show dr_f (y_tt z) n (y_ms z - 1) (n + i) = _
            unfold dr_f
            rw [if_pos (by omega), show n + i + 1 = n + 1 + i by omega]
          · show dr_f (y_wh z) n (y_ms z - 1) (n + i) = _
            unfold dr_f
            rw [if_pos (by omega), show n + i + 1 = n + 1 + i by omega]
          · show dr_r (y_rw z) n (5 * (y_ms z - 1)) (5 * (n + i) + j) = _
            unfold dr_r
            rw [if_pos (by omega), show 5 * (n + i) + j + 5 = 5 * (n + 1 + i) + j by omega])
      · rw [if_neg e, if_neg e, hd.1, hd.2]
        have : y_hr z p w n = [] := if_neg (fun q => e (by
          rcases hc with h | h
          · exact Or.inl ⟨q.1.symm.trans h.1, q.2.symm.trans h.2⟩
          · exact Or.inr ⟨q.1.symm.trans h.1, q.2.symm.trans h.2⟩))
        rw [this, List.append_nil]
    · rw [if_neg c, ctn_q u v n z (by omega) p w]
      by_cases e : (p = u ∧ w = v) ∨ (p = v ∧ w = u)
      · rw [if_pos e, if_pos e]
        have h1 : yqs z p w n (y_ms z - n) = yqs z p w n (1 + (y_ms z - (n + 1))) := by rw [show 1 + (y_ms z - (n + 1)) = y_ms z - n by omega]
        rw [h1, yqs_add]
        have h2 : yqs z p w n 1 = [] := by
          show [] ++ y_hr z p w (n + 0) = []
          rw [List.nil_append, Nat.add_zero]
          refine if_neg (fun q => c (decide_eq_true ?_))
          rcases e with e | e
          · exact Or.inl ⟨q.1.trans e.1, q.2.trans e.2⟩
          · exact Or.inr ⟨q.1.trans e.1, q.2.trans e.2⟩
        rw [h2, List.nil_append]
      · rw [if_neg e, if_neg e]
theorem ctn_k (u v : Nat) : ∀ (n : Nat) (z : zMS), ∃ M A B C D, ct_n u v n z = v_rw (v_wh (v_tt (v_fr (v_ms z M) A) B) C) D
  | 0, z => ⟨y_ms z, y_fr z, y_tt z, y_wh z, y_rw z, rfl⟩
  | n + 1, z => by
    show ∃ M A B C D, ct_n u v n (if ct_p z u v n = true then dr z n else z) = _
    obtain ⟨M, A, B, C, D, e⟩ := ctn_k u v n (if ct_p z u v n = true then dr z n else z)
    refine ⟨M, A, B, C, D, ?_⟩
    rw [e]
    split <;> rfl
theorem cut_y {y : zMS} {a : zAb} (hR : Ry y a) {u v : Nat} (hu : u < 12) (hv : v < 12) : Ry (ct_y y u v) (a_ctt a u v) := by
  obtain ⟨hg, hl, hc, hJv⟩ := hR
  have hJc : Jv (ct_y y u v) := Jv_ct _ _ (Jv_lk hJv)
  have hq := ctn_q u v (y_ms y) (lk_y y u v false) (Nat.le_refl _)
  obtain ⟨M, A, B, C, D, e⟩ := ctn_k u v (y_ms y) (lk_y y u v false)
  have e' : ct_y y u v = v_rw (v_wh (v_tt (v_fr (v_ms (lk_y y u v false) M) A) B) C) D := e
  have hq' : ∀ p w, yq (ct_y y u v) p w = if (p = u ∧ w = v) ∨ (p = v ∧ w = u) then [] else yq y p w := fun p w => by
    have := hq p w
    have h0 : yqs (lk_y y u v false) p w (y_ms y) (y_ms (lk_y y u v false) - y_ms y) = [] := by
      rw [show y_ms (lk_y y u v false) - y_ms y = 0 from Nat.sub_self _]; rfl
    rw [h0] at this
    have h1 : yq (lk_y y u v false) p w = yq y p w := yq_cg (y := y) (z := lk_y y u v false) rfl rfl rfl rfl rfl p w
    rw [h1] at this
    exact this
  refine ⟨by rw [e']; exact hg, fun p w hp hw => ?_, by rw [e']; exact hc, hJc⟩
  rw [hq' p w]
  have el : y_lk (ct_y y u v) = va_up (va_up (y_lk y) (12 * u + v) false) (12 * v + u) false := by rw [e']; rfl
  have et : y_to (ct_y y u v) = cl2 (y_to y) (5 * (12 * u + v)) (5 * (12 * v + u)) 5 := by rw [e']; rfl
  have eb : y_tb (ct_y y u v) = cl2 (y_tb y) (5 * (12 * u + v)) (5 * (12 * v + u)) 5 := by rw [e']; rfl
  rw [el, et, eb]
  rcases ctt_c a u v p w with ⟨c, c1, c2, c3, c4⟩ | ⟨c, c1, c2, c3, c4⟩
  · rw [c1, c2, c3, c4, if_pos c]
    rcases c with c | c
    · rw [c.1, c.2, (cl2_in _ _ _).1, (cl2_in _ _ _).1]
      refine ⟨?_, rfl, rfl, rfl⟩
      by_cases e2 : 12 * u + v = 12 * v + u
      · rw [e2]; exact va_ups' _ _ _
      · rw [va_upo' _ _ e2]; exact va_ups' _ _ _
    · rw [c.1, c.2, (cl2_in _ _ _).2, (cl2_in _ _ _).2]
      exact ⟨va_ups' _ _ _, rfl, rfl, rfl⟩
  · rw [c1, c2, c3, c4, if_neg c]
    have n1 : 12 * p + w ≠ 12 * u + v := by intro z; exact c (Or.inl ⟨by omega, by omega⟩)
    have n2 : 12 * p + w ≠ 12 * v + u := by intro z; exact c (Or.inr ⟨by omega, by omega⟩)
    rw [va_upo' _ _ n2, va_upo' _ _ n1, cl2_o _ (by omega) (by omega), cl2_o _ (by omega) (by omega)]
    exact hl p w hp hw
/-! send -/
theorem ntc_y {y : zMS} {a : zAb} (hR : Ry y a) (hn : a_nn a < 600) (d p q s t : Int32) : Ry (sn_y y d p q s t) (a_ntc a d (zf4 p q s t)) := by
  obtain ⟨hg, hl, hc, hJv⟩ := hR
  have en : y_nn y = a_nn a := hg.sc.2.2.2.1
  refine ⟨⟨⟨hg.sc.1, hg.sc.2.1, hg.sc.2.2.1, ?_, hg.sc.2.2.2.2⟩, hg.rd, hg.hm, hg.ws, ⟨hg.ts, hg.rg⟩, fun k hk => ?_, hg.sn⟩, fun u v hu hv => ⟨(hl u v hu hv).1, (yq_cg (y := y) (z := sn_y y d p q s t) rfl rfl rfl rfl rfl u v).trans (hl u v hu hv).2.1, (hl u v hu hv).2.2⟩, hc, Jv_sn hJv (by rw [en]; exact hn)⟩
  · show y_nn y + 1 = a_nn a + 1
    rw [en]
  · have hk2 : k < a_nn a + 1 := hk
    show (∀ f, f < 4 → upd (upd (upd (upd (y_fi y) (4 * y_nn y) p) (4 * y_nn y + 1) q) (4 * y_nn y + 2) s) (4 * y_nn y + 3) t (4 * k + f) = va_up (a_nf a) (a_nn a) (zf4 p q s t) k f) ∧ upd (y_sa y) (y_nn y) d k = va_up (a_nd a) (a_nn a) d k
    rw [en]
    by_cases e : k = a_nn a
    · subst e
      rw [va_ups', va_ups', upd_s']
      refine ⟨fun f hf => ?_, rfl⟩
      unfold zf4
      rcases f with _ | _ | _ | _ | f
      · show upd (upd (upd (upd (y_fi y) (4 * a_nn a) p) (4 * a_nn a + 1) q) (4 * a_nn a + 2) s) (4 * a_nn a + 3) t (4 * a_nn a) = _
        rw [upd_o' _ _ (by omega), upd_o' _ _ (by omega), upd_o' _ _ (by omega), upd_s', upd_o' _ _ (by omega), upd_o' _ _ (by omega), upd_o' _ _ (by omega), upd_s']
      · rw [upd_o' _ _ (by omega), upd_o' _ _ (by omega), upd_s', upd_o' _ _ (by omega), upd_o' _ _ (by omega), upd_s']
      · rw [upd_o' _ _ (by omega), upd_s', upd_o' _ _ (by omega), upd_s']
      · rw [upd_s', upd_s']
      · omega
    · rw [va_upo' _ _ e, va_upo' _ _ e, upd_o' _ _ e]
      refine ⟨fun f hf => ?_, (hg.nt k (by omega)).2⟩
      rw [upd_o' _ _ (by omega), upd_o' _ _ (by omega), upd_o' _ _ (by omega), upd_o' _ _ (by omega)]
      exact (hg.nt k (by omega)).1 f hf
theorem snd_y {y : zMS} {a : zAb} (hR : Ry y a) (hA : AI a) {d : Nat} (hd : d < a_dk a) (hn : a_nn a < 600) (hu : ct (a_uw a) (a_nn a) < 60) (p q s t : Int32) : Ry (cm (sn_y y (nI d) p q s t) (a_nn a) d (-1)) (a_snd a d (zf4 p q s t)) ∧ cm_ok (sn_y y (nI d) p q s t) (a_nn a) d (-1) ∧ inm (y_wt y (a_nn a)) (nI d) = false := by
  have hJ := hA.1
  have h3 := hJ.lim
  have h1 := ntc_y hR hn (nI d) p q s t
  have hs0 : a_sn a (a_nn a) d = false := by
    cases hq : a_sn a (a_nn a) d with
    | false => rfl
    | true => exact absurd (hJ.hd.2.2 _ _ hq) (Nat.lt_irrefl _)
  have hc := come_y h1 (AJ_ntc hJ hn) (k := a_nn a) (d := d) (f := 12) (fI := -1) (Nat.lt_succ_self _) hd (fun n hn2 => by
    have hn3 : n < a_dk a := hn2
    refine ⟨fun q => ?_, fun q => by omega⟩
    have := nI_pos (n := n) (by omega)
    rw [q] at this
    exact absurd (by decide) this) hs0 (by
    show ct (fun j => a_uw a j ∨ j = a_nn a) (a_nn a + 1) ≤ 60
    have hp : ¬ a_uw a (a_nn a) := fun z => Nat.lt_irrefl _ (uw_nn hJ z)
    rw [ct_add1 (Nat.lt_succ_self _) hp, ct_s0 hp]
    exact hu)
  exact ⟨hc.1, hc.2, by rw [(hR.1.sn _ (by omega)).1 d (by omega)]; exact hs0⟩
/-! a message is delivered -/
theorem dlv_y {y : zMS} {a : zAb} (hR : Ry y a) (hA : AI a) {u v m : Nat} (hu : u < 12) (hv : v < 12) (hm : fsO y u v (y_ms y) = some m) : a_lk a u v = true ∧ a_q a u v ≠ [] ∧ Ry (dv y m) (a_dl a u v) ∧ dv_ok y m ∧ y_tt y m < y_dk y ∧ m < y_ms y := by
  obtain ⟨hJ, hW⟩ := hA
  have hR0 := hR
  obtain ⟨hg, hl, hc, hJv⟩ := hR
  have h3 := hJ.lim
  obtain ⟨_, hfr, htt, hlt⟩ := fsO_q hm
  have hyq := fun p w => yq_first hm p w
  have hq := (hyq u v).1
  rw [(hl u v hu hv).2.1] at hq
  have hne : a_q a u v ≠ [] := by rw [hq]; simp
  have hlk : a_lk a u v = true := by
    cases hk : a_lk a u v with
    | true => rfl
    | false => exact absurd (hJ.un u v hk).1 hne
  have hvd : v < a_dk a := (hJ.lk v u (hJ.lk u v hlk).1).2
  have hud : u < a_dk a := (hJ.lk u v hlk).2
  obtain ⟨_, _, hs⟩ := hJv.ms m hlt
  have hJ1 := AJ_tk1 hJ u v
  refine ⟨hlk, hne, ?_⟩
  by_cases hw : y_wh y m = -2
  · have eit : y_it y m = .inr (bto (sh (y_rw y) (5 * m))) := by unfold y_it; rw [if_pos hw]
    rw [eit] at hq
    obtain ⟨row, hrow⟩ : ∃ row, row = bto (sh (y_rw y) (5 * m)) := ⟨_, rfl⟩
    rw [← hrow] at hq
    have e0 : dv_0 y m = dr (dv_1 y m) m := by unfold dv_0; rw [if_pos hw]
    have hJ2 : AJ (a_got (a_tk1 a u v) u v row) := AJ_got hJ1 (hJ.lk u v hlk).1 (fun w hw2 => (hJ.ql u v).2.2.2 row (by rw [hq]; exact List.mem_cons_self) w hw2)
    have hR1 : Ry (dr (dv_1 y m) m) (a_got (a_tk1 a u v) u v row) := by
      have etb : y_tb (dr (dv_1 y m) m) = rwp (y_tb y) (5 * (12 * v + u)) (fun j => y_rw y (5 * m + j)) 5 := by
        show rwp (y_tb y) (5 * (12 * y_tt y m + y_fr y m)) (fun j => y_rw y (5 * m + j)) 5 = _
        rw [hfr, htt]
      have eyq : ∀ p w, yq (dr (dv_1 y m) m) p w = yq (dr y m) p w := fun p w => yq_cg (y := dr y m) (z := dr (dv_1 y m) m) rfl rfl rfl rfl rfl p w
      refine ⟨⟨⟨hg.sc.1, hg.sc.2.1, hg.sc.2.2.1, hg.sc.2.2.2.1, hg.sc.2.2.2.2.1, hg.sc.2.2.2.2.2.1, ?_⟩, hg.2⟩, fun p w hp hw2 => ⟨(hl p w hp hw2).1, ?_, (hl p w hp hw2).2.2.1, ?_⟩, hc, Jv_dr (y := dv_1 y m) hJv⟩
      · show y_td y + 1 = a_td a + 1
        rw [hg.sc.2.2.2.2.2.2]
      · rw [eyq, (hyq p w).2]
        show _ = va_u2 (a_q a) u v (a_q a u v).tail p w
        simp only [va_u2]
        by_cases e : p = u ∧ w = v
        · rw [if_pos e, if_pos e, (hl p w hp hw2).2.1, e.1, e.2]
        · rw [if_neg e, if_neg e, (hl p w hp hw2).2.1]
      · rw [etb]
        show _ = va_u2 (a_tb a) v u row p w
        by_cases e : p = v ∧ w = u
        · rw [e.1, e.2, va_u2_s, to_y, hrow]; rfl
        · rw [va_u2_o _ _ e, to_o _ _ (by omega)]; exact (hl p w hp hw2).2.2.2
    have h2 := tl_y hR1 hJ2
    have ea : a_dl a u v = tlA (a_got (a_tk1 a u v) u v row) := by unfold a_dl; rw [hq]
    refine ⟨?_, ⟨fun k hk _ => ?_, ?_⟩, by rw [htt, hg.sc.1]; exact hvd, hlt⟩
    · rw [ea]
      unfold dv
      rw [e0]; exact h2
    · rw [hw] at hk
      intro _
      exact absurd hk.symm (nI_n2 (by omega))
    · rw [e0]; exact tlok_y hR1 hJ2
  · obtain ⟨k, hk, ek⟩ := hs.resolve_left hw
    rw [hg.sc.2.2.2.1] at hk
    have eit : y_it y m = .inl k := by unfold y_it; rw [if_neg hw, ek, nI_clamp (by omega)]
    rw [eit] at hq
    have e0 : dv_0 y m = dv_3 (dr y m) k v u := by unfold dv_0; rw [if_neg hw, ek, nI_clamp (by omega), hfr, htt]
    have hR1 : Ry (dr y m) (a_tk1 a u v) := by
      refine ⟨hg, fun p w hp hw2 => ⟨(hl p w hp hw2).1, ?_, (hl p w hp hw2).2.2⟩, hc, Jv_dr hJv⟩
      rw [(hyq p w).2]
      show _ = va_u2 (a_q a) u v (a_q a u v).tail p w
      simp only [va_u2]
      by_cases e : p = u ∧ w = v
      · rw [if_pos e, if_pos e, (hl p w hp hw2).2.1, e.1, e.2]
      · rw [if_neg e, if_neg e, (hl p w hp hw2).2.1]
    have hsn : inm (y_wt (dr y m) k) (nI v) = a_sn a k v := (hg.sn k (by omega)).1 v (by omega)
    have huw : ct (fun j => a_uw (a_tk1 a u v) j ∨ j = k) (a_nn a) ≤ 60 := uw_k hJ (by rw [hq]; exact List.mem_cons_self)
    have ea : a_dl a u v = a_come (a_tk1 a u v) k v u := by unfold a_dl; rw [hq]
    have hJc : AJ (a_come (a_tk1 a u v) k v u) := AJ_come hJ1 hk huw
    have hWc : ∀ p w, ¬ a_w (a_come (a_tk1 a u v) k v u) p w := fun p w z => hW p w ((come_w (a_tk1 a u v) k v u p w).mp z)
    have hcome := fun (h0 : a_sn (a_tk1 a u v) k v = false) => come_y hR1 hJ1 (k := k) (d := v) (f := u) (fI := nI u) hk hvd (fun n hn2 => by have hn3 : n < a_dk a := hn2; exact nI_eq (by omega) (by omega)) h0 huw
    have hR2 : Ry (dv_3 (dr y m) k v u) (a_come (a_tk1 a u v) k v u) := by
      unfold dv_3
      rw [hsn]
      cases hb : a_sn a k v with
      | true =>
        rw [if_pos rfl]
        unfold a_come
        rw [if_pos (show a_sn (a_tk1 a u v) k v = true from hb)]
        exact hR1
      | false =>
        rw [if_neg (by decide)]
        exact (hcome hb).1
    refine ⟨?_, ⟨fun k' hk' hk6 hin => ?_, ?_⟩, by rw [htt, hg.sc.1]; exact hvd, hlt⟩
    · rw [ea]
      unfold dv
      rw [e0]
      have h2 := tl_y hR2 hJc
      have e2 : tlA (a_come (a_tk1 a u v) k v u) = a_come (a_tk1 a u v) k v u := tlP_no (fun p w _ => hWc p w)
      rw [e2] at h2
      exact h2
    · rw [ek] at hk'
      have e3 : k = k' := (nI_eq (by omega) (by omega)).mp hk'
      subst e3
      rw [htt] at hin ⊢
      rw [hfr]
      rw [hsn] at hin
      exact (hcome hin).2
    · rw [e0]; exact tlok_y hR2 hJc
