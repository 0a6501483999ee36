/-! the reference: the other calls -/
/-- only fields that the common state does not see -/
theorem Ry_cg {y z : zMS} {a : zAb} (h : Ry y a) (hg : Yg z a) (hl : y_lk z = y_lk y ∧ y_to z = y_to y ∧ y_tb z = y_tb y) (hm : y_ms z = y_ms y ∧ y_fr z = y_fr y ∧ y_tt z = y_tt y ∧ y_wh z = y_wh y ∧ y_rw z = y_rw y) (hc : y_cp z = y_cp y) (hJ : Jv z) : Ry z a := by
  refine ⟨hg, fun u v hu hv => ?_, ?_, hJ⟩
  · rw [hl.1, hl.2.1, hl.2.2, yq_cg (y := y) hm.1 hm.2.1 hm.2.2.1 hm.2.2.2.1 hm.2.2.2.2 u v]
    exact h.2.1 u v hu hv
  · unfold Yc; rw [hc]; exact h.2.2.1
theorem dsk_y {y : zMS} {a : zAb} (hR : Ry y a) (hd : a_dk a < 12) : Ry (v_dk y (y_dk y + 1)) (a_dsk a) := by
  obtain ⟨hg, hl, hc, hJ⟩ := hR
  refine ⟨⟨⟨?_, hg.1.2⟩, hg.2⟩, fun u v hu hv => ⟨(hl u v hu hv).1, (yq_cg (y := y) (z := v_dk y (y_dk y + 1)) rfl rfl rfl rfl rfl u v).trans (hl u v hu hv).2.1, (hl u v hu hv).2.2⟩, hc, ?_⟩
  · show y_dk y + 1 = a_dk a + 1
    rw [hg.sc.1]
  · refine ⟨?_, hJ.lim, hJ.cp, fun r hr => ?_, hJ.ro, hJ.ts, hJ.ms, hJ.gb, hJ.hm⟩
    · show y_dk y + 1 ≤ 12
      rw [hg.sc.1]; omega
    · obtain ⟨d, h1, h2⟩ := hJ.rdr r hr
      exact ⟨d, Nat.lt_succ_of_lt h1, h2⟩
theorem rdr_y {y : zMS} {a : zAb} (hR : Ry y a) {d : Nat} (hd : d < a_dk a) (hr : a_nr a < 24) : Ry (v_nr (v_do y (upd (y_do y) (y_nr y) (nI d))) (y_nr y + 1)) (a_rdr a d) := by
  obtain ⟨hg, hl, hc, hJ⟩ := hR
  have en := hg.sc.2.1
  refine ⟨⟨⟨hg.sc.1, ?_, hg.sc.2.2⟩, fun r hr' => ?_, fun r hr' => ?_, hg.ws, ⟨hg.ts, hg.rg⟩, hg.nt, hg.sn⟩, fun u v hu hv => ⟨(hl u v hu hv).1, (yq_cg (y := y) (z := v_nr (v_do y (upd (y_do y) (y_nr y) (nI d))) (y_nr y + 1)) rfl rfl rfl rfl rfl u v).trans (hl u v hu hv).2.1, (hl u v hu hv).2.2⟩, hc, ?_⟩
  · show y_nr y + 1 = a_nr a + 1
    rw [en]
  · have hr2 : r < a_nr a + 1 := hr'
    show upd (y_do y) (y_nr y) (nI d) r = nI (va_up (a_rd a) (a_nr a) d r)
    rw [en]
    by_cases e : r = a_nr a
    · rw [e, upd_s', va_ups']
    · rw [upd_o' _ _ e, va_upo' _ _ e]; exact hg.rd r (by omega)
  · have o := hg.hm r hr'
    refine ⟨fun h => ?_, fun h => ?_, fun i h hi => ?_⟩
    · have h' : r < a_nr a + 1 := h
      show y_hm y r = va_up (a_rz a) (a_nr a) 0 r
      by_cases e : r = a_nr a
      · rw [e, va_ups', ← e]; exact o.2.1 (by omega)
      · rw [va_upo' _ _ e]; exact o.1 (by omega)
    · have h' : ¬ r < a_nr a + 1 := h
      exact o.2.1 (by omega)
    · have h' : r < a_nr a + 1 := h
      have hi' : i < va_up (a_rz a) (a_nr a) 0 r := hi
      by_cases e : r = a_nr a
      · rw [e, va_ups'] at hi'; exact absurd hi' (Nat.not_lt_zero i)
      · rw [va_upo' _ _ e] at hi'; exact o.2.2 i (by omega) hi'
  · refine ⟨hJ.dk, ⟨?_, hJ.lim.2⟩, hJ.cp, fun r hr' => ?_, fun w hw => Nat.lt_succ_of_lt (hJ.ro w hw), hJ.ts, hJ.ms, hJ.gb, hJ.hm⟩
    · show y_nr y + 1 ≤ 24
      rw [en]; omega
    · have hr2 : r < y_nr y + 1 := hr'
      show ∃ d', d' < y_dk y ∧ upd (y_do y) (y_nr y) (nI d) r = nI d'
      by_cases e : r = y_nr y
      · rw [e, upd_s']; exact ⟨d, by rw [hg.sc.1]; exact hd, rfl⟩
      · rw [upd_o' _ _ e]; exact hJ.rdr r (by omega)
theorem mov_y {y : zMS} {a : zAb} (hR : Ry y a) {r d : Nat} (hd : d < a_dk a) : Ry (mv_y y r (nI d)) (a_mov a r d) := by
  obtain ⟨hg, hl, hc, hJ⟩ := hR
  refine ⟨⟨hg.1, fun r' hr' => ?_, hg.hm, hg.ws, ⟨hg.ts, hg.rg⟩, hg.nt, hg.sn⟩, fun u v hu hv => ⟨(hl u v hu hv).1, (yq_cg (y := y) (z := mv_y y r (nI d)) rfl rfl rfl rfl rfl u v).trans (hl u v hu hv).2.1, (hl u v hu hv).2.2⟩, hc, Jv_mv hJ ⟨d, by rw [hg.sc.1]; exact hd, rfl⟩⟩
  show upd (y_do y) r (nI d) r' = nI (va_up (a_rd a) r d r')
  by_cases e : r' = r
  · rw [e, upd_s', va_ups']
  · rw [upd_o' _ _ e, va_upo' _ _ e]; exact hg.rd r' hr'
theorem off_y {y : zMS} {a : zAb} (hR : Ry y a) (w : Nat) : Ry (of_y y w) (a_off a w) := by
  obtain ⟨hg, hl, hc, hJ⟩ := hR
  refine ⟨⟨hg.1, hg.rd, hg.hm, fun w' hw' => ⟨(hg.ws w' hw').1, ?_, (hg.ws w' hw').2.2⟩, ⟨hg.ts, hg.rg⟩, hg.nt, hg.sn⟩, fun u v hu hv => ⟨(hl u v hu hv).1, (yq_cg (y := y) (z := of_y y w) rfl rfl rfl rfl rfl u v).trans (hl u v hu hv).2.1, (hl u v hu hv).2.2⟩, hc, Jv_of hJ⟩
  show va_up (y_al y) w false w' = va_up (a_wa a) w false w'
  by_cases e : w' = w
  · rw [e, va_ups', va_ups']
  · rw [va_upo' _ _ e, va_upo' _ _ e]; exact (hg.ws w' hw').2.1
