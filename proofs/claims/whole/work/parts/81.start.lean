/-! the law from its start -/
theorem zup_un {A B : zMp} {a : zNm} {e : zAE} : zup (zun A B) a e = zun (zup A a e) B := by
  funext n
  by_cases h : n = a
  · subst h
    rw [zup_s, zun_l zup_s]
  · rw [zup_o h]
    cases hA : A n with
    | some e' => rw [zun_l hA, zun_l ((zup_o h).trans hA)]
    | none => rw [zun_r hA, zun_r ((zup_o h).trans hA)]
theorem zcl_E : zcl w_E := fun n e he n' hn' => by
  unfold w_E at he
  split at he
  · cases he
    obtain ⟨k, hk⟩ := hn'
    cases hk
  · cases he
theorem zcl_w0 : zcl w_0 := fun n e he n' hn' => by
  unfold w_0 zup at he
  split at he
  · cases he
    simp [zrf] at hn'
  · exact absurd (zcl_E n e he n' hn') (fun z => by
      unfold w_E at he
      split at he
      · cases he
        obtain ⟨k, hk⟩ := hn'
        cases hk
      · cases he)
theorem d_w0 (L : Nat) (xs : Nat → Int32) : ∀ n, w_0 n ≠ none → scw L xs n = none := fun n hn => scw_o (fun z => hn (by
  rw [z]
  unfold w_0
  rw [zup_o (by decide)]
  exact if_neg (by decide)))
theorem d_x0 (L : Nat) (xs : Nat → Int32) : ∀ n, pic x_0 n ≠ none → scw L xs n = none := fun n hn => scw_o (fun z => by
  have h := pic_nm hn
  rw [z] at h
  exact absurd h (by decide))
theorem w0_m : w_0 (0, 0, 0) ≠ none := by
  unfold w_0
  rw [zup_s]
  simp
theorem li_X {Rt : Option zAV → zMp → Prop} {L : Nat} {xs : Nat → Int32} (h : zcl (pic x_0) → Rt none (zun (pic x_0) (scw L xs))) : zTG T_WR_init [.inr (0, 0, 0)] (zun w_0 (scw L xs)) Rt := by
  refine ⟨w_0, scw L xs, rfl, zcl_w0, zcl_sc L xs, d_w0 L xs, fun a ha => ?_, rfl, rfl, fun z => ⟨d_x0 L xs, h z⟩⟩
  rcases List.mem_cons.mp ha with rfl | ha
  · exact w0_m
  · cases ha
theorem wM_n {k i j : Nat} (h : ((k, i, j) : zNm) ≠ (30, 0, 0)) : wM_0 (k, i, j) = none := by
  show (if k = 30 then (if i = 0 ∧ j = 0 then (some (.inr (8, f_0)) : Option zAE) else none) else if k = 31 then (if j = 0 then none else none) else if k = 32 then (if j = 256 then none else none) else none) = none
  by_cases hk : k = 30
  · rw [if_pos hk, if_neg (fun q => h (by rw [hk, q.1, q.2]))]
  · rw [if_neg hk]
    split
    · split <;> rfl
    · split
      · split <;> rfl
      · rfl
theorem wM_1 (B : zMp) : zup B (30, 0, 0) (.inr (8, f_0)) = zun wM_0 B := by
  funext n
  obtain ⟨k, i, j⟩ := n
  by_cases h : ((k, i, j) : zNm) = (30, 0, 0)
  · rw [h, zup_s]
    exact (zun_l rfl).symm
  · rw [zup_o h]
    exact (zun_r (wM_n h)).symm
theorem zcl_wM : zcl wM_0 := fun n e he n' hn' => by
  obtain ⟨k, i, j⟩ := n
  by_cases h : ((k, i, j) : zNm) = (30, 0, 0)
  · rw [h] at he
    cases (show some (Sum.inr (8, f_0)) = some e from he)
    simp [zrf, f_0] at hn'
  · rw [wM_n h] at he
    cases he
theorem li_Y {Rt : Option zAV → zMp → Prop} {L : Nat} {xs : Nat → Int32} (hx : zcl (pic x_0)) (h : zcl (mp (un_x y_0 4)) → Rt none (lwW x_0 (un_x y_0 4) L xs)) : zTG T_Mo_init [.inr (30, 0, 0)] (zup (zun (pic x_0) (scw L xs)) (30, 0, 0) (.inr (8, f_0))) Rt := by
  refine ⟨wM_0, zun (pic x_0) (scw L xs), wM_1 _, zcl_wM, zcl_un hx (zcl_sc L xs), fun n hn => ?_, fun a ha => ?_, rfl, rfl, fun z => ⟨d_y x_0 (un_x y_0 4) L xs, ?_⟩⟩
  · obtain ⟨k, i, j⟩ := n
    by_cases h : ((k, i, j) : zNm) = (30, 0, 0)
    · rw [h, zun_r (pic_o (by decide) (by decide))]
      exact scw_o (by decide)
    · exact absurd (wM_n h) hn
  · rcases List.mem_cons.mp ha with rfl | ha
    · exact fun z => Option.some_ne_none _ (show some (Sum.inr (8, f_0)) = none from z)
    · cases ha
  · rw [← lW_c]
    exact h z
set_option maxRecDepth 20000 in
theorem law_0 {X : zMa} {Rt : Option zAV → zMp → Prop} (hC : zCx X RL cL_law 11 406 600000 7302250 (some .boolean) false Rt) (hN : zNL X = 4) (hRt : ∀ M, Rt (some (.inl (.int 1))) M) {L : Nat} {xs : Nat → Int32} (hL : L ≤ 3072) : zG X 0 [some (.inr scN), none, none, none] [] (zun w_E (scw L xs)) 0 0 := by
  refine s_Law_law_0 hC hN _ _ _ _ _ ?_
  simp only [B_Law_law_0, i_ic, i_lc, i_nul, i_il, i_ll, i_al, i_is, i_as, i_ls, i_inc, i_iadd, i_isub, i_imul, i_iand, i_ior, i_ixor, i_idiv, i_irem, i_ishl, i_ishr, i_ladd, i_lsub, i_land, i_lor, i_i2l, i_lushr, i_lshl, i_lshr, i_lcmp, i_dup, i_pop, i_dx1, i_dup2, i_ifeq, i_ifne, i_iflt, i_ifge, i_ifgt, i_ifle, i_iceq, i_icne, i_iclt, i_icge, i_icgt, i_icle, i_ifn, i_gf, i_pf, i_ial, i_bal, i_lal, i_aal, i_ias, i_las, i_bas, i_aas, i_alen, i_newa, i_new, i_anew, i_cast, i_oi, i_call, i_callV, i_callV2, i_callI, i_iret, i_zret, i_lret, i_vret, i_aret, i_mmx, i_mmn, i_gsE, i_aceq, i_no, i_acq, i_sw, zsw, zlg, zls, znl, zfg, zcs, zsp, zrc, zisn, zft, zc1, zto, Value.category, List.set_cons_zero, List.set_cons_succ, List.length_cons, List.length_nil, Option.toList, List.append, List.nil_append, List.cons_append, true_and, and_true, Nat.add_zero, Nat.zero_le, Nat.zero_add, Nat.le_refl, Nat.reduceAdd, Nat.reduceLeDiff, co0, z0, zn_0, zn_1, zn_2, zn_3, zn_4, zn_5, zn_8, zn_12, zn_24, zn_121, zn_144, zn_256, zn_300, zn_600, zn_720, zn_1204, zn_1280, zn_2400, zn_4816, zn_14400, zn_90000, co_LX_init, co_LY_init, co_WR_init, co_Mo_init]
  refine ⟨(0, 0, 0), ?_, m_k (by decide), ?_⟩
  · rw [zun_r (w_Ek (by decide))]
    exact scw_o (by decide)
  rw [zup_un]
  refine li_X (fun z1 => ?_)
  simp only [i_ic, i_lc, i_nul, i_il, i_ll, i_al, i_is, i_as, i_ls, i_inc, i_iadd, i_isub, i_imul, i_iand, i_ior, i_ixor, i_idiv, i_irem, i_ishl, i_ishr, i_ladd, i_lsub, i_land, i_lor, i_i2l, i_lushr, i_lshl, i_lshr, i_lcmp, i_dup, i_pop, i_dx1, i_dup2, i_ifeq, i_ifne, i_iflt, i_ifge, i_ifgt, i_ifle, i_iceq, i_icne, i_iclt, i_icge, i_icgt, i_icle, i_ifn, i_gf, i_pf, i_ial, i_bal, i_lal, i_aal, i_ias, i_las, i_bas, i_aas, i_alen, i_newa, i_new, i_anew, i_cast, i_oi, i_call, i_callV, i_callV2, i_callI, i_iret, i_zret, i_lret, i_vret, i_aret, i_mmx, i_mmn, i_gsE, i_aceq, i_no, i_acq, i_sw, zsw, zlg, zls, znl, zfg, zcs, zsp, zrc, zisn, zft, zc1, zto, Value.category, List.set_cons_zero, List.set_cons_succ, List.length_cons, List.length_nil, Option.toList, List.append, List.nil_append, List.cons_append, true_and, and_true, Nat.add_zero, Nat.zero_le, Nat.zero_add, Nat.le_refl, Nat.reduceAdd, Nat.reduceLeDiff, co0, z0, zn_0, zn_1, zn_2, zn_3, zn_4, zn_5, zn_8, zn_12, zn_24, zn_121, zn_144, zn_256, zn_300, zn_600, zn_720, zn_1204, zn_1280, zn_2400, zn_4816, zn_14400, zn_90000, co_LX_init, co_LY_init, co_WR_init, co_Mo_init]
  refine ⟨(30, 0, 0), ?_, m_k (by decide), ?_⟩
  · rw [zun_r (pic_o (by decide) (by decide))]
    exact scw_o (by decide)
  refine li_Y z1 (fun z2 => ?_)
  simp only [i_ic, i_lc, i_nul, i_il, i_ll, i_al, i_is, i_as, i_ls, i_inc, i_iadd, i_isub, i_imul, i_iand, i_ior, i_ixor, i_idiv, i_irem, i_ishl, i_ishr, i_ladd, i_lsub, i_land, i_lor, i_i2l, i_lushr, i_lshl, i_lshr, i_lcmp, i_dup, i_pop, i_dx1, i_dup2, i_ifeq, i_ifne, i_iflt, i_ifge, i_ifgt, i_ifle, i_iceq, i_icne, i_iclt, i_icge, i_icgt, i_icle, i_ifn, i_gf, i_pf, i_ial, i_bal, i_lal, i_aal, i_ias, i_las, i_bas, i_aas, i_alen, i_newa, i_new, i_anew, i_cast, i_oi, i_call, i_callV, i_callV2, i_callI, i_iret, i_zret, i_lret, i_vret, i_aret, i_mmx, i_mmn, i_gsE, i_aceq, i_no, i_acq, i_sw, zsw, zlg, zls, znl, zfg, zcs, zsp, zrc, zisn, zft, zc1, zto, Value.category, List.set_cons_zero, List.set_cons_succ, List.length_cons, List.length_nil, Option.toList, List.append, List.nil_append, List.cons_append, true_and, and_true, Nat.add_zero, Nat.zero_le, Nat.zero_add, Nat.le_refl, Nat.reduceAdd, Nat.reduceLeDiff, co0, z0, zn_0, zn_1, zn_2, zn_3, zn_4, zn_5, zn_8, zn_12, zn_24, zn_121, zn_144, zn_256, zn_300, zn_600, zn_720, zn_1204, zn_1280, zn_2400, zn_4816, zn_14400, zn_90000, co_LX_init, co_LY_init, co_WR_init, co_Mo_init]
  exact law_loop hC hN hRt hL (L + 1) 0 (by omega) (by omega) x_0 (un_x y_0 4) a_0 _ _ Bth_0 z1 z2 (by rw [rws_0, cp_0]; decide) (by rw [rws_0, cp_0]; decide)
/-! what the start gives -/
theorem zlen {args : Array Value} {s : State} {t : Term} {a : Nat} {cell : Cell} (h : (Cond.eq (.length t) (.int 0)).before args s = true) (ht : t.eval args s none [] s = some (.ref a)) (hc : s.heap[a]? = some cell) : cell.slots.size = 0 := by
  have h1 := va_eqt h
  simp only [Term.eval, Option.bind_eq_bind, ht, Option.bind_some] at h1
  cases ha : s.arrayAt? a with
  | none => simp [ha] at h1
  | some c2 =>
    have e := (State.arrayAt?_spec ha).1
    cases hc.symm.trans e
    simp only [ha, Option.bind_some] at h1
    by_cases hs : cell.slots.size < 2 ^ 31
    · rw [if_pos hs] at h1
      exact (nI_eq hs (by decide)).mp (Value.int.inj (Option.some.inj h1))
    · rw [if_neg hs] at h1
      cases h1
theorem nst {v : VmData} (h : ∀ k, v ≠ .statics k) : v.isStatics = false := by
  cases v with
  | statics k => exact absurd rfl (h k)
  | _ => rfl
theorem sbn {s s' : State} {Lc : List Loc} {k n : Nat} (h : s.sameButNew s' Lc k n) (hL : ∀ q ∈ Lc, s.heap.size ≤ q.base) : s.sameButNew s' [] k n := by
  obtain ⟨h1, h2, h3, h4, h5, h6⟩ := h
  refine ⟨h1, h2, h3, h4, h5, fun a c hc => ?_⟩
  obtain ⟨c', g1, g2, g3, g4⟩ := h6 a c hc
  refine ⟨c', g1, g2, g3, fun i _ => g4 i (fun hm => ?_)⟩
  have q1 : s.heap.size ≤ a := hL _ hm
  have q2 := (Array.getElem?_eq_some_iff.mp hc).1
  omega
abbrev tE : Term := .static "java/util/ArrayList" "DEFAULTCAPACITY_EMPTY_ELEMENTDATA" "[Ljava/lang/Object;"
/-- the world at the start: the static empty array, the script -/
theorem st_W {D : va_G} {s : State} {A : Nat → Prop} {b L aE : Nat} {xs : Nat → Int32} {ad : zNm → Nat} {cell : Cell} (had : ad scN = b) (hae : ad znE = aE) (hX : va_X b L xs s s.heap) (hc : s.heap[aE]? = some cell) (hA : s.isArrayOf cell (.object "java/lang/Object")) (hu : cell.vm ≠ .unknown) (hs : cell.slots.size = 0) (hr : va_RA s cell.cls (.object "java/lang/Object")) : zWd D s A ad (zun w_E (scw L xs)) s.heap := by
  obtain ⟨scr, h1, h2, h3, h4, h5⟩ := hX
  have nE : ¬ zmo znE := by unfold zmo znE; decide
  have nS : ¬ zmo scN := by unfold zmo scN; decide
  have hin : ∀ n, zun w_E (scw L xs) n ≠ none → n = znE ∨ n = scN := fun n hn => by
    by_cases q1 : n = znE
    · exact Or.inl q1
    · by_cases q2 : n = scN
      · exact Or.inr q2
      · exact absurd ((zun_r (M := w_E) (if_neg q1)).trans (scw_o q2)) hn
  have hne : b ≠ aE := fun q => by
    rw [q] at h1
    cases h1.symm.trans hc
    obtain ⟨_, k1, e1, c1, f1⟩ := h2
    obtain ⟨_, k2, e2, c2, f2⟩ := hA
    cases e1.symm.trans e2
    cases f1.symm.trans f2
  refine ⟨fun n e he => ?_, fun n n' hn hn' hq => ?_, fun n hn hm => ?_, zcl_un zcl_E (zcl_sc L xs)⟩
  · rcases hin n (by rw [he]; simp) with rfl | rfl
    · rw [zun_l w_EE] at he
      cases he
      refine ⟨cell.cls, fun N z => ⟨(fun k h => by cases h), hA.2⟩, Or.inr ⟨nE, Or.inl ⟨rfl, hr⟩, cell, by rw [hae]; exact hc, rfl, ?_, hu, nst hA.1⟩⟩
      rw [Array.eq_empty_of_size_eq_zero hs]
      exact (Array.eq_empty_of_size_eq_zero (zvs _ _)).symm
    · rw [zun_r (M := w_E) (if_neg (by decide)), scw_s] at he
      cases he
      refine ⟨scr.cls, fun N z => ⟨(fun k h => by cases h), h2.2⟩, Or.inr ⟨nS, Or.inr rfl, scr, by rw [had]; exact h1, rfl, ?_, h3, nst h2.1⟩⟩
      show scr.slots = (arrV scr.cls L (fun j => .int (xs j))).slots
      refine Array.ext_getElem? (fun i => ?_)
      by_cases hi : i < L
      · rw [h5 i hi, arrV_read _ _ hi]
      · rw [Array.getElem?_eq_none (by omega), Array.getElem?_eq_none (by rw [arrV_size]; omega)]
  · rcases hin n hn with rfl | rfl
    · rcases hin n' hn' with rfl | rfl
      · rfl
      · rw [had, hae] at hq; exact absurd hq.symm hne
    · rcases hin n' hn' with rfl | rfl
      · rw [had, hae] at hq; exact absurd hq hne
      · rfl
  · rcases hin n hn with rfl | rfl
    · exact absurd hm nE
    · exact absurd hm nS
theorem st_D {s : State} {args : Array Value} (htb : ∀ w ∈ tb, w.before args s = true) : ∃ D : va_G, ∀ (c : Nat) (q : vw_C), vwCl[c]? = some q → u_Kn s q.1 q.2.1 q.2.2 (D.1 c) (D.2 c) := by
  obtain ⟨c0, i0, k0⟩ := u_known htb wi_AL (htb _ in_AL)
  obtain ⟨c1, i1, k1⟩ := u_known htb wi_FT (htb _ in_FT)
  obtain ⟨c2, i2, k2⟩ := u_known htb wi_Lane (htb _ in_Lane)
  obtain ⟨c3, i3, k3⟩ := u_known htb wi_Not (htb _ in_Not)
  obtain ⟨c4, i4, k4⟩ := u_known htb wi_Rdr (htb _ in_Rdr)
  obtain ⟨c5, i5, k5⟩ := u_known htb wi_Row (htb _ in_Row)
  obtain ⟨c6, i6, k6⟩ := u_known htb wi_Wsh (htb _ in_Wsh)
  obtain ⟨c7, i7, k7⟩ := u_known htb wi_WR (htb _ in_WR)
  obtain ⟨c8, i8, k8⟩ := u_known htb wi_Mo (htb _ in_Mo)
  refine ⟨(fun k => match k with | 0 => c0 | 1 => c1 | 2 => c2 | 3 => c3 | 4 => c4 | 5 => c5 | 6 => c6 | 7 => c7 | _ => c8, fun k => match k with | 0 => i0 | 1 => i1 | 2 => i2 | 3 => i3 | 4 => i4 | 5 => i5 | 6 => i6 | 7 => i7 | _ => i8), fun k q hq => ?_⟩
  match k, hq with
  | 0, hq => cases hq; exact k0
  | 1, hq => cases hq; exact k1
  | 2, hq => cases hq; exact k2
  | 3, hq => cases hq; exact k3
  | 4, hq => cases hq; exact k4
  | 5, hq => cases hq; exact k5
  | 6, hq => cases hq; exact k6
  | 7, hq => cases hq; exact k7
  | 8, hq => cases hq; exact k8
  | k + 9, hq => simp [vwCl] at hq
theorem whole_start {p : Program} {e : Env} {s : State} {m : MethodId} {below : List Frame} {meth : Method} {c : Code} (l : Launch) {b L : Nat} {xs : Nat → Int32} (hL : L ≤ 3072) (C0 : lw_At p s m meth c b L xs) : W p l e room_1 s m #[Value.ref b] below meth c s.heap [] 0 0 (lw_Z below #[Value.ref b] s) (entryFrame m ([Value.ref b] : List Value).toArray 4) := by
  obtain ⟨hx, hb, hr, hml, hown, hts, hX, hbl, hlocks, hgv⟩ := C0
  have htb : ∀ w ∈ tb, w.before #[Value.ref b] s = true := fun w hw => hts w (List.mem_filter.mp hw).1
  have hg := flat_of_before _ hgv
  obtain ⟨D, hKc⟩ := st_D htb
  have hKS : zKS D s := by
    refine ⟨⟨hKc, fun k q h => by simp at h⟩, fun w hw => ?_, va_Mi.of (hg (Cond.isRef (.mirror "[Ljava/lang/Object;")) (by decide +kernel))⟩
    have h1 : w.before #[Value.ref b] s = true := hts w (List.mem_append_right _ (List.mem_filter.mp hw).1)
    have h2 := (List.mem_filter.mp hw).2
    match w, h1, h2 with
    | .castable C T, h1, _ => exact h1
    | .methodLinkNest a i x hst, h1, _ => exact h1
    | .declares x, h1, _ => exact h1
    | .arrayOver (.object C), h1, _ => exact h1
  have hex : (Cond.exactly tE "[Ljava/lang/Object;").before #[Value.ref b] s = true := hg _ (by decide +kernel)
  have har : (Cond.arrayOf tE (.object "java/lang/Object")).before #[Value.ref b] s = true := hg _ (by decide +kernel)
  have hle : (Cond.eq (.length tE) (.int 0)).before #[Value.ref b] s = true := hg _ (by decide +kernel)
  have hls : (Cond.laysStatic "java/util/ArrayList" "DEFAULTCAPACITY_EMPTY_ELEMENTDATA" "[Ljava/lang/Object;").before #[Value.ref b] s = true := hts _ (List.mem_append_right _ (List.mem_of_getElem? (i := 39) (by decide +kernel)))
  obtain ⟨aE, cE, cell, kE, e1, e2, e3, e4, e5, e6, -⟩ := Cond.exactly_spec hex
  obtain ⟨f1, f2⟩ := Cond.arrayOf_spec har e1 e3
  have f3 : cell.slots.size = 0 := zlen hle e1 e3
  have hRA : va_RA s cell.cls (.object "java/lang/Object") := by
    obtain ⟨comp, cO, kO, o1, -, o2, o3, o4⟩ := Cond.arrayOver_spec (hKS.2.1 _ ao_Obj_0)
    have hq : cO = cell.cls := by
      rw [e6]
      exact Option.some.inj (o4.symm.trans e2)
    rw [← hq]
    exact ⟨kO, comp, o2, o3, o1, o4⟩
  obtain ⟨ad, had, hae⟩ : ∃ ad : zNm → Nat, ad scN = b ∧ ad znE = aE := ⟨fun n => if n = scN then b else aE, if_pos rfl, if_neg (by decide)⟩
  have hWd : zWd D s (fun q => s.heap.size ≤ q) ad (zun w_E (scw L xs)) s.heap := st_W had hae hX e3 f1 f2 f3 hRA
  have hSF : zSF ad (zun w_E (scw L xs)) (fun q => s.heap.size ≤ q) s s.heap := fun _ => by
    rw [hae]
    exact va_Zof hls (htb _ iz_AL) e1 (fun a ha h => absurd h (Nat.not_le.mpr ha))
  have hG := law_0 (X := (p, l, e, room_1, s, m, #[Value.ref b], below, meth, c, MQ below (zAQ D (fun q => s.heap.size ≤ q) ad (zun w_E (scw L xs)) (fun v _ => v = some (.inl (.int 1)))) #[Value.ref b] s 600000 7302250 (fun q => s.heap.size ≤ q), 4, D, (fun q => s.heap.size ≤ q), ad, zun w_E (scw L xs))) (Rt := fun v _ => v = some (.inl (.int 1))) ⟨hx, hb, hml, hown, htb, hKS, hSF, fun q h => h, rfl, rfl, hr, hlocks, fun h => by cases h⟩ rfl (fun _ => rfl) hL (xs := xs)
  have hl := lv_entry ([Value.ref b]) (n := 4) (Nat.le_of_ble_eq_true rfl)
  rw [lg_entry_eq]
  have hk1 : ∀ k v, zlg [some (Sum.inr scN), none, none, none] k = some v → k = 0 ∧ v = .inr scN := fun k v hk => by
    match k, hk with
    | 0, hk => cases hk; exact ⟨rfl, rfl⟩
    | 1, hk => cases hk
    | 2, hk => cases hk
    | 3, hk => cases hk
    | k + 4, hk => cases hk
  have hb0 : zcv ad (.inr scN) = Value.ref b := by simp only [zcv, had]
  have hal : zalv (zun w_E (scw L xs)) (.inr scN) := by
    show zun w_E (scw L xs) scN ≠ none
    rw [zun_r (M := w_E) (if_neg (by decide)), scw_s]
    simp
  intro T hT X0
  obtain ⟨t, a1, o, r1, r2, ⟨⟨v, M', ad', hv, hRt, -⟩, -⟩, Lc, hF, hLc⟩ := hG ad s.heap [] _ ⟨hWd, va_S.rf, ⟨hl.1, hl.2.1, fun k v hk => by
    obtain ⟨rfl, rfl⟩ := hk1 k v hk
    rw [hb0]
    exact hl.2.2 (0, .ref b) (show (0, Value.ref b) ∈ [(0, Value.ref b)] from List.mem_cons_self)⟩, ⟨fun n hn => ⟨hn, rfl⟩, fun n _ hn => hn⟩, fun k v hk => by
    obtain ⟨rfl, rfl⟩ := hk1 k v hk
    exact hal, fun v hv => by cases hv⟩ T hT X0
  refine ⟨t, a1, o, r1, r2, ?_, hF.1, hF.2.1, sbn hF.2.2 hLc⟩
  rw [hv, hRt]
  rfl
