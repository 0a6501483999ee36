def i_alen (K : zKT) : zKT := fun L st M k n => match st with
  | .inr a :: st => match M a with
    | some (.inl (_, len, _)) => K L (.inl (.int (nI len)) :: st) M k n
    | _ => False
  | _ => False
theorem sd_alen {X : zMa} {own : String} {cc : ByteArray} {fr lo mc ms : Nat} {ret : Option FieldType} {ini : Bool} {Rt : Option zAV → zMp → Prop} (hC : zCx X own cc fr lo mc ms ret ini Rt) {pc : Nat} (hd : decode cc pc = .ok (.arraylength, 1)) {K : zKT} (hK : zLe K (zG X (pc + 1))) : zLe (i_alen K) (zG X pc) := by
  obtain ⟨p, l, e, R, s, m, args, below, meth, c, Q, nL, D, A, ad0, M0⟩ := X
  obtain ⟨hx, hb, hml, hown, hts, hKS, hSF, hA, hR, hQ, hret, hlk, hini⟩ := hC
  intro L st M k n h
  unfold i_alen at h
  split at h
  · next a st =>
    split at h
    · next ty len f hM =>
      intro ad H locs ls hH
      obtain ⟨cA, cell, h1, -, g1, g2, g3, g4, g5, g6⟩ := zat_any (hH.1.1 a _ hM)
      have h4 : cell.slots.size = len := by rw [g3, zvs]
      exact W.alen (n := Int32.ofNat len) hx hb g1 g6 (by rw [h4] <;> rfl) rfl rfl hd (hK L _ M k n h ad H locs ls (zHd_st hH (fun h => zsv_c trivial (zsv_t h))))
    · exact h.elim
  · exact h.elim
/-- new arrays of numbers -/
def z0 : FieldType → zAA
  | .long => .inr (.inl (fun _ => 0))
  | _ => .inl (fun _ => 0)
def i_newa (mc ms : Nat) (ty : FieldType) (K : zKT) : zKT := fun L st M k n => match st with
  | .inl (.int x) :: st => ∃ a : zNm, M a = none ∧ zmo a ∧ ¬ x < 0 ∧ x.toNatClampNeg ≤ 100000 ∧ k + 1 ≤ mc ∧ n + x.toNatClampNeg ≤ ms ∧ K L (.inr a :: st) (zup M a (.inl (ty, x.toNatClampNeg, z0 ty))) (k + 1) (n + x.toNatClampNeg)
  | _ => False
theorem zself (ad : zNm → Nat) (a : zNm) (q : Nat) : zua ad a q a = q := if_pos rfl
theorem sd_newa {X : zMa} {own : String} {cc : ByteArray} {fr lo mc ms : Nat} {ret : Option FieldType} {ini : Bool} {Rt : Option zAV → zMp → Prop} (hC : zCx X own cc fr lo mc ms ret ini Rt) {pc : Nat} {at0 : ArrayType} {ty : FieldType} (hty : newarray.typeOf at0 = ty) (hok : ty = .int ∨ ty = .long ∨ ty = .boolean) (harr : Cond.arrayClass ty ∈ tb) (hd : decode cc pc = .ok (.newarray at0, 2)) {K : zKT} (hK : zLe K (zG X (pc + 2))) : zLe (i_newa mc ms ty K) (zG X pc) := by
  obtain ⟨p, l, e, R, s, m, args, below, meth, c, Q, nL, D, A, ad0, M0⟩ := X
  obtain ⟨hx, hb, hml, hown, hts, hKS, hSF, hA, hR, hQ, hret, hlk, hini⟩ := hC
  subst hR
  intro L st M k n h
  unfold i_newa at h
  split at h
  · next x st =>
    obtain ⟨a, ha, hm, h0, hlen, hk1, hn1, h⟩ := h
    intro ad H locs ls hH
    subst hty
    refine va_newaK hx hb (hts _ harr) rfl hd rfl h0 rfl ?_ hk1 hn1 rfl fun H1 cA e1 z1 o1 hAr hNm => ?_
    · refine Nat.le_trans (Nat.mul_le_mul_right _ hlen) ?_
      rcases hok with e0 | e0 | e0 <;> rw [e0] <;> decide
    · have hcell : H1[H.size]? = some (vp_cell cA (x.toNatClampNeg, zca (zua ad a H.size) (z0 (newarray.typeOf at0)))) := by
        rw [e1]
        rcases hok with e0 | e0 | e0 <;> rw [e0] <;> rfl
      have hRA : va_RA s cA (newarray.typeOf at0) := by
        rcases hok with e0 | e0 | e0 <;> rw [e0] at hNm ⊢ <;> exact hNm
      have hr : ∀ n', ¬ zrf (.inl (newarray.typeOf at0, x.toNatClampNeg, z0 (newarray.typeOf at0))) n' := by
        rcases hok with e0 | e0 | e0 <;> rw [e0] <;> exact fun _ hn => hn
      have hg := hK L _ _ _ _ h _ H1 locs ls (zHd_new (st' := st) hH ha hm hA ⟨cA, hAr, Or.inl ⟨hRA, by rw [zself]; exact hcell⟩⟩ hr z1 o1 zsv_t)
      have hst : (Sum.inr a :: st).map (zcv (zua ad a H.size)) = Value.ref H.size :: st.map (zcv ad) := by
        rw [List.map_cons, zst_new ha (zsv_t hH.2.2.2.2.2)]
        simp only [zcv, zself]
      rw [hst] at hg
      exact hg
  · exact h.elim
/-- new objects -/
def i_new (mc ms ci N : Nat) (fs : List zAV) (K : zKT) : zKT := fun L st M k n => ∃ a : zNm, M a = none ∧ zmo a ∧ k + 1 ≤ mc ∧ n + N ≤ ms ∧ K L (.inr a :: st) (zup M a (.inr (ci, fs))) (k + 1) (n + N)
theorem sd_new {X : zMa} {own : String} {cc : ByteArray} {fr lo mc ms : Nat} {ret : Option FieldType} {ini : Bool} {Rt : Option zAV → zMp → Prop} (hC : zCx X own cc fr lo mc ms ret ini Rt) {pc : Nat} {ci ix N : Nat} {C : String} {T : u_T} {fs : List zAV} (hc : vwCl[ci]? = some (C, T, N)) (hin : ∀ w ∈ u_ws C T N, w ∈ tb) (ty0 : Nat → FieldType) (hty : ∀ k, k < N → parseFieldDescriptor (T k).2.2.1 = some (ty0 k)) (hcl : Cond.classLink own ix C ∈ tb) (hinst : Cond.instantiable C N ∈ tb) (hinit : Cond.initialized C ∈ tb) (hfs : ∀ j, j < N → some (Sum.inl (defaultValue (ty0 j))) = zfg fs j) (hnr : ∀ n : zNm, Sum.inr n ∉ fs) (hd : decode cc pc = .ok (.new ix, 3)) {K : zKT} (hK : zLe K (zG X (pc + 3))) : zLe (i_new mc ms ci N fs K) (zG X pc) := by
  obtain ⟨p, l, e, R, s, m, args, below, meth, c, Q, nL, D, A, ad0, M0⟩ := X
  obtain ⟨hx, hb, hml, hown, hts, hKS, hSF, hA, hR, hQ, hret, hlk, hini⟩ := hC
  subst hR
  intro L st M k n h
  obtain ⟨a, ha, hm, hk1, hn1, h⟩ := h
  intro ad H locs ls hH
  have hKn := hKS.1.1 ci _ hc
  refine W.newcK hx hb hown (hts _ hcl) (hts _ hinst) (hts _ hinit) rfl hd hk1 hn1 hKn.2.1 rfl fun H1 kC hkC e1 z1 o1 => ?_
  have hcell : t_OB H.size (D.1 ci) N (D.2 ci) H1 (vp_V (fs.map (zcv (zua ad a H.size)))) := (u_born ty0 hts hin hKn hkC e1 hty).to (fun j hj => by
    have h1 := hfs j hj
    rw [zfg_e] at h1
    simp only [vp_V, List.getD_eq_getElem?_getD, List.getElem?_map, ← h1]
    rfl)
  have hg := hK L _ _ _ _ h _ H1 locs ls (zHd_new (st' := st) hH ha hm hA ⟨_, hc, by rw [zself]; exact hcell⟩ (fun n' hn => hnr n' hn) z1 o1 id)
  have hst : (Sum.inr a :: st).map (zcv (zua ad a H.size)) = Value.ref H.size :: st.map (zcv ad) := by
    rw [List.map_cons, zst_new ha hH.2.2.2.2.2]
    simp only [zcv, zself]
  rw [hst] at hg
  exact hg
/-- new arrays of references -/
def i_anew (mc ms : Nat) (C : String) (K : zKT) : zKT := fun L st M k n => match st with
  | .inl (.int x) :: st => ∃ a : zNm, M a = none ∧ zmo a ∧ ¬ x < 0 ∧ x.toNatClampNeg ≤ 100000 ∧ k + 1 ≤ mc ∧ n + x.toNatClampNeg ≤ ms ∧ K L (.inr a :: st) (zup M a (.inl (.object C, x.toNatClampNeg, .inr (.inr (fun _ => none))))) (k + 1) (n + x.toNatClampNeg)
  | _ => False
theorem sd_anew {X : zMa} {own : String} {cc : ByteArray} {fr lo mc ms : Nat} {ret : Option FieldType} {ini : Bool} {Rt : Option zAV → zMp → Prop} (hC : zCx X own cc fr lo mc ms ret ini Rt) {pc : Nat} {ix : Nat} {C : String} (hcl : Cond.classLink own ix C ∈ tb) (hao : Cond.arrayOver (.object C) ∈ xw) (hd : decode cc pc = .ok (.anewarray ix, 3)) {K : zKT} (hK : zLe K (zG X (pc + 3))) : zLe (i_anew mc ms C K) (zG X pc) := by
  obtain ⟨p, l, e, R, s, m, args, below, meth, c, Q, nL, D, A, ad0, M0⟩ := X
  obtain ⟨hx, hb, hml, hown, hts, hKS, hSF, hA, hR, hQ, hret, hlk, hini⟩ := hC
  subst hR
  intro L st M k n h
  unfold i_anew at h
  split at h
  · next x st =>
    obtain ⟨a, ha, hm, h0, hlen, hk1, hn1, h⟩ := h
    intro ad H locs ls hH
    refine W.anew hx hb hown (hts _ hcl) (va_AO.use (va_AO.of (hKS.2.1 _ hao))) rfl hd rfl h0 (Nat.le_trans (Nat.mul_le_mul_right _ hlen) (by decide)) hk1 hn1 fun cA kA comp f1 f2 f3 f4 => ?_
    generalize hH1 : H.push ({ cls := cA, slots := Array.replicate x.toNatClampNeg .null, vm := .none } : Cell) = H1
    have z1 : H1.size = H.size + 1 := by rw [← hH1, Array.size_push]
    have e1 : H1[H.size]? = some (arrV cA x.toNatClampNeg (fun _ => .null)) := by rw [← hH1, Array.getElem?_push_size, ← arrV_new]
    have o1 : ∀ q : Nat, q < H.size → H1[q]? = H[q]? := fun q hq => by rw [← hH1, Array.getElem?_push, if_neg (Nat.ne_of_lt hq)]
    have hAr : ArrOfT s cA (.object C) := fun N z => ⟨(fun k h => by cases h), kA, f2, comp, f3⟩
    have hg := hK L _ _ _ _ h _ H1 locs ls (zHd_new (st' := st) hH ha hm hA ⟨cA, hAr, Or.inl ⟨⟨kA, comp, f2, f3, f4, f1⟩, by rw [zself]; exact e1⟩⟩ (fun n' hn => by obtain ⟨j, hj⟩ := hn; cases hj) z1 o1 zsv_t)
    have hst : (Sum.inr a :: st).map (zcv (zua ad a H.size)) = Value.ref H.size :: st.map (zcv ad) := by
      rw [List.map_cons, zst_new ha (zsv_t hH.2.2.2.2.2)]
      simp only [zcv, zself]
    rw [hst] at hg
    exact hg
  · exact h.elim
/-! casts -/
def i_cast (C : String) (K : zKT) : zKT := fun L st M k n => match st with
  | .inl .null :: st => K L (.inl .null :: st) M k n
  | .inr a :: st => zok M C (.inr a) ∧ K L (.inr a :: st) M k n
  | _ => False
theorem sd_cast {X : zMa} {own : String} {cc : ByteArray} {fr lo mc ms : Nat} {ret : Option FieldType} {ini : Bool} {Rt : Option zAV → zMp → Prop} (hC : zCx X own cc fr lo mc ms ret ini Rt) {pc : Nat} {ix : Nat} {C : String} (hcl : Cond.classLink own ix C ∈ tb) (hd : decode cc pc = .ok (.checkcast ix, 3)) {K : zKT} (hK : zLe K (zG X (pc + 3))) : zLe (i_cast C K) (zG X pc) := by
  obtain ⟨p, l, e, R, s, m, args, below, meth, c, Q, nL, D, A, ad0, M0⟩ := X
  obtain ⟨hx, hb, hml, hown, hts, hKS, hSF, hA, hR, hQ, hret, hlk, hini⟩ := hC
  intro L st M k n h
  unfold i_cast at h
  split at h
  · intro ad H locs ls hH
    exact lv_castN hx hb hd (hK L _ M k n h ad H locs ls hH)
  · next a st =>
    obtain ⟨hok, h⟩ := h
    intro ad H locs ls hH
    simp only [zok] at hok
    split at hok
    · next ci fs hMb =>
      unfold zcast at hok
      split at hok
      · next r hr =>
        obtain ⟨r', hr', cV, g1, g2, g3, -⟩ := hH.1.1 a _ hMb
        have hrr : r' = r := Option.some.inj (hr'.symm.trans hr)
        subst hrr
        have hcls := (hKS.1.1 ci r' hr).2
        have hcell : ∃ cell : Cell, H[ad a]? = some cell ∧ cell.vm.isStatics = false ∧ s.vm.findClass r'.1 = some cell.cls := ⟨cV, g1, by rw [g3]; rfl, by rw [g2]; exact hcls.1⟩
        have hg := hK L _ M k n h ad H locs ls hH
        rcases hok with e1 | e1
        · subst e1
          exact va_castS hx hb hown (hts _ hcl) hcls hcell hd hg
        · exact va_castY hx hb hown (hts _ hcl) (hKS.2.1 _ e1) hcell hd hg
      · exact hok.elim
    · exact hok.elim
  · exact h.elim
/-! Object.<init> -/
def zcs : List zAV → Nat
  | [] => 0
  | .inl v :: t => v.category + zcs t
  | .inr _ :: t => 1 + zcs t
theorem zcs_e (ad : zNm → Nat) : ∀ st : List zAV, ((st.map (zcv ad)).map fun v => v.category).sum = zcs st
  | [] => rfl
  | .inl v :: t => by simp only [List.map_cons, List.sum_cons, zcs, zcv]; rw [← zcs_e ad t]
  | .inr _ :: t => by simp only [List.map_cons, List.sum_cons, zcs, zcv]; rw [← zcs_e ad t]; rfl
def i_oi (K : zKT) : zKT := fun L st M k n => match st with
  | .inr _ :: st => zcs st ≤ 8 ∧ K L st M k n
  | _ => False
theorem sd_oi {X : zMa} {own : String} {cc : ByteArray} {fr lo mc ms : Nat} {ret : Option FieldType} {ini : Bool} {Rt : Option zAV → zMp → Prop} (hC : zCx X own cc fr lo mc ms ret ini Rt) {pc : Nat} {ix : Nat} (h1 : Cond.methodLink own ix objectInit ∈ tb) (h2 : Cond.instanceMethod objectInit ∈ tb) (h3 : Cond.code objectInit ⟨#[0xb1]⟩ 1 none ∈ tb) (hfr : 1 ≤ fr) (hlo : 20 ≤ lo) (hd : decode cc pc = .ok (.invokespecial ix, 3)) {K : zKT} (hK : zLe K (zG X (pc + 3))) : zLe (i_oi K) (zG X pc) := by
  obtain ⟨p, l, e, R, s, m, args, below, meth, c, Q, nL, D, A, ad0, M0⟩ := X
  obtain ⟨hx, hb, hml, hown, hts, hKS, hSF, hA, hR, hQ, hret, hlk, hini⟩ := hC
  subst hR
  intro L st M k n h
  unfold i_oi at h
  split at h
  · next a st =>
    obtain ⟨hcs, h⟩ := h
    intro ad H locs ls hH
    have hr := lv_room (m := m) (pc := pc) (ls := ls) (rest := Value.ref (ad a) :: st.map (zcv ad)) (st := st.map (zcv ad)) (by rw [zcs_e]; exact hcs)
    refine W.objInit hx hb hown (hts _ h1) (hts _ h2) (hts _ h3) rfl (by rw [hml]; exact hH.2.2.1.1) rfl hd hfr (Nat.le_trans (Nat.add_le_add_right hr 12) hlo) ?_
    exact hK L _ M k n h ad H locs ls (zHd_st hH zsv_t)
  · exact h.elim
/-! calls -/
def zsp : Nat → List zAV → List zAV → Option (List zAV × List zAV)
  | 0, acc, st => some (acc, st)
  | k + 1, acc, v :: st => zsp k (v :: acc) st
  | _ + 1, _, [] => none
theorem zsp_e : ∀ (k : Nat) (acc st As rest : List zAV), zsp k acc st = some (As, rest) → acc.reverse ++ st = As.reverse ++ rest ∧ As.length = acc.length + k
  | 0, acc, st, As, rest, h => by
    simp only [zsp, Option.some.injEq, Prod.mk.injEq] at h
    obtain ⟨rfl, rfl⟩ := h
    exact ⟨rfl, rfl⟩
  | k + 1, acc, v :: st, As, rest, h => by
    have h1 := zsp_e k (v :: acc) st As rest h
    refine ⟨?_, ?_⟩
    · rw [← h1.1]; simp
    · rw [h1.2]; simp; omega
  | _ + 1, _, [], _, _, h => by simp [zsp] at h
def zSpc : Type := (List zAV → zMp → (Option zAV → zMp → Prop) → Prop) × (List zAV → zMp → Nat × Nat)
def i_call (mc ms na : Nat) (T : List zAV → zMp → (Option zAV → zMp → Prop) → Prop) (co : List zAV → zMp → Nat × Nat) (K : zKT) : zKT := fun L st M k n => match zsp na [] st with
  | some (As, rest) => zcs rest ≤ 8 ∧ k + (co As M).1 ≤ mc ∧ n + (co As M).2 ≤ ms ∧ T As M (fun v M' => K L (v.toList ++ rest) M' (k + (co As M).1) (n + (co As M).2))
  | none => False
def zrc (ci : Nat) (As : List zAV) (M : zMp) : Prop := match As with
  | .inr b :: _ => (match M b with
    | some (.inr (cj, _)) => cj = ci
    | _ => False)
  | _ => False
/-- the receiver is an object of class ci -/
def i_callV (mc ms ci na : Nat) (T : List zAV → zMp → (Option zAV → zMp → Prop) → Prop) (co : List zAV → zMp → Nat × Nat) (K : zKT) : zKT := fun L st M k n => match zsp na [] st with
  | some (As, rest) => zrc ci As M ∧ zcs rest ≤ 8 ∧ k + (co As M).1 ≤ mc ∧ n + (co As M).2 ≤ ms ∧ T As M (fun v M' => K L (v.toList ++ rest) M' (k + (co As M).1) (n + (co As M).2))
  | none => False
theorem zPc_blind {D : va_G} {ad : zNm → Nat} {M : zMp} {sz : Nat} {As : List zAV} : FrameBlind (zPc D ad M sz As) := by
  intro a U g mk q
  obtain ⟨q0, q1, q2, q3, q4⟩ := q
  refine ⟨q0, q1, zWd_moved (s := U) (U := U.calling g mk a) (Vm.Alike.refl U.vm) q2, ⟨va_K.moved (u := U) (U := U.calling g mk a) (Vm.Alike.refl U.vm) q3.1, fun w hw => ?_, q3.2.2.imp fun _ hm => hm.moved (u := U) (U := U.calling g mk a) (Vm.Alike.refl U.vm)⟩, fun h => va_Z.moved (u := U) (U := U.calling g mk a) (Vm.Alike.refl U.vm) (q4 h)⟩
  have h1 := q3.2.1 w hw
  have h2 := (List.mem_filter.mp hw).2
  match w, h1, h2 with
  | .castable C T, h1, _ => exact va_Nw.same (w := .castable C T) rfl (u := U) (U := U.calling g mk a) rfl h1
  | .methodLinkNest a0 i x hst, h1, _ => exact va_Nw.same (w := .methodLinkNest a0 i x hst) rfl (u := U) (U := U.calling g mk a) rfl h1
  | .declares x, h1, _ => exact va_Nw.same (w := .declares x) rfl (u := U) (U := U.calling g mk a) rfl h1
  | .arrayOver (.object C), h1, _ => exact va_AO.moved (C := C) (u := U) (U := U.calling g mk a) (Vm.Alike.refl U.vm) h1
/-- the callee's start out of the caller's frame -/
theorem zPc_of {s U : State} {nL : Nat} {D : va_G} {A : Nat → Prop} {ad0 : zNm → Nat} {M0 : zMp} {ad : zNm → Nat} {H : Heap} {locs : List Loc} {ls : Array Slot} {L : List (Option zAV)} {st As : List zAV} {M : zMp} (hH : zHd s nL D A ad0 M0 ad H locs ls L st M) (hKS : zKS D s) (hSF : zSF ad0 M0 A s s.heap) (hA : ∀ q, s.heap.size ≤ q → A q) (hU : U.heap = H) (hW : s.WarmedH U.vm) : zPc D ad M H.size As ((As.map (zcv ad)).toArray) U := by
  obtain ⟨h1, h2, h3, h4, h5, h6⟩ := hH
  refine ⟨rfl, by rw [hU], ?_, zKS_warm hW hKS, fun hn => ?_⟩
  · rw [hU]
    exact zWd_moved hW.alike (zWd_weak (fun _ _ _ => trivial) h1)
  · have hm : ¬ zmo znE := by unfold zmo znE; decide
    have h0 := h4.2 znE hm hn
    have hz := hSF h0
    rw [← (h4.1 znE h0).2] at hz
    have hAA : ∀ q, zA0 ad M H.size q → A q := by
      intro q hq
      rcases hq with ⟨n, k1, k2, k3⟩ | hq
      · rw [← k3]; exact h1.2.2.1 n k1 k2
      · exact hA q (Nat.le_trans h2.1 hq)
    rw [hU]
    exact va_Z.moved hW.alike ((va_Z.kept hz (fun a k1 k2 => h2.2.1 a k1 k2)).narrow hAA)
theorem zrun_go {p : Program} {l : Launch} {e : Env} {R : Room} {s : State} {m : MethodId} {args : Array Value} {below : List Frame} {meth : Method} {c : Code} {Q : State → Prop} {nL : Nat} {D : va_G} {A : Nat → Prop} {ad0 : zNm → Nat} {M0 : zMp} {ad : zNm → Nat} {H : Heap} {locs : List Loc} {ls : Array Slot} {L : List (Option zAV)} {st rest : List zAV} {st0 : List Value} {M : zMp} {k n m1 m2 pc : Nat} {a : Array Value} {Rt : Option zAV → zMp → Prop}
    (hr : va_Run p l e R s m args below meth c H locs k n m1 m2 (F0 m pc ls st0) (rest.map (zcv ad)) (zAQ D (zA0 ad M H.size) ad M Rt a) (zA0 ad M H.size)) (hH : zHd s nL D A ad0 M0 ad H locs ls L st M) (hA : ∀ q, s.heap.size ≤ q → A q) (hrest : zsv M rest)
    (kk : ∀ v M', Rt v M' → zG (p, l, e, R, s, m, args, below, meth, c, Q, nL, D, A, ad0, M0) (pc + 3) L (v.toList ++ rest) M' (k + m1) (n + m2)) : W p l e R s m args below meth c H locs k n Q (F0 m pc ls st0) := by
  intro T hT X
  obtain ⟨v, st₀, t, T', Lc, h0, X', hL, e1, e2, ⟨⟨v', M', ad', hv, hRt, hEx, hWd, hal⟩, hz, hk⟩, st⟩ := hr T hT X
  have hv' : v = v'.map (zcv ad') := Outcome.returned.inj hv
  subst hv'
  rw [h0] at hz hk
  obtain ⟨h1, h2, h3, h4, h5, h6⟩ := hH
  have hAA : ∀ q, zA0 ad M H.size q → A q := by
    intro q hq
    rcases hq with ⟨n, k1, k2, k3⟩ | hq
    · rw [← k3]; exact h1.2.2.1 n k1 k2
    · exact hA q (Nat.le_trans h2.1 hq)
  have hcvE : ∀ x, zalv M x → zcv ad' x = zcv ad x := fun x hx => zcv_ext fun n0 en => (hEx.1 n0 (by rw [en] at hx; exact hx)).2
  have hlive : ∀ x, zalv M x → zalv M' x := by
    intro x hx
    cases x with
    | inl w => trivial
    | inr n0 => exact (hEx.1 n0 hx).1
  have hal2 : s.vm.Alike t.vm := by rw [← e2]; exact X'.warmed.alike
  have hH' : zHd s nL D A ad0 M0 ad' T'.heap (locs ++ Lc) ls L (v'.toList ++ rest) M' := by
    refine ⟨?_, ⟨Nat.le_trans h2.1 (by rw [e1]; exact hz), fun q q1 q2 => ?_, fun q hq => ?_⟩, ⟨h3.1, h3.2.1, fun j x hj => ?_⟩, ⟨fun n0 hn => ?_, fun n0 hn hn2 => ?_⟩, fun j x hj => hlive x (h5 j x hj), fun x hx => ?_⟩
    · rw [e1]
      exact zWd_weak (fun n0 hn hm => hAA _ (hWd.2.2.1 n0 hn hm)) (zWd_moved hal2.symm hWd)
    · rw [e1, hk q (Nat.lt_of_lt_of_le q1 h2.1) (fun z => q2 (hAA q z))]
      exact h2.2.1 q q1 q2
    · rcases List.mem_append.mp hq with hh | hh
      · exact h2.2.2 q hh
      · exact hAA _ (hL q hh)
    · rw [hcvE x (h5 j x hj)]
      exact h3.2.2 j x hj
    · have g1 := h4.1 n0 hn
      have g2 := hEx.1 n0 g1.1
      exact ⟨g2.1, g2.2.trans g1.2⟩
    · exact h4.2 n0 hn (hEx.2 n0 hn hn2)
    · rcases List.mem_append.mp hx with hh | hh
      · cases v' with
        | none => cases hh
        | some y =>
          have : x = y := by simpa using hh
          rw [this]
          exact hal y rfl
      · exact hlive x (hrest x hh)
  obtain ⟨t2, a1, b1⟩ := kk v' M' hRt ad' T'.heap (locs ++ Lc) ls hH' T' rfl X'
  refine ⟨t2, st t2 ?_, b1⟩
  have hs2 : (v'.toList ++ rest).map (zcv ad') = (v'.map (zcv ad')).toList ++ rest.map (zcv ad) := by
    rw [List.map_append]
    congr 1
    · cases v' <;> rfl
    · exact List.map_congr_left fun x hx => hcvE x (hrest x hx)
  rw [hs2] at a1
  exact a1
