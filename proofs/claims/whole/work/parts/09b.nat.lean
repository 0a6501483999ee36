theorem nt_1 : Cond.native arraycopyName ∈ tb := (tb_t 173 (by decide +kernel) (by decide +kernel))
theorem nt_2 : Cond.static arraycopyName ∈ tb := (tb_t 172 (by decide +kernel) (by decide +kernel))
theorem nt_3 : Cond.initialized "java/lang/System" ∈ tb := (tb_t 10 (by decide +kernel) (by decide +kernel))
/-! System.arraycopy of references -/
def i_acq (K : zKT) : zKT := fun L st M k n => match st with
  | .inl (.int len) :: .inl (.int dp) :: .inr a :: .inl (.int sp) :: .inr a0 :: st => (match M a0 with
    | some (.inl (ty0, n0, .inr (.inr f))) => (match M a with
      | some (.inl (ty1, n1, .inr (.inr g))) => ty0 = .object "java/lang/Object" ∧ ty1 = .object "java/lang/Object" ∧ zmo a ∧ ¬ sp < 0 ∧ ¬ dp < 0 ∧ ¬ len < 0 ∧ sp.toNatClampNeg + len.toNatClampNeg ≤ n0 ∧ dp.toNatClampNeg + len.toNatClampNeg ≤ n1 ∧ (∀ i, i < len.toNatClampNeg → ∀ y, f (sp.toNatClampNeg + i) = some y → zok M "java/lang/Object" (.inr y)) ∧ zcs st ≤ 8 ∧ K L st (zup M a (.inl (.object "java/lang/Object", n1, .inr (.inr (va_cpy f g sp.toNatClampNeg dp.toNatClampNeg len.toNatClampNeg))))) k n
      | _ => False)
    | _ => False)
  | _ => False
theorem zok_any {D : va_G} {s : State} {A : Nat → Prop} {ad : zNm → Nat} {M : zMp} {H : Heap} {C : String} {b : zNm} (hW : zWd D s A ad M H) (hKS : zKS D s) (h : zok M C (.inr b)) : ∃ cV : Cell, H[ad b]? = some cV ∧ (∀ q, cV.vm ≠ .statics q) ∧ (∃ kC : Class, s.vm.classes[cV.cls]? = some kC) ∧ ∀ comp : ClassId, s.vm.findClass C = some comp → s.vm.assignable cV.cls comp = true := by
  simp only [zok] at h
  split at h
  · next ci fs hMb =>
    unfold zcast at h
    split at h
    · next r hr =>
      obtain ⟨r', hr', cV, g1, g2, g3, -⟩ := hW.1 b _ hMb
      have hrr : r' = r := Option.some.inj (hr'.symm.trans hr)
      subst hrr
      have hcls := (hKS.1.1 ci r' hr).2
      obtain ⟨kC, hkC, -⟩ := id hcls.2
      refine ⟨cV, g1, (fun q hq => by rw [g3] at hq; cases hq), ⟨kC, by rw [g2]; exact hkC⟩, fun comp hc => ?_⟩
      rw [g2]
      rcases h with e1 | e1
      · have hcomp : comp = D.1 ci := Option.some.inj (hc.symm.trans (by rw [← e1]; exact hcls.1))
        rw [hcomp]
        exact va_assign hcls
      · obtain ⟨c0, t0, f1, f2, f3⟩ := Cond.castable_spec (hKS.2.1 _ e1)
        have e2 : c0 = D.1 ci := Option.some.inj (f1.symm.trans hcls.1)
        have e3 : t0 = comp := Option.some.inj (f2.symm.trans hc)
        rw [← e2, ← e3]
        exact f3
    · exact h.elim
  · exact h.elim
theorem znn : ∀ z : Int32, ¬ z < 0 → z.toInt = (z.toNatClampNeg : Int) := by
  intro z hz
  have hz0 : (0 : Int) ≤ z.toInt := by
    have := Int32.not_lt.mp hz
    simpa using Int32.le_iff_toInt_le.mp this
  show z.toInt = ((z.toInt.toNat : Nat) : Int)
  omega
theorem sd_acq {X : zMa} {own : String} {cc : ByteArray} {fr lo mc ms : Nat} {ret : Option FieldType} {ini : Bool} {Rt : Option zAV → zMp → Prop} (hC : zCx X own cc fr lo mc ms ret ini Rt) {pc : Nat} {ix : Nat} (hl : Cond.methodLink own ix arraycopyName ∈ tb) (hfr : 1 ≤ fr) (hlo : 8 + (nativeFrameWords "java/lang/System" "arraycopy" 5 + 11) ≤ lo) (hd : decode cc pc = .ok (.invokestatic ix, 3)) {K : zKT} (hK : zLe K (zG X (pc + 3))) : zLe (i_acq K) (zG X pc) := by
  obtain ⟨p, l, e, R, s, m, args, below, meth, c, Q, nL, D, A, ad0, M0⟩ := X
  obtain ⟨hx, hb, hml, hown, hts, hKS, hSF, hA, hR, hQ, hret, hlk, hini⟩ := hC
  subst hR
  intro L st M k n h
  unfold i_acq at h
  split at h
  · next len dp a sp a0 st =>
    split at h
    · next ty0 n0 f hM0 =>
      split at h
      · next ty1 n1 g hM1 =>
        obtain ⟨rfl, rfl, hmo, h1, h2, h3, h4, h5, hel, hcs, h⟩ := h
        intro ad H locs ls hH T hT X
        obtain ⟨c0, cs0, ar0, -, hc0, ec0, es0, eu0, et0, -⟩ := zat_any (hH.1.1 a0 _ hM0)
        obtain ⟨c1, ar1, ra1, hc1⟩ := zat_mo hmo (hH.1.1 a _ hM1)
        simp only [zca] at es0 hc1
        generalize hf' : (fun k => (f k).map ad) = f' at es0
        generalize hg' : (fun k => (g k).map ad) = g' at hc1
        obtain ⟨-, k0, hk0, cm0, hkk0⟩ := ar0 n0 (fun j => va_rf (f' j))
        obtain ⟨-, k1, hk1, cm1, hkk1⟩ := ar1 n1 (fun j => va_rf (g' j))
        obtain ⟨vm', X', step⟩ := X.arraycopy hx hown (hts _ hl) (hts _ nt_1) (hts _ nt_2) (hts _ nt_3) (src := ad a0) (dst := ad a) (cs := cs0) (cd := vp_cell c1 (n1, .inr (.inr (.inr (.inr g'))))) (srcPos := sp) (destPos := dp) (n := len) (by rw [hT]; exact hc0) (by rw [hT]; exact hc1)
          (fun _ h => by rw [h] at et0; cases et0) (fun _ h => by cases h) eu0 (fun h => by cases h) (by rw [ec0]; exact hk0) hk1 hkk0 hkk1 rfl h1 h2 h3
          (by rw [znn sp h1, znn len h3, es0]; show ¬ _ > ((arrV c0 n0 (fun j => va_rf (f' j))).slots.size : Int); rw [arrV_size]; omega)
          (by rw [znn dp h2, znn len h3]; show ¬ _ > ((arrV c1 n1 (fun j => va_rf (g' j))).slots.size : Int); rw [arrV_size]; omega)
          (fun vm₁ hal i hi => by
            have e : cs0.slots.getD (sp.toNatClampNeg + i) .null = va_rf (f' (sp.toNatClampNeg + i)) := by
              rw [es0]
              show (arrV c0 n0 (fun j => va_rf (f' j))).slots.getD _ _ = _
              rw [Array.getD_eq_getD_getElem?, arrV_read _ _ (by omega)]
              rfl
            rw [e]
            cases hy : f (sp.toNatClampNeg + i) with
            | none =>
              have : f' (sp.toNatClampNeg + i) = none := by rw [← hf']; simp [hy]
              rw [this]
              exact ⟨rfl, trivial⟩
            | some y =>
              have : f' (sp.toNatClampNeg + i) = some (ad y) := by rw [← hf']; simp [hy]
              rw [this]
              obtain ⟨cV, g1, g2, ⟨kC, hkC⟩, g4⟩ := zok_any hH.1 hKS (hel i hi y hy)
              obtain ⟨kA, comp, r1, r2, r3, -⟩ := ra1
              cases hk1.symm.trans r1
              cases hkk1.symm.trans r2
              obtain ⟨kE, hkE, -⟩ := Vm.findClass_spec r3
              obtain ⟨kC', hkC', -⟩ := hal.2.2 _ _ hkC
              obtain ⟨kE', hkE', -⟩ := hal.2.2 _ _ hkE
              refine ⟨rfl, cV, (show T.heap[ad y]? = some cV by rw [hT]; exact g1), g2, ⟨kC', hkC'⟩, ?_, ?_⟩
              · exact ⟨kE', hkE'⟩
              · show vm₁.assignable _ _ = true
                rw [hal.assignable]
                exact g4 _ r3)
          (g := F0 m pc ls (.int len :: .int dp :: .ref (ad a) :: .int sp :: .ref (ad a0) :: st.map (zcv ad))) rfl (by rw [hml]; exact hH.2.2.1.1) (rest := st.map (zcv ad)) rfl (by rw [hb]; exact hd) hfr (by show 2 * 0 + _ + _ ≤ lo; rw [zcs_e]; omega)
        have e0 : copied cs0 (vp_cell c1 (n1, .inr (.inr (.inr (.inr g'))))) sp dp len = copied (vp_cell c0 (n0, .inr (.inr (.inr (.inr f'))))) (vp_cell c1 (n1, .inr (.inr (.inr (.inr g'))))) sp dp len := by
          unfold copied Cell.stretch
          rw [es0]
        have e1 : copied (vp_cell c0 (n0, .inr (.inr (.inr (.inr f'))))) (vp_cell c1 (n1, .inr (.inr (.inr (.inr g'))))) sp dp len = vp_cell c1 (n1, .inr (.inr (.inr (.inr (va_cpy f' g' sp.toNatClampNeg dp.toNatClampNeg len.toNatClampNeg))))) := by
          rw [vp_cell_q, vp_cell_q, vp_cell_q]
          exact va_copied (fun z => va_rf z) c0 c1 f' g' h4
        rw [e0, e1] at X' step
        have hlt : ad a < H.size := (Array.getElem?_eq_some_iff.mp hc1).1
        have hheap : ((T.setVm vm').setCell (ad a) (vp_cell c1 (n1, .inr (.inr (.inr (.inr (va_cpy f' g' sp.toNatClampNeg dp.toNatClampNeg len.toNatClampNeg))))))).heap = H.setIfInBounds (ad a) (vp_cell c1 (n1, .inr (.inr (.inr (.inr (va_cpy f' g' sp.toNatClampNeg dp.toNatClampNeg len.toNatClampNeg)))))) := by rw [← hT]; rfl
        have oq : ∀ q : Nat, q ≠ ad a → (H.setIfInBounds (ad a) (vp_cell c1 (n1, .inr (.inr (.inr (.inr (va_cpy f' g' sp.toNatClampNeg dp.toNatClampNeg len.toNatClampNeg)))))))[q]? = H[q]? := fun q hq => by simp [Array.getElem?_setIfInBounds, Ne.symm hq]
        have hself : (H.setIfInBounds (ad a) (vp_cell c1 (n1, .inr (.inr (.inr (.inr (va_cpy f' g' sp.toNatClampNeg dp.toNatClampNeg len.toNatClampNeg)))))))[ad a]? = some (vp_cell c1 (n1, .inr (.inr (.inr (.inr (va_cpy f' g' sp.toNatClampNeg dp.toNatClampNeg len.toNatClampNeg)))))) := by simp [Array.getElem?_setIfInBounds, hlt]
        have hcp : (fun k => (va_cpy f g sp.toNatClampNeg dp.toNatClampNeg len.toNatClampNeg k).map ad) = va_cpy f' g' sp.toNatClampNeg dp.toNatClampNeg len.toNatClampNeg := by
          funext j
          unfold va_cpy
          rw [← hf', ← hg']
          split <;> rfl
        have hA' : A (ad a) := hH.1.2.2.1 a (zne hM1) hmo
        obtain ⟨p1, p2, p3, p4, p5, p6⟩ := hH
        have hr' : ∀ n', zrf (.inl (.object "java/lang/Object", n1, .inr (.inr (va_cpy f g sp.toNatClampNeg dp.toNatClampNeg len.toNatClampNeg)))) n' → M n' ≠ none := by
          rintro n' ⟨j, hj⟩
          unfold va_cpy at hj
          split at hj
          · exact p1.2.2.2 a0 _ hM0 n' ⟨_, hj⟩
          · exact p1.2.2.2 a _ hM1 n' ⟨_, hj⟩
        obtain ⟨t, a1, b1⟩ := hK L st _ k n h ad _ _ ls ⟨zWd_put (H1 := H.setIfInBounds (ad a) (vp_cell c1 (n1, .inr (.inr (.inr (.inr (va_cpy f' g' sp.toNatClampNeg dp.toNatClampNeg len.toNatClampNeg))))))) p1 hM1 ⟨c1, ar1, Or.inl ⟨ra1, by simp only [zca]; rw [hcp]; exact hself⟩⟩ hr' oq, ⟨by simp; exact p2.1, fun q g1 g2 => by
            rw [oq q (fun e => g2 (by rw [e]; exact hA'))]
            exact p2.2.1 q g1 g2, fun q hq => by
            rcases List.mem_append.mp hq with h | h
            · exact p2.2.2 q h
            · obtain ⟨z, -, hz⟩ := List.mem_map.mp h
              rw [← hz]
              exact hA'⟩, p3, ⟨fun n hn => ⟨zup_ne (p4.1 n hn).1, (p4.1 n hn).2⟩, fun n hn hn2 => p4.2 n hn (zup_in hM1 hn2)⟩, fun k v hv => zalv_up (p5 k v hv), fun v hv => zalv_up (p6 v (by simp [hv]))⟩ _ hheap X'
        exact ⟨t, step t a1, b1⟩
      · exact h.elim
    · exact h.elim
  · exact h.elim
/-! the static empty array; references compared -/
def i_gsE (K : zKT) : zKT := fun L st M k n => M znE ≠ none ∧ K L (.inr znE :: st) M k n
theorem sd_gsE {X : zMa} {own : String} {cc : ByteArray} {fr lo mc ms : Nat} {ret : Option FieldType} {ini : Bool} {Rt : Option zAV → zMp → Prop} (hC : zCx X own cc fr lo mc ms ret ini Rt) {pc : Nat} {ix : Nat} (hown' : own = "java/util/ArrayList") (hl : Cond.fieldLink own ix "java/util/ArrayList" "DEFAULTCAPACITY_EMPTY_ELEMENTDATA" "[Ljava/lang/Object;" ∈ tb) (hd : decode cc pc = .ok (.getstatic ix, 3)) {K : zKT} (hK : zLe K (zG X (pc + 3))) : zLe (i_gsE K) (zG X pc) := by
  obtain ⟨p, l, e, R, s, m, args, below, meth, c, Q, nL, D, A, ad0, M0⟩ := X
  obtain ⟨hx, hb, hml, hown, hts, hKS, hSF, hA, hR, hQ, hret, hlk, hini⟩ := hC
  intro L st M k n h
  obtain ⟨hz, h⟩ := h
  intro ad H locs ls hH
  have hm : ¬ zmo znE := by unfold zmo znE; decide
  have h0 := hH.2.2.2.1.2 znE hm hz
  have hZ := hSF h0
  rw [← (hH.2.2.2.1.1 znE h0).2] at hZ
  exact va_gets hx hb hZ hH.2.1 hown (hts _ hl) (fun _ h => h) hd (hK L _ M k n h ad H locs ls (zHd_st hH (fun h => zsv_c hz h)))
def i_aceq (Kt Kf : zKT) : zKT := fun L st M k n => match st with
  | .inr b :: .inr a :: st => (a = b → Kt L st M k n) ∧ (¬ a = b → Kf L st M k n)
  | _ => False
theorem sd_aceq {X : zMa} {own : String} {cc : ByteArray} {fr lo mc ms : Nat} {ret : Option FieldType} {ini : Bool} {Rt : Option zAV → zMp → Prop} (hC : zCx X own cc fr lo mc ms ret ini Rt) {pc : Nat} {off : Int} {tgt : Nat} (ht : (pc : Int) + off = (tgt : Int)) (hd : decode cc pc = .ok (.if_acmp .eq off, 3)) {Kt Kf : zKT} (hKt : zLe Kt (zG X tgt)) (hKf : zLe Kf (zG X (pc + 3))) : zLe (i_aceq Kt Kf) (zG X pc) := by
  obtain ⟨p, l, e, R, s, m, args, below, meth, c, Q, nL, D, A, ad0, M0⟩ := X
  obtain ⟨hx, hb, hml, hown, hts, hKS, hSF, hA, hR, hQ, hret, hlk, hini⟩ := hC
  intro L st M k n h
  unfold i_aceq at h
  split at h
  · next b a st =>
    obtain ⟨h1, h2⟩ := h
    intro ad H locs ls hH
    have la : M a ≠ none := zsv_h (zsv_t hH.2.2.2.2.2)
    have lb : M b ≠ none := zsv_h hH.2.2.2.2.2
    exact lv_acmp_eq (rx := some (ad a)) (ry := some (ad b)) hx hb hd ht (fun q => hKt L _ M k n (h1 (hH.1.2.1 a b la lb (Option.some.inj q))) ad H locs ls (zHd_st hH (fun h => zsv_t (zsv_t h)))) (fun q => hKf L _ M k n (h2 (fun z => q (by rw [z]))) ad H locs ls (zHd_st hH (fun h => zsv_t (zsv_t h))))
  · exact h.elim
/-! raw references: class objects -/
def i_alr (i : Nat) (K : zKT) : zKT := fun L st M k n => match zlg L i with
  | some (.inl (.ref x)) => K L (.inl (.ref x) :: st) M k n
  | _ => False
theorem sd_alr_n {X : zMa} {own : String} {cc : ByteArray} {fr lo mc ms : Nat} {ret : Option FieldType} {ini : Bool} {Rt : Option zAV → zMp → Prop} (hC : zCx X own cc fr lo mc ms ret ini Rt) {pc : Nat} {j : Fin 4} {i : Nat} (hi : (j : Nat) = i) (hd : decode cc pc = .ok (.aload_n j, 1)) {K : zKT} (hK : zLe K (zG X (pc + 1))) : zLe (i_alr i K) (zG X pc) := by
  obtain ⟨p, l, e, R, s, m, args, below, meth, c, Q, nL, D, A, ad0, M0⟩ := X
  obtain ⟨hx, hb, hml, hown, hts, hKS, hSF, hA, hR, hQ, hret, hlk, hini⟩ := hC
  intro L st M k n h
  unfold i_alr at h
  split at h
  · next x he =>
    intro ad H locs ls hH
    exact lv_aload_n hx hb hd hi (hH.2.2.1.2.2 _ _ he) (hK L _ M k n h ad H locs ls (zHd_st hH (fun h => zsv_c trivial h)))
  · exact h.elim
def zS (X : zMa) : State := match X with
  | (_, _, _, _, s, _, _, _, _, _, _, _, _, _, _, _) => s
def i_mir (mi : Nat) (K : zKT) : zKT := fun L st M k n => K L (.inl (.ref mi) :: st) M k n
theorem sd_mir {X : zMa} {own : String} {cc : ByteArray} {fr lo mc ms : Nat} {ret : Option FieldType} {ini : Bool} {Rt : Option zAV → zMp → Prop} (hC : zCx X own cc fr lo mc ms ret ini Rt) {pc : Nat} {ix mi : Nat} (hM : va_Mi "[Ljava/lang/Object;" mi (zS X)) (hl : Cond.classLink own ix "[Ljava/lang/Object;" ∈ tb) (hd : decode cc pc = .ok (.ldc ix, 2)) {K : zKT} (hK : zLe K (zG X (pc + 2))) : zLe (i_mir mi K) (zG X pc) := by
  obtain ⟨p, l, e, R, s, m, args, below, meth, c, Q, nL, D, A, ad0, M0⟩ := X
  obtain ⟨hx, hb, hml, hown, hts, hKS, hSF, hA, hR, hQ, hret, hlk, hini⟩ := hC
  intro L st M k n h ad H locs ls hH
  exact va_ldcM hx hb hown (hts _ hl) hM hd (hK L _ M k n h ad H locs ls (zHd_st hH (fun h => zsv_c trivial h)))
def i_acnR (Kt Kf : zKT) : zKT := fun L st M k n => match st with
  | .inl (.ref y) :: .inl (.ref x) :: st => (¬ x = y → Kt L st M k n) ∧ (x = y → Kf L st M k n)
  | _ => False
theorem sd_acnR {X : zMa} {own : String} {cc : ByteArray} {fr lo mc ms : Nat} {ret : Option FieldType} {ini : Bool} {Rt : Option zAV → zMp → Prop} (hC : zCx X own cc fr lo mc ms ret ini Rt) {pc : Nat} {off : Int} {tgt : Nat} (ht : (pc : Int) + off = (tgt : Int)) (hd : decode cc pc = .ok (.if_acmp .ne off, 3)) {Kt Kf : zKT} (hKt : zLe Kt (zG X tgt)) (hKf : zLe Kf (zG X (pc + 3))) : zLe (i_acnR Kt Kf) (zG X pc) := by
  obtain ⟨p, l, e, R, s, m, args, below, meth, c, Q, nL, D, A, ad0, M0⟩ := X
  obtain ⟨hx, hb, hml, hown, hts, hKS, hSF, hA, hR, hQ, hret, hlk, hini⟩ := hC
  intro L st M k n h
  unfold i_acnR at h
  split at h
  · next y x st =>
    obtain ⟨h1, h2⟩ := h
    intro ad H locs ls hH
    exact lv_acmp_ne (rx := some x) (ry := some y) hx hb hd ht (fun q => hKt L _ M k n (h1 (fun z => q (by rw [z]))) ad H locs ls (zHd_st hH (fun h => zsv_t (zsv_t h)))) (fun q => hKf L _ M k n (h2 (Option.some.inj q)) ad H locs ls (zHd_st hH (fun h => zsv_t (zsv_t h))))
  · exact h.elim
