theorem gc_1 : Cond.declares ⟨"java/lang/Object", "getClass", "()Ljava/lang/Class;"⟩ ∈ xw := (xw_t 944 (by decide +kernel) (by decide +kernel))
theorem gc_2 : Cond.selects "[Ljava/lang/Object;" ⟨"java/lang/Object", "getClass", "()Ljava/lang/Class;"⟩ ⟨"java/lang/Object", "getClass", "()Ljava/lang/Class;"⟩ ∈ tb := (tb_t 943 (by decide +kernel) (by decide +kernel))
theorem gc_3 : Cond.instanceMethod ⟨"java/lang/Object", "getClass", "()Ljava/lang/Class;"⟩ ∈ tb := (tb_t 322 (by decide +kernel) (by decide +kernel))
theorem gc_4 : Cond.native ⟨"java/lang/Object", "getClass", "()Ljava/lang/Class;"⟩ ∈ tb := (tb_t 333 (by decide +kernel) (by decide +kernel))
def zPm (D : va_G) (ad : zNm → Nat) (M : zMp) (sz : Nat) (As : List zAV) (mi : Nat) : Array Value → State → Prop := fun v U => zPc D ad M sz As v U ∧ va_Mi "[Ljava/lang/Object;" mi U
def zMetM (l : Launch) (y : MethodName) (bytes : ByteArray) (maxL : Nat) (ret : Option FieldType) (fr lo : Nat) (As : List zAV) (M : zMp) (mc ms : Nat) (Rt : Option zAV → zMp → Prop) (mi : Nat) : Prop :=
  ∀ (D : va_G) (ad : zNm → Nat) (sz : Nat), (∀ a ∈ As, zalv M a) → Met l y (Cond.code y bytes maxL ret :: tb) { frames := fr, cells := mc, slots := ms, locals := lo } (zPm D ad M sz As mi) (zAQ D (zA0 ad M sz) ad M Rt) mc ms (zA0 ad M sz)
theorem zMetM_of {l : Launch} {y : MethodName} {bytes : ByteArray} {maxL : Nat} {ret : Option FieldType} {fr lo : Nat} {As : List zAV} {M : zMp} {mc ms : Nat} {Rt : Option zAV → zMp → Prop} {mi : Nat} (hy : plainName y.cls = true) (hlen : (zen As).length ≤ maxL)
    (body : ∀ X, zNL X = maxL → zCx X y.cls bytes fr lo mc ms ret false Rt → va_Mi "[Ljava/lang/Object;" mi (zS X) → zG X 0 (zeL maxL As) [] M 0 0) : zMetM l y bytes maxL ret fr lo As M mc ms Rt mi := by
  intro D ad sz hargs
  refine Met.ofW (cc := bytes) (maxL := maxL) (ret := ret) hy rfl ?_
  intro p e s m args below meth c s₁ B hml hv
  obtain ⟨⟨rfl, hsz, hWd, hKS, hSF⟩, hmi⟩ := hv
  subst hsz
  have hts := atoms_spec (ws := Cond.code y bytes maxL ret :: tb) B.pre
  have hg := body (p, l, e, (headSpec (Cond.code y bytes maxL ret :: tb) { frames := fr, cells := mc, slots := ms, locals := lo }).room, s, m, (As.map (zcv ad)).toArray, below, meth, c, MQ below (zAQ D (zA0 ad M s.heap.size) ad M Rt) (As.map (zcv ad)).toArray s mc ms (zA0 ad M s.heap.size), maxL, D, zA0 ad M s.heap.size, ad, M) rfl
    ⟨B.exec, B.bytes, hml, findClass_of_methodNamed B.named, fun w hw => hts w (List.mem_cons_of_mem _ hw), hKS, hSF, fun q h => Or.inr h, rfl, rfl, B.returns, B.notSynchronized, fun h => by cases h⟩ hmi
  have hl := lv_entry (As.map (zcv ad)) (n := maxL) (by rw [zen_len]; exact hlen)
  rw [lg_entry_eq]
  refine hg ad s.heap [] _ ⟨zWd_weak (fun n hn hm => zmo_A hn hm) hWd, va_S.rf, ⟨hl.1, hl.2.1, fun k v hk => ?_⟩, ⟨fun n hn => ⟨hn, rfl⟩, fun n _ hn => hn⟩, fun k v hk => zen_live As hargs k v (zlg_rep _ _ k v hk), fun v hv => by cases hv⟩
  have h1 := zen_args ad As 0 k v (zlg_rep _ _ k v hk)
  rw [Nat.zero_add] at h1
  exact hl.2.2 _ h1
def i_gcp (mc ms : Nat) (T : List zAV → zMp → (Option zAV → zMp → Prop) → Prop) (co : List zAV → zMp → Nat × Nat) (K : zKT) : zKT := fun L st M k n => match st with
  | .inr d :: .inl (.int x) :: .inr d0 :: st => (match M d with
    | some (.inl (ty, _, _)) => ty = .object "java/lang/Object" ∧ zcs st ≤ 6 ∧ ∀ mi : Nat, k + (co [.inr d0, .inl (.int x), .inl (.ref mi)] M).1 ≤ mc ∧ n + (co [.inr d0, .inl (.int x), .inl (.ref mi)] M).2 ≤ ms ∧ T [.inr d0, .inl (.int x), .inl (.ref mi)] M (fun v M' => K L (v.toList ++ st) M' (k + (co [.inr d0, .inl (.int x), .inl (.ref mi)] M).1) (n + (co [.inr d0, .inl (.int x), .inl (.ref mi)] M).2))
    | _ => False)
  | _ => False
theorem sd_gcp {X : zMa} {own : String} {cc : ByteArray} {fr lo mc ms : Nat} {ret : Option FieldType} {ini : Bool} {Rt : Option zAV → zMp → Prop} (hC : zCx X own cc fr lo mc ms ret ini Rt) {pc : Nat} {y : MethodName} {bytes : ByteArray} {maxL ix ix2 fr' lo' : Nat} {rt' : Option FieldType} {T : List zAV → zMp → (Option zAV → zMp → Prop) → Prop} {co : List zAV → zMp → Nat × Nat} (hT : ∀ l d0 x mi M Rt', T [.inr d0, .inl (.int x), .inl (.ref mi)] M Rt' → zMetM l y bytes maxL rt' fr' lo' [.inr d0, .inl (.int x), .inl (.ref mi)] M (co [.inr d0, .inl (.int x), .inl (.ref mi)] M).1 (co [.inr d0, .inl (.int x), .inl (.ref mi)] M).2 Rt' mi) (hY : zYS y bytes maxL rt' 3) (hl0 : Cond.methodLink own ix ⟨"java/lang/Object", "getClass", "()Ljava/lang/Class;"⟩ ∈ tb) (hl : Cond.methodLink own ix2 y ∈ tb) (hfr : fr' + 1 ≤ fr) (hlo : 8 + (maxL + 11) + lo' ≤ lo) (hlo2 : 22 ≤ lo) (hd : decode cc pc = .ok (.invokevirtual ix, 3)) (hd2 : decode cc (pc + 3) = .ok (.invokestatic ix2, 3)) {K : zKT} (hK : zLe K (zG X (pc + 3 + 3))) : zLe (i_gcp mc ms T co K) (zG X pc) := by
  obtain ⟨p, l, e, R, s, m, args, below, meth, c, Q, nL, D, A, ad0, M0⟩ := X
  obtain ⟨hx, hb, hml, hown, hts, hKS, hSF, hA, hR, hQ, hret, hlk, hini⟩ := hC
  subst hR
  intro L st M k n h
  unfold i_gcp at h
  split at h
  · next d x d0 st =>
    split at h
    · next ty len f hM =>
      obtain ⟨rfl, hcs, h⟩ := h
      obtain ⟨y1, y3, y4, y5, y6, y7⟩ := hY
      intro ad H locs ls hH
      obtain ⟨mi, hmi⟩ := hKS.2.2
      obtain ⟨hk1, hn1, h⟩ := h mi
      obtain ⟨cA, cell, ar, ra, hc, ec, es, eu, et, -⟩ := zat_any (hH.1.1 d _ hM)
      have hcs2 : (((Sum.inl (Value.int x) :: Sum.inr d0 :: st : List zAV).map (zcv ad)).map fun v => v.category).sum = 1 + (1 + zcs st) := by rw [zcs_e]; rfl
      refine va_getC hx hb (by rw [hml]; exact hH.2.2.1.1.symm) hown (hts _ hl0) (va_Dc.use (va_Dc.of (hKS.2.1 _ gc_1))) (hts _ gc_2) (hts _ gc_3) (hts _ gc_4) hmi ⟨_, hc, et, ?_⟩ (Nat.le_trans (Nat.le_add_left 1 _) hfr) (by show _ ≤ lo; rw [hcs2]; omega) hd ?_
      · rw [ec]
        exact va_nmO (ra (by intro z; cases z)) rfl
      · have hsv := hH.2.2.2.2.2
        have l0 : zalv M (.inr d0) := zsv_h (zsv_t (zsv_t hsv))
        have lst : zsv M st := zsv_t (zsv_t (zsv_t hsv))
        have hargs : ∀ a ∈ ([.inr d0, .inl (.int x), .inl (.ref mi)] : List zAV), zalv M a := by
          intro a ha
          simp only [List.mem_cons, List.not_mem_nil, or_false] at ha
          rcases ha with rfl | rfl | rfl
          · exact l0
          · trivial
          · trivial
        have hM2 := hT l d0 x mi M _ h D ad H.size hargs
        have hbl : FrameBlind (zPm D ad M H.size [.inr d0, .inl (.int x), .inl (.ref mi)] mi) := fun a U g mk q => ⟨zPc_blind _ _ _ _ q.1, q.2.moved (u := U) (U := U.calling g mk a) (Vm.Alike.refl U.vm)⟩
        exact zrun_go (st := st) (rest := st) (va_runS (As := ([.inr d0, .inl (.int x), .inl (.ref mi)] : List zAV).map (zcv ad)) (rest := st.map (zcv ad)) ⟨hx, hb, hml, hown, hts⟩ hM2 (va_cwS 3 hts (zgoodS hl y1 y3 y4) rfl rfl rfl ⟨y5, y6, y7⟩ ⟨hfr, hlo⟩) ⟨hbl, fun U hU hW => ⟨zPc_of (As := [.inr d0, .inl (.int x), .inl (.ref mi)]) hH hKS hSF hA hU hW, hmi.moved hW.alike⟩⟩ rfl rfl hH.2.2.1.1 rfl (lv_room (by rw [zcs_e]; omega)) hd2 ⟨hk1, hn1⟩) (zHd_st hH (fun _ => lst)) hA lst (fun v M' hq => hK _ _ _ _ _ hq)
    · exact h.elim
  · exact h.elim
