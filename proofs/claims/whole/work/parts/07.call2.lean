theorem zsv_app {M : zMp} {a b : List zAV} (h : zsv M (a ++ b)) : zsv M a ∧ zsv M b := ⟨fun v hv => h v (List.mem_append_left _ hv), fun v hv => h v (List.mem_append_right _ hv)⟩
theorem zgoodV {own : String} {ix : Nat} {y : MethodName} {w : Cond} (h1 : Cond.methodLink own ix y ∈ tb) (h2 : Cond.instanceMethod y ∈ tb) (h3 : Cond.selects y.cls y y ∈ tb) (h4 : Cond.initialized y.cls ∈ tb) (h5 : w ∈ tb) : GoodIn tb (wsV own ix y.cls y (w :: tb)) := by
  have key : ∀ w' ∈ wsV own ix y.cls y (w :: tb), w' ∈ tb := by
    intro w' hw
    unfold wsV at hw
    rcases List.mem_append.mp hw with hw | hw
    · simp only [List.mem_cons, List.not_mem_nil, or_false] at hw
      rcases hw with rfl | rfl | rfl | rfl
      · exact h1
      · exact h2
      · exact h3
      · exact h4
    · rcases List.mem_cons.mp hw with rfl | hw
      · exact h5
      · exact hw
  exact fun w' hw => ⟨key w' hw, good_of_word (List.mem_filter.mp (key w' hw)).2⟩
theorem zgoodS {own : String} {ix : Nat} {y : MethodName} {w : Cond} (h1 : Cond.methodLink own ix y ∈ tb) (h2 : Cond.static y ∈ tb) (h4 : Cond.initialized y.cls ∈ tb) (h5 : w ∈ tb) : GoodIn tb (va_wsS own ix y (w :: tb)) := by
  have key : ∀ w' ∈ va_wsS own ix y (w :: tb), w' ∈ tb := by
    intro w' hw
    unfold va_wsS at hw
    rcases List.mem_append.mp hw with hw | hw
    · simp only [List.mem_cons, List.not_mem_nil, or_false] at hw
      rcases hw with rfl | rfl | rfl
      · exact h1
      · exact h2
      · exact h4
    · rcases List.mem_cons.mp hw with rfl | hw
      · exact h5
      · exact hw
  exact fun w' hw => ⟨key w' hw, good_of_word (List.mem_filter.mp (key w' hw)).2⟩
theorem zgoodI {w : Cond} (h5 : w ∈ tb) : GoodIn tb (w :: tb) := by
  have key : ∀ w' ∈ w :: tb, w' ∈ tb := fun w' hw => (List.mem_cons.mp hw).elim (fun e => e ▸ h5) id
  exact fun w' hw => ⟨key w' hw, good_of_word (List.mem_filter.mp (key w' hw)).2⟩
/-- a virtual call (its words: zYV) -/
def zYV (y : MethodName) (bytes : ByteArray) (maxL : Nat) (rt' : Option FieldType) (na : Nat) : Prop := Cond.instanceMethod y ∈ tb ∧ Cond.selects y.cls y y ∈ tb ∧ Cond.initialized y.cls ∈ tb ∧ Cond.code y bytes maxL rt' ∈ tb ∧ y.cls ≠ "java/lang/invoke/MethodHandle" ∧ y.cls ≠ "java/lang/invoke/VarHandle" ∧ (parseMethodDescriptor y.desc).map (fun d => d.parameters.length + 1) = some na
theorem sd_cV {X : zMa} {own : String} {cc : ByteArray} {fr lo mc ms : Nat} {ret : Option FieldType} {ini : Bool} {Rt : Option zAV → zMp → Prop} (hC : zCx X own cc fr lo mc ms ret ini Rt) {pc : Nat} {y : MethodName} {bytes : ByteArray} {maxL ix na fr' lo' : Nat} {rt' : Option FieldType} {T : List zAV → zMp → (Option zAV → zMp → Prop) → Prop} {co : List zAV → zMp → Nat × Nat} {ci : Nat} {r : vw_C} (hT : ∀ l, zCT l y bytes maxL rt' fr' lo' T co) (hY : zYV y bytes maxL rt' na) (hc : vwCl[ci]? = some r) (hr : r.1 = y.cls) (hl : Cond.methodLink own ix y ∈ tb) (hfr : fr' + 1 ≤ fr) (hlo : 8 + (maxL + 11) + lo' ≤ lo) (hd : decode cc pc = .ok (.invokevirtual ix, 3)) {K : zKT} (hK : zLe K (zG X (pc + 3))) : zLe (i_callV mc ms ci na T co K) (zG X pc) := by
  obtain ⟨p, l, e, R, s, m, args, below, meth, c, Q, nL, D, A, ad0, M0⟩ := X
  obtain ⟨hx, hb, hml, hown, hts, hKS, hSF, hA, hR, hQ, hret, hlk, hini⟩ := hC
  subst hR
  intro L st M k n h
  unfold i_callV at h
  split at h
  · next As rest hsp =>
    obtain ⟨hrc, hcs, hk1, hn1, h⟩ := h
    obtain ⟨y1, y2, y3, y4, y5, y6, y7⟩ := hY
    obtain ⟨s1, s2⟩ := zsp_e na [] st As rest hsp
    simp only [List.reverse_nil, List.nil_append] at s1
    subst s1
    intro ad H locs ls hH
    unfold zrc at hrc
    split at hrc
    · next b As' =>
      split at hrc
      · next cj fs hMb =>
        subst hrc
        have hlen : na = As'.length + 1 := by simpa using s2.symm
        have hsv := zsv_app hH.2.2.2.2.2
        have hargs : ∀ a ∈ (Sum.inr b :: As' : List zAV), zalv M a := fun a ha => hsv.1 a (List.mem_reverse.mpr ha)
        have hM := hT l _ M _ h D ad H.size hargs
        have hcell : ∃ cellB : Cell, H[ad b]? = some cellB ∧ cellB.vm.isStatics = false ∧ s.vm.findClass y.cls = some cellB.cls := by
          obtain ⟨r', hr', cV, g1, g2, g3, -⟩ := hH.1.1 b _ hMb
          have hcls := (hKS.1.1 cj r hc).2
          exact ⟨cV, g1, by rw [g3]; rfl, by rw [g2, ← hr]; exact hcls.1⟩
        refine zrun_go (st := (Sum.inr b :: As').reverse ++ rest) (rest := rest) (va_runV (b := ad b) (As := As'.map (zcv ad)) (rest := rest.map (zcv ad)) ⟨hx, hb, hml, hown, hts⟩ hM (cwV (C := y.cls) As'.length hts (zgoodV hl y1 y2 y3 y4) rfl rfl rfl ⟨rfl, y5, y6, ?_⟩ ⟨hfr, hlo⟩) ⟨zPc_blind, hcell, fun U hU hW => zPc_of (As := Sum.inr b :: As') hH hKS hSF hA hU hW⟩ rfl (by simp) hH.2.2.1.1 ?_ (lv_room (by rw [zcs_e]; exact hcs)) hd ⟨hk1, hn1⟩) hH hA hsv.2 (fun v M' hq => hK _ _ _ _ _ hq)
        · rw [hlen] at y7
          cases hp : parseMethodDescriptor y.desc with
          | none => rw [hp] at y7; simp at y7
          | some d =>
            rw [hp] at y7
            simp at y7 ⊢
            exact y7
        · simp [List.map_append, List.map_reverse, zcv]
      · exact hrc.elim
    · exact hrc.elim
  · exact h.elim
/-- a static call -/
def zYS (y : MethodName) (bytes : ByteArray) (maxL : Nat) (rt' : Option FieldType) (na : Nat) : Prop := Cond.static y ∈ tb ∧ Cond.initialized y.cls ∈ tb ∧ Cond.code y bytes maxL rt' ∈ tb ∧ y.cls ≠ "java/lang/invoke/MethodHandle" ∧ y.cls ≠ "java/lang/invoke/VarHandle" ∧ (parseMethodDescriptor y.desc).map (fun d => d.parameters.length) = some na
theorem sd_cS {X : zMa} {own : String} {cc : ByteArray} {fr lo mc ms : Nat} {ret : Option FieldType} {ini : Bool} {Rt : Option zAV → zMp → Prop} (hC : zCx X own cc fr lo mc ms ret ini Rt) {pc : Nat} {y : MethodName} {bytes : ByteArray} {maxL ix na fr' lo' : Nat} {rt' : Option FieldType} {T : List zAV → zMp → (Option zAV → zMp → Prop) → Prop} {co : List zAV → zMp → Nat × Nat} (hT : ∀ l, zCT l y bytes maxL rt' fr' lo' T co) (hY : zYS y bytes maxL rt' na) (hl : Cond.methodLink own ix y ∈ tb) (hfr : fr' + 1 ≤ fr) (hlo : 8 + (maxL + 11) + lo' ≤ lo) (hd : decode cc pc = .ok (.invokestatic ix, 3)) {K : zKT} (hK : zLe K (zG X (pc + 3))) : zLe (i_call mc ms na T co K) (zG X pc) := by
  obtain ⟨p, l, e, R, s, m, args, below, meth, c, Q, nL, D, A, ad0, M0⟩ := X
  obtain ⟨hx, hb, hml, hown, hts, hKS, hSF, hA, hR, hQ, hret, hlk, hini⟩ := hC
  subst hR
  intro L st M k n h
  unfold i_call at h
  split at h
  · next As rest hsp =>
    obtain ⟨hcs, hk1, hn1, h⟩ := h
    obtain ⟨y1, y3, y4, y5, y6, y7⟩ := hY
    obtain ⟨s1, s2⟩ := zsp_e na [] st As rest hsp
    simp only [List.reverse_nil, List.nil_append] at s1
    subst s1
    intro ad H locs ls hH
    have hlen : As.length = na := by simpa using s2
    have hsv := zsv_app hH.2.2.2.2.2
    have hargs : ∀ a ∈ As, zalv M a := fun a ha => hsv.1 a (List.mem_reverse.mpr ha)
    have hM := hT l _ M _ h D ad H.size hargs
    exact zrun_go (st := As.reverse ++ rest) (rest := rest) (va_runS (As := As.map (zcv ad)) (rest := rest.map (zcv ad)) ⟨hx, hb, hml, hown, hts⟩ hM (va_cwS na hts (zgoodS hl y1 y3 y4) rfl rfl rfl ⟨y5, y6, y7⟩ ⟨hfr, hlo⟩) ⟨zPc_blind, fun U hU hW => zPc_of (As := As) hH hKS hSF hA hU hW⟩ rfl (by rw [List.length_map]; exact hlen) hH.2.2.1.1 (by simp [List.map_append, List.map_reverse]) (lv_room (by rw [zcs_e]; exact hcs)) hd ⟨hk1, hn1⟩) hH hA hsv.2 (fun v M' hq => hK _ _ _ _ _ hq)
  · exact h.elim
/-- a constructor's call -/
def zisn : List zAV → Prop
  | .inr _ :: _ => True
  | _ => False
def i_callI (mc ms na : Nat) (T : List zAV → zMp → (Option zAV → zMp → Prop) → Prop) (co : List zAV → zMp → Nat × Nat) (K : zKT) : zKT := fun L st M k n => match zsp na [] st with
  | some (As, rest) => zisn As ∧ zcs rest ≤ 8 ∧ k + (co As M).1 ≤ mc ∧ n + (co As M).2 ≤ ms ∧ T As M (fun v M' => K L (v.toList ++ rest) M' (k + (co As M).1) (n + (co As M).2))
  | none => False
def zYI (y : MethodName) (bytes : ByteArray) (maxL : Nat) (na : Nat) : Prop := y.name = "<init>" ∧ Cond.instanceMethod y ∈ tb ∧ Cond.initialized y.cls ∈ tb ∧ Cond.code y bytes maxL none ∈ tb ∧ y.cls ≠ "java/lang/invoke/MethodHandle" ∧ y.cls ≠ "java/lang/invoke/VarHandle" ∧ (parseMethodDescriptor y.desc).map (fun d => d.parameters.length + 1) = some na

theorem sd_cI {X : zMa} {own : String} {cc : ByteArray} {fr lo mc ms : Nat} {ret : Option FieldType} {ini : Bool} {Rt : Option zAV → zMp → Prop} (hC : zCx X own cc fr lo mc ms ret ini Rt) {pc : Nat} {y : MethodName} {bytes : ByteArray} {maxL ix na fr' lo' : Nat} {T : List zAV → zMp → (Option zAV → zMp → Prop) → Prop} {co : List zAV → zMp → Nat × Nat} (hT : ∀ l, zCT l y bytes maxL none fr' lo' T co) (hY : zYI y bytes maxL na) (hl : Cond.methodLink own ix y ∈ tb) (hfr : fr' + 1 ≤ fr) (hlo : 8 + (maxL + 11) + lo' ≤ lo) (hd : decode cc pc = .ok (.invokespecial ix, 3)) {K : zKT} (hK : zLe K (zG X (pc + 3))) : zLe (i_callI mc ms na T co K) (zG X pc) := by
  obtain ⟨p, l, e, R, s, m, args, below, meth, c, Q, nL, D, A, ad0, M0⟩ := X
  obtain ⟨hx, hb, hml, hown, hts, hKS, hSF, hA, hR, hQ, hret, hlk, hini⟩ := hC
  subst hR
  intro L st M k n h
  unfold i_callI at h
  split at h
  · next As rest hsp =>
    obtain ⟨hrc, hcs, hk1, hn1, h⟩ := h
    obtain ⟨y0, y1, y3, y4, y5, y6, y7⟩ := hY
    obtain ⟨s1, s2⟩ := zsp_e na [] st As rest hsp
    simp only [List.reverse_nil, List.nil_append] at s1
    subst s1
    intro ad H locs ls hH
    have hd0 : ∃ d, parseMethodDescriptor y.desc = some d ∧ d.parameters.length + 1 = na := by
      cases hp : parseMethodDescriptor y.desc with
      | none => rw [hp] at y7; simp at y7
      | some d => rw [hp] at y7; simp at y7; exact ⟨d, rfl, y7⟩
    obtain ⟨d, hpd, hdl⟩ := hd0
    unfold zisn at hrc
    split at hrc
    · next b As' =>
      have hlen : na = As'.length + 1 := by simpa using s2.symm
      have hy7 : (parseMethodDescriptor y.desc).map (fun d => d.parameters.length) = some As'.length := by rw [hpd]; simp; omega
      have hsv := zsv_app hH.2.2.2.2.2
      have hargs : ∀ a ∈ (Sum.inr b :: As' : List zAV), zalv M a := fun a ha => hsv.1 a (List.mem_reverse.mpr ha)
      have hM := hT l _ M _ h D ad H.size hargs
      exact zrun_go (st := (Sum.inr b :: As').reverse ++ rest) (rest := rest) (va_runI (b := ad b) (As := As'.map (zcv ad)) (rest := rest.map (zcv ad)) ⟨hx, hb, hml, hown, hts⟩ hM (cwI As'.length hts (zgoodI y4) rfl rfl rfl (hts _ y3) (hts _ hl) (hts _ y1) y0 ⟨y5, y6, hy7⟩ ⟨hfr, hlo⟩) ⟨zPc_blind, fun U hU hW => zPc_of (As := Sum.inr b :: As') hH hKS hSF hA hU hW⟩ rfl (by simp) hH.2.2.1.1 (by simp [List.map_append, List.map_reverse, zcv]) (lv_room (by rw [zcs_e]; exact hcs)) hd ⟨hk1, hn1⟩) hH hA hsv.2 (fun v M' hq => hK _ _ _ _ _ hq)
    · exact hrc.elim
  · exact h.elim

theorem sd_cIN {X : zMa} {own : String} {cc : ByteArray} {fr lo mc ms : Nat} {ret : Option FieldType} {ini : Bool} {Rt : Option zAV → zMp → Prop} (hC : zCx X own cc fr lo mc ms ret ini Rt) {pc : Nat} {y : MethodName} {bytes : ByteArray} {maxL ix na fr' lo' : Nat} {T : List zAV → zMp → (Option zAV → zMp → Prop) → Prop} {co : List zAV → zMp → Nat × Nat} {host : String} (hT : ∀ l, zCT l y bytes maxL none fr' lo' T co) (hY : zYI y bytes maxL na) (hl : Cond.methodLinkNest own ix y host ∈ xw) (hfr : fr' + 1 ≤ fr) (hlo : 8 + (maxL + 11) + lo' ≤ lo) (hd : decode cc pc = .ok (.invokespecial ix, 3)) {K : zKT} (hK : zLe K (zG X (pc + 3))) : zLe (i_callI mc ms na T co K) (zG X pc) := by
  obtain ⟨p, l, e, R, s, m, args, below, meth, c, Q, nL, D, A, ad0, M0⟩ := X
  obtain ⟨hx, hb, hml, hown, hts, hKS, hSF, hA, hR, hQ, hret, hlk, hini⟩ := hC
  subst hR
  intro L st M k n h
  unfold i_callI at h
  split at h
  · next As rest hsp =>
    obtain ⟨hrc, hcs, hk1, hn1, h⟩ := h
    obtain ⟨y0, y1, y3, y4, y5, y6, y7⟩ := hY
    obtain ⟨s1, s2⟩ := zsp_e na [] st As rest hsp
    simp only [List.reverse_nil, List.nil_append] at s1
    subst s1
    intro ad H locs ls hH
    have hd0 : ∃ d, parseMethodDescriptor y.desc = some d ∧ d.parameters.length + 1 = na := by
      cases hp : parseMethodDescriptor y.desc with
      | none => rw [hp] at y7; simp at y7
      | some d => rw [hp] at y7; simp at y7; exact ⟨d, rfl, y7⟩
    obtain ⟨d, hpd, hdl⟩ := hd0
    unfold zisn at hrc
    split at hrc
    · next b As' =>
      have hlen : na = As'.length + 1 := by simpa using s2.symm
      have hy7 : (parseMethodDescriptor y.desc).map (fun d => d.parameters.length) = some As'.length := by rw [hpd]; simp; omega
      have hsv := zsv_app hH.2.2.2.2.2
      have hargs : ∀ a ∈ (Sum.inr b :: As' : List zAV), zalv M a := fun a ha => hsv.1 a (List.mem_reverse.mpr ha)
      have hM := hT l _ M _ h D ad H.size hargs
      exact zrun_go (st := (Sum.inr b :: As').reverse ++ rest) (rest := rest) (va_runIN (b := ad b) (As := As'.map (zcv ad)) (rest := rest.map (zcv ad)) ⟨hx, hb, hml, hown, hts⟩ hM (⟨va_cnB As'.length hts (zgoodI y4) rfl rfl rfl (hKS.2.1 _ hl) (hts _ y3) ⟨y5, y6, hy7⟩ ⟨hfr, hlo⟩, y0, hts _ y1⟩) ⟨zPc_blind, fun U hU hW => zPc_of (As := Sum.inr b :: As') hH hKS hSF hA hU hW⟩ rfl (by simp) hH.2.2.1.1 (by simp [List.map_append, List.map_reverse, zcv]) (lv_room (by rw [zcs_e]; exact hcs)) hd ⟨hk1, hn1⟩) hH hA hsv.2 (fun v M' hq => hK _ _ _ _ _ hq)
    · exact hrc.elim
  · exact h.elim
