def i_iret (mc ms : Nat) (Rt : Option zAV → zMp → Prop) : zKT := fun _ st M k n => match st with
  | [.inl (.int x)] => k ≤ mc ∧ n ≤ ms ∧ Rt (some (.inl (.int x))) M
  | _ => False
theorem sd_iret {X : zMa} {own : String} {cc : ByteArray} {fr lo mc ms : Nat} {ini : Bool} {Rt : Option zAV → zMp → Prop} (hC : zCx X own cc fr lo mc ms (some .int) ini Rt) {pc : Nat} (hd : decode cc pc = .ok (.ireturn, 1)) : zLe (i_iret mc ms Rt) (zG X pc) := by
  obtain ⟨p, l, e, R, s, m, args, below, meth, c, Q, nL, D, A, ad0, M0⟩ := X
  obtain ⟨hx, hb, hml, hown, hts, hKS, hSF, hA, hR, hQ, hret, hlk, hini⟩ := hC
  subst hQ
  intro L st M k n h
  unfold i_iret at h
  split at h
  · obtain ⟨h1, h2, hq⟩ := h
    intro ad H locs ls hH
    refine W.widen h1 h2 ?_
    exact W.iret hx hb hret (fun t ht hW => ⟨⟨_, M, ad, rfl, hq, hH.2.2.2.1, zWd_moved hW.alike (by rw [ht]; exact hH.1), fun x hx => by cases hx <;> first | trivial | exact zsv_h hH.2.2.2.2.2⟩, hH.2.1.F ht⟩) hH.2.1.2.2 hd hlk
  · exact h.elim

def i_zret (mc ms : Nat) (Rt : Option zAV → zMp → Prop) : zKT := fun _ st M k n => match st with
  | [.inl (.int x)] => (x = 0 ∨ x = 1) ∧ k ≤ mc ∧ n ≤ ms ∧ Rt (some (.inl (.int x))) M
  | _ => False
theorem sd_zret {X : zMa} {own : String} {cc : ByteArray} {fr lo mc ms : Nat} {ini : Bool} {Rt : Option zAV → zMp → Prop} (hC : zCx X own cc fr lo mc ms (some .boolean) ini Rt) {pc : Nat} (hd : decode cc pc = .ok (.ireturn, 1)) : zLe (i_zret mc ms Rt) (zG X pc) := by
  obtain ⟨p, l, e, R, s, m, args, below, meth, c, Q, nL, D, A, ad0, M0⟩ := X
  obtain ⟨hx, hb, hml, hown, hts, hKS, hSF, hA, hR, hQ, hret, hlk, hini⟩ := hC
  subst hQ
  intro L st M k n h
  unfold i_zret at h
  split at h
  · obtain ⟨hb01, h1, h2, hq⟩ := h
    intro ad H locs ls hH
    refine W.widen h1 h2 ?_
    exact W.zret hx hb hret (by rcases hb01 with h0 | h0 <;> subst h0 <;> rfl) (fun t ht hW => ⟨⟨_, M, ad, rfl, hq, hH.2.2.2.1, zWd_moved hW.alike (by rw [ht]; exact hH.1), fun x hx => by cases hx <;> first | trivial | exact zsv_h hH.2.2.2.2.2⟩, hH.2.1.F ht⟩) hH.2.1.2.2 hd hlk
  · exact h.elim

def i_lret (mc ms : Nat) (Rt : Option zAV → zMp → Prop) : zKT := fun _ st M k n => match st with
  | [.inl (.long x)] => k ≤ mc ∧ n ≤ ms ∧ Rt (some (.inl (.long x))) M
  | _ => False
theorem sd_lret {X : zMa} {own : String} {cc : ByteArray} {fr lo mc ms : Nat} {ini : Bool} {Rt : Option zAV → zMp → Prop} (hC : zCx X own cc fr lo mc ms (some .long) ini Rt) {pc : Nat} (hd : decode cc pc = .ok (.lreturn, 1)) : zLe (i_lret mc ms Rt) (zG X pc) := by
  obtain ⟨p, l, e, R, s, m, args, below, meth, c, Q, nL, D, A, ad0, M0⟩ := X
  obtain ⟨hx, hb, hml, hown, hts, hKS, hSF, hA, hR, hQ, hret, hlk, hini⟩ := hC
  subst hQ
  intro L st M k n h
  unfold i_lret at h
  split at h
  · obtain ⟨h1, h2, hq⟩ := h
    intro ad H locs ls hH
    refine W.widen h1 h2 ?_
    exact W.lret hx hb hret (fun t ht hW => ⟨⟨_, M, ad, rfl, hq, hH.2.2.2.1, zWd_moved hW.alike (by rw [ht]; exact hH.1), fun x hx => by cases hx <;> first | trivial | exact zsv_h hH.2.2.2.2.2⟩, hH.2.1.F ht⟩) hH.2.1.2.2 hd hlk
  · exact h.elim

def i_vret (mc ms : Nat) (Rt : Option zAV → zMp → Prop) : zKT := fun _ st M k n => match st with
  | [] => k ≤ mc ∧ n ≤ ms ∧ Rt (none) M
  | _ => False
theorem sd_vret {X : zMa} {own : String} {cc : ByteArray} {fr lo mc ms : Nat} {ini : Bool} {Rt : Option zAV → zMp → Prop} (hC : zCx X own cc fr lo mc ms (none) ini Rt) {pc : Nat} (hd : decode cc pc = .ok (.return_, 1)) : zLe (i_vret mc ms Rt) (zG X pc) := by
  obtain ⟨p, l, e, R, s, m, args, below, meth, c, Q, nL, D, A, ad0, M0⟩ := X
  obtain ⟨hx, hb, hml, hown, hts, hKS, hSF, hA, hR, hQ, hret, hlk, hini⟩ := hC
  subst hQ
  intro L st M k n h
  unfold i_vret at h
  split at h
  · obtain ⟨h1, h2, hq⟩ := h
    intro ad H locs ls hH
    refine W.widen h1 h2 ?_
    exact W.vret hx hb hret (fun t ht hW => ⟨⟨_, M, ad, rfl, hq, hH.2.2.2.1, zWd_moved hW.alike (by rw [ht]; exact hH.1), fun x hx => by cases hx <;> first | trivial | exact zsv_h hH.2.2.2.2.2⟩, hH.2.1.F ht⟩) hH.2.1.2.2 hd hlk
  · exact h.elim

def i_aret (mc ms : Nat) (Rt : Option zAV → zMp → Prop) : zKT := fun _ st M k n => match st with
  | [.inr a] => k ≤ mc ∧ n ≤ ms ∧ Rt (some (.inr a)) M
  | [.inl .null] => k ≤ mc ∧ n ≤ ms ∧ Rt (some (.inl .null)) M
  | _ => False
theorem sd_aret {X : zMa} {own : String} {cc : ByteArray} {fr lo mc ms : Nat} {rt0 : FieldType} {ini : Bool} {Rt : Option zAV → zMp → Prop} (hC : zCx X own cc fr lo mc ms (some rt0) ini Rt) {pc : Nat} (hrt : (∃ n, rt0 = .object n) ∨ ∃ t, rt0 = .array t) (hd : decode cc pc = .ok (.areturn, 1)) : zLe (i_aret mc ms Rt) (zG X pc) := by
  obtain ⟨p, l, e, R, s, m, args, below, meth, c, Q, nL, D, A, ad0, M0⟩ := X
  obtain ⟨hx, hb, hml, hown, hts, hKS, hSF, hA, hR, hQ, hret, hlk, hini⟩ := hC
  subst hQ
  intro L st M k n h
  unfold i_aret at h
  split at h
  · next a =>
    obtain ⟨h1, h2, hq⟩ := h
    intro ad H locs ls hH
    refine W.widen h1 h2 ?_
    exact W.aret hx hb hret hrt (Or.inr ⟨_, rfl⟩) (fun t ht hW => ⟨⟨some (.inr a), M, ad, rfl, hq, hH.2.2.2.1, zWd_moved hW.alike (by rw [ht]; exact hH.1), fun x hx => by cases hx; exact zsv_h hH.2.2.2.2.2⟩, hH.2.1.F ht⟩) hH.2.1.2.2 hd hlk
  · obtain ⟨h1, h2, hq⟩ := h
    intro ad H locs ls hH
    refine W.widen h1 h2 ?_
    exact W.aret hx hb hret hrt (Or.inl rfl) (fun t ht hW => ⟨⟨some (.inl .null), M, ad, rfl, hq, hH.2.2.2.1, zWd_moved hW.alike (by rw [ht]; exact hH.1), fun x hx => by cases hx; trivial⟩, hH.2.1.F ht⟩) hH.2.1.2.2 hd hlk
  · exact h.elim
/-! switches -/
def zsw (x : Int32) : List (Int32 × zKT) → zKT → zKT
  | [], d => d
  | (v, K) :: r, d => fun L st M k n => (x = v → K L st M k n) ∧ (¬ x = v → zsw x r d L st M k n)
def i_sw (cs : List (Int32 × zKT)) (d : zKT) : zKT := fun L st M k n => match st with
  | .inl (.int x) :: st => zsw x cs d L st M k n
  | _ => False
theorem zsw_e {x : Int32} {d : zKT} {X : zMa} {jump : Int32 → Nat → Prop} {dt : Nat} (hd : zLe d (zG X dt)) : ∀ (cs : List (Int32 × zKT)) (ts : List Nat), ts.length = cs.length → (∀ q ∈ cs.zip ts, jump q.1.1 q.2 ∧ zLe q.1.2 (zG X q.2)) → ((∀ q ∈ cs, x ≠ q.1) → jump x dt) → ∀ L st M k n, zsw x cs d L st M k n → ∃ t, jump x t ∧ zG X t L st M k n
  | [], ts, hl, h1, h2, L, st, M, k, n, h => ⟨dt, h2 (fun q hq => by cases hq), hd _ _ _ _ _ h⟩
  | (v, K) :: cs, t :: ts, hl, h1, h2, L, st, M, k, n, h => by
    by_cases hx : x = v
    · have h3 := h1 ((v, K), t) List.mem_cons_self
      exact ⟨t, by rw [hx]; exact h3.1, h3.2 _ _ _ _ _ (h.1 hx)⟩
    · exact zsw_e hd cs ts (by simpa using hl) (fun q hq => h1 q (List.mem_cons_of_mem _ hq)) (fun h3 => h2 (fun q hq => by
        rcases List.mem_cons.mp hq with rfl | hq
        · exact hx
        · exact h3 q hq)) L st M k n (h.2 hx)
  | _ :: _, [], hl, _, _, _, _, _, _, _, _ => by simp at hl
def zjT (pc : Nat) (df lo hi : Int) (offs : Array Int) (x : Int32) (t : Nat) : Prop := ((x.toInt < lo ∨ hi < x.toInt) ∧ (pc : Int) + df = t) ∨ (¬ x.toInt < lo ∧ ¬ hi < x.toInt ∧ ∃ off, offs[(x.toInt - lo).toNat]? = some off ∧ (pc : Int) + off = t)
theorem sd_tsw {X : zMa} {own : String} {cc : ByteArray} {fr lo mc ms : Nat} {ret : Option FieldType} {ini : Bool} {Rt : Option zAV → zMp → Prop} (hC : zCx X own cc fr lo mc ms ret ini Rt) {pc : Nat} {df lo0 hi : Int} {offs : Array Int} {len dt : Nat} (hd : decode cc pc = .ok (.tableswitch df lo0 hi offs, len)) {cs : List (Int32 × zKT)} {d : zKT} (hdt : zLe d (zG X dt)) (ts : List Nat) (hl : ts.length = cs.length) (h1 : ∀ q ∈ cs.zip ts, zjT pc df lo0 hi offs q.1.1 q.2 ∧ zLe q.1.2 (zG X q.2)) (h2 : ∀ x : Int32, (∀ q ∈ cs, x ≠ q.1) → zjT pc df lo0 hi offs x dt) : zLe (i_sw cs d) (zG X pc) := by
  obtain ⟨p, l, e, R, s, m, args, below, meth, c, Q, nL, D, A, ad0, M0⟩ := X
  obtain ⟨hx, hb, hml, hown, hts, hKS, hSF, hA, hR, hQ, hret, hlk, hini⟩ := hC
  intro L st M k n h
  unfold i_sw at h
  split at h
  · next x st =>
    obtain ⟨t, hj, hg⟩ := zsw_e hdt cs ts hl h1 (h2 x) L st M k n h
    intro ad H locs ls hH
    have hg := hg ad H locs ls (zHd_st hH zsv_t)
    rcases hj with ⟨j1, j2⟩ | ⟨j1, j2, off, j3, j4⟩
    · exact lv_tableOut hx hb hd j1 j2 hg
    · exact lv_tableIn hx hb hd j1 j2 j3 j4 hg
  · exact h.elim
def zjL (pc : Nat) (df : Int) (ps : Array (Int × Int)) (x : Int32) (t : Nat) : Prop := (pc : Int) + Op.lookupswitch.offset ps.toList df x.toInt = t
theorem sd_lsw {X : zMa} {own : String} {cc : ByteArray} {fr lo mc ms : Nat} {ret : Option FieldType} {ini : Bool} {Rt : Option zAV → zMp → Prop} (hC : zCx X own cc fr lo mc ms ret ini Rt) {pc : Nat} {df : Int} {ps : Array (Int × Int)} {len dt : Nat} (hd : decode cc pc = .ok (.lookupswitch df ps, len)) (hp : (ps.toList.zip (ps.toList.drop 1)).all (fun (a, next) => a.1 < next.1) = true) {cs : List (Int32 × zKT)} {d : zKT} (hdt : zLe d (zG X dt)) (ts : List Nat) (hl : ts.length = cs.length) (h1 : ∀ q ∈ cs.zip ts, zjL pc df ps q.1.1 q.2 ∧ zLe q.1.2 (zG X q.2)) (h2 : ∀ x : Int32, (∀ q ∈ cs, x ≠ q.1) → zjL pc df ps x dt) : zLe (i_sw cs d) (zG X pc) := by
  obtain ⟨p, l, e, R, s, m, args, below, meth, c, Q, nL, D, A, ad0, M0⟩ := X
  obtain ⟨hx, hb, hml, hown, hts, hKS, hSF, hA, hR, hQ, hret, hlk, hini⟩ := hC
  intro L st M k n h
  unfold i_sw at h
  split at h
  · next x st =>
    obtain ⟨t, hj, hg⟩ := zsw_e hdt cs ts hl h1 (h2 x) L st M k n h
    intro ad H locs ls hH
    exact lv_lookup hx hb hd hp rfl hj (hg ad H locs ls (zHd_st hH zsv_t))
  · exact h.elim
theorem zne_i {x v : Int32} {z : Int} (h : x ≠ v) (hv : v.toInt = z) : x.toInt ≠ z := fun q => h (Int32.toInt_inj.mp (by rw [hv]; exact q))
/-! the entry -/
def zeL (nL : Nat) (As : List zAV) : List (Option zAV) := zen As ++ List.replicate (nL - (zen As).length) none
theorem zlg_rep : ∀ (L : List (Option zAV)) (j k : Nat) (v : zAV), zlg (L ++ List.replicate j none) k = some v → zlg L k = some v
  | [], 0, k, v, h => by simp [zlg] at h
  | [], j + 1, 0, v, h => by simp [List.replicate_succ, zlg] at h
  | [], j + 1, k + 1, v, h => zlg_rep [] j k v (by simpa [List.replicate_succ, zlg] using h)
  | x :: L, j, 0, v, h => h
  | x :: L, j, k + 1, v, h => zlg_rep L j k v h
theorem zcat_e (ad : zNm → Nat) (a : zAV) : zcat a = (zcv ad a).category := by cases a <;> rfl
theorem zen_args (ad : zNm → Nat) : ∀ (As : List zAV) (i k : Nat) (v : zAV), zlg (zen As) k = some v → (i + k, zcv ad v) ∈ lv_args i (As.map (zcv ad))
  | [], i, k, v, h => by simp [zen, zlg] at h
  | a :: As, i, k, v, h => by
    simp only [zen, zcat_e ad] at h
    simp only [List.map_cons, lv_args]
    split at h
    · next hc =>
      rw [if_pos hc]
      match k, h with
      | 0, h => cases h; exact List.mem_cons_self
      | 1, h => simp [zlg] at h
      | k + 2, h => exact List.mem_cons_of_mem _ (by have := zen_args ad As (i + 2) k v h; rwa [show i + 2 + k = i + (k + 2) by omega] at this)
    · next hc =>
      rw [if_neg hc]
      match k, h with
      | 0, h => cases h; exact List.mem_cons_self
      | k + 1, h => exact List.mem_cons_of_mem _ (by have := zen_args ad As (i + 1) k v h; rwa [show i + 1 + k = i + (k + 1) by omega] at this)
theorem zen_len (ad : zNm → Nat) : ∀ As : List zAV, (lg_sl (As.map (zcv ad))).length = (zen As).length
  | [] => rfl
  | a :: As => by
    have ih := zen_len ad As
    simp only [lg_sl] at ih
    simp only [List.map_cons, lg_sl, List.flatMap_cons, List.length_append, zen, zcat_e ad, ih]
    split <;> simp <;> omega
theorem zen_live {M : zMp} : ∀ As : List zAV, (∀ a ∈ As, zalv M a) → ∀ k v, zlg (zen As) k = some v → zalv M v
  | [], _, k, v, h => by simp [zen, zlg] at h
  | a :: As, ha, k, v, h => by
    simp only [zen] at h
    have h1 := ha a List.mem_cons_self
    have h2 : ∀ a ∈ As, zalv M a := fun b hb => ha b (List.mem_cons_of_mem _ hb)
    split at h
    · match k, h with
      | 0, h => cases h; exact h1
      | 1, h => simp [zlg] at h
      | k + 2, h => exact zen_live As h2 k v h
    · match k, h with
      | 0, h => cases h; exact h1
      | k + 1, h => exact zen_live As h2 k v h
theorem zMet_of {l : Launch} {y : MethodName} {bytes : ByteArray} {maxL : Nat} {ret : Option FieldType} {fr lo : Nat} {As : List zAV} {M : zMp} {mc ms : Nat} {Rt : Option zAV → zMp → Prop} (ini : Bool) (hy : plainName y.cls = true) (hi : ini = true → y.name = "<init>") (hlen : (zen As).length ≤ maxL)
    (body : ∀ X, zNL X = maxL → zCx X y.cls bytes fr lo mc ms ret ini Rt → zG X 0 (zeL maxL As) [] M 0 0) : zMet l y bytes maxL ret fr lo As M mc ms Rt := by
  intro D ad sz hargs
  refine Met.ofW (cc := bytes) (maxL := maxL) (ret := ret) hy rfl ?_
  intro p e s m args below meth c s₁ B hml hv
  obtain ⟨rfl, hsz, hWd, hKS, hSF⟩ := hv
  subst hsz
  have hts := atoms_spec (ws := Cond.code y bytes maxL ret :: tb) B.pre
  have hg := body (p, l, e, (headSpec (Cond.code y bytes maxL ret :: tb) { frames := fr, cells := mc, slots := ms, locals := lo }).room, s, m, (As.map (zcv ad)).toArray, below, meth, c, MQ below (zAQ D (zA0 ad M s.heap.size) ad M Rt) (As.map (zcv ad)).toArray s mc ms (zA0 ad M s.heap.size), maxL, D, zA0 ad M s.heap.size, ad, M) rfl
    ⟨B.exec, B.bytes, hml, findClass_of_methodNamed B.named, fun w hw => hts w (List.mem_cons_of_mem _ hw), hKS, hSF, fun q h => Or.inr h, rfl, rfl, B.returns, B.notSynchronized, fun h => ((name_of_methodNamed B.named B.method).1).trans (hi h)⟩
  have hl := lv_entry (As.map (zcv ad)) (n := maxL) (by rw [zen_len]; exact hlen)
  rw [lg_entry_eq]
  refine hg ad s.heap [] _ ⟨zWd_weak (fun n hn hm => zmo_A hn hm) hWd, va_S.rf, ⟨hl.1, hl.2.1, fun k v hk => ?_⟩, ⟨fun n hn => ⟨hn, rfl⟩, fun n _ hn => hn⟩, fun k v hk => zen_live As hargs k v (zlg_rep _ _ k v hk), fun v hv => by cases hv⟩
  have h1 := zen_args ad As 0 k v (zlg_rep _ _ k v hk)
  rw [Nat.zero_add] at h1
  exact hl.2.2 _ h1
