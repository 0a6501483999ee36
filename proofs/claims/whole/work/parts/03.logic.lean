/-! Named worlds: abstract values, cells and heaps; what a method's frame stands for -/
abbrev zNm : Type := Nat × Nat × Nat
abbrev zAV : Type := Value ⊕ zNm
abbrev zAA : Type := (Nat → Int32) ⊕ (Nat → Int64) ⊕ (Nat → Option zNm)
abbrev zAE : Type := (FieldType × Nat × zAA) ⊕ (Nat × List zAV)
abbrev zMp : Type := zNm → Option zAE
/-- names of cells that nobody writes have a first number of 90 or more -/
def zmo (n : zNm) : Prop := n.1 < 90
def zcv (ad : zNm → Nat) : zAV → Value
  | .inl v => v
  | .inr n => .ref (ad n)
def zca (ad : zNm → Nat) : zAA → ((Nat → Int32) ⊕ (Nat → Int64) ⊕ (Nat → UInt32) ⊕ (Nat → UInt64) ⊕ (Nat → Option Nat))
  | .inl f => .inl f
  | .inr (.inl f) => .inr (.inl f)
  | .inr (.inr f) => .inr (.inr (.inr (.inr (fun k => (f k).map ad))))
/-- a cell that stood there before the law began, and that nobody writes: class and contents are known, no more; it is empty, or holds ints -/
def zwk (s : State) (n : zNm) (ty : FieldType) (len : Nat) (cA : ClassId) (sl : Array Value) (o : Option Cell) : Prop := ¬ zmo n ∧ ((len = 0 ∧ va_RA s cA ty) ∨ ty = .int) ∧ ∃ cell : Cell, o = some cell ∧ cell.cls = cA ∧ cell.slots = sl ∧ cell.vm ≠ .unknown ∧ cell.vm.isStatics = false
def zat (D : va_G) (s : State) (ad : zNm → Nat) (n : zNm) (e : zAE) (H : Heap) : Prop := match e with
  | .inl (ty, len, x) => ∃ cA : ClassId, ArrOfT s cA ty ∧ ((va_RA s cA ty ∧ H[ad n]? = some (vp_cell cA (len, zca ad x))) ∨ zwk s n ty len cA (vp_cell cA (len, zca ad x)).slots H[ad n]?)
  | .inr (ci, fs) => ∃ r : vw_C, vwCl[ci]? = some r ∧ t_OB (ad n) (D.1 ci) r.2.2 (D.2 ci) H (vp_V (fs.map (zcv ad)))
/-- the names that a cell holds -/
def zrf (e : zAE) (n : zNm) : Prop := match e with
  | .inl (_, _, .inr (.inr f)) => ∃ k, f k = some n
  | .inl _ => False
  | .inr (_, fs) => .inr n ∈ fs
def zcl (M : zMp) : Prop := ∀ n e, M n = some e → ∀ n', zrf e n' → M n' ≠ none
def zalv (M : zMp) : zAV → Prop
  | .inl _ => True
  | .inr n => M n ≠ none
def zWd (D : va_G) (s : State) (A : Nat → Prop) (ad : zNm → Nat) (M : zMp) (H : Heap) : Prop :=
  (∀ n e, M n = some e → zat D s ad n e H) ∧ (∀ n n', M n ≠ none → M n' ≠ none → ad n = ad n' → n = n') ∧ (∀ n, M n ≠ none → zmo n → A (ad n)) ∧ zcl M
def zEx (ad0 : zNm → Nat) (M0 : zMp) (ad : zNm → Nat) (M : zMp) : Prop := (∀ n, M0 n ≠ none → M n ≠ none ∧ ad n = ad0 n) ∧ ∀ n, ¬ zmo n → M n ≠ none → M0 n ≠ none
def zup (M : zMp) (a : zNm) (e : zAE) : zMp := fun n => if n = a then some e else M n
def zua (ad : zNm → Nat) (a : zNm) (q : Nat) : zNm → Nat := fun n => if n = a then q else ad n
theorem zcv_cat (ad : zNm → Nat) (v : zAV) : (zcv ad v).category = match v with | .inl w => w.category | .inr _ => 1 := by cases v <;> rfl
/-- values, contents and cells don't change when a name is bound that they don't hold -/
theorem zcv_ext {ad ad' : zNm → Nat} {v : zAV} (h : ∀ n, v = .inr n → ad' n = ad n) : zcv ad' v = zcv ad v := by
  cases v with
  | inl w => rfl
  | inr n => simp only [zcv]; rw [h n rfl]
theorem zat_ext {D : va_G} {s : State} {ad ad' : zNm → Nat} {n : zNm} {e : zAE} {H : Heap} (hn : ad' n = ad n) (h : ∀ n', zrf e n' → ad' n' = ad n') (ha : zat D s ad n e H) : zat D s ad' n e H := by
  match e, h, ha with
  | .inl (ty, len, .inl f), h, ⟨cA, h1, h3⟩ => exact ⟨cA, h1, by rw [hn]; exact h3⟩
  | .inl (ty, len, .inr (.inl f)), h, ⟨cA, h1, h3⟩ => exact ⟨cA, h1, by rw [hn]; exact h3⟩
  | .inl (ty, len, .inr (.inr f)), h, ⟨cA, h1, h3⟩ =>
    refine ⟨cA, h1, ?_⟩
    rw [hn]
    have hf : (fun k => (f k).map ad') = (fun k => (f k).map ad) := by
      funext k
      cases hk : f k with
      | none => rfl
      | some y => exact congrArg some (h y ⟨k, hk⟩)
    simp only [zca] at h3 ⊢
    rw [hf]
    exact h3
  | .inr (ci, fs), h, ⟨r, h1, h2⟩ =>
    refine ⟨r, h1, ?_⟩
    rw [hn]
    have hf : fs.map (zcv ad') = fs.map (zcv ad) := by
      refine List.map_congr_left fun v hv => zcv_ext fun n' e' => h n' ?_
      rw [e'] at hv
      exact hv
    rw [hf]
    exact h2
theorem zat_kept {D : va_G} {s : State} {ad : zNm → Nat} {n : zNm} {e : zAE} {H H1 : Heap} (ha : zat D s ad n e H) (hq : H1[ad n]? = H[ad n]?) : zat D s ad n e H1 := by
  match e, ha with
  | .inl (ty, len, x), ⟨cA, h1, h3⟩ => exact ⟨cA, h1, by rw [hq]; exact h3⟩
  | .inr (ci, fs), ⟨r, h1, h2⟩ => exact ⟨r, h1, h2.kept hq⟩
theorem zat_lt {D : va_G} {s : State} {ad : zNm → Nat} {n : zNm} {e : zAE} {H : Heap} (ha : zat D s ad n e H) : ad n < H.size := by
  match e, ha with
  | .inl (ty, len, x), ⟨cA, h1, h3⟩ =>
    rcases h3 with ⟨_, h3⟩ | ⟨_, _, cell, h3, _⟩
    · exact (Array.getElem?_eq_some_iff.mp h3).1
    · exact (Array.getElem?_eq_some_iff.mp h3).1
  | .inr (ci, fs), ⟨r, h1, ⟨c0, h2, _⟩⟩ => exact (Array.getElem?_eq_some_iff.mp h2).1
theorem zat_moved {D : va_G} {s U : State} {ad : zNm → Nat} {n : zNm} {e : zAE} {H : Heap} (hvm : s.vm.Alike U.vm) (ha : zat D s ad n e H) : zat D U ad n e H := by
  match e, ha with
  | .inl (ty, len, x), ⟨cA, h1, h3⟩ =>
    refine ⟨cA, arrOfT_moved hvm h1, ?_⟩
    rcases h3 with ⟨h2, h3⟩ | ⟨k1, k2, k3⟩
    · exact Or.inl ⟨h2.moved hvm, h3⟩
    · exact Or.inr ⟨k1, k2.imp (fun z => ⟨z.1, z.2.moved hvm⟩) id, k3⟩
  | .inr (ci, fs), ha => exact ha
/-- cells that the law made are known whole -/
theorem zat_mo {D : va_G} {s : State} {ad : zNm → Nat} {n : zNm} {ty : FieldType} {len : Nat} {x : zAA} {H : Heap} (hm : zmo n) (h : zat D s ad n (.inl (ty, len, x)) H) : ∃ cA : ClassId, ArrOfT s cA ty ∧ va_RA s cA ty ∧ H[ad n]? = some (vp_cell cA (len, zca ad x)) := by
  obtain ⟨cA, h1, h2⟩ := h
  rcases h2 with ⟨h2, h3⟩ | ⟨h2, _⟩
  · exact ⟨cA, h1, h2, h3⟩
  · exact absurd hm h2
/-- so are those that have a place, but for arrays of ints -/
theorem zat_in {D : va_G} {s : State} {ad : zNm → Nat} {n : zNm} {ty : FieldType} {len : Nat} {x : zAA} {H : Heap} {i : Int32} (hin : vp_in i len) (hty : ty ≠ .int) (h : zat D s ad n (.inl (ty, len, x)) H) : ∃ cA : ClassId, ArrOfT s cA ty ∧ va_RA s cA ty ∧ H[ad n]? = some (vp_cell cA (len, zca ad x)) := by
  obtain ⟨cA, h1, h2⟩ := h
  rcases h2 with ⟨h2, h3⟩ | ⟨_, h4, _⟩
  · exact ⟨cA, h1, h2, h3⟩
  · rcases h4 with ⟨h4, _⟩ | h4
    · exact absurd (Or.inr (by rw [h4]; exact Nat.zero_le _)) hin
    · exact absurd h4 hty
theorem zvc (cA : ClassId) (a : vp_A) : (vp_cell cA a).vm.isStatics = false ∧ (vp_cell cA a).cls = cA ∧ (vp_cell cA a).vm ≠ .unknown := by
  obtain ⟨n, f | f | f | f | f⟩ := a <;> exact ⟨rfl, rfl, fun h => by cases h⟩
theorem zvs (cA : ClassId) (a : vp_A) : (vp_cell cA a).slots.size = a.1 := by
  obtain ⟨n, f | f | f | f | f⟩ := a <;> exact arrV_size _ _ _
/-- what is known of any array cell -/
theorem zat_any {D : va_G} {s : State} {ad : zNm → Nat} {n : zNm} {ty : FieldType} {len : Nat} {x : zAA} {H : Heap} (h : zat D s ad n (.inl (ty, len, x)) H) : ∃ (cA : ClassId) (cell : Cell), ArrOfT s cA ty ∧ (ty ≠ .int → va_RA s cA ty) ∧ H[ad n]? = some cell ∧ cell.cls = cA ∧ cell.slots = (vp_cell cA (len, zca ad x)).slots ∧ cell.vm ≠ .unknown ∧ cell.vm.isStatics = false ∧ s.isArrayOf cell ty := by
  obtain ⟨cA, h1, h2⟩ := h
  have key : ∀ cell : Cell, cell.cls = cA → cell.vm.isStatics = false → s.isArrayOf cell ty := fun cell e1 e2 => ⟨fun k e => (by rw [e] at e2; cases e2), by rw [e1]; exact (h1 0 (fun _ => .null)).2⟩
  rcases h2 with ⟨h2, h3⟩ | ⟨_, h4, cell, g1, g2, g3, g4, g5⟩
  · obtain ⟨z1, z2, z3⟩ := zvc cA (len, zca ad x)
    exact ⟨cA, _, h1, fun _ => h2, h3, z2, rfl, z3, z1, key _ z2 z1⟩
  · exact ⟨cA, cell, h1, fun hn => h4.elim (fun z => z.2) (fun z => absurd z hn), g1, g2, g3, g4, g5, key _ g2 g5⟩
theorem zWd_moved {D : va_G} {s U : State} {A : Nat → Prop} {ad : zNm → Nat} {M : zMp} {H : Heap} (hvm : s.vm.Alike U.vm) (h : zWd D s A ad M H) : zWd D U A ad M H := ⟨fun n e hn => zat_moved hvm (h.1 n e hn), h.2⟩
theorem zWd_weak {D : va_G} {s : State} {A B : Nat → Prop} {ad : zNm → Nat} {M : zMp} {H : Heap} (hAB : ∀ n, M n ≠ none → zmo n → B (ad n)) (h : zWd D s A ad M H) : zWd D s B ad M H := ⟨h.1, h.2.1, hAB, h.2.2.2⟩
theorem zWd_lt {D : va_G} {s : State} {A : Nat → Prop} {ad : zNm → Nat} {M : zMp} {H : Heap} (h : zWd D s A ad M H) {n : zNm} (hn : M n ≠ none) : ad n < H.size := by
  cases he : M n with
  | none => exact absurd he hn
  | some e => exact zat_lt (h.1 n e he)
theorem zup_ne {M : zMp} {a n : zNm} {e : zAE} (hn : M n ≠ none) : zup M a e n ≠ none := by
  unfold zup
  split
  · simp
  · exact hn
theorem zup_in {M : zMp} {a n : zNm} {e e0 : zAE} (ha : M a = some e0) (hn : zup M a e n ≠ none) : M n ≠ none := by
  unfold zup at hn
  split at hn
  · next h => rw [h, ha]; simp
  · exact hn
theorem zalv_up {M : zMp} {a : zNm} {e : zAE} {v : zAV} (h : zalv M v) : zalv (zup M a e) v := by
  cases v with
  | inl w => trivial
  | inr n => exact zup_ne h
/-- one cell written -/
theorem zWd_put {D : va_G} {s : State} {A : Nat → Prop} {ad : zNm → Nat} {M : zMp} {H H1 : Heap} {a : zNm} {e0 e : zAE} (h : zWd D s A ad M H) (ha : M a = some e0) (he : zat D s ad a e H1) (hr : ∀ n', zrf e n' → M n' ≠ none) (oq : ∀ q : Nat, q ≠ ad a → H1[q]? = H[q]?) : zWd D s A ad (zup M a e) H1 := by
  obtain ⟨h1, h2, h3, h4⟩ := h
  have hin : ∀ n, zup M a e n ≠ none → M n ≠ none := fun n hn => zup_in ha hn
  refine ⟨fun n x hx => ?_, fun n n' hn hn' => h2 n n' (hin n hn) (hin n' hn'), fun n hn => h3 n (hin n hn), fun n x hx n' hn' => ?_⟩
  · unfold zup at hx
    split at hx
    · next hna => cases hx; rw [hna]; exact he
    · next hna => exact zat_kept (h1 n x hx) (oq _ (fun z => hna (h2 n a (by rw [hx]; simp) (by rw [ha]; simp) z)))
  · unfold zup at hx
    split at hx
    · cases hx; exact zup_ne (hr n' hn')
    · exact zup_ne (h4 n x hx n' hn')
/-- one cell made, under a name that was free -/
theorem zWd_new {D : va_G} {s : State} {A : Nat → Prop} {ad : zNm → Nat} {M : zMp} {H H1 : Heap} {a : zNm} {e : zAE} (h : zWd D s A ad M H) (ha : M a = none) (hA : A H.size) (he : zat D s (zua ad a H.size) a e H1) (hr : ∀ n', ¬ zrf e n') (oq : ∀ q : Nat, q < H.size → H1[q]? = H[q]?) : zWd D s A (zua ad a H.size) (zup M a e) H1 := by
  have hlt := fun n (hn : M n ≠ none) => zWd_lt h hn
  obtain ⟨h1, h2, h3, h4⟩ := h
  have hno : ∀ n, M n ≠ none → n ≠ a := fun n hn z => hn (by rw [z]; exact ha)
  have had : ∀ n, M n ≠ none → zua ad a H.size n = ad n := fun n hn => if_neg (hno n hn)
  have hself : zua ad a H.size a = H.size := if_pos rfl
  have hin : ∀ n, zup M a e n ≠ none → n = a ∨ M n ≠ none := by
    intro n hn
    unfold zup at hn
    split at hn
    · next hna => exact Or.inl hna
    · exact Or.inr hn
  refine ⟨fun n x hx => ?_, fun n n' hn hn' hq => ?_, fun n hn hm => ?_, fun n x hx n' hn' => ?_⟩
  · unfold zup at hx
    split at hx
    · next hna => cases hx; rw [hna]; exact he
    · next hna =>
      have hnn : M n ≠ none := by rw [hx]; simp
      refine zat_kept (zat_ext (had n hnn) (fun n' hn' => had n' (h4 n x hx n' hn')) (h1 n x hx)) ?_
      rw [had n hnn]
      exact oq _ (hlt n hnn)
  · rcases hin n hn with e1 | k1
    · rcases hin n' hn' with e2 | k2
      · rw [e1, e2]
      · rw [e1, hself, had n' k2] at hq
        exact absurd (hlt n' k2) (by omega)
    · rcases hin n' hn' with e2 | k2
      · rw [e2, hself, had n k1] at hq
        exact absurd (hlt n k1) (by omega)
      · rw [had n k1, had n' k2] at hq
        exact h2 n n' k1 k2 hq
  · rcases hin n hn with e1 | k1
    · rw [e1, hself]; exact hA
    · rw [had n k1]; exact h3 n k1 hm
  · unfold zup at hx
    split at hx
    · cases hx; exact absurd hn' (hr n')
    · exact zup_ne (h4 n x hx n' hn')
/-! words -/
def tb : List Cond := lw_tbl.filter goodWord
theorem tb_of {w : Cond} (h : w ∈ lw_tbl) (g : goodWord w = true) : w ∈ tb := List.mem_filter.mpr ⟨h, g⟩
theorem tb_good {w1 w2 : Cond} (h : w2 ∈ tb) : GoodIn (w1 :: tb) (w2 :: tb) := by
  intro w hw
  have hin : w ∈ tb := (List.mem_cons.mp hw).elim (fun e => e ▸ h) id
  exact ⟨List.mem_cons_of_mem _ hin, good_of_word (List.mem_filter.mp hin).2⟩
def zxw : Cond → Bool
  | .castable .. => true
  | .methodLinkNest .. => true
  | .declares .. => true
  | .arrayOver (.object _) => true
  | _ => false
def xw : List Cond := tables_1.filter zxw
def zKS (D : va_G) (U : State) : Prop := va_K D vwCl [] U ∧ (∀ w ∈ xw, w.before #[] U = true) ∧ ∃ mi : Nat, va_Mi "[Ljava/lang/Object;" mi U
theorem zKS_warm {D : va_G} {s U : State} (hW : s.WarmedH U.vm) (h : zKS D s) : zKS D U := by
  refine ⟨va_K.moved hW.alike h.1, fun w hw => ?_, h.2.2.imp fun _ hm => hm.moved hW.alike⟩
  have h1 := h.2.1 w hw
  have h2 := (List.mem_filter.mp hw).2
  match w, h1, h2 with
  | .castable C T, h1, _ => exact va_Nw.warmC hW h1
  | .methodLinkNest a i x hst, h1, _ => exact va_Nw.warmM hW h1
  | .declares x, h1, _ => exact va_Nw.warmD hW h1
  | .arrayOver (.object C), h1, _ => exact va_AO.moved (C := C) hW.alike h1
/-- the static that new lists hold: bound to the name (90, 0, 0) where that name is in the world -/
def znE : zNm := (90, 0, 0)
def zSF (ad : zNm → Nat) (M : zMp) (A : Nat → Prop) (U : State) (H : Heap) : Prop := M znE ≠ none → va_Z "java/util/ArrayList" "DEFAULTCAPACITY_EMPTY_ELEMENTDATA" "[Ljava/lang/Object;" (.ref (ad znE)) A U H
/-! a method's end, a method's contract -/
def zAQ (D : va_G) (A : Nat → Prop) (ad0 : zNm → Nat) (M0 : zMp) (Rt : Option zAV → zMp → Prop) : Array Value → State → Outcome → State → Prop := fun _ st oc t =>
  (∃ (v : Option zAV) (M : zMp) (ad : zNm → Nat), oc = .returned (v.map (zcv ad)) ∧ Rt v M ∧ zEx ad0 M0 ad M ∧ zWd D t A ad M t.heap ∧ ∀ x, v = some x → zalv M x) ∧ va_F A st t
def zA0 (ad : zNm → Nat) (M : zMp) (sz : Nat) : Nat → Prop := fun q => (∃ n, M n ≠ none ∧ zmo n ∧ ad n = q) ∨ sz ≤ q
def zPc (D : va_G) (ad : zNm → Nat) (M : zMp) (sz : Nat) (As : List zAV) : Array Value → State → Prop :=
  va_Pc (As.map (zcv ad)) (fun U => U.heap.size = sz ∧ zWd D U (fun _ => True) ad M U.heap ∧ zKS D U ∧ zSF ad M (zA0 ad M sz) U U.heap)
def zMet (l : Launch) (y : MethodName) (bytes : ByteArray) (maxL : Nat) (ret : Option FieldType) (fr lo : Nat) (As : List zAV) (M : zMp) (mc ms : Nat) (Rt : Option zAV → zMp → Prop) : Prop :=
  ∀ (D : va_G) (ad : zNm → Nat) (sz : Nat), (∀ a ∈ As, zalv M a) → Met l y (Cond.code y bytes maxL ret :: tb) { frames := fr, cells := mc, slots := ms, locals := lo } (zPc D ad M sz As) (zAQ D (zA0 ad M sz) ad M Rt) mc ms (zA0 ad M sz)
/-- a method's contract: T tells what must hold of arguments and world, and of what comes back; co what it may make -/
def zCT (l : Launch) (y : MethodName) (bytes : ByteArray) (maxL : Nat) (ret : Option FieldType) (fr lo : Nat) (T : List zAV → zMp → (Option zAV → zMp → Prop) → Prop) (co : List zAV → zMp → Nat × Nat) : Prop :=
  ∀ (As : List zAV) (M : zMp) (Rt : Option zAV → zMp → Prop), T As M Rt → zMet l y bytes maxL ret fr lo As M (co As M).1 (co As M).2 Rt
/-! the judgement: locals by places, stack, world, cells and slots made so far -/
abbrev zKT : Type := List (Option zAV) → List zAV → zMp → Nat → Nat → Prop
abbrev zMa : Type := Program × Launch × Env × Room × State × MethodId × Array Value × List Frame × Method × Code × (State → Prop) × Nat × va_G × (Nat → Prop) × (zNm → Nat) × zMp
def zlg : List (Option zAV) → Nat → Option zAV
  | [], _ => none
  | x :: _, 0 => x
  | _ :: t, k + 1 => zlg t k
def zls : List (Option zAV) → Nat → Option zAV → List (Option zAV)
  | [], _, _ => []
  | _ :: t, 0, v => v :: t
  | x :: t, k + 1, v => x :: zls t k v
def zlH (ad : zNm → Nat) (nL : Nat) (ls : Array Slot) (L : List (Option zAV)) : Prop := ls.size = nL ∧ lv_wf ls ∧ ∀ k v, zlg L k = some v → ls[k]? = some (.val (zcv ad v))
def zHd (s : State) (nL : Nat) (D : va_G) (A : Nat → Prop) (ad0 : zNm → Nat) (M0 : zMp) (ad : zNm → Nat) (H : Heap) (locs : List Loc) (ls : Array Slot) (L : List (Option zAV)) (st : List zAV) (M : zMp) : Prop :=
  zWd D s A ad M H ∧ va_S A s.heap H locs ∧ zlH ad nL ls L ∧ zEx ad0 M0 ad M ∧ (∀ k v, zlg L k = some v → zalv M v) ∧ ∀ v ∈ st, zalv M v
def zG (X : zMa) (pc : Nat) : zKT := fun L st M k n => match X with
  | (p, l, e, R, s, m, args, below, meth, c, Q, nL, D, A, ad0, M0) => ∀ (ad : zNm → Nat) (H : Heap) (locs : List Loc) (ls : Array Slot), zHd s nL D A ad0 M0 ad H locs ls L st M → W p l e R s m args below meth c H locs k n Q (F0 m pc ls (st.map (zcv ad)))
/-- what holds in a method's body: own class, code, room, end -/
def zCx (X : zMa) (own : String) (cc : ByteArray) (fr lo mc ms : Nat) (ret : Option FieldType) (ini : Bool) (Rt : Option zAV → zMp → Prop) : Prop := match X with
  | (p, l, e, R, s, m, args, below, meth, c, Q, nL, D, A, ad0, M0) => p.tables.exec = Jvm.exec ∧ c.code = cc ∧ c.maxLocals = nL ∧ s.vm.findClass own = some m.cls ∧ (∀ w ∈ tb, w.before args s = true) ∧ zKS D s ∧ zSF ad0 M0 A s s.heap ∧ (∀ q, s.heap.size ≤ q → A q) ∧ R = { frames := fr, cells := mc, slots := ms, locals := lo } ∧ Q = MQ below (zAQ D A ad0 M0 Rt) args s mc ms A ∧ meth.sig.returnType = ret ∧ meth.locks = false ∧ (ini = true → meth.name = "<init>")
def zLe (K1 K2 : zKT) : Prop := ∀ L st M k n, K1 L st M k n → K2 L st M k n
theorem zLe_rfl {K : zKT} : zLe K K := fun _ _ _ _ _ h => h
/-- where the locals stand at the entry -/
def zcat : zAV → Nat
  | .inl w => w.category
  | .inr _ => 1
def zen : List zAV → List (Option zAV)
  | [] => []
  | a :: as => if zcat a = 2 then some a :: none :: zen as else some a :: zen as
theorem zmo_A {ad : zNm → Nat} {M : zMp} {sz : Nat} {n : zNm} (h : M n ≠ none) (hm : zmo n) : zA0 ad M sz (ad n) := Or.inl ⟨n, h, hm, rfl⟩
