/-! stacks of live values -/
def zsv (M : zMp) (st : List zAV) : Prop := ∀ v ∈ st, zalv M v
theorem zsv_c {M : zMp} {a : zAV} {l : List zAV} (h : zalv M a) (h2 : zsv M l) : zsv M (a :: l) := fun v hv => (List.mem_cons.mp hv).elim (fun e => e ▸ h) (h2 v)
theorem zsv_t {M : zMp} {a : zAV} {l : List zAV} (h : zsv M (a :: l)) : zsv M l := fun v hv => h v (List.mem_cons_of_mem _ hv)
theorem zsv_h {M : zMp} {a : zAV} {l : List zAV} (h : zsv M (a :: l)) : zalv M a := h a List.mem_cons_self
theorem zHd_st {s : State} {nL : Nat} {D : va_G} {A : Nat → Prop} {ad0 : zNm → Nat} {M0 : zMp} {ad : zNm → Nat} {H : Heap} {locs : List Loc} {ls : Array Slot} {L : List (Option zAV)} {st st' : List zAV} {M : zMp} (h : zHd s nL D A ad0 M0 ad H locs ls L st M) (hs : zsv M st → zsv M st') : zHd s nL D A ad0 M0 ad H locs ls L st' M := ⟨h.1, h.2.1, h.2.2.1, h.2.2.2.1, h.2.2.2.2.1, hs h.2.2.2.2.2⟩
def zI (x : Int32) : zAV := .inl (.int x)
/-! locals -/
theorem zls_i : ∀ (L : List (Option zAV)) (k : Nat) (a : Option zAV) (v : zAV), zlg (zls L k a) k = some v → a = some v
  | [], _, _, _, h => by simp [zls, zlg] at h
  | _ :: _, 0, _, _, h => h
  | _ :: t, k + 1, a, v, h => zls_i t k a v h
theorem zls_o : ∀ (L : List (Option zAV)) (k j : Nat) (a : Option zAV) (v : zAV), j ≠ k → zlg (zls L k a) j = some v → zlg L j = some v
  | [], _, _, _, _, _, h => h
  | _ :: _, 0, 0, _, _, hn, _ => absurd rfl hn
  | _ :: _, 0, _ + 1, _, _, _, h => h
  | _ :: _, _ + 1, 0, _, _, _, h => h
  | _ :: t, k + 1, j + 1, a, v, hn, h => zls_o t k j a v (fun e => hn (by rw [e])) h
theorem zlg_lt : ∀ (L : List (Option zAV)) (k : Nat) (v : zAV), zlg L k = some v → k < L.length
  | [], _, _, h => by simp [zlg] at h
  | _ :: _, 0, _, _ => Nat.succ_pos _
  | _ :: t, k + 1, v, h => Nat.succ_lt_succ (zlg_lt t k v h)
def zlv (ad : zNm → Nat) (L : List (Option zAV)) : List (Nat × Value) := (List.range L.length).filterMap (fun k => (zlg L k).map (fun v => (k, zcv ad v)))
theorem zlv_m {ad : zNm → Nat} {L : List (Option zAV)} {q : Nat × Value} : q ∈ zlv ad L ↔ ∃ v, zlg L q.1 = some v ∧ q.2 = zcv ad v := by
  unfold zlv
  constructor
  · intro h
    obtain ⟨k, -, hk⟩ := List.mem_filterMap.mp h
    cases hv : zlg L k with
    | none => rw [hv] at hk; simp at hk
    | some v => rw [hv] at hk; simp at hk; rw [← hk]; exact ⟨v, hv, rfl⟩
  · rintro ⟨v, h1, h2⟩
    refine List.mem_filterMap.mpr ⟨q.1, List.mem_range.mpr (zlg_lt L _ v h1), ?_⟩
    rw [h1]
    simp [← h2]
theorem zlH_has {ad : zNm → Nat} {nL : Nat} {ls : Array Slot} {L : List (Option zAV)} (h : zlH ad nL ls L) : lv_has ls nL (zlv ad L) := by
  refine ⟨h.1, h.2.1, fun q hq => ?_⟩
  obtain ⟨v, h1, h2⟩ := zlv_m.mp hq
  rw [h2]
  exact h.2.2 _ v h1
/-- the place ahead of i doesn't hold a value of two slots -/
def znl (L : List (Option zAV)) : Nat → Prop
  | 0 => True
  | k + 1 => match zlg L k with
    | some (.inl (.long _)) => False
    | some (.inl (.double _)) => False
    | _ => True
theorem znl_cat {ad : zNm → Nat} {L : List (Option zAV)} {i k : Nat} {v : zAV} (h : znl L i) (hk : k + 1 = i) (hv : zlg L k = some v) : ¬ (zcv ad v).category = 2 := by
  subst hk
  simp only [znl, hv] at h
  match v, h with
  | .inl (.int _), _ => simp [zcv, Value.category]
  | .inl (.long _), h => exact h.elim
  | .inl (.float _), _ => simp [zcv, Value.category]
  | .inl (.double _), h => exact h.elim
  | .inl (.ref _), _ => simp [zcv, Value.category]
  | .inl .null, _ => simp [zcv, Value.category]
  | .inl (.retAddr _), _ => simp [zcv, Value.category]
  | .inr _, _ => simp [zcv, Value.category]
theorem zlH_st1 {ad : zNm → Nat} {nL i : Nat} {ls' : Array Slot} {L : List (Option zAV)} {a : zAV} (hn : znl L i) (h : lv_has ls' nL ((i, zcv ad a) :: (zlv ad L).filter (fun q => !(q.1 == i) && !(q.1 + 1 == i && q.2.category == 2)))) : zlH ad nL ls' (zls L i (some a)) := by
  refine ⟨h.1, h.2.1, fun k v hk => ?_⟩
  by_cases hki : k = i
  · subst hki
    have := zls_i L k (some a) v hk
    cases this
    exact h.2.2 (k, zcv ad a) List.mem_cons_self
  · have h1 := zls_o L i k (some a) v hki hk
    refine h.2.2 (k, zcv ad v) (List.mem_cons_of_mem _ (List.mem_filter.mpr ⟨zlv_m.mpr ⟨v, h1, rfl⟩, ?_⟩))
    have h2 : k + 1 = i → ¬ (zcv ad v).category = 2 := fun e => znl_cat hn e h1
    by_cases h3 : k + 1 = i
    · simp [hki, h3, h2 h3]
    · simp [hki, h3]
theorem zlH_st2 {ad : zNm → Nat} {nL i : Nat} {ls' : Array Slot} {L : List (Option zAV)} {a : zAV} (hn : znl L i) (h : lv_has ls' nL ((i, zcv ad a) :: (zlv ad L).filter (fun q => !(q.1 == i) && (!(q.1 == i + 1) && !(q.1 + 1 == i && q.2.category == 2))))) : zlH ad nL ls' (zls (zls L (i + 1) none) i (some a)) := by
  refine ⟨h.1, h.2.1, fun k v hk => ?_⟩
  by_cases hki : k = i
  · subst hki
    have := zls_i (zls L (k + 1) none) k (some a) v hk
    cases this
    exact h.2.2 (k, zcv ad a) List.mem_cons_self
  · have h0 := zls_o _ i k (some a) v hki hk
    have hk2 : k ≠ i + 1 := by
      intro e
      subst e
      have := zls_i L (i + 1) none v h0
      cases this
    have h1 := zls_o L (i + 1) k none v hk2 h0
    refine h.2.2 (k, zcv ad v) (List.mem_cons_of_mem _ (List.mem_filter.mpr ⟨zlv_m.mpr ⟨v, h1, rfl⟩, ?_⟩))
    have h2 : k + 1 = i → ¬ (zcv ad v).category = 2 := fun e => znl_cat hn e h1
    by_cases h3 : k + 1 = i
    · simp [hki, hk2, h3, h2 h3]
    · simp [hki, hk2, h3]
theorem zll_set {M : zMp} {L : List (Option zAV)} {i : Nat} {a : zAV} (h : ∀ k v, zlg L k = some v → zalv M v) (ha : zalv M a) : ∀ k v, zlg (zls L i (some a)) k = some v → zalv M v := by
  intro k v hk
  by_cases hki : k = i
  · subst hki
    have := zls_i L k (some a) v hk
    cases this
    exact ha
  · exact h k v (zls_o L i k (some a) v hki hk)
theorem zll_set2 {M : zMp} {L : List (Option zAV)} {i : Nat} {a : zAV} (h : ∀ k v, zlg L k = some v → zalv M v) (ha : zalv M a) : ∀ k v, zlg (zls (zls L (i + 1) none) i (some a)) k = some v → zalv M v := by
  refine zll_set (fun k v hk => ?_) ha
  by_cases hki : k = i + 1
  · subst hki
    have := zls_i L (i + 1) none v hk
    cases this
  · exact h k v (zls_o L (i + 1) k none v hki hk)

def i_iadd (K : zKT) : zKT := fun L st M k n => match st with
  | .inl (.int y) :: .inl (.int x) :: st => K L (.inl (.int (x + y)) :: st) M k n
  | _ => False

theorem sd_iadd {X : zMa} {own : String} {cc : ByteArray} {fr lo mc ms : Nat} {ret : Option FieldType} {ini : Bool} {Rt : Option zAV → zMp → Prop} (hC : zCx X own cc fr lo mc ms ret ini Rt) {pc : Nat} (hd : decode cc pc = .ok (.iadd, 1)) {K : zKT} (hK : zLe K (zG X (pc + 1))) : zLe (i_iadd K) (zG X pc) := by
  obtain ⟨p, l, e, R, s, m, args, below, meth, c, Q, nL, D, A, ad0, M0⟩ := X
  obtain ⟨hx, hb, hml, hown, hts, hKS, hSF, hA, hR, hQ, hret, hlk, hini⟩ := hC
  intro L st M k n h
  unfold i_iadd at h
  split at h
  · intro ad H locs ls hH
    exact lv_iadd hx hb hd (hK L _ M k n h ad H locs ls (zHd_st hH (fun h => zsv_c trivial (zsv_t (zsv_t h)))))
  · exact h.elim

def i_isub (K : zKT) : zKT := fun L st M k n => match st with
  | .inl (.int y) :: .inl (.int x) :: st => K L (.inl (.int (x - y)) :: st) M k n
  | _ => False

theorem sd_isub {X : zMa} {own : String} {cc : ByteArray} {fr lo mc ms : Nat} {ret : Option FieldType} {ini : Bool} {Rt : Option zAV → zMp → Prop} (hC : zCx X own cc fr lo mc ms ret ini Rt) {pc : Nat} (hd : decode cc pc = .ok (.isub, 1)) {K : zKT} (hK : zLe K (zG X (pc + 1))) : zLe (i_isub K) (zG X pc) := by
  obtain ⟨p, l, e, R, s, m, args, below, meth, c, Q, nL, D, A, ad0, M0⟩ := X
  obtain ⟨hx, hb, hml, hown, hts, hKS, hSF, hA, hR, hQ, hret, hlk, hini⟩ := hC
  intro L st M k n h
  unfold i_isub at h
  split at h
  · intro ad H locs ls hH
    exact lv_isub hx hb hd (hK L _ M k n h ad H locs ls (zHd_st hH (fun h => zsv_c trivial (zsv_t (zsv_t h)))))
  · exact h.elim

def i_imul (K : zKT) : zKT := fun L st M k n => match st with
  | .inl (.int y) :: .inl (.int x) :: st => K L (.inl (.int (x * y)) :: st) M k n
  | _ => False

theorem sd_imul {X : zMa} {own : String} {cc : ByteArray} {fr lo mc ms : Nat} {ret : Option FieldType} {ini : Bool} {Rt : Option zAV → zMp → Prop} (hC : zCx X own cc fr lo mc ms ret ini Rt) {pc : Nat} (hd : decode cc pc = .ok (.imul, 1)) {K : zKT} (hK : zLe K (zG X (pc + 1))) : zLe (i_imul K) (zG X pc) := by
  obtain ⟨p, l, e, R, s, m, args, below, meth, c, Q, nL, D, A, ad0, M0⟩ := X
  obtain ⟨hx, hb, hml, hown, hts, hKS, hSF, hA, hR, hQ, hret, hlk, hini⟩ := hC
  intro L st M k n h
  unfold i_imul at h
  split at h
  · intro ad H locs ls hH
    exact lv_imul hx hb hd (hK L _ M k n h ad H locs ls (zHd_st hH (fun h => zsv_c trivial (zsv_t (zsv_t h)))))
  · exact h.elim

def i_iand (K : zKT) : zKT := fun L st M k n => match st with
  | .inl (.int y) :: .inl (.int x) :: st => K L (.inl (.int (x &&& y)) :: st) M k n
  | _ => False

theorem sd_iand {X : zMa} {own : String} {cc : ByteArray} {fr lo mc ms : Nat} {ret : Option FieldType} {ini : Bool} {Rt : Option zAV → zMp → Prop} (hC : zCx X own cc fr lo mc ms ret ini Rt) {pc : Nat} (hd : decode cc pc = .ok (.iand, 1)) {K : zKT} (hK : zLe K (zG X (pc + 1))) : zLe (i_iand K) (zG X pc) := by
  obtain ⟨p, l, e, R, s, m, args, below, meth, c, Q, nL, D, A, ad0, M0⟩ := X
  obtain ⟨hx, hb, hml, hown, hts, hKS, hSF, hA, hR, hQ, hret, hlk, hini⟩ := hC
  intro L st M k n h
  unfold i_iand at h
  split at h
  · intro ad H locs ls hH
    exact lv_iand hx hb hd (hK L _ M k n h ad H locs ls (zHd_st hH (fun h => zsv_c trivial (zsv_t (zsv_t h)))))
  · exact h.elim

def i_ior (K : zKT) : zKT := fun L st M k n => match st with
  | .inl (.int y) :: .inl (.int x) :: st => K L (.inl (.int (x ||| y)) :: st) M k n
  | _ => False

theorem sd_ior {X : zMa} {own : String} {cc : ByteArray} {fr lo mc ms : Nat} {ret : Option FieldType} {ini : Bool} {Rt : Option zAV → zMp → Prop} (hC : zCx X own cc fr lo mc ms ret ini Rt) {pc : Nat} (hd : decode cc pc = .ok (.ior, 1)) {K : zKT} (hK : zLe K (zG X (pc + 1))) : zLe (i_ior K) (zG X pc) := by
  obtain ⟨p, l, e, R, s, m, args, below, meth, c, Q, nL, D, A, ad0, M0⟩ := X
  obtain ⟨hx, hb, hml, hown, hts, hKS, hSF, hA, hR, hQ, hret, hlk, hini⟩ := hC
  intro L st M k n h
  unfold i_ior at h
  split at h
  · intro ad H locs ls hH
    exact lv_ior hx hb hd (hK L _ M k n h ad H locs ls (zHd_st hH (fun h => zsv_c trivial (zsv_t (zsv_t h)))))
  · exact h.elim

def i_ixor (K : zKT) : zKT := fun L st M k n => match st with
  | .inl (.int y) :: .inl (.int x) :: st => K L (.inl (.int (x ^^^ y)) :: st) M k n
  | _ => False

theorem sd_ixor {X : zMa} {own : String} {cc : ByteArray} {fr lo mc ms : Nat} {ret : Option FieldType} {ini : Bool} {Rt : Option zAV → zMp → Prop} (hC : zCx X own cc fr lo mc ms ret ini Rt) {pc : Nat} (hd : decode cc pc = .ok (.ixor, 1)) {K : zKT} (hK : zLe K (zG X (pc + 1))) : zLe (i_ixor K) (zG X pc) := by
  obtain ⟨p, l, e, R, s, m, args, below, meth, c, Q, nL, D, A, ad0, M0⟩ := X
  obtain ⟨hx, hb, hml, hown, hts, hKS, hSF, hA, hR, hQ, hret, hlk, hini⟩ := hC
  intro L st M k n h
  unfold i_ixor at h
  split at h
  · intro ad H locs ls hH
    exact lv_ixor hx hb hd (hK L _ M k n h ad H locs ls (zHd_st hH (fun h => zsv_c trivial (zsv_t (zsv_t h)))))
  · exact h.elim

def i_idiv (K : zKT) : zKT := fun L st M k n => match st with
  | .inl (.int y) :: .inl (.int x) :: st => ¬ y = 0 ∧ K L (.inl (.int (x / y)) :: st) M k n
  | _ => False

theorem sd_idiv {X : zMa} {own : String} {cc : ByteArray} {fr lo mc ms : Nat} {ret : Option FieldType} {ini : Bool} {Rt : Option zAV → zMp → Prop} (hC : zCx X own cc fr lo mc ms ret ini Rt) {pc : Nat} (hd : decode cc pc = .ok (.idiv, 1)) {K : zKT} (hK : zLe K (zG X (pc + 1))) : zLe (i_idiv K) (zG X pc) := by
  obtain ⟨p, l, e, R, s, m, args, below, meth, c, Q, nL, D, A, ad0, M0⟩ := X
  obtain ⟨hx, hb, hml, hown, hts, hKS, hSF, hA, hR, hQ, hret, hlk, hini⟩ := hC
  intro L st M k n h
  unfold i_idiv at h
  split at h
  · intro ad H locs ls hH
    obtain ⟨hc0, h⟩ := h
    exact lv_idiv hx hb hd hc0 (hK L _ M k n h ad H locs ls (zHd_st hH (fun h => zsv_c trivial (zsv_t (zsv_t h)))))
  · exact h.elim

def i_irem (K : zKT) : zKT := fun L st M k n => match st with
  | .inl (.int y) :: .inl (.int x) :: st => ¬ y = 0 ∧ K L (.inl (.int (x - x / y * y)) :: st) M k n
  | _ => False

theorem sd_irem {X : zMa} {own : String} {cc : ByteArray} {fr lo mc ms : Nat} {ret : Option FieldType} {ini : Bool} {Rt : Option zAV → zMp → Prop} (hC : zCx X own cc fr lo mc ms ret ini Rt) {pc : Nat} (hd : decode cc pc = .ok (.irem, 1)) {K : zKT} (hK : zLe K (zG X (pc + 1))) : zLe (i_irem K) (zG X pc) := by
  obtain ⟨p, l, e, R, s, m, args, below, meth, c, Q, nL, D, A, ad0, M0⟩ := X
  obtain ⟨hx, hb, hml, hown, hts, hKS, hSF, hA, hR, hQ, hret, hlk, hini⟩ := hC
  intro L st M k n h
  unfold i_irem at h
  split at h
  · intro ad H locs ls hH
    obtain ⟨hc0, h⟩ := h
    exact lv_irem hx hb hd hc0 (hK L _ M k n h ad H locs ls (zHd_st hH (fun h => zsv_c trivial (zsv_t (zsv_t h)))))
  · exact h.elim

def i_ishl (K : zKT) : zKT := fun L st M k n => match st with
  | .inl (.int y) :: .inl (.int x) :: st => K L (.inl (.int (x <<< (y &&& 31))) :: st) M k n
  | _ => False

theorem sd_ishl {X : zMa} {own : String} {cc : ByteArray} {fr lo mc ms : Nat} {ret : Option FieldType} {ini : Bool} {Rt : Option zAV → zMp → Prop} (hC : zCx X own cc fr lo mc ms ret ini Rt) {pc : Nat} (hd : decode cc pc = .ok (.ishl, 1)) {K : zKT} (hK : zLe K (zG X (pc + 1))) : zLe (i_ishl K) (zG X pc) := by
  obtain ⟨p, l, e, R, s, m, args, below, meth, c, Q, nL, D, A, ad0, M0⟩ := X
  obtain ⟨hx, hb, hml, hown, hts, hKS, hSF, hA, hR, hQ, hret, hlk, hini⟩ := hC
  intro L st M k n h
  unfold i_ishl at h
  split at h
  · intro ad H locs ls hH
    exact lv_ishl hx hb hd (hK L _ M k n h ad H locs ls (zHd_st hH (fun h => zsv_c trivial (zsv_t (zsv_t h)))))
  · exact h.elim

def i_ishr (K : zKT) : zKT := fun L st M k n => match st with
  | .inl (.int y) :: .inl (.int x) :: st => K L (.inl (.int (x >>> (y &&& 31))) :: st) M k n
  | _ => False

theorem sd_ishr {X : zMa} {own : String} {cc : ByteArray} {fr lo mc ms : Nat} {ret : Option FieldType} {ini : Bool} {Rt : Option zAV → zMp → Prop} (hC : zCx X own cc fr lo mc ms ret ini Rt) {pc : Nat} (hd : decode cc pc = .ok (.ishr, 1)) {K : zKT} (hK : zLe K (zG X (pc + 1))) : zLe (i_ishr K) (zG X pc) := by
  obtain ⟨p, l, e, R, s, m, args, below, meth, c, Q, nL, D, A, ad0, M0⟩ := X
  obtain ⟨hx, hb, hml, hown, hts, hKS, hSF, hA, hR, hQ, hret, hlk, hini⟩ := hC
  intro L st M k n h
  unfold i_ishr at h
  split at h
  · intro ad H locs ls hH
    exact lv_ishr hx hb hd (hK L _ M k n h ad H locs ls (zHd_st hH (fun h => zsv_c trivial (zsv_t (zsv_t h)))))
  · exact h.elim

def i_ladd (K : zKT) : zKT := fun L st M k n => match st with
  | .inl (.long y) :: .inl (.long x) :: st => K L (.inl (.long (x + y)) :: st) M k n
  | _ => False

theorem sd_ladd {X : zMa} {own : String} {cc : ByteArray} {fr lo mc ms : Nat} {ret : Option FieldType} {ini : Bool} {Rt : Option zAV → zMp → Prop} (hC : zCx X own cc fr lo mc ms ret ini Rt) {pc : Nat} (hd : decode cc pc = .ok (.ladd, 1)) {K : zKT} (hK : zLe K (zG X (pc + 1))) : zLe (i_ladd K) (zG X pc) := by
  obtain ⟨p, l, e, R, s, m, args, below, meth, c, Q, nL, D, A, ad0, M0⟩ := X
  obtain ⟨hx, hb, hml, hown, hts, hKS, hSF, hA, hR, hQ, hret, hlk, hini⟩ := hC
  intro L st M k n h
  unfold i_ladd at h
  split at h
  · intro ad H locs ls hH
    exact lv_ladd hx hb hd (hK L _ M k n h ad H locs ls (zHd_st hH (fun h => zsv_c trivial (zsv_t (zsv_t h)))))
  · exact h.elim

def i_lsub (K : zKT) : zKT := fun L st M k n => match st with
  | .inl (.long y) :: .inl (.long x) :: st => K L (.inl (.long (x - y)) :: st) M k n
  | _ => False

theorem sd_lsub {X : zMa} {own : String} {cc : ByteArray} {fr lo mc ms : Nat} {ret : Option FieldType} {ini : Bool} {Rt : Option zAV → zMp → Prop} (hC : zCx X own cc fr lo mc ms ret ini Rt) {pc : Nat} (hd : decode cc pc = .ok (.lsub, 1)) {K : zKT} (hK : zLe K (zG X (pc + 1))) : zLe (i_lsub K) (zG X pc) := by
  obtain ⟨p, l, e, R, s, m, args, below, meth, c, Q, nL, D, A, ad0, M0⟩ := X
  obtain ⟨hx, hb, hml, hown, hts, hKS, hSF, hA, hR, hQ, hret, hlk, hini⟩ := hC
  intro L st M k n h
  unfold i_lsub at h
  split at h
  · intro ad H locs ls hH
    exact lv_lsub hx hb hd (hK L _ M k n h ad H locs ls (zHd_st hH (fun h => zsv_c trivial (zsv_t (zsv_t h)))))
  · exact h.elim

def i_land (K : zKT) : zKT := fun L st M k n => match st with
  | .inl (.long y) :: .inl (.long x) :: st => K L (.inl (.long (x &&& y)) :: st) M k n
  | _ => False

theorem sd_land {X : zMa} {own : String} {cc : ByteArray} {fr lo mc ms : Nat} {ret : Option FieldType} {ini : Bool} {Rt : Option zAV → zMp → Prop} (hC : zCx X own cc fr lo mc ms ret ini Rt) {pc : Nat} (hd : decode cc pc = .ok (.land, 1)) {K : zKT} (hK : zLe K (zG X (pc + 1))) : zLe (i_land K) (zG X pc) := by
  obtain ⟨p, l, e, R, s, m, args, below, meth, c, Q, nL, D, A, ad0, M0⟩ := X
  obtain ⟨hx, hb, hml, hown, hts, hKS, hSF, hA, hR, hQ, hret, hlk, hini⟩ := hC
  intro L st M k n h
  unfold i_land at h
  split at h
  · intro ad H locs ls hH
    exact lv_land hx hb hd (hK L _ M k n h ad H locs ls (zHd_st hH (fun h => zsv_c trivial (zsv_t (zsv_t h)))))
  · exact h.elim

def i_lor (K : zKT) : zKT := fun L st M k n => match st with
  | .inl (.long y) :: .inl (.long x) :: st => K L (.inl (.long (x ||| y)) :: st) M k n
  | _ => False

theorem sd_lor {X : zMa} {own : String} {cc : ByteArray} {fr lo mc ms : Nat} {ret : Option FieldType} {ini : Bool} {Rt : Option zAV → zMp → Prop} (hC : zCx X own cc fr lo mc ms ret ini Rt) {pc : Nat} (hd : decode cc pc = .ok (.lor, 1)) {K : zKT} (hK : zLe K (zG X (pc + 1))) : zLe (i_lor K) (zG X pc) := by
  obtain ⟨p, l, e, R, s, m, args, below, meth, c, Q, nL, D, A, ad0, M0⟩ := X
  obtain ⟨hx, hb, hml, hown, hts, hKS, hSF, hA, hR, hQ, hret, hlk, hini⟩ := hC
  intro L st M k n h
  unfold i_lor at h
  split at h
  · intro ad H locs ls hH
    exact lv_lor hx hb hd (hK L _ M k n h ad H locs ls (zHd_st hH (fun h => zsv_c trivial (zsv_t (zsv_t h)))))
  · exact h.elim

def i_i2l (K : zKT) : zKT := fun L st M k n => match st with
  | .inl (.int x) :: st => K L (.inl (.long x.toInt64) :: st) M k n
  | _ => False

theorem sd_i2l {X : zMa} {own : String} {cc : ByteArray} {fr lo mc ms : Nat} {ret : Option FieldType} {ini : Bool} {Rt : Option zAV → zMp → Prop} (hC : zCx X own cc fr lo mc ms ret ini Rt) {pc : Nat} (hd : decode cc pc = .ok (.i2l, 1)) {K : zKT} (hK : zLe K (zG X (pc + 1))) : zLe (i_i2l K) (zG X pc) := by
  obtain ⟨p, l, e, R, s, m, args, below, meth, c, Q, nL, D, A, ad0, M0⟩ := X
  obtain ⟨hx, hb, hml, hown, hts, hKS, hSF, hA, hR, hQ, hret, hlk, hini⟩ := hC
  intro L st M k n h
  unfold i_i2l at h
  split at h
  · intro ad H locs ls hH
    exact lv_i2l hx hb hd rfl (hK L _ M k n h ad H locs ls (zHd_st hH (fun h => zsv_c trivial (zsv_t h))))
  · exact h.elim

def i_lushr (K : zKT) : zKT := fun L st M k n => match st with
  | .inl (.int y) :: .inl (.long x) :: st => K L (.inl (.long (x.toUInt64 >>> (y.toInt64.toUInt64 &&& Int64.toUInt64 63)).toInt64) :: st) M k n
  | _ => False

theorem sd_lushr {X : zMa} {own : String} {cc : ByteArray} {fr lo mc ms : Nat} {ret : Option FieldType} {ini : Bool} {Rt : Option zAV → zMp → Prop} (hC : zCx X own cc fr lo mc ms ret ini Rt) {pc : Nat} (hd : decode cc pc = .ok (.lushr, 1)) {K : zKT} (hK : zLe K (zG X (pc + 1))) : zLe (i_lushr K) (zG X pc) := by
  obtain ⟨p, l, e, R, s, m, args, below, meth, c, Q, nL, D, A, ad0, M0⟩ := X
  obtain ⟨hx, hb, hml, hown, hts, hKS, hSF, hA, hR, hQ, hret, hlk, hini⟩ := hC
  intro L st M k n h
  unfold i_lushr at h
  split at h
  · intro ad H locs ls hH
    exact lv_lushr hx hb hd rfl (hK L _ M k n h ad H locs ls (zHd_st hH (fun h => zsv_c trivial (zsv_t (zsv_t h)))))
  · exact h.elim

def i_lshl (K : zKT) : zKT := fun L st M k n => match st with
  | .inl (.int y) :: .inl (.long x) :: st => K L (.inl (.long (x <<< (y.toInt64 &&& 63))) :: st) M k n
  | _ => False

theorem sd_lshl {X : zMa} {own : String} {cc : ByteArray} {fr lo mc ms : Nat} {ret : Option FieldType} {ini : Bool} {Rt : Option zAV → zMp → Prop} (hC : zCx X own cc fr lo mc ms ret ini Rt) {pc : Nat} (hd : decode cc pc = .ok (.lshl, 1)) {K : zKT} (hK : zLe K (zG X (pc + 1))) : zLe (i_lshl K) (zG X pc) := by
  obtain ⟨p, l, e, R, s, m, args, below, meth, c, Q, nL, D, A, ad0, M0⟩ := X
  obtain ⟨hx, hb, hml, hown, hts, hKS, hSF, hA, hR, hQ, hret, hlk, hini⟩ := hC
  intro L st M k n h
  unfold i_lshl at h
  split at h
  · intro ad H locs ls hH
    exact lv_lshl hx hb hd rfl (hK L _ M k n h ad H locs ls (zHd_st hH (fun h => zsv_c trivial (zsv_t (zsv_t h)))))
  · exact h.elim

def i_lshr (K : zKT) : zKT := fun L st M k n => match st with
  | .inl (.int y) :: .inl (.long x) :: st => K L (.inl (.long (x >>> (y.toInt64 &&& 63))) :: st) M k n
  | _ => False

theorem sd_lshr {X : zMa} {own : String} {cc : ByteArray} {fr lo mc ms : Nat} {ret : Option FieldType} {ini : Bool} {Rt : Option zAV → zMp → Prop} (hC : zCx X own cc fr lo mc ms ret ini Rt) {pc : Nat} (hd : decode cc pc = .ok (.lshr, 1)) {K : zKT} (hK : zLe K (zG X (pc + 1))) : zLe (i_lshr K) (zG X pc) := by
  obtain ⟨p, l, e, R, s, m, args, below, meth, c, Q, nL, D, A, ad0, M0⟩ := X
  obtain ⟨hx, hb, hml, hown, hts, hKS, hSF, hA, hR, hQ, hret, hlk, hini⟩ := hC
  intro L st M k n h
  unfold i_lshr at h
  split at h
  · intro ad H locs ls hH
    exact lv_lshr hx hb hd rfl (hK L _ M k n h ad H locs ls (zHd_st hH (fun h => zsv_c trivial (zsv_t (zsv_t h)))))
  · exact h.elim

def i_lcmp (K : zKT) : zKT := fun L st M k n => match st with
  | .inl (.long y) :: .inl (.long x) :: st => K L (.inl (.int (lg_cmp x y)) :: st) M k n
  | _ => False

theorem sd_lcmp {X : zMa} {own : String} {cc : ByteArray} {fr lo mc ms : Nat} {ret : Option FieldType} {ini : Bool} {Rt : Option zAV → zMp → Prop} (hC : zCx X own cc fr lo mc ms ret ini Rt) {pc : Nat} (hd : decode cc pc = .ok (.lcmp, 1)) {K : zKT} (hK : zLe K (zG X (pc + 1))) : zLe (i_lcmp K) (zG X pc) := by
  obtain ⟨p, l, e, R, s, m, args, below, meth, c, Q, nL, D, A, ad0, M0⟩ := X
  obtain ⟨hx, hb, hml, hown, hts, hKS, hSF, hA, hR, hQ, hret, hlk, hini⟩ := hC
  intro L st M k n h
  unfold i_lcmp at h
  split at h
  · intro ad H locs ls hH
    exact W.lcmp hx hb hd (hK L _ M k n h ad H locs ls (zHd_st hH (fun h => zsv_c trivial (zsv_t (zsv_t h)))))
  · exact h.elim

def i_ic (x : Int32) (K : zKT) : zKT := fun L st M k n => K L (.inl (.int x) :: st) M k n
def i_lc (x : Int64) (K : zKT) : zKT := fun L st M k n => K L (.inl (.long x) :: st) M k n
def i_nul (K : zKT) : zKT := fun L st M k n => K L (.inl .null :: st) M k n

theorem sd_iconst {X : zMa} {own : String} {cc : ByteArray} {fr lo mc ms : Nat} {ret : Option FieldType} {ini : Bool} {Rt : Option zAV → zMp → Prop} (hC : zCx X own cc fr lo mc ms ret ini Rt) {pc : Nat} {z : Int} {x : Int32} (hz : Int32.ofInt z = x) (hd : decode cc pc = .ok (.iconst z, 1)) {K : zKT} (hK : zLe K (zG X (pc + 1))) : zLe (i_ic x K) (zG X pc) := by
  obtain ⟨p, l, e, R, s, m, args, below, meth, c, Q, nL, D, A, ad0, M0⟩ := X
  obtain ⟨hx, hb, hml, hown, hts, hKS, hSF, hA, hR, hQ, hret, hlk, hini⟩ := hC
  intro L st M k n h ad H locs ls hH
  exact lv_iconst hx hb hd hz (hK L _ M k n h ad H locs ls (zHd_st hH (fun h => zsv_c trivial h)))

theorem sd_bipush {X : zMa} {own : String} {cc : ByteArray} {fr lo mc ms : Nat} {ret : Option FieldType} {ini : Bool} {Rt : Option zAV → zMp → Prop} (hC : zCx X own cc fr lo mc ms ret ini Rt) {pc : Nat} {z : Int} {x : Int32} (hz : (Int8.ofInt z).toInt32 = x) (hd : decode cc pc = .ok (.bipush z, 2)) {K : zKT} (hK : zLe K (zG X (pc + 2))) : zLe (i_ic x K) (zG X pc) := by
  obtain ⟨p, l, e, R, s, m, args, below, meth, c, Q, nL, D, A, ad0, M0⟩ := X
  obtain ⟨hx, hb, hml, hown, hts, hKS, hSF, hA, hR, hQ, hret, hlk, hini⟩ := hC
  intro L st M k n h ad H locs ls hH
  exact lv_bipush hx hb hd hz (hK L _ M k n h ad H locs ls (zHd_st hH (fun h => zsv_c trivial h)))

theorem sd_sipush {X : zMa} {own : String} {cc : ByteArray} {fr lo mc ms : Nat} {ret : Option FieldType} {ini : Bool} {Rt : Option zAV → zMp → Prop} (hC : zCx X own cc fr lo mc ms ret ini Rt) {pc : Nat} {z : Int} {x : Int32} (hz : (Int16.ofInt z).toInt32 = x) (hd : decode cc pc = .ok (.sipush z, 3)) {K : zKT} (hK : zLe K (zG X (pc + 3))) : zLe (i_ic x K) (zG X pc) := by
  obtain ⟨p, l, e, R, s, m, args, below, meth, c, Q, nL, D, A, ad0, M0⟩ := X
  obtain ⟨hx, hb, hml, hown, hts, hKS, hSF, hA, hR, hQ, hret, hlk, hini⟩ := hC
  intro L st M k n h ad H locs ls hH
  exact lv_sipush hx hb hd hz (hK L _ M k n h ad H locs ls (zHd_st hH (fun h => zsv_c trivial h)))

theorem sd_ldc {X : zMa} {own : String} {cc : ByteArray} {fr lo mc ms : Nat} {ret : Option FieldType} {ini : Bool} {Rt : Option zAV → zMp → Prop} (hC : zCx X own cc fr lo mc ms ret ini Rt) {pc : Nat} {ix : Nat} {x : Int32} (hz : Cond.constant own ix x ∈ tb) (hd : decode cc pc = .ok (.ldc ix, 2)) {K : zKT} (hK : zLe K (zG X (pc + 2))) : zLe (i_ic x K) (zG X pc) := by
  obtain ⟨p, l, e, R, s, m, args, below, meth, c, Q, nL, D, A, ad0, M0⟩ := X
  obtain ⟨hx, hb, hml, hown, hts, hKS, hSF, hA, hR, hQ, hret, hlk, hini⟩ := hC
  intro L st M k n h ad H locs ls hH
  exact lv_ldc hx hb hown (hts _ hz) hd (hK L _ M k n h ad H locs ls (zHd_st hH (fun h => zsv_c trivial h)))

theorem sd_lconst {X : zMa} {own : String} {cc : ByteArray} {fr lo mc ms : Nat} {ret : Option FieldType} {ini : Bool} {Rt : Option zAV → zMp → Prop} (hC : zCx X own cc fr lo mc ms ret ini Rt) {pc : Nat} {z : Fin 2} {x : Int64} (hz : Int64.ofNat (z : Nat) = x) (hd : decode cc pc = .ok (.lconst z, 1)) {K : zKT} (hK : zLe K (zG X (pc + 1))) : zLe (i_lc x K) (zG X pc) := by
  obtain ⟨p, l, e, R, s, m, args, below, meth, c, Q, nL, D, A, ad0, M0⟩ := X
  obtain ⟨hx, hb, hml, hown, hts, hKS, hSF, hA, hR, hQ, hret, hlk, hini⟩ := hC
  intro L st M k n h ad H locs ls hH
  exact lv_lconst hx hb hd hz (hK L _ M k n h ad H locs ls (zHd_st hH (fun h => zsv_c trivial h)))

theorem sd_ldc2 {X : zMa} {own : String} {cc : ByteArray} {fr lo mc ms : Nat} {ret : Option FieldType} {ini : Bool} {Rt : Option zAV → zMp → Prop} (hC : zCx X own cc fr lo mc ms ret ini Rt) {pc : Nat} {ix : Nat} {x : Int64} (hz : Cond.constantLong own ix x ∈ tb) (hd : decode cc pc = .ok (.ldc2_w ix, 3)) {K : zKT} (hK : zLe K (zG X (pc + 3))) : zLe (i_lc x K) (zG X pc) := by
  obtain ⟨p, l, e, R, s, m, args, below, meth, c, Q, nL, D, A, ad0, M0⟩ := X
  obtain ⟨hx, hb, hml, hown, hts, hKS, hSF, hA, hR, hQ, hret, hlk, hini⟩ := hC
  intro L st M k n h ad H locs ls hH
  exact lv_ldc2 hx hb hown (hts _ hz) hd (hK L _ M k n h ad H locs ls (zHd_st hH (fun h => zsv_c trivial h)))

theorem sd_nul {X : zMa} {own : String} {cc : ByteArray} {fr lo mc ms : Nat} {ret : Option FieldType} {ini : Bool} {Rt : Option zAV → zMp → Prop} (hC : zCx X own cc fr lo mc ms ret ini Rt) {pc : Nat}  (hd : decode cc pc = .ok (.aconst_null, 1)) {K : zKT} (hK : zLe K (zG X (pc + 1))) : zLe (i_nul K) (zG X pc) := by
  obtain ⟨p, l, e, R, s, m, args, below, meth, c, Q, nL, D, A, ad0, M0⟩ := X
  obtain ⟨hx, hb, hml, hown, hts, hKS, hSF, hA, hR, hQ, hret, hlk, hini⟩ := hC
  intro L st M k n h ad H locs ls hH
  exact lv_null hx hb hd (hK L _ M k n h ad H locs ls (zHd_st hH (fun h => zsv_c trivial h)))

def i_il (i : Nat) (K : zKT) : zKT := fun L st M k n => match zlg L i with
  | some (.inl (.int x)) => K L (.inl (.int x) :: st) M k n
  | _ => False

theorem sd_il_n {X : zMa} {own : String} {cc : ByteArray} {fr lo mc ms : Nat} {ret : Option FieldType} {ini : Bool} {Rt : Option zAV → zMp → Prop} (hC : zCx X own cc fr lo mc ms ret ini Rt) {pc : Nat} {j : Fin 4} {i : Nat} (hi : (j : Nat) = i) (hd : decode cc pc = .ok (.iload_n j, 1)) {K : zKT} (hK : zLe K (zG X (pc + 1))) : zLe (i_il i K) (zG X pc) := by
  obtain ⟨p, l, e, R, s, m, args, below, meth, c, Q, nL, D, A, ad0, M0⟩ := X
  obtain ⟨hx, hb, hml, hown, hts, hKS, hSF, hA, hR, hQ, hret, hlk, hini⟩ := hC
  intro L st M k n h
  unfold i_il at h
  split at h
  · next x he =>
    intro ad H locs ls hH
    exact lv_iload_n hx hb hd hi (hH.2.2.1.2.2 _ _ he) (hK L _ M k n h ad H locs ls (zHd_st hH (fun h => zsv_c trivial h)))
  · exact h.elim

theorem sd_il {X : zMa} {own : String} {cc : ByteArray} {fr lo mc ms : Nat} {ret : Option FieldType} {ini : Bool} {Rt : Option zAV → zMp → Prop} (hC : zCx X own cc fr lo mc ms ret ini Rt) {pc : Nat} {i : Nat} (hd : decode cc pc = .ok (.iload i, 2)) {K : zKT} (hK : zLe K (zG X (pc + 2))) : zLe (i_il i K) (zG X pc) := by
  obtain ⟨p, l, e, R, s, m, args, below, meth, c, Q, nL, D, A, ad0, M0⟩ := X
  obtain ⟨hx, hb, hml, hown, hts, hKS, hSF, hA, hR, hQ, hret, hlk, hini⟩ := hC
  intro L st M k n h
  unfold i_il at h
  split at h
  · next x he =>
    intro ad H locs ls hH
    exact lv_iload hx hb hd (hH.2.2.1.2.2 _ _ he) (hK L _ M k n h ad H locs ls (zHd_st hH (fun h => zsv_c trivial h)))
  · exact h.elim

def i_ll (i : Nat) (K : zKT) : zKT := fun L st M k n => match zlg L i with
  | some (.inl (.long x)) => K L (.inl (.long x) :: st) M k n
  | _ => False

theorem sd_ll_n {X : zMa} {own : String} {cc : ByteArray} {fr lo mc ms : Nat} {ret : Option FieldType} {ini : Bool} {Rt : Option zAV → zMp → Prop} (hC : zCx X own cc fr lo mc ms ret ini Rt) {pc : Nat} {j : Fin 4} {i : Nat} (hi : (j : Nat) = i) (hd : decode cc pc = .ok (.lload_n j, 1)) {K : zKT} (hK : zLe K (zG X (pc + 1))) : zLe (i_ll i K) (zG X pc) := by
  obtain ⟨p, l, e, R, s, m, args, below, meth, c, Q, nL, D, A, ad0, M0⟩ := X
  obtain ⟨hx, hb, hml, hown, hts, hKS, hSF, hA, hR, hQ, hret, hlk, hini⟩ := hC
  intro L st M k n h
  unfold i_ll at h
  split at h
  · next x he =>
    intro ad H locs ls hH
    exact lv_lload_n hx hb hd hi (hH.2.2.1.2.2 _ _ he) (hK L _ M k n h ad H locs ls (zHd_st hH (fun h => zsv_c trivial h)))
  · exact h.elim

theorem sd_ll {X : zMa} {own : String} {cc : ByteArray} {fr lo mc ms : Nat} {ret : Option FieldType} {ini : Bool} {Rt : Option zAV → zMp → Prop} (hC : zCx X own cc fr lo mc ms ret ini Rt) {pc : Nat} {i : Nat} (hd : decode cc pc = .ok (.lload i, 2)) {K : zKT} (hK : zLe K (zG X (pc + 2))) : zLe (i_ll i K) (zG X pc) := by
  obtain ⟨p, l, e, R, s, m, args, below, meth, c, Q, nL, D, A, ad0, M0⟩ := X
  obtain ⟨hx, hb, hml, hown, hts, hKS, hSF, hA, hR, hQ, hret, hlk, hini⟩ := hC
  intro L st M k n h
  unfold i_ll at h
  split at h
  · next x he =>
    intro ad H locs ls hH
    exact lv_lload hx hb hd (hH.2.2.1.2.2 _ _ he) (hK L _ M k n h ad H locs ls (zHd_st hH (fun h => zsv_c trivial h)))
  · exact h.elim

def i_al (i : Nat) (K : zKT) : zKT := fun L st M k n => match zlg L i with
  | some (.inr a) => K L (.inr a :: st) M k n
  | some (.inl .null) => K L (.inl .null :: st) M k n
  | _ => False

theorem sd_al_n {X : zMa} {own : String} {cc : ByteArray} {fr lo mc ms : Nat} {ret : Option FieldType} {ini : Bool} {Rt : Option zAV → zMp → Prop} (hC : zCx X own cc fr lo mc ms ret ini Rt) {pc : Nat} {j : Fin 4} {i : Nat} (hi : (j : Nat) = i) (hd : decode cc pc = .ok (.aload_n j, 1)) {K : zKT} (hK : zLe K (zG X (pc + 1))) : zLe (i_al i K) (zG X pc) := by
  obtain ⟨p, l, e, R, s, m, args, below, meth, c, Q, nL, D, A, ad0, M0⟩ := X
  obtain ⟨hx, hb, hml, hown, hts, hKS, hSF, hA, hR, hQ, hret, hlk, hini⟩ := hC
  intro L st M k n h
  unfold i_al at h
  split at h
  · next x he =>
    intro ad H locs ls hH
    exact lv_aload_n hx hb hd hi (hH.2.2.1.2.2 _ _ he) (hK L _ M k n h ad H locs ls (zHd_st hH (fun h => zsv_c (hH.2.2.2.2.1 _ _ he) h)))
  · next he =>
    intro ad H locs ls hH
    exact lv_aload_nN hx hb hd hi (hH.2.2.1.2.2 _ _ he) (hK L _ M k n h ad H locs ls (zHd_st hH (fun h => zsv_c trivial h)))
  · exact h.elim

theorem sd_al {X : zMa} {own : String} {cc : ByteArray} {fr lo mc ms : Nat} {ret : Option FieldType} {ini : Bool} {Rt : Option zAV → zMp → Prop} (hC : zCx X own cc fr lo mc ms ret ini Rt) {pc : Nat} {i : Nat} (hd : decode cc pc = .ok (.aload i, 2)) {K : zKT} (hK : zLe K (zG X (pc + 2))) : zLe (i_al i K) (zG X pc) := by
  obtain ⟨p, l, e, R, s, m, args, below, meth, c, Q, nL, D, A, ad0, M0⟩ := X
  obtain ⟨hx, hb, hml, hown, hts, hKS, hSF, hA, hR, hQ, hret, hlk, hini⟩ := hC
  intro L st M k n h
  unfold i_al at h
  split at h
  · next x he =>
    intro ad H locs ls hH
    exact lv_aload hx hb hd (hH.2.2.1.2.2 _ _ he) (hK L _ M k n h ad H locs ls (zHd_st hH (fun h => zsv_c (hH.2.2.2.2.1 _ _ he) h)))
  · next he =>
    intro ad H locs ls hH
    exact lv_aloadN hx hb hd (hH.2.2.1.2.2 _ _ he) (hK L _ M k n h ad H locs ls (zHd_st hH (fun h => zsv_c trivial h)))
  · exact h.elim

theorem zHd_lo {s : State} {nL : Nat} {D : va_G} {A : Nat → Prop} {ad0 : zNm → Nat} {M0 : zMp} {ad : zNm → Nat} {H : Heap} {locs : List Loc} {ls ls' : Array Slot} {L L' : List (Option zAV)} {st st' : List zAV} {M : zMp} (h : zHd s nL D A ad0 M0 ad H locs ls L st M) (hl : zlH ad nL ls' L') (ha : ∀ k v, zlg L' k = some v → zalv M v) (hs : zsv M st → zsv M st') : zHd s nL D A ad0 M0 ad H locs ls' L' st' M := ⟨h.1, h.2.1, hl, h.2.2.2.1, ha, hs h.2.2.2.2.2⟩

def i_is (i : Nat) (K : zKT) : zKT := fun L st M k n => match st with
  | .inl (.int x) :: st => znl L i ∧ K (zls L i (some (.inl (.int x)))) st M k n
  | _ => False

def i_as (i : Nat) (K : zKT) : zKT := fun L st M k n => match st with
  | .inr x :: st => znl L i ∧ K (zls L i (some (.inr x))) st M k n
  | .inl .null :: st => znl L i ∧ K (zls L i (some (.inl .null))) st M k n
  | _ => False

def i_ls (i : Nat) (K : zKT) : zKT := fun L st M k n => match st with
  | .inl (.long x) :: st => znl L i ∧ K (zls (zls L (i + 1) none) i (some (.inl (.long x)))) st M k n
  | _ => False

def i_inc (i : Nat) (d : Int32) (K : zKT) : zKT := fun L st M k n => match zlg L i with
  | some (.inl (.int x)) => znl L i ∧ K (zls L i (some (.inl (.int (x + d))))) st M k n
  | _ => False

def zNL (X : zMa) : Nat := match X with
  | (_, _, _, _, _, _, _, _, _, _, _, nL, _, _, _, _) => nL

theorem sd_is_n {X : zMa} {own : String} {cc : ByteArray} {fr lo mc ms : Nat} {ret : Option FieldType} {ini : Bool} {Rt : Option zAV → zMp → Prop} (hC : zCx X own cc fr lo mc ms ret ini Rt) {pc : Nat} {j : Fin 4} {i : Nat} (hi : (j : Nat) = i) (hnL : i < zNL X) (hd : decode cc pc = .ok (.istore_n j, 1)) {K : zKT} (hK : zLe K (zG X (pc + 1))) : zLe (i_is i K) (zG X pc) := by
  obtain ⟨p, l, e, R, s, m, args, below, meth, c, Q, nL, D, A, ad0, M0⟩ := X
  obtain ⟨hx, hb, hml, hown, hts, hKS, hSF, hA, hR, hQ, hret, hlk, hini⟩ := hC
  intro L st M k n h
  unfold i_is at h
  split at h
  · next x st =>
    obtain ⟨hz, h⟩ := h
    intro ad H locs ls hH
    refine lv_istore_n hx hb hd hi (zlH_has hH.2.2.1) hnL rfl (fun ls' hl' => ?_)
    exact hK _ _ M k n h ad H locs ls' (zHd_lo hH (zlH_st1 hz hl') (zll_set hH.2.2.2.2.1 trivial) zsv_t)
  · exact h.elim

theorem sd_is {X : zMa} {own : String} {cc : ByteArray} {fr lo mc ms : Nat} {ret : Option FieldType} {ini : Bool} {Rt : Option zAV → zMp → Prop} (hC : zCx X own cc fr lo mc ms ret ini Rt) {pc : Nat} {i : Nat} (hnL : i < zNL X) (hd : decode cc pc = .ok (.istore i, 2)) {K : zKT} (hK : zLe K (zG X (pc + 2))) : zLe (i_is i K) (zG X pc) := by
  obtain ⟨p, l, e, R, s, m, args, below, meth, c, Q, nL, D, A, ad0, M0⟩ := X
  obtain ⟨hx, hb, hml, hown, hts, hKS, hSF, hA, hR, hQ, hret, hlk, hini⟩ := hC
  intro L st M k n h
  unfold i_is at h
  split at h
  · next x st =>
    obtain ⟨hz, h⟩ := h
    intro ad H locs ls hH
    refine lv_istore hx hb hd (zlH_has hH.2.2.1) hnL rfl (fun ls' hl' => ?_)
    exact hK _ _ M k n h ad H locs ls' (zHd_lo hH (zlH_st1 hz hl') (zll_set hH.2.2.2.2.1 trivial) zsv_t)
  · exact h.elim

theorem sd_as_n {X : zMa} {own : String} {cc : ByteArray} {fr lo mc ms : Nat} {ret : Option FieldType} {ini : Bool} {Rt : Option zAV → zMp → Prop} (hC : zCx X own cc fr lo mc ms ret ini Rt) {pc : Nat} {j : Fin 4} {i : Nat} (hi : (j : Nat) = i) (hnL : i < zNL X) (hd : decode cc pc = .ok (.astore_n j, 1)) {K : zKT} (hK : zLe K (zG X (pc + 1))) : zLe (i_as i K) (zG X pc) := by
  obtain ⟨p, l, e, R, s, m, args, below, meth, c, Q, nL, D, A, ad0, M0⟩ := X
  obtain ⟨hx, hb, hml, hown, hts, hKS, hSF, hA, hR, hQ, hret, hlk, hini⟩ := hC
  intro L st M k n h
  unfold i_as at h
  split at h
  · next x st =>
    obtain ⟨hz, h⟩ := h
    intro ad H locs ls hH
    refine lv_astore_n hx hb hd hi (zlH_has hH.2.2.1) hnL rfl (fun ls' hl' => ?_)
    exact hK _ _ M k n h ad H locs ls' (zHd_lo hH (zlH_st1 (a := .inr x) hz hl') (zll_set hH.2.2.2.2.1 (zsv_h hH.2.2.2.2.2)) zsv_t)
  · next st =>
    obtain ⟨hz, h⟩ := h
    intro ad H locs ls hH
    refine lv_astore_nN hx hb hd hi (zlH_has hH.2.2.1) hnL rfl (fun ls' hl' => ?_)
    exact hK _ _ M k n h ad H locs ls' (zHd_lo hH (zlH_st1 (a := .inl .null) hz hl') (zll_set hH.2.2.2.2.1 trivial) zsv_t)
  · exact h.elim

theorem sd_as {X : zMa} {own : String} {cc : ByteArray} {fr lo mc ms : Nat} {ret : Option FieldType} {ini : Bool} {Rt : Option zAV → zMp → Prop} (hC : zCx X own cc fr lo mc ms ret ini Rt) {pc : Nat} {i : Nat} (hnL : i < zNL X) (hd : decode cc pc = .ok (.astore i, 2)) {K : zKT} (hK : zLe K (zG X (pc + 2))) : zLe (i_as i K) (zG X pc) := by
  obtain ⟨p, l, e, R, s, m, args, below, meth, c, Q, nL, D, A, ad0, M0⟩ := X
  obtain ⟨hx, hb, hml, hown, hts, hKS, hSF, hA, hR, hQ, hret, hlk, hini⟩ := hC
  intro L st M k n h
  unfold i_as at h
  split at h
  · next x st =>
    obtain ⟨hz, h⟩ := h
    intro ad H locs ls hH
    refine lv_astore hx hb hd (zlH_has hH.2.2.1) hnL rfl (fun ls' hl' => ?_)
    exact hK _ _ M k n h ad H locs ls' (zHd_lo hH (zlH_st1 (a := .inr x) hz hl') (zll_set hH.2.2.2.2.1 (zsv_h hH.2.2.2.2.2)) zsv_t)
  · next st =>
    obtain ⟨hz, h⟩ := h
    intro ad H locs ls hH
    refine lv_astoreN hx hb hd (zlH_has hH.2.2.1) hnL rfl (fun ls' hl' => ?_)
    exact hK _ _ M k n h ad H locs ls' (zHd_lo hH (zlH_st1 (a := .inl .null) hz hl') (zll_set hH.2.2.2.2.1 trivial) zsv_t)
  · exact h.elim

theorem sd_ls_n {X : zMa} {own : String} {cc : ByteArray} {fr lo mc ms : Nat} {ret : Option FieldType} {ini : Bool} {Rt : Option zAV → zMp → Prop} (hC : zCx X own cc fr lo mc ms ret ini Rt) {pc : Nat} {j : Fin 4} {i : Nat} (hi : (j : Nat) = i) (hnL : i + 1 < zNL X) (hd : decode cc pc = .ok (.lstore_n j, 1)) {K : zKT} (hK : zLe K (zG X (pc + 1))) : zLe (i_ls i K) (zG X pc) := by
  obtain ⟨p, l, e, R, s, m, args, below, meth, c, Q, nL, D, A, ad0, M0⟩ := X
  obtain ⟨hx, hb, hml, hown, hts, hKS, hSF, hA, hR, hQ, hret, hlk, hini⟩ := hC
  intro L st M k n h
  unfold i_ls at h
  split at h
  · next x st =>
    obtain ⟨hz, h⟩ := h
    intro ad H locs ls hH
    refine lv_lstore_n hx hb hd hi (zlH_has hH.2.2.1) hnL rfl (fun ls' hl' => ?_)
    exact hK _ _ M k n h ad H locs ls' (zHd_lo hH (zlH_st2 hz hl') (zll_set2 hH.2.2.2.2.1 trivial) zsv_t)
  · exact h.elim

theorem sd_ls {X : zMa} {own : String} {cc : ByteArray} {fr lo mc ms : Nat} {ret : Option FieldType} {ini : Bool} {Rt : Option zAV → zMp → Prop} (hC : zCx X own cc fr lo mc ms ret ini Rt) {pc : Nat} {i : Nat} (hnL : i + 1 < zNL X) (hd : decode cc pc = .ok (.lstore i, 2)) {K : zKT} (hK : zLe K (zG X (pc + 2))) : zLe (i_ls i K) (zG X pc) := by
  obtain ⟨p, l, e, R, s, m, args, below, meth, c, Q, nL, D, A, ad0, M0⟩ := X
  obtain ⟨hx, hb, hml, hown, hts, hKS, hSF, hA, hR, hQ, hret, hlk, hini⟩ := hC
  intro L st M k n h
  unfold i_ls at h
  split at h
  · next x st =>
    obtain ⟨hz, h⟩ := h
    intro ad H locs ls hH
    refine lv_lstore hx hb hd (zlH_has hH.2.2.1) hnL rfl (fun ls' hl' => ?_)
    exact hK _ _ M k n h ad H locs ls' (zHd_lo hH (zlH_st2 hz hl') (zll_set2 hH.2.2.2.2.1 trivial) zsv_t)
  · exact h.elim

theorem sd_inc {X : zMa} {own : String} {cc : ByteArray} {fr lo mc ms : Nat} {ret : Option FieldType} {ini : Bool} {Rt : Option zAV → zMp → Prop} (hC : zCx X own cc fr lo mc ms ret ini Rt) {pc : Nat} {i : Nat} {z : Int} {d : Int32} (hz : Int32.ofInt z = d) (hnL : i < zNL X) (hd : decode cc pc = .ok (.iinc i z, 3)) {K : zKT} (hK : zLe K (zG X (pc + 3))) : zLe (i_inc i d K) (zG X pc) := by
  obtain ⟨p, l, e, R, s, m, args, below, meth, c, Q, nL, D, A, ad0, M0⟩ := X
  obtain ⟨hx, hb, hml, hown, hts, hKS, hSF, hA, hR, hQ, hret, hlk, hini⟩ := hC
  intro L st M k n h
  unfold i_inc at h
  split at h
  · next x he =>
    obtain ⟨hz2, h⟩ := h
    intro ad H locs ls hH
    subst hz
    have hm : (i, Value.int x) ∈ zlv ad L := zlv_m.mpr ⟨_, he, rfl⟩
    obtain ⟨j, hj⟩ := List.getElem?_of_mem hm
    refine lv_iinc hx hb hd (zlH_has hH.2.2.1) hj rfl hnL rfl (fun ls' hl' => ?_)
    exact hK _ _ M k n h ad H locs ls' (zHd_lo hH (zlH_st1 (a := .inl (.int (x + Int32.ofInt z))) hz2 hl') (zll_set hH.2.2.2.2.1 trivial) id)
  · exact h.elim

def zc1 : zAV → Prop
  | .inl (.long _) => False
  | .inl (.double _) => False
  | _ => True
theorem zc1_c {ad : zNm → Nat} {v : zAV} (h : zc1 v) : (zcv ad v).category = 1 := by
  match v, h with
  | .inl (.int _), _ => rfl
  | .inl (.float _), _ => rfl
  | .inl (.ref _), _ => rfl
  | .inl .null, _ => rfl
  | .inl (.retAddr _), _ => rfl
  | .inr _, _ => rfl

def i_dup (K : zKT) : zKT := fun L st M k n => match st with
  | a :: st => zc1 a ∧ K L (a :: a :: st) M k n
  | _ => False

theorem sd_dup {X : zMa} {own : String} {cc : ByteArray} {fr lo mc ms : Nat} {ret : Option FieldType} {ini : Bool} {Rt : Option zAV → zMp → Prop} (hC : zCx X own cc fr lo mc ms ret ini Rt) {pc : Nat} (hd : decode cc pc = .ok (.dup, 1)) {K : zKT} (hK : zLe K (zG X (pc + 1))) : zLe (i_dup K) (zG X pc) := by
  obtain ⟨p, l, e, R, s, m, args, below, meth, c, Q, nL, D, A, ad0, M0⟩ := X
  obtain ⟨hx, hb, hml, hown, hts, hKS, hSF, hA, hR, hQ, hret, hlk, hini⟩ := hC
  intro L st M k n h
  unfold i_dup at h
  split at h
  · obtain ⟨hca, h⟩ := h
    intro ad H locs ls hH
    exact lv_dup hx hb hd (zc1_c hca) (hK L _ M k n h ad H locs ls (zHd_st hH (fun h => zsv_c (zsv_h h) h)))
  · exact h.elim

def i_pop (K : zKT) : zKT := fun L st M k n => match st with
  | a :: st => zc1 a ∧ K L (st) M k n
  | _ => False

theorem sd_pop {X : zMa} {own : String} {cc : ByteArray} {fr lo mc ms : Nat} {ret : Option FieldType} {ini : Bool} {Rt : Option zAV → zMp → Prop} (hC : zCx X own cc fr lo mc ms ret ini Rt) {pc : Nat} (hd : decode cc pc = .ok (.pop, 1)) {K : zKT} (hK : zLe K (zG X (pc + 1))) : zLe (i_pop K) (zG X pc) := by
  obtain ⟨p, l, e, R, s, m, args, below, meth, c, Q, nL, D, A, ad0, M0⟩ := X
  obtain ⟨hx, hb, hml, hown, hts, hKS, hSF, hA, hR, hQ, hret, hlk, hini⟩ := hC
  intro L st M k n h
  unfold i_pop at h
  split at h
  · obtain ⟨hca, h⟩ := h
    intro ad H locs ls hH
    exact lv_pop hx hb hd (zc1_c hca) (hK L _ M k n h ad H locs ls (zHd_st hH (zsv_t)))
  · exact h.elim

def i_dx1 (K : zKT) : zKT := fun L st M k n => match st with
  | a :: b :: st => zc1 a ∧ zc1 b ∧ K L (a :: b :: a :: st) M k n
  | _ => False

theorem sd_dx1 {X : zMa} {own : String} {cc : ByteArray} {fr lo mc ms : Nat} {ret : Option FieldType} {ini : Bool} {Rt : Option zAV → zMp → Prop} (hC : zCx X own cc fr lo mc ms ret ini Rt) {pc : Nat} (hd : decode cc pc = .ok (.dup_x1, 1)) {K : zKT} (hK : zLe K (zG X (pc + 1))) : zLe (i_dx1 K) (zG X pc) := by
  obtain ⟨p, l, e, R, s, m, args, below, meth, c, Q, nL, D, A, ad0, M0⟩ := X
  obtain ⟨hx, hb, hml, hown, hts, hKS, hSF, hA, hR, hQ, hret, hlk, hini⟩ := hC
  intro L st M k n h
  unfold i_dx1 at h
  split at h
  · obtain ⟨hca, hcb, h⟩ := h
    intro ad H locs ls hH
    exact lv_dup_x1 hx hb hd (zc1_c hca) (zc1_c hcb) (hK L _ M k n h ad H locs ls (zHd_st hH (fun h => zsv_c (zsv_h h) (zsv_c (zsv_h (zsv_t h)) (zsv_c (zsv_h h) (zsv_t (zsv_t h)))))))
  · exact h.elim

def i_dup2 (K : zKT) : zKT := fun L st M k n => match st with
  | a :: b :: st => zc1 a ∧ zc1 b ∧ K L (a :: b :: a :: b :: st) M k n
  | _ => False

theorem sd_dup2 {X : zMa} {own : String} {cc : ByteArray} {fr lo mc ms : Nat} {ret : Option FieldType} {ini : Bool} {Rt : Option zAV → zMp → Prop} (hC : zCx X own cc fr lo mc ms ret ini Rt) {pc : Nat} (hd : decode cc pc = .ok (.dup2, 1)) {K : zKT} (hK : zLe K (zG X (pc + 1))) : zLe (i_dup2 K) (zG X pc) := by
  obtain ⟨p, l, e, R, s, m, args, below, meth, c, Q, nL, D, A, ad0, M0⟩ := X
  obtain ⟨hx, hb, hml, hown, hts, hKS, hSF, hA, hR, hQ, hret, hlk, hini⟩ := hC
  intro L st M k n h
  unfold i_dup2 at h
  split at h
  · obtain ⟨hca, hcb, h⟩ := h
    intro ad H locs ls hH
    exact lv_dup2_11 hx hb hd (zc1_c hca) (zc1_c hcb) (hK L _ M k n h ad H locs ls (zHd_st hH (fun h => zsv_c (zsv_h h) (zsv_c (zsv_h (zsv_t h)) h))))
  · exact h.elim

def i_ifeq (Kt Kf : zKT) : zKT := fun L st M k n => match st with
  | .inl (.int x) :: st => (x = 0 → Kt L st M k n) ∧ (¬ x = 0 → Kf L st M k n)
  | _ => False

theorem sd_ifeq {X : zMa} {own : String} {cc : ByteArray} {fr lo mc ms : Nat} {ret : Option FieldType} {ini : Bool} {Rt : Option zAV → zMp → Prop} (hC : zCx X own cc fr lo mc ms ret ini Rt) {pc : Nat} {off : Int} {tgt : Nat} (ht : (pc : Int) + off = (tgt : Int)) (hd : decode cc pc = .ok (.ifCond .eq off, 3)) {Kt Kf : zKT} (hKt : zLe Kt (zG X tgt)) (hKf : zLe Kf (zG X (pc + 3))) : zLe (i_ifeq Kt Kf) (zG X pc) := by
  obtain ⟨p, l, e, R, s, m, args, below, meth, c, Q, nL, D, A, ad0, M0⟩ := X
  obtain ⟨hx, hb, hml, hown, hts, hKS, hSF, hA, hR, hQ, hret, hlk, hini⟩ := hC
  intro L st M k n h
  unfold i_ifeq at h
  split at h
  · obtain ⟨h1, h2⟩ := h
    intro ad H locs ls hH
    exact lv_if_eq hx hb hd ht (fun q => hKt L _ M k n (h1 q) ad H locs ls (zHd_st hH (zsv_t))) (fun q => hKf L _ M k n (h2 q) ad H locs ls (zHd_st hH (zsv_t)))
  · exact h.elim

def i_iceq (Kt Kf : zKT) : zKT := fun L st M k n => match st with
  | .inl (.int y) :: .inl (.int x) :: st => (x = y → Kt L st M k n) ∧ (¬ x = y → Kf L st M k n)
  | _ => False

theorem sd_iceq {X : zMa} {own : String} {cc : ByteArray} {fr lo mc ms : Nat} {ret : Option FieldType} {ini : Bool} {Rt : Option zAV → zMp → Prop} (hC : zCx X own cc fr lo mc ms ret ini Rt) {pc : Nat} {off : Int} {tgt : Nat} (ht : (pc : Int) + off = (tgt : Int)) (hd : decode cc pc = .ok (.if_icmp .eq off, 3)) {Kt Kf : zKT} (hKt : zLe Kt (zG X tgt)) (hKf : zLe Kf (zG X (pc + 3))) : zLe (i_iceq Kt Kf) (zG X pc) := by
  obtain ⟨p, l, e, R, s, m, args, below, meth, c, Q, nL, D, A, ad0, M0⟩ := X
  obtain ⟨hx, hb, hml, hown, hts, hKS, hSF, hA, hR, hQ, hret, hlk, hini⟩ := hC
  intro L st M k n h
  unfold i_iceq at h
  split at h
  · obtain ⟨h1, h2⟩ := h
    intro ad H locs ls hH
    exact lv_icmp_eq hx hb hd ht (fun q => hKt L _ M k n (h1 q) ad H locs ls (zHd_st hH (fun h => zsv_t (zsv_t h)))) (fun q => hKf L _ M k n (h2 q) ad H locs ls (zHd_st hH (fun h => zsv_t (zsv_t h))))
  · exact h.elim

def i_ifne (Kt Kf : zKT) : zKT := fun L st M k n => match st with
  | .inl (.int x) :: st => (¬ x = 0 → Kt L st M k n) ∧ (x = 0 → Kf L st M k n)
  | _ => False

theorem sd_ifne {X : zMa} {own : String} {cc : ByteArray} {fr lo mc ms : Nat} {ret : Option FieldType} {ini : Bool} {Rt : Option zAV → zMp → Prop} (hC : zCx X own cc fr lo mc ms ret ini Rt) {pc : Nat} {off : Int} {tgt : Nat} (ht : (pc : Int) + off = (tgt : Int)) (hd : decode cc pc = .ok (.ifCond .ne off, 3)) {Kt Kf : zKT} (hKt : zLe Kt (zG X tgt)) (hKf : zLe Kf (zG X (pc + 3))) : zLe (i_ifne Kt Kf) (zG X pc) := by
  obtain ⟨p, l, e, R, s, m, args, below, meth, c, Q, nL, D, A, ad0, M0⟩ := X
  obtain ⟨hx, hb, hml, hown, hts, hKS, hSF, hA, hR, hQ, hret, hlk, hini⟩ := hC
  intro L st M k n h
  unfold i_ifne at h
  split at h
  · obtain ⟨h1, h2⟩ := h
    intro ad H locs ls hH
    exact lv_if_ne hx hb hd ht (fun q => hKt L _ M k n (h1 q) ad H locs ls (zHd_st hH (zsv_t))) (fun q => hKf L _ M k n (h2 q) ad H locs ls (zHd_st hH (zsv_t)))
  · exact h.elim

def i_icne (Kt Kf : zKT) : zKT := fun L st M k n => match st with
  | .inl (.int y) :: .inl (.int x) :: st => (¬ x = y → Kt L st M k n) ∧ (x = y → Kf L st M k n)
  | _ => False

theorem sd_icne {X : zMa} {own : String} {cc : ByteArray} {fr lo mc ms : Nat} {ret : Option FieldType} {ini : Bool} {Rt : Option zAV → zMp → Prop} (hC : zCx X own cc fr lo mc ms ret ini Rt) {pc : Nat} {off : Int} {tgt : Nat} (ht : (pc : Int) + off = (tgt : Int)) (hd : decode cc pc = .ok (.if_icmp .ne off, 3)) {Kt Kf : zKT} (hKt : zLe Kt (zG X tgt)) (hKf : zLe Kf (zG X (pc + 3))) : zLe (i_icne Kt Kf) (zG X pc) := by
  obtain ⟨p, l, e, R, s, m, args, below, meth, c, Q, nL, D, A, ad0, M0⟩ := X
  obtain ⟨hx, hb, hml, hown, hts, hKS, hSF, hA, hR, hQ, hret, hlk, hini⟩ := hC
  intro L st M k n h
  unfold i_icne at h
  split at h
  · obtain ⟨h1, h2⟩ := h
    intro ad H locs ls hH
    exact lv_icmp_ne hx hb hd ht (fun q => hKt L _ M k n (h1 q) ad H locs ls (zHd_st hH (fun h => zsv_t (zsv_t h)))) (fun q => hKf L _ M k n (h2 q) ad H locs ls (zHd_st hH (fun h => zsv_t (zsv_t h))))
  · exact h.elim

def i_iflt (Kt Kf : zKT) : zKT := fun L st M k n => match st with
  | .inl (.int x) :: st => (x < 0 → Kt L st M k n) ∧ (¬ x < 0 → Kf L st M k n)
  | _ => False

theorem sd_iflt {X : zMa} {own : String} {cc : ByteArray} {fr lo mc ms : Nat} {ret : Option FieldType} {ini : Bool} {Rt : Option zAV → zMp → Prop} (hC : zCx X own cc fr lo mc ms ret ini Rt) {pc : Nat} {off : Int} {tgt : Nat} (ht : (pc : Int) + off = (tgt : Int)) (hd : decode cc pc = .ok (.ifCond .lt off, 3)) {Kt Kf : zKT} (hKt : zLe Kt (zG X tgt)) (hKf : zLe Kf (zG X (pc + 3))) : zLe (i_iflt Kt Kf) (zG X pc) := by
  obtain ⟨p, l, e, R, s, m, args, below, meth, c, Q, nL, D, A, ad0, M0⟩ := X
  obtain ⟨hx, hb, hml, hown, hts, hKS, hSF, hA, hR, hQ, hret, hlk, hini⟩ := hC
  intro L st M k n h
  unfold i_iflt at h
  split at h
  · obtain ⟨h1, h2⟩ := h
    intro ad H locs ls hH
    exact lv_if_lt hx hb hd ht (fun q => hKt L _ M k n (h1 q) ad H locs ls (zHd_st hH (zsv_t))) (fun q => hKf L _ M k n (h2 q) ad H locs ls (zHd_st hH (zsv_t)))
  · exact h.elim

def i_iclt (Kt Kf : zKT) : zKT := fun L st M k n => match st with
  | .inl (.int y) :: .inl (.int x) :: st => (x < y → Kt L st M k n) ∧ (¬ x < y → Kf L st M k n)
  | _ => False

theorem sd_iclt {X : zMa} {own : String} {cc : ByteArray} {fr lo mc ms : Nat} {ret : Option FieldType} {ini : Bool} {Rt : Option zAV → zMp → Prop} (hC : zCx X own cc fr lo mc ms ret ini Rt) {pc : Nat} {off : Int} {tgt : Nat} (ht : (pc : Int) + off = (tgt : Int)) (hd : decode cc pc = .ok (.if_icmp .lt off, 3)) {Kt Kf : zKT} (hKt : zLe Kt (zG X tgt)) (hKf : zLe Kf (zG X (pc + 3))) : zLe (i_iclt Kt Kf) (zG X pc) := by
  obtain ⟨p, l, e, R, s, m, args, below, meth, c, Q, nL, D, A, ad0, M0⟩ := X
  obtain ⟨hx, hb, hml, hown, hts, hKS, hSF, hA, hR, hQ, hret, hlk, hini⟩ := hC
  intro L st M k n h
  unfold i_iclt at h
  split at h
  · obtain ⟨h1, h2⟩ := h
    intro ad H locs ls hH
    exact lv_icmp_lt hx hb hd ht (fun q => hKt L _ M k n (h1 q) ad H locs ls (zHd_st hH (fun h => zsv_t (zsv_t h)))) (fun q => hKf L _ M k n (h2 q) ad H locs ls (zHd_st hH (fun h => zsv_t (zsv_t h))))
  · exact h.elim

def i_ifge (Kt Kf : zKT) : zKT := fun L st M k n => match st with
  | .inl (.int x) :: st => (0 ≤ x → Kt L st M k n) ∧ (¬ 0 ≤ x → Kf L st M k n)
  | _ => False

theorem sd_ifge {X : zMa} {own : String} {cc : ByteArray} {fr lo mc ms : Nat} {ret : Option FieldType} {ini : Bool} {Rt : Option zAV → zMp → Prop} (hC : zCx X own cc fr lo mc ms ret ini Rt) {pc : Nat} {off : Int} {tgt : Nat} (ht : (pc : Int) + off = (tgt : Int)) (hd : decode cc pc = .ok (.ifCond .ge off, 3)) {Kt Kf : zKT} (hKt : zLe Kt (zG X tgt)) (hKf : zLe Kf (zG X (pc + 3))) : zLe (i_ifge Kt Kf) (zG X pc) := by
  obtain ⟨p, l, e, R, s, m, args, below, meth, c, Q, nL, D, A, ad0, M0⟩ := X
  obtain ⟨hx, hb, hml, hown, hts, hKS, hSF, hA, hR, hQ, hret, hlk, hini⟩ := hC
  intro L st M k n h
  unfold i_ifge at h
  split at h
  · obtain ⟨h1, h2⟩ := h
    intro ad H locs ls hH
    exact lv_if_ge hx hb hd ht (fun q => hKt L _ M k n (h1 q) ad H locs ls (zHd_st hH (zsv_t))) (fun q => hKf L _ M k n (h2 q) ad H locs ls (zHd_st hH (zsv_t)))
  · exact h.elim

def i_icge (Kt Kf : zKT) : zKT := fun L st M k n => match st with
  | .inl (.int y) :: .inl (.int x) :: st => (y ≤ x → Kt L st M k n) ∧ (¬ y ≤ x → Kf L st M k n)
  | _ => False

theorem sd_icge {X : zMa} {own : String} {cc : ByteArray} {fr lo mc ms : Nat} {ret : Option FieldType} {ini : Bool} {Rt : Option zAV → zMp → Prop} (hC : zCx X own cc fr lo mc ms ret ini Rt) {pc : Nat} {off : Int} {tgt : Nat} (ht : (pc : Int) + off = (tgt : Int)) (hd : decode cc pc = .ok (.if_icmp .ge off, 3)) {Kt Kf : zKT} (hKt : zLe Kt (zG X tgt)) (hKf : zLe Kf (zG X (pc + 3))) : zLe (i_icge Kt Kf) (zG X pc) := by
  obtain ⟨p, l, e, R, s, m, args, below, meth, c, Q, nL, D, A, ad0, M0⟩ := X
  obtain ⟨hx, hb, hml, hown, hts, hKS, hSF, hA, hR, hQ, hret, hlk, hini⟩ := hC
  intro L st M k n h
  unfold i_icge at h
  split at h
  · obtain ⟨h1, h2⟩ := h
    intro ad H locs ls hH
    exact lv_icmp_ge hx hb hd ht (fun q => hKt L _ M k n (h1 q) ad H locs ls (zHd_st hH (fun h => zsv_t (zsv_t h)))) (fun q => hKf L _ M k n (h2 q) ad H locs ls (zHd_st hH (fun h => zsv_t (zsv_t h))))
  · exact h.elim

def i_ifgt (Kt Kf : zKT) : zKT := fun L st M k n => match st with
  | .inl (.int x) :: st => (0 < x → Kt L st M k n) ∧ (¬ 0 < x → Kf L st M k n)
  | _ => False

theorem sd_ifgt {X : zMa} {own : String} {cc : ByteArray} {fr lo mc ms : Nat} {ret : Option FieldType} {ini : Bool} {Rt : Option zAV → zMp → Prop} (hC : zCx X own cc fr lo mc ms ret ini Rt) {pc : Nat} {off : Int} {tgt : Nat} (ht : (pc : Int) + off = (tgt : Int)) (hd : decode cc pc = .ok (.ifCond .gt off, 3)) {Kt Kf : zKT} (hKt : zLe Kt (zG X tgt)) (hKf : zLe Kf (zG X (pc + 3))) : zLe (i_ifgt Kt Kf) (zG X pc) := by
  obtain ⟨p, l, e, R, s, m, args, below, meth, c, Q, nL, D, A, ad0, M0⟩ := X
  obtain ⟨hx, hb, hml, hown, hts, hKS, hSF, hA, hR, hQ, hret, hlk, hini⟩ := hC
  intro L st M k n h
  unfold i_ifgt at h
  split at h
  · obtain ⟨h1, h2⟩ := h
    intro ad H locs ls hH
    exact lv_if_gt hx hb hd ht (fun q => hKt L _ M k n (h1 q) ad H locs ls (zHd_st hH (zsv_t))) (fun q => hKf L _ M k n (h2 q) ad H locs ls (zHd_st hH (zsv_t)))
  · exact h.elim

def i_icgt (Kt Kf : zKT) : zKT := fun L st M k n => match st with
  | .inl (.int y) :: .inl (.int x) :: st => (y < x → Kt L st M k n) ∧ (¬ y < x → Kf L st M k n)
  | _ => False

theorem sd_icgt {X : zMa} {own : String} {cc : ByteArray} {fr lo mc ms : Nat} {ret : Option FieldType} {ini : Bool} {Rt : Option zAV → zMp → Prop} (hC : zCx X own cc fr lo mc ms ret ini Rt) {pc : Nat} {off : Int} {tgt : Nat} (ht : (pc : Int) + off = (tgt : Int)) (hd : decode cc pc = .ok (.if_icmp .gt off, 3)) {Kt Kf : zKT} (hKt : zLe Kt (zG X tgt)) (hKf : zLe Kf (zG X (pc + 3))) : zLe (i_icgt Kt Kf) (zG X pc) := by
  obtain ⟨p, l, e, R, s, m, args, below, meth, c, Q, nL, D, A, ad0, M0⟩ := X
  obtain ⟨hx, hb, hml, hown, hts, hKS, hSF, hA, hR, hQ, hret, hlk, hini⟩ := hC
  intro L st M k n h
  unfold i_icgt at h
  split at h
  · obtain ⟨h1, h2⟩ := h
    intro ad H locs ls hH
    exact lv_icmp_gt hx hb hd ht (fun q => hKt L _ M k n (h1 q) ad H locs ls (zHd_st hH (fun h => zsv_t (zsv_t h)))) (fun q => hKf L _ M k n (h2 q) ad H locs ls (zHd_st hH (fun h => zsv_t (zsv_t h))))
  · exact h.elim

def i_ifle (Kt Kf : zKT) : zKT := fun L st M k n => match st with
  | .inl (.int x) :: st => (x ≤ 0 → Kt L st M k n) ∧ (¬ x ≤ 0 → Kf L st M k n)
  | _ => False

theorem sd_ifle {X : zMa} {own : String} {cc : ByteArray} {fr lo mc ms : Nat} {ret : Option FieldType} {ini : Bool} {Rt : Option zAV → zMp → Prop} (hC : zCx X own cc fr lo mc ms ret ini Rt) {pc : Nat} {off : Int} {tgt : Nat} (ht : (pc : Int) + off = (tgt : Int)) (hd : decode cc pc = .ok (.ifCond .le off, 3)) {Kt Kf : zKT} (hKt : zLe Kt (zG X tgt)) (hKf : zLe Kf (zG X (pc + 3))) : zLe (i_ifle Kt Kf) (zG X pc) := by
  obtain ⟨p, l, e, R, s, m, args, below, meth, c, Q, nL, D, A, ad0, M0⟩ := X
  obtain ⟨hx, hb, hml, hown, hts, hKS, hSF, hA, hR, hQ, hret, hlk, hini⟩ := hC
  intro L st M k n h
  unfold i_ifle at h
  split at h
  · obtain ⟨h1, h2⟩ := h
    intro ad H locs ls hH
    exact lv_if_le hx hb hd ht (fun q => hKt L _ M k n (h1 q) ad H locs ls (zHd_st hH (zsv_t))) (fun q => hKf L _ M k n (h2 q) ad H locs ls (zHd_st hH (zsv_t)))
  · exact h.elim

def i_icle (Kt Kf : zKT) : zKT := fun L st M k n => match st with
  | .inl (.int y) :: .inl (.int x) :: st => (x ≤ y → Kt L st M k n) ∧ (¬ x ≤ y → Kf L st M k n)
  | _ => False

theorem sd_icle {X : zMa} {own : String} {cc : ByteArray} {fr lo mc ms : Nat} {ret : Option FieldType} {ini : Bool} {Rt : Option zAV → zMp → Prop} (hC : zCx X own cc fr lo mc ms ret ini Rt) {pc : Nat} {off : Int} {tgt : Nat} (ht : (pc : Int) + off = (tgt : Int)) (hd : decode cc pc = .ok (.if_icmp .le off, 3)) {Kt Kf : zKT} (hKt : zLe Kt (zG X tgt)) (hKf : zLe Kf (zG X (pc + 3))) : zLe (i_icle Kt Kf) (zG X pc) := by
  obtain ⟨p, l, e, R, s, m, args, below, meth, c, Q, nL, D, A, ad0, M0⟩ := X
  obtain ⟨hx, hb, hml, hown, hts, hKS, hSF, hA, hR, hQ, hret, hlk, hini⟩ := hC
  intro L st M k n h
  unfold i_icle at h
  split at h
  · obtain ⟨h1, h2⟩ := h
    intro ad H locs ls hH
    exact lv_icmp_le hx hb hd ht (fun q => hKt L _ M k n (h1 q) ad H locs ls (zHd_st hH (fun h => zsv_t (zsv_t h)))) (fun q => hKf L _ M k n (h2 q) ad H locs ls (zHd_st hH (fun h => zsv_t (zsv_t h))))
  · exact h.elim

def i_ifn (Kt Kf : zKT) : zKT := fun L st M k n => match st with
  | .inr _ :: st => Kf L st M k n
  | .inl .null :: st => Kt L st M k n
  | _ => False

theorem sd_ifnull {X : zMa} {own : String} {cc : ByteArray} {fr lo mc ms : Nat} {ret : Option FieldType} {ini : Bool} {Rt : Option zAV → zMp → Prop} (hC : zCx X own cc fr lo mc ms ret ini Rt) {pc : Nat} {off : Int} {tgt : Nat} (ht : (pc : Int) + off = (tgt : Int)) (hd : decode cc pc = .ok (.ifnull off, 3)) {Kt Kf : zKT} (hKt : zLe Kt (zG X tgt)) (hKf : zLe Kf (zG X (pc + 3))) : zLe (i_ifn Kt Kf) (zG X pc) := by
  obtain ⟨p, l, e, R, s, m, args, below, meth, c, Q, nL, D, A, ad0, M0⟩ := X
  obtain ⟨hx, hb, hml, hown, hts, hKS, hSF, hA, hR, hQ, hret, hlk, hini⟩ := hC
  intro L st M k n h
  unfold i_ifn at h
  split at h
  · intro ad H locs ls hH
    exact lv_ifnull hx hb hd (hKf L _ M k n h ad H locs ls (zHd_st hH zsv_t))
  · intro ad H locs ls hH
    exact lv_ifnullN hx hb hd ht (hKt L _ M k n h ad H locs ls (zHd_st hH zsv_t))
  · exact h.elim

theorem sd_ifnonnull {X : zMa} {own : String} {cc : ByteArray} {fr lo mc ms : Nat} {ret : Option FieldType} {ini : Bool} {Rt : Option zAV → zMp → Prop} (hC : zCx X own cc fr lo mc ms ret ini Rt) {pc : Nat} {off : Int} {tgt : Nat} (ht : (pc : Int) + off = (tgt : Int)) (hd : decode cc pc = .ok (.ifnonnull off, 3)) {Kt Kf : zKT} (hKt : zLe Kt (zG X tgt)) (hKf : zLe Kf (zG X (pc + 3))) : zLe (i_ifn Kf Kt) (zG X pc) := by
  obtain ⟨p, l, e, R, s, m, args, below, meth, c, Q, nL, D, A, ad0, M0⟩ := X
  obtain ⟨hx, hb, hml, hown, hts, hKS, hSF, hA, hR, hQ, hret, hlk, hini⟩ := hC
  intro L st M k n h
  unfold i_ifn at h
  split at h
  · intro ad H locs ls hH
    exact lv_ifnonnull hx hb hd ht (hKt L _ M k n h ad H locs ls (zHd_st hH zsv_t))
  · intro ad H locs ls hH
    exact lv_ifnonnullN hx hb hd (hKf L _ M k n h ad H locs ls (zHd_st hH zsv_t))
  · exact h.elim

theorem sd_goto {X : zMa} {own : String} {cc : ByteArray} {fr lo mc ms : Nat} {ret : Option FieldType} {ini : Bool} {Rt : Option zAV → zMp → Prop} (hC : zCx X own cc fr lo mc ms ret ini Rt) {pc : Nat} {off : Int} {tgt : Nat} (ht : (pc : Int) + off = (tgt : Int)) (hd : decode cc pc = .ok (.goto off, 3)) {K : zKT} (hK : zLe K (zG X tgt)) : zLe K (zG X pc) := by
  obtain ⟨p, l, e, R, s, m, args, below, meth, c, Q, nL, D, A, ad0, M0⟩ := X
  obtain ⟨hx, hb, hml, hown, hts, hKS, hSF, hA, hR, hQ, hret, hlk, hini⟩ := hC
  intro L st M k n h ad H locs ls hH
  exact lv_goto hx hb hd ht (hK L st M k n h ad H locs ls hH)
