/-! a cell written, a cell made -/
theorem zne {M : zMp} {a : zNm} {e : zAE} (h : M a = some e) : M a ≠ none := by rw [h]; simp
theorem zHd_put {s : State} {nL : Nat} {D : va_G} {A : Nat → Prop} {ad0 : zNm → Nat} {M0 : zMp} {ad : zNm → Nat} {H H1 : Heap} {locs : List Loc} {ls : Array Slot} {L : List (Option zAV)} {st st' : List zAV} {M : zMp} {a : zNm} {e0 e : zAE} {j : Nat} (h : zHd s nL D A ad0 M0 ad H locs ls L st M) (ha : M a = some e0) (hm : zmo a) (he : zat D s ad a e H1) (hr : ∀ n', zrf e n' → M n' ≠ none) (hz : H1.size = H.size) (oq : ∀ q : Nat, q ≠ ad a → H1[q]? = H[q]?) (hs : zsv M st → zsv M st') : zHd s nL D A ad0 M0 ad H1 (locs ++ [⟨ad a, j⟩]) ls L st' (zup M a e) := by
  obtain ⟨h1, h2, h3, h4, h5, h6⟩ := h
  refine ⟨zWd_put h1 ha he hr oq, h2.put hz oq (h1.2.2.1 a (zne ha) hm), h3, ⟨fun n hn => ⟨zup_ne (h4.1 n hn).1, (h4.1 n hn).2⟩, fun n hn hn2 => h4.2 n hn (zup_in ha hn2)⟩, fun k v hv => zalv_up (h5 k v hv), fun v hv => zalv_up (hs h6 v hv)⟩
theorem zua_ne {ad : zNm → Nat} {M : zMp} {a : zNm} {q : Nat} (ha : M a = none) {n : zNm} (hn : M n ≠ none) : zua ad a q n = ad n := if_neg (fun z => hn (by rw [z]; exact ha))
theorem zcv_new {ad : zNm → Nat} {M : zMp} {a : zNm} {q : Nat} (ha : M a = none) {v : zAV} (hv : zalv M v) : zcv (zua ad a q) v = zcv ad v := zcv_ext fun n e => zua_ne ha (by rw [e] at hv; exact hv)
theorem zst_new {ad : zNm → Nat} {M : zMp} {a : zNm} {q : Nat} {st : List zAV} (ha : M a = none) (hs : zsv M st) : st.map (zcv (zua ad a q)) = st.map (zcv ad) := List.map_congr_left fun v hv => zcv_new ha (hs v hv)
theorem zHd_new {s : State} {nL : Nat} {D : va_G} {A : Nat → Prop} {ad0 : zNm → Nat} {M0 : zMp} {ad : zNm → Nat} {H H1 : Heap} {locs : List Loc} {ls : Array Slot} {L : List (Option zAV)} {st st' : List zAV} {M : zMp} {a : zNm} {e : zAE} (h : zHd s nL D A ad0 M0 ad H locs ls L st M) (ha : M a = none) (hm : zmo a) (hA : ∀ q, s.heap.size ≤ q → A q) (he : zat D s (zua ad a H.size) a e H1) (hr : ∀ n', ¬ zrf e n') (hz : H1.size = H.size + 1) (oq : ∀ q : Nat, q < H.size → H1[q]? = H[q]?) (hs : zsv M st → zsv M st') : zHd s nL D A ad0 M0 (zua ad a H.size) H1 locs ls L (.inr a :: st') (zup M a e) := by
  obtain ⟨h1, h2, h3, h4, h5, h6⟩ := h
  refine ⟨zWd_new h1 ha (hA _ h2.1) he hr oq, ⟨Nat.le_trans h2.1 (by omega), fun x k1 k2 => (oq x (Nat.lt_of_lt_of_le k1 h2.1)).trans (h2.2.1 x k1 k2), h2.2.2⟩, ⟨h3.1, h3.2.1, fun k v hv => ?_⟩, ⟨fun n hn => ⟨zup_ne (h4.1 n hn).1, ?_⟩, fun n hn hn2 => ?_⟩, fun k v hv => zalv_up (h5 k v hv), ?_⟩
  · rw [zcv_new ha (h5 k v hv)]
    exact h3.2.2 k v hv
  · rw [zua_ne ha (h4.1 n hn).1]
    exact (h4.1 n hn).2
  · refine h4.2 n hn ?_
    unfold zup at hn2
    split at hn2
    · next q => exact absurd hm (by rw [← q]; exact hn)
    · exact hn2
  · refine zsv_c ?_ (fun v hv => zalv_up (hs h6 v hv))
    show zup M a e a ≠ none
    simp [zup]
/-! fields -/
def zfg : List zAV → Nat → Option zAV
  | [], _ => none
  | x :: _, 0 => some x
  | _ :: t, k + 1 => zfg t k
theorem zfg_e : ∀ (l : List zAV) (k : Nat), zfg l k = l[k]?
  | [], _ => rfl
  | _ :: _, 0 => rfl
  | _ :: t, k + 1 => by rw [List.getElem?_cons_succ]; exact zfg_e t k
def zft : FieldType → zAV → Prop
  | .int, .inl (.int _) => True
  | .boolean, .inl (.int x) => x = 0 ∨ x = 1
  | .long, .inl (.long _) => True
  | .object _, .inr _ => True
  | .object _, .inl .null => True
  | .array _, .inr _ => True
  | .array _, .inl .null => True
  | _, _ => False
theorem zft_ok {ad : zNm → Nat} {ty : FieldType} {v : zAV} (h : zft ty v) : narrow ty (zcv ad v) = zcv ad v ∧ fits ty (zcv ad v) = true := by
  unfold zft at h
  split at h
  · exact ⟨rfl, rfl⟩
  · next x =>
    rcases h with h | h <;> subst h <;> exact ⟨rfl, rfl⟩
  · exact ⟨rfl, rfl⟩
  · exact ⟨rfl, rfl⟩
  · exact ⟨rfl, rfl⟩
  · exact ⟨rfl, rfl⟩
  · exact ⟨rfl, rfl⟩
  · exact h.elim
def i_gf (ci fk : Nat) (K : zKT) : zKT := fun L st M k n => match st with
  | .inr a :: st => match M a with
    | some (.inr (cj, fs)) => cj = ci ∧ (match zfg fs fk with
      | some v => K L (v :: st) M k n
      | none => False)
    | _ => False
  | _ => False
theorem sd_gf {X : zMa} {own : String} {cc : ByteArray} {fr lo mc ms : Nat} {ret : Option FieldType} {ini : Bool} {Rt : Option zAV → zMp → Prop} (hC : zCx X own cc fr lo mc ms ret ini Rt) {pc : Nat} {ci fk ix N : Nat} {C ref : String} {T : u_T} (hc : vwCl[ci]? = some (C, T, N)) (hin : ∀ w ∈ u_ws C T N, w ∈ tb) (hk : fk < N) (hlink : Cond.fieldLink own ix ref (T fk).2.1 (T fk).2.2.1 ∈ tb) (hsame : ref = (T fk).1 ∨ Cond.sameField ref (T fk).1 (T fk).2.1 (T fk).2.2.1 ∈ tb) (hd : decode cc pc = .ok (.getfield ix, 3)) {K : zKT} (hK : zLe K (zG X (pc + 3))) : zLe (i_gf ci fk K) (zG X pc) := by
  obtain ⟨p, l, e, R, s, m, args, below, meth, c, Q, nL, D, A, ad0, M0⟩ := X
  obtain ⟨hx, hb, hml, hown, hts, hKS, hSF, hA, hR, hQ, hret, hlk, hini⟩ := hC
  intro L st M k n h
  unfold i_gf at h
  split at h
  · next a st =>
    split at h
    · next cj fs hM =>
      obtain ⟨rfl, h⟩ := h
      split at h
      · next v hv =>
        intro ad H locs ls hH
        have hz := hH.1.1 a _ hM
        have hP : va_P D vwCl [(ad a, .inr (cj, fs.map (zcv ad)))] H := fun j q hq => by
          have hj : j < 1 := (List.getElem?_eq_some_iff.mp hq).1
          rw [show j = 0 by omega] at hq
          cases hq
          exact hz
        have hvv : (fs.map (zcv ad))[fk]? = some (zcv ad v) := by rw [List.getElem?_map, ← zfg_e, hv]; rfl
        have hal : zalv M v := by
          rw [zfg_e] at hv
          match v, hv with
          | .inl w, _ => trivial
          | .inr b, hv => exact hH.1.2.2.2 a _ hM b (show Sum.inr b ∈ fs from List.mem_of_getElem? hv)
        have hs : ∀ x, s.fieldFound? (T fk).1 (T fk).2.1 (T fk).2.2.1 = some x → s.fieldFound? ref (T fk).2.1 (T fk).2.2.1 = some x := by
          rcases hsame with e1 | e1
          · rw [e1]; exact fun _ h => h
          · exact fun x hx => u_same (hts _ e1) x hx
        exact va_get (D := D) (cl := vwCl) hx hb hts hin hown hKS.1 hP 0 rfl hc fk hk (hts _ hlink) hs hvv hd (hK L _ M k n h ad H locs ls (zHd_st hH (fun h => zsv_c hal (zsv_t h))))
      · exact h.elim
    · exact h.elim
  · exact h.elim
def i_pf (ci fk : Nat) (ty : FieldType) (K : zKT) : zKT := fun L st M k n => match st with
  | v :: .inr a :: st => match M a with
    | some (.inr (cj, fs)) => cj = ci ∧ zmo a ∧ zft ty v ∧ fk < fs.length ∧ K L st (zup M a (.inr (ci, fs.set fk v))) k n
    | _ => False
  | _ => False
theorem zrf_set {M : zMp} {a : zNm} {ci : Nat} {fs : List zAV} {fk : Nat} {v : zAV} (hcl : zcl M) (hM : M a = some (.inr (ci, fs))) (hv : zalv M v) : ∀ n', zrf (.inr (ci, fs.set fk v)) n' → M n' ≠ none := by
  intro n' hn
  rcases List.mem_or_eq_of_mem_set (show Sum.inr n' ∈ fs.set fk v from hn) with h | h
  · exact hcl a _ hM n' h
  · rw [← h] at hv; exact hv
theorem sd_pf {X : zMa} {own : String} {cc : ByteArray} {fr lo mc ms : Nat} {ret : Option FieldType} {ini : Bool} {Rt : Option zAV → zMp → Prop} (hC : zCx X own cc fr lo mc ms ret ini Rt) {pc : Nat} {ci fk ix N : Nat} {C ref : String} {T : u_T} (hc : vwCl[ci]? = some (C, T, N)) (hin : ∀ w ∈ u_ws C T N, w ∈ tb) (ty0 : Nat → FieldType) (hty : ∀ k, k < N → parseFieldDescriptor (T k).2.2.1 = some (ty0 k)) (hnm : ∀ a, a < N → ∀ b, b < N → a ≠ b → (T a).2.1 ≠ (T b).2.1) (hk : fk < N) (hlink : Cond.fieldLink own ix ref (T fk).2.1 (T fk).2.2.1 ∈ tb) (hsame : ref = (T fk).1 ∨ Cond.sameField ref (T fk).1 (T fk).2.1 (T fk).2.2.1 ∈ tb) (hfin : (T fk).2.2.2 = false ∨ (ini = true ∧ (T fk).1 = own)) (hd : decode cc pc = .ok (.putfield ix, 3)) {K : zKT} (hK : zLe K (zG X (pc + 3))) : zLe (i_pf ci fk (ty0 fk) K) (zG X pc) := by
  obtain ⟨p, l, e, R, s, m, args, below, meth, c, Q, nL, D, A, ad0, M0⟩ := X
  obtain ⟨hx, hb, hml, hown, hts, hKS, hSF, hA, hR, hQ, hret, hlk, hini⟩ := hC
  intro L st M k n h
  unfold i_pf at h
  split at h
  · next v a st =>
    split at h
    · next cj fs hM =>
      obtain ⟨rfl, hmo, hft, hl, h⟩ := h
      intro ad H locs ls hH
      have hap := va_apart (own := own) hts hin ty0 hty hnm hKS.1 hc
      obtain ⟨r, h1, cl0, q1, q2, q3, q4⟩ := hH.1.1 a _ hM
      have hr : r = (C, T, N) := Option.some.inj (h1.symm.trans hc)
      subst hr
      obtain ⟨hS, hfc, kC, hkC, hkind⟩ := hKS.1.1 cj _ hc
      obtain ⟨cf, kf, fi, f, hi, hsl⟩ := hS fk hk
      have hs : s.fieldFound? ref (T fk).2.1 (T fk).2.2.1 = some (cf, kf, fi, f) := by
        rcases hsame with e1 | e1
        · rw [e1]; exact hi
        · exact u_same (hts _ e1) _ hi
      have hlay := hts _ (hin _ (u_in_lay hk))
      have hst := (u_facts hfc hkC (u_lays hts hin hk) hi).1
      obtain ⟨g1, g2⟩ := zft_ok (ad := ad) hft
      have fin : ∀ (H' : Heap) (jj : Nat), H'[ad a]? = some (cl0.setSlot (D.2 cj fk) (zcv ad v)) → H'.size = H.size → (∀ q, q ≠ ad a → H'[q]? = H[q]?) → W p l e R s m args below meth c H' (locs ++ [⟨ad a, jj⟩]) k n Q (F0 m (pc + 3) ls (st.map (zcv ad))) := by
        intro H' jj e1 e2 e3
        refine hK L st _ k n h ad H' _ ls (zHd_put hH hM hmo ⟨_, hc, t_OB.to (V := updV (vp_V (fs.map (zcv ad))) fk (zcv ad v)) ⟨_, e1, q2, q3, t_set q4 hap hk (zcv ad v)⟩ (fun j _ => ?_)⟩ (zrf_set hH.1.2.2.2 hM (zsv_h hH.2.2.2.2.2)) e2 e3 (fun h => zsv_t (zsv_t h)))
        rw [List.map_set]
        exact vp_updV_set (by rw [List.length_map]; exact hl) _ j
      unfold u_lay at hlay
      rcases hfin with hfin | ⟨hi1, hi2⟩
      · rw [if_neg (by rw [hfin]; decide)] at hlay
        have h6 := u_store hfc hkC hkind hlay hi (hty fk hk) g1 g2
        refine W.putK hx hb (f := f) ⟨hown, hts _ hlink, ⟨_, _, _, hs⟩, hst⟩ (by rw [q2]; exact h6) q1 q3 (by rw [hsl]; exact k2_hasslot (q4 fk hk)) rfl rfl hd fun H' e1 e2 e3 => ?_
        rw [hsl] at e1 ⊢
        exact fin H' _ e1 e2 e3
      · by_cases hff : (T fk).2.2.2 = true
        · rw [if_pos hff] at hlay
          have hcf : m.cls = cf := by
            obtain ⟨_, _, c', _, _, _, -, -, hf', -, -, -, hown2, -⟩ := Cond.laysFinal_spec hlay
            have e1 : c' = cf := by have := hi.symm.trans hf'; simp at this; exact this.1.symm
            rw [hi2] at hown2
            rw [← e1]; exact Option.some.inj (hown.symm.trans hown2)
          have h6 := u_fits hfc hkC hkind (Or.inr hlay) hi (hty fk hk) g1 g2
          refine W.putFinK hx hb hown (hts _ hlink) hs hst hcf (hini hi1) (by rw [q2]; exact h6) q1 q3 (by rw [hsl]; exact k2_hasslot (q4 fk hk)) rfl rfl hd fun H' e1 e2 e3 => ?_
          rw [hsl] at e1 ⊢
          exact fin H' _ e1 e2 e3
        · rw [if_neg hff] at hlay
          have h6 := u_store hfc hkC hkind hlay hi (hty fk hk) g1 g2
          refine W.putK hx hb (f := f) ⟨hown, hts _ hlink, ⟨_, _, _, hs⟩, hst⟩ (by rw [q2]; exact h6) q1 q3 (by rw [hsl]; exact k2_hasslot (q4 fk hk)) rfl rfl hd fun H' e1 e2 e3 => ?_
          rw [hsl] at e1 ⊢
          exact fin H' _ e1 e2 e3
    · exact h.elim
  · exact h.elim
/-! arrays -/
theorem zKa {D : va_G} {s : State} {cA : ClassId} {ty : FieldType} (h : va_K D vwCl [] s) (h1 : ArrOfT s cA ty) (h2 : va_RA s cA ty) : va_K D vwCl [(cA, ty)] s := ⟨h.1, fun k q hq => by
  have hj : k < 1 := (List.getElem?_eq_some_iff.mp hq).1
  rw [show k = 0 by omega] at hq
  cases hq
  exact ⟨h1, h2⟩⟩
theorem zPa {D : va_G} {a : Nat} {x : va_E} {H : Heap} (h : va_at D vwCl (a, x) H) : va_P D vwCl [(a, x)] H := fun j q hq => by
  have hj : j < 1 := (List.getElem?_eq_some_iff.mp hq).1
  rw [show j = 0 by omega] at hq
  cases hq
  exact h
theorem zPb {D : va_G} {a : Nat} {cA : ClassId} {y : vp_A} {H : Heap} (h : H[a]? = some (vp_cell cA y)) : va_P D vwCl [(a, .inl (cA, y))] H := zPa (x := .inl (cA, y)) h
def zov : Option zNm → zAV
  | none => .inl .null
  | some n => .inr n
theorem zov_rf (ad : zNm → Nat) (r : Option zNm) : va_rf (r.map ad) = zcv ad (zov r) := by cases r <;> rfl

def i_ial (K : zKT) : zKT := fun L st M k n => match st with
  | .inl (.int i) :: .inr a :: st => match M a with
    | some (.inl (ty, len, .inl f)) => ty = .int ∧ vp_in i len ∧ K L (.inl (.int (f i.toNatClampNeg)) :: st) M k n
    | _ => False
  | _ => False
theorem sd_ial {X : zMa} {own : String} {cc : ByteArray} {fr lo mc ms : Nat} {ret : Option FieldType} {ini : Bool} {Rt : Option zAV → zMp → Prop} (hC : zCx X own cc fr lo mc ms ret ini Rt) {pc : Nat} (hd : decode cc pc = .ok (.iaload, 1)) {K : zKT} (hK : zLe K (zG X (pc + 1))) : zLe (i_ial K) (zG X pc) := by
  obtain ⟨p, l, e, R, s, m, args, below, meth, c, Q, nL, D, A, ad0, M0⟩ := X
  obtain ⟨hx, hb, hml, hown, hts, hKS, hSF, hA, hR, hQ, hret, hlk, hini⟩ := hC
  intro L st M k n h
  unfold i_ial at h
  split at h
  · next i a st =>
    split at h
    · next ty len f hM =>
      obtain ⟨rfl, hin, h⟩ := h
      intro ad H locs ls hH
      obtain ⟨cA, cell, h1, -, g1, g2, g3, g4, g5, g6⟩ := zat_any (hH.1.1 a _ hM)
      have hlt : i.toNatClampNeg < len := Nat.not_le.mp fun q => hin (Or.inr q)
      exact W.iald (v := .int (f i.toNatClampNeg)) hx hb g1 g6 g4 (by rw [g3, zvs]; exact hin) (by rw [g3]; show (arrV _ _ _).slots[_]? = _; rw [arrV_read _ _ hlt]) rfl rfl hd (hK L _ M k n h ad H locs ls (zHd_st hH (fun h => zsv_c trivial (zsv_t (zsv_t h)))))
    · exact h.elim
  · exact h.elim

def i_bal (K : zKT) : zKT := fun L st M k n => match st with
  | .inl (.int i) :: .inr a :: st => match M a with
    | some (.inl (ty, len, .inl f)) => ty = .boolean ∧ vp_in i len ∧ K L (.inl (.int (f i.toNatClampNeg)) :: st) M k n
    | _ => False
  | _ => False
theorem sd_bal {X : zMa} {own : String} {cc : ByteArray} {fr lo mc ms : Nat} {ret : Option FieldType} {ini : Bool} {Rt : Option zAV → zMp → Prop} (hC : zCx X own cc fr lo mc ms ret ini Rt) {pc : Nat} (hd : decode cc pc = .ok (.baload, 1)) {K : zKT} (hK : zLe K (zG X (pc + 1))) : zLe (i_bal K) (zG X pc) := by
  obtain ⟨p, l, e, R, s, m, args, below, meth, c, Q, nL, D, A, ad0, M0⟩ := X
  obtain ⟨hx, hb, hml, hown, hts, hKS, hSF, hA, hR, hQ, hret, hlk, hini⟩ := hC
  intro L st M k n h
  unfold i_bal at h
  split at h
  · next i a st =>
    split at h
    · next ty len f hM =>
      obtain ⟨rfl, hin, h⟩ := h
      intro ad H locs ls hH
      obtain ⟨cA, h1, h2, h3⟩ := zat_in hin (by decide) (hH.1.1 a _ hM)
      exact va_zald (D := D) (cl := vwCl) hx hb (zKa hKS.1 h1 h2) (zPb h3) 0 0 rfl rfl hin hd (hK L _ M k n h ad H locs ls (zHd_st hH (fun h => zsv_c trivial (zsv_t (zsv_t h)))))
    · exact h.elim
  · exact h.elim

def i_lal (K : zKT) : zKT := fun L st M k n => match st with
  | .inl (.int i) :: .inr a :: st => match M a with
    | some (.inl (ty, len, .inr (.inl f))) => ty = .long ∧ vp_in i len ∧ K L (.inl (.long (f i.toNatClampNeg)) :: st) M k n
    | _ => False
  | _ => False
theorem sd_lal {X : zMa} {own : String} {cc : ByteArray} {fr lo mc ms : Nat} {ret : Option FieldType} {ini : Bool} {Rt : Option zAV → zMp → Prop} (hC : zCx X own cc fr lo mc ms ret ini Rt) {pc : Nat} (hd : decode cc pc = .ok (.laload, 1)) {K : zKT} (hK : zLe K (zG X (pc + 1))) : zLe (i_lal K) (zG X pc) := by
  obtain ⟨p, l, e, R, s, m, args, below, meth, c, Q, nL, D, A, ad0, M0⟩ := X
  obtain ⟨hx, hb, hml, hown, hts, hKS, hSF, hA, hR, hQ, hret, hlk, hini⟩ := hC
  intro L st M k n h
  unfold i_lal at h
  split at h
  · next i a st =>
    split at h
    · next ty len f hM =>
      obtain ⟨rfl, hin, h⟩ := h
      intro ad H locs ls hH
      obtain ⟨cA, h1, h2, h3⟩ := zat_in hin (by decide) (hH.1.1 a _ hM)
      exact va_lald (D := D) (cl := vwCl) hx hb (zKa hKS.1 h1 h2) (zPb h3) 0 0 rfl rfl hin hd (hK L _ M k n h ad H locs ls (zHd_st hH (fun h => zsv_c trivial (zsv_t (zsv_t h)))))
    · exact h.elim
  · exact h.elim

def i_aal (C : String) (K : zKT) : zKT := fun L st M k n => match st with
  | .inl (.int i) :: .inr a :: st => match M a with
    | some (.inl (ty, len, .inr (.inr f))) => ty = .object C ∧ vp_in i len ∧ K L (zov (f i.toNatClampNeg) :: st) M k n
    | _ => False
  | _ => False
theorem sd_aal {X : zMa} {own : String} {cc : ByteArray} {fr lo mc ms : Nat} {ret : Option FieldType} {ini : Bool} {Rt : Option zAV → zMp → Prop} (hC : zCx X own cc fr lo mc ms ret ini Rt) {pc : Nat} {C : String} (hd : decode cc pc = .ok (.aaload, 1)) {K : zKT} (hK : zLe K (zG X (pc + 1))) : zLe (i_aal C K) (zG X pc) := by
  obtain ⟨p, l, e, R, s, m, args, below, meth, c, Q, nL, D, A, ad0, M0⟩ := X
  obtain ⟨hx, hb, hml, hown, hts, hKS, hSF, hA, hR, hQ, hret, hlk, hini⟩ := hC
  intro L st M k n h
  unfold i_aal at h
  split at h
  · next i a st =>
    split at h
    · next ty len f hM =>
      obtain ⟨rfl, hin, h⟩ := h
      intro ad H locs ls hH
      obtain ⟨cA, h1, h2, h3⟩ := zat_in hin (by intro z; cases z) (hH.1.1 a _ hM)
      have hal : zalv M (zov (f i.toNatClampNeg)) := by
        cases hf : f i.toNatClampNeg with
        | none => trivial
        | some b => exact hH.1.2.2.2 a _ hM b ⟨_, hf⟩
      have hg := hK L _ M k n h ad H locs ls (zHd_st hH (fun h => zsv_c hal (zsv_t (zsv_t h))))
      refine va_aldq (D := D) (cl := vwCl) hx hb (zKa hKS.1 h1 h2) (zPb h3) 0 0 rfl rfl hin hd ?_
      rw [zov_rf]
      exact hg
    · exact h.elim
  · exact h.elim

def i_ias (K : zKT) : zKT := fun L st M k n => match st with
  | .inl (.int x) :: .inl (.int i) :: .inr a :: st => match M a with
    | some (.inl (ty, len, .inl f)) => ty = .int ∧ zmo a ∧ vp_in i len ∧ K L st (zup M a (.inl (.int, len, .inl (upd f i.toNatClampNeg x)))) k n
    | _ => False
  | _ => False
theorem sd_ias {X : zMa} {own : String} {cc : ByteArray} {fr lo mc ms : Nat} {ret : Option FieldType} {ini : Bool} {Rt : Option zAV → zMp → Prop} (hC : zCx X own cc fr lo mc ms ret ini Rt) {pc : Nat} (hd : decode cc pc = .ok (.iastore, 1)) {K : zKT} (hK : zLe K (zG X (pc + 1))) : zLe (i_ias K) (zG X pc) := by
  obtain ⟨p, l, e, R, s, m, args, below, meth, c, Q, nL, D, A, ad0, M0⟩ := X
  obtain ⟨hx, hb, hml, hown, hts, hKS, hSF, hA, hR, hQ, hret, hlk, hini⟩ := hC
  intro L st M k n h
  unfold i_ias at h
  split at h
  · next x i a st =>
    split at h
    · next ty len f hM =>
      obtain ⟨rfl, hmo, hin, h⟩ := h
      intro ad H locs ls hH
      obtain ⟨cA, h1, h2, h3⟩ := zat_mo hmo (hH.1.1 a _ hM)
      refine W.iast hx hb h3 (h1 len _) (fun q => by cases q) (by show ¬ (i < 0 ∨ (arrV _ _ _).slots.size ≤ _); rw [arrV_size]; exact hin) rfl rfl hd fun H1 e1 z oq => ?_
      refine hK L st _ k n h ad H1 _ ls (zHd_put hH hM hmo ⟨cA, h1, Or.inl ⟨h2, ?_⟩⟩ (fun _ hn => hn.elim) z oq (fun h => zsv_t (zsv_t (zsv_t h))))
      rw [e1]
      simp only [zca]
      rw [vp_cell_i, vp_cell_i, arrV_store]
      congr 2
      funext q
      by_cases hq : q = i.toNatClampNeg
      · subst hq
        simp [updV, upd]
      · simp [updV, upd, hq]
    · exact h.elim
  · exact h.elim

def i_las (K : zKT) : zKT := fun L st M k n => match st with
  | .inl (.long x) :: .inl (.int i) :: .inr a :: st => match M a with
    | some (.inl (ty, len, .inr (.inl f))) => ty = .long ∧ zmo a ∧ vp_in i len ∧ K L st (zup M a (.inl (.long, len, .inr (.inl (vp_updL f i.toNatClampNeg x))))) k n
    | _ => False
  | _ => False
theorem sd_las {X : zMa} {own : String} {cc : ByteArray} {fr lo mc ms : Nat} {ret : Option FieldType} {ini : Bool} {Rt : Option zAV → zMp → Prop} (hC : zCx X own cc fr lo mc ms ret ini Rt) {pc : Nat} (hd : decode cc pc = .ok (.lastore, 1)) {K : zKT} (hK : zLe K (zG X (pc + 1))) : zLe (i_las K) (zG X pc) := by
  obtain ⟨p, l, e, R, s, m, args, below, meth, c, Q, nL, D, A, ad0, M0⟩ := X
  obtain ⟨hx, hb, hml, hown, hts, hKS, hSF, hA, hR, hQ, hret, hlk, hini⟩ := hC
  intro L st M k n h
  unfold i_las at h
  split at h
  · next x i a st =>
    split at h
    · next ty len f hM =>
      obtain ⟨rfl, hmo, hin, h⟩ := h
      intro ad H locs ls hH
      obtain ⟨cA, h1, h2, h3⟩ := zat_mo hmo (hH.1.1 a _ hM)
      refine W.last hx hb h3 (h1 len _) (fun q => by cases q) (by show ¬ (i < 0 ∨ (arrV _ _ _).slots.size ≤ _); rw [arrV_size]; exact hin) rfl rfl hd fun H1 e1 z oq => ?_
      refine hK L st _ k n h ad H1 _ ls (zHd_put hH hM hmo ⟨cA, h1, Or.inl ⟨h2, ?_⟩⟩ (fun _ hn => hn.elim) z oq (fun h => zsv_t (zsv_t (zsv_t h))))
      rw [e1]
      simp only [zca]
      rw [vp_cell_l, vp_cell_l, arrV_store]
      congr 2
      funext q
      by_cases hq : q = i.toNatClampNeg
      · subst hq
        simp [updV, vp_updL]
      · simp [updV, vp_updL, hq]
    · exact h.elim
  · exact h.elim

def i_bas (K : zKT) : zKT := fun L st M k n => match st with
  | .inl (.int x) :: .inl (.int i) :: .inr a :: st => match M a with
    | some (.inl (ty, len, .inl f)) => ty = .boolean ∧ zmo a ∧ vp_in i len ∧ (x = 0 ∨ x = 1) ∧ K L st (zup M a (.inl (.boolean, len, .inl (upd f i.toNatClampNeg x)))) k n
    | _ => False
  | _ => False
theorem sd_bas {X : zMa} {own : String} {cc : ByteArray} {fr lo mc ms : Nat} {ret : Option FieldType} {ini : Bool} {Rt : Option zAV → zMp → Prop} (hC : zCx X own cc fr lo mc ms ret ini Rt) {pc : Nat} (hd : decode cc pc = .ok (.bastore, 1)) {K : zKT} (hK : zLe K (zG X (pc + 1))) : zLe (i_bas K) (zG X pc) := by
  obtain ⟨p, l, e, R, s, m, args, below, meth, c, Q, nL, D, A, ad0, M0⟩ := X
  obtain ⟨hx, hb, hml, hown, hts, hKS, hSF, hA, hR, hQ, hret, hlk, hini⟩ := hC
  intro L st M k n h
  unfold i_bas at h
  split at h
  · next x i a st =>
    split at h
    · next ty len f hM =>
      obtain ⟨rfl, hmo, hin, hb01, h⟩ := h
      intro ad H locs ls hH
      obtain ⟨cA, h1, h2, h3⟩ := zat_mo hmo (hH.1.1 a _ hM)
      refine W.zast hx hb h3 (h1 len _) (fun q => by cases q) (by show ¬ (i < 0 ∨ (arrV _ _ _).slots.size ≤ _); rw [arrV_size]; exact hin) rfl rfl hd fun H1 e1 z oq => ?_
      refine hK L st _ k n h ad H1 _ ls (zHd_put hH hM hmo ⟨cA, h1, Or.inl ⟨h2, ?_⟩⟩ (fun _ hn => hn.elim) z oq (fun h => zsv_t (zsv_t (zsv_t h))))
      rw [e1]
      simp only [zca]
      rw [vp_cell_i, vp_cell_i, arrV_store]
      congr 2
      funext q
      by_cases hq : q = i.toNatClampNeg
      · subst hq
        rcases hb01 with h0 | h0 <;> subst h0 <;> simp [updV, upd, narrow] <;> decide
      · simp [updV, upd, hq]
    · exact h.elim
  · exact h.elim

def zcast (ci : Nat) (C : String) : Prop := match vwCl[ci]? with
  | some r => r.1 = C ∨ Cond.castable r.1 C ∈ xw
  | none => False
def zok (M : zMp) (C : String) : zAV → Prop
  | .inl .null => True
  | .inr b => (match M b with
    | some (.inr (ci, _)) => zcast ci C
    | _ => False)
  | _ => False
def zto : zAV → Option zNm
  | .inr b => some b
  | _ => none
def i_aas (C : String) (K : zKT) : zKT := fun L st M k n => match st with
  | v :: .inl (.int i) :: .inr a :: st => match M a with
    | some (.inl (ty, len, .inr (.inr f))) => ty = .object C ∧ zmo a ∧ vp_in i len ∧ zok M C v ∧ K L st (zup M a (.inl (.object C, len, .inr (.inr (va_up f i.toNatClampNeg (zto v)))))) k n
    | _ => False
  | _ => False
theorem sd_aas {X : zMa} {own : String} {cc : ByteArray} {fr lo mc ms : Nat} {ret : Option FieldType} {ini : Bool} {Rt : Option zAV → zMp → Prop} (hC : zCx X own cc fr lo mc ms ret ini Rt) {pc : Nat} {C : String} (hd : decode cc pc = .ok (.aastore, 1)) {K : zKT} (hK : zLe K (zG X (pc + 1))) : zLe (i_aas C K) (zG X pc) := by
  obtain ⟨p, l, e, R, s, m, args, below, meth, c, Q, nL, D, A, ad0, M0⟩ := X
  obtain ⟨hx, hb, hml, hown, hts, hKS, hSF, hA, hR, hQ, hret, hlk, hini⟩ := hC
  intro L st M k n h
  unfold i_aas at h
  split at h
  · next v i a st =>
    split at h
    · next ty len f hM =>
      obtain ⟨rfl, hmo, hin, hok, h⟩ := h
      intro ad H locs ls hH
      obtain ⟨cA, h1, h2, h3⟩ := zat_mo hmo (hH.1.1 a _ hM)
      have hlt : i.toNatClampNeg < len := Nat.not_le.mp fun q => hin (Or.inr q)
      have h0 : ¬ i < 0 := fun q => hin (Or.inl q)
      have fin : ∀ (H1 : Heap) (w : Value), zcv ad v = w → H1[ad a]? = some ((vp_cell cA (len, zca ad (.inr (.inr f)))).setSlot i.toNatClampNeg w) → H1.size = H.size → (∀ q, q ≠ ad a → H1[q]? = H[q]?) → va_rf ((zto v).map ad) = w → W p l e R s m args below meth c H1 (locs ++ [⟨ad a, i.toNatClampNeg⟩]) k n Q (F0 m (pc + 1) ls (st.map (zcv ad))) := by
        intro H1 w ew e1 z oq ez
        refine hK L st _ k n h ad H1 _ ls (zHd_put hH hM hmo ⟨cA, h1, Or.inl ⟨h2, ?_⟩⟩ ?_ z oq (fun h => zsv_t (zsv_t (zsv_t h))))
        · rw [e1]
          simp only [zca]
          rw [vp_cell_q, vp_cell_q, arrV_store]
          congr 2
          funext q
          by_cases hq : q = i.toNatClampNeg
          · subst hq
            simp [updV, va_up, ez]
          · simp [updV, va_up, hq]
        · rintro n' ⟨j, hj⟩
          by_cases hq : j = i.toNatClampNeg
          · simp only [va_up, hq, if_true] at hj
            have hal := zsv_h hH.2.2.2.2.2
            match v, hj, hal with
            | .inr b, hj, hal => simp only [zto, Option.some.injEq] at hj; rw [← hj]; exact hal
          · simp only [va_up, hq, if_false] at hj
            exact hH.1.2.2.2 a _ hM n' ⟨j, hj⟩
      match v, hok, fin, hH with
      | .inl .null, _, fin, hH =>
        exact va_WaastN (C := C) hx hb h3 (h1 len _) (fun h => by cases h) (by show ¬ (i < 0 ∨ (arrV _ _ _).slots.size ≤ _); rw [arrV_size]; exact hin) rfl rfl hd fun H1 e1 z oq => fin H1 _ rfl e1 z oq rfl
      | .inr b, hok, fin, hH =>
        simp only [zok] at hok
        split at hok
        · next ci fs hMb =>
          unfold zcast at hok
          split at hok
          · next r hr =>
            obtain ⟨r', hr', cV, g1, g2, g3, -⟩ := hH.1.1 b _ hMb
            have hrr : r' = r := Option.some.inj (hr'.symm.trans hr)
            subst hrr
            have hcls := (hKS.1.1 ci r' hr).2
            obtain ⟨kA, comp, k1, k2, k3, -⟩ := h2
            obtain ⟨kC, hkC, -⟩ := id hcls.2
            have hasg : s.vm.assignable (D.1 ci) comp = true := by
              rcases hok with e1 | e1
              · have hcomp : comp = D.1 ci := Option.some.inj (k3.symm.trans (by rw [← e1]; exact hcls.1))
                rw [hcomp]
                exact va_assign hcls
              · obtain ⟨c0, t0, f1, f2, f3⟩ := Cond.castable_spec (hKS.2.1 _ e1)
                have e2 : c0 = D.1 ci := Option.some.inj (f1.symm.trans hcls.1)
                have e3 : t0 = comp := Option.some.inj (f2.symm.trans k3)
                rw [← e2, ← e3]
                exact f3
            obtain ⟨kcomp, hkcomp, -⟩ := Vm.findClass_spec k3
            exact W.aast hx hb h3 (fun q h => by cases h) (fun h => by cases h) k1 k2 rfl hkcomp ⟨h0, by show _ < (arrV _ _ _).slots.size; rw [arrV_size]; exact hlt⟩ g1 (fun q h => by rw [g3] at h; cases h) (by rw [g2]; exact hkC) (by rw [g2]; exact hasg) rfl rfl hd fun H1 e1 z oq => fin H1 _ rfl e1 z oq rfl
          · exact hok.elim
        · exact hok.elim
    · exact h.elim
  · exact h.elim
