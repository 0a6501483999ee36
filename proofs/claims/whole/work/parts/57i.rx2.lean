/-! the class's memory and the common state -/
def cn (a : zAb) (k : Nat) : Nat := sm2 (fun u v => (nt (a_q a u v)).count k)
noncomputable def lc (a : zAb) : Nat := sm (fun u => ct (fun v => v < u ∧ a_lk a u v = true) 12) 12
def Rg (x : zSt) (a : zAb) : Prop :=
  (x_dk x = a_dk a ∧ x_nr x = a_nr a ∧ x_nw x = a_nw a ∧ x_nn x = a_nn a ∧ x_po x = a_po a ∧ x_ne x = a_ne a ∧ x_td x = a_td a) ∧
  (∀ r, r < a_nr a → x_rd x r = nI (a_rd a r) ∧ x_rz x r = a_rz a r ∧ ∀ i, i < a_rz a r → x_rh x r i = a_rh a r i) ∧
  (∀ w, w < a_nw a → x_wr x w = a_wr a w ∧ x_wa x w = a_wa a w ∧ ∀ j, j < 320 → zbit (x_ob x w) j = zd (a_out a w j)) ∧
  (∀ w f, w ≤ a_nw a → f < 4 → x_fk x w f = a_fk a w f ∧ x_fz x w f = a_fz a w f ∧ x_fg x w f = a_fg a w f) ∧
  (∀ k, k < a_nn a → x_nf x k = a_nf a k ∧ x_nd x k = a_nd a k ∧ (∀ d, d < 12 → inm (x_nv x k) (nI d) = a_sn a k d) ∧ ∀ r, r < 24 → inm (x_nh x k) (nI r) = a_hb a k r) ∧
  (∀ u i, u < 12 → i < 32 → bt (x_nb x u) i = a_lk a u i) ∧ x_lk x = nI (lc a)
def Rl (x : zSt) (a : zAb) : Prop := ∀ u v, u < 12 → v < 12 → (a_lk a u v = false → x_ln x (12 * u + v) = none) ∧ (a_lk a u v = true → ∃ l, x_ln x (12 * u + v) = some l ∧ ln_r x l (a_q a u v) (a_to a u v) (a_tb a v u))
/-- the lanes in use are different, the spare ones are clean -/
def Rs (x : zSt) : Prop := (∀ p p' l, p < 144 → p' < 144 → x_ln x p = some l → x_ln x p' = some l → p = p') ∧ (∀ k p, k < x_ns x → p < 144 → x_ln x p ≠ some (x_sp x k)) ∧ (∀ k k', k < x_ns x → k' < x_ns x → x_sp x k = x_sp x k' → k = k') ∧ (∀ k, k < x_ns x → ln_r x (x_sp x k) [] (fun _ => false) (fun _ => false)) ∧ x_nl x = x_ns x + ct (fun p => x_ln x p ≠ none) 144 ∧ x_nl x ≤ 144
def Rn (x : zSt) (a : zAb) : Prop := ∀ k, k < a_nn a → x_nm x k = nI (cn a k)
def Rx (x : zSt) (a : zAb) : Prop := Rg x a ∧ Rl x a ∧ Rs x ∧ Rn x a
theorem Rg.sc {x : zSt} {a : zAb} (h : Rg x a) : x_dk x = a_dk a ∧ x_nr x = a_nr a ∧ x_nw x = a_nw a ∧ x_nn x = a_nn a ∧ x_po x = a_po a ∧ x_ne x = a_ne a ∧ x_td x = a_td a := h.1
theorem Rg.rd {x : zSt} {a : zAb} (h : Rg x a) : ∀ r, r < a_nr a → x_rd x r = nI (a_rd a r) ∧ x_rz x r = a_rz a r ∧ ∀ i, i < a_rz a r → x_rh x r i = a_rh a r i := h.2.1
theorem Rg.ws {x : zSt} {a : zAb} (h : Rg x a) : ∀ w, w < a_nw a → x_wr x w = a_wr a w ∧ x_wa x w = a_wa a w ∧ ∀ j, j < 320 → zbit (x_ob x w) j = zd (a_out a w j) := h.2.2.1
theorem Rg.ts {x : zSt} {a : zAb} (h : Rg x a) : ∀ w f, w ≤ a_nw a → f < 4 → x_fk x w f = a_fk a w f ∧ x_fz x w f = a_fz a w f ∧ x_fg x w f = a_fg a w f := h.2.2.2.1
theorem Rg.nt {x : zSt} {a : zAb} (h : Rg x a) : ∀ k, k < a_nn a → x_nf x k = a_nf a k ∧ x_nd x k = a_nd a k ∧ (∀ d, d < 12 → inm (x_nv x k) (nI d) = a_sn a k d) ∧ ∀ r, r < 24 → inm (x_nh x k) (nI r) = a_hb a k r := h.2.2.2.2.1
theorem Rg.nb {x : zSt} {a : zAb} (h : Rg x a) : ∀ u i, u < 12 → i < 32 → bt (x_nb x u) i = a_lk a u i := h.2.2.2.2.2.1
theorem Rg.lk {x : zSt} {a : zAb} (h : Rg x a) : x_lk x = nI (lc a) := h.2.2.2.2.2.2
theorem b_iff {b c : Bool} (h : b = true ↔ c = true) : b = c := Bool.eq_iff_iff.mpr h
/-! what a desk knows and means -/
theorem kA_r {x : zSt} {a : zAb} (hg : Rg x a) (hJ : AJ a) {u : Nat} (hu : u < 12) : ∀ n, n ≤ a_nw a → ∀ k, k < 320 → (zbit (kn_A x (nI u) n) k = true ↔ k < n ∧ a_wa a k = true ∧ a_rd a (a_wr a k) = u)
  | 0, _, k, hk => by
    simp only [kn_A]
    rw [zbit_clr _ hk]
    exact ⟨fun z => (by cases z), fun z => absurd z.1 (Nat.not_lt_zero k)⟩
  | n + 1, hn, k, hk => by
    have ih := kA_r hg hJ hu n (by omega) k hk
    have hl := hJ.lim
    have w1 := hg.ws n (by omega)
    have r1 := hJ.wr n (by omega)
    have r2 := hg.rd (a_wr a n) r1
    have r3 := hJ.rd (a_wr a n) r1
    have hc : (x_wa x n = true ∧ x_rd x (x_wr x n) = nI u) ↔ (a_wa a n = true ∧ a_rd a (a_wr a n) = u) := by
      rw [w1.2.1, w1.1, r2.1, nI_eq (by omega) (by omega)]
    simp only [kn_A]
    by_cases c : x_wa x n = true ∧ x_rd x (x_wr x n) = nI u
    · rw [if_pos c, zbit_add, Bool.or_eq_true, ih, decide_eq_true_iff]
      constructor
      · rintro (z | z)
        · exact ⟨by omega, z.2⟩
        · rw [z]; exact ⟨by omega, hc.mp c⟩
      · intro z
        by_cases e : k = n
        · exact Or.inr e
        · exact Or.inl ⟨by omega, z.2⟩
    · rw [if_neg c, ih]
      constructor
      · intro z; exact ⟨by omega, z.2⟩
      · intro z
        by_cases e : k = n
        · rw [e] at z; exact absurd (hc.mpr z.2) c
        · exact ⟨by omega, z.2⟩
theorem lnF_r {x : zSt} {a : zAb} (hg : Rg x a) (hl : Rl x a) (hJ : AJ a) {u v : Nat} (hu : u < a_dk a) (hv : v < a_dk a) : (a_lk a u v = false ∧ lnF x (nI u) (nI v) = none) ∨ (a_lk a u v = true ∧ ∃ l, lnF x (nI u) (nI v) = some l ∧ x_ln x (12 * u + v) = some l ∧ ln_r x l (a_q a u v) (a_to a u v) (a_tb a v u)) := by
  have h12 := hJ.lim.1
  have e : lnF x (nI u) (nI v) = x_ln x (12 * u + v) := lnF_n (by rw [hg.sc.1]; exact h12) (by rw [hg.sc.1]; exact hu) (by rw [hg.sc.1]; exact hv)
  have h := hl u v (by omega) (by omega)
  cases hk : a_lk a u v with
  | false => exact Or.inl ⟨rfl, by rw [e]; exact h.1 hk⟩
  | true =>
    obtain ⟨l, h1, h2⟩ := h.2 hk
    exact Or.inr ⟨rfl, l, by rw [e]; exact h1, h1, h2⟩
theorem lk_sy {a : zAb} (hJ : AJ a) (u v : Nat) : a_lk a u v = a_lk a v u := b_iff ⟨fun z => (hJ.lk u v z).1, fun z => (hJ.lk v u z).1⟩
theorem kB_r {x : zSt} {a : zAb} (hg : Rg x a) (hl : Rl x a) (hJ : AJ a) {u v : Nat} (hu : u < a_dk a) (hv : v < a_dk a) : ∀ n, n ≤ a_dk a → ∀ k, k < 320 → (zbit (kn_B x (nI u) (nI v) n) k = true ↔ (k < a_nw a ∧ a_wa a k = true ∧ a_rd a (a_wr a k) = u) ∨ ∃ y, y < n ∧ y ≠ v ∧ a_lk a u y = true ∧ a_tb a u y k = true)
  | 0, _, k, hk => by
    simp only [kn_B]
    have h12 := hJ.lim.1
    rw [hg.sc.2.2.1, kA_r hg hJ (by omega) _ (Nat.le_refl _) k hk]
    exact ⟨Or.inl, fun z => z.elim id (fun ⟨y, hy, _⟩ => absurd hy (Nat.not_lt_zero y))⟩
  | n + 1, hn, k, hk => by
    have ih := kB_r hg hl hJ hu hv n (by omega) k hk
    have h12 := hJ.lim.1
    have wid : (∃ y, y < n ∧ y ≠ v ∧ a_lk a u y = true ∧ a_tb a u y k = true) → ∃ y, y < n + 1 ∧ y ≠ v ∧ a_lk a u y = true ∧ a_tb a u y k = true := fun ⟨y, h1, h2⟩ => ⟨y, by omega, h2⟩
    have nar : ¬ (n ≠ v ∧ a_lk a u n = true ∧ a_tb a u n k = true) → (∃ y, y < n + 1 ∧ y ≠ v ∧ a_lk a u y = true ∧ a_tb a u y k = true) → ∃ y, y < n ∧ y ≠ v ∧ a_lk a u y = true ∧ a_tb a u y k = true := fun q ⟨y, h1, h2⟩ => by
      by_cases e : y = n
      · rw [e] at h2; exact absurd h2 q
      · exact ⟨y, by omega, h2⟩
    simp only [kn_B]
    rcases lnF_r hg hl hJ (show n < a_dk a by omega) hu with ⟨h1, h2⟩ | ⟨h1, l, h2, _, h3⟩
    · rw [h2]
      show zbit (kn_B x (nI u) (nI v) n) k = true ↔ _
      rw [ih]
      refine ⟨fun z => z.imp id wid, fun z => z.imp id (nar (fun q => ?_))⟩
      rw [lk_sy hJ, h1] at q
      cases q.2.1
    · rw [h2]
      show zbit (if nI n = nI v then kn_B x (nI u) (nI v) n else rw_or (kn_B x (nI u) (nI v) n) (x_lb x l)) k = true ↔ _
      by_cases e : n = v
      · rw [if_pos (by rw [e]), ih]
        exact ⟨fun z => z.imp id wid, fun z => z.imp id (nar (fun q => q.1 e))⟩
      · rw [if_neg (fun q => e ((nI_eq (by omega) (by omega)).mp q)), zbit_or _ _ hk, Bool.or_eq_true, ih, h3.2.2.2 k hk]
        constructor
        · rintro (z | z)
          · exact z.imp id wid
          · exact Or.inr ⟨n, by omega, e, by rw [lk_sy hJ]; exact h1, z⟩
        · rintro (z | ⟨y, y1, y2, y3, y4⟩)
          · exact Or.inl (Or.inl z)
          · by_cases ey : y = n
            · rw [ey] at y4; exact Or.inr y4
            · exact Or.inl (Or.inr ⟨y, by omega, y2, y3, y4⟩)
theorem mA_r (x : zSt) (kf : Nat → Int64) : ∀ n, ∀ j, j < 320 → (zbit (me_A x kf n) j = true ↔ j < n ∧ zbit kf j = true ∧ rw_meets kf (x_ob x j) = false)
  | 0, j, hj => by
    simp only [me_A]
    rw [zbit_clr _ hj]
    exact ⟨fun z => (by cases z), fun z => absurd z.1 (Nat.not_lt_zero j)⟩
  | n + 1, j, hj => by
    have ih := mA_r x kf n j hj
    simp only [me_A]
    by_cases c : zbit kf n = true ∧ rw_meets kf (x_ob x n) = false
    · rw [if_pos c, zbit_add, Bool.or_eq_true, ih, decide_eq_true_iff]
      constructor
      · rintro (z | z)
        · exact ⟨by omega, z.2⟩
        · rw [z]; exact ⟨by omega, c⟩
      · intro z
        by_cases e : j = n
        · exact Or.inr e
        · exact Or.inl ⟨by omega, z.2⟩
    · rw [if_neg c, ih]
      constructor
      · intro z; exact ⟨by omega, z.2⟩
      · intro z
        by_cases e : j = n
        · rw [e] at z; exact absurd z.2 c
        · exact ⟨by omega, z.2⟩
theorem mn_r {x : zSt} {a : zAb} (hg : Rg x a) (hl : Rl x a) (hJ : AJ a) {u v : Nat} (hu : u < a_dk a) (hv : v < a_dk a) : row_r (x_me (fmn x (nI u) (nI v))) (a_mn a u v) := by
  intro k hk
  have h3 := hJ.lim
  have e1 : x_me (fmn x (nI u) (nI v)) = me_A x (kn_B x (nI u) (nI v) (x_dk x)) (x_nw x) := rfl
  rw [e1, hg.sc.1, hg.sc.2.2.1]
  have hB := kB_r hg hl hJ hu hv (a_dk a) (Nat.le_refl _)
  refine b_iff ?_
  rw [mA_r x _ _ k hk]
  show _ ↔ zd (k < a_nw a ∧ a_kn a u v k ∧ ∀ j, a_kn a u v j → ¬ a_out a k j) = true
  rw [zd_i]
  have hmeet : k < a_nw a → (rw_meets (kn_B x (nI u) (nI v) (a_dk a)) (x_ob x k) = false ↔ ∀ j, a_kn a u v j → ¬ a_out a k j) := fun hw => by
    constructor
    · intro hf j hj ho
      have hj3 : j < 320 := by have := kn_nw hJ hj; omega
      have : rw_meets (kn_B x (nI u) (nI v) (a_dk a)) (x_ob x k) = true := meets_i.mpr ⟨j, hj3, (hB j hj3).mpr hj, by rw [(hg.ws k hw).2.2 j hj3]; exact zd_t ho⟩
      rw [hf] at this
      cases this
    · intro hall
      cases hm : rw_meets (kn_B x (nI u) (nI v) (a_dk a)) (x_ob x k) with
      | false => rfl
      | true =>
        obtain ⟨j, hj3, j1, j2⟩ := meets_i.mp hm
        rw [(hg.ws k hw).2.2 j hj3] at j2
        exact absurd (zd_i.mp j2) (hall j ((hB j hj3).mp j1))
  constructor
  · rintro ⟨z1, z2, z3⟩
    exact ⟨z1, (hB k hk).mp z2, (hmeet z1).mp z3⟩
  · rintro ⟨z1, z2, z3⟩
    exact ⟨z1, (hB k hk).mpr z2, (hmeet z1).mpr z3⟩
/-! telling -/
theorem Rg_lf {x x' : zSt} {a : zAb} (h : lf_k x x') (hg : Rg x a) : Rg x' a := by
  obtain ⟨A, B, C, D, E, F, rfl⟩ := h
  exact hg
theorem lf_ln {x x' : zSt} (h : lf_k x x') : x_ln x' = x_ln x ∧ x_ns x' = x_ns x ∧ x_sp x' = x_sp x ∧ x_nl x' = x_nl x ∧ x_nm x' = x_nm x := by
  obtain ⟨A, B, C, D, E, F, rfl⟩ := h
  exact ⟨rfl, rfl, rfl, rfl, rfl⟩
theorem cn_tl (a : zAb) (P : Nat → Nat → Prop) (k : Nat) : cn (tlP a P) k = cn a k := by
  unfold cn
  refine congrArg sm2 ?_
  funext u v
  show (nt (if zd (P u v ∧ a_w a u v) = true then tlq (a_q a u v) (a_mn a u v) else a_q a u v)).count k = _
  split
  · rw [tlq_nt]
  · rfl
/-- one lane is changed by f, the others stay -/
theorem Rl_1 {x x' : zSt} {a a' : zAb} (hs : Rs x) (hf : lf_k x x') {u v l : Nat} (hu : u < 12) (hv : v < 12) (hln : x_ln x (12 * u + v) = some l) (hl : Rl x a) (hlk : a_lk a' = a_lk a) (ho : ∀ l' q t b, l' ≠ l → ln_r x l' q t b → ln_r x' l' q t b) (hq : ∀ p w, ¬ (p = u ∧ w = v) → a_q a' p w = a_q a p w ∧ a_to a' p w = a_to a p w ∧ a_tb a' w p = a_tb a w p) (hn : ln_r x' l (a_q a' u v) (a_to a' u v) (a_tb a' v u)) : Rl x' a' ∧ Rs x' := by
  obtain ⟨e1, e2, e3, e4, _⟩ := lf_ln hf
  refine ⟨fun p w hp hw => ?_, ?_⟩
  · rw [hlk, e1]
    refine ⟨(hl p w hp hw).1, fun hk => ?_⟩
    obtain ⟨l', h1, h2⟩ := (hl p w hp hw).2 hk
    by_cases e : p = u ∧ w = v
    · rw [e.1, e.2] at h1 ⊢
      exact ⟨l, hln, hn⟩
    · have hll : l' ≠ l := fun q => by
        rw [q] at h1
        have := hs.1 (12 * p + w) (12 * u + v) l (by omega) (by omega) h1 hln
        exact e ⟨by omega, by omega⟩
      obtain ⟨q1, q2, q3⟩ := hq p w e
      rw [q1, q2, q3]
      exact ⟨l', h1, ho l' _ _ _ hll h2⟩
  · refine ⟨by rw [e1]; exact hs.1, by rw [e1, e2, e3]; exact hs.2.1, by rw [e2, e3]; exact hs.2.2.1, fun k hk => ?_, by rw [e1, e2, e4]; exact hs.2.2.2.2⟩
    rw [e2] at hk
    rw [e3]
    exact ho _ _ _ _ (fun q => hs.2.1 k (12 * u + v) hk (by omega) (by rw [q]; exact hln)) (hs.2.2.2.1 k hk)
theorem tns_r {x : zSt} {a : zAb} (hR : Rx x a) (hJ : AJ a) {u n : Nat} (hu : u < a_dk a) (hn : n < a_dk a) : Rx (tn_s x (nI u) n) (tlP a (fun p q => p = u ∧ q = n)) := by
  obtain ⟨hg, hl, hs, hm⟩ := hR
  have h3 := hJ.lim
  rcases lnF_r hg hl hJ hu hn with ⟨k1, k2⟩ | ⟨k1, l, k2, k3, k4⟩
  · have e : tlP a (fun p q => p = u ∧ q = n) = a := tlP_no (fun p q h hw => by rw [h.1, h.2] at hw; rw [hw.1] at k1; cases k1)
    rw [e]
    unfold tn_s
    rw [k2]
    exact ⟨hg, hl, hs, hm⟩
  · have hme := mn_r hg hl hJ hu hn
    have hsm := row_same hme k4.2.2.1 (fun k hk => by have := mn_nw hk; omega) (fun k hk => by have := (hJ.bit u n k).1 hk; omega)
    unfold tn_s
    rw [k2]
    show Rx (if rw_same (x_me (fmn x (nI u) (nI n))) (x_lt x l) = true then fmn x (nI u) (nI n) else la_tell (fmn x (nI u) (nI n)) l) _
    by_cases hq : a_mn a u n = a_to a u n
    · have e : tlP a (fun p q => p = u ∧ q = n) = a := tlP_no (fun p q h hw => by rw [h.1, h.2] at hw; exact hw.2 hq)
      rw [e, if_pos (hsm.mpr hq)]
      exact ⟨hg, hl, hs, hm⟩
    · rw [if_neg (fun z => hq (hsm.mp z))]
      have hg' : Rg (fmn x (nI u) (nI n)) a := hg
      have hl' : Rl (fmn x (nI u) (nI n)) a := hl
      have hs' : Rs (fmn x (nI u) (nI n)) := hs
      have k4' : ln_r (fmn x (nI u) (nI n)) l (a_q a u n) (a_to a u n) (a_tb a n u) := k4
      have k3' : x_ln (fmn x (nI u) (nI n)) (12 * u + n) = some l := k3
      have hm' : Rn (fmn x (nI u) (nI n)) a := hm
      generalize fmn x (nI u) (nI n) = z at hme hg' hl' hs' k4' k3' hm'
      have hw : a_w a u n := ⟨k1, hq⟩
      have eq : ∀ p q, a_q (tlP a (fun p q => p = u ∧ q = n)) p q = if zd ((p = u ∧ q = n) ∧ a_w a p q) = true then tlq (a_q a p q) (a_mn a p q) else a_q a p q := fun _ _ => rfl
      have et : ∀ p q, a_to (tlP a (fun p q => p = u ∧ q = n)) p q = if zd ((p = u ∧ q = n) ∧ a_w a p q) = true then a_mn a p q else a_to a p q := fun _ _ => rfl
      have hnew := tell_s k4' (ql_len hJ u n) (fun k hk => by have := ((hJ.ql u n).2.2.1 k hk).1; omega) (fun hls => ql_tl hJ hls) hme
      have key := Rl_1 (a' := tlP a (fun p q => p = u ∧ q = n)) hs' (lf_tell z l) (show u < 12 by omega) (show n < 12 by omega) k3' hl' rfl (fun l' q t b hne h => tell_o hne h) (fun p w hne => by
        rw [eq, et, zd_f (fun y => hne y.1)]
        exact ⟨rfl, rfl, rfl⟩) (by
        rw [eq, et, zd_t ⟨⟨rfl, rfl⟩, hw⟩, if_pos rfl, if_pos rfl]
        exact hnew)
      refine ⟨Rg_lf (lf_tell z l) hg', key.1, key.2, fun k hk => ?_⟩
      rw [cn_tl, (lf_ln (lf_tell z l)).2.2.2.2]
      exact hm' k hk
theorem tn_r {x : zSt} {a : zAb} (hR : Rx x a) (hJ : AJ a) {u : Nat} (hu : u < a_dk a) : ∀ n, n ≤ a_dk a → Rx (tn x (nI u) n) (tlP a (fun p q => p = u ∧ q < n))
  | 0, _ => by
    rw [tlP_no (fun p q h _ => absurd h.2 (Nat.not_lt_zero q))]
    exact hR
  | n + 1, hn => by
    have ih := tn_r hR hJ hu n (by omega)
    have hs := tns_r ih (AJ_tlP hJ _) (u := u) (n := n) hu (show n < a_dk a by omega)
    rw [tlP_2] at hs
    have e : (fun p q => (p = u ∧ q < n) ∨ (p = u ∧ q = n)) = (fun p q => p = u ∧ q < n + 1) := by
      funext p q
      refine propext ⟨fun z => z.elim (fun z => ⟨z.1, by omega⟩) (fun z => ⟨z.1, by omega⟩), fun z => ?_⟩
      by_cases e : q = n
      · exact Or.inr ⟨z.1, e⟩
      · exact Or.inl ⟨z.1, by omega⟩
    rw [e] at hs
    exact hs
/-- all of one desk's lanes -/
theorem tn_d {x : zSt} {a : zAb} (hR : Rx x a) (hJ : AJ a) {u : Nat} (hu : u < a_dk a) : Rx (tn x (nI u) (x_dk x)) (tlP a (fun p _ => p = u)) := by
  have h := tn_r hR hJ hu (a_dk a) (Nat.le_refl _)
  rw [hR.1.sc.1]
  have e : tlP a (fun p q => p = u ∧ q < a_dk a) = tlP a (fun p _ => p = u) := tlP_eq (fun p q hw => ⟨fun z => z.1, fun z => ⟨z, (hJ.lk q p (hJ.lk p q hw.1).1).2⟩⟩)
  rw [e] at h
  exact h
