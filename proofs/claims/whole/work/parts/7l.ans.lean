/-! what is asked is answered alike -/
/-- rows -/
theorem nth_e {f g : Nat → Int64} (i : Int32) {nw : Nat} (hb : ∀ k, nw ≤ k → k < 320 → zbit f k = false) (he : ∀ k, k < 320 → zbit f k = zbit g k) (hi : ¬ i < 0) : ∀ n w (b : Int32), w + n = nw → nw ≤ 300 → ∀ m, w + m = 300 → rw_nthA f i m w b = nthY g n w (i - b) := by
  have tailz : ∀ m w (b : Int32), nw ≤ w → w + m = 300 → rw_nthA f i m w b = -1 := by
    intro m
    induction m with
    | zero => intro w b _ _; rfl
    | succ m ih =>
      intro w b hw hm
      simp only [rw_nthA]
      rw [hb w hw (by omega), if_neg (by decide)]
      exact ih (w + 1) b (by omega) (by omega)
  intro n
  induction n with
  | zero =>
    intro w b hw h3 m hm
    simp only [nthY]
    exact tailz m w b (by omega) hm
  | succ n ih =>
    intro w b hw h3 m hm
    obtain ⟨m', rfl⟩ : ∃ m', m = m' + 1 := ⟨m - 1, by omega⟩
    simp only [rw_nthA, nthY]
    rw [he w (by omega)]
    by_cases c : zbit g w = true
    · rw [if_pos c, if_pos c]
      have e0 : b = i ↔ i - b = 0 := by
        constructor
        · intro h; rw [h]; exact Int32.sub_self _
        · intro h
          have := Int32.sub_add_cancel i b
          rw [h, Int32.zero_add] at this
          exact this
      by_cases hbi : b = i
      · rw [if_pos hbi, if_pos (e0.mp hbi)]
      · rw [if_neg hbi, if_neg (fun z => hbi (e0.mpr z)), ih (w + 1) (b + 1) (by omega) h3 m' (by omega)]
        congr 1
        rw [Int32.sub_eq_add_neg, Int32.sub_eq_add_neg, Int32.sub_eq_add_neg, Int32.neg_add, Int32.sub_eq_add_neg, Int32.add_assoc]
    · rw [if_neg c, if_neg c]
      exact ih (w + 1) b (by omega) h3 m' (by omega)
theorem nth_neg {f : Nat → Int64} {i : Int32} (hi : i < 0) : ∀ m w (k : Nat), w + m ≤ 300 → k ≤ w → rw_nthA f i m w (nI k) = -1 := by
  intro m
  induction m with
  | zero => intro w k _ _; rfl
  | succ m ih =>
    intro w k hw hk
    simp only [rw_nthA]
    by_cases c : zbit f w = true
    · rw [if_pos c, if_neg (fun z => by
        have := nI_pos (n := k) (by omega)
        rw [z] at this
        exact this hi), nI_1]
      exact ih (w + 1) (k + 1) (by omega) (by omega)
    · rw [if_neg c]
      exact ih (w + 1) k (by omega) (by omega)
theorem nth_0 {f : Nat → Int64} (hf : ∀ k, k < 320 → zbit f k = false) : ∀ n w (b : Int32), w + n ≤ 300 → nthY f n w b = -1 := by
  intro n
  induction n with
  | zero => intro w b _; rfl
  | succ n ih =>
    intro w b hw
    simp only [nthY]
    rw [hf w (by omega), if_neg (by decide)]
    exact ih (w + 1) b (by omega)
/-- messages -/
noncomputable def it_w (i : zIt) : Int32 := match i with
  | .inl k => nI k
  | .inr _ => -2
/-- the i-th of a road's messages, by the reference -/
noncomputable def lsI : List zIt → Int32 → Int32
  | [], _ => -1
  | i :: t, b => if b = 0 then it_w i else lsI t (b - 1)
theorem msY_e {y : zMS} {a : zAb} (hR : Ry y a) {u v : Nat} (hu : u < 12) (hv : v < 12) : ∀ n m (b : Int32), m + n = y_ms y → msY y (nI u) (nI v) n m b = lsI (yqs y u v m n) b := by
  have hJv := hR.2.2.2
  have hcp := hJv.cp
  intro n
  induction n with
  | zero => intro m b _; rfl
  | succ n ih =>
    intro m b hm
    have hj := hJv.ms m (by omega)
    have hn6 := hJv.lim
    have e1 : yqs y u v m (n + 1) = y_hr y u v m ++ yqs y u v (m + 1) n := by
      rw [Nat.add_comm n 1, yqs_add]
      rfl
    simp only [msY]
    rw [e1]
    unfold y_hr
    by_cases c : y_fr y m = u ∧ y_tt y m = v
    · rw [if_pos ⟨by rw [c.1], by rw [c.2]⟩, if_pos c]
      show _ = lsI (y_it y m :: yqs y u v (m + 1) n) b
      simp only [lsI]
      by_cases hb : b = 0
      · rw [if_pos hb, if_pos hb]
        unfold y_it it_w
        rcases hj.2.2 with h | ⟨k, hk, h⟩
        · rw [if_pos h]; exact h
        · rw [if_neg (by rw [h]; exact nI_n2 (by omega)), h]
          show nI k = nI (nI k).toNatClampNeg
          rw [nI_clamp (by omega)]
      · rw [if_neg hb, if_neg hb]; exact ih (m + 1) (b - 1) (by omega)
    · rw [if_neg (fun z => c ⟨(nI_eq (by omega) (by omega)).mp z.1, (nI_eq (by omega) (by omega)).mp z.2⟩), if_neg c, List.nil_append]
      exact ih (m + 1) b (by omega)
theorem lsI_n : ∀ (q : List zIt) (k : Nat), q.length ≤ 121 → k < 2 ^ 31 → lsI q (nI k) = if h : k < q.length then it_w q[k] else -1
  | [], k, _, _ => by simp [lsI]
  | i :: t, k, hq, hk => by
    simp only [lsI]
    cases k with
    | zero =>
      rw [if_pos (show nI 0 = 0 from rfl), dif_pos (show 0 < (i :: t).length from Nat.zero_lt_succ _)]
      rfl
    | succ k =>
      have h0 : ¬ nI (k + 1) = 0 := fun z => by
        have := (nI_eq (a := k + 1) (b := 0) hk (by decide)).mp z
        omega
      rw [if_neg h0, nI_pred, lsI_n t k (by simp only [List.length_cons] at hq; omega) (by omega)]
      by_cases c : k < t.length
      · rw [dif_pos c, dif_pos (by simp only [List.length_cons]; omega)]; rfl
      · rw [dif_neg c, dif_neg (by simp only [List.length_cons]; omega)]
theorem msg_e {x : zSt} {l : Nat} {q : List zIt} {t b : Nat → Bool} (h : ln_r x l q t b) (hq : q.length ≤ 121) {i : Int32} (hi : ¬ i < 0) : la_item x l i = lsI q i := by
  obtain ⟨k, hk, rfl⟩ := nI_of hi
  rw [lsI_n q k hq hk]
  unfold la_item
  rw [h.1]
  by_cases c : k < q.length
  · rw [if_pos ⟨hi, nI_lt c (by omega)⟩, dif_pos c, nI_clamp hk]
    have := h.2.1 k c
    cases hit : q[k] with
    | inl j => rw [hit] at this; exact this
    | inr m => rw [hit] at this; exact this.1
  · rw [if_neg (fun z => c ((nI_ltI hk (by omega)).mp z.2)), dif_neg c]
/-! counts -/
theorem mo_e {y : zMS} {k : Nat} (hk : k < 600) : ∀ n, (∀ m, m < n → (y_fr y m < 12 ∧ y_tt y m < 12) ∧ (y_wh y m = -2 ∨ ∃ j, j < 600 ∧ y_wh y m = nI j)) → y_mo y (nI k) n = sm2 (fun u v => (nt (yqs y u v 0 n)).count k)
  | 0, _ => by
    show 0 = sm2 (fun _ _ => 0)
    decide
  | n + 1, h => by
    have ih := mo_e (y := y) hk n (fun m hm => h m (by omega))
    obtain ⟨⟨h1, h2⟩, h3⟩ := h n (by omega)
    have hc : (nt [y_it y n]).count k = (if y_wh y n = nI k then 1 else 0) := by
      unfold y_it
      rcases h3 with z | ⟨j, hj, z⟩
      · rw [if_pos z, z, if_neg (fun q => nI_n2 (by omega) q.symm)]; rfl
      · rw [z, if_neg (nI_n2 (by omega)), nI_clamp (by omega)]
        show List.count k [j] = _
        rw [List.count_singleton]
        by_cases e : j = k
        · rw [e]; simp
        · rw [if_neg (fun q => e ((nI_eq (by omega) (by omega)).mp q))]; simp [e]
    have hs := sm2_up (fun u v => (nt (yqs y u v 0 n)).count k) ((nt (yqs y (y_fr y n) (y_tt y n) 0 n)).count k + (if y_wh y n = nI k then 1 else 0)) h1 h2
    have e : sm2 (fun u v => (nt (yqs y u v 0 (n + 1))).count k) = sm2 (va_u2 (fun u v => (nt (yqs y u v 0 n)).count k) (y_fr y n) (y_tt y n) ((nt (yqs y (y_fr y n) (y_tt y n) 0 n)).count k + (if y_wh y n = nI k then 1 else 0))) := by
      refine congrArg sm2 ?_
      funext u v
      show (nt (yqs y u v 0 n ++ y_hr y u v (0 + n))).count k = _
      rw [nt_app, List.count_append, Nat.zero_add]
      simp only [va_u2]
      unfold y_hr
      by_cases c : u = y_fr y n ∧ v = y_tt y n
      · rw [if_pos c, if_pos ⟨c.1.symm, c.2.symm⟩, hc, c.1, c.2]
      · rw [if_neg c, if_neg (fun z => c ⟨z.1.symm, z.2.symm⟩)]; rfl
    simp only [y_mo]
    rw [e, ih]
    omega
theorem cn_y {y : zMS} {a : zAb} (hR : Ry y a) {k : Nat} (hk : k < 600) : y_mo y (nI k) (y_ms y) = cn a k := by
  have hJv := hR.2.2.2
  have hl := hJv.lim
  rw [mo_e hk _ (fun m hm => ⟨⟨(hJv.ms m hm).1, (hJv.ms m hm).2.1⟩, (hJv.ms m hm).2.2.imp id (fun ⟨j, h1, h2⟩ => ⟨j, by omega, h2⟩)⟩)]
  unfold cn
  exact sm_cg 12 (fun u hu => sm_cg 12 (fun v hv => by
    show (nt (yq y u v)).count k = _
    rw [(hR.2.1 u v hu hv).2.1]))
theorem cn_le {a : zAb} (hJ : AJ a) (k : Nat) : cn a k ≤ 144 := by
  unfold cn
  have h1 : sm2 (fun u v => (nt (a_q a u v)).count k) ≤ sm2 (fun _ _ => 1) := sm2_le (fun u v _ _ => List.nodup_iff_count.mp (hJ.ql u v).2.1 k)
  have h2 : sm2 (fun _ _ => 1) = 144 := by decide
  omega
theorem cn_pos {a : zAb} (hJ : AJ a) {k : Nat} : 0 < cn a k ↔ a_uw a k := by
  unfold cn
  constructor
  · intro h
    obtain ⟨u, hu, h1⟩ := sm_pos 12 h
    obtain ⟨v, hv, h2⟩ := sm_pos 12 h1
    exact ⟨u, v, List.count_pos_iff.mp h2⟩
  · rintro ⟨u, v, h⟩
    have hlk : a_lk a u v = true := by
      cases hq : a_lk a u v with
      | true => rfl
      | false => rw [(hJ.un u v hq).1] at h; exact absurd h List.not_mem_nil
    have hu := (hJ.lk u v hlk).2
    have hv := (hJ.lk v u (hJ.lk u v hlk).1).2
    have h12 := hJ.lim.1
    have hs := sm2_up (fun u v => (nt (a_q a u v)).count k) 0 (show u < 12 by omega) (show v < 12 by omega)
    have := List.count_pos_iff.mpr h
    have hs' : sm2 (va_u2 (fun u v => (nt (a_q a u v)).count k) u v 0) + (nt (a_q a u v)).count k = sm2 (fun u v => (nt (a_q a u v)).count k) + 0 := hs
    omega
theorem uw_x {x : zSt} {a : zAb} (hR : Rx x a) (hJ : AJ a) : x_uw x (x_nn x) = ct (a_uw a) (a_nn a) := by
  rw [hR.1.sc.2.2.2.1]
  have : ∀ n, n ≤ a_nn a → x_uw x n = ct (a_uw a) n := by
    intro n
    induction n with
    | zero => intro _; rfl
    | succ n ih =>
      intro hn
      show x_uw x n + (if 0 < x_nm x n then 1 else 0) = ct (a_uw a) n + (if zd (a_uw a n) = true then 1 else 0)
      rw [ih (by omega), hR.2.2.2 n (by omega)]
      have hc := cn_le hJ n
      have e : (0 : Int32) < nI (cn a n) ↔ a_uw a n := by
        rw [← cn_pos hJ]
        exact nI_ltI (a := 0) (by decide) (by omega)
      by_cases c : a_uw a n
      · rw [if_pos (e.mpr c), zd_t c, if_pos rfl]
      · rw [if_neg (fun z => c (e.mp z)), zd_f c]; rfl
  exact this _ (Nat.le_refl _)
theorem uw_y {y : zMS} {a : zAb} (hR : Ry y a) (hJ : AJ a) : y_uw y (y_nn y) = ct (a_uw a) (a_nn a) := by
  have h3 := hJ.lim
  rw [hR.1.sc.2.2.2.1]
  have : ∀ n, n ≤ a_nn a → y_uw y n = ct (a_uw a) n := by
    intro n
    induction n with
    | zero => intro _; rfl
    | succ n ih =>
      intro hn
      show y_uw y n + (if 0 < y_mo y (nI n) (y_ms y) then 1 else 0) = ct (a_uw a) n + (if zd (a_uw a n) = true then 1 else 0)
      rw [ih (by omega), cn_y hR (by omega)]
      by_cases c : a_uw a n
      · rw [if_pos ((cn_pos hJ).mpr c), zd_t c, if_pos rfl]
      · rw [if_neg (fun z => c ((cn_pos hJ).mp z)), zd_f c]; rfl
  exact this _ (Nat.le_refl _)
/-- all messages, all tells -/
def nTl : List zIt → Nat
  | [] => 0
  | i :: t => (if isT i = true then 1 else 0) + nTl t
theorem nTl_app (p q : List zIt) : nTl (p ++ q) = nTl p + nTl q := by
  induction p with
  | nil => show nTl q = 0 + nTl q; omega
  | cons i t ih => show (if isT i = true then 1 else 0) + nTl (t ++ q) = (if isT i = true then 1 else 0) + nTl t + nTl q; rw [ih]; omega
/-- sums over places -/
theorem sm_pl (f : Nat → Nat → Nat) : ∀ n, sm (fun p => f (p / 12) (p % 12)) (12 * n) = sm (fun u => sm (f u) 12) n
  | 0 => rfl
  | n + 1 => by
    have ih := sm_pl f n
    show sm (fun p => f (p / 12) (p % 12)) (12 * n + 12) = _
    have h : ∀ k, k ≤ 12 → sm (fun p => f (p / 12) (p % 12)) (12 * n + k) = sm (fun p => f (p / 12) (p % 12)) (12 * n) + sm (f n) k := by
      intro k
      induction k with
      | zero => intro _; rfl
      | succ k ihk =>
        intro hk
        show sm (fun p => f (p / 12) (p % 12)) (12 * n + k) + f ((12 * n + k) / 12) ((12 * n + k) % 12) = _
        rw [ihk (by omega), show (12 * n + k) / 12 = n by omega, show (12 * n + k) % 12 = k by omega]
        show _ = _ + (sm (f n) k + f n k)
        omega
    rw [h 12 (by omega), ih]
    rfl
theorem ml_x {x : zSt} {a : zAb} (hR : Rx x a) (hJ : AJ a) : x_ml x 144 = sm2 (fun u v => (a_q a u v).length) := by
  unfold sm2
  rw [← sm_pl (fun u v => (a_q a u v).length) 12]
  have : ∀ n, n ≤ 144 → x_ml x n = sm (fun p => (a_q a (p / 12) (p % 12)).length) n := by
    intro n
    induction n with
    | zero => intro _; rfl
    | succ n ih =>
      intro hn
      show x_ml x n + (match x_ln x n with | some l => x_lz x l | none => 0) = _ + (a_q a (n / 12) (n % 12)).length
      rw [ih (by omega)]
      have h1 := hR.2.1 (n / 12) (n % 12) (by omega) (by omega)
      rw [show 12 * (n / 12) + n % 12 = n by omega] at h1
      cases hk : a_lk a (n / 12) (n % 12) with
      | false => rw [h1.1 hk, (hJ.un _ _ hk).1]; rfl
      | true =>
        obtain ⟨l, e, h2⟩ := h1.2 hk
        rw [e]
        show _ + x_lz x l = _
        rw [h2.1]
  exact this 144 (Nat.le_refl _)
theorem ms_e {y : zMS} {a : zAb} (hR : Ry y a) : y_ms y = sm2 (fun u v => (a_q a u v).length) := by
  have hJv := hR.2.2.2
  have h := ms_sum y (y_ms y) (fun m hm => ⟨(hJv.ms m hm).1, (hJv.ms m hm).2.1⟩)
  rw [← h]
  exact sm_cg 12 (fun u hu => sm_cg 12 (fun v hv => by
    show (yq y u v).length = _
    rw [(hR.2.1 u v hu hv).2.1]))
theorem la_tl_e {x : zSt} {l : Nat} {q : List zIt} {t b : Nat → Bool} (h : ln_r x l q t b) (hk : ∀ k, k ∈ nt q → k < 600) : ∀ n, n ≤ q.length → la_tl x l n = nTl (q.take n)
  | 0, _ => rfl
  | n + 1, hn => by
    have ih := la_tl_e h hk n (by omega)
    have htk : q.take (n + 1) = q.take n ++ [q[n]] := List.take_succ_eq_append_getElem (by omega)
    have hit := h.2.1 n (by omega)
    have e1 : la_tl x l (n + 1) = la_tl x l n + (if la_at x l n = -2 then 1 else 0) := rfl
    rw [e1, ih, htk, nTl_app]
    have e2 : nTl [q[n]] = if isT q[n] = true then 1 else 0 := rfl
    rw [e2]
    cases hq : q[n] with
    | inl k =>
      rw [hq] at hit
      have hit' : la_at x l n = nI k := hit
      have : k < 600 := hk k (nt_mem.mpr (by rw [← hq]; exact List.getElem_mem _))
      rw [hit', if_neg (nI_n2 (by omega))]; rfl
    | inr m =>
      rw [hq] at hit
      rw [if_pos hit.1]; rfl
theorem tl_x {x : zSt} {a : zAb} (hR : Rx x a) (hJ : AJ a) : x_tl x 144 = sm2 (fun u v => nTl (a_q a u v)) := by
  have h3 := hJ.lim
  unfold sm2
  rw [← sm_pl (fun u v => nTl (a_q a u v)) 12]
  have : ∀ n, n ≤ 144 → x_tl x n = sm (fun p => nTl (a_q a (p / 12) (p % 12))) n := by
    intro n
    induction n with
    | zero => intro _; rfl
    | succ n ih =>
      intro hn
      show x_tl x n + (match x_ln x n with | some l => la_tl x l (x_lz x l) | none => 0) = _ + nTl (a_q a (n / 12) (n % 12))
      rw [ih (by omega)]
      have h1 := hR.2.1 (n / 12) (n % 12) (by omega) (by omega)
      rw [show 12 * (n / 12) + n % 12 = n by omega] at h1
      cases hk : a_lk a (n / 12) (n % 12) with
      | false => rw [h1.1 hk, (hJ.un _ _ hk).1]; rfl
      | true =>
        obtain ⟨l, e, h2⟩ := h1.2 hk
        rw [e]
        show _ + la_tl x l (x_lz x l) = _
        rw [la_tl_e h2 (fun k hk2 => by have := ((hJ.ql _ _).2.2.1 k hk2).1; omega) (x_lz x l) (by rw [h2.1]; exact Nat.le_refl _), h2.1, List.take_length]
  exact this 144 (Nat.le_refl _)
theorem tl_ye {y : zMS} : ∀ n, (∀ m, m < n → y_fr y m < 12 ∧ y_tt y m < 12) → y_mo y (-2) n = sm2 (fun u v => nTl (yqs y u v 0 n))
  | 0, _ => by
    show 0 = sm2 (fun _ _ => 0)
    decide
  | n + 1, h => by
    have ih := tl_ye (y := y) n (fun m hm => h m (by omega))
    obtain ⟨h1, h2⟩ := h n (by omega)
    have hc : nTl [y_it y n] = (if y_wh y n = -2 then 1 else 0) := by
      show (if isT (y_it y n) = true then 1 else 0) + 0 = _
      by_cases c : y_wh y n = -2
      · rw [if_pos ((isT_it y n).mpr c), if_pos c]
      · rw [if_neg (fun z => c ((isT_it y n).mp z)), if_neg c]
    have hs := sm2_up (fun u v => nTl (yqs y u v 0 n)) (nTl (yqs y (y_fr y n) (y_tt y n) 0 n) + (if y_wh y n = -2 then 1 else 0)) h1 h2
    have e : sm2 (fun u v => nTl (yqs y u v 0 (n + 1))) = sm2 (va_u2 (fun u v => nTl (yqs y u v 0 n)) (y_fr y n) (y_tt y n) (nTl (yqs y (y_fr y n) (y_tt y n) 0 n) + (if y_wh y n = -2 then 1 else 0))) := by
      refine congrArg sm2 ?_
      funext u v
      show nTl (yqs y u v 0 n ++ y_hr y u v (0 + n)) = _
      rw [nTl_app, Nat.zero_add]
      simp only [va_u2]
      unfold y_hr
      by_cases c : u = y_fr y n ∧ v = y_tt y n
      · rw [if_pos c, if_pos ⟨c.1.symm, c.2.symm⟩, hc, c.1, c.2]
      · rw [if_neg c, if_neg (fun z => c ⟨z.1.symm, z.2.symm⟩)]; rfl
    simp only [y_mo]
    rw [e, ih]
    omega
theorem tl_e {y : zMS} {a : zAb} (hR : Ry y a) : y_mo y (-2) (y_ms y) = sm2 (fun u v => nTl (a_q a u v)) := by
  have hJv := hR.2.2.2
  rw [tl_ye _ (fun m hm => ⟨(hJv.ms m hm).1, (hJv.ms m hm).2.1⟩)]
  exact sm_cg 12 (fun u hu => sm_cg 12 (fun v hv => by
    show nTl (yq y u v) = _
    rw [(hR.2.1 u v hu hv).2.1]))
theorem lc_y {y : zMS} {a : zAb} (hR : Ry y a) (hJ : AJ a) : lc_u y (y_dk y) = lc a := by
  have h3 := hJ.lim
  rw [hR.1.sc.1]
  have hv : ∀ u n, u < 12 → n ≤ 12 → lc_v y u n = ct (fun v => a_lk a u v = true) n := by
    intro u n hu
    induction n with
    | zero => intro _; rfl
    | succ n ih =>
      intro hn
      show lc_v y u n + (if y_lk y (12 * u + n) = true then 1 else 0) = ct (fun v => a_lk a u v = true) n + (if zd (a_lk a u n = true) = true then 1 else 0)
      rw [ih (by omega), (hR.2.1 u n hu (by omega)).1]
      cases hq : a_lk a u n with
      | true => rw [zd_t rfl]
      | false => rw [zd_f (by decide)]
  have hu : ∀ n, n ≤ a_dk a → lc_u y n = sm (fun u => ct (fun v => v < u ∧ a_lk a u v = true) 12) n := by
    intro n
    induction n with
    | zero => intro _; rfl
    | succ n ih =>
      intro hn
      show lc_u y n + lc_v y n n = _ + ct (fun v => v < n ∧ a_lk a n v = true) 12
      rw [ih (by omega), hv n n (by omega) (by omega)]
      have e : ∀ k, n + k ≤ 12 → ct (fun v => v < n ∧ a_lk a n v = true) (n + k) = ct (fun v => a_lk a n v = true) n := by
        intro k
        induction k with
        | zero => intro _; exact ct_cg n (fun i hi => ⟨fun z => z.2, fun z => ⟨hi, z⟩⟩)
        | succ k ihk =>
          intro hk
          rw [← ihk (by omega)]
          have hs : ¬ (n + k < n ∧ a_lk a n (n + k) = true) := fun z => by omega
          exact ct_s0 hs
      have := e (12 - n) (by omega)
      rw [show n + (12 - n) = 12 by omega] at this
      rw [this]
  rw [hu _ (Nat.le_refl _)]
  unfold lc
  have e : ∀ k, a_dk a + k ≤ 12 → sm (fun u => ct (fun v => v < u ∧ a_lk a u v = true) 12) (a_dk a + k) = sm (fun u => ct (fun v => v < u ∧ a_lk a u v = true) 12) (a_dk a) := by
    intro k
    induction k with
    | zero => intro _; rfl
    | succ k ihk =>
      intro hk
      show sm _ (a_dk a + k) + ct (fun v => v < a_dk a + k ∧ a_lk a (a_dk a + k) v = true) 12 = _
      rw [ihk (by omega), ct_zero (fun i _ z => by have := (hJ.lk _ _ z.2).2; omega), Nat.add_zero]
  have := e (12 - a_dk a) (by omega)
  rw [show a_dk a + (12 - a_dk a) = 12 by omega] at this
  exact this.symm
