/-! rows of words, masks: bits -/
def row_r (f : Nat → Int64) (m : Nat → Bool) : Prop := ∀ k, k < 320 → zbit f k = m k
theorem zbit_clr (f : Nat → Int64) {k : Nat} (hk : k < 320) : zbit (rw_clr f) k = false := by
  unfold zbit rw_clr
  rw [if_pos (by omega)]
  exact BitVec.getLsbD_zero
theorem one_shl {n i : Nat} (hn : n < 64) (hi : i < 64) : ((1 : Int64) <<< ((nI n).toInt64 &&& 63)).toBitVec.getLsbD i = decide (i = n) := by
  rw [wb_c n hn, Int64.toBitVec_shiftLeft]
  show ((1 : BitVec 64) <<< ((lN n).toBitVec.smod 64).toNat).getLsbD i = _
  rw [wb_tb, wb_sm n hn, BitVec.toNat_ofNat, Nat.mod_eq_of_lt (by omega), BitVec.getLsbD_shiftLeft]
  rcases Nat.lt_trichotomy i n with h | h | h
  · simp [h, show i ≠ n by omega]
  · subst h; simp [hi]
  · have : i - n ≠ 0 := by omega
    simp [hi, show ¬ i < n by omega, show i ≠ n by omega]
    omega
theorem zbit_add (f : Nat → Int64) (n k : Nat) : zbit (rw_add f n) k = (zbit f k || decide (k = n)) := by
  unfold zbit rw_add
  simp only [vp_updL]
  by_cases h : k / 64 = n / 64
  · rw [if_pos h, Int64.toBitVec_or, BitVec.getLsbD_or, one_shl (Nat.mod_lt _ (by decide)) (Nat.mod_lt _ (by decide)), h]
    congr 1
    refine decide_eq_decide.mpr ⟨fun z => ?_, fun z => ?_⟩
    · omega
    · rw [z]
  · rw [if_neg h, decide_eq_false (fun z => h (by rw [z])), Bool.or_false]
theorem zbit_or (f g : Nat → Int64) {k : Nat} (hk : k < 320) : zbit (rw_or f g) k = (zbit f k || zbit g k) := by
  unfold zbit rw_or
  rw [if_pos (show k / 64 < 5 by omega), Int64.toBitVec_or, BitVec.getLsbD_or]
theorem zbit_set (f g : Nat → Int64) {k : Nat} (hk : k < 320) : zbit (rw_set f g) k = zbit g k := by
  unfold zbit rw_set
  rw [if_pos (show k / 64 < 5 by omega)]
theorem w_eq {f g : Nat → Int64} (h : ∀ k, k < 320 → zbit f k = zbit g k) : ∀ i, i < 5 → f i = g i := fun i hi => by
  refine Int64.toBitVec_inj.mp (BitVec.eq_of_getLsbD_eq (fun j hj => ?_))
  have := h (64 * i + j) (by omega)
  unfold zbit at this
  rw [show (64 * i + j) / 64 = i by omega, show (64 * i + j) % 64 = j by omega] at this
  exact this
theorem zbit_w {f g : Nat → Int64} (h : ∀ i, i < 5 → f i = g i) : ∀ k, k < 320 → zbit f k = zbit g k := fun k hk => by
  unfold zbit
  rw [h _ (by omega)]
theorem same_i {f g : Nat → Int64} : rw_same f g = true ↔ ∀ k, k < 320 → zbit f k = zbit g k := by
  unfold rw_same
  rw [zd_i]
  exact ⟨zbit_w, w_eq⟩
theorem meets_i {f g : Nat → Int64} : rw_meets f g = true ↔ ∃ k, k < 320 ∧ zbit f k = true ∧ zbit g k = true := by
  unfold rw_meets
  rw [zd_i]
  constructor
  · rintro ⟨i, hi, h⟩
    apply Classical.byContradiction
    intro hn
    refine h (Int64.toBitVec_inj.mp (BitVec.eq_of_getLsbD_eq (fun j hj => ?_)))
    rw [Int64.toBitVec_and, BitVec.getLsbD_and]
    show _ = (0#64).getLsbD j
    rw [BitVec.getLsbD_zero]
    cases h1 : (f i).toBitVec.getLsbD j with
    | false => rfl
    | true =>
      cases h2 : (g i).toBitVec.getLsbD j with
      | false => rfl
      | true =>
        refine absurd ⟨64 * i + j, by omega, ?_, ?_⟩ hn
        · unfold zbit
          rw [show (64 * i + j) / 64 = i by omega, show (64 * i + j) % 64 = j by omega]; exact h1
        · unfold zbit
          rw [show (64 * i + j) / 64 = i by omega, show (64 * i + j) % 64 = j by omega]; exact h2
  · rintro ⟨k, hk, h1, h2⟩
    refine ⟨k / 64, by omega, fun z => ?_⟩
    have t := congrArg (fun x : Int64 => x.toBitVec.getLsbD (k % 64)) z
    rw [Int64.toBitVec_and, BitVec.getLsbD_and] at t
    unfold zbit at h1 h2
    rw [h1, h2] at t
    rw [show (0 : Int64).toBitVec = 0#64 from rfl, BitVec.getLsbD_zero] at t
    exact absurd t (by decide)
theorem row_same {f g : Nat → Int64} {m n : Nat → Bool} (h1 : row_r f m) (h2 : row_r g n) (m1 : ∀ k, m k = true → k < 320) (m2 : ∀ k, n k = true → k < 320) : rw_same f g = true ↔ m = n := by
  rw [same_i]
  constructor
  · intro h
    funext k
    by_cases hk : k < 320
    · rw [← h1 k hk, ← h2 k hk]; exact h k hk
    · cases e1 : m k with
      | true => exact absurd (m1 k e1) hk
      | false =>
        cases e2 : n k with
        | true => exact absurd (m2 k e2) hk
        | false => rfl
  · intro h k hk
    rw [h1 k hk, h2 k hk, h]
/-! masks of desks and readers -/
theorem inm_b {m : Int32} {d : Nat} (hd : d < 31) : inm m (nI d) = bt m d := by
  unfold inm
  have e : ((m >>> (nI d &&& 31)) &&& 1) = 0 ↔ bt m d = false := by
    constructor
    · intro h
      have t := congrArg (fun x => bt x 0) h
      simp only [b_and, b_0] at t
      rw [b_sshr d (by omega) m (by decide), if_pos (by omega)] at t
      have e1 : bt 1 0 = true := by decide
      rw [e1, Bool.and_true] at t
      exact t
    · intro h
      refine b_ext (fun i hi => ?_)
      rw [b_and, b_0]
      by_cases h0 : i = 0
      · subst h0
        rw [b_sshr d (by omega) m (by decide), if_pos (by omega)]
        rw [show d + 0 = d from rfl, h, Bool.false_and]
      · have : bt 1 i = false := by
          have : ∀ i, i < 32 → i ≠ 0 → bt 1 i = false := by decide +kernel
          exact this i hi h0
        rw [this, Bool.and_false]
  cases hb : bt m d with
  | true => exact zd_t (fun z => by rw [e.mp z] at hb; cases hb)
  | false => exact zd_f (fun z => z (e.mpr hb))
theorem bt_1 {n i : Nat} (hn : n < 31) (hi : i < 31) : bt ((1 : Int32) <<< (nI n &&& 31)) i = decide (i = n) := by
  rw [b_shl n (by omega) 1 (by omega)]
  by_cases h : n ≤ i
  · rw [decide_eq_true h, Bool.true_and]
    have : ∀ j, j < 32 → bt 1 j = decide (j = 0) := by decide +kernel
    rw [this _ (by omega)]
    exact decide_eq_decide.mpr ⟨fun z => by omega, fun z => by omega⟩
  · rw [decide_eq_false h, Bool.false_and, decide_eq_false (by omega)]
theorem inm_or {m : Int32} {n d : Nat} (hn : n < 31) (hd : d < 31) : inm (m ||| (1 <<< (nI n &&& 31))) (nI d) = (inm m (nI d) || decide (d = n)) := by
  rw [inm_b hd, inm_b hd, b_or, bt_1 hn hd]
theorem inm_off {m : Int32} {n d : Nat} (hn : n < 31) (hd : d < 31) : inm (m &&& ((1 <<< (nI n &&& 31)) ^^^ (-1))) (nI d) = (inm m (nI d) && !decide (d = n)) := by
  rw [inm_b hd, inm_b hd, b_and, b_xor, bt_1 hn hd, b_m1 d (by omega), Bool.xor_true]
theorem inm_0 {d : Nat} (hd : d < 31) : inm 0 (nI d) = false := by rw [inm_b hd, b_0]
