/-! numbers, bits, updated worlds -/
def bt (x : Int32) (i : Nat) : Bool := x.toBitVec.getLsbD i
theorem b_ext {x y : Int32} (h : ∀ i, i < 32 → bt x i = bt y i) : x = y := Int32.toBitVec_inj.mp (BitVec.eq_of_getLsbD_eq (fun i hi => h i hi))
theorem b_or (x y : Int32) (i : Nat) : bt (x ||| y) i = (bt x i || bt y i) := by unfold bt; rw [Int32.toBitVec_or, BitVec.getLsbD_or]
theorem b_and (x y : Int32) (i : Nat) : bt (x &&& y) i = (bt x i && bt y i) := by unfold bt; rw [Int32.toBitVec_and, BitVec.getLsbD_and]
theorem b_xor (x y : Int32) (i : Nat) : bt (x ^^^ y) i = (bt x i ^^ bt y i) := by unfold bt; rw [Int32.toBitVec_xor, BitVec.getLsbD_xor]
theorem b_big {x : Int32} {i : Nat} (h : 32 ≤ i) : bt x i = false := BitVec.getLsbD_of_ge _ _ h
theorem b_m1 : ∀ i, i < 32 → bt (-1) i = true := by decide +kernel
theorem b_0 (i : Nat) : bt 0 i = false := BitVec.getLsbD_zero
theorem s_l : ∀ n, n < 32 → ((nI n &&& 31).toBitVec.smod 32).toNat = n := by decide +kernel
theorem b_shl (n : Nat) (hn : n < 32) (x : Int32) {i : Nat} (hi : i < 32) : bt (x <<< (nI n &&& 31)) i = (decide (n ≤ i) && bt x (i - n)) := by
  unfold bt
  rw [Int32.toBitVec_shiftLeft]
  show (x.toBitVec <<< ((nI n &&& 31).toBitVec.smod 32).toNat).getLsbD i = _
  rw [s_l n hn, BitVec.getLsbD_shiftLeft]
  rcases Nat.lt_or_ge i n with h | h
  · simp [h, Nat.not_le.mpr h]
  · simp [hi, h, Nat.not_lt.mpr h]
theorem b_sshr (n : Nat) (hn : n < 32) (x : Int32) {i : Nat} (hi : i < 32) : bt (x >>> (nI n &&& 31)) i = if n + i < 32 then bt x (n + i) else bt x 31 := by
  unfold bt
  rw [Int32.toBitVec_shiftRight]
  show (x.toBitVec.sshiftRight ((nI n &&& 31).toBitVec.smod 32).toNat).getLsbD i = _
  rw [s_l n hn, BitVec.getLsbD_sshiftRight, BitVec.msb_eq_getLsbD_last]
  simp [hi]
theorem ts_bit {w : Int64} {s : UInt64} {j : Nat} (hj : j < 64) (hs : s.toNat = j) : ((w.toUInt64 >>> s).toInt64 &&& 1) = 0 ↔ w.toBitVec.getLsbD j = false := by
  have e : (w.toUInt64 >>> s).toInt64.toBitVec = w.toBitVec >>> j := by
    apply BitVec.eq_of_toNat_eq
    show (w.toUInt64 >>> s).toNat = _
    rw [UInt64.toNat_shiftRight, hs, Nat.mod_eq_of_lt hj, BitVec.toNat_ushiftRight]
    rfl
  rw [← Int64.toBitVec_inj, Int64.toBitVec_and, e]
  show w.toBitVec >>> j &&& 1#64 = 0#64 ↔ _
  constructor
  · intro h
    have t := congrArg (fun x => x.getLsbD 0) h
    simpa using t
  · intro h
    apply BitVec.eq_of_getLsbD_eq
    intro i hi
    cases i with
    | zero => simp [h]
    | succ i => simp
theorem wb_tb (n : Nat) : (lN n).toBitVec = BitVec.ofNat 64 n := rfl
theorem wb_inj {a b : Int64} (h : a.toBitVec = b.toBitVec) : a = b := Int64.toBitVec_inj.mp h
theorem wb_tn {n : Nat} (h : n < 2 ^ 64) : (lN n).toBitVec.toNat = n := by rw [wb_tb, BitVec.toNat_ofNat, Nat.mod_eq_of_lt h]
theorem wb_c : ∀ k, k < 64 → ((nI k).toInt64 &&& 63) = lN k := by decide +kernel
theorem wb_cu : ∀ k, k < 64 → ((nI k).toInt64.toUInt64 &&& Int64.toUInt64 63) = UInt64.ofNat k := by decide +kernel
theorem wb_sm : ∀ k, k < 64 → (BitVec.ofNat 64 k).smod 64 = BitVec.ofNat 64 k := by decide +kernel
theorem zup_s {M : zMp} {a : zNm} {e : zAE} : zup M a e a = some e := if_pos rfl
theorem zup_o {M : zMp} {a n : zNm} {e : zAE} (h : n ≠ a) : zup M a e n = M n := if_neg h
theorem zup_zup {M : zMp} {a : zNm} {e e' : zAE} : zup (zup M a e) a e' = zup M a e' := by
  funext n
  unfold zup
  split <;> rfl
theorem zup_self {M : zMp} {a : zNm} {e : zAE} (h : M a = some e) : zup M a e = M := by
  funext n
  unfold zup
  split
  · next q => rw [q, h]
  · rfl
theorem zup_comm {M : zMp} {a b : zNm} {e e' : zAE} (h : a ≠ b) : zup (zup M a e) b e' = zup (zup M b e') a e := by
  funext n
  unfold zup
  split
  · next q => rw [if_neg (by rw [q]; exact Ne.symm h)]
  · rfl
theorem zdf {M : zMp} {a b : zNm} {e e' : zAE} (h : M a = some e) (h' : M b = some e') (hn : e ≠ e') : a ≠ b := fun q => hn (Option.some.inj (by rw [← h, ← h', q]))
theorem zK {K : Nat} (h : K < 2 ^ 31) {n : Nat} (hn : n < 2 ^ 31) : (nI n < nI K ↔ n < K) ∧ (nI K ≤ nI n ↔ K ≤ n) ∧ (nI n = nI K ↔ n = K) ∧ (nI K < nI n ↔ K < n) ∧ (nI n ≤ nI K ↔ n ≤ K) := ⟨nI_ltI hn h, nI_leI h hn, nI_eq hn h, nI_ltI h hn, nI_leI hn h⟩
def zbit (f : Nat → Int64) (k : Nat) : Bool := (f (k / 64)).toBitVec.getLsbD (k % 64)
def zb (b : Bool) : Int32 := if b then 1 else 0
theorem zb_01 (b : Bool) : zb b = 0 ∨ zb b = 1 := by cases b <;> simp [zb]
theorem zb_0 {b : Bool} : zb b = 0 ↔ b = false := by cases b <;> simp [zb]
theorem zb_1 {b : Bool} : zb b = 1 ↔ b = true := by cases b <;> simp [zb]
theorem nI_d64 {k : Nat} (h : k < 2 ^ 31) : nI k / 64 = nI (k / 64) := pk_div (d := 64) h (by decide) (by decide)
theorem nI_r64 {k : Nat} (h : k < 2 ^ 31) : nI k - nI (k / 64) * 64 = nI (k % 64) := by
  have := pk_rem (a := k) (d := 64) h (by decide) (by decide)
  rw [show nI 64 = 64 from rfl, nI_d64 h] at this
  exact this
theorem zbit_t (w : Int64) {j : Nat} (hj : j < 64) : ((w.toUInt64 >>> ((nI j).toInt64.toUInt64 &&& Int64.toUInt64 63)).toInt64 &&& 1) = 0 ↔ w.toBitVec.getLsbD j = false := by
  rw [wb_cu j hj]
  exact ts_bit hj (by rw [UInt64.toNat_ofNat']; exact Nat.mod_eq_of_lt (by omega))
def i_no : zKT := fun _ _ _ _ _ => False
theorem zNo {K : zKT} : zLe i_no K := fun _ _ _ _ _ h => h.elim
def co0 : List zAV → zMp → Nat × Nat := fun _ _ => (0, 0)
theorem zul {f g : Nat → Int64} {i : Nat} {x : Int64} (hx : x = g i) : vp_updL (fun j => if j < i then g j else f j) i x = fun j => if j < i + 1 then g j else f j := by
  funext j
  unfold vp_updL
  by_cases h : j = i
  · subst h; simp [hx]
  · by_cases h2 : j < i
    · simp [h, h2, Nat.lt_succ_of_lt h2]
    · have h3 : ¬ j < i + 1 := by omega
      simp [h, h2, h3]
theorem zui {f g : Nat → Int32} {i : Nat} {x : Int32} (hx : x = g i) : upd (fun j => if j < i then g j else f j) i x = fun j => if j < i + 1 then g j else f j := by
  funext j
  unfold upd
  by_cases h : j = i
  · subst h; simp [hx]
  · by_cases h2 : j < i
    · simp [h, h2, Nat.lt_succ_of_lt h2]
    · have h3 : ¬ j < i + 1 := by omega
      simp [h, h2, h3]
theorem zlt0 {α : Type} {f g : Nat → α} : (fun j => if j < 0 then g j else f j) = f := by funext j; simp
/-- loops over the five words -/
theorem five {P : Nat → Prop} (h : ∀ i, i < 5 → P (i + 1) → P i) (h5 : P 5) : P 0 := h 0 (by decide) (h 1 (by decide) (h 2 (by decide) (h 3 (by decide) (h 4 (by decide) h5))))
theorem upto {P : Nat → Prop} {N : Nat} (h : ∀ i, i < N → P (i + 1) → P i) (hN : P N) : ∀ i, i ≤ N → P i := by
  intro i hi
  obtain ⟨d, hd⟩ : ∃ d, i + d = N := ⟨N - i, by omega⟩
  induction d generalizing i with
  | zero => rw [show i = N by omega]; exact hN
  | succ d ih => exact h i (by omega) (ih (i + 1) (by omega) (by omega))
/-- any proposition as a truth value -/
noncomputable def zd (p : Prop) : Bool := @decide p (Classical.propDecidable p)
theorem zd_t {p : Prop} (h : p) : zd p = true := @decide_eq_true p (Classical.propDecidable p) h
theorem zd_f {p : Prop} (h : ¬ p) : zd p = false := @decide_eq_false p (Classical.propDecidable p) h
theorem zd_i {p : Prop} : zd p = true ↔ p := ⟨fun h => @of_decide_eq_true p (Classical.propDecidable p) h, zd_t⟩
theorem zd_n {p : Prop} : zd p = false ↔ ¬ p := ⟨fun h q => Bool.noConfusion (h.symm.trans (zd_t q)), zd_f⟩
theorem zd_c {p q : Prop} (h : p ↔ q) : zd p = zd q := by
  by_cases hp : p
  · rw [zd_t hp, zd_t (h.mp hp)]
  · rw [zd_f hp, zd_f (fun z => hp (h.mpr z))]
theorem zn_0 : (0 : Int32).toNatClampNeg = 0 := by decide
theorem zn_1 : (1 : Int32).toNatClampNeg = 1 := by decide
theorem zn_2 : (2 : Int32).toNatClampNeg = 2 := by decide
theorem zn_3 : (3 : Int32).toNatClampNeg = 3 := by decide
theorem zn_4 : (4 : Int32).toNatClampNeg = 4 := by decide
theorem zn_5 : (5 : Int32).toNatClampNeg = 5 := by decide
theorem zn_8 : (8 : Int32).toNatClampNeg = 8 := by decide
theorem zn_12 : (12 : Int32).toNatClampNeg = 12 := by decide
theorem zn_24 : (24 : Int32).toNatClampNeg = 24 := by decide
theorem zn_121 : (121 : Int32).toNatClampNeg = 121 := by decide
theorem zn_144 : (144 : Int32).toNatClampNeg = 144 := by decide
theorem zn_256 : (256 : Int32).toNatClampNeg = 256 := by decide
theorem zn_300 : (300 : Int32).toNatClampNeg = 300 := by decide
theorem zn_600 : (600 : Int32).toNatClampNeg = 600 := by decide
theorem zn_720 : (720 : Int32).toNatClampNeg = 720 := by decide
theorem zn_1204 : (1204 : Int32).toNatClampNeg = 1204 := by decide
theorem zn_1280 : (1280 : Int32).toNatClampNeg = 1280 := by decide
theorem zn_2400 : (2400 : Int32).toNatClampNeg = 2400 := by decide
theorem zn_4816 : (4816 : Int32).toNatClampNeg = 4816 := by decide
theorem zn_14400 : (14400 : Int32).toNatClampNeg = 14400 := by decide
theorem zn_90000 : (90000 : Int32).toNatClampNeg = 90000 := by decide
/-! calls whose cost is told at the call -/
def zCT2 (l : Launch) (y : MethodName) (bytes : ByteArray) (maxL : Nat) (ret : Option FieldType) (fr lo : Nat) (T : List zAV → zMp → (Option zAV → zMp → Prop) → Nat → Nat → Prop) : Prop :=
  ∀ (As : List zAV) (M : zMp) (Rt : Option zAV → zMp → Prop) (c1 c2 : Nat), T As M Rt c1 c2 → zMet l y bytes maxL ret fr lo As M c1 c2 Rt
def i_callV2 (mc ms ci na : Nat) (T : List zAV → zMp → (Option zAV → zMp → Prop) → Nat → Nat → Prop) (K : zKT) : zKT := fun L st M k n => ∃ c1 c2 : Nat, i_callV mc ms ci na (fun As M Rt => T As M Rt c1 c2) (fun _ _ => (c1, c2)) K L st M k n
theorem sd_cV2 {X : zMa} {own : String} {cc : ByteArray} {fr lo mc ms : Nat} {ret : Option FieldType} {ini : Bool} {Rt : Option zAV → zMp → Prop} (hC : zCx X own cc fr lo mc ms ret ini Rt) {pc : Nat} {y : MethodName} {bytes : ByteArray} {maxL ix na fr' lo' : Nat} {rt' : Option FieldType} {T : List zAV → zMp → (Option zAV → zMp → Prop) → Nat → Nat → Prop} {ci : Nat} {r : vw_C} (hT : ∀ l, zCT2 l y bytes maxL rt' fr' lo' T) (hY : zYV y bytes maxL rt' na) (hc : vwCl[ci]? = some r) (hr : r.1 = y.cls) (hl : Cond.methodLink own ix y ∈ tb) (hfr : fr' + 1 ≤ fr) (hlo : 8 + (maxL + 11) + lo' ≤ lo) (hd : decode cc pc = .ok (.invokevirtual ix, 3)) {K : zKT} (hK : zLe K (zG X (pc + 3))) : zLe (i_callV2 mc ms ci na T K) (zG X pc) := by
  intro L st M k n h
  obtain ⟨c1, c2, h⟩ := h
  exact sd_cV hC (T := fun As M Rt => T As M Rt c1 c2) (co := fun _ _ => (c1, c2)) (fun l As M Rt h => hT l As M Rt c1 c2 h) hY hc hr hl hfr hlo hd hK L st M k n h
