/-! delivering many times -/
theorem dl_dk (a : zAb) (u v : Nat) : a_dk (a_dl a u v) = a_dk a ∧ a_nn (a_dl a u v) = a_nn a := by
  unfold a_dl
  split
  · exact ⟨rfl, rfl⟩
  · rename_i k t e
    unfold a_come
    split
    · exact ⟨rfl, rfl⟩
    · obtain ⟨q', p, n, e'⟩ := psk_n (a_hear (a_tk1 a u v) k v) k v u (a_dk (a_tk1 a u v))
      rw [e']; exact ⟨rfl, rfl⟩
  · exact ⟨rfl, rfl⟩
/-- what is delivered on a road is taken from it, and nothing is put there -/
theorem dl_q {a : zAb} (hA : AI a) {u v : Nat} (hlk : a_lk a u v = true) : a_q (a_dl a u v) u v = (a_q a u v).tail := by
  obtain ⟨hJ, hW⟩ := hA
  have huv : u ≠ v := fun z => Br_irr hJ.br (show a_E a u u from by rw [← z] at hlk; exact hlk)
  unfold a_dl
  split
  · rename_i e; rw [e]; rfl
  · rename_i k t e
    have e1 : a_q (a_tk1 a u v) u v = (a_q a u v).tail := va_u2_s _ _ _ _
    unfold a_come
    split
    · exact e1
    · rw [ps_q]
      show (if u = v ∧ _ then _ else a_q (a_tk1 a u v) u v) = _
      rw [if_neg (fun z => huv z.1)]
      exact e1
  · rename_i m t e
    show (if zd (True ∧ a_w (a_got (a_tk1 a u v) u v m) u v) = true then _ else a_q (a_tk1 a u v) u v) = _
    rw [zd_f (fun z => huv (got_w hW z.2).1), if_neg (by decide)]
    exact va_u2_s _ _ _ _
noncomputable def aS (a : zAb) (u v : Nat) : Nat → zAb
  | 0 => a
  | n + 1 => a_dl (aS a u v n) u v
theorem aS_p {a : zAb} (hA : AI a) {u v : Nat} (hlk : a_lk a u v = true) : ∀ n, AI (aS a u v n) ∧ a_lk (aS a u v n) u v = true ∧ a_dk (aS a u v n) = a_dk a ∧ (a_q (aS a u v n) u v).length = (a_q a u v).length - n
  | 0 => ⟨hA, hlk, rfl, rfl⟩
  | n + 1 => by
    obtain ⟨h1, h2, h3, h4⟩ := aS_p hA hlk n
    refine ⟨AI_dl h1 u v h2, ?_, ?_, ?_⟩
    · show a_lk (a_dl (aS a u v n) u v) u v = true
      rw [dl_lk]; exact h2
    · show a_dk (a_dl (aS a u v n) u v) = _
      rw [(dl_dk _ u v).1]; exact h3
    · show (a_q (a_dl (aS a u v n) u v) u v).length = _
      rw [dl_q h1 h2, List.length_tail, h4]
      omega
/-- the class -/
theorem dlx_r {x : zSt} {a : zAb} (hI : Iv x) (hR : Rx x a) (hA : AI a) {u v : Nat} (hu : u < a_dk a) (hv : v < a_dk a) (hlk : a_lk a u v = true) : ∀ n, n ≤ (a_q a u v).length → Iv (dl x (nI u) (nI v) n) ∧ Rx (dl x (nI u) (nI v) n) (aS a u v n)
  | 0, _ => ⟨hI, hR⟩
  | n + 1, hn => by
    obtain ⟨i1, i2⟩ := dlx_r hI hR hA hu hv hlk n (by omega)
    obtain ⟨h1, h2, h3, h4⟩ := aS_p hA hlk n
    refine ⟨Iv_df i1, ?_⟩
    exact dl_r i1 i2 h1 (by rw [h3]; exact hu) (by rw [h3]; exact hv) h2 (fun z => by rw [z] at h4; simp only [List.length_nil] at h4; omega)
/-- the reference -/
theorem dly_r {y : zMS} {a : zAb} (hR : Ry y a) (hA : AI a) {u v : Nat} (hu : u < a_dk a) (hv : v < a_dk a) (hlk : a_lk a u v = true) : ∀ n, n ≤ (a_q a u v).length → Ry (dlY y u v n) (aS a u v n)
  | 0, _ => hR
  | n + 1, hn => by
    have ih := dly_r hR hA hu hv hlk n (by omega)
    obtain ⟨h1, h2, h3, h4⟩ := aS_p hA hlk n
    have h12 := hA.1.lim.1
    have hl := (ih.2.1 u v (by omega) (by omega)).2.1
    have e : dlY y u v (n + 1) = match fsO (dlY y u v n) u v (y_ms (dlY y u v n)) with
      | some m => dv (dlY y u v n) m
      | none => dlY y u v n := rfl
    rw [e]
    cases hf : fsO (dlY y u v n) u v (y_ms (dlY y u v n)) with
    | none =>
      have : yq (dlY y u v n) u v = [] := fsO_n _ hf
      rw [hl] at this
      rw [this] at h4
      simp only [List.length_nil] at h4
      omega
    | some m => exact (dlv_y ih h1 (by omega) (by omega) hf).2.2.1
theorem dY_ok {y : zMS} {a : zAb} (hR : Ry y a) (hA : AI a) {u v : Nat} (hu : u < a_dk a) (hv : v < a_dk a) (hlk : a_lk a u v = true) {n0 N : Nat} (hn0 : n0 < 2 ^ 31) (hN : N = min n0 (a_q a u v).length) : dY_N y u v (nI n0) N := by
  have h12 := hA.1.lim.1
  have hlen := ql_len hA.1 u v
  have hNl : N ≤ (a_q a u v).length := by omega
  refine ⟨by omega, fun i hi => (dly_r hR hA hu hv hlk i (by omega)).2.2.2, fun i hi => ⟨nI_lt (by omega) hn0, ?_⟩, ?_⟩
  · have ih := dly_r hR hA hu hv hlk i (by omega)
    obtain ⟨h1, h2, h3, h4⟩ := aS_p hA hlk i
    have hl := (ih.2.1 u v (by omega) (by omega)).2.1
    cases hf : fsO (dlY y u v i) u v (y_ms (dlY y u v i)) with
    | none =>
      have : yq (dlY y u v i) u v = [] := fsO_n _ hf
      rw [hl] at this
      rw [this] at h4
      simp only [List.length_nil] at h4
      omega
    | some m =>
      have d := dlv_y ih h1 (by omega) (by omega) hf
      exact ⟨m, rfl, d.2.2.2.2.1, d.2.2.2.1⟩
  · by_cases c : n0 ≤ (a_q a u v).length
    · left
      rw [show N = n0 by omega]
      exact nI_nlt (Nat.le_refl _) hn0
    · right
      have ih := dly_r hR hA hu hv hlk N (by omega)
      obtain ⟨h1, h2, h3, h4⟩ := aS_p hA hlk N
      have hl := (ih.2.1 u v (by omega) (by omega)).2.1
      have hz : a_q (aS a u v N) u v = [] := List.eq_nil_of_length_eq_zero (by omega)
      rw [hz] at hl
      cases hf : fsO (dlY y u v N) u v (y_ms (dlY y u v N)) with
      | none => rfl
      | some m =>
        have := (yq_first hf u v).1
        rw [hl] at this
        cases this
theorem dX_ok {x : zSt} {a : zAb} (hI : Iv x) (hR : Rx x a) (hA : AI a) {u v q : Nat} (hu : u < a_dk a) (hv : v < a_dk a) (hlk : a_lk a u v = true) (hq : lnF x (nI u) (nI v) = some q) {n0 N : Nat} (hn0 : n0 < 2 ^ 31) (hN : N = min n0 (a_q a u v).length) : dl_N x (nI u) (nI v) (nI n0) q N := by
  have h12 := hA.1.lim.1
  have hlen := ql_len hA.1 u v
  -- the road keeps its lane
  have key : ∀ i, i ≤ (a_q a u v).length → x_lz (dl x (nI u) (nI v) i) q = (a_q a u v).length - i ∧ df_ok (dl x (nI u) (nI v) i) (nI u) (nI v) := fun i hi => by
    obtain ⟨j1, j2⟩ := dlx_r hI hR hA hu hv hlk i hi
    obtain ⟨h1, h2, h3, h4⟩ := aS_p hA hlk i
    have hln : x_ln (dl x (nI u) (nI v) i) = x_ln x ∧ x_dk (dl x (nI u) (nI v) i) = x_dk x := ⟨(kk_dl x (nI u) (nI v) i).2.1, (kk_dl x (nI u) (nI v) i).1⟩
    have hF : lnF (dl x (nI u) (nI v) i) (nI u) (nI v) = some q := by
      unfold lnF at hq ⊢
      rw [hln.1, hln.2]; exact hq
    rcases lnF_r j2.1 j2.2.1 h1.1 (show u < a_dk (aS a u v i) by rw [h3]; exact hu) (show v < a_dk (aS a u v i) by rw [h3]; exact hv) with ⟨k1, _⟩ | ⟨_, l, k2, _, k4⟩
    · rw [h2] at k1; cases k1
    · rw [hF] at k2
      cases k2
      exact ⟨by rw [k4.1, h4], dfok_r j1 j2 h1.1 (by rw [h3]; exact hu) (by rw [h3]; exact hv)⟩
  refine ⟨by omega, fun i hi => ⟨nI_lt (by omega) hn0, by rw [(key i (by omega)).1]; omega, (key i (by omega)).2⟩, ?_⟩
  by_cases c : n0 ≤ (a_q a u v).length
  · left
    rw [show N = n0 by omega]
    exact nI_nlt (Nat.le_refl _) hn0
  · right; right
    rw [(key N (by omega)).1]; omega
/-! delivering all -/
def bz (a : zAb) (p : Nat) : Prop := a_q a (p / 12) (p % 12) ≠ []
noncomputable def fb (a : zAb) : Nat → Option Nat
  | 0 => none
  | n + 1 => match fb a n with
    | some p => some p
    | none => if zd (bz a n) = true then some n else none
theorem fb_s {a : zAb} : ∀ {n p : Nat}, fb a n = some p → p < n ∧ bz a p ∧ ∀ q, q < p → ¬ bz a q
  | 0, p, h => by cases h
  | n + 1, p, h => by
    simp only [fb] at h
    split at h
    · rename_i p' e
      cases h
      have := fb_s e
      exact ⟨by omega, this.2⟩
    · rename_i e
      split at h
      · rename_i c
        cases h
        refine ⟨by omega, zd_i.mp c, ?_⟩
        have none : ∀ k, fb a k = none → ∀ q, q < k → ¬ bz a q := by
          intro k
          induction k with
          | zero => intro _ q hq; exact absurd hq (Nat.not_lt_zero q)
          | succ k ih =>
            intro hk q hq
            simp only [fb] at hk
            split at hk
            · cases hk
            · rename_i e2
              split at hk
              · cases hk
              · rename_i c2
                by_cases e3 : q = k
                · rw [e3]; exact fun z => c2 (zd_t z)
                · exact ih e2 q (by omega)
        exact none n e
      · cases h
theorem fb_n {a : zAb} : ∀ k, fb a k = none → ∀ q, q < k → ¬ bz a q
  | 0, _, q, hq => absurd hq (Nat.not_lt_zero q)
  | k + 1, hk, q, hq => by
    simp only [fb] at hk
    split at hk
    · cases hk
    · rename_i e2
      split at hk
      · cases hk
      · rename_i c2
        by_cases e3 : q = k
        · rw [e3]; exact fun z => c2 (zd_t z)
        · exact fb_n k e2 q (by omega)
noncomputable def a_nx (a : zAb) : zAb := match fb a 144 with
  | some p => a_dl a (p / 12) (p % 12)
  | none => a
noncomputable def aA (a : zAb) : Nat → zAb
  | 0 => a
  | n + 1 => a_nx (aA a n)
theorem aA_s (a : zAb) : ∀ n, aA a (n + 1) = aA (a_nx a) n
  | 0 => rfl
  | n + 1 => by
    show a_nx (aA a (n + 1)) = a_nx (aA (a_nx a) n)
    rw [aA_s a n]
theorem bz_lk {a : zAb} (hJ : AJ a) {p : Nat} (h : bz a p) : a_lk a (p / 12) (p % 12) = true := by
  cases hk : a_lk a (p / 12) (p % 12) with
  | true => rfl
  | false => exact absurd (hJ.un _ _ hk).1 h
theorem nx_AI {a : zAb} (hA : AI a) : AI (a_nx a) := by
  unfold a_nx
  split
  · rename_i p e
    exact AI_dl hA _ _ (bz_lk hA.1 (fb_s e).2.1)
  · exact hA
theorem aA_AI {a : zAb} (hA : AI a) : ∀ n, AI (aA a n)
  | 0 => hA
  | n + 1 => nx_AI (aA_AI hA n)
theorem aA_dk (a : zAb) : ∀ n, a_dk (aA a n) = a_dk a
  | 0 => rfl
  | n + 1 => by
    show a_dk (a_nx (aA a n)) = _
    rw [← aA_dk a n]
    unfold a_nx
    split
    · exact (dl_dk _ _ _).1
    · rfl
theorem all_N : ∀ (c : Nat) (a : zAb), AI a → Ph a ≤ c → ∃ N, N ≤ c ∧ (∀ i, i < N → fb (aA a i) 144 ≠ none) ∧ fb (aA a N) 144 = none
  | 0, a, hA, h => by
    refine ⟨0, Nat.le_refl _, fun i hi => absurd hi (Nat.not_lt_zero i), ?_⟩
    cases hf : fb a 144 with
    | none => exact hf
    | some p =>
      have hb := (fb_s hf).2.1
      have := Ph_dl hA (bz_lk hA.1 hb) hb
      omega
  | c + 1, a, hA, h => by
    cases hf : fb a 144 with
    | none => exact ⟨0, Nat.zero_le _, fun i hi => absurd hi (Nat.not_lt_zero i), hf⟩
    | some p =>
      have hb := (fb_s hf).2.1
      have hP := Ph_dl hA (bz_lk hA.1 hb) hb
      have e : a_nx a = a_dl a (p / 12) (p % 12) := by unfold a_nx; rw [hf]
      obtain ⟨N, h1, h2, h3⟩ := all_N c (a_nx a) (nx_AI hA) (by rw [e]; omega)
      refine ⟨N + 1, by omega, fun i hi => ?_, by rw [aA_s]; exact h3⟩
      cases i with
      | zero => show fb a 144 ≠ none; rw [hf]; simp
      | succ i => rw [aA_s]; exact h2 i (by omega)
noncomputable def a_pl (a : zAb) (i : Nat) : Nat := (fb (aA a i) 144).getD 0
theorem a_pl_e {a : zAb} {i : Nat} (h : fb (aA a i) 144 ≠ none) : fb (aA a i) 144 = some (a_pl a i) := by
  unfold a_pl
  cases hf : fb (aA a i) 144 with
  | none => exact absurd hf h
  | some p => rfl
/-- the class's way -/
noncomputable def xA (x : zSt) (a : zAb) : Nat → zSt
  | 0 => x
  | n + 1 => df (xA x a n) (nI (a_pl a n / 12)) (nI (a_pl a n % 12))
theorem aA_n {a : zAb} {i : Nat} (h : fb (aA a i) 144 ≠ none) : aA a (i + 1) = a_dl (aA a i) (a_pl a i / 12) (a_pl a i % 12) := by
  show a_nx (aA a i) = _
  unfold a_nx
  rw [a_pl_e h]
theorem xA_r {x : zSt} {a : zAb} (hI : Iv x) (hR : Rx x a) (hA : AI a) {N : Nat} (hN : ∀ i, i < N → fb (aA a i) 144 ≠ none) : ∀ n, n ≤ N → Iv (xA x a n) ∧ Rx (xA x a n) (aA a n)
  | 0, _ => ⟨hI, hR⟩
  | n + 1, hn => by
    obtain ⟨j1, j2⟩ := xA_r hI hR hA hN n (by omega)
    have hf := hN n (by omega)
    have hb := (fb_s (a_pl_e hf)).2.1
    have hAn := aA_AI hA n
    have hlk := bz_lk hAn.1 hb
    refine ⟨Iv_df j1, ?_⟩
    rw [aA_n hf]
    exact dl_r j1 j2 hAn (hAn.1.lk _ _ hlk).2 (hAn.1.lk _ _ (hAn.1.lk _ _ hlk).1).2 hlk hb
theorem busy_r {x : zSt} {a : zAb} (hR : Rx x a) (hJ : AJ a) {p : Nat} (hp : p < 144) : x_busy x p ↔ bz a p := by
  have h1 := hR.2.1 (p / 12) (p % 12) (by omega) (by omega)
  rw [show 12 * (p / 12) + p % 12 = p by omega] at h1
  constructor
  · rintro ⟨l, e, hz⟩
    cases hk : a_lk a (p / 12) (p % 12) with
    | false => rw [h1.1 hk] at e; cases e
    | true =>
      obtain ⟨l', e', h2⟩ := h1.2 hk
      rw [e'] at e
      cases e
      intro z
      rw [h2.1, z] at hz
      exact absurd hz (by decide)
  · intro hb
    obtain ⟨l, e, h2⟩ := h1.2 (bz_lk hJ hb)
    refine ⟨l, e, ?_⟩
    rw [h2.1]
    exact List.length_pos_iff.mpr hb
theorem allX_ok {x : zSt} {a : zAb} (hI : Iv x) (hR : Rx x a) (hA : AI a) {N : Nat} (h6 : N ≤ 1000000) (hN : ∀ i, i < N → fb (aA a i) 144 ≠ none) (hE : fb (aA a N) 144 = none) : al_N x (xA x a) (a_pl a) N := by
  refine ⟨rfl, h6, fun i hi => ?_, fun q hq => ?_⟩
  · obtain ⟨j1, j2⟩ := xA_r hI hR hA hN i (by omega)
    have hf := fb_s (a_pl_e (hN i hi))
    have hAn := aA_AI hA i
    have hlk := bz_lk hAn.1 hf.2.1
    refine ⟨hf.1, (busy_r j2 hAn.1 hf.1).mpr hf.2.1, fun q hq => fun z => hf.2.2 q hq ((busy_r j2 hAn.1 (by omega)).mp z), ?_, rfl⟩
    exact dfok_r j1 j2 hAn.1 (hAn.1.lk _ _ hlk).2 (hAn.1.lk _ _ (hAn.1.lk _ _ hlk).1).2
  · obtain ⟨j1, j2⟩ := xA_r hI hR hA hN N (Nat.le_refl _)
    exact fun z => fb_n 144 hE q hq ((busy_r j2 (aA_AI hA N).1 hq).mp z)
/-- the reference's way -/
noncomputable def y_pl (y : zMS) (p : Nat) : Nat := (fsO y (p / 12) (p % 12) (y_ms y)).getD 0
noncomputable def yA (y : zMS) (a : zAb) : Nat → zMS
  | 0 => y
  | n + 1 => dv (yA y a n) (y_pl (yA y a n) (a_pl a n))
theorem y_pl_e {y : zMS} {a : zAb} (hR : Ry y a) {p : Nat} (hp : p < 144) (hb : bz a p) : fsO y (p / 12) (p % 12) (y_ms y) = some (y_pl y p) := by
  unfold y_pl
  cases hf : fsO y (p / 12) (p % 12) (y_ms y) with
  | some m => rfl
  | none =>
    have h1 : yq y (p / 12) (p % 12) = [] := fsO_n _ hf
    rw [(hR.2.1 _ _ (by omega) (by omega)).2.1] at h1
    exact absurd h1 hb
theorem yAr {y : zMS} {a : zAb} (hR : Ry y a) (hA : AI a) {N : Nat} (hN : ∀ i, i < N → fb (aA a i) 144 ≠ none) : ∀ n, n ≤ N → Ry (yA y a n) (aA a n)
  | 0, _ => hR
  | n + 1, hn => by
    have ih := yAr hR hA hN n (by omega)
    have hf := hN n (by omega)
    have hs := fb_s (a_pl_e hf)
    rw [aA_n hf]
    exact (dlv_y ih (aA_AI hA n) (by omega) (by omega) (y_pl_e ih hs.1 hs.2.1)).2.2.1
/-- a message stands in its road's list -/
theorem hr_in {y : zMS} {u v m : Nat} : ∀ n, m < n → y_fr y m = u → y_tt y m = v → yqs y u v 0 n ≠ []
  | 0, h, _, _ => absurd h (Nat.not_lt_zero m)
  | n + 1, h, h1, h2 => by
    show yqs y u v 0 n ++ y_hr y u v (0 + n) ≠ []
    by_cases e : m = n
    · rw [Nat.zero_add, ← e, show y_hr y u v m = [y_it y m] from if_pos ⟨h1, h2⟩]
      simp
    · have := hr_in (y := y) n (show m < n by omega) h1 h2
      simp [this]
theorem allY_ok {y : zMS} {a : zAb} (hR : Ry y a) (hA : AI a) {N : Nat} (h6 : N ≤ 1000000) (hN : ∀ i, i < N → fb (aA a i) 144 ≠ none) (hE : fb (aA a N) 144 = none) : aY_N y (yA y a) (fun i => y_pl (yA y a i) (a_pl a i)) N := by
  refine ⟨rfl, h6, fun i hi => (yAr hR hA hN i hi).2.2.2, fun i hi => ?_, ?_⟩
  · have ih := yAr hR hA hN i (by omega)
    have hf := hN i hi
    have hs := fb_s (a_pl_e hf)
    have hm := y_pl_e ih hs.1 hs.2.1
    have d := dlv_y ih (aA_AI hA i) (by omega) (by omega) hm
    have q := fsO_q hm
    have key : ∀ j, j < y_ms (yA y a i) → a_pl a i ≤ y_key (yA y a i) j := fun j hj => by
      apply Classical.byContradiction
      intro hlt
      have hj2 := ih.2.2.2.ms j hj
      unfold y_key at hlt
      have hq : bz (aA a i) (12 * y_fr (yA y a i) j + y_tt (yA y a i) j) := by
        unfold bz
        rw [show (12 * y_fr (yA y a i) j + y_tt (yA y a i) j) / 12 = y_fr (yA y a i) j by omega, show (12 * y_fr (yA y a i) j + y_tt (yA y a i) j) % 12 = y_tt (yA y a i) j by omega, ← (ih.2.1 _ _ hj2.1 hj2.2.1).2.1]
        exact hr_in _ hj rfl rfl
      exact hs.2.2 _ (by omega) hq
    have km : y_key (yA y a i) (y_pl (yA y a i) (a_pl a i)) = a_pl a i := by
      unfold y_key
      rw [q.2.1, q.2.2.1]
      omega
    refine ⟨⟨q.2.2.2, fun j hj => by rw [km]; exact key j hj, fun j hj => ?_⟩, d.2.2.2.2.1, d.2.2.2.1, rfl⟩
    have hj : j < y_pl (yA y a i) (a_pl a i) := hj
    have hpl := q.2.2.2
    rw [km]
    have h1 := key j (by omega)
    by_cases e : y_key (yA y a i) j = a_pl a i
    · exfalso
      have hj2 := ih.2.2.2.ms j (by omega)
      unfold y_key at e
      exact hr_in (y := yA y a i) (u := a_pl a i / 12) (v := a_pl a i % 12) _ hj (by omega) (by omega) q.1
    · omega
  · have ih := yAr hR hA hN N (Nat.le_refl _)
    apply Classical.byContradiction
    intro hz
    have h0 : 0 < y_ms (yA y a N) := by omega
    have hj2 := ih.2.2.2.ms 0 h0
    refine fb_n 144 hE (12 * y_fr (yA y a N) 0 + y_tt (yA y a N) 0) (by omega) ?_
    unfold bz
    rw [show (12 * y_fr (yA y a N) 0 + y_tt (yA y a N) 0) / 12 = y_fr (yA y a N) 0 by omega, show (12 * y_fr (yA y a N) 0 + y_tt (yA y a N) 0) % 12 = y_tt (yA y a N) 0 by omega, ← (ih.2.1 _ _ hj2.1 hj2.2.1).2.1]
    exact hr_in _ h0 rfl rfl
