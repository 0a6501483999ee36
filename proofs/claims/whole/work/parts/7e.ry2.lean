/-! the reference's memory and the common state -/
def ts_r (y : zMS) (t : Nat) (kd : Int32) (n : Nat) (g : Nat → Int32) : Prop := y_kd y t = kd ∧ (kd = 3 → y_mn y t = n) ∧ ∀ k, k < n → y_nu y (4 * t + k) = g k
def Yg (y : zMS) (a : zAb) : Prop :=
  (y_dk y = a_dk a ∧ y_nr y = a_nr a ∧ y_nw y = a_nw a ∧ y_nn y = a_nn a ∧ y_po y = a_po a ∧ y_ne y = a_ne a ∧ y_td y = a_td a) ∧
  (∀ r, r < a_nr a → y_do y r = nI (a_rd a r)) ∧
  (∀ r, r < 24 → (r < a_nr a → y_hm y r = a_rz a r) ∧ (¬ r < a_nr a → y_hm y r = 0) ∧ ∀ i, r < a_nr a → i < a_rz a r → y_he y (600 * r + i) = a_rh a r i) ∧
  (∀ w, w < a_nw a → y_ro y w = a_wr a w ∧ y_al y w = a_wa a w ∧ ∀ j, j < a_nw a → y_cv y (300 * w + j) = a_tk a w j) ∧
  ((∀ w f, w < a_nw a → f < 4 → ts_r y (4 * w + f) (a_fk a w f) (a_fz a w f) (a_fg a w f)) ∧ ∀ f, f < 4 → ts_r y (1200 + f) (a_fk a (a_nw a) f) (a_fz a (a_nw a) f) (a_fg a (a_nw a) f)) ∧
  (∀ k, k < a_nn a → (∀ f, f < 4 → y_fi y (4 * k + f) = a_nf a k f) ∧ y_sa y k = a_nd a k) ∧
  (∀ k, k < 600 → (∀ d, d < 12 → inm (y_wt y k) (nI d) = a_sn a k d) ∧ ∀ r, r < 24 → y_hh y (600 * r + k) = a_hb a k r)
def Yl (y : zMS) (a : zAb) : Prop := ∀ u v, u < 12 → v < 12 → y_lk y (12 * u + v) = a_lk a u v ∧ yq y u v = a_q a u v ∧ bto (sh (y_to y) (5 * (12 * u + v))) = a_to a u v ∧ bto (sh (y_tb y) (5 * (12 * u + v))) = a_tb a u v
def Yc (y : zMS) : Prop := ∃ e, e ≤ 6 ∧ y_cp y = 256 * 2 ^ e
def Ry (y : zMS) (a : zAb) : Prop := Yg y a ∧ Yl y a ∧ Yc y ∧ Jv y
theorem Yg.sc {y : zMS} {a : zAb} (h : Yg y a) : y_dk y = a_dk a ∧ y_nr y = a_nr a ∧ y_nw y = a_nw a ∧ y_nn y = a_nn a ∧ y_po y = a_po a ∧ y_ne y = a_ne a ∧ y_td y = a_td a := h.1
theorem Yg.rd {y : zMS} {a : zAb} (h : Yg y a) : ∀ r, r < a_nr a → y_do y r = nI (a_rd a r) := h.2.1
theorem Yg.hm {y : zMS} {a : zAb} (h : Yg y a) : ∀ r, r < 24 → (r < a_nr a → y_hm y r = a_rz a r) ∧ (¬ r < a_nr a → y_hm y r = 0) ∧ ∀ i, r < a_nr a → i < a_rz a r → y_he y (600 * r + i) = a_rh a r i := h.2.2.1
theorem Yg.ws {y : zMS} {a : zAb} (h : Yg y a) : ∀ w, w < a_nw a → y_ro y w = a_wr a w ∧ y_al y w = a_wa a w ∧ ∀ j, j < a_nw a → y_cv y (300 * w + j) = a_tk a w j := h.2.2.2.1
theorem Yg.ts {y : zMS} {a : zAb} (h : Yg y a) : ∀ w f, w < a_nw a → f < 4 → ts_r y (4 * w + f) (a_fk a w f) (a_fz a w f) (a_fg a w f) := h.2.2.2.2.1.1
theorem Yg.rg {y : zMS} {a : zAb} (h : Yg y a) : ∀ f, f < 4 → ts_r y (1200 + f) (a_fk a (a_nw a) f) (a_fz a (a_nw a) f) (a_fg a (a_nw a) f) := h.2.2.2.2.1.2
theorem Yg.nt {y : zMS} {a : zAb} (h : Yg y a) : ∀ k, k < a_nn a → (∀ f, f < 4 → y_fi y (4 * k + f) = a_nf a k f) ∧ y_sa y k = a_nd a k := h.2.2.2.2.2.1
theorem Yg.sn {y : zMS} {a : zAb} (h : Yg y a) : ∀ k, k < 600 → (∀ d, d < 12 → inm (y_wt y k) (nI d) = a_sn a k d) ∧ ∀ r, r < 24 → y_hh y (600 * r + k) = a_hb a k r := h.2.2.2.2.2.2
/-! tests -/
theorem pass_y {y : zMS} {t : Nat} {kd : Int32} {n : Nat} {g : Nat → Int32} (h : ts_r y t kd n g) (hk : tsok kd n g) (v : Int32) : y_pass y t v = ft_pass kd n g v := by
  obtain ⟨h1, h2, h3⟩ := h
  unfold y_pass ft_pass
  rw [h1]
  have e0 : y_g y t 0 = y_nu y (4 * t + 0) := rfl
  have e1 : y_g y t 1 = y_nu y (4 * t + 1) := rfl
  rcases hk with ⟨c, _⟩ | ⟨c, cn, _⟩ | ⟨c, _, _, _⟩
  · rw [c, if_neg (by decide), if_neg (by decide), if_neg (by decide), if_neg (by decide), if_neg (by decide), if_neg (by decide)]
  · have g0 := h3 0 (by omega)
    have g1 := h3 1 (by omega)
    rw [e0, e1, g0, g1]
    rcases c with c | c
    · rw [c, if_pos rfl, if_pos rfl]
    · rw [c, if_neg (by decide), if_pos rfl, if_neg (by decide), if_pos rfl]
  · rw [c, if_neg (by decide), if_neg (by decide), if_pos rfl, if_neg (by decide), if_neg (by decide), if_pos rfl, h2 c]
    unfold ft_has
    refine congrArg zd (propext ⟨fun ⟨i, hi, e⟩ => ⟨i, hi, ?_⟩, fun ⟨i, hi, e⟩ => ⟨i, hi, ?_⟩⟩)
    · rw [← h3 i hi]; exact e
    · exact (h3 i hi).trans e
theorem fit_y {y : zMS} {a : zAb} (hg : Yg y a) (hJ : ∀ w f, w ≤ a_nw a → f < 4 → tsok (a_fk a w f) (a_fz a w f) (a_fg a w f)) {w : Nat} (hw : w < a_nw a) {f g : Nat → Int32} (hf : ∀ i, i < 4 → f i = g i) : y_fit y w f = a_met a w g := by
  unfold y_fit a_met
  refine congrArg zd (propext ⟨fun h i hi => ?_, fun h i hi => ?_⟩)
  · rw [← pass_y (hg.ts w i hw hi) (hJ w i (by omega) hi), ← hf i hi]; exact h i hi
  · rw [pass_y (hg.ts w i hw hi) (hJ w i (by omega) hi), hf i hi]; exact h i hi
theorem wants_y {y : zMS} {a : zAb} (hg : Yg y a) (hJ : ∀ w f, w ≤ a_nw a → f < 4 → tsok (a_fk a w f) (a_fz a w f) (a_fg a w f)) {r k : Nat} (hk : k < a_nn a) : y_wants y r k = zd (a_wants a r k) := by
  unfold y_wants a_wants
  rw [hg.sc.2.2.1]
  have e : ∀ w, w < a_nw a → y_fit y w (y_f y k) = a_met a w (a_nf a k) := fun w hw => fit_y hg hJ hw (fun i hi => (hg.nt k hk).1 i hi)
  refine congrArg zd (propext ⟨fun ⟨w, h1, h2, h3, h4⟩ => ⟨w, h1, ?_, ?_, ?_⟩, fun ⟨w, h1, h2, h3, h4⟩ => ⟨w, h1, ?_, ?_, ?_⟩⟩)
  · rw [← (hg.ws w h1).2.1]; exact h2
  · rw [← (hg.ws w h1).1]; exact h3
  · rw [← e w h1]; exact h4
  · rw [(hg.ws w h1).2.1]; exact h2
  · rw [(hg.ws w h1).1]; exact h3
  · rw [e w h1]; exact h4
/-! what a desk means -/
theorem yA_r {y : zMS} {a : zAb} (hg : Yg y a) (hJ : AJ a) {u : Nat} (hu : u < 12) : ∀ n, n ≤ a_nw a → ∀ k, k < 320 → (zbit (mn_A y (nI u) n) k = true ↔ k < n ∧ a_wa a k = true ∧ a_rd a (a_wr a k) = u)
  | 0, _, k, hk => by
    simp only [mn_A]
    rw [zbit_clr _ hk]
    exact ⟨fun z => (by cases z), fun z => absurd z.1 (Nat.not_lt_zero k)⟩
  | n + 1, hn, k, hk => by
    have ih := yA_r hg hJ hu n (by omega) k hk
    have hl := hJ.lim
    have w1 := hg.ws n (by omega)
    have r1 := hJ.wr n (by omega)
    have r2 := hg.rd (a_wr a n) r1
    have r3 := hJ.rd (a_wr a n) r1
    have hc : (y_al y n = true ∧ y_do y (y_ro y n) = nI u) ↔ (a_wa a n = true ∧ a_rd a (a_wr a n) = u) := by
      rw [w1.2.1, w1.1, r2, nI_eq (by omega) (by omega)]
    simp only [mn_A]
    by_cases c : y_al y n = true ∧ y_do y (y_ro y n) = nI u
    · rw [if_pos c, zbit_add, Bool.or_eq_true, ih, decide_eq_true_iff]
      constructor
      · rintro (z | z)
        · exact ⟨by omega, z.2⟩
        · rw [z]; exact ⟨by omega, hc.mp c⟩
      · intro z
        by_cases e : k = n
        · exact Or.inr e
        · exact Or.inl ⟨by omega, z.2⟩
    · rw [if_neg c, ih]
      constructor
      · intro z; exact ⟨by omega, z.2⟩
      · intro z
        by_cases e : k = n
        · rw [e] at z; exact absurd (hc.mpr z.2) c
        · exact ⟨by omega, z.2⟩
theorem yB_r {y : zMS} {a : zAb} (hg : Yg y a) (hl : Yl y a) (hJ : AJ a) {u v : Nat} (hu : u < 12) : ∀ n, n ≤ 12 → ∀ k, k < 320 → (zbit (mn_B y u v n) k = true ↔ (k < a_nw a ∧ a_wa a k = true ∧ a_rd a (a_wr a k) = u) ∨ ∃ x, x < n ∧ x ≠ v ∧ a_lk a u x = true ∧ a_tb a u x k = true)
  | 0, _, k, hk => by
    simp only [mn_B]
    rw [hg.sc.2.2.1, yA_r hg hJ hu _ (Nat.le_refl _) k hk]
    exact ⟨Or.inl, fun z => z.elim id (fun ⟨x, hx, _⟩ => absurd hx (Nat.not_lt_zero x))⟩
  | n + 1, hn, k, hk => by
    have ih := yB_r hg hl hJ (v := v) hu n (by omega) k hk
    have hln := hl u n hu (by omega)
    have htb : zbit (sh (y_tb y) (5 * (12 * u + n))) k = a_tb a u n k := by rw [← hln.2.2.2, bto_i hk]
    have wid : (∃ x, x < n ∧ x ≠ v ∧ a_lk a u x = true ∧ a_tb a u x k = true) → ∃ x, x < n + 1 ∧ x ≠ v ∧ a_lk a u x = true ∧ a_tb a u x k = true := fun ⟨x, h1, h2⟩ => ⟨x, by omega, h2⟩
    have nar : ¬ (n ≠ v ∧ a_lk a u n = true ∧ a_tb a u n k = true) → (∃ x, x < n + 1 ∧ x ≠ v ∧ a_lk a u x = true ∧ a_tb a u x k = true) → ∃ x, x < n ∧ x ≠ v ∧ a_lk a u x = true ∧ a_tb a u x k = true := fun q ⟨x, h1, h2⟩ => by
      by_cases e : x = n
      · rw [e] at h2; exact absurd h2 q
      · exact ⟨x, by omega, h2⟩
    simp only [mn_B]
    rw [hln.1]
    by_cases c : ¬ n = v ∧ a_lk a u n = true
    · rw [if_pos c, zbit_or _ _ hk, Bool.or_eq_true, ih, htb]
      constructor
      · rintro (z | z)
        · exact z.imp id wid
        · exact Or.inr ⟨n, by omega, c.1, c.2, z⟩
      · rintro (z | ⟨x, y1, y2, y3, y4⟩)
        · exact Or.inl (Or.inl z)
        · by_cases ey : x = n
          · rw [ey] at y4; exact Or.inr y4
          · exact Or.inl (Or.inr ⟨x, by omega, y2, y3, y4⟩)
    · rw [if_neg c, ih]
      exact ⟨fun z => z.imp id wid, fun z => z.imp id (nar (fun q => c ⟨q.1, q.2.1⟩))⟩
theorem yC_r (y : zMS) (so : Nat → Int64) : ∀ n, ∀ j, j < 320 → (zbit (mn_C y so n) j = true ↔ j < n ∧ m_st y so j = true)
  | 0, j, hj => by
    simp only [mn_C]
    rw [zbit_clr _ hj]
    exact ⟨fun z => (by cases z), fun z => absurd z.1 (Nat.not_lt_zero j)⟩
  | n + 1, j, hj => by
    have ih := yC_r y so n j hj
    simp only [mn_C]
    by_cases c : m_st y so n = true
    · rw [if_pos c, zbit_add, Bool.or_eq_true, ih, decide_eq_true_iff]
      constructor
      · rintro (z | z)
        · exact ⟨by omega, z.2⟩
        · rw [z]; exact ⟨by omega, c⟩
      · intro z
        by_cases e : j = n
        · exact Or.inr e
        · exact Or.inl ⟨by omega, z.2⟩
    · rw [if_neg c, ih]
      constructor
      · intro z; exact ⟨by omega, z.2⟩
      · intro z
        by_cases e : j = n
        · rw [e] at z; exact absurd z.2 c
        · exact ⟨by omega, z.2⟩
theorem mn_y {y : zMS} {a : zAb} (hg : Yg y a) (hl : Yl y a) (hJ : AJ a) {u v : Nat} (hu : u < 12) : bto (y_me (mn_x y u v)) = a_mn a u v := by
  have h3 := hJ.lim
  refine bto_r (fun k hk => ?_) (fun k hk => by have := mn_nw hk; omega)
  have e1 : y_me (mn_x y u v) = mn_C y (mn_B y u v (y_dk y)) (y_nw y) := rfl
  rw [e1, hg.sc.1, hg.sc.2.2.1]
  have hB := yB_r hg hl hJ (v := v) hu (a_dk a) h3.1
  refine b_iff ?_
  rw [yC_r y _ _ k hk]
  show _ ↔ zd (k < a_nw a ∧ a_kn a u v k ∧ ∀ j, a_kn a u v j → ¬ a_out a k j) = true
  rw [zd_i]
  unfold m_st
  rw [zd_i, hg.sc.2.2.1, hB k hk]
  refine and_congr_right (fun hw => and_congr_right (fun _ => ?_))
  constructor
  · intro h j hj ho
    have hj1 := kn_nw hJ hj
    have := h j hj1 ho.2.1 ((hB j (by omega)).mpr hj) (by rw [(hg.ws j hj1).2.2 k hw]; exact ho.2.2.1)
    rw [(hg.ws k hw).2.2 j hj1] at this
    exact ho.2.2.2 this
  · intro h j hj1 hne hj hcv
    rw [(hg.ws j hj1).2.2 k hw] at hcv
    rw [(hg.ws k hw).2.2 j hj1]
    apply Classical.byContradiction
    intro hno
    exact h j ((hB j (by omega)).mp hj) ⟨hj1, hne, hcv, hno⟩
/-! tells -/
theorem to_y (f : Nat → Int64) (g : Nat → Int64) (b : Nat) : bto (sh (rwp f b g 5) b) = bto g := bto_cg (fun i hi => by
  show rwp f b g 5 (b + i) = g i
  unfold rwp
  rw [if_pos (by omega), Nat.add_sub_cancel_left])
theorem to_o (f : Nat → Int64) (g : Nat → Int64) {b c : Nat} (h : c + 5 ≤ b ∨ b + 5 ≤ c) : bto (sh (rwp f b g 5) c) = bto (sh f c) := bto_cg (fun i hi => by
  show rwp f b g 5 (c + i) = f (c + i)
  exact if_neg (by omega))
/-- how many messages there are -/
theorem ms_sum (y : zMS) : ∀ n, (∀ m, m < n → y_fr y m < 12 ∧ y_tt y m < 12) → sm2 (fun u v => (yqs y u v 0 n).length) = n
  | 0, _ => by
    show sm2 (fun _ _ => 0) = 0
    decide
  | n + 1, h => by
    have ih := ms_sum y n (fun m hm => h m (by omega))
    obtain ⟨h1, h2⟩ := h n (by omega)
    have hs := sm2_up (fun u v => (yqs y u v 0 n).length) ((yqs y (y_fr y n) (y_tt y n) 0 n).length + 1) h1 h2
    have e : sm2 (fun u v => (yqs y u v 0 (n + 1)).length) = sm2 (va_u2 (fun u v => (yqs y u v 0 n).length) (y_fr y n) (y_tt y n) ((yqs y (y_fr y n) (y_tt y n) 0 n).length + 1)) := by
      refine congrArg sm2 ?_
      funext u v
      show (yqs y u v 0 n ++ y_hr y u v (0 + n)).length = _
      rw [List.length_append, Nat.zero_add]
      simp only [va_u2]
      unfold y_hr
      by_cases c : u = y_fr y n ∧ v = y_tt y n
      · rw [if_pos c, if_pos ⟨c.1.symm, c.2.symm⟩, c.1, c.2]; rfl
      · rw [if_neg c, if_neg (fun z => c ⟨z.1.symm, z.2.symm⟩)]; rfl
    rw [e]
    omega
theorem ms_le {y : zMS} {a : zAb} (hR : Ry y a) (hJ : AJ a) : y_ms y ≤ 15972 := by
  obtain ⟨hg, hl, hc, hJv⟩ := hR
  have h := ms_sum y (y_ms y) (fun m hm => ⟨(hJv.ms m hm).1, (hJv.ms m hm).2.1⟩)
  have h1 : sm2 (fun u v => (yqs y u v 0 (y_ms y)).length) ≤ sm2 (fun u v => if u = v then 0 else 121) := sm2_le (fun u v hu hv => by
    have e : yqs y u v 0 (y_ms y) = a_q a u v := (hl u v hu hv).2.1
    rw [e]
    by_cases c : u = v
    · rw [if_pos c]
      have : a_q a u v = [] := (hJ.un u v (by
        cases hq : a_lk a u v with
        | false => rfl
        | true => rw [c] at hq; exact absurd hq (fun z => Br_irr hJ.br z))).1
      rw [this]; exact Nat.le_refl _
    · rw [if_neg c]; exact ql_len hJ u v)
  have h2 : sm2 (fun u v => if u = v then 0 else 121) = 15972 := by decide
  omega
theorem rm_y {y : zMS} {a : zAb} (hR : Ry y a) (hJ : AJ a) : rm y := fun he => by
  have h := ms_le hR hJ
  obtain ⟨e, h1, h2⟩ := hR.2.2.1
  rw [he] at h
  have : e ≤ 5 := by
    apply Classical.byContradiction
    intro hn
    have : e = 6 := by omega
    rw [this] at h2
    omega
  rw [h2]
  have h5 : 2 ^ e ≤ 2 ^ 5 := Nat.pow_le_pow_right (by decide) this
  omega
theorem Yc_pu {y : zMS} {u v : Nat} {s : Int32} (h : Yc y) (hr : rm y) : Yc (pu y u v s) := by
  obtain ⟨e, h1, h2⟩ := h
  unfold Yc
  rw [pu_cp]
  by_cases c : y_ms y = y_cp y
  · rw [if_pos c]
    have h3 := hr c
    refine ⟨e + 1, ?_, by rw [h2, Nat.pow_succ]; omega⟩
    apply Classical.byContradiction
    intro hn
    have : e = 6 := by omega
    rw [this] at h2
    omega
  · rw [if_neg c]; exact ⟨e, h1, h2⟩
theorem tl1_y {y : zMS} {a : zAb} (hR : Ry y a) (hJ : AJ a) {u v : Nat} (hu : u < a_dk a) (hv : v < a_dk a) : Ry (tl_1 y u v) (tlP a (fun p q => p = u ∧ q = v)) := by
  have hrm := rm_y hR hJ
  obtain ⟨hg, hl, hc, hJv⟩ := hR
  have h3 := hJ.lim
  have hu12 : u < 12 := by omega
  have hv12 : v < 12 := by omega
  have hJ1 : Jv (tl_1 y u v) := Jv_tl1 hJv hrm hu12 hv12
  have hln := hl u v hu12 hv12
  have hme := mn_y hg hl hJ (v := v) hu12
  unfold tl_1 at hJ1 ⊢
  rw [hln.1] at hJ1 ⊢
  by_cases hlk : a_lk a u v = true
  · rw [if_pos hlk] at hJ1 ⊢
    have hto : tl_o (mn_x y u v) u v 5 = true ↔ a_mn a u v ≠ a_to a u v := by
      unfold tl_o
      rw [zd_i, ← hme, ← hln.2.2.1]
      show (∃ k, k < 5 ∧ y_me (mn_x y u v) k ≠ sh (y_to y) (5 * (12 * u + v)) k) ↔ _
      constructor
      · rintro ⟨k, hk, h⟩ he
        exact h (bto_eq.mp he k hk)
      · intro h
        apply Classical.byContradiction
        intro hno
        refine h (bto_cg (fun i hi => ?_))
        apply Classical.byContradiction
        intro hi2
        exact hno ⟨i, hi, hi2⟩
    by_cases ho : tl_o (mn_x y u v) u v 5 = true
    · rw [if_pos ho] at hJ1 ⊢
      have hw : a_w a u v := ⟨hlk, hto.mp ho⟩
      have hqt := fun p w => yq_tell (z := mn_x y u v) u v p w
      have fr : ∃ P, (P = mn_x y u v ∨ P = pu (mn_x y u v) u v (-2)) ∧ ∃ A B, tl_w (mn_x y u v) u v = v_to (v_rw P A) B ∧ B = rwp (y_to y) (5 * (12 * u + v)) (y_me (mn_x y u v)) 5 := by
        refine ⟨tl_p (mn_x y u v) u v, ?_, _, _, rfl, ?_⟩
        · unfold tl_p; split
          · exact Or.inl rfl
          · exact Or.inr rfl
        · have : y_to (tl_p (mn_x y u v) u v) = y_to y := by
            unfold tl_p
            split
            · rfl
            · unfold pu; split <;> rfl
          rw [this]
      obtain ⟨P, hP, A, B, eW, eB⟩ := fr
      have hgP : Yg P a ∧ y_lk P = y_lk y ∧ y_tb P = y_tb y ∧ Yc P := by
        rcases hP with e | e
        · rw [e]; exact ⟨hg, rfl, rfl, hc⟩
        · rw [e]
          have hcp := Yc_pu (y := mn_x y u v) (u := u) (v := v) (s := -2) hc hrm
          refine ⟨?_, ?_, ?_, hcp⟩
          · unfold pu; split <;> exact hg
          · unfold pu; split <;> rfl
          · unfold pu; split <;> rfl
      have eq : ∀ p q, a_q (tlP a (fun p q => p = u ∧ q = v)) p q = if zd ((p = u ∧ q = v) ∧ a_w a p q) = true then tlq (a_q a p q) (a_mn a p q) else a_q a p q := fun _ _ => rfl
      have et : ∀ p q, a_to (tlP a (fun p q => p = u ∧ q = v)) p q = if zd ((p = u ∧ q = v) ∧ a_w a p q) = true then a_mn a p q else a_to a p q := fun _ _ => rfl
      have hq0 : ∀ p w, yq (mn_x y u v) p w = yq y p w := fun p w => yq_cg (y := y) (z := mn_x y u v) rfl rfl rfl rfl rfl p w
      refine ⟨?_, fun p w hp hw2 => ⟨?_, ?_, ?_, ?_⟩, ?_, hJ1⟩
      · rw [eW]; exact hgP.1
      · rw [eW]
        show y_lk P (12 * p + w) = _
        rw [hgP.2.1]; exact (hl p w hp hw2).1
      · rw [hqt, hq0, hme, eq]
        by_cases e : p = u ∧ w = v
        · rw [if_pos e, zd_t ⟨e, by rw [e.1, e.2]; exact hw⟩, if_pos rfl, (hl p w hp hw2).2.1, e.1, e.2]
        · rw [if_neg e, zd_f (fun z => e z.1), (hl p w hp hw2).2.1]; rfl
      · rw [eW, et]
        show bto (sh B (5 * (12 * p + w))) = _
        rw [eB]
        by_cases e : p = u ∧ w = v
        · rw [zd_t ⟨e, by rw [e.1, e.2]; exact hw⟩, if_pos rfl, e.1, e.2, to_y, hme]
        · rw [zd_f (fun z => e z.1), if_neg (by decide), to_o _ _ (by omega)]
          exact (hl p w hp hw2).2.2.1
      · rw [eW]
        show bto (sh (y_tb P) (5 * (12 * p + w))) = _
        rw [hgP.2.2.1]; exact (hl p w hp hw2).2.2.2
      · rw [eW]; exact hgP.2.2.2
    · rw [if_neg ho] at hJ1 ⊢
      have hnw : ¬ a_w a u v := fun z => ho (hto.mpr z.2)
      rw [tlP_no (fun p q h hw => by rw [h.1, h.2] at hw; exact hnw hw)]
      exact ⟨hg, fun p w hp hw => ⟨(hl p w hp hw).1, (yq_cg (y := y) (z := mn_x y u v) rfl rfl rfl rfl rfl p w).trans (hl p w hp hw).2.1, (hl p w hp hw).2.2⟩, hc, hJ1⟩
  · rw [if_neg hlk]
    rw [tlP_no (fun p q h hw => by rw [h.1, h.2] at hw; exact hlk hw.1)]
    exact ⟨hg, hl, hc, hJv⟩
