/-! the reference: tests, wishes -/
theorem tk_t {a : zAb} {f : Nat} {kd : Int32} {n : Nat} {g : Nat → Int32} {w j : Nat} (hw : w < a_nw a) (hj : j < a_nw a) : a_tk (a_tst a f kd n g) w j = a_tk a w j := tk_cg (fun f' => ⟨tst_o a f kd n g hw f', tst_o a f kd n g hj f'⟩)
theorem tsk {kd : Int32} {n : Nat} {g : Nat → Int32} (h : tsok kd n g) : n ≤ 4 := by
  rcases h with ⟨_, c⟩ | ⟨_, c, _⟩ | ⟨_, _, c, _⟩ <;> omega
/-- a test being read is changed -/
theorem tst_y {y : zMS} {a : zAb} (hR : Ry y a) (hJ : AJ a) {f : Nat} {kd : Int32} {n : Nat} {g : Nat → Int32} (hf : f < 4) {A : Nat → Int32} {B : Nat → Nat} {C : Nat → Int32} (hk : ∀ t, t ≠ 1200 + f → A t = y_kd y t ∧ B t = y_mn y t) (hu : ∀ i, ¬ (4 * (1200 + f) ≤ i ∧ i < 4 * (1200 + f) + 4) → C i = y_nu y i) (ht : ts_r (v_nu (v_mn (v_kd y A) B) C) (1200 + f) kd n g) (hJv : Jv (v_nu (v_mn (v_kd y A) B) C)) : Ry (v_nu (v_mn (v_kd y A) B) C) (a_tst a f kd n g) := by
  have h3 := hJ.lim
  obtain ⟨hg, hl, hc, _⟩ := hR
  have keep : ∀ t kd' n' g', t ≠ 1200 + f → n' ≤ 4 → ts_r y t kd' n' g' → ts_r (v_nu (v_mn (v_kd y A) B) C) t kd' n' g' := fun t kd' n' g' hne hn' h => by
    refine ⟨?_, fun q => ?_, fun k hk' => ?_⟩
    · show A t = kd'
      rw [(hk t hne).1]; exact h.1
    · show B t = n'
      rw [(hk t hne).2]; exact h.2.1 q
    · show C (4 * t + k) = g' k
      rw [hu (4 * t + k) (by omega)]
      exact h.2.2 k hk'
  refine ⟨⟨hg.1, hg.rd, hg.hm, fun w hw => ⟨(hg.ws w hw).1, (hg.ws w hw).2.1, fun j hj => ?_⟩, ⟨fun w f' hw hf' => ?_, fun f' hf' => ?_⟩, hg.nt, hg.sn⟩, fun u v hu hv => ⟨(hl u v hu hv).1, (yq_cg (y := y) (z := v_nu (v_mn (v_kd y A) B) C) rfl rfl rfl rfl rfl u v).trans (hl u v hu hv).2.1, (hl u v hu hv).2.2⟩, hc, hJv⟩
  · rw [tk_t (show w < a_nw a from hw) (show j < a_nw a from hj)]
    exact (hg.ws w hw).2.2 j hj
  · have hw' : w < a_nw a := hw
    have o := tst_o a f kd n g hw' f'
    rw [o.1, o.2.1, o.2.2]
    exact keep _ _ _ _ (by omega) (tsk (hJ.ts w f' (by omega) hf')) (hg.ts w f' hw' hf')
  · show ts_r _ (1200 + f') (va_u2 (a_fk a) (a_nw a) f kd (a_nw a) f') (va_u2 (a_fz a) (a_nw a) f n (a_nw a) f') (va_u2 (a_fg a) (a_nw a) f g (a_nw a) f')
    by_cases e : f' = f
    · rw [e, va_u2_s, va_u2_s, va_u2_s]; exact ht
    · rw [va_u2_o _ _ (fun z => e z.2), va_u2_o _ _ (fun z => e z.2), va_u2_o _ _ (fun z => e z.2)]
      exact keep _ _ _ _ (by omega) (tsk (hJ.ts _ f' (Nat.le_refl _) hf')) (hg.rg f' hf')
theorem test_y {y : zMS} {a : zAb} (hR : Ry y a) (hJ : AJ a) {f : Nat} {kd p q : Int32} (hf : f < 4) (hk : kd = 0 ∨ kd = 1 ∨ kd = 2) (gg : Nat → Int32) : Ry (ts_y y f kd p q) (a_tst a f kd (if kd = 0 then 0 else 2) (upd (upd gg 0 p) 1 q)) := by
  refine tst_y hR hJ hf (fun t ht => ⟨upd_o' _ _ ht, va_upo' _ _ ht⟩) (fun i hi => ?_) ⟨upd_s' _ _ _, fun c => ?_, fun k hk2 => ?_⟩ ?_
  · rw [upd_o' _ _ (by omega), upd_o' _ _ (by omega)]
  · rw [c] at hk
    rcases hk with z | z | z <;> exact absurd z (by decide)
  · show upd (upd (y_nu y) (4 * (1200 + f)) p) (4 * (1200 + f) + 1) q (4 * (1200 + f) + k) = upd (upd gg 0 p) 1 q k
    have hk3 : k < 2 := by
      split at hk2 <;> omega
    by_cases e : k = 1
    · rw [e, upd_s', upd_s']
    · rw [upd_o' _ _ (by omega), upd_o' _ _ e, show k = 0 by omega, upd_s']
      exact upd_s' _ _ _
  · exact Jv_ts (y := v_nu y (upd (upd (y_nu y) (4 * (1200 + f)) p) (4 * (1200 + f) + 1) q)) hR.2.2.2 (by
      rcases hk with z | z | z
      · exact Or.inl z
      · exact Or.inr (Or.inl z)
      · exact Or.inr (Or.inr (Or.inl z))) (by decide)
theorem am_e (v : Int32) (b : Nat) : ∀ (n : Nat) (f : Nat → Int32), (∀ k, am_ins v b n f (b + k) = ft_ins v n (fun k => f (b + k)) k) ∧ ∀ i, ¬ (b ≤ i ∧ i ≤ b + n) → am_ins v b n f i = f i
  | 0, f => by
    refine ⟨fun k => ?_, fun i hi => ?_⟩
    · show upd f b v (b + k) = upd (fun k => f (b + k)) 0 v k
      by_cases e : k = 0
      · rw [e, upd_s']; exact upd_s' _ _ _
      · rw [upd_o' _ _ e, upd_o' _ _ (by omega)]
    · show upd f b v i = f i
      exact upd_o' _ _ (by omega)
  | n + 1, f => by
    simp only [am_ins, ft_ins]
    by_cases c : v < f (b + n)
    · rw [if_pos c, if_pos c]
      have ih := am_e v b n (upd f (b + n + 1) (f (b + n)))
      have e : (fun k => upd f (b + n + 1) (f (b + n)) (b + k)) = upd (fun k => f (b + k)) (n + 1) (f (b + n)) := by
        funext k
        by_cases e : k = n + 1
        · rw [e, upd_s']; exact upd_s' _ _ _
        · rw [upd_o' _ _ e, upd_o' _ _ (by omega)]
      refine ⟨fun k => ?_, fun i hi => ?_⟩
      · rw [ih.1 k, e]
      · rw [ih.2 i (by omega), upd_o' _ _ (by omega)]
    · rw [if_neg c, if_neg c]
      refine ⟨fun k => ?_, fun i hi => upd_o' _ _ (by omega)⟩
      by_cases e : k = n + 1
      · rw [e, upd_s']; exact upd_s' _ _ _
      · rw [upd_o' _ _ e, upd_o' _ _ (by omega)]
/-- whether a number can be added, and how many there are -/
theorem can_y {y : zMS} {a : zAb} (hg : Yg y a) {f : Nat} (hf : f < 4) (v : Int32) : ft_can (y_kd y (1200 + f)) (y_mn y (1200 + f)) (y_g y (1200 + f)) v = ft_can (a_fk a (a_nw a) f) (a_fz a (a_nw a) f) (a_fg a (a_nw a) f) v ∧ amk_n y f = (if a_fk a (a_nw a) f = 3 then a_fz a (a_nw a) f else 0) := by
  obtain ⟨h1, h2, h3⟩ := hg.rg f hf
  unfold ft_can amk_n
  rw [h1]
  by_cases c : a_fk a (a_nw a) f = 3
  · rw [h2 c]
    refine ⟨?_, rfl⟩
    have e : ft_has (a_fz a (a_nw a) f) (y_g y (1200 + f)) v = ft_has (a_fz a (a_nw a) f) (a_fg a (a_nw a) f) v := by
      unfold ft_has
      refine congrArg zd (propext ⟨fun ⟨i, hi, e⟩ => ⟨i, hi, ?_⟩, fun ⟨i, hi, e⟩ => ⟨i, hi, ?_⟩⟩)
      · rw [← h3 i hi]; exact e
      · exact (h3 i hi).trans e
    rw [e]
  · rw [if_neg c, if_neg c]
    exact ⟨congrArg zd (propext ⟨fun _ => Or.inl c, fun _ => Or.inl c⟩), rfl⟩
theorem among_y {y : zMS} {a : zAb} (hR : Ry y a) (hJ : AJ a) {f : Nat} {v : Int32} (hf : f < 4) (hn : (if a_fk a (a_nw a) f = 3 then a_fz a (a_nw a) f else 0) < 4) : Ry (am_y y f v) (a_tst a f 3 ((if a_fk a (a_nw a) f = 3 then a_fz a (a_nw a) f else 0) + 1) (ft_ins v (if a_fk a (a_nw a) f = 3 then a_fz a (a_nw a) f else 0) (a_fg a (a_nw a) f))) := by
  have hg := hR.1
  have hc := can_y hg hf v
  obtain ⟨h1, h2, h3⟩ := hg.rg f hf
  obtain ⟨n, hn0⟩ : ∃ n, n = (if a_fk a (a_nw a) f = 3 then a_fz a (a_nw a) f else 0) := ⟨_, rfl⟩
  rw [← hn0] at hn ⊢
  have hc2 : amk_n y f = n := by rw [hn0]; exact hc.2
  have hae := am_e v (4 * (1200 + f)) n (y_nu y)
  have ez : am_y y f v = v_nu (v_mn (v_kd y (if y_kd y (1200 + f) = 3 then y_kd y else upd (y_kd y) (1200 + f) 3)) (va_up (if y_kd y (1200 + f) = 3 then y_mn y else va_up (y_mn y) (1200 + f) 0) (1200 + f) (n + 1))) (am_ins v (4 * (1200 + f)) n (y_nu y)) := by
    unfold am_y am_1
    rw [hc2]
    by_cases c : y_kd y (1200 + f) = 3
    · rw [if_pos c, if_pos c, if_pos c]; rfl
    · rw [if_neg c, if_neg c, if_neg c]; rfl
  rw [ez]
  have hkd : (if y_kd y (1200 + f) = 3 then y_kd y else upd (y_kd y) (1200 + f) 3) (1200 + f) = 3 := by
    by_cases c : y_kd y (1200 + f) = 3
    · rw [if_pos c]; exact c
    · rw [if_neg c]; exact upd_s' _ _ _
  refine tst_y hR hJ hf (fun t ht => ⟨?_, ?_⟩) (fun i hi => hae.2 i (by omega)) ⟨hkd, fun _ => va_ups' _ _ _, fun k hk => ?_⟩ ?_
  · by_cases c : y_kd y (1200 + f) = 3
    · rw [if_pos c]
    · rw [if_neg c]; exact upd_o' _ _ ht
  · rw [va_upo' _ _ ht]
    by_cases c : y_kd y (1200 + f) = 3
    · rw [if_pos c]
    · rw [if_neg c, va_upo' _ _ ht]
  · show am_ins v (4 * (1200 + f)) n (y_nu y) (4 * (1200 + f) + k) = _
    rw [hae.1 k]
    refine ins_cg v n _ _ (fun i hi => ?_) k (by omega)
    refine h3 i ?_
    rw [hn0] at hi
    split at hi
    · exact hi
    · omega
  · have hJv := hR.2.2.2
    refine ⟨hJv.dk, hJv.lim, hJv.cp, hJv.rdr, hJv.ro, fun t ht => ?_, hJv.ms, hJv.gb, hJv.hm⟩
    have o := hJv.ts t ht
    by_cases e : t = 1200 + f
    · rw [e]
      refine ⟨Or.inr (Or.inr (Or.inr hkd)), ?_⟩
      show va_up _ (1200 + f) (n + 1) (1200 + f) ≤ 4
      rw [va_ups']; omega
    · have e1 : y_kd (v_nu (v_mn (v_kd y (if y_kd y (1200 + f) = 3 then y_kd y else upd (y_kd y) (1200 + f) 3)) (va_up (if y_kd y (1200 + f) = 3 then y_mn y else va_up (y_mn y) (1200 + f) 0) (1200 + f) (n + 1))) (am_ins v (4 * (1200 + f)) n (y_nu y))) t = y_kd y t := by
        show (if y_kd y (1200 + f) = 3 then y_kd y else upd (y_kd y) (1200 + f) 3) t = _
        by_cases c : y_kd y (1200 + f) = 3
        · rw [if_pos c]
        · rw [if_neg c]; exact upd_o' _ _ e
      have e2 : y_mn (v_nu (v_mn (v_kd y (if y_kd y (1200 + f) = 3 then y_kd y else upd (y_kd y) (1200 + f) 3)) (va_up (if y_kd y (1200 + f) = 3 then y_mn y else va_up (y_mn y) (1200 + f) 0) (1200 + f) (n + 1))) (am_ins v (4 * (1200 + f)) n (y_nu y))) t = y_mn y t := by
        show va_up (if y_kd y (1200 + f) = 3 then y_mn y else va_up (y_mn y) (1200 + f) 0) (1200 + f) (n + 1) t = _
        rw [va_upo' _ _ e]
        by_cases c : y_kd y (1200 + f) = 3
        · rw [if_pos c]
        · rw [if_neg c, va_upo' _ _ e]
      rw [e1, e2]; exact o
/-! a wish -/
theorem un_o (z : zMS) : ∀ n t, (t < 1200 ∨ 1200 + n ≤ t) → y_kd (un_x z n) t = y_kd z t ∧ y_mn (un_x z n) t = y_mn z t
  | 0, _, _ => ⟨rfl, rfl⟩
  | n + 1, t, h => by
    have ih := un_o z n t (by omega)
    refine ⟨?_, ?_⟩
    · show upd (y_kd (un_x z n)) (1200 + n) 0 t = _
      rw [upd_o' _ _ (by omega)]; exact ih.1
    · show va_up (y_mn (un_x z n)) (1200 + n) 0 t = _
      rw [va_upo' _ _ (by omega)]; exact ih.2
theorem un_s (z : zMS) : ∀ n f, f < n → y_kd (un_x z n) (1200 + f) = 0
  | 0, f, h => absurd h (Nat.not_lt_zero f)
  | n + 1, f, h => by
    show upd (y_kd (un_x z n)) (1200 + n) 0 (1200 + f) = 0
    by_cases e : f = n
    · rw [e, upd_s']
    · rw [upd_o' _ _ (by omega)]; exact un_s z n f (by omega)
theorem un_k (z : zMS) : ∀ n, ∃ A B, un_x z n = v_mn (v_kd z A) B
  | 0 => ⟨y_kd z, y_mn z, rfl⟩
  | n + 1 => by
    obtain ⟨A, B, e⟩ := un_k z n
    have : un_x z (n + 1) = v_mn (v_kd (un_x z n) (upd (y_kd (un_x z n)) (1200 + n) 0)) (va_up (y_mn (un_x z n)) (1200 + n) 0) := rfl
    rw [this, e]
    exact ⟨_, _, rfl⟩
theorem cvn_o (z : zMS) (w : Nat) : ∀ n i j, i < w → j < w → w < 300 → n ≤ w + 1 → cv_n z w n (300 * i + j) = y_cv z (300 * i + j)
  | 0, _, _, _, _, _, _ => rfl
  | n + 1, i, j, hi, hj, hw, hn => by
    show va_up (va_up (cv_n z w n) (300 * n + w) (y_cvd z n w)) (300 * w + n) (y_cvd z w n) (300 * i + j) = _
    rw [va_upo' _ _ (by omega), va_upo' _ _ (by omega)]
    exact cvn_o z w n i j hi hj hw (by omega)
theorem cvn_1 (z : zMS) (w : Nat) (hw : w < 300) : ∀ n, n ≤ w + 1 → ∀ i, i < n → cv_n z w n (300 * i + w) = y_cvd z i w ∧ cv_n z w n (300 * w + i) = y_cvd z w i
  | 0, _, i, hi => absurd hi (Nat.not_lt_zero i)
  | n + 1, hn, i, hi => by
    show va_up (va_up (cv_n z w n) (300 * n + w) (y_cvd z n w)) (300 * w + n) (y_cvd z w n) (300 * i + w) = _ ∧ va_up (va_up (cv_n z w n) (300 * n + w) (y_cvd z n w)) (300 * w + n) (y_cvd z w n) (300 * w + i) = _
    by_cases e : i = n
    · subst e
      refine ⟨?_, va_ups' _ _ _⟩
      by_cases e2 : i = w
      · rw [e2]; exact va_ups' _ _ _
      · rw [va_upo' _ _ (by omega)]; exact va_ups' _ _ _
    · have ih := cvn_1 z w hw n (by omega) i (by omega)
      refine ⟨?_, ?_⟩
      · rw [va_upo' _ _ (by omega), va_upo' _ _ (by omega)]; exact ih.1
      · rw [va_upo' _ _ (by omega), va_upo' _ _ (by omega)]; exact ih.2
theorem wsh_y {y : zMS} {a : zAb} (hR : Ry y a) (hJ : AJ a) {r : Nat} (hr : r < a_nr a) (hw : a_nw a < 300) (lo hi : Nat → Int64) (g : Nat → Nat → Int32) : Ry (wy y r lo hi) (a_wsh a r g) := by
  obtain ⟨hg, hl, hc, hJv⟩ := hR
  have h3 := hJ.lim
  have en : y_nw y = a_nw a := hg.sc.2.2.1
  have hJw : Jv (wy y r lo hi) := Jv_un (Jv_ys (Jv_cv (Jv_wyk (Jv_wy0 hJv (by rw [en]; exact hw) (by rw [hg.sc.2.1]; exact hr)) (by decide)))) 4
  obtain ⟨w, hw0⟩ : ∃ w, w = a_nw a := ⟨_, rfl⟩
  obtain ⟨z, hz⟩ : ∃ z, z = wy_k (wy_0 y r) (y_nw y) 4 16 := ⟨_, rfl⟩
  obtain ⟨x, hx⟩ : ∃ x, x = ys (wy_c z (y_nw y)) lo hi := ⟨_, rfl⟩
  have ew : wy y r lo hi = un_x x 4 := by unfold wy; rw [hx, hz]
  obtain ⟨A, B, eU⟩ := un_k x 4
  have uo := un_o x 4
  have us := un_s x 4
  -- the tests of z
  have zk : ∀ t, y_kd z t = cpy (y_kd y) (4 * w) 1200 4 t := fun t => by rw [hz, hw0, ← en]; rfl
  have zm : ∀ t, y_mn z t = cpy (y_mn y) (4 * w) 1200 4 t := fun t => by rw [hz, hw0, ← en]; rfl
  have zn : ∀ t, y_nu z t = cpy (y_nu y) (16 * w) 4800 16 t := fun t => by rw [hz, hw0, ← en]; rfl
  have old : ∀ v f, v < w → f < 4 → ts_r z (4 * v + f) (a_fk a v f) (a_fz a v f) (a_fg a v f) := fun v f hv hf => by
    have o := hg.ts v f (by omega) hf
    have n4 := tsk (hJ.ts v f (by omega) hf)
    refine ⟨?_, fun q => ?_, fun k hk => ?_⟩
    · rw [zk]; unfold cpy; rw [if_neg (by omega)]; exact o.1
    · rw [zm]; unfold cpy; rw [if_neg (by omega)]; exact o.2.1 q
    · rw [zn]; unfold cpy; rw [if_neg (by omega)]; exact o.2.2 k hk
  have new : ∀ f, f < 4 → ts_r z (4 * w + f) (a_fk a w f) (a_fz a w f) (a_fg a w f) := fun f hf => by
    have o := hg.rg f hf
    rw [← hw0] at o
    have n4 := tsk (hJ.ts w f (by omega) hf)
    refine ⟨?_, fun q => ?_, fun k hk => ?_⟩
    · rw [zk]; unfold cpy; rw [if_pos (by omega), show 1200 + (4 * w + f - 4 * w) = 1200 + f by omega]; exact o.1
    · rw [zm]; unfold cpy; rw [if_pos (by omega), show 1200 + (4 * w + f - 4 * w) = 1200 + f by omega]; exact o.2.1 q
    · rw [zn]; unfold cpy; rw [if_pos (by omega), show 4800 + (4 * (4 * w + f) + k - 16 * w) = 4 * (1200 + f) + k by omega]; exact o.2.2 k hk
  have zt : ∀ v f, v ≤ w → f < 4 → ts_r z (4 * v + f) (a_fk (a_wsh a r g) v f) (a_fz (a_wsh a r g) v f) (a_fg (a_wsh a r g) v f) := fun v f hv hf => by
    have o := wsh_o a r g (show v ≤ a_nw a by omega) f
    rw [o.1, o.2.1, o.2.2]
    by_cases e : v = w
    · rw [e]; exact new f hf
    · exact old v f (by omega) hf
  have zok : ∀ v f, v ≤ w → f < 4 → tsok (a_fk (a_wsh a r g) v f) (a_fz (a_wsh a r g) v f) (a_fg (a_wsh a r g) v f) := fun v f hv hf => by
    have o := wsh_o a r g (show v ≤ a_nw a by omega) f
    rw [o.1, o.2.1, o.2.2]
    exact hJ.ts v f (by omega) hf
  have cov : ∀ i j, i ≤ w → j ≤ w → y_cvd z i j = a_tk (a_wsh a r g) i j := fun i j hi hj => cvd_y (fun f hf => zt i f hi hf) (fun f hf => zt j f hj hf) (fun f hf => zok i f hi hf) (fun f hf => zok j f hj hf)
  -- fields of the end
  have xk : y_kd x = y_kd z ∧ y_mn x = y_mn z ∧ y_nu x = y_nu z ∧ y_cv x = cv_n z w (w + 1) := by rw [hx, hw0, ← en]; exact ⟨rfl, rfl, rfl, rfl⟩
  have zc : y_cv z = y_cv y := by rw [hz]; rfl
  have xs : y_ro x = va_up (y_ro y) w r ∧ y_al x = va_up (y_al y) w true ∧ y_nw x = w + 1 := by rw [hx, hz, hw0, ← en]; exact ⟨rfl, rfl, rfl⟩
  have xo : y_dk x = y_dk y ∧ y_nr x = y_nr y ∧ y_nn x = y_nn y ∧ y_po x = y_po y ∧ y_ne x = y_ne y ∧ y_td x = y_td y ∧ y_do x = y_do y ∧ y_hm x = y_hm y ∧ y_he x = y_he y ∧ y_fi x = y_fi y ∧ y_sa x = y_sa y ∧ y_wt x = y_wt y ∧ y_hh x = y_hh y ∧ y_lk x = y_lk y ∧ y_to x = y_to y ∧ y_tb x = y_tb y ∧ y_cp x = y_cp y := by rw [hx, hz]; exact ⟨rfl, rfl, rfl, rfl, rfl, rfl, rfl, rfl, rfl, rfl, rfl, rfl, rfl, rfl, rfl, rfl, rfl⟩
  have xq : ∀ u v, yq x u v = yq y u v := fun u v => by rw [hx, hz]; exact yq_cg (y := y) (z := ys (wy_c (wy_k (wy_0 y r) (y_nw y) 4 16) (y_nw y)) lo hi) rfl rfl rfl rfl rfl u v
  obtain ⟨p1, p2, p3, p4, p5, p6, p7, p8, p9, p10, p11, p12, p13, p14, p15, p16, p17⟩ := xo
  rw [ew] at hJw ⊢
  have nu4 : y_nu (un_x x 4) = y_nu x := by rw [eU]; rfl
  -- tests over the reading's end
  have tl2 : ∀ t kd n h, t < 1200 → n ≤ 4 → ts_r z t kd n h → ts_r (un_x x 4) t kd n h := fun t kd n h ht hn' q => by
    refine ⟨?_, fun c => ?_, fun k hk => ?_⟩
    · rw [(uo t (Or.inl ht)).1, xk.1]; exact q.1
    · rw [(uo t (Or.inl ht)).2, xk.2.1]; exact q.2.1 c
    · rw [nu4, xk.2.2.1]; exact q.2.2 k hk
  refine ⟨⟨⟨?_, ?_, ?_, ?_, ?_, ?_, ?_⟩, fun q hq => ?_, fun q hq => ?_, fun v hv => ?_, ⟨fun v f hv hf => ?_, fun f hf => ?_⟩, fun k hk => ?_, fun k hk => ?_⟩, fun u v hu hv => ?_, ?_, hJw⟩
  · rw [eU]; exact p1.trans hg.sc.1
  · rw [eU]; exact p2.trans hg.sc.2.1
  · rw [eU]
    show y_nw x = a_nw a + 1
    rw [xs.2.2, hw0]
  · rw [eU]; exact p3.trans hg.sc.2.2.2.1
  · rw [eU]; exact p4.trans hg.sc.2.2.2.2.1
  · rw [eU]; exact p5.trans hg.sc.2.2.2.2.2.1
  · rw [eU]; exact p6.trans hg.sc.2.2.2.2.2.2
  · rw [eU]
    show y_do x q = nI (a_rd a q)
    rw [p7]; exact hg.rd q hq
  · rw [eU]
    show (q < a_nr a → y_hm x q = a_rz a q) ∧ (¬ q < a_nr a → y_hm x q = 0) ∧ ∀ i, q < a_nr a → i < a_rz a q → y_he x (600 * q + i) = a_rh a q i
    rw [p8, p9]; exact hg.hm q hq
  · have hv2 : v < w + 1 := by rw [hw0]; exact hv
    have ecv : y_cv (un_x x 4) = cv_n z w (w + 1) := by rw [eU]; exact xk.2.2.2
    rw [ecv]
    have ero : y_ro (un_x x 4) = va_up (y_ro y) w r := by rw [eU]; exact xs.1
    have eal : y_al (un_x x 4) = va_up (y_al y) w true := by rw [eU]; exact xs.2.1
    rw [ero, eal]
    refine ⟨?_, ?_, fun j hj => ?_⟩
    · show va_up (y_ro y) w r v = va_up (a_wr a) (a_nw a) r v
      rw [← hw0]
      by_cases e : v = w
      · rw [e, va_ups', va_ups']
      · rw [va_upo' _ _ e, va_upo' _ _ e]; exact (hg.ws v (by omega)).1
    · show va_up (y_al y) w true v = va_up (a_wa a) (a_nw a) true v
      rw [← hw0]
      by_cases e : v = w
      · rw [e, va_ups', va_ups']
      · rw [va_upo' _ _ e, va_upo' _ _ e]; exact (hg.ws v (by omega)).2.1
    · have hj2 : j < w + 1 := by rw [hw0]; exact hj
      by_cases e1 : v = w
      · rw [e1, (cvn_1 z w (by omega) (w + 1) (Nat.le_refl _) j hj2).2]; exact cov w j (Nat.le_refl _) (by omega)
      · by_cases e2 : j = w
        · rw [e2, (cvn_1 z w (by omega) (w + 1) (Nat.le_refl _) v hv2).1]; exact cov v w (by omega) (Nat.le_refl _)
        · rw [cvn_o z w (w + 1) v j (by omega) (by omega) (by omega) (Nat.le_refl _), zc, (hg.ws v (by omega)).2.2 j (by omega)]
          exact (tk_cg (fun f => ⟨wsh_o a r g (show v ≤ a_nw a by omega) f, wsh_o a r g (show j ≤ a_nw a by omega) f⟩)).symm
  · have hv2 : v < w + 1 := by rw [hw0]; exact hv
    exact tl2 _ _ _ _ (by omega) (tsk (zok v f (by omega) hf)) (zt v f (by omega) hf)
  · show ts_r (un_x x 4) (1200 + f) (va_up (a_fk a) (a_nw a + 1) (fun _ => 0) (a_nw a + 1) f) (va_up (a_fz a) (a_nw a + 1) (fun _ => 0) (a_nw a + 1) f) _
    rw [va_ups', va_ups']
    exact ⟨us f hf, fun c => absurd c (by decide), fun k hk => absurd hk (Nat.not_lt_zero k)⟩
  · rw [eU]
    show (∀ f, f < 4 → y_fi x (4 * k + f) = a_nf a k f) ∧ y_sa x k = a_nd a k
    rw [p10, p11]; exact hg.nt k hk
  · rw [eU]
    show (∀ d, d < 12 → inm (y_wt x k) (nI d) = a_sn a k d) ∧ ∀ r, r < 24 → y_hh x (600 * r + k) = a_hb a k r
    rw [p12, p13]; exact hg.sn k hk
  · have e1 : yq (un_x x 4) u v = yq x u v := by rw [eU]; exact yq_cg (y := x) (z := v_mn (v_kd x A) B) rfl rfl rfl rfl rfl u v
    have e2 : y_lk (un_x x 4) = y_lk y ∧ y_to (un_x x 4) = y_to y ∧ y_tb (un_x x 4) = y_tb y := by rw [eU]; exact ⟨p14, p15, p16⟩
    rw [e1, xq, e2.1, e2.2.1, e2.2.2]
    exact hl u v hu hv
  · have e2 : y_cp (un_x x 4) = y_cp y := by rw [eU]; exact p17
    unfold Yc
    rw [e2]; exact hc
