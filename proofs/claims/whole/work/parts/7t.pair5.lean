/-! a call of the class and the same call of the reference: wish, send, deliver, all -/
/-- where the reference's room for messages grows it is needed -/
def tl_g (y z : zMS) : Prop := y_ms y ≤ y_ms z ∧ (y_cp z = y_cp y ∨ y_cp z < 2 * y_ms z)
theorem tl_gr (y : zMS) : tl_g y y := ⟨Nat.le_refl _, Or.inl rfl⟩
theorem tl_gt {x y z : zMS} (h1 : tl_g x y) (h2 : tl_g y z) : tl_g x z := by
  refine ⟨Nat.le_trans h1.1 h2.1, ?_⟩
  rcases h2.2 with e | l
  · rcases h1.2 with e' | l'
    · exact Or.inl (e.trans e')
    · have := h2.1; exact Or.inr (by omega)
  · exact Or.inr l
theorem tl_gp (z : zMS) (u v : Nat) : tl_g z (tl_p z u v) := by
  unfold tl_p
  split
  · exact tl_gr z
  · have h1 := (pu_old (y := z) (u := u) (v := v) (s := -2)).1
    have h2 := pu_cp z u v (-2)
    refine ⟨by omega, ?_⟩
    rw [h1, h2]
    split
    · exact Or.inr (by omega)
    · exact Or.inl rfl
theorem tl_g1 (y : zMS) (u v : Nat) : tl_g y (tl_1 y u v) := by
  unfold tl_1
  split
  · split
    · exact tl_gt (show tl_g y (mn_x y u v) from ⟨Nat.le_refl _, Or.inl rfl⟩) (tl_gp (mn_x y u v) u v)
    · exact ⟨Nat.le_refl _, Or.inl rfl⟩
  · exact tl_gr y
theorem tl_gv (y : zMS) (u : Nat) : ∀ n, tl_g y (tl_v y u n)
  | 0 => tl_gr y
  | n + 1 => tl_gt (tl_gv y u n) (tl_g1 _ u n)
theorem tl_gu (y : zMS) : ∀ n, tl_g y (tl_u y n)
  | 0 => tl_gr y
  | n + 1 => tl_gt (tl_gu y n) (tl_gv _ n _)
theorem p2_e {e f : Nat} (h : 256 * 2 ^ e < 2 * (256 * 2 ^ f)) : e ≤ f := by
  have h1 : 2 ^ e < 2 ^ (f + 1) := by rw [Nat.pow_succ]; omega
  have := (Nat.pow_lt_pow_iff_right (by decide : 1 < 2)).mp h1
  omega
theorem cp_u {y z : zMS} (hy : Yc y) (hz : Yc z) {c m : Nat} (h0 : y_ms y = m) (h1 : y_ms z = m) (c1 : c ≤ y_cp y) (c2 : c ≤ y_cp z) (m1 : m ≤ y_cp y) (m2 : m ≤ y_cp z) (g1 : y_cp y = c ∨ y_cp y < 2 * m) (g2 : y_cp z = c ∨ y_cp z < 2 * m) (hc : 0 < c) : y_cp y = y_cp z := by
  obtain ⟨e, _, he⟩ := hy
  obtain ⟨f, _, hf⟩ := hz
  have k1 : e ≤ f := p2_e (by rw [← he, ← hf]; omega)
  have k2 : f ≤ e := p2_e (by rw [← he, ← hf]; omega)
  rw [he, hf, Nat.le_antisymm k1 k2]
theorem uny_cp (z : zMS) (n : Nat) : y_cp (un_x z n) = y_cp z := by obtain ⟨A, B, e⟩ := un_k z n; rw [e]; rfl
theorem uny_ms (z : zMS) (n : Nat) : y_ms (un_x z n) = y_ms z := by obtain ⟨A, B, e⟩ := un_k z n; rw [e]; rfl
theorem wy_cp (y : zMS) (r : Nat) (lo hi : Nat → Int64) : y_cp (wy y r lo hi) = y_cp y := by unfold wy; rw [uny_cp]; rfl
theorem wsx_dk (x : zSt) (r : Nat) : x_dk (wsh_x x r) = x_dk x := by
  unfold wsh_x
  obtain ⟨A, B, C, e⟩ := ls_k (wsh_1 x r) 1
  show x_dk (ls (wsh_1 x r) 1) = x_dk x
  rw [e]
  show x_dk (wsh_1 x r) = x_dk x
  unfold wsh_1
  obtain ⟨f, e⟩ := wgk' (u_rg (nw_ft (nw_ws x r)) (x_ng x)) (x_nw x) (x_nw x) (x_nw x)
  rw [e]
  rfl
theorem p_wish (k : Int32) : zPR T_WR_wish T_Mo_wish [.inl (.int k)] := fun x y A h => by
  obtain ⟨hX, hY, hA, hQ⟩ := id h
  have lm := hA.1.lim
  have ex : x_dk x = a_dk A := hX.1.sc.1
  have exr : x_nr x = a_nr A := hX.1.sc.2.1
  have eyr : y_nr y = a_nr A := hY.1.sc.2.1
  have ex2 : x_nw x = a_nw A := hX.1.sc.2.2.1
  have ey2 : y_nw y = a_nw A := hY.1.sc.2.2.1
  rcases isn_c (n := a_nr A) (by omega) k with h1 | ⟨r, hr, rfl, h1⟩
  · have h1' := bn_f h1
    refine px_k h (-2) 0 0 (by omega) (by omega) (fun Rt hR => ⟨x, k, rfl, rfl, hQ, fun _ => hR, fun z => absurd (exr ▸ z) h1', fun w hw q => ?_⟩) (fun Rt hR => ⟨y, k, rfl, rfl, hY.2.2.2, fun _ => hR, fun z => absurd (eyr ▸ z) h1', fun w hw q => ?_⟩)
    all_goals (rw [q, isn_n (by omega) (by omega)] at h1; exact absurd h1 (by decide))
  · have hin : ∀ {w' : Nat}, w' < a_nr A → nI r = nI w' → w' = r := fun {w'} hw' q => nI_ij (n := a_nr A) (by omega) hw' hr q.symm
    have rx : x_rd x r = nI (a_rd A r) := (hX.1.rd r hr).1
    have hrd := hA.1.rd r hr
    by_cases hw : a_nw A < 300
    · have hJ := AJ_wsh (g := fun _ _ => 0) hA.1 hr hw
      have hX1 := wsh_r hQ hX (r := r)
      have hX2 := tn1_r hX1 hJ (u := a_rd A r) hrd (fun p q hw => wsh_w hA hw)
      have hQ1 : Iq (wsh_x x r) := Iq_wsh hQ (by omega) (by omega)
      have hC := tnc_d hQ1.1 hX1 hJ (u := a_rd A r) hrd
      have hYl := fun lo hi => tl_y (wsh_y hY hA.1 hr hw lo hi (fun _ _ => 0)) hJ
      have hcp : ∀ lo hi, y_cp y ≤ y_cp (tl (wy y r lo hi)) := fun lo hi => by rw [← wy_cp y r lo hi]; exact tl_cpm _
      have hg : ∀ lo hi, y_cp (tl (wy y r lo hi)) = y_cp y ∨ y_cp (tl (wy y r lo hi)) < 2 * y_ms (tl (wy y r lo hi)) := fun lo hi => by
        have := (tl_gu (wy y r lo hi) (y_dk (wy y r lo hi))).2
        rw [wy_cp] at this
        exact this
      have hms : ∀ lo hi, y_ms (tl (wy y r lo hi)) = y_ms (tl (wy y r (fun _ => 0) (fun _ => 0))) := fun lo hi => (ms_e (hYl lo hi)).trans (ms_e (hYl _ _)).symm
      have hceq : ∀ lo hi, y_cp (tl (wy y r lo hi)) = y_cp (tl (wy y r (fun _ => 0) (fun _ => 0))) := fun lo hi => by
        have i1 := (hYl lo hi).2.2.2.cp
        have i2 := (hYl (fun _ => 0) (fun _ => 0)).2.2.2.cp
        have i0 := hY.2.2.2.cp
        have g1 := hg lo hi
        have e1 := hms lo hi
        rw [e1] at g1 i1
        exact cp_u (hYl lo hi).2.2.1 (hYl _ _).2.2.1 e1 rfl (hcp lo hi) (hcp _ _) i1.1 i2.1 g1 (hg _ _) (by omega)
      have hrw : rws (wsh_x x r) = rws x := wsh_f x r
      have edk := wsx_dk x r
      rw [edk] at hX2 hC
      have hB0 := Bth_b (x := tn (wsh_x x r) (nI (a_rd A r)) (x_dk x)) (y := tl (wy y r (fun _ => 0) (fun _ => 0))) ⟨hX2, hYl _ _, AI_tlA hJ, Iq_of hQ1 (Iv_tn hQ1.1 _) (kq_tn _ _ _)⟩
      refine ⟨nI (a_nw A), tn (wsh_x x r) (nI (a_rd A r)) (x_dk x), 13 + 2 * tn_c (wsh_x x r) (nI (a_rd A r)) (x_dk x), 1043 + 6 * tn_c (wsh_x x r) (nI (a_rd A r)) (x_dk x), y_cp (tl (wy y r (fun _ => 0) (fun _ => 0))) - y_cp y, 16 * (y_cp (tl (wy y r (fun _ => 0) (fun _ => 0))) - y_cp y), ⟨by omega, by omega, hB0.1, by omega, by omega⟩, fun Rt hR => ⟨x, nI r, rfl, rfl, hQ, fun z => absurd (exr ▸ h1) (bn_f z), fun _ z => absurd z (by omega), fun r' hr' q _ => ?_⟩, fun Rt hR => ⟨y, nI r, rfl, rfl, hY.2.2.2, fun z => absurd (eyr ▸ h1) (bn_f z), fun _ z => absurd z (by omega), fun r' hr' q _ lo hi => ?_⟩⟩
      · obtain rfl := hin (by omega) q
        rw [rx, ex2]; exact ⟨Nat.le_refl _, Nat.le_refl _, hR⟩
      · obtain rfl := hin (by omega) q
        have hc1 := hcp lo hi
        have hc2 := hceq lo hi
        refine ⟨tlok_y (wsh_y hY hA.1 hr hw lo hi (fun _ _ => 0)) hJ, ⟨by rw [hc2]; exact Nat.le_refl _, by rw [hc2]; exact Nat.le_refl _⟩, ?_⟩
        rw [ey2]
        exact hR _ _ ⟨hX2, hYl lo hi, AI_tlA hJ, Iq_of hQ1 (Iv_tn hQ1.1 _) (kq_tn _ _ _)⟩ (by omega) (by omega)
    · refine px_k h (-8) 0 0 (by omega) (by omega) (fun Rt hR => ⟨x, nI r, rfl, rfl, hQ, fun z => absurd (exr ▸ h1) (bn_f z), fun _ _ => hR, fun _ _ _ z => absurd z (by omega)⟩) (fun Rt hR => ⟨y, nI r, rfl, rfl, hY.2.2.2, fun z => absurd (eyr ▸ h1) (bn_f z), fun _ _ => hR, fun _ _ _ z => absurd z (by omega)⟩)
theorem p_send (d a b c e : Int32) : zPR (zL1 T_WR_send co_WR_send) T_Mo_send [.inl (.int d), .inl (.int a), .inl (.int b), .inl (.int c), .inl (.int e)] := fun x y A h => by
  obtain ⟨hX, hY, hA, hQ⟩ := id h
  have lm := hA.1.lim
  have ex : x_dk x = a_dk A := hX.1.sc.1
  have ey : y_dk y = a_dk A := hY.1.sc.1
  have exn : x_nn x = a_nn A := hX.1.sc.2.2.2.1
  have eyn : y_nn y = a_nn A := hY.1.sc.2.2.2.1
  have ux := uw_x hX hA.1
  have uy := uw_y hY hA.1
  rcases isn_c (n := a_dk A) (by omega) d with h1 | ⟨k, hk, rfl, h1⟩
  · have h1' := bn_f h1
    refine px_k h (-2) 3 1010 (by omega) (by omega) (fun Rt hR => ⟨rfl, rfl, x, d, a, b, c, e, rfl, rfl, hQ, fun _ => hR, fun z => absurd (ex ▸ z) h1', fun z => absurd (ex ▸ z) h1'⟩) (fun Rt hR => ⟨y, d, a, b, c, e, rfl, rfl, hY.2.2.2, fun _ => hR, fun z => absurd (ey ▸ z) h1', fun w hw q => ?_⟩)
    rw [q, isn_n (by omega) (by omega)] at h1; exact absurd h1 (by decide)
  · have hin : ∀ {w' : Nat}, w' < a_dk A → nI k = nI w' → w' = k := fun {w'} hw' q => nI_ij (n := a_dk A) (by omega) hw' hk q.symm
    by_cases hc : a_nn A < 600 ∧ ct (a_uw A) (a_nn A) < 60
    · have hS := snd_y hY hA hk hc.1 hc.2 a b c e
      have hI1 : Iq (ntc_x x (nI k) (zf4 a b c e)) := Iq_ntc hQ (by omega)
      have hI2 : Iq (snd_x x (nI k) (zf4 a b c e)) := Iq_of hI1 (Iv_pon (Iv_lh hI1.1 _) _) ((kq_po _ _ _ _ _).trans (kq_lh _ _ _ _))
      have hrw : rws (snd_x x (nI k) (zf4 a b c e)) = rws x := snd_f x _ _
      have hcp : y_cp y ≤ y_cp (cm (sn_y y (nI k) a b c e) (a_nn A) k (-1)) := cm_cp (sn_y y (nI k) a b c e) _ _ _
      refine px_n (x' := snd_x x (nI k) (zf4 a b c e)) (y' := cm (sn_y y (nI k) a b c e) (a_nn A) k (-1)) (a' := a_snd A k (zf4 a b c e)) ⟨snd_r hQ hX hA hk hc.1 hc.2, hS.1, AI_snd hA hc.1 hc.2, hI2⟩ (nI (a_nn A)) 3 1010 (by omega) (by omega) hcp (fun Rt hR => ⟨rfl, rfl, x, nI k, a, b, c, e, rfl, rfl, hQ, fun z => absurd (ex ▸ h1) (bn_f z), fun _ z => absurd z (by omega), fun _ _ _ => by rw [exn]; exact hR⟩) rfl rfl (fun Rt hR => ⟨y, nI k, a, b, c, e, rfl, rfl, hY.2.2.2, fun z => absurd (ey ▸ h1) (bn_f z), fun _ z => absurd z (by omega), fun j hj q _ _ => ?_⟩)
      obtain rfl := hin (by omega) q
      rw [eyn]
      exact ⟨hS.2.2, hS.2.1, Nat.le_refl _, Nat.le_refl _, hR⟩
    · refine px_k h (-8) 3 1010 (by omega) (by omega) (fun Rt hR => ⟨rfl, rfl, x, nI k, a, b, c, e, rfl, rfl, hQ, fun z => absurd (ex ▸ h1) (bn_f z), fun _ _ => hR, fun _ z z' => absurd ⟨by omega, by omega⟩ hc⟩) (fun Rt hR => ⟨y, nI k, a, b, c, e, rfl, rfl, hY.2.2.2, fun z => absurd (ey ▸ h1) (bn_f z), fun _ _ => hR, fun _ _ _ z z' => absurd ⟨by omega, by omega⟩ hc⟩)
theorem dlY_c0 (y : zMS) (u v : Nat) : ∀ n, y_cp y ≤ y_cp (dlY y u v n)
  | 0 => Nat.le_refl _
  | n + 1 => Nat.le_trans (dlY_c0 y u v n) (dlY_cp y u v n)
theorem p_deliver (u v n : Int32) : zPR T_WR_deliver T_Mo_deliver [.inl (.int u), .inl (.int v), .inl (.int n)] := fun x y A h => by
  obtain ⟨hX, hY, hA, hQ⟩ := id h
  have lm := hA.1.lim
  have ex : x_dk x = a_dk A := hX.1.sc.1
  have ey : y_dk y = a_dk A := hY.1.sc.1
  by_cases hn0 : n < 0
  · exact px_k h (-2) 0 0 (by omega) (by omega) (fun Rt hR => ⟨x, u, v, n, rfl, rfl, hQ.1, fun _ => hR, fun _ _ z => absurd hn0 z, fun _ _ _ z => absurd hn0 z⟩) (fun Rt hR => ⟨y, u, v, n, rfl, rfl, hY.2.2.2, fun _ => hR, fun _ _ _ _ _ _ z => absurd hn0 z, fun _ _ _ _ _ _ z => absurd hn0 z⟩)
  · rcases dk_c lm.1 u v with hn | ⟨p, q, hp, hq, rfl, rfl, h1, h2⟩
    · refine px_k h (-2) 0 0 (by omega) (by omega) (fun Rt hR => ⟨x, u, v, n, rfl, rfl, hQ.1, fun _ => hR, fun e1 e2 => absurd ⟨ex ▸ e1, ex ▸ e2⟩ hn, fun _ e1 e2 => absurd ⟨ex ▸ e1, ex ▸ e2⟩ hn⟩) (fun Rt hR => ⟨y, u, v, n, rfl, rfl, hY.2.2.2, fun _ => hR, fun a b ha hb e1 e2 => ?_, fun a b ha hb e1 e2 => ?_⟩)
      all_goals exact absurd ⟨by rw [e1]; exact isn_n (by omega) (by omega), by rw [e2]; exact isn_n (by omega) (by omega)⟩ hn
    · have hin : ∀ {a b : Nat}, a < a_dk A → b < a_dk A → nI p = nI a → nI q = nI b → a = p ∧ b = q := fun {a b} ha hb e1 e2 => ⟨nI_ij (n := a_dk A) (by omega) ha hp e1.symm, nI_ij (n := a_dk A) (by omega) hb hq e2.symm⟩
      have hE := (hY.2.1 p q (by omega) (by omega)).1
      have nx : ¬ ¬ (isn (x_dk x) (nI p) = true ∧ isn (x_dk x) (nI q) = true ∧ ¬ n < 0) := fun z => z (by rw [ex]; exact ⟨h1, h2, hn0⟩)
      have ny : ¬ ¬ (isn (y_dk y) (nI p) = true ∧ isn (y_dk y) (nI q) = true ∧ ¬ n < 0) := fun z => z (by rw [ey]; exact ⟨h1, h2, hn0⟩)
      rcases lnF_r hX.1 hX.2.1 hA.1 hp hq with ⟨h0, hf⟩ | ⟨hl, l, hf, _, hr⟩
      · refine px_k h (-5) 0 0 (by omega) (by omega) (fun Rt hR => ⟨x, nI p, nI q, n, rfl, rfl, hQ.1, fun z => absurd z nx, fun _ _ _ _ => hR, fun c _ _ _ z => ?_⟩) (fun Rt hR => ⟨y, nI p, nI q, n, rfl, rfl, hY.2.2.2, fun z => absurd z ny, fun _ _ _ _ _ _ _ _ => hR, fun a b ha hb e1 e2 _ z => ?_⟩)
        · rw [hf] at z; cases z
        · obtain ⟨rfl, rfl⟩ := hin (by omega) (by omega) e1 e2
          rw [hE, h0] at z; exact absurd z (by decide)
      · obtain ⟨n0, hn31, rfl⟩ := nI_of hn0
        obtain ⟨N, hN⟩ : ∃ N, N = min n0 (a_q A p q).length := ⟨_, rfl⟩
        have hNl : N ≤ (a_q A p q).length := by omega
        have hX1 := dlx_r hQ.1 hX hA hp hq hl N hNl
        have hY1 := dly_r hY hA hp hq hl N hNl
        have hC := dlc_r hQ.1 hX hA hp hq hl N hNl
        have hcp := dlY_c0 y p q N
        refine px_n (x' := dl x (nI p) (nI q) N) (y' := dlY y p q N) (a' := aS A p q N) ⟨hX1.2, hY1, (aS_p hA hl N).1, Iq_of hQ hX1.1 (kq_dl _ _ _ _)⟩ (nI N) (2 * dl_c x (nI p) (nI q) N) (6 * dl_c x (nI p) (nI q) N) (by omega) (by omega) hcp (fun Rt hR => ⟨x, nI p, nI q, nI n0, rfl, rfl, hQ.1, fun z => absurd z nx, fun _ _ _ z => ?_, fun c _ _ _ z => ?_⟩) rfl rfl (fun Rt hR => ⟨y, nI p, nI q, nI n0, rfl, rfl, hY.2.2.2, fun z => absurd z ny, fun a b ha hb e1 e2 _ z => ?_, fun a b ha hb e1 e2 _ z => ?_⟩)
        · rw [hf] at z; cases z
        · rw [hf] at z; cases z
          exact ⟨N, dX_ok hQ.1 hX hA hp hq hl hf hn31 hN, Nat.le_refl _, Nat.le_refl _, hR⟩
        · obtain ⟨rfl, rfl⟩ := hin (by omega) (by omega) e1 e2
          rw [hE, hl] at z; exact absurd z (by decide)
        · obtain ⟨rfl, rfl⟩ := hin (by omega) (by omega) e1 e2
          exact ⟨N, dY_ok hY hA hp hq hl hn31 hN, Nat.le_refl _, Nat.le_refl _, hR⟩
theorem yA_c0 (y : zMS) (a : zAb) : ∀ n, y_cp y ≤ y_cp (yA y a n)
  | 0 => Nat.le_refl _
  | n + 1 => Nat.le_trans (yA_c0 y a n) (dv_cp _ _)
theorem p_all : zPR T_WR_all T_Mo_all [] := fun x y A h => by
  obtain ⟨hX, hY, hA, hQ⟩ := id h
  obtain ⟨N, hN6, hN, hE⟩ := all_N 209088 A hA (Ph_le hA.1)
  have hX1 := xA_r hQ.1 hX hA hN N (Nat.le_refl _)
  have hY1 := yAr hY hA hN N (Nat.le_refl _)
  have hC := alc_r hQ.1 hX hA hN N (Nat.le_refl _)
  exact px_n (x' := xA x A N) (y' := yA y A N) (a' := aA A N) ⟨hX1.2, hY1, aA_AI hA N, Iq_of hQ hX1.1 (kq_xA _ _ _)⟩ (nI N) (2 * al_c (xA x A) (a_pl A) N) (6 * al_c (xA x A) (a_pl A) N) (by omega) (by omega) (yA_c0 y A N) (fun Rt hR => ⟨x, xA x A, a_pl A, N, rfl, rfl, hQ.1, allX_ok hQ.1 hX hA (by omega) hN hE, Nat.le_refl _, Nat.le_refl _, hR⟩) rfl rfl (fun Rt hR => ⟨y, yA y A, fun i => y_pl (yA y A i) (a_pl A i), N, rfl, rfl, hY.2.2.2, allY_ok hY hA (by omega) hN hE, Nat.le_refl _, Nat.le_refl _, hR⟩)
