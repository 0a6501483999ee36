/-! a call of the class and the same call of the reference: what is told -/
theorem tl_cpm (y : zMS) : y_cp y ≤ y_cp (tl y) := (tl_fu y _).2.1
theorem kq_tn2 (x : zSt) (u v : Int32) : kq (tn2 x u v) = kq x := by unfold tn2; rw [kq_tn, kq_tn]
theorem Iv_tn2 {x : zSt} {u v : Int32} (h : Iv x) : Iv (tn2 x u v) := Iv_tn (Iv_tn h _) _
theorem p_move (k d : Int32) : zPR T_WR_move T_Mo_move [.inl (.int k), .inl (.int d)] := fun x y A h => by
  obtain ⟨hX, hY, hA, hQ⟩ := id h
  have lm := hA.1.lim
  have ex : x_dk x = a_dk A := hX.1.sc.1
  have ey : y_dk y = a_dk A := hY.1.sc.1
  have ex2 : x_nr x = a_nr A := hX.1.sc.2.1
  have ey2 : y_nr y = a_nr A := hY.1.sc.2.1
  by_cases hn : isn (a_nr A) k = true ∧ isn (a_dk A) d = true
  · obtain ⟨r, hr, rfl⟩ := isn_t (by omega) hn.1
    obtain ⟨e, he, rfl⟩ := isn_t (by omega) hn.2
    have hin : ∀ {r' : Nat}, r' < a_nr A → nI r = nI r' → r' = r := fun {r'} hr' q => nI_ij (n := a_nr A) (by omega) hr' hr q.symm
    have rx : x_rd x r = nI (a_rd A r) := (hX.1.rd r hr).1
    have ry : y_do y r = nI (a_rd A r) := hY.1.rd r hr
    have hrd := hA.1.rd r hr
    by_cases hs : a_rd A r = e
    · refine px_k h (-4) 0 0 (by omega) (by omega) (fun Rt hR => ⟨x, nI r, nI e, rfl, rfl, hQ.1, fun z => absurd (by rw [ex2, ex]; exact hn) z, fun _ _ _ _ _ => hR, fun r' hr' q _ z => ?_⟩) (fun Rt hR => ⟨y, nI r, nI e, rfl, rfl, hY.2.2.2, fun z => absurd (by rw [ey2, ey]; exact hn) z, fun _ _ _ _ _ => hR, fun r' hr' q _ z => ?_⟩)
      · obtain rfl := hin (by omega) q
        exact absurd (by rw [rx, hs]) z
      · obtain rfl := hin (by omega) q
        exact absurd (by rw [ry, hs]) z
    · have hsI : nI (a_rd A r) ≠ nI e := fun q => hs ((nI_eq (by omega) (by omega)).mp q)
      have hJ := AJ_mov (r := r) hA.1 he
      have hX1 := mov_r hX r e
      have hX2 := tn2_r hX1 hJ (u := a_rd A r) (v := e) hrd he (fun p q hw => mov_w hA hw)
      have hI1 : Iv (mv_x x r (nI e)) := Iv_mv hQ.1 (by omega)
      have hC := tn2c_r hI1 hX1 hJ (u := a_rd A r) (v := e) hrd he
      have hY1 := mov_y hY (r := r) he
      have hcp : y_cp y ≤ y_cp (tl (mv_y y r (nI e))) := tl_cpm (mv_y y r (nI e))
      have hrw : rws (mv_x x r (nI e)) = rws x := rws_eq rfl rfl
      refine px_n (x' := tn2 (mv_x x r (nI e)) (nI (a_rd A r)) (nI e)) (y' := tl (mv_y y r (nI e))) (a' := tlA (a_mov A r e)) ⟨hX2, tl_y hY1 hJ, AI_tlA hJ, Iq_of hQ (Iv_tn2 hI1) (kq_tn2 _ _ _)⟩ 0 (2 * tn2_c (mv_x x r (nI e)) (nI (a_rd A r)) (nI e)) (6 * tn2_c (mv_x x r (nI e)) (nI (a_rd A r)) (nI e)) (by omega) (by omega) hcp (fun Rt hR => ⟨x, nI r, nI e, rfl, rfl, hQ.1, fun z => absurd (by rw [ex2, ex]; exact hn) z, fun r' hr' q _ z => ?_, fun r' hr' q _ z => ?_⟩) rfl rfl (fun Rt hR => ⟨y, nI r, nI e, rfl, rfl, hY.2.2.2, fun z => absurd (by rw [ey2, ey]; exact hn) z, fun r' hr' q _ z => ?_, fun r' hr' q _ z => ?_⟩)
      · obtain rfl := hin (by omega) q
        rw [rx] at z; exact absurd z hsI
      · obtain rfl := hin (by omega) q
        rw [rx]; exact ⟨Nat.le_refl _, Nat.le_refl _, hR⟩
      · obtain rfl := hin (by omega) q
        rw [ry] at z; exact absurd z hsI
      · obtain rfl := hin (by omega) q
        exact ⟨tlok_y hY1 hJ, ⟨Nat.le_refl _, Nat.le_refl _⟩, hR⟩
  · refine px_k h (-2) 0 0 (by omega) (by omega) (fun Rt hR => ⟨x, k, d, rfl, rfl, hQ.1, fun _ => hR, fun r hr q hd => ?_, fun r hr q hd => ?_⟩) (fun Rt hR => ⟨y, k, d, rfl, rfl, hY.2.2.2, fun _ => hR, fun r hr q hd => ?_, fun r hr q hd => ?_⟩)
    · exact absurd ⟨by rw [q]; exact isn_n (by omega) (by omega), ex ▸ hd⟩ hn
    · exact absurd ⟨by rw [q]; exact isn_n (by omega) (by omega), ex ▸ hd⟩ hn
    · exact absurd ⟨by rw [q]; exact isn_n (by omega) (by omega), ey ▸ hd⟩ hn
    · exact absurd ⟨by rw [q]; exact isn_n (by omega) (by omega), ey ▸ hd⟩ hn
theorem p_off (k : Int32) : zPR T_WR_off T_Mo_off [.inl (.int k)] := fun x y A h => by
  obtain ⟨hX, hY, hA, hQ⟩ := id h
  have lm := hA.1.lim
  have ex : x_dk x = a_dk A := hX.1.sc.1
  have ex2 : x_nw x = a_nw A := hX.1.sc.2.2.1
  have ey2 : y_nw y = a_nw A := hY.1.sc.2.2.1
  rcases isn_c (n := a_nw A) (by omega) k with h1 | ⟨w, hw, rfl, h1⟩
  · refine px_k h (-2) 0 0 (by omega) (by omega) (fun Rt hR => ⟨x, k, rfl, rfl, hQ.1, fun _ => hR, fun w hw q => ?_, fun w hw q => ?_⟩) (fun Rt hR => ⟨y, k, rfl, rfl, hY.2.2.2, fun _ => hR, fun w hw q => ?_, fun w hw q => ?_⟩)
    all_goals (rw [q, isn_n (by omega) (by omega)] at h1; exact absurd h1 (by decide))
  · have hin : ∀ {w' : Nat}, w' < a_nw A → nI w = nI w' → w' = w := fun {w'} hw' q => nI_ij (n := a_nw A) (by omega) hw' hw q.symm
    have wx := hX.1.ws w hw
    have wy := hY.1.ws w hw
    have hwr := hA.1.wr w hw
    have rx : x_rd x (x_wr x w) = nI (a_rd A (a_wr A w)) := by rw [wx.1]; exact (hX.1.rd _ hwr).1
    have hrd := hA.1.rd _ hwr
    cases ha : a_wa A w with
    | false =>
      refine px_k h (-4) 0 0 (by omega) (by omega) (fun Rt hR => ⟨x, nI w, rfl, rfl, hQ.1, fun z => absurd (ex2 ▸ h1) (bn_f z), fun _ _ _ _ => hR, fun w' hw' q z => ?_⟩) (fun Rt hR => ⟨y, nI w, rfl, rfl, hY.2.2.2, fun z => absurd (ey2 ▸ h1) (bn_f z), fun _ _ _ _ => hR, fun w' hw' q z => ?_⟩)
      · obtain rfl := hin (by omega) q
        rw [wx.2.1, ha] at z; exact absurd z (by decide)
      · obtain rfl := hin (by omega) q
        rw [wy.2.1, ha] at z; exact absurd z (by decide)
    | true =>
      have hJ := AJ_off hA.1 w
      have hX1 := off_r hX w
      have hX2 := tn1_r hX1 hJ (u := a_rd A (a_wr A w)) hrd (fun p q hw => off_w hA hw)
      have hI1 : Iv (of_x x w) := Iv_of hQ.1
      have hC := tnc_d hI1 hX1 hJ (u := a_rd A (a_wr A w)) hrd
      have hY1 := off_y hY w
      have hcp : y_cp y ≤ y_cp (tl (of_y y w)) := tl_cpm (of_y y w)
      have hrw : rws (of_x x w) = rws x := rws_eq rfl rfl
      have edk : x_dk (of_x x w) = x_dk x := rfl
      rw [edk] at hX2 hC
      refine px_n (x' := tn (of_x x w) (nI (a_rd A (a_wr A w))) (x_dk x)) (y' := tl (of_y y w)) (a' := tlA (a_off A w)) ⟨hX2, tl_y hY1 hJ, AI_tlA hJ, Iq_of hQ (Iv_tn hI1 _) (kq_tn _ _ _)⟩ 0 (2 * tn_c (of_x x w) (nI (a_rd A (a_wr A w))) (x_dk x)) (6 * tn_c (of_x x w) (nI (a_rd A (a_wr A w))) (x_dk x)) (by omega) (by omega) hcp (fun Rt hR => ⟨x, nI w, rfl, rfl, hQ.1, fun z => absurd (ex2 ▸ h1) (bn_f z), fun w' hw' q z => ?_, fun w' hw' q z => ?_⟩) rfl rfl (fun Rt hR => ⟨y, nI w, rfl, rfl, hY.2.2.2, fun z => absurd (ey2 ▸ h1) (bn_f z), fun w' hw' q z => ?_, fun w' hw' q z => ?_⟩)
      · obtain rfl := hin (by omega) q
        rw [wx.2.1, ha] at z; exact absurd z (by decide)
      · obtain rfl := hin (by omega) q
        rw [rx]; exact ⟨Nat.le_refl _, Nat.le_refl _, hR⟩
      · obtain rfl := hin (by omega) q
        rw [wy.2.1, ha] at z; exact absurd z (by decide)
      · obtain rfl := hin (by omega) q
        exact ⟨tlok_y hY1 hJ, ⟨Nat.le_refl _, Nat.le_refl _⟩, hR⟩
theorem rE_e {y : zMS} {A : zAb} (hg : Yg y A) (hl : Yl y A) (hJ : AJ A) : rE y (-1) = a_E A := funext fun p => funext fun q => propext (rE_0 hg hl hJ p q)
theorem p_link (u v : Int32) : zPR T_WR_link T_Mo_link [.inl (.int u), .inl (.int v)] := fun x y A h => by
  obtain ⟨hX, hY, hA, hQ⟩ := id h
  have lm := hA.1.lim
  have ex : x_dk x = a_dk A := hX.1.sc.1
  have ey : y_dk y = a_dk A := hY.1.sc.1
  rcases dk_c lm.1 u v with hn | ⟨p, q, hp, hq, rfl, rfl, h1, h2⟩
  · refine px_k h (-2) 0 0 (by omega) (by omega) (fun Rt hR => ⟨x, u, v, rfl, rfl, hQ.1, fun _ => hR, fun a b ha hb e1 e2 => ?_, fun a b ha hb e1 e2 => ?_⟩) (fun Rt hR => ⟨y, u, v, rfl, rfl, hY.2.2.2, fun _ => hR, fun a b ha hb e1 e2 => ?_, fun a b ha hb e1 e2 => ?_⟩)
    all_goals exact absurd ⟨by rw [e1]; exact isn_n (by omega) (by omega), by rw [e2]; exact isn_n (by omega) (by omega)⟩ hn
  · have hin : ∀ {a b : Nat}, a < a_dk A → b < a_dk A → nI p = nI a → nI q = nI b → a = p ∧ b = q := fun {a b} ha hb e1 e2 => ⟨nI_ij (n := a_dk A) (by omega) ha hp e1.symm, nI_ij (n := a_dk A) (by omega) hb hq e2.symm⟩
    have hr := reach_0 hX.1 hA.1 (s := p) (by omega) q (by omega)
    have hE := rE_e hY.1 hY.2.1 hA.1
    have nx : ¬ ¬ (isn (x_dk x) (nI p) = true ∧ isn (x_dk x) (nI q) = true) := fun z => z (by rw [ex]; exact ⟨h1, h2⟩)
    have ny : ¬ ¬ (isn (y_dk y) (nI p) = true ∧ isn (y_dk y) (nI q) = true) := fun z => z (by rw [ey]; exact ⟨h1, h2⟩)
    by_cases hc : Cn (a_E A) p q
    · rw [zd_t hc] at hr
      have hv : Ry (v_re y (re_x y p (-1))) A := Ry_cg hY hY.1 ⟨rfl, rfl, rfl⟩ ⟨rfl, rfl, rfl, rfl, rfl⟩ rfl hY.2.2.2
      refine px_n (x' := x) (y' := v_re y (re_x y p (-1))) (a' := A) ⟨hX, hv, hA, hQ⟩ (-4) 0 0 (by omega) (by omega) (Nat.le_refl _) (fun Rt hR => ⟨x, nI p, nI q, rfl, rfl, hQ.1, fun z => absurd z nx, fun _ _ _ _ _ _ _ => hR, fun a b ha hb e1 e2 z => ?_⟩) rfl rfl (fun Rt hR => ⟨y, nI p, nI q, rfl, rfl, hY.2.2.2, fun z => absurd z ny, fun a b ha hb e1 e2 z => ?_, fun a b ha hb e1 e2 z => ?_⟩)
      · rw [hr] at z; exact absurd z (by decide)
      · obtain ⟨rfl, rfl⟩ := hin (by omega) (by omega) e1 e2; exact hR
      · obtain ⟨rfl, rfl⟩ := hin (by omega) (by omega) e1 e2
        rw [hE] at z; exact absurd hc z
    · rw [zd_f hc] at hr
      have hJ := AJ_lnk hA.1 hp hq hc
      have hX1 := lnk_r hQ.1 hX hA.1 hp hq hc
      have hX2 := tn2_r hX1 hJ (u := p) (v := q) hp hq (fun _ _ hw => lnk_w hA hw)
      have hI1 : Iv (lk_x x p q) := Iv_lkx hQ.1
      have hC := tn2c_r hI1 hX1 hJ (u := p) (v := q) hp hq
      have hY1 := lnk_y hY hA.1 hp hq hc (re_x y p (-1))
      have hf := lkx_f x p q
      have hcp : y_cp y ≤ y_cp (tl (lk_y (v_re y (re_x y p (-1))) p q true)) := tl_cpm (lk_y (v_re y (re_x y p (-1))) p q true)
      refine px_n (x' := tn2 (lk_x x p q) (nI p) (nI q)) (y' := tl (lk_y (v_re y (re_x y p (-1))) p q true)) (a' := tlA (a_lnk A p q)) ⟨hX2, tl_y hY1 hJ, AI_tlA hJ, Iq_of hQ (Iv_tn2 hI1) ((kq_tn2 _ _ _).trans hf.1)⟩ 0 (14 + 2 * tn2_c (lk_x x p q) (nI p) (nI q)) (520 + 6 * tn2_c (lk_x x p q) (nI p) (nI q)) (by omega) (by omega) hcp (fun Rt hR => ⟨x, nI p, nI q, rfl, rfl, hQ.1, fun z => absurd z nx, fun a b ha hb e1 e2 z => ?_, fun a b ha hb e1 e2 z => ?_⟩) rfl rfl (fun Rt hR => ⟨y, nI p, nI q, rfl, rfl, hY.2.2.2, fun z => absurd z ny, fun a b ha hb e1 e2 z => ?_, fun a b ha hb e1 e2 z => ?_⟩)
      · rw [hr] at z; exact absurd z (by decide)
      · obtain ⟨rfl, rfl⟩ := hin (by omega) (by omega) e1 e2
        exact ⟨Nat.le_refl _, Nat.le_refl _, hR⟩
      · obtain ⟨rfl, rfl⟩ := hin (by omega) (by omega) e1 e2
        rw [hE] at z; exact absurd z hc
      · obtain ⟨rfl, rfl⟩ := hin (by omega) (by omega) e1 e2
        exact ⟨tlok_y hY1 hJ, ⟨Nat.le_refl _, Nat.le_refl _⟩, hR⟩
theorem Iv_ctx {x : zSt} {p q : Nat} (h : Iv x) (hn : x_ns x < 599) : Iv (ct_x x p q) := by
  have h1 : Iv (cl x p q) := Iv_clx h (by omega)
  have h2 := (cl_f x p q).2.2
  exact Iv_lk (Iv_clx h1 (by omega))
theorem cty_cp (y : zMS) (p q : Nat) : y_cp (ct_y y p q) = y_cp y := by unfold ct_y; rw [ct_cp]; rfl
theorem p_cut (u v : Int32) : zPR T_WR_cut T_Mo_cut [.inl (.int u), .inl (.int v)] := fun x y A h => by
  obtain ⟨hX, hY, hA, hQ⟩ := id h
  have lm := hA.1.lim
  have ex : x_dk x = a_dk A := hX.1.sc.1
  have ey : y_dk y = a_dk A := hY.1.sc.1
  have hns : x_ns x < 599 := by have := ns_le hX.2.2.1; omega
  rcases dk_c lm.1 u v with hn | ⟨p, q, hp, hq, rfl, rfl, h1, h2⟩
  · refine px_k h (-2) 0 0 (by omega) (by omega) (fun Rt hR => ⟨x, u, v, rfl, rfl, hQ.1, hns, fun _ => hR, fun e1 e2 => absurd ⟨ex ▸ e1, ex ▸ e2⟩ hn, fun a b c ha hb e1 e2 => ?_⟩) (fun Rt hR => ⟨y, u, v, rfl, rfl, hY.2.2.2, fun _ => hR, fun a b ha hb e1 e2 => ?_, fun a b ha hb e1 e2 => ?_⟩)
    all_goals exact absurd ⟨by rw [e1]; exact isn_n (by omega) (by omega), by rw [e2]; exact isn_n (by omega) (by omega)⟩ hn
  · have hin : ∀ {a b : Nat}, a < a_dk A → b < a_dk A → nI p = nI a → nI q = nI b → a = p ∧ b = q := fun {a b} ha hb e1 e2 => ⟨nI_ij (n := a_dk A) (by omega) ha hp e1.symm, nI_ij (n := a_dk A) (by omega) hb hq e2.symm⟩
    have hE := (hY.2.1 p q (by omega) (by omega)).1
    have nx : ¬ ¬ (isn (x_dk x) (nI p) = true ∧ isn (x_dk x) (nI q) = true) := fun z => z (by rw [ex]; exact ⟨h1, h2⟩)
    have ny : ¬ ¬ (isn (y_dk y) (nI p) = true ∧ isn (y_dk y) (nI q) = true) := fun z => z (by rw [ey]; exact ⟨h1, h2⟩)
    rcases lnF_r hX.1 hX.2.1 hA.1 hp hq with ⟨h0, hf⟩ | ⟨hl, l, hf, _, hr⟩
    · refine px_k h (-5) 0 0 (by omega) (by omega) (fun Rt hR => ⟨x, nI p, nI q, rfl, rfl, hQ.1, hns, fun z => absurd z nx, fun _ _ _ => hR, fun a b c ha hb e1 e2 z => ?_⟩) (fun Rt hR => ⟨y, nI p, nI q, rfl, rfl, hY.2.2.2, fun z => absurd z ny, fun _ _ _ _ _ _ _ => hR, fun a b ha hb e1 e2 z => ?_⟩)
      · rw [hf] at z; cases z
      · obtain ⟨rfl, rfl⟩ := hin (by omega) (by omega) e1 e2
        rw [hE, h0] at z; exact absurd z (by decide)
    · have hJ := AJ_ctt hA.1 p q
      have hX1 := cut_r hX hA.1 hp hq hl
      have hX2 := tn2_r hX1 hJ (u := p) (v := q) hp hq (fun _ _ hw => ctt_w hA hw)
      have hI1 : Iv (ct_x x p q) := Iv_ctx hQ.1 hns
      have hC := tn2c_r hI1 hX1 hJ (u := p) (v := q) hp hq
      have hY1 := cut_y hY (u := p) (v := q) (by omega) (by omega)
      have hg := ctx_f x p q
      have hcp : y_cp y ≤ y_cp (tl (ct_y y p q)) := by rw [← cty_cp y p q]; exact tl_cpm _
      refine px_n (x' := tn2 (ct_x x p q) (nI p) (nI q)) (y' := tl (ct_y y p q)) (a' := tlA (a_ctt A p q)) ⟨hX2, tl_y hY1 hJ, AI_tlA hJ, Iq_of hQ (Iv_tn2 hI1) ((kq_tn2 _ _ _).trans hg.1)⟩ 0 (2 + 2 * tn2_c (ct_x x p q) (nI p) (nI q)) (2000 + 6 * tn2_c (ct_x x p q) (nI p) (nI q)) (by omega) (by omega) hcp (fun Rt hR => ⟨x, nI p, nI q, rfl, rfl, hQ.1, hns, fun z => absurd z nx, fun _ _ z => ?_, fun a b c ha hb e1 e2 z => ?_⟩) rfl rfl (fun Rt hR => ⟨y, nI p, nI q, rfl, rfl, hY.2.2.2, fun z => absurd z ny, fun a b ha hb e1 e2 z => ?_, fun a b ha hb e1 e2 z => ?_⟩)
      · rw [hf] at z; cases z
      · obtain ⟨rfl, rfl⟩ := hin (by omega) (by omega) e1 e2
        exact ⟨Nat.le_refl _, Nat.le_refl _, hR⟩
      · obtain ⟨rfl, rfl⟩ := hin (by omega) (by omega) e1 e2
        rw [hE, hl] at z; exact absurd z (by decide)
      · obtain ⟨rfl, rfl⟩ := hin (by omega) (by omega) e1 e2
        exact ⟨tlok_y hY1 hJ, ⟨Nat.le_refl _, Nat.le_refl _⟩, hR⟩
