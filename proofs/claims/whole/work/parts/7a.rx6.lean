/-! the other calls of the class -/
theorem tn2_r {x : zSt} {a : zAb} (hR : Rx x a) (hJ : AJ a) {u v : Nat} (hu : u < a_dk a) (hv : v < a_dk a) (hw : ∀ p q, a_w a p q → p = u ∨ p = v) : Rx (tn2 x (nI u) (nI v)) (tlA a) := by
  have h1 := tn_d hR hJ hu
  have h2 := tn_d h1 (AJ_tlP hJ _) hv
  have e : x_dk (tn x (nI u) (x_dk x)) = x_dk x := by rw [h1.1.sc.1, hR.1.sc.1]; rfl
  rw [e, tlP_2] at h2
  have e2 : tlP a (fun p q => p = u ∨ p = v) = tlA a := tl_at (fun p q h => hw p q h)
  rw [e2] at h2
  exact h2
theorem tn1_r {x : zSt} {a : zAb} (hR : Rx x a) (hJ : AJ a) {u : Nat} (hu : u < a_dk a) (hw : ∀ p q, a_w a p q → p = u) : Rx (tn x (nI u) (x_dk x)) (tlA a) := by
  have h1 := tn_d hR hJ hu
  rw [tl_at (fun p q h => hw p q h)] at h1
  exact h1
theorem dsk_r {x : zSt} {a : zAb} (hR : Rx x a) : Rx (u_dk x (x_dk x + 1)) (a_dsk a) := by
  obtain ⟨hg, hl, hs, hm⟩ := hR
  refine ⟨⟨⟨?_, hg.1.2⟩, hg.2⟩, hl, hs, hm⟩
  show x_dk x + 1 = a_dk a + 1
  rw [hg.sc.1]
theorem ls_k (x : zSt) (i : Nat) : ∃ A B C, ls x i = u_gb (u_cp (u_lc x A) B) C := ⟨_, _, _, rfl⟩
theorem rdr_r {x : zSt} {a : zAb} (hI : Iq x) (hR : Rx x a) {d : Nat} : Rx (rdr_x x (nI d)) (a_rdr a d) := by
  obtain ⟨hg, hl, hs, hm⟩ := hR
  have eo : x_or x = a_nr a := hI.2.1.trans hg.sc.2.1
  unfold rdr_x
  obtain ⟨A, B, C, e⟩ := ls_k (nw_rd x (nI d)) 0
  rw [e]
  refine ⟨⟨⟨hg.sc.1, ?_, hg.sc.2.2⟩, fun r hr => ?_, hg.ws, hg.ts, hg.nt, hg.nb, hg.lk⟩, hl, hs, hm⟩
  · show x_nr x + 1 = a_nr a + 1
    rw [hg.sc.2.1]
  · have hr2 : r < a_nr a + 1 := hr
    show va_up (x_rd x) (x_or x) (nI d) r = nI (va_up (a_rd a) (a_nr a) d r) ∧ va_up (x_rz x) (x_or x) 0 r = va_up (a_rz a) (a_nr a) 0 r ∧ ∀ i, i < va_up (a_rz a) (a_nr a) 0 r → va_up (x_rh x) (x_or x) (fun _ => 0) r i = a_rh a r i
    rw [eo]
    by_cases e : r = a_nr a
    · subst e
      rw [va_ups', va_ups', va_ups', va_ups']
      exact ⟨rfl, rfl, fun i hi => absurd hi (Nat.not_lt_zero i)⟩
    · rw [va_upo' _ _ e, va_upo' _ _ e, va_upo' _ _ e, va_upo' _ _ e, va_upo' _ _ e]
      exact hg.rd r (by omega)
theorem mov_r {x : zSt} {a : zAb} (hR : Rx x a) (r d : Nat) : Rx (mv_x x r (nI d)) (a_mov a r d) := by
  obtain ⟨hg, hl, hs, hm⟩ := hR
  refine ⟨⟨hg.1, fun r' hr' => ⟨?_, (hg.rd r' hr').2⟩, hg.ws, hg.ts, hg.nt, hg.nb, hg.lk⟩, hl, hs, hm⟩
  show va_up (x_rd x) r (nI d) r' = nI (va_up (a_rd a) r d r')
  by_cases e : r' = r
  · rw [e, va_ups', va_ups']
  · rw [va_upo' _ _ e, va_upo' _ _ e]; exact (hg.rd r' hr').1
theorem off_r {x : zSt} {a : zAb} (hR : Rx x a) (w : Nat) : Rx (of_x x w) (a_off a w) := by
  obtain ⟨hg, hl, hs, hm⟩ := hR
  refine ⟨⟨hg.1, hg.rd, fun w' hw' => ⟨(hg.ws w' hw').1, ?_, (hg.ws w' hw').2.2⟩, hg.ts, hg.nt, hg.nb, hg.lk⟩, hl, hs, hm⟩
  show va_up (x_wa x) w false w' = va_up (a_wa a) w false w'
  by_cases e : w' = w
  · rw [e, va_ups', va_ups']
  · rw [va_upo' _ _ e, va_upo' _ _ e]; exact (hg.ws w' hw').2.1
/-- a test being read is changed -/
theorem tst_r {x x' : zSt} {a : zAb} (hI : Iq x) (hR : Rx x a) {f : Nat} {kd : Int32} {n : Nat} {g : Nat → Int32} (hx : x' = u_fg (ts_1 x (x_rg x) f kd n) (va_u2 (x_fg x) (x_rg x) f g)) : Rx x' (a_tst a f kd n g) := by
  obtain ⟨hg, hl, hs, hm⟩ := hR
  subst hx
  have eo : x_rg x = a_nw a := hI.2.2.2.2.1.trans hg.sc.2.2.1
  refine ⟨⟨hg.1, hg.rd, fun w hw => ⟨(hg.ws w hw).1, (hg.ws w hw).2.1, fun j hj => ?_⟩, fun w f' hw hf' => ?_, hg.nt, hg.nb, hg.lk⟩, hl, hs, hm⟩
  · refine ((hg.ws w hw).2.2 j hj).trans ?_
    exact congrArg zd (propext (out_cg (b := a_tst a f kd n g) (show w < a_nw a from hw) Iff.rfl (fun i hi f' => tst_o a f kd n g hi f')).symm)
  · show va_u2 (x_fk x) (x_rg x) f kd w f' = va_u2 (a_fk a) (a_nw a) f kd w f' ∧ va_u2 (x_fz x) (x_rg x) f n w f' = va_u2 (a_fz a) (a_nw a) f n w f' ∧ va_u2 (x_fg x) (x_rg x) f g w f' = va_u2 (a_fg a) (a_nw a) f g w f'
    rw [eo]
    by_cases e : w = a_nw a ∧ f' = f
    · rw [e.1, e.2, va_u2_s, va_u2_s, va_u2_s, va_u2_s, va_u2_s, va_u2_s]; exact ⟨rfl, rfl, rfl⟩
    · rw [va_u2_o _ _ e, va_u2_o _ _ e, va_u2_o _ _ e, va_u2_o _ _ e, va_u2_o _ _ e, va_u2_o _ _ e]; exact hg.ts w f' hw hf'
/-- a notice is sent -/
theorem ntc_r {x : zSt} {a : zAb} (hI : Iq x) (hR : Rx x a) (hJ : AJ a) {d : Int32} {g : Nat → Int32} : Rx (ntc_x x d g) (a_ntc a d g) := by
  obtain ⟨hg, hl, hs, hm⟩ := hR
  have eo : x_on x = a_nn a := hI.2.2.2.1.trans hg.sc.2.2.2.1
  unfold ntc_x
  obtain ⟨A, B, C, e⟩ := ls_k (nw_nt x d g) 2
  rw [e]
  refine ⟨⟨⟨hg.sc.1, hg.sc.2.1, hg.sc.2.2.1, ?_, hg.sc.2.2.2.2⟩, hg.rd, hg.ws, hg.ts, fun k hk => ?_, hg.nb, hg.lk⟩, hl, hs, fun k hk => ?_⟩
  · show x_nn x + 1 = a_nn a + 1
    rw [hg.sc.2.2.2.1]
  · have hk2 : k < a_nn a + 1 := hk
    show va_up (x_nf x) (x_on x) g k = va_up (a_nf a) (a_nn a) g k ∧ va_up (x_nd x) (x_on x) d k = va_up (a_nd a) (a_nn a) d k ∧ (∀ d', d' < 12 → inm (va_up (x_nv x) (x_on x) 0 k) (nI d') = a_sn a k d') ∧ ∀ r, r < 24 → inm (va_up (x_nh x) (x_on x) 0 k) (nI r) = a_hb a k r
    rw [eo]
    by_cases e : k = a_nn a
    · subst e
      rw [va_ups', va_ups', va_ups', va_ups', va_ups', va_ups']
      refine ⟨rfl, rfl, fun d' hd' => ?_, fun r hr => ?_⟩
      · rw [inm_0 (by omega)]
        cases hq : a_sn a (a_nn a) d' with
        | false => rfl
        | true => exact absurd (hJ.hd.2.2 _ _ hq) (Nat.lt_irrefl _)
      · rw [inm_0 (by omega)]
        cases hq : a_hb a (a_nn a) r with
        | false => rfl
        | true => exact absurd (hJ.hd.2.1 _ _ hq).1 (Nat.lt_irrefl _)
    · rw [va_upo' _ _ e, va_upo' _ _ e, va_upo' _ _ e, va_upo' _ _ e, va_upo' _ _ e, va_upo' _ _ e]
      exact hg.nt k (by omega)
  · have hk2 : k < a_nn a + 1 := hk
    show va_up (x_nm x) (x_on x) 0 k = nI (cn a k)
    rw [eo]
    by_cases e : k = a_nn a
    · subst e
      rw [va_ups']
      have : cn a (a_nn a) = 0 := by
        unfold cn
        have e0 : (fun u v => (nt (a_q a u v)).count (a_nn a)) = (fun _ _ => 0) := by
          funext u v
          exact List.count_eq_zero.mpr (fun hq => Nat.lt_irrefl _ ((hJ.ql u v).2.2.1 _ hq).1)
        rw [e0]
        decide
      rw [this]; rfl
    · rw [va_upo' _ _ e]; exact hm k (by omega)
theorem snd_r {x : zSt} {a : zAb} (hI : Iq x) (hR : Rx x a) (hA : AI a) {d : Nat} {g : Nat → Int32} (hd : d < a_dk a) (hn : a_nn a < 600) (hu : ct (a_uw a) (a_nn a) < 60) : Rx (snd_x x (nI d) g) (a_snd a d g) := by
  obtain ⟨hJ, hW⟩ := hA
  have h3 := hJ.lim
  have h1 := ntc_r hI hR hJ (d := nI d) (g := g)
  have hJ1 : AJ (a_ntc a (nI d) g) := AJ_ntc hJ hn
  have hh := hear_r h1 hJ1 (k := a_nn a) (d := d) (Nat.lt_succ_self _) (by omega) (a_nw a) (Nat.le_refl _)
  rw [show a_hearN (a_ntc a (nI d) g) (a_nn a) d (a_nw a) = a_hear (a_ntc a (nI d) g) (a_nn a) d from rfl] at hh
  have hJh : AJ (a_hear (a_ntc a (nI d) g) (a_nn a) d) := AJ_hear hJ1 (Nat.lt_succ_self _)
  unfold snd_x a_snd a_come
  have hs0 : a_sn (a_ntc a (nI d) g) (a_nn a) d = false := by
    show a_sn a (a_nn a) d = false
    cases hq : a_sn a (a_nn a) d with
    | false => rfl
    | true => exact absurd (hJ.hd.2.2 _ _ hq) (Nat.lt_irrefl _)
  rw [if_neg (by rw [hs0]; decide), hR.1.sc.2.2.2.1, hR.1.sc.2.2.1, hh.1.sc.1]
  refine po_r hh hJh (Nat.lt_succ_self _) hd (Nat.le_refl 12) (fun n hn2 => ?_) (va_u2_s _ _ _ _) (fun w hw => ?_) ?_ (a_dk a) (Nat.le_refl _)
  · have hn3 : n < a_dk a := hn2
    refine ⟨fun q => ?_, fun q => by omega⟩
    have := nI_pos (n := n) (by omega)
    rw [q] at this
    exact absurd (by decide) this
  · have hw' : a_nn a ∈ nt (a_q a d w) := hw
    exact Nat.lt_irrefl _ ((hJ.ql d w).2.2.1 _ hw').1
  · show ct (fun j => a_uw a j ∨ j = a_nn a) (a_nn a + 1) ≤ 60
    have hp : ¬ a_uw a (a_nn a) := fun z => Nat.lt_irrefl _ (uw_nn hJ z)
    rw [ct_add1 (Nat.lt_succ_self _) hp, ct_s0 hp]
    exact hu
/-! roads open and close -/
def a_half (a : zAb) (u v : Nat) : zAb := b_lk a (va_u2 (a_lk a) u v true)
def NbR (x : zSt) (a : zAb) : Prop := ∀ u i, u < 12 → i < 32 → bt (x_nb x u) i = a_lk a u i
theorem row_0 : row_r (fun _ => 0) (fun _ => false) := fun k _ => by
  show ((0 : Int64).toBitVec).getLsbD (k % 64) = false
  exact BitVec.getLsbD_zero
theorem ol_r {x : zSt} {a : zAb} (hI : Iv x) (hl : Rl x a) (hs : Rs x) (hb : NbR x a) {u v : Nat} (hu : u < 12) (hv : v < 12) (h0 : a_lk a u v = false) (hq : a_q a u v = []) (ht : a_to a u v = fun _ => false) (htb : a_tb a v u = fun _ => false) : Rl (ol x u v) (a_half a u v) ∧ Rs (ol x u v) ∧ NbR (ol x u v) (a_half a u v) := by
  have hnone := (hl u v hu hv).1 h0
  -- the lane that is taken
  have hL : (∀ p, p < 144 → x_ln x p ≠ some (ol_l x)) ∧ ln_r (ol_1 x) (ol_l x) [] (fun _ => false) (fun _ => false) ∧ (∀ l q t b, l ≠ ol_l x → ln_r x l q t b → ln_r (ol_1 x) l q t b) ∧ x_ln (ol_1 x) = x_ln x ∧ x_nb (ol_1 x) = x_nb x ∧ x_sp (ol_1 x) = x_sp x ∧ x_ns (ol_1 x) = x_ns x - 1 ∧ (∀ k, k < x_ns x - 1 → x_sp x k ≠ ol_l x) ∧ x_nl (ol_1 x) = x_ns x - 1 + (ct (fun p => x_ln x p ≠ none) 144 + 1) := by
    unfold ol_1 ol_l
    by_cases hn : 0 < x_ns x
    · rw [if_pos hn, if_pos hn]
      refine ⟨fun p hp => hs.2.1 (x_ns x - 1) p (by omega) hp, hs.2.2.2.1 (x_ns x - 1) (by omega), fun l q t b _ h => h, rfl, rfl, rfl, rfl, fun k hk z => ?_, ?_⟩
      · have := hs.2.2.1 k (x_ns x - 1) (by omega) (by omega) z
        omega
      · show x_nl x = _
        rw [hs.2.2.2.2.1]
        omega
    · rw [if_neg hn, if_neg hn]
      refine ⟨fun p hp z => ?_, ⟨va_ups' _ _ _, fun i hi => absurd hi (Nat.not_lt_zero i), ?_, ?_⟩, fun l q t b hne h => ⟨?_, fun i hi => ?_, ?_, ?_⟩, rfl, rfl, rfl, ?_, fun k hk => absurd hk (by omega), ?_⟩
      · exact absurd (hI.ln p _ z) (Nat.lt_irrefl _)
      · show row_r (va_up (x_lt x) (x_nl x) (fun _ => 0) (x_nl x)) _
        rw [va_ups']; exact row_0
      · show row_r (va_up (x_lb x) (x_nl x) (fun _ => 0) (x_nl x)) _
        rw [va_ups']; exact row_0
      · show va_up (x_lz x) (x_nl x) 0 l = _
        rw [va_upo' _ _ hne]; exact h.1
      · refine it_cg (x := x) (l := l) ?_ ?_ (h.2.1 i hi)
        · show va_up (x_li x) (x_nl x) (fun _ => 0) l ((va_up (x_lf x) (x_nl x) 0 l + i) % 121) = _
          rw [va_upo' _ _ hne, va_upo' _ _ hne]; rfl
        · show va_up (x_lr x) (x_nl x) (fun _ => none) l ((va_up (x_lf x) (x_nl x) 0 l + i) % 121) = _
          rw [va_upo' _ _ hne, va_upo' _ _ hne]
      · show row_r (va_up (x_lt x) (x_nl x) (fun _ => 0) l) t
        rw [va_upo' _ _ hne]; exact h.2.2.1
      · show row_r (va_up (x_lb x) (x_nl x) (fun _ => 0) l) b
        rw [va_upo' _ _ hne]; exact h.2.2.2
      · show x_ns x = x_ns x - 1
        omega
      · show x_nl x + 1 = _
        rw [hs.2.2.2.2.1]
        omega
  have hle : x_ns x - 1 + (ct (fun p => x_ln x p ≠ none) 144 + 1) ≤ 144 ∨ x_ns x = 0 := by
    by_cases hn : 0 < x_ns x
    · left
      have := hs.2.2.2.2
      omega
    · right; omega
  obtain ⟨L, hLe⟩ : ∃ L, L = ol_l x := ⟨_, rfl⟩
  rw [← hLe] at hL
  obtain ⟨g1, g2, g3, g4, g5, g6, g7, g8, g9⟩ := hL
  have eln : x_ln (ol x u v) = va_up (x_ln x) (12 * u + v) (some L) := by rw [hLe, ← g4]; rfl
  have esp : x_sp (ol x u v) = x_sp x := g6
  have ens : x_ns (ol x u v) = x_ns x - 1 := g7
  have enl : x_nl (ol x u v) = x_ns x - 1 + (ct (fun p => x_ln x p ≠ none) 144 + 1) := g9
  have enb : x_nb (ol x u v) = upd (x_nb x) u (x_nb x u ||| (1 <<< (nI v &&& 31))) := by rw [← g5]; rfl
  have elr : ∀ l q t b, ln_r (ol_1 x) l q t b → ln_r (ol x u v) l q t b := fun _ _ _ _ h => h
  have hct : ct (fun p => va_up (x_ln x) (12 * u + v) (some L) p ≠ none) 144 = ct (fun p => x_ln x p ≠ none) 144 + 1 := by
    rw [← ct_add1 (p := fun p => x_ln x p ≠ none) (show 12 * u + v < 144 by omega) (fun z => z hnone)]
    refine ct_cg _ (fun p _ => ?_)
    by_cases e : p = 12 * u + v
    · rw [e, va_ups']; exact ⟨fun _ => Or.inr rfl, fun _ => by simp⟩
    · rw [va_upo' _ _ e]; exact ⟨Or.inl, fun z => z.elim id (fun z => absurd z e)⟩
  refine ⟨fun p w hp hw => ?_, ⟨fun p p' l hp hp' h1 h2 => ?_, fun k p hk hp => ?_, fun k k' hk hk' => ?_, fun k hk => ?_, ?_, ?_⟩, fun p i hp hi => ?_⟩
  · show (va_u2 (a_lk a) u v true p w = false → x_ln (ol x u v) (12 * p + w) = none) ∧ (va_u2 (a_lk a) u v true p w = true → ∃ l, x_ln (ol x u v) (12 * p + w) = some l ∧ ln_r (ol x u v) l (a_q a p w) (a_to a p w) (a_tb a w p))
    rw [eln]
    by_cases e : p = u ∧ w = v
    · rw [e.1, e.2, va_u2_s, va_ups', hq, ht, htb]
      exact ⟨fun z => (by cases z), fun _ => ⟨L, rfl, elr _ _ _ _ g2⟩⟩
    · rw [va_u2_o _ _ e, va_upo' _ _ (show 12 * p + w ≠ 12 * u + v by intro z; exact e ⟨by omega, by omega⟩)]
      refine ⟨(hl p w hp hw).1, fun z => ?_⟩
      obtain ⟨l, h1, h2⟩ := (hl p w hp hw).2 z
      exact ⟨l, h1, elr _ _ _ _ (g3 l _ _ _ (fun q => g1 (12 * p + w) (by omega) (by rw [← q]; exact h1)) h2)⟩
  · rw [eln] at h1 h2
    by_cases e1 : p = 12 * u + v
    · by_cases e2 : p' = 12 * u + v
      · rw [e1, e2]
      · rw [e1, va_ups'] at h1
        rw [va_upo' _ _ e2, ← h1] at h2
        exact absurd h2 (g1 p' hp')
    · by_cases e2 : p' = 12 * u + v
      · rw [e2, va_ups'] at h2
        rw [va_upo' _ _ e1, ← h2] at h1
        exact absurd h1 (g1 p hp)
      · rw [va_upo' _ _ e1] at h1
        rw [va_upo' _ _ e2] at h2
        exact hs.1 p p' l hp hp' h1 h2
  · rw [ens] at hk
    rw [eln, esp]
    by_cases e1 : p = 12 * u + v
    · rw [e1, va_ups']
      intro z
      exact g8 k hk (Option.some.inj z).symm
    · rw [va_upo' _ _ e1]; exact hs.2.1 k p (by omega) hp
  · rw [ens] at hk hk'
    rw [esp]
    exact hs.2.2.1 k k' (by omega) (by omega)
  · rw [ens] at hk
    rw [esp]
    exact elr _ _ _ _ (g3 _ _ _ _ (g8 k hk) (hs.2.2.2.1 k (by omega)))
  · rw [eln, hct, enl, ens]
  · rw [enl]
    rcases hle with z | z
    · exact z
    · have := ct_le (fun p => va_up (x_ln x) (12 * u + v) (some L) p ≠ none) 144
      omega
  · show bt (x_nb (ol x u v) p) i = va_u2 (a_lk a) u v true p i
    rw [enb]
    by_cases e : p = u
    · subst e
      rw [upd_s', b_or, hb p i hp hi]
      by_cases e2 : i = v
      · rw [e2, va_u2_s, (one_b v hv v (by omega)).mpr rfl, Bool.or_true]
      · rw [va_u2_o _ _ (fun z => e2 z.2)]
        have : bt ((1 : Int32) <<< (nI v &&& 31)) i = false := by
          cases hq : bt ((1 : Int32) <<< (nI v &&& 31)) i with
          | false => rfl
          | true => exact absurd ((one_b v hv i hi).mp hq) e2
        rw [this, Bool.or_false]
    · rw [upd_o' _ _ e, va_u2_o _ _ (fun z => e z.1)]; exact hb p i hp hi
