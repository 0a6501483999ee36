/-! WishRoutes: passing a notice on -/
theorem Iv_po {x : zSt} {v : Int32} (h : Iv x) : Iv (u_po x v) := h
theorem Iv_ne {x : zSt} {v : Int32} (h : Iv x) : Iv (u_ne x v) := h
theorem Iv_td {x : zSt} {v : Int32} (h : Iv x) : Iv (u_td x v) := h
def po_1 (y : zSt) (a k : Nat) : zSt := if x_lz y a < 121 then la_push y a (nI k) else y
def po_2 (y : zSt) (k : Nat) : zSt := u_nm y (va_up (x_nm y) k (x_nm y k + 1))
def po_3 (y : zSt) : zSt := u_po y (x_po y + 1)
noncomputable def po_4 (y : zSt) (k : Nat) (d v : Int32) : zSt := if wt_at y (x_nf y k) (x_reach y v d) = true then y else u_ne y (x_ne y + 1)
/-- the notice goes on over one lane, if it is asked for there -/
noncomputable def po_s (y : zSt) (k : Nat) (d f : Int32) (i : Nat) : zSt := match lnF y d (nI i) with
  | none => y
  | some a => match lnF y (nI i) d with
    | none => y
    | some b => if ¬ nI i = f ∧ it_in y (x_nf y k) (x_lb y b) = true then po_4 (po_3 (po_2 (po_1 y a k) k)) k d (nI i) else y
noncomputable def po (x : zSt) (k : Nat) (d f : Int32) : Nat → zSt
  | 0 => x
  | n + 1 => po_s (po x k d f n) k d f n
def po_k (x y : zSt) : Prop := x_dk y = x_dk x ∧ x_on y = x_on x
theorem po_k1 (y : zSt) (a k : Nat) : po_k y (po_1 y a k) := by
  unfold po_1
  split <;> exact ⟨rfl, rfl⟩
theorem po_k4 (y : zSt) (k : Nat) (d v : Int32) : po_k y (po_4 y k d v) := by
  unfold po_4
  split <;> exact ⟨rfl, rfl⟩
theorem po_kt {x y z : zSt} (h1 : po_k x y) (h2 : po_k y z) : po_k x z := ⟨h2.1.trans h1.1, h2.2.trans h1.2⟩
theorem po_ks (y : zSt) (k : Nat) (d f : Int32) (i : Nat) : po_k y (po_s y k d f i) := by
  unfold po_s
  split
  · exact ⟨rfl, rfl⟩
  · split
    · exact ⟨rfl, rfl⟩
    · split
      · exact po_kt (po_k1 y _ k) (po_k4 (po_3 (po_2 (po_1 y _ k) k)) k d (nI i))
      · exact ⟨rfl, rfl⟩
theorem po_kn (x : zSt) (k : Nat) (d f : Int32) : ∀ n, po_k x (po x k d f n)
  | 0 => ⟨rfl, rfl⟩
  | n + 1 => po_kt (po_kn x k d f n) (po_ks _ k d f n)
theorem Iv_po1 {y : zSt} {a k : Nat} (h : Iv y) : Iv (po_1 y a k) := by
  unfold po_1
  split
  · next hz => exact Iv_push h hz
  · exact h
theorem Iv_po4 {y : zSt} {k : Nat} {d v : Int32} (h : Iv y) : Iv (po_4 y k d v) := by
  unfold po_4
  split
  · exact h
  · exact Iv_ne h
theorem Iv_pos {y : zSt} {k : Nat} {d f : Int32} {i : Nat} (h : Iv y) : Iv (po_s y k d f i) := by
  unfold po_s
  split
  · exact h
  · split
    · exact h
    · split
      · exact Iv_po4 (y := po_3 (po_2 (po_1 y _ k) k)) (Iv_po (x := po_2 (po_1 y _ k) k) (Iv_nm (x := po_1 y _ k) (Iv_po1 h)))
      · exact h
theorem Iv_pon {x : zSt} {k : Nat} {d f : Int32} (h : Iv x) : ∀ n, Iv (po x k d f n)
  | 0 => h
  | n + 1 => Iv_pos (Iv_pon h n)
def T_WR_passOn (As : List zAV) (M : zMp) (Rt : Option zAV → zMp → Prop) : Prop := ∃ x k d f, As = [.inr (0, 0, 0), .inr (12, k, 0), .inl (.int d), .inl (.int f)] ∧ M = pic x ∧ Iv x ∧ k < x_on x ∧ Rt none (pic (po x k d f (x_dk x)))
abbrev co_WR_passOn := co0
theorem dX6_passOn_0 : decode cX6_passOn 0 = .ok (.iconst 0, 1) := by decide +kernel
theorem dX6_passOn_1 : decode cX6_passOn 1 = .ok (.istore 4, 2) := by decide +kernel
theorem dX6_passOn_3 : decode cX6_passOn 3 = .ok (.iload 4, 2) := by decide +kernel
theorem dX6_passOn_5 : decode cX6_passOn 5 = .ok (.aload_n 0, 1) := by decide +kernel
theorem dX6_passOn_6 : decode cX6_passOn 6 = .ok (.getfield 53, 3) := by decide +kernel
theorem dX6_passOn_9 : decode cX6_passOn 9 = .ok (.if_icmp .ge 110, 3) := by decide +kernel
theorem dX6_passOn_12 : decode cX6_passOn 12 = .ok (.aload_n 0, 1) := by decide +kernel
theorem dX6_passOn_13 : decode cX6_passOn 13 = .ok (.iload_n 2, 1) := by decide +kernel
theorem dX6_passOn_14 : decode cX6_passOn 14 = .ok (.iload 4, 2) := by decide +kernel
theorem dX6_passOn_16 : decode cX6_passOn 16 = .ok (.invokevirtual 89, 3) := by decide +kernel
theorem dX6_passOn_19 : decode cX6_passOn 19 = .ok (.astore 5, 2) := by decide +kernel
theorem dX6_passOn_21 : decode cX6_passOn 21 = .ok (.aload_n 0, 1) := by decide +kernel
theorem dX6_passOn_22 : decode cX6_passOn 22 = .ok (.iload 4, 2) := by decide +kernel
theorem dX6_passOn_24 : decode cX6_passOn 24 = .ok (.iload_n 2, 1) := by decide +kernel
theorem dX6_passOn_25 : decode cX6_passOn 25 = .ok (.invokevirtual 89, 3) := by decide +kernel
theorem dX6_passOn_28 : decode cX6_passOn 28 = .ok (.astore 6, 2) := by decide +kernel
theorem dX6_passOn_30 : decode cX6_passOn 30 = .ok (.iload 4, 2) := by decide +kernel
theorem dX6_passOn_32 : decode cX6_passOn 32 = .ok (.iload_n 3, 1) := by decide +kernel
theorem dX6_passOn_33 : decode cX6_passOn 33 = .ok (.if_icmp .eq 80, 3) := by decide +kernel
theorem dX6_passOn_36 : decode cX6_passOn 36 = .ok (.aload 5, 2) := by decide +kernel
theorem dX6_passOn_38 : decode cX6_passOn 38 = .ok (.ifnull 75, 3) := by decide +kernel
theorem dX6_passOn_41 : decode cX6_passOn 41 = .ok (.aload 6, 2) := by decide +kernel
theorem dX6_passOn_43 : decode cX6_passOn 43 = .ok (.ifnull 70, 3) := by decide +kernel
theorem dX6_passOn_46 : decode cX6_passOn 46 = .ok (.aload_n 0, 1) := by decide +kernel
theorem dX6_passOn_47 : decode cX6_passOn 47 = .ok (.aload_n 1, 1) := by decide +kernel
theorem dX6_passOn_48 : decode cX6_passOn 48 = .ok (.aload 6, 2) := by decide +kernel
theorem dX6_passOn_50 : decode cX6_passOn 50 = .ok (.getfield 181, 3) := by decide +kernel
theorem dX6_passOn_53 : decode cX6_passOn 53 = .ok (.invokevirtual 282, 3) := by decide +kernel
theorem dX6_passOn_56 : decode cX6_passOn 56 = .ok (.ifCond .eq 57, 3) := by decide +kernel
theorem dX6_passOn_59 : decode cX6_passOn 59 = .ok (.aload 5, 2) := by decide +kernel
theorem dX6_passOn_61 : decode cX6_passOn 61 = .ok (.aload_n 1, 1) := by decide +kernel
theorem dX6_passOn_62 : decode cX6_passOn 62 = .ok (.getfield 276, 3) := by decide +kernel
theorem dX6_passOn_65 : decode cX6_passOn 65 = .ok (.invokevirtual 286, 3) := by decide +kernel
theorem dX6_passOn_68 : decode cX6_passOn 68 = .ok (.aload_n 1, 1) := by decide +kernel
theorem dX6_passOn_69 : decode cX6_passOn 69 = .ok (.dup, 1) := by decide +kernel
theorem dX6_passOn_70 : decode cX6_passOn 70 = .ok (.getfield 205, 3) := by decide +kernel
theorem dX6_passOn_73 : decode cX6_passOn 73 = .ok (.iconst 1, 1) := by decide +kernel
theorem dX6_passOn_74 : decode cX6_passOn 74 = .ok (.iadd, 1) := by decide +kernel
theorem dX6_passOn_75 : decode cX6_passOn 75 = .ok (.putfield 205, 3) := by decide +kernel
theorem dX6_passOn_78 : decode cX6_passOn 78 = .ok (.aload_n 0, 1) := by decide +kernel
theorem dX6_passOn_79 : decode cX6_passOn 79 = .ok (.dup, 1) := by decide +kernel
theorem dX6_passOn_80 : decode cX6_passOn 80 = .ok (.getfield 60, 3) := by decide +kernel
theorem dX6_passOn_83 : decode cX6_passOn 83 = .ok (.iconst 1, 1) := by decide +kernel
theorem dX6_passOn_84 : decode cX6_passOn 84 = .ok (.iadd, 1) := by decide +kernel
theorem dX6_passOn_85 : decode cX6_passOn 85 = .ok (.putfield 60, 3) := by decide +kernel
theorem dX6_passOn_88 : decode cX6_passOn 88 = .ok (.aload_n 0, 1) := by decide +kernel
theorem dX6_passOn_89 : decode cX6_passOn 89 = .ok (.aload_n 1, 1) := by decide +kernel
theorem dX6_passOn_90 : decode cX6_passOn 90 = .ok (.aload_n 0, 1) := by decide +kernel
theorem dX6_passOn_91 : decode cX6_passOn 91 = .ok (.iload 4, 2) := by decide +kernel
theorem dX6_passOn_93 : decode cX6_passOn 93 = .ok (.iload_n 2, 1) := by decide +kernel
theorem dX6_passOn_94 : decode cX6_passOn 94 = .ok (.invokevirtual 73, 3) := by decide +kernel
theorem dX6_passOn_97 : decode cX6_passOn 97 = .ok (.invokevirtual 289, 3) := by decide +kernel
theorem dX6_passOn_100 : decode cX6_passOn 100 = .ok (.ifCond .ne 13, 3) := by decide +kernel
theorem dX6_passOn_103 : decode cX6_passOn 103 = .ok (.aload_n 0, 1) := by decide +kernel
theorem dX6_passOn_104 : decode cX6_passOn 104 = .ok (.dup, 1) := by decide +kernel
theorem dX6_passOn_105 : decode cX6_passOn 105 = .ok (.getfield 63, 3) := by decide +kernel
theorem dX6_passOn_108 : decode cX6_passOn 108 = .ok (.iconst 1, 1) := by decide +kernel
theorem dX6_passOn_109 : decode cX6_passOn 109 = .ok (.iadd, 1) := by decide +kernel
theorem dX6_passOn_110 : decode cX6_passOn 110 = .ok (.putfield 63, 3) := by decide +kernel
theorem dX6_passOn_113 : decode cX6_passOn 113 = .ok (.iinc 4 1, 3) := by decide +kernel
theorem dX6_passOn_116 : decode cX6_passOn 116 = .ok (.goto (-113), 3) := by decide +kernel
theorem dX6_passOn_119 : decode cX6_passOn 119 = .ok (.return_, 1) := by decide +kernel
def B_WR_passOn_119 (mc ms : Nat) (Rt : Option zAV → zMp → Prop) (g : Nat → zKT) : zKT :=
  (i_vret mc ms Rt)
set_option maxRecDepth 20000 in
theorem s_WR_passOn_119 {X : zMa} {mc ms : Nat} {Rt : Option zAV → zMp → Prop} (hC : zCx X RX6 cX6_passOn 4 89 mc ms (none) false Rt) (hN : zNL X = 7) : zLe (B_WR_passOn_119 mc ms Rt (zG X)) (zG X 119) :=
  (sd_vret hC dX6_passOn_119)
def B_WR_passOn_113 (mc ms : Nat) (Rt : Option zAV → zMp → Prop) (g : Nat → zKT) : zKT :=
  (i_inc 4 1 (g 3))
set_option maxRecDepth 20000 in
theorem s_WR_passOn_113 {X : zMa} {mc ms : Nat} {Rt : Option zAV → zMp → Prop} (hC : zCx X RX6 cX6_passOn 4 89 mc ms (none) false Rt) (hN : zNL X = 7) : zLe (B_WR_passOn_113 mc ms Rt (zG X)) (zG X 113) :=
  (sd_inc hC (by decide) (by rw [hN]; decide) dX6_passOn_113 ((sd_goto hC (tgt := 3) (by decide) dX6_passOn_116 (zLe_rfl))))
def B_WR_passOn_3 (mc ms : Nat) (Rt : Option zAV → zMp → Prop) (g : Nat → zKT) : zKT :=
  (i_il 4 (i_al 0 (i_gf 7 9 (i_icge (B_WR_passOn_119 mc ms Rt g) (i_al 0 (i_il 2 (i_il 4 (i_callV mc ms 7 3 T_WR_laneFrom co_WR_laneFrom (i_as 5 (i_al 0 (i_il 4 (i_il 2 (i_callV mc ms 7 3 T_WR_laneFrom co_WR_laneFrom (i_as 6 (i_il 4 (i_il 3 (i_iceq (B_WR_passOn_113 mc ms Rt g) (i_al 5 (i_ifn (B_WR_passOn_113 mc ms Rt g) (i_al 6 (i_ifn (B_WR_passOn_113 mc ms Rt g) (i_al 0 (i_al 1 (i_al 6 (i_gf 2 1 (i_callV mc ms 7 3 T_WR_isInTable co_WR_isInTable (i_ifeq (B_WR_passOn_113 mc ms Rt g) (i_al 5 (i_al 1 (i_gf 3 0 (i_callV mc ms 2 2 T_Lane_putNotice co_Lane_putNotice (i_al 1 (i_dup (i_gf 3 3 (i_ic 1 (i_iadd (i_pf 3 3 .int (i_al 0 (i_dup (i_gf 7 11 (i_ic 1 (i_iadd (i_pf 7 11 .int (i_al 0 (i_al 1 (i_al 0 (i_il 4 (i_il 2 (i_callV mc ms 7 3 T_WR_reach co_WR_reach (i_callV mc ms 7 3 T_WR_isWantedAt co_WR_isWantedAt (i_ifne (B_WR_passOn_113 mc ms Rt g) (i_al 0 (i_dup (i_gf 7 12 (i_ic 1 (i_iadd (i_pf 7 12 .int (B_WR_passOn_113 mc ms Rt g))))))))))))))))))))))))))))))))))))))))))))))))))))))))))
set_option maxRecDepth 20000 in
theorem s_WR_passOn_3 {X : zMa} {mc ms : Nat} {Rt : Option zAV → zMp → Prop} (hC : zCx X RX6 cX6_passOn 4 89 mc ms (none) false Rt) (hN : zNL X = 7) : zLe (B_WR_passOn_3 mc ms Rt (zG X)) (zG X 3) :=
  (sd_il hC dX6_passOn_3 ((sd_al_n hC rfl dX6_passOn_5 ((sd_gf hC (ci := 7) (fk := 9) rfl wi_WR (by decide) fl_WR_53 (Or.inl rfl) dX6_passOn_6 ((sd_icge hC (tgt := 119) (by decide) dX6_passOn_9 (s_WR_passOn_119 hC hN) ((sd_al_n hC rfl dX6_passOn_12 ((sd_il_n hC rfl dX6_passOn_13 ((sd_il hC dX6_passOn_14 ((sd_cV hC c_WR_laneFrom yv_WR_laneFrom (ci := 7) rfl rfl ml_WR_89 (by decide) (by decide) dX6_passOn_16 ((sd_as hC (by rw [hN]; decide) dX6_passOn_19 ((sd_al_n hC rfl dX6_passOn_21 ((sd_il hC dX6_passOn_22 ((sd_il_n hC rfl dX6_passOn_24 ((sd_cV hC c_WR_laneFrom yv_WR_laneFrom (ci := 7) rfl rfl ml_WR_89 (by decide) (by decide) dX6_passOn_25 ((sd_as hC (by rw [hN]; decide) dX6_passOn_28 ((sd_il hC dX6_passOn_30 ((sd_il_n hC rfl dX6_passOn_32 ((sd_iceq hC (tgt := 113) (by decide) dX6_passOn_33 (s_WR_passOn_113 hC hN) ((sd_al hC dX6_passOn_36 ((sd_ifnull hC (tgt := 113) (by decide) dX6_passOn_38 (s_WR_passOn_113 hC hN) ((sd_al hC dX6_passOn_41 ((sd_ifnull hC (tgt := 113) (by decide) dX6_passOn_43 (s_WR_passOn_113 hC hN) ((sd_al_n hC rfl dX6_passOn_46 ((sd_al_n hC rfl dX6_passOn_47 ((sd_al hC dX6_passOn_48 ((sd_gf hC (ci := 2) (fk := 1) rfl wi_Lane (by decide) fl_WR_181 (Or.inl rfl) dX6_passOn_50 ((sd_cV hC c_WR_isInTable yv_WR_isInTable (ci := 7) rfl rfl ml_WR_282 (by decide) (by decide) dX6_passOn_53 ((sd_ifeq hC (tgt := 113) (by decide) dX6_passOn_56 (s_WR_passOn_113 hC hN) ((sd_al hC dX6_passOn_59 ((sd_al_n hC rfl dX6_passOn_61 ((sd_gf hC (ci := 3) (fk := 0) rfl wi_Not (by decide) fl_WR_276 (Or.inl rfl) dX6_passOn_62 ((sd_cV hC c_Lane_putNotice yv_Lane_putNotice (ci := 2) rfl rfl ml_WR_286 (by decide) (by decide) dX6_passOn_65 ((sd_al_n hC rfl dX6_passOn_68 ((sd_dup hC dX6_passOn_69 ((sd_gf hC (ci := 3) (fk := 3) rfl wi_Not (by decide) fl_WR_205 (Or.inl rfl) dX6_passOn_70 ((sd_iconst hC (by decide) dX6_passOn_73 ((sd_iadd hC dX6_passOn_74 ((sd_pf hC (ci := 3) (fk := 3) rfl wi_Not tyX2 tyX2_ok nmX2 (by decide) fl_WR_205 (Or.inl rfl) (Or.inl rfl) dX6_passOn_75 ((sd_al_n hC rfl dX6_passOn_78 ((sd_dup hC dX6_passOn_79 ((sd_gf hC (ci := 7) (fk := 11) rfl wi_WR (by decide) fl_WR_60 (Or.inl rfl) dX6_passOn_80 ((sd_iconst hC (by decide) dX6_passOn_83 ((sd_iadd hC dX6_passOn_84 ((sd_pf hC (ci := 7) (fk := 11) rfl wi_WR tyX6 tyX6_ok nmX6 (by decide) fl_WR_60 (Or.inl rfl) (Or.inl rfl) dX6_passOn_85 ((sd_al_n hC rfl dX6_passOn_88 ((sd_al_n hC rfl dX6_passOn_89 ((sd_al_n hC rfl dX6_passOn_90 ((sd_il hC dX6_passOn_91 ((sd_il_n hC rfl dX6_passOn_93 ((sd_cV hC c_WR_reach yv_WR_reach (ci := 7) rfl rfl ml_WR_73 (by decide) (by decide) dX6_passOn_94 ((sd_cV hC c_WR_isWantedAt yv_WR_isWantedAt (ci := 7) rfl rfl ml_WR_289 (by decide) (by decide) dX6_passOn_97 ((sd_ifne hC (tgt := 113) (by decide) dX6_passOn_100 (s_WR_passOn_113 hC hN) ((sd_al_n hC rfl dX6_passOn_103 ((sd_dup hC dX6_passOn_104 ((sd_gf hC (ci := 7) (fk := 12) rfl wi_WR (by decide) fl_WR_63 (Or.inl rfl) dX6_passOn_105 ((sd_iconst hC (by decide) dX6_passOn_108 ((sd_iadd hC dX6_passOn_109 ((sd_pf hC (ci := 7) (fk := 12) rfl wi_WR tyX6 tyX6_ok nmX6 (by decide) fl_WR_63 (Or.inl rfl) (Or.inl rfl) dX6_passOn_110 (s_WR_passOn_113 hC hN))))))))))))))))))))))))))))))))))))))))))))))))))))))))))))))))))))))))))))))))))))))))))))))))))))))))))))))))))
def B_WR_passOn_0 (mc ms : Nat) (Rt : Option zAV → zMp → Prop) (g : Nat → zKT) : zKT :=
  (i_ic 0 (i_is 4 (g 3)))
set_option maxRecDepth 20000 in
theorem s_WR_passOn_0 {X : zMa} {mc ms : Nat} {Rt : Option zAV → zMp → Prop} (hC : zCx X RX6 cX6_passOn 4 89 mc ms (none) false Rt) (hN : zNL X = 7) : zLe (B_WR_passOn_0 mc ms Rt (zG X)) (zG X 0) :=
  (sd_iconst hC (by decide) dX6_passOn_0 ((sd_is hC (by rw [hN]; decide) dX6_passOn_1 (zLe_rfl))))
theorem c_WR_passOn (l : Launch) : zCT l yX6_passOn cX6_passOn 7 (none) 4 89 T_WR_passOn co_WR_passOn := by
  intro As M Rt hT
  obtain ⟨x, k, d, f, rfl, rfl, hI, hk, hR⟩ := hT
  have hd := hI.dk
  refine zMet_of false (by decide +kernel) (fun h => by first | rfl | cases h) (Nat.le_of_ble_eq_true rfl) (fun X hN hC => ?_)
  show zG X 0 [some (.inr (0, 0, 0)), some (.inr (12, k, 0)), some (.inl (.int d)), some (.inl (.int f)), none, none, none] [] (pic x) 0 0
  have loop := upto (N := x_dk x) (P := fun i => ∀ j5 j6 : Option zAV, zG X 3 [some (.inr (0, 0, 0)), some (.inr (12, k, 0)), some (.inl (.int d)), some (.inl (.int f)), some (.inl (.int (nI i))), j5, j6] [] (pic (po x k d f i)) 0 0) (fun i hi ih j5 j6 => by
    have hIy := Iv_pon (k := k) (d := d) (f := f) hI i
    have hky := po_kn x k d f i
    simp only [po] at ih
    generalize po x k d f i = y at ih hIy hky
    have hk2 : k < x_on y := by rw [hky.2]; exact hk
    have hdy : x_dk y ≤ 12 := hIy.dk
    refine s_WR_passOn_3 hC hN _ _ _ _ _ ?_
    simp only [B_WR_passOn_0, B_WR_passOn_3, B_WR_passOn_113, B_WR_passOn_119, co_Lane_putNotice, co_WR_isInTable, co_WR_isWantedAt, co_WR_laneFrom, co_WR_passOn, co_WR_reach, i_ic, i_lc, i_nul, i_il, i_ll, i_al, i_is, i_as, i_ls, i_inc, i_iadd, i_isub, i_imul, i_iand, i_ior, i_ixor, i_idiv, i_irem, i_ishl, i_ishr, i_ladd, i_lsub, i_land, i_lor, i_i2l, i_lushr, i_lshl, i_lshr, i_lcmp, i_dup, i_pop, i_dx1, i_dup2, i_ifeq, i_ifne, i_iflt, i_ifge, i_ifgt, i_ifle, i_iceq, i_icne, i_iclt, i_icge, i_icgt, i_icle, i_ifn, i_gf, i_pf, i_ial, i_bal, i_lal, i_aal, i_ias, i_las, i_bas, i_aas, i_alen, i_newa, i_new, i_anew, i_cast, i_oi, i_call, i_callV, i_callV2, i_callI, i_iret, i_zret, i_lret, i_vret, i_aret, i_mmx, i_mmn, i_gsE, i_aceq, i_no, i_acq, i_sw, zsw, zlg, zls, znl, zfg, zcs, zsp, zrc, zisn, zft, zc1, zto, Value.category, List.set_cons_zero, List.set_cons_succ, List.length_cons, List.length_nil, Option.toList, List.append, List.nil_append, List.cons_append, true_and, and_true, Nat.add_zero, Nat.zero_le, Nat.zero_add, Nat.le_refl, Nat.reduceAdd, Nat.reduceLeDiff, co0, z0, zn_0, zn_1, zn_2, zn_3, zn_4, zn_5, zn_8, zn_12, zn_24, zn_121, zn_144, zn_256, zn_300, zn_600, zn_720, zn_1204, zn_1280, zn_2400, zn_4816, zn_14400, zn_90000, p_main, x_main]
    rw [hky.1]
    refine ⟨fun h => absurd ((zK (K := x_dk x) (by omega) (n := i) (by omega)).2.1.mp h) (by omega), fun _ => ⟨y, d, nI i, rfl, rfl, hdy, ?_⟩⟩
    unfold po_s at ih
    have hother : ∀ v : zAV, (∃ o, v = zov o) → True := fun _ _ => trivial
    rcases lnF_c hIy d (nI i) with e | ⟨a, e, hok⟩
    · rw [e] at ih ⊢
      simp only [zln, Option.map_none, zov, i_ic, i_lc, i_nul, i_il, i_ll, i_al, i_is, i_as, i_ls, i_inc, i_iadd, i_isub, i_imul, i_iand, i_ior, i_ixor, i_idiv, i_irem, i_ishl, i_ishr, i_ladd, i_lsub, i_land, i_lor, i_i2l, i_lushr, i_lshl, i_lshr, i_lcmp, i_dup, i_pop, i_dx1, i_dup2, i_ifeq, i_ifne, i_iflt, i_ifge, i_ifgt, i_ifle, i_iceq, i_icne, i_iclt, i_icge, i_icgt, i_icle, i_ifn, i_gf, i_pf, i_ial, i_bal, i_lal, i_aal, i_ias, i_las, i_bas, i_aas, i_alen, i_newa, i_new, i_anew, i_cast, i_oi, i_call, i_callV, i_callV2, i_callI, i_iret, i_zret, i_lret, i_vret, i_aret, i_mmx, i_mmn, i_gsE, i_aceq, i_no, i_acq, i_sw, zsw, zlg, zls, znl, zfg, zcs, zsp, zrc, zisn, zft, zc1, zto, Value.category, List.set_cons_zero, List.set_cons_succ, List.length_cons, List.length_nil, Option.toList, List.append, List.nil_append, List.cons_append, true_and, and_true, Nat.add_zero, Nat.zero_le, Nat.zero_add, Nat.le_refl, Nat.reduceAdd, Nat.reduceLeDiff, co0, z0, zn_0, zn_1, zn_2, zn_3, zn_4, zn_5, zn_8, zn_12, zn_24, zn_121, zn_144, zn_256, zn_300, zn_600, zn_720, zn_1204, zn_1280, zn_2400, zn_4816, zn_14400, zn_90000, p_main, x_main]
      refine ⟨y, nI i, d, rfl, rfl, hdy, ?_⟩
      rcases lnF_c hIy (nI i) d with e2 | ⟨b, e2, hok2⟩
      · rw [e2]
        simp only [zln, Option.map_none, zov, i_ic, i_lc, i_nul, i_il, i_ll, i_al, i_is, i_as, i_ls, i_inc, i_iadd, i_isub, i_imul, i_iand, i_ior, i_ixor, i_idiv, i_irem, i_ishl, i_ishr, i_ladd, i_lsub, i_land, i_lor, i_i2l, i_lushr, i_lshl, i_lshr, i_lcmp, i_dup, i_pop, i_dx1, i_dup2, i_ifeq, i_ifne, i_iflt, i_ifge, i_ifgt, i_ifle, i_iceq, i_icne, i_iclt, i_icge, i_icgt, i_icle, i_ifn, i_gf, i_pf, i_ial, i_bal, i_lal, i_aal, i_ias, i_las, i_bas, i_aas, i_alen, i_newa, i_new, i_anew, i_cast, i_oi, i_call, i_callV, i_callV2, i_callI, i_iret, i_zret, i_lret, i_vret, i_aret, i_mmx, i_mmn, i_gsE, i_aceq, i_no, i_acq, i_sw, zsw, zlg, zls, znl, zfg, zcs, zsp, zrc, zisn, zft, zc1, zto, Value.category, List.set_cons_zero, List.set_cons_succ, List.length_cons, List.length_nil, Option.toList, List.append, List.nil_append, List.cons_append, true_and, and_true, Nat.add_zero, Nat.zero_le, Nat.zero_add, Nat.le_refl, Nat.reduceAdd, Nat.reduceLeDiff, co0, z0, zn_0, zn_1, zn_2, zn_3, zn_4, zn_5, zn_8, zn_12, zn_24, zn_121, zn_144, zn_256, zn_300, zn_600, zn_720, zn_1204, zn_1280, zn_2400, zn_4816, zn_14400, zn_90000]
        rw [nI_1]
        exact ⟨fun _ => ih _ _, fun _ => ih _ _⟩
      · rw [e2]
        simp only [zln, Option.map_some, zov, i_ic, i_lc, i_nul, i_il, i_ll, i_al, i_is, i_as, i_ls, i_inc, i_iadd, i_isub, i_imul, i_iand, i_ior, i_ixor, i_idiv, i_irem, i_ishl, i_ishr, i_ladd, i_lsub, i_land, i_lor, i_i2l, i_lushr, i_lshl, i_lshr, i_lcmp, i_dup, i_pop, i_dx1, i_dup2, i_ifeq, i_ifne, i_iflt, i_ifge, i_ifgt, i_ifle, i_iceq, i_icne, i_iclt, i_icge, i_icgt, i_icle, i_ifn, i_gf, i_pf, i_ial, i_bal, i_lal, i_aal, i_ias, i_las, i_bas, i_aas, i_alen, i_newa, i_new, i_anew, i_cast, i_oi, i_call, i_callV, i_callV2, i_callI, i_iret, i_zret, i_lret, i_vret, i_aret, i_mmx, i_mmn, i_gsE, i_aceq, i_no, i_acq, i_sw, zsw, zlg, zls, znl, zfg, zcs, zsp, zrc, zisn, zft, zc1, zto, Value.category, List.set_cons_zero, List.set_cons_succ, List.length_cons, List.length_nil, Option.toList, List.append, List.nil_append, List.cons_append, true_and, and_true, Nat.add_zero, Nat.zero_le, Nat.zero_add, Nat.le_refl, Nat.reduceAdd, Nat.reduceLeDiff, co0, z0, zn_0, zn_1, zn_2, zn_3, zn_4, zn_5, zn_8, zn_12, zn_24, zn_121, zn_144, zn_256, zn_300, zn_600, zn_720, zn_1204, zn_1280, zn_2400, zn_4816, zn_14400, zn_90000]
        rw [nI_1]
        exact ⟨fun _ => ih _ _, fun _ => ih _ _⟩
    · rw [e] at ih ⊢
      simp only [zln, Option.map_some, zov, i_ic, i_lc, i_nul, i_il, i_ll, i_al, i_is, i_as, i_ls, i_inc, i_iadd, i_isub, i_imul, i_iand, i_ior, i_ixor, i_idiv, i_irem, i_ishl, i_ishr, i_ladd, i_lsub, i_land, i_lor, i_i2l, i_lushr, i_lshl, i_lshr, i_lcmp, i_dup, i_pop, i_dx1, i_dup2, i_ifeq, i_ifne, i_iflt, i_ifge, i_ifgt, i_ifle, i_iceq, i_icne, i_iclt, i_icge, i_icgt, i_icle, i_ifn, i_gf, i_pf, i_ial, i_bal, i_lal, i_aal, i_ias, i_las, i_bas, i_aas, i_alen, i_newa, i_new, i_anew, i_cast, i_oi, i_call, i_callV, i_callV2, i_callI, i_iret, i_zret, i_lret, i_vret, i_aret, i_mmx, i_mmn, i_gsE, i_aceq, i_no, i_acq, i_sw, zsw, zlg, zls, znl, zfg, zcs, zsp, zrc, zisn, zft, zc1, zto, Value.category, List.set_cons_zero, List.set_cons_succ, List.length_cons, List.length_nil, Option.toList, List.append, List.nil_append, List.cons_append, true_and, and_true, Nat.add_zero, Nat.zero_le, Nat.zero_add, Nat.le_refl, Nat.reduceAdd, Nat.reduceLeDiff, co0, z0, zn_0, zn_1, zn_2, zn_3, zn_4, zn_5, zn_8, zn_12, zn_24, zn_121, zn_144, zn_256, zn_300, zn_600, zn_720, zn_1204, zn_1280, zn_2400, zn_4816, zn_14400, zn_90000, p_main, x_main]
      refine ⟨y, nI i, d, rfl, rfl, hdy, ?_⟩
      rcases lnF_c hIy (nI i) d with e2 | ⟨b, e2, hok2⟩
      · rw [e2] at ih ⊢
        simp only [zln, Option.map_none, zov, i_ic, i_lc, i_nul, i_il, i_ll, i_al, i_is, i_as, i_ls, i_inc, i_iadd, i_isub, i_imul, i_iand, i_ior, i_ixor, i_idiv, i_irem, i_ishl, i_ishr, i_ladd, i_lsub, i_land, i_lor, i_i2l, i_lushr, i_lshl, i_lshr, i_lcmp, i_dup, i_pop, i_dx1, i_dup2, i_ifeq, i_ifne, i_iflt, i_ifge, i_ifgt, i_ifle, i_iceq, i_icne, i_iclt, i_icge, i_icgt, i_icle, i_ifn, i_gf, i_pf, i_ial, i_bal, i_lal, i_aal, i_ias, i_las, i_bas, i_aas, i_alen, i_newa, i_new, i_anew, i_cast, i_oi, i_call, i_callV, i_callV2, i_callI, i_iret, i_zret, i_lret, i_vret, i_aret, i_mmx, i_mmn, i_gsE, i_aceq, i_no, i_acq, i_sw, zsw, zlg, zls, znl, zfg, zcs, zsp, zrc, zisn, zft, zc1, zto, Value.category, List.set_cons_zero, List.set_cons_succ, List.length_cons, List.length_nil, Option.toList, List.append, List.nil_append, List.cons_append, true_and, and_true, Nat.add_zero, Nat.zero_le, Nat.zero_add, Nat.le_refl, Nat.reduceAdd, Nat.reduceLeDiff, co0, z0, zn_0, zn_1, zn_2, zn_3, zn_4, zn_5, zn_8, zn_12, zn_24, zn_121, zn_144, zn_256, zn_300, zn_600, zn_720, zn_1204, zn_1280, zn_2400, zn_4816, zn_14400, zn_90000]
        rw [nI_1]
        exact ⟨fun _ => ih _ _, fun _ => ih _ _⟩
      · rw [e2] at ih ⊢
        simp only [zln, Option.map_some, zov, p_main, x_main, p_lane hok2.1, x_lane, i_ic, i_lc, i_nul, i_il, i_ll, i_al, i_is, i_as, i_ls, i_inc, i_iadd, i_isub, i_imul, i_iand, i_ior, i_ixor, i_idiv, i_irem, i_ishl, i_ishr, i_ladd, i_lsub, i_land, i_lor, i_i2l, i_lushr, i_lshl, i_lshr, i_lcmp, i_dup, i_pop, i_dx1, i_dup2, i_ifeq, i_ifne, i_iflt, i_ifge, i_ifgt, i_ifle, i_iceq, i_icne, i_iclt, i_icge, i_icgt, i_icle, i_ifn, i_gf, i_pf, i_ial, i_bal, i_lal, i_aal, i_ias, i_las, i_bas, i_aas, i_alen, i_newa, i_new, i_anew, i_cast, i_oi, i_call, i_callV, i_callV2, i_callI, i_iret, i_zret, i_lret, i_vret, i_aret, i_mmx, i_mmn, i_gsE, i_aceq, i_no, i_acq, i_sw, zsw, zlg, zls, znl, zfg, zcs, zsp, zrc, zisn, zft, zc1, zto, Value.category, List.set_cons_zero, List.set_cons_succ, List.length_cons, List.length_nil, Option.toList, List.append, List.nil_append, List.cons_append, true_and, and_true, Nat.add_zero, Nat.zero_le, Nat.zero_add, Nat.le_refl, Nat.reduceAdd, Nat.reduceLeDiff, co0, z0, zn_0, zn_1, zn_2, zn_3, zn_4, zn_5, zn_8, zn_12, zn_24, zn_121, zn_144, zn_256, zn_300, zn_600, zn_720, zn_1204, zn_1280, zn_2400, zn_4816, zn_14400, zn_90000]
        rw [nI_1]
        refine ⟨fun hf => ?_, fun hf => ⟨y, k, 3, b, _, rfl, rfl, hIy, hk2, r_lb hok2.1, ?_⟩⟩
        · simp only [hf, not_true_eq_false, false_and, if_false] at ih
          exact ih _ _
        cases hin : it_in y (x_nf y k) (x_lb y b) with
        | false =>
          simp only [hin, Bool.false_eq_true, and_false, if_false] at ih
          exact ⟨fun _ => ih _ _, fun h => absurd rfl h⟩
        | true =>
          simp only [hin, hf, not_false_eq_true, and_self, if_true] at ih
          refine ⟨fun h => absurd h (by decide), fun _ => ?_⟩
          simp only [zov, p_lane hok.1, x_lane, p_ntc hk2, x_ntc, i_ic, i_lc, i_nul, i_il, i_ll, i_al, i_is, i_as, i_ls, i_inc, i_iadd, i_isub, i_imul, i_iand, i_ior, i_ixor, i_idiv, i_irem, i_ishl, i_ishr, i_ladd, i_lsub, i_land, i_lor, i_i2l, i_lushr, i_lshl, i_lshr, i_lcmp, i_dup, i_pop, i_dx1, i_dup2, i_ifeq, i_ifne, i_iflt, i_ifge, i_ifgt, i_ifle, i_iceq, i_icne, i_iclt, i_icge, i_icgt, i_icle, i_ifn, i_gf, i_pf, i_ial, i_bal, i_lal, i_aal, i_ias, i_las, i_bas, i_aas, i_alen, i_newa, i_new, i_anew, i_cast, i_oi, i_call, i_callV, i_callV2, i_callI, i_iret, i_zret, i_lret, i_vret, i_aret, i_mmx, i_mmn, i_gsE, i_aceq, i_no, i_acq, i_sw, zsw, zlg, zls, znl, zfg, zcs, zsp, zrc, zisn, zft, zc1, zto, Value.category, List.set_cons_zero, List.set_cons_succ, List.length_cons, List.length_nil, Option.toList, List.append, List.nil_append, List.cons_append, true_and, and_true, Nat.add_zero, Nat.zero_le, Nat.zero_add, Nat.le_refl, Nat.reduceAdd, Nat.reduceLeDiff, co0, z0, zn_0, zn_1, zn_2, zn_3, zn_4, zn_5, zn_8, zn_12, zn_24, zn_121, zn_144, zn_256, zn_300, zn_600, zn_720, zn_1204, zn_1280, zn_2400, zn_4816, zn_14400, zn_90000]
          refine ⟨y, a, nI k, rfl, rfl, hok, ?_⟩
          have hI1 := Iv_po1 (a := a) (k := k) hIy
          have hk1 := po_k1 y a k
          rw [show (if x_lz y a < 121 then la_push y a (nI k) else y) = po_1 y a k from rfl]
          generalize po_1 y a k = y1 at ih hI1 hk1
          have hk3 : k < x_on y1 := by rw [hk1.2]; exact hk2
          simp only [zov, p_main, x_main, p_ntc hk3, x_ntc, i_ic, i_lc, i_nul, i_il, i_ll, i_al, i_is, i_as, i_ls, i_inc, i_iadd, i_isub, i_imul, i_iand, i_ior, i_ixor, i_idiv, i_irem, i_ishl, i_ishr, i_ladd, i_lsub, i_land, i_lor, i_i2l, i_lushr, i_lshl, i_lshr, i_lcmp, i_dup, i_pop, i_dx1, i_dup2, i_ifeq, i_ifne, i_iflt, i_ifge, i_ifgt, i_ifle, i_iceq, i_icne, i_iclt, i_icge, i_icgt, i_icle, i_ifn, i_gf, i_pf, i_ial, i_bal, i_lal, i_aal, i_ias, i_las, i_bas, i_aas, i_alen, i_newa, i_new, i_anew, i_cast, i_oi, i_call, i_callV, i_callV2, i_callI, i_iret, i_zret, i_lret, i_vret, i_aret, i_mmx, i_mmn, i_gsE, i_aceq, i_no, i_acq, i_sw, zsw, zlg, zls, znl, zfg, zcs, zsp, zrc, zisn, zft, zc1, zto, Value.category, List.set_cons_zero, List.set_cons_succ, List.length_cons, List.length_nil, Option.toList, List.append, List.nil_append, List.cons_append, true_and, and_true, Nat.add_zero, Nat.zero_le, Nat.zero_add, Nat.le_refl, Nat.reduceAdd, Nat.reduceLeDiff, co0, z0, zn_0, zn_1, zn_2, zn_3, zn_4, zn_5, zn_8, zn_12, zn_24, zn_121, zn_144, zn_256, zn_300, zn_600, zn_720, zn_1204, zn_1280, zn_2400, zn_4816, zn_14400, zn_90000]
          refine ⟨m_k (by decide), by decide, ?_⟩
          have e3 := pu_nm y1 k (x_nm y1 k + 1) hk3
          simp only [x_ntc, g_dk_nm, g_lk_nm, g_po_nm, g_ne_nm, g_td_nm, g_nb_nm, g_ln_nm, g_nr_nm, g_nw_nm, g_nn_nm, g_ns_nm, g_or_nm, g_ow_nm, g_on_nm, g_nl_nm, g_ng_nm, g_rg_nm, g_lc_nm, g_cp_nm, g_gb_nm, g_sp_nm, g_kn_nm, g_me_nm, g_ob_nm, g_fk_nm, g_fz_nm, g_fg_nm, g_rd_nm, g_rz_nm, g_rh_nm, g_nd_nm, g_nm_nm, g_nv_nm, g_nh_nm, g_nf_nm, g_wr_nm, g_wa_nm, g_lz_nm, g_lf_nm, g_li_nm, g_lt_nm, g_lb_nm, g_lr_nm, g_tn_nm, g_tf_nm, va_up, if_true] at e3
          rw [e3]
          have e4 := pu_po (po_2 y1 k) (x_po (po_2 y1 k) + 1)
          have hI2 : Iv (po_2 y1 k) := hI1
          have hk4 : k < x_on (po_2 y1 k) := hk3
          rw [show u_nm y1 (va_up (x_nm y1) k (x_nm y1 k + 1)) = po_2 y1 k from rfl]
          generalize po_2 y1 k = y2 at ih hI2 hk4 e4
          simp only [zov, p_main, x_main, i_ic, i_lc, i_nul, i_il, i_ll, i_al, i_is, i_as, i_ls, i_inc, i_iadd, i_isub, i_imul, i_iand, i_ior, i_ixor, i_idiv, i_irem, i_ishl, i_ishr, i_ladd, i_lsub, i_land, i_lor, i_i2l, i_lushr, i_lshl, i_lshr, i_lcmp, i_dup, i_pop, i_dx1, i_dup2, i_ifeq, i_ifne, i_iflt, i_ifge, i_ifgt, i_ifle, i_iceq, i_icne, i_iclt, i_icge, i_icgt, i_icle, i_ifn, i_gf, i_pf, i_ial, i_bal, i_lal, i_aal, i_ias, i_las, i_bas, i_aas, i_alen, i_newa, i_new, i_anew, i_cast, i_oi, i_call, i_callV, i_callV2, i_callI, i_iret, i_zret, i_lret, i_vret, i_aret, i_mmx, i_mmn, i_gsE, i_aceq, i_no, i_acq, i_sw, zsw, zlg, zls, znl, zfg, zcs, zsp, zrc, zisn, zft, zc1, zto, Value.category, List.set_cons_zero, List.set_cons_succ, List.length_cons, List.length_nil, Option.toList, List.append, List.nil_append, List.cons_append, true_and, and_true, Nat.add_zero, Nat.zero_le, Nat.zero_add, Nat.le_refl, Nat.reduceAdd, Nat.reduceLeDiff, co0, z0, zn_0, zn_1, zn_2, zn_3, zn_4, zn_5, zn_8, zn_12, zn_24, zn_121, zn_144, zn_256, zn_300, zn_600, zn_720, zn_1204, zn_1280, zn_2400, zn_4816, zn_14400, zn_90000]
          refine ⟨m_k (by decide), by decide, ?_⟩
          simp only [x_main, g_dk_po, g_lk_po, g_po_po, g_ne_po, g_td_po, g_nb_po, g_ln_po, g_nr_po, g_nw_po, g_nn_po, g_ns_po, g_or_po, g_ow_po, g_on_po, g_nl_po, g_ng_po, g_rg_po, g_lc_po, g_cp_po, g_gb_po, g_sp_po, g_kn_po, g_me_po, g_ob_po, g_fk_po, g_fz_po, g_fg_po, g_rd_po, g_rz_po, g_rh_po, g_nd_po, g_nm_po, g_nv_po, g_nh_po, g_nf_po, g_wr_po, g_wa_po, g_lz_po, g_lf_po, g_li_po, g_lt_po, g_lb_po, g_lr_po, g_tn_po, g_tf_po] at e4
          rw [e4]
          rw [show u_po y2 (x_po y2 + 1) = po_3 y2 from rfl]
          have hI3 : Iv (po_3 y2) := hI2
          have hk5 : k < x_on (po_3 y2) := hk4
          generalize po_3 y2 = y3 at ih hI3 hk5
          simp only [zov, p_main, x_main, i_ic, i_lc, i_nul, i_il, i_ll, i_al, i_is, i_as, i_ls, i_inc, i_iadd, i_isub, i_imul, i_iand, i_ior, i_ixor, i_idiv, i_irem, i_ishl, i_ishr, i_ladd, i_lsub, i_land, i_lor, i_i2l, i_lushr, i_lshl, i_lshr, i_lcmp, i_dup, i_pop, i_dx1, i_dup2, i_ifeq, i_ifne, i_iflt, i_ifge, i_ifgt, i_ifle, i_iceq, i_icne, i_iclt, i_icge, i_icgt, i_icle, i_ifn, i_gf, i_pf, i_ial, i_bal, i_lal, i_aal, i_ias, i_las, i_bas, i_aas, i_alen, i_newa, i_new, i_anew, i_cast, i_oi, i_call, i_callV, i_callV2, i_callI, i_iret, i_zret, i_lret, i_vret, i_aret, i_mmx, i_mmn, i_gsE, i_aceq, i_no, i_acq, i_sw, zsw, zlg, zls, znl, zfg, zcs, zsp, zrc, zisn, zft, zc1, zto, Value.category, List.set_cons_zero, List.set_cons_succ, List.length_cons, List.length_nil, Option.toList, List.append, List.nil_append, List.cons_append, true_and, and_true, Nat.add_zero, Nat.zero_le, Nat.zero_add, Nat.le_refl, Nat.reduceAdd, Nat.reduceLeDiff, co0, z0, zn_0, zn_1, zn_2, zn_3, zn_4, zn_5, zn_8, zn_12, zn_24, zn_121, zn_144, zn_256, zn_300, zn_600, zn_720, zn_1204, zn_1280, zn_2400, zn_4816, zn_14400, zn_90000]
          refine ⟨y3, nI i, d, rfl, rfl, hI3.dk, ?_⟩
          simp only [zov, p_main, x_main, p_ntc hk5, x_ntc, i_ic, i_lc, i_nul, i_il, i_ll, i_al, i_is, i_as, i_ls, i_inc, i_iadd, i_isub, i_imul, i_iand, i_ior, i_ixor, i_idiv, i_irem, i_ishl, i_ishr, i_ladd, i_lsub, i_land, i_lor, i_i2l, i_lushr, i_lshl, i_lshr, i_lcmp, i_dup, i_pop, i_dx1, i_dup2, i_ifeq, i_ifne, i_iflt, i_ifge, i_ifgt, i_ifle, i_iceq, i_icne, i_iclt, i_icge, i_icgt, i_icle, i_ifn, i_gf, i_pf, i_ial, i_bal, i_lal, i_aal, i_ias, i_las, i_bas, i_aas, i_alen, i_newa, i_new, i_anew, i_cast, i_oi, i_call, i_callV, i_callV2, i_callI, i_iret, i_zret, i_lret, i_vret, i_aret, i_mmx, i_mmn, i_gsE, i_aceq, i_no, i_acq, i_sw, zsw, zlg, zls, znl, zfg, zcs, zsp, zrc, zisn, zft, zc1, zto, Value.category, List.set_cons_zero, List.set_cons_succ, List.length_cons, List.length_nil, Option.toList, List.append, List.nil_append, List.cons_append, true_and, and_true, Nat.add_zero, Nat.zero_le, Nat.zero_add, Nat.le_refl, Nat.reduceAdd, Nat.reduceLeDiff, co0, z0, zn_0, zn_1, zn_2, zn_3, zn_4, zn_5, zn_8, zn_12, zn_24, zn_121, zn_144, zn_256, zn_300, zn_600, zn_720, zn_1204, zn_1280, zn_2400, zn_4816, zn_14400, zn_90000]
          refine ⟨y3, k, _, rfl, rfl, hI3, hk5, ?_⟩
          unfold po_4 at ih
          simp only [zov, p_main, x_main, i_ic, i_lc, i_nul, i_il, i_ll, i_al, i_is, i_as, i_ls, i_inc, i_iadd, i_isub, i_imul, i_iand, i_ior, i_ixor, i_idiv, i_irem, i_ishl, i_ishr, i_ladd, i_lsub, i_land, i_lor, i_i2l, i_lushr, i_lshl, i_lshr, i_lcmp, i_dup, i_pop, i_dx1, i_dup2, i_ifeq, i_ifne, i_iflt, i_ifge, i_ifgt, i_ifle, i_iceq, i_icne, i_iclt, i_icge, i_icgt, i_icle, i_ifn, i_gf, i_pf, i_ial, i_bal, i_lal, i_aal, i_ias, i_las, i_bas, i_aas, i_alen, i_newa, i_new, i_anew, i_cast, i_oi, i_call, i_callV, i_callV2, i_callI, i_iret, i_zret, i_lret, i_vret, i_aret, i_mmx, i_mmn, i_gsE, i_aceq, i_no, i_acq, i_sw, zsw, zlg, zls, znl, zfg, zcs, zsp, zrc, zisn, zft, zc1, zto, Value.category, List.set_cons_zero, List.set_cons_succ, List.length_cons, List.length_nil, Option.toList, List.append, List.nil_append, List.cons_append, true_and, and_true, Nat.add_zero, Nat.zero_le, Nat.zero_add, Nat.le_refl, Nat.reduceAdd, Nat.reduceLeDiff, co0, z0, zn_0, zn_1, zn_2, zn_3, zn_4, zn_5, zn_8, zn_12, zn_24, zn_121, zn_144, zn_256, zn_300, zn_600, zn_720, zn_1204, zn_1280, zn_2400, zn_4816, zn_14400, zn_90000]
          cases hw : wt_at y3 (x_nf y3 k) (x_reach y3 (nI i) d) with
          | true =>
            simp only [hw, if_true] at ih
            exact ⟨fun _ => ih _ _, fun h => absurd h (by decide)⟩
          | false =>
            simp only [hw, Bool.false_eq_true, if_false] at ih
            refine ⟨fun h => absurd rfl h, fun _ => ⟨m_k (by decide), by decide, ?_⟩⟩
            have e5 := pu_ne y3 (x_ne y3 + 1)
            simp only [x_main, g_dk_ne, g_lk_ne, g_po_ne, g_ne_ne, g_td_ne, g_nb_ne, g_ln_ne, g_nr_ne, g_nw_ne, g_nn_ne, g_ns_ne, g_or_ne, g_ow_ne, g_on_ne, g_nl_ne, g_ng_ne, g_rg_ne, g_lc_ne, g_cp_ne, g_gb_ne, g_sp_ne, g_kn_ne, g_me_ne, g_ob_ne, g_fk_ne, g_fz_ne, g_fg_ne, g_rd_ne, g_rz_ne, g_rh_ne, g_nd_ne, g_nm_ne, g_nv_ne, g_nh_ne, g_nf_ne, g_wr_ne, g_wa_ne, g_lz_ne, g_lf_ne, g_li_ne, g_lt_ne, g_lb_ne, g_lr_ne, g_tn_ne, g_tf_ne] at e5
            rw [e5]
            exact ih _ _) (fun j5 j6 => by
    have hky := po_kn x k d f (x_dk x)
    refine s_WR_passOn_3 hC hN _ _ _ _ _ ?_
    simp only [B_WR_passOn_0, B_WR_passOn_3, B_WR_passOn_113, B_WR_passOn_119, co_Lane_putNotice, co_WR_isInTable, co_WR_isWantedAt, co_WR_laneFrom, co_WR_passOn, co_WR_reach, i_ic, i_lc, i_nul, i_il, i_ll, i_al, i_is, i_as, i_ls, i_inc, i_iadd, i_isub, i_imul, i_iand, i_ior, i_ixor, i_idiv, i_irem, i_ishl, i_ishr, i_ladd, i_lsub, i_land, i_lor, i_i2l, i_lushr, i_lshl, i_lshr, i_lcmp, i_dup, i_pop, i_dx1, i_dup2, i_ifeq, i_ifne, i_iflt, i_ifge, i_ifgt, i_ifle, i_iceq, i_icne, i_iclt, i_icge, i_icgt, i_icle, i_ifn, i_gf, i_pf, i_ial, i_bal, i_lal, i_aal, i_ias, i_las, i_bas, i_aas, i_alen, i_newa, i_new, i_anew, i_cast, i_oi, i_call, i_callV, i_callV2, i_callI, i_iret, i_zret, i_lret, i_vret, i_aret, i_mmx, i_mmn, i_gsE, i_aceq, i_no, i_acq, i_sw, zsw, zlg, zls, znl, zfg, zcs, zsp, zrc, zisn, zft, zc1, zto, Value.category, List.set_cons_zero, List.set_cons_succ, List.length_cons, List.length_nil, Option.toList, List.append, List.nil_append, List.cons_append, true_and, and_true, Nat.add_zero, Nat.zero_le, Nat.zero_add, Nat.le_refl, Nat.reduceAdd, Nat.reduceLeDiff, co0, z0, zn_0, zn_1, zn_2, zn_3, zn_4, zn_5, zn_8, zn_12, zn_24, zn_121, zn_144, zn_256, zn_300, zn_600, zn_720, zn_1204, zn_1280, zn_2400, zn_4816, zn_14400, zn_90000, p_main, x_main]
    rw [hky.1]
    exact ⟨fun _ => hR, fun h => absurd ((zK (K := x_dk x) (by omega) (n := x_dk x) (by omega)).2.1.mpr (Nat.le_refl _)) h⟩) 0 (Nat.zero_le _)
  refine s_WR_passOn_0 hC hN _ _ _ _ _ ?_
  simp only [B_WR_passOn_0, B_WR_passOn_3, B_WR_passOn_113, B_WR_passOn_119, co_Lane_putNotice, co_WR_isInTable, co_WR_isWantedAt, co_WR_laneFrom, co_WR_passOn, co_WR_reach, i_ic, i_lc, i_nul, i_il, i_ll, i_al, i_is, i_as, i_ls, i_inc, i_iadd, i_isub, i_imul, i_iand, i_ior, i_ixor, i_idiv, i_irem, i_ishl, i_ishr, i_ladd, i_lsub, i_land, i_lor, i_i2l, i_lushr, i_lshl, i_lshr, i_lcmp, i_dup, i_pop, i_dx1, i_dup2, i_ifeq, i_ifne, i_iflt, i_ifge, i_ifgt, i_ifle, i_iceq, i_icne, i_iclt, i_icge, i_icgt, i_icle, i_ifn, i_gf, i_pf, i_ial, i_bal, i_lal, i_aal, i_ias, i_las, i_bas, i_aas, i_alen, i_newa, i_new, i_anew, i_cast, i_oi, i_call, i_callV, i_callV2, i_callI, i_iret, i_zret, i_lret, i_vret, i_aret, i_mmx, i_mmn, i_gsE, i_aceq, i_no, i_acq, i_sw, zsw, zlg, zls, znl, zfg, zcs, zsp, zrc, zisn, zft, zc1, zto, Value.category, List.set_cons_zero, List.set_cons_succ, List.length_cons, List.length_nil, Option.toList, List.append, List.nil_append, List.cons_append, true_and, and_true, Nat.add_zero, Nat.zero_le, Nat.zero_add, Nat.le_refl, Nat.reduceAdd, Nat.reduceLeDiff, co0, z0, zn_0, zn_1, zn_2, zn_3, zn_4, zn_5, zn_8, zn_12, zn_24, zn_121, zn_144, zn_256, zn_300, zn_600, zn_720, zn_1204, zn_1280, zn_2400, zn_4816, zn_14400, zn_90000]
  exact loop _ _
