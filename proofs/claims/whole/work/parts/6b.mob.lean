/-! the reference: comes -/
theorem an_1 (x : Int32) : (x &&& 1) = 0 ∨ (x &&& 1) = 1 := by
  have h1 : ∀ i, i < 32 → i ≠ 0 → bt (x &&& 1) i = false := fun i hi h0 => by
    have : ∀ i, i < 32 → i ≠ 0 → bt 1 i = false := by decide +kernel
    rw [b_and, this i hi h0, Bool.and_false]
  have h2 : ∀ i, i < 32 → i ≠ 0 → bt 1 i = false := by decide +kernel
  cases h0 : bt (x &&& 1) 0 with
  | false =>
    refine Or.inl (b_ext (fun i hi => ?_))
    rw [b_0]
    by_cases e : i = 0
    · rw [e]; exact h0
    · exact h1 i hi e
  | true =>
    refine Or.inr (b_ext (fun i hi => ?_))
    by_cases e : i = 0
    · rw [e, h0]; decide
    · rw [h1 i hi e, h2 i hi e]
theorem inm_1 (m d : Int32) : ((m >>> (d &&& 31)) &&& 1) = 1 ↔ inm m d = true := by
  unfold inm
  rw [zd_i]
  rcases an_1 (m >>> (d &&& 31)) with h | h
  · rw [h]; exact ⟨fun q => absurd q (by decide), fun q => absurd rfl q⟩
  · rw [h]; exact ⟨fun _ => by decide, fun _ => rfl⟩
/-- who hears, up to reader n -/
noncomputable def ch_s (z : zMS) (k d r : Nat) : zMS := if y_do z r = nI d ∧ y_hh z (600 * r + k) = false ∧ y_wants z r k = true then v_hm (v_he (v_hh z (va_up (y_hh z) (600 * r + k) true)) (upd (y_he z) (600 * r + y_hm z r) (nI k))) (va_up (y_hm z) r (y_hm z r + 1)) else z
noncomputable def ch (y : zMS) (k d : Nat) : Nat → zMS
  | 0 => v_wt y (upd (y_wt y) k (y_wt y k ||| (1 <<< (nI d &&& 31))))
  | n + 1 => ch_s (ch y k d n) k d n
noncomputable def y_is (z : zMS) (k d v n : Nat) : Bool := zd (∃ w, w < n ∧ zbit (sh (y_tb z) (5 * (12 * d + v))) w = true ∧ y_fit z w (y_f z k) = true)
/-- what passing on leaves: put, count, look whether it is needed -/
noncomputable def cs_1 (z : zMS) (k d v : Nat) : zMS := v_po (pu z d v (nI k)) (y_po z + 1)
noncomputable def cs_2 (z : zMS) (k d v : Nat) : zMS := v_ne (v_re z (re_x z v (nI d))) (y_ne z + (if y_need z k d v = true then 0 else 1))
noncomputable def cs (z : zMS) (k d : Nat) (f : Int32) (v : Nat) : zMS := if ¬ nI v = f ∧ y_lk z (12 * d + v) = true ∧ y_is z k d v (y_nw z) = true then cs_2 (cs_1 z k d v) k d v else z
noncomputable def cps (y : zMS) (k d : Nat) (f : Int32) : Nat → zMS
  | 0 => y
  | n + 1 => cs (cps y k d f n) k d f n
noncomputable def cm (y : zMS) (k d : Nat) (f : Int32) : zMS := cps (ch y k d (y_nr y)) k d f (y_dk y)
/-- what stays as the readers hear -/
def ch_k (y z : zMS) : Prop := y_dk z = y_dk y ∧ y_nr z = y_nr y ∧ y_nw z = y_nw y ∧ y_nn z = y_nn y ∧ y_cp z = y_cp y ∧ y_do z = y_do y
theorem ch_k1 (y : zMS) (k d r : Nat) : ch_k y (ch_s y k d r) := by
  unfold ch_s
  split <;> exact ⟨rfl, rfl, rfl, rfl, rfl, rfl⟩
theorem ch_kn (y : zMS) (k d : Nat) : ∀ n, ch_k y (ch y k d n)
  | 0 => ⟨rfl, rfl, rfl, rfl, rfl, rfl⟩
  | n + 1 => by
    obtain ⟨a1, a2, a3, a4, a5, a6⟩ := ch_kn y k d n
    obtain ⟨b1, b2, b3, b4, b5, b6⟩ := ch_k1 (ch y k d n) k d n
    exact ⟨b1.trans a1, b2.trans a2, b3.trans a3, b4.trans a4, b5.trans a5, b6.trans a6⟩
/-- readers to come have heard what they had -/
theorem ch_h (y : zMS) (k d : Nat) : ∀ n r, n ≤ r → k < 600 → y_hm (ch y k d n) r = y_hm y r ∧ y_hh (ch y k d n) (600 * r + k) = y_hh y (600 * r + k)
  | 0, _, _, _ => ⟨rfl, rfl⟩
  | n + 1, r, hr, hk => by
    have ih := ch_h y k d n r (by omega) hk
    show y_hm (ch_s (ch y k d n) k d n) r = _ ∧ y_hh (ch_s (ch y k d n) k d n) (600 * r + k) = _
    unfold ch_s
    split
    · refine ⟨?_, ?_⟩
      · show va_up (y_hm (ch y k d n)) n _ r = _
        rw [va_upo' _ _ (by omega)]; exact ih.1
      · show va_up (y_hh (ch y k d n)) (600 * n + k) true (600 * r + k) = _
        rw [va_upo' _ _ (by omega)]; exact ih.2
    · exact ih
theorem Jv_chs {z : zMS} {k d r : Nat} (h : Jv z) (hm : y_hm z r < 600 ∨ ¬ (y_do z r = nI d ∧ y_hh z (600 * r + k) = false)) : Jv (ch_s z k d r) := by
  unfold ch_s
  split
  · rename_i q
    refine ⟨h.dk, h.lim, h.cp, h.rdr, h.ro, h.ts, h.ms, h.gb, fun r' hr' => ?_⟩
    show va_up (y_hm z) r (y_hm z r + 1) r' ≤ 600
    by_cases e : r' = r
    · rw [e, va_ups']
      rcases hm with w | w
      · exact w
      · exact absurd ⟨q.1, q.2.1⟩ w
    · rw [va_upo' _ _ e]; exact h.hm r' hr'
  · exact h
/-- every reader that may hear has room -/
def ch_ok (y : zMS) (k d : Nat) : Prop := ∀ r, r < y_nr y → y_do y r = nI d → y_hh y (600 * r + k) = false → y_hm y r < 600
theorem Jv_ch {y : zMS} {k d : Nat} (h : Jv y) (hk : k < 600) (ho : ch_ok y k d) : ∀ n, n ≤ y_nr y → Jv (ch y k d n)
  | 0, _ => h
  | n + 1, hn => by
    refine Jv_chs (Jv_ch h hk ho n (by omega)) ?_
    have e := ch_h y k d n n (Nat.le_refl n) hk
    have e6 := (ch_kn y k d n).2.2.2.2.2
    by_cases q : y_do y n = nI d ∧ y_hh y (600 * n + k) = false
    · refine Or.inl ?_
      rw [e.1]; exact ho n (by omega) q.1 q.2
    · refine Or.inr ?_
      rw [e6, e.2]; exact q
/-- what stays as the notice is passed on -/
def cs_k (y z : zMS) : Prop := y_dk z = y_dk y ∧ y_nn z = y_nn y ∧ y_cp y ≤ y_cp z
theorem cs_kk (y : zMS) (k d : Nat) (f : Int32) (v : Nat) : cs_k y (cs y k d f v) := by
  unfold cs
  split
  · have h1 : y_dk (pu y d v (nI k)) = y_dk y := by unfold pu; split <;> rfl
    have h2 : y_nn (pu y d v (nI k)) = y_nn y := by unfold pu; split <;> rfl
    have h3 : y_cp y ≤ y_cp (pu y d v (nI k)) := by rw [pu_cp]; split <;> omega
    exact ⟨h1, h2, h3⟩
  · exact ⟨rfl, rfl, Nat.le_refl _⟩
theorem cs_kn (y : zMS) (k d : Nat) (f : Int32) : ∀ n, cs_k y (cps y k d f n)
  | 0 => ⟨rfl, rfl, Nat.le_refl _⟩
  | n + 1 => by
    obtain ⟨a1, a2, a3⟩ := cs_kn y k d f n
    obtain ⟨b1, b2, b3⟩ := cs_kk (cps y k d f n) k d f n
    exact ⟨b1.trans a1, b2.trans a2, Nat.le_trans a3 b3⟩
theorem Jv_cs {z : zMS} {k d v : Nat} {f : Int32} (h : Jv z) (hr : rm z) (hk : k < y_nn z) (hd : d < 12) (hv : v < 12) : Jv (cs z k d f v) := by
  unfold cs
  split
  · exact (show Jv (pu z d v (nI k)) from Jv_pu h hr hd hv (Or.inr ⟨k, hk, rfl⟩))
  · exact h
theorem Jv_cps {y : zMS} {k d : Nat} {f : Int32} (h : Jv y) (hk : k < y_nn y) (hd : d < 12) : ∀ n, n ≤ 12 → (∀ v, v < n → rm (cps y k d f v)) → Jv (cps y k d f n)
  | 0, _, _ => h
  | n + 1, hn, hr => Jv_cs (Jv_cps h hk hd n (by omega) (fun v hv => hr v (by omega))) (hr n (by omega)) (by rw [(cs_kn y k d f n).2.1]; exact hk) hd (by omega)
def cm_ok (y : zMS) (k d : Nat) (f : Int32) : Prop := ch_ok y k d ∧ ∀ v, v < y_dk y → rm (cps (ch y k d (y_nr y)) k d f v)
theorem Jv_cm {y : zMS} {k d : Nat} {f : Int32} (h : Jv y) (hk : k < y_nn y) (hd : d < 12) (ho : cm_ok y k d f) : Jv (cm y k d f) := by
  have hlim := h.lim
  exact Jv_cps (Jv_ch h (by omega) ho.1 _ (Nat.le_refl _)) (by rw [(ch_kn y k d _).2.2.2.1]; exact hk) hd _ h.dk ho.2
def T_Mo_comes (As : List zAV) (M : zMp) (Rt : Option zAV → zMp → Prop) (c1 c2 : Nat) : Prop := ∃ y k d f, As = [.inr (30, 0, 0), .inl (.int (nI k)), .inl (.int (nI d)), .inl (.int f)] ∧ M = mp y ∧ Jv y ∧ k < y_nn y ∧ d < y_dk y ∧ (inm (y_wt y k) (nI d) = true → Rt none (mp y)) ∧ (inm (y_wt y k) (nI d) = false → cm_ok y k d f ∧ y_cp (cm y k d f) - y_cp y ≤ c1 ∧ 16 * (y_cp (cm y k d f) - y_cp y) ≤ c2 ∧ Rt none (mp (cm y k d f)))
theorem dX7_comes_0 : decode cX7_comes 0 = .ok (.aload_n 0, 1) := by decide +kernel
theorem dX7_comes_1 : decode cX7_comes 1 = .ok (.getfield 38, 3) := by decide +kernel
theorem dX7_comes_4 : decode cX7_comes 4 = .ok (.iload_n 1, 1) := by decide +kernel
theorem dX7_comes_5 : decode cX7_comes 5 = .ok (.iaload, 1) := by decide +kernel
theorem dX7_comes_6 : decode cX7_comes 6 = .ok (.iload_n 2, 1) := by decide +kernel
theorem dX7_comes_7 : decode cX7_comes 7 = .ok (.ishr, 1) := by decide +kernel
theorem dX7_comes_8 : decode cX7_comes 8 = .ok (.iconst 1, 1) := by decide +kernel
theorem dX7_comes_9 : decode cX7_comes 9 = .ok (.iand, 1) := by decide +kernel
theorem dX7_comes_10 : decode cX7_comes 10 = .ok (.iconst 1, 1) := by decide +kernel
theorem dX7_comes_11 : decode cX7_comes 11 = .ok (.if_icmp .ne 4, 3) := by decide +kernel
theorem dX7_comes_14 : decode cX7_comes 14 = .ok (.return_, 1) := by decide +kernel
theorem dX7_comes_15 : decode cX7_comes 15 = .ok (.aload_n 0, 1) := by decide +kernel
theorem dX7_comes_16 : decode cX7_comes 16 = .ok (.getfield 38, 3) := by decide +kernel
theorem dX7_comes_19 : decode cX7_comes 19 = .ok (.iload_n 1, 1) := by decide +kernel
theorem dX7_comes_20 : decode cX7_comes 20 = .ok (.dup2, 1) := by decide +kernel
theorem dX7_comes_21 : decode cX7_comes 21 = .ok (.iaload, 1) := by decide +kernel
theorem dX7_comes_22 : decode cX7_comes 22 = .ok (.iconst 1, 1) := by decide +kernel
theorem dX7_comes_23 : decode cX7_comes 23 = .ok (.iload_n 2, 1) := by decide +kernel
theorem dX7_comes_24 : decode cX7_comes 24 = .ok (.ishl, 1) := by decide +kernel
theorem dX7_comes_25 : decode cX7_comes 25 = .ok (.ior, 1) := by decide +kernel
theorem dX7_comes_26 : decode cX7_comes 26 = .ok (.iastore, 1) := by decide +kernel
theorem dX7_comes_27 : decode cX7_comes 27 = .ok (.iconst 0, 1) := by decide +kernel
theorem dX7_comes_28 : decode cX7_comes 28 = .ok (.istore 4, 2) := by decide +kernel
theorem dX7_comes_30 : decode cX7_comes 30 = .ok (.iload 4, 2) := by decide +kernel
theorem dX7_comes_32 : decode cX7_comes 32 = .ok (.aload_n 0, 1) := by decide +kernel
theorem dX7_comes_33 : decode cX7_comes 33 = .ok (.getfield 161, 3) := by decide +kernel
theorem dX7_comes_36 : decode cX7_comes 36 = .ok (.if_icmp .ge 91, 3) := by decide +kernel
theorem dX7_comes_39 : decode cX7_comes 39 = .ok (.aload_n 0, 1) := by decide +kernel
theorem dX7_comes_40 : decode cX7_comes 40 = .ok (.getfield 13, 3) := by decide +kernel
theorem dX7_comes_43 : decode cX7_comes 43 = .ok (.iload 4, 2) := by decide +kernel
theorem dX7_comes_45 : decode cX7_comes 45 = .ok (.iaload, 1) := by decide +kernel
theorem dX7_comes_46 : decode cX7_comes 46 = .ok (.iload_n 2, 1) := by decide +kernel
theorem dX7_comes_47 : decode cX7_comes 47 = .ok (.if_icmp .ne 74, 3) := by decide +kernel
theorem dX7_comes_50 : decode cX7_comes 50 = .ok (.aload_n 0, 1) := by decide +kernel
theorem dX7_comes_51 : decode cX7_comes 51 = .ok (.getfield 41, 3) := by decide +kernel
theorem dX7_comes_54 : decode cX7_comes 54 = .ok (.sipush 600, 3) := by decide +kernel
theorem dX7_comes_57 : decode cX7_comes 57 = .ok (.iload 4, 2) := by decide +kernel
theorem dX7_comes_59 : decode cX7_comes 59 = .ok (.imul, 1) := by decide +kernel
theorem dX7_comes_60 : decode cX7_comes 60 = .ok (.iload_n 1, 1) := by decide +kernel
theorem dX7_comes_61 : decode cX7_comes 61 = .ok (.iadd, 1) := by decide +kernel
theorem dX7_comes_62 : decode cX7_comes 62 = .ok (.baload, 1) := by decide +kernel
theorem dX7_comes_63 : decode cX7_comes 63 = .ok (.ifCond .ne 58, 3) := by decide +kernel
theorem dX7_comes_66 : decode cX7_comes 66 = .ok (.aload_n 0, 1) := by decide +kernel
theorem dX7_comes_67 : decode cX7_comes 67 = .ok (.iload 4, 2) := by decide +kernel
theorem dX7_comes_69 : decode cX7_comes 69 = .ok (.iload_n 1, 1) := by decide +kernel
theorem dX7_comes_70 : decode cX7_comes 70 = .ok (.invokevirtual 178, 3) := by decide +kernel
theorem dX7_comes_73 : decode cX7_comes 73 = .ok (.ifCond .eq 48, 3) := by decide +kernel
theorem dX7_comes_76 : decode cX7_comes 76 = .ok (.aload_n 0, 1) := by decide +kernel
theorem dX7_comes_77 : decode cX7_comes 77 = .ok (.getfield 41, 3) := by decide +kernel
theorem dX7_comes_80 : decode cX7_comes 80 = .ok (.sipush 600, 3) := by decide +kernel
theorem dX7_comes_83 : decode cX7_comes 83 = .ok (.iload 4, 2) := by decide +kernel
theorem dX7_comes_85 : decode cX7_comes 85 = .ok (.imul, 1) := by decide +kernel
theorem dX7_comes_86 : decode cX7_comes 86 = .ok (.iload_n 1, 1) := by decide +kernel
theorem dX7_comes_87 : decode cX7_comes 87 = .ok (.iadd, 1) := by decide +kernel
theorem dX7_comes_88 : decode cX7_comes 88 = .ok (.iconst 1, 1) := by decide +kernel
theorem dX7_comes_89 : decode cX7_comes 89 = .ok (.bastore, 1) := by decide +kernel
theorem dX7_comes_90 : decode cX7_comes 90 = .ok (.aload_n 0, 1) := by decide +kernel
theorem dX7_comes_91 : decode cX7_comes 91 = .ok (.getfield 44, 3) := by decide +kernel
theorem dX7_comes_94 : decode cX7_comes 94 = .ok (.sipush 600, 3) := by decide +kernel
theorem dX7_comes_97 : decode cX7_comes 97 = .ok (.iload 4, 2) := by decide +kernel
theorem dX7_comes_99 : decode cX7_comes 99 = .ok (.imul, 1) := by decide +kernel
theorem dX7_comes_100 : decode cX7_comes 100 = .ok (.aload_n 0, 1) := by decide +kernel
theorem dX7_comes_101 : decode cX7_comes 101 = .ok (.getfield 47, 3) := by decide +kernel
theorem dX7_comes_104 : decode cX7_comes 104 = .ok (.iload 4, 2) := by decide +kernel
theorem dX7_comes_106 : decode cX7_comes 106 = .ok (.iaload, 1) := by decide +kernel
theorem dX7_comes_107 : decode cX7_comes 107 = .ok (.iadd, 1) := by decide +kernel
theorem dX7_comes_108 : decode cX7_comes 108 = .ok (.iload_n 1, 1) := by decide +kernel
theorem dX7_comes_109 : decode cX7_comes 109 = .ok (.iastore, 1) := by decide +kernel
theorem dX7_comes_110 : decode cX7_comes 110 = .ok (.aload_n 0, 1) := by decide +kernel
theorem dX7_comes_111 : decode cX7_comes 111 = .ok (.getfield 47, 3) := by decide +kernel
theorem dX7_comes_114 : decode cX7_comes 114 = .ok (.iload 4, 2) := by decide +kernel
theorem dX7_comes_116 : decode cX7_comes 116 = .ok (.dup2, 1) := by decide +kernel
theorem dX7_comes_117 : decode cX7_comes 117 = .ok (.iaload, 1) := by decide +kernel
theorem dX7_comes_118 : decode cX7_comes 118 = .ok (.iconst 1, 1) := by decide +kernel
theorem dX7_comes_119 : decode cX7_comes 119 = .ok (.iadd, 1) := by decide +kernel
theorem dX7_comes_120 : decode cX7_comes 120 = .ok (.iastore, 1) := by decide +kernel
theorem dX7_comes_121 : decode cX7_comes 121 = .ok (.iinc 4 1, 3) := by decide +kernel
theorem dX7_comes_124 : decode cX7_comes 124 = .ok (.goto (-94), 3) := by decide +kernel
theorem dX7_comes_127 : decode cX7_comes 127 = .ok (.iconst 0, 1) := by decide +kernel
theorem dX7_comes_128 : decode cX7_comes 128 = .ok (.istore 4, 2) := by decide +kernel
theorem dX7_comes_130 : decode cX7_comes 130 = .ok (.iload 4, 2) := by decide +kernel
theorem dX7_comes_132 : decode cX7_comes 132 = .ok (.aload_n 0, 1) := by decide +kernel
theorem dX7_comes_133 : decode cX7_comes 133 = .ok (.getfield 91, 3) := by decide +kernel
theorem dX7_comes_136 : decode cX7_comes 136 = .ok (.if_icmp .ge 139, 3) := by decide +kernel
theorem dX7_comes_139 : decode cX7_comes 139 = .ok (.iload 4, 2) := by decide +kernel
theorem dX7_comes_141 : decode cX7_comes 141 = .ok (.iload_n 3, 1) := by decide +kernel
theorem dX7_comes_142 : decode cX7_comes 142 = .ok (.if_icmp .eq 127, 3) := by decide +kernel
theorem dX7_comes_145 : decode cX7_comes 145 = .ok (.aload_n 0, 1) := by decide +kernel
theorem dX7_comes_146 : decode cX7_comes 146 = .ok (.iload_n 2, 1) := by decide +kernel
theorem dX7_comes_147 : decode cX7_comes 147 = .ok (.iload 4, 2) := by decide +kernel
theorem dX7_comes_149 : decode cX7_comes 149 = .ok (.invokevirtual 119, 3) := by decide +kernel
theorem dX7_comes_152 : decode cX7_comes 152 = .ok (.ifCond .ne 6, 3) := by decide +kernel
theorem dX7_comes_155 : decode cX7_comes 155 = .ok (.goto 114, 3) := by decide +kernel
theorem dX7_comes_158 : decode cX7_comes 158 = .ok (.iconst 0, 1) := by decide +kernel
theorem dX7_comes_159 : decode cX7_comes 159 = .ok (.istore 5, 2) := by decide +kernel
theorem dX7_comes_161 : decode cX7_comes 161 = .ok (.iconst 0, 1) := by decide +kernel
theorem dX7_comes_162 : decode cX7_comes 162 = .ok (.istore 6, 2) := by decide +kernel
theorem dX7_comes_164 : decode cX7_comes 164 = .ok (.iload 6, 2) := by decide +kernel
theorem dX7_comes_166 : decode cX7_comes 166 = .ok (.aload_n 0, 1) := by decide +kernel
theorem dX7_comes_167 : decode cX7_comes 167 = .ok (.getfield 95, 3) := by decide +kernel
theorem dX7_comes_170 : decode cX7_comes 170 = .ok (.if_icmp .ge 49, 3) := by decide +kernel
theorem dX7_comes_173 : decode cX7_comes 173 = .ok (.iload 5, 2) := by decide +kernel
theorem dX7_comes_175 : decode cX7_comes 175 = .ok (.ifCond .ne 31, 3) := by decide +kernel
theorem dX7_comes_178 : decode cX7_comes 178 = .ok (.aload_n 0, 1) := by decide +kernel
theorem dX7_comes_179 : decode cX7_comes 179 = .ok (.getfield 50, 3) := by decide +kernel
theorem dX7_comes_182 : decode cX7_comes 182 = .ok (.iload_n 2, 1) := by decide +kernel
theorem dX7_comes_183 : decode cX7_comes 183 = .ok (.iload 4, 2) := by decide +kernel
theorem dX7_comes_185 : decode cX7_comes 185 = .ok (.invokestatic 122, 3) := by decide +kernel
theorem dX7_comes_188 : decode cX7_comes 188 = .ok (.iload 6, 2) := by decide +kernel
theorem dX7_comes_190 : decode cX7_comes 190 = .ok (.invokestatic 125, 3) := by decide +kernel
theorem dX7_comes_193 : decode cX7_comes 193 = .ok (.ifCond .eq 17, 3) := by decide +kernel
theorem dX7_comes_196 : decode cX7_comes 196 = .ok (.aload_n 0, 1) := by decide +kernel
theorem dX7_comes_197 : decode cX7_comes 197 = .ok (.iload 6, 2) := by decide +kernel
theorem dX7_comes_199 : decode cX7_comes 199 = .ok (.iload_n 1, 1) := by decide +kernel
theorem dX7_comes_200 : decode cX7_comes 200 = .ok (.invokevirtual 176, 3) := by decide +kernel
theorem dX7_comes_203 : decode cX7_comes 203 = .ok (.ifCond .eq 7, 3) := by decide +kernel
theorem dX7_comes_206 : decode cX7_comes 206 = .ok (.iconst 1, 1) := by decide +kernel
theorem dX7_comes_207 : decode cX7_comes 207 = .ok (.goto 4, 3) := by decide +kernel
theorem dX7_comes_210 : decode cX7_comes 210 = .ok (.iconst 0, 1) := by decide +kernel
theorem dX7_comes_211 : decode cX7_comes 211 = .ok (.istore 5, 2) := by decide +kernel
theorem dX7_comes_213 : decode cX7_comes 213 = .ok (.iinc 6 1, 3) := by decide +kernel
theorem dX7_comes_216 : decode cX7_comes 216 = .ok (.goto (-52), 3) := by decide +kernel
theorem dX7_comes_219 : decode cX7_comes 219 = .ok (.iload 5, 2) := by decide +kernel
theorem dX7_comes_221 : decode cX7_comes 221 = .ok (.ifCond .eq 48, 3) := by decide +kernel
theorem dX7_comes_224 : decode cX7_comes 224 = .ok (.aload_n 0, 1) := by decide +kernel
theorem dX7_comes_225 : decode cX7_comes 225 = .ok (.iload_n 2, 1) := by decide +kernel
theorem dX7_comes_226 : decode cX7_comes 226 = .ok (.iload 4, 2) := by decide +kernel
theorem dX7_comes_228 : decode cX7_comes 228 = .ok (.iload_n 1, 1) := by decide +kernel
theorem dX7_comes_229 : decode cX7_comes 229 = .ok (.invokevirtual 139, 3) := by decide +kernel
theorem dX7_comes_232 : decode cX7_comes 232 = .ok (.istore 6, 2) := by decide +kernel
theorem dX7_comes_234 : decode cX7_comes 234 = .ok (.aload_n 0, 1) := by decide +kernel
theorem dX7_comes_235 : decode cX7_comes 235 = .ok (.dup, 1) := by decide +kernel
theorem dX7_comes_236 : decode cX7_comes 236 = .ok (.getfield 181, 3) := by decide +kernel
theorem dX7_comes_239 : decode cX7_comes 239 = .ok (.iconst 1, 1) := by decide +kernel
theorem dX7_comes_240 : decode cX7_comes 240 = .ok (.iadd, 1) := by decide +kernel
theorem dX7_comes_241 : decode cX7_comes 241 = .ok (.putfield 181, 3) := by decide +kernel
theorem dX7_comes_244 : decode cX7_comes 244 = .ok (.aload_n 0, 1) := by decide +kernel
theorem dX7_comes_245 : decode cX7_comes 245 = .ok (.dup, 1) := by decide +kernel
theorem dX7_comes_246 : decode cX7_comes 246 = .ok (.getfield 184, 3) := by decide +kernel
theorem dX7_comes_249 : decode cX7_comes 249 = .ok (.aload_n 0, 1) := by decide +kernel
theorem dX7_comes_250 : decode cX7_comes 250 = .ok (.iload_n 1, 1) := by decide +kernel
theorem dX7_comes_251 : decode cX7_comes 251 = .ok (.iload_n 2, 1) := by decide +kernel
theorem dX7_comes_252 : decode cX7_comes 252 = .ok (.iload 4, 2) := by decide +kernel
theorem dX7_comes_254 : decode cX7_comes 254 = .ok (.invokevirtual 187, 3) := by decide +kernel
theorem dX7_comes_257 : decode cX7_comes 257 = .ok (.ifCond .eq 7, 3) := by decide +kernel
theorem dX7_comes_260 : decode cX7_comes 260 = .ok (.iconst 0, 1) := by decide +kernel
theorem dX7_comes_261 : decode cX7_comes 261 = .ok (.goto 4, 3) := by decide +kernel
theorem dX7_comes_264 : decode cX7_comes 264 = .ok (.iconst 1, 1) := by decide +kernel
theorem dX7_comes_265 : decode cX7_comes 265 = .ok (.iadd, 1) := by decide +kernel
theorem dX7_comes_266 : decode cX7_comes 266 = .ok (.putfield 184, 3) := by decide +kernel
theorem dX7_comes_269 : decode cX7_comes 269 = .ok (.iinc 4 1, 3) := by decide +kernel
theorem dX7_comes_272 : decode cX7_comes 272 = .ok (.goto (-142), 3) := by decide +kernel
theorem dX7_comes_275 : decode cX7_comes 275 = .ok (.return_, 1) := by decide +kernel
def B_Mo_comes_275 (mc ms : Nat) (Rt : Option zAV → zMp → Prop) (g : Nat → zKT) : zKT :=
  (i_vret mc ms Rt)
set_option maxRecDepth 20000 in
theorem s_Mo_comes_275 {X : zMa} {mc ms : Nat} {Rt : Option zAV → zMp → Prop} (hC : zCx X RX7 cX7_comes 5 119 mc ms (none) false Rt) (hN : zNL X = 7) : zLe (B_Mo_comes_275 mc ms Rt (zG X)) (zG X 275) :=
  (sd_vret hC dX7_comes_275)
def B_Mo_comes_269 (mc ms : Nat) (Rt : Option zAV → zMp → Prop) (g : Nat → zKT) : zKT :=
  (i_inc 4 1 (g 130))
set_option maxRecDepth 20000 in
theorem s_Mo_comes_269 {X : zMa} {mc ms : Nat} {Rt : Option zAV → zMp → Prop} (hC : zCx X RX7 cX7_comes 5 119 mc ms (none) false Rt) (hN : zNL X = 7) : zLe (B_Mo_comes_269 mc ms Rt (zG X)) (zG X 269) :=
  (sd_inc hC (by decide) (by rw [hN]; decide) dX7_comes_269 ((sd_goto hC (tgt := 130) (by decide) dX7_comes_272 (zLe_rfl))))
def B_Mo_comes_265 (mc ms : Nat) (Rt : Option zAV → zMp → Prop) (g : Nat → zKT) : zKT :=
  (i_iadd (i_pf 8 25 .int (B_Mo_comes_269 mc ms Rt g)))
set_option maxRecDepth 20000 in
theorem s_Mo_comes_265 {X : zMa} {mc ms : Nat} {Rt : Option zAV → zMp → Prop} (hC : zCx X RX7 cX7_comes 5 119 mc ms (none) false Rt) (hN : zNL X = 7) : zLe (B_Mo_comes_265 mc ms Rt (zG X)) (zG X 265) :=
  (sd_iadd hC dX7_comes_265 ((sd_pf hC (ci := 8) (fk := 25) rfl wi_Mo tyX7 tyX7_ok nmX7 (by decide) fl_Mo_184 (Or.inl rfl) (Or.inl rfl) dX7_comes_266 (s_Mo_comes_269 hC hN))))
def B_Mo_comes_264 (mc ms : Nat) (Rt : Option zAV → zMp → Prop) (g : Nat → zKT) : zKT :=
  (i_ic 1 (B_Mo_comes_265 mc ms Rt g))
set_option maxRecDepth 20000 in
theorem s_Mo_comes_264 {X : zMa} {mc ms : Nat} {Rt : Option zAV → zMp → Prop} (hC : zCx X RX7 cX7_comes 5 119 mc ms (none) false Rt) (hN : zNL X = 7) : zLe (B_Mo_comes_264 mc ms Rt (zG X)) (zG X 264) :=
  (sd_iconst hC (by decide) dX7_comes_264 (s_Mo_comes_265 hC hN))
def B_Mo_comes_219 (mc ms : Nat) (Rt : Option zAV → zMp → Prop) (g : Nat → zKT) : zKT :=
  (i_il 5 (i_ifeq (B_Mo_comes_269 mc ms Rt g) (i_al 0 (i_il 2 (i_il 4 (i_il 1 (i_callV2 mc ms 8 4 T_Mo_put (i_is 6 (i_al 0 (i_dup (i_gf 8 24 (i_ic 1 (i_iadd (i_pf 8 24 .int (i_al 0 (i_dup (i_gf 8 25 (i_al 0 (i_il 1 (i_il 2 (i_il 4 (i_callV mc ms 8 4 T_Mo_isNeeded co_Mo_isNeeded (i_ifeq (B_Mo_comes_264 mc ms Rt g) (i_ic 0 (B_Mo_comes_265 mc ms Rt g)))))))))))))))))))))))))
set_option maxRecDepth 20000 in
theorem s_Mo_comes_219 {X : zMa} {mc ms : Nat} {Rt : Option zAV → zMp → Prop} (hC : zCx X RX7 cX7_comes 5 119 mc ms (none) false Rt) (hN : zNL X = 7) : zLe (B_Mo_comes_219 mc ms Rt (zG X)) (zG X 219) :=
  (sd_il hC dX7_comes_219 ((sd_ifeq hC (tgt := 269) (by decide) dX7_comes_221 (s_Mo_comes_269 hC hN) ((sd_al_n hC rfl dX7_comes_224 ((sd_il_n hC rfl dX7_comes_225 ((sd_il hC dX7_comes_226 ((sd_il_n hC rfl dX7_comes_228 ((sd_cV2 hC c_Mo_put yv_Mo_put (ci := 8) rfl rfl ml_Mo_139 (by decide) (by decide) dX7_comes_229 ((sd_is hC (by rw [hN]; decide) dX7_comes_232 ((sd_al_n hC rfl dX7_comes_234 ((sd_dup hC dX7_comes_235 ((sd_gf hC (ci := 8) (fk := 24) rfl wi_Mo (by decide) fl_Mo_181 (Or.inl rfl) dX7_comes_236 ((sd_iconst hC (by decide) dX7_comes_239 ((sd_iadd hC dX7_comes_240 ((sd_pf hC (ci := 8) (fk := 24) rfl wi_Mo tyX7 tyX7_ok nmX7 (by decide) fl_Mo_181 (Or.inl rfl) (Or.inl rfl) dX7_comes_241 ((sd_al_n hC rfl dX7_comes_244 ((sd_dup hC dX7_comes_245 ((sd_gf hC (ci := 8) (fk := 25) rfl wi_Mo (by decide) fl_Mo_184 (Or.inl rfl) dX7_comes_246 ((sd_al_n hC rfl dX7_comes_249 ((sd_il_n hC rfl dX7_comes_250 ((sd_il_n hC rfl dX7_comes_251 ((sd_il hC dX7_comes_252 ((sd_cV hC c_Mo_isNeeded yv_Mo_isNeeded (ci := 8) rfl rfl ml_Mo_187 (by decide) (by decide) dX7_comes_254 ((sd_ifeq hC (tgt := 264) (by decide) dX7_comes_257 (s_Mo_comes_264 hC hN) ((sd_iconst hC (by decide) dX7_comes_260 ((sd_goto hC (tgt := 265) (by decide) dX7_comes_261 (s_Mo_comes_265 hC hN))))))))))))))))))))))))))))))))))))))))))))))))))
def B_Mo_comes_211 (mc ms : Nat) (Rt : Option zAV → zMp → Prop) (g : Nat → zKT) : zKT :=
  (i_is 5 (i_inc 6 1 (g 164)))
set_option maxRecDepth 20000 in
theorem s_Mo_comes_211 {X : zMa} {mc ms : Nat} {Rt : Option zAV → zMp → Prop} (hC : zCx X RX7 cX7_comes 5 119 mc ms (none) false Rt) (hN : zNL X = 7) : zLe (B_Mo_comes_211 mc ms Rt (zG X)) (zG X 211) :=
  (sd_is hC (by rw [hN]; decide) dX7_comes_211 ((sd_inc hC (by decide) (by rw [hN]; decide) dX7_comes_213 ((sd_goto hC (tgt := 164) (by decide) dX7_comes_216 (zLe_rfl))))))
def B_Mo_comes_210 (mc ms : Nat) (Rt : Option zAV → zMp → Prop) (g : Nat → zKT) : zKT :=
  (i_ic 0 (B_Mo_comes_211 mc ms Rt g))
set_option maxRecDepth 20000 in
theorem s_Mo_comes_210 {X : zMa} {mc ms : Nat} {Rt : Option zAV → zMp → Prop} (hC : zCx X RX7 cX7_comes 5 119 mc ms (none) false Rt) (hN : zNL X = 7) : zLe (B_Mo_comes_210 mc ms Rt (zG X)) (zG X 210) :=
  (sd_iconst hC (by decide) dX7_comes_210 (s_Mo_comes_211 hC hN))
def B_Mo_comes_206 (mc ms : Nat) (Rt : Option zAV → zMp → Prop) (g : Nat → zKT) : zKT :=
  (i_ic 1 (B_Mo_comes_211 mc ms Rt g))
set_option maxRecDepth 20000 in
theorem s_Mo_comes_206 {X : zMa} {mc ms : Nat} {Rt : Option zAV → zMp → Prop} (hC : zCx X RX7 cX7_comes 5 119 mc ms (none) false Rt) (hN : zNL X = 7) : zLe (B_Mo_comes_206 mc ms Rt (zG X)) (zG X 206) :=
  (sd_iconst hC (by decide) dX7_comes_206 ((sd_goto hC (tgt := 211) (by decide) dX7_comes_207 (s_Mo_comes_211 hC hN))))
def B_Mo_comes_164 (mc ms : Nat) (Rt : Option zAV → zMp → Prop) (g : Nat → zKT) : zKT :=
  (i_il 6 (i_al 0 (i_gf 8 2 (i_icge (B_Mo_comes_219 mc ms Rt g) (i_il 5 (i_ifne (B_Mo_comes_206 mc ms Rt g) (i_al 0 (i_gf 8 17 (i_il 2 (i_il 4 (i_call mc ms 2 T_Mo_rowOf co_Mo_rowOf (i_il 6 (i_call mc ms 3 T_Mo_has co_Mo_has (i_ifeq (B_Mo_comes_210 mc ms Rt g) (i_al 0 (i_il 6 (i_il 1 (i_callV mc ms 8 3 T_Mo_isFit2 co_Mo_isFit2 (i_ifeq (B_Mo_comes_210 mc ms Rt g) (B_Mo_comes_206 mc ms Rt g))))))))))))))))))))
set_option maxRecDepth 20000 in
theorem s_Mo_comes_164 {X : zMa} {mc ms : Nat} {Rt : Option zAV → zMp → Prop} (hC : zCx X RX7 cX7_comes 5 119 mc ms (none) false Rt) (hN : zNL X = 7) : zLe (B_Mo_comes_164 mc ms Rt (zG X)) (zG X 164) :=
  (sd_il hC dX7_comes_164 ((sd_al_n hC rfl dX7_comes_166 ((sd_gf hC (ci := 8) (fk := 2) rfl wi_Mo (by decide) fl_Mo_95 (Or.inl rfl) dX7_comes_167 ((sd_icge hC (tgt := 219) (by decide) dX7_comes_170 (s_Mo_comes_219 hC hN) ((sd_il hC dX7_comes_173 ((sd_ifne hC (tgt := 206) (by decide) dX7_comes_175 (s_Mo_comes_206 hC hN) ((sd_al_n hC rfl dX7_comes_178 ((sd_gf hC (ci := 8) (fk := 17) rfl wi_Mo (by decide) fl_Mo_50 (Or.inl rfl) dX7_comes_179 ((sd_il_n hC rfl dX7_comes_182 ((sd_il hC dX7_comes_183 ((sd_cS hC c_Mo_rowOf ys_Mo_rowOf ml_Mo_122 (by decide) (by decide) dX7_comes_185 ((sd_il hC dX7_comes_188 ((sd_cS hC c_Mo_has ys_Mo_has ml_Mo_125 (by decide) (by decide) dX7_comes_190 ((sd_ifeq hC (tgt := 210) (by decide) dX7_comes_193 (s_Mo_comes_210 hC hN) ((sd_al_n hC rfl dX7_comes_196 ((sd_il hC dX7_comes_197 ((sd_il_n hC rfl dX7_comes_199 ((sd_cV hC c_Mo_isFit2 yv_Mo_isFit2 (ci := 8) rfl rfl ml_Mo_176 (by decide) (by decide) dX7_comes_200 ((sd_ifeq hC (tgt := 210) (by decide) dX7_comes_203 (s_Mo_comes_210 hC hN) (s_Mo_comes_206 hC hN))))))))))))))))))))))))))))))))))))))
def B_Mo_comes_158 (mc ms : Nat) (Rt : Option zAV → zMp → Prop) (g : Nat → zKT) : zKT :=
  (i_ic 0 (i_is 5 (i_ic 0 (i_is 6 (g 164)))))
set_option maxRecDepth 20000 in
theorem s_Mo_comes_158 {X : zMa} {mc ms : Nat} {Rt : Option zAV → zMp → Prop} (hC : zCx X RX7 cX7_comes 5 119 mc ms (none) false Rt) (hN : zNL X = 7) : zLe (B_Mo_comes_158 mc ms Rt (zG X)) (zG X 158) :=
  (sd_iconst hC (by decide) dX7_comes_158 ((sd_is hC (by rw [hN]; decide) dX7_comes_159 ((sd_iconst hC (by decide) dX7_comes_161 ((sd_is hC (by rw [hN]; decide) dX7_comes_162 (zLe_rfl))))))))
def B_Mo_comes_130 (mc ms : Nat) (Rt : Option zAV → zMp → Prop) (g : Nat → zKT) : zKT :=
  (i_il 4 (i_al 0 (i_gf 8 0 (i_icge (B_Mo_comes_275 mc ms Rt g) (i_il 4 (i_il 3 (i_iceq (B_Mo_comes_269 mc ms Rt g) (i_al 0 (i_il 2 (i_il 4 (i_callV mc ms 8 3 T_Mo_isLinked co_Mo_isLinked (i_ifne (B_Mo_comes_158 mc ms Rt g) (B_Mo_comes_269 mc ms Rt g)))))))))))))
set_option maxRecDepth 20000 in
theorem s_Mo_comes_130 {X : zMa} {mc ms : Nat} {Rt : Option zAV → zMp → Prop} (hC : zCx X RX7 cX7_comes 5 119 mc ms (none) false Rt) (hN : zNL X = 7) : zLe (B_Mo_comes_130 mc ms Rt (zG X)) (zG X 130) :=
  (sd_il hC dX7_comes_130 ((sd_al_n hC rfl dX7_comes_132 ((sd_gf hC (ci := 8) (fk := 0) rfl wi_Mo (by decide) fl_Mo_91 (Or.inl rfl) dX7_comes_133 ((sd_icge hC (tgt := 275) (by decide) dX7_comes_136 (s_Mo_comes_275 hC hN) ((sd_il hC dX7_comes_139 ((sd_il_n hC rfl dX7_comes_141 ((sd_iceq hC (tgt := 269) (by decide) dX7_comes_142 (s_Mo_comes_269 hC hN) ((sd_al_n hC rfl dX7_comes_145 ((sd_il_n hC rfl dX7_comes_146 ((sd_il hC dX7_comes_147 ((sd_cV hC c_Mo_isLinked yv_Mo_isLinked (ci := 8) rfl rfl ml_Mo_119 (by decide) (by decide) dX7_comes_149 ((sd_ifne hC (tgt := 158) (by decide) dX7_comes_152 (s_Mo_comes_158 hC hN) ((sd_goto hC (tgt := 269) (by decide) dX7_comes_155 (s_Mo_comes_269 hC hN))))))))))))))))))))))))))
def B_Mo_comes_127 (mc ms : Nat) (Rt : Option zAV → zMp → Prop) (g : Nat → zKT) : zKT :=
  (i_ic 0 (i_is 4 (g 130)))
set_option maxRecDepth 20000 in
theorem s_Mo_comes_127 {X : zMa} {mc ms : Nat} {Rt : Option zAV → zMp → Prop} (hC : zCx X RX7 cX7_comes 5 119 mc ms (none) false Rt) (hN : zNL X = 7) : zLe (B_Mo_comes_127 mc ms Rt (zG X)) (zG X 127) :=
  (sd_iconst hC (by decide) dX7_comes_127 ((sd_is hC (by rw [hN]; decide) dX7_comes_128 (zLe_rfl))))
def B_Mo_comes_121 (mc ms : Nat) (Rt : Option zAV → zMp → Prop) (g : Nat → zKT) : zKT :=
  (i_inc 4 1 (g 30))
set_option maxRecDepth 20000 in
theorem s_Mo_comes_121 {X : zMa} {mc ms : Nat} {Rt : Option zAV → zMp → Prop} (hC : zCx X RX7 cX7_comes 5 119 mc ms (none) false Rt) (hN : zNL X = 7) : zLe (B_Mo_comes_121 mc ms Rt (zG X)) (zG X 121) :=
  (sd_inc hC (by decide) (by rw [hN]; decide) dX7_comes_121 ((sd_goto hC (tgt := 30) (by decide) dX7_comes_124 (zLe_rfl))))
def B_Mo_comes_30 (mc ms : Nat) (Rt : Option zAV → zMp → Prop) (g : Nat → zKT) : zKT :=
  (i_il 4 (i_al 0 (i_gf 8 1 (i_icge (B_Mo_comes_127 mc ms Rt g) (i_al 0 (i_gf 8 5 (i_il 4 (i_ial (i_il 2 (i_icne (B_Mo_comes_121 mc ms Rt g) (i_al 0 (i_gf 8 14 (i_ic 600 (i_il 4 (i_imul (i_il 1 (i_iadd (i_bal (i_ifne (B_Mo_comes_121 mc ms Rt g) (i_al 0 (i_il 4 (i_il 1 (i_callV mc ms 8 3 T_Mo_wants co_Mo_wants (i_ifeq (B_Mo_comes_121 mc ms Rt g) (i_al 0 (i_gf 8 14 (i_ic 600 (i_il 4 (i_imul (i_il 1 (i_iadd (i_ic 1 (i_bas (i_al 0 (i_gf 8 15 (i_ic 600 (i_il 4 (i_imul (i_al 0 (i_gf 8 16 (i_il 4 (i_ial (i_iadd (i_il 1 (i_ias (i_al 0 (i_gf 8 16 (i_il 4 (i_dup2 (i_ial (i_ic 1 (i_iadd (i_ias (B_Mo_comes_121 mc ms Rt g))))))))))))))))))))))))))))))))))))))))))))))))))))))
set_option maxRecDepth 20000 in
theorem s_Mo_comes_30 {X : zMa} {mc ms : Nat} {Rt : Option zAV → zMp → Prop} (hC : zCx X RX7 cX7_comes 5 119 mc ms (none) false Rt) (hN : zNL X = 7) : zLe (B_Mo_comes_30 mc ms Rt (zG X)) (zG X 30) :=
  (sd_il hC dX7_comes_30 ((sd_al_n hC rfl dX7_comes_32 ((sd_gf hC (ci := 8) (fk := 1) rfl wi_Mo (by decide) fl_Mo_161 (Or.inl rfl) dX7_comes_33 ((sd_icge hC (tgt := 127) (by decide) dX7_comes_36 (s_Mo_comes_127 hC hN) ((sd_al_n hC rfl dX7_comes_39 ((sd_gf hC (ci := 8) (fk := 5) rfl wi_Mo (by decide) fl_Mo_13 (Or.inl rfl) dX7_comes_40 ((sd_il hC dX7_comes_43 ((sd_ial hC dX7_comes_45 ((sd_il_n hC rfl dX7_comes_46 ((sd_icne hC (tgt := 121) (by decide) dX7_comes_47 (s_Mo_comes_121 hC hN) ((sd_al_n hC rfl dX7_comes_50 ((sd_gf hC (ci := 8) (fk := 14) rfl wi_Mo (by decide) fl_Mo_41 (Or.inl rfl) dX7_comes_51 ((sd_sipush hC (by decide) dX7_comes_54 ((sd_il hC dX7_comes_57 ((sd_imul hC dX7_comes_59 ((sd_il_n hC rfl dX7_comes_60 ((sd_iadd hC dX7_comes_61 ((sd_bal hC dX7_comes_62 ((sd_ifne hC (tgt := 121) (by decide) dX7_comes_63 (s_Mo_comes_121 hC hN) ((sd_al_n hC rfl dX7_comes_66 ((sd_il hC dX7_comes_67 ((sd_il_n hC rfl dX7_comes_69 ((sd_cV hC c_Mo_wants yv_Mo_wants (ci := 8) rfl rfl ml_Mo_178 (by decide) (by decide) dX7_comes_70 ((sd_ifeq hC (tgt := 121) (by decide) dX7_comes_73 (s_Mo_comes_121 hC hN) ((sd_al_n hC rfl dX7_comes_76 ((sd_gf hC (ci := 8) (fk := 14) rfl wi_Mo (by decide) fl_Mo_41 (Or.inl rfl) dX7_comes_77 ((sd_sipush hC (by decide) dX7_comes_80 ((sd_il hC dX7_comes_83 ((sd_imul hC dX7_comes_85 ((sd_il_n hC rfl dX7_comes_86 ((sd_iadd hC dX7_comes_87 ((sd_iconst hC (by decide) dX7_comes_88 ((sd_bas hC dX7_comes_89 ((sd_al_n hC rfl dX7_comes_90 ((sd_gf hC (ci := 8) (fk := 15) rfl wi_Mo (by decide) fl_Mo_44 (Or.inl rfl) dX7_comes_91 ((sd_sipush hC (by decide) dX7_comes_94 ((sd_il hC dX7_comes_97 ((sd_imul hC dX7_comes_99 ((sd_al_n hC rfl dX7_comes_100 ((sd_gf hC (ci := 8) (fk := 16) rfl wi_Mo (by decide) fl_Mo_47 (Or.inl rfl) dX7_comes_101 ((sd_il hC dX7_comes_104 ((sd_ial hC dX7_comes_106 ((sd_iadd hC dX7_comes_107 ((sd_il_n hC rfl dX7_comes_108 ((sd_ias hC dX7_comes_109 ((sd_al_n hC rfl dX7_comes_110 ((sd_gf hC (ci := 8) (fk := 16) rfl wi_Mo (by decide) fl_Mo_47 (Or.inl rfl) dX7_comes_111 ((sd_il hC dX7_comes_114 ((sd_dup2 hC dX7_comes_116 ((sd_ial hC dX7_comes_117 ((sd_iconst hC (by decide) dX7_comes_118 ((sd_iadd hC dX7_comes_119 ((sd_ias hC dX7_comes_120 (s_Mo_comes_121 hC hN))))))))))))))))))))))))))))))))))))))))))))))))))))))))))))))))))))))))))))))))))))))))))))))))))))))))))
def B_Mo_comes_15 (mc ms : Nat) (Rt : Option zAV → zMp → Prop) (g : Nat → zKT) : zKT :=
  (i_al 0 (i_gf 8 13 (i_il 1 (i_dup2 (i_ial (i_ic 1 (i_il 2 (i_ishl (i_ior (i_ias (i_ic 0 (i_is 4 (g 30)))))))))))))
set_option maxRecDepth 20000 in
theorem s_Mo_comes_15 {X : zMa} {mc ms : Nat} {Rt : Option zAV → zMp → Prop} (hC : zCx X RX7 cX7_comes 5 119 mc ms (none) false Rt) (hN : zNL X = 7) : zLe (B_Mo_comes_15 mc ms Rt (zG X)) (zG X 15) :=
  (sd_al_n hC rfl dX7_comes_15 ((sd_gf hC (ci := 8) (fk := 13) rfl wi_Mo (by decide) fl_Mo_38 (Or.inl rfl) dX7_comes_16 ((sd_il_n hC rfl dX7_comes_19 ((sd_dup2 hC dX7_comes_20 ((sd_ial hC dX7_comes_21 ((sd_iconst hC (by decide) dX7_comes_22 ((sd_il_n hC rfl dX7_comes_23 ((sd_ishl hC dX7_comes_24 ((sd_ior hC dX7_comes_25 ((sd_ias hC dX7_comes_26 ((sd_iconst hC (by decide) dX7_comes_27 ((sd_is hC (by rw [hN]; decide) dX7_comes_28 (zLe_rfl))))))))))))))))))))))))
def B_Mo_comes_0 (mc ms : Nat) (Rt : Option zAV → zMp → Prop) (g : Nat → zKT) : zKT :=
  (i_al 0 (i_gf 8 13 (i_il 1 (i_ial (i_il 2 (i_ishr (i_ic 1 (i_iand (i_ic 1 (i_icne (B_Mo_comes_15 mc ms Rt g) (i_vret mc ms Rt)))))))))))
set_option maxRecDepth 20000 in
theorem s_Mo_comes_0 {X : zMa} {mc ms : Nat} {Rt : Option zAV → zMp → Prop} (hC : zCx X RX7 cX7_comes 5 119 mc ms (none) false Rt) (hN : zNL X = 7) : zLe (B_Mo_comes_0 mc ms Rt (zG X)) (zG X 0) :=
  (sd_al_n hC rfl dX7_comes_0 ((sd_gf hC (ci := 8) (fk := 13) rfl wi_Mo (by decide) fl_Mo_38 (Or.inl rfl) dX7_comes_1 ((sd_il_n hC rfl dX7_comes_4 ((sd_ial hC dX7_comes_5 ((sd_il_n hC rfl dX7_comes_6 ((sd_ishr hC dX7_comes_7 ((sd_iconst hC (by decide) dX7_comes_8 ((sd_iand hC dX7_comes_9 ((sd_iconst hC (by decide) dX7_comes_10 ((sd_icne hC (tgt := 15) (by decide) dX7_comes_11 (s_Mo_comes_15 hC hN) ((sd_vret hC dX7_comes_14)))))))))))))))))))))
theorem c_Mo_comes (l : Launch) : zCT2 l yX7_comes cX7_comes 7 (none) 5 119 T_Mo_comes := by
  intro As M Rt c1 c2 hT
  obtain ⟨y, k, d, f, rfl, rfl, hJ, hk, hd, hR0, hR1⟩ := hT
  have hdk := hJ.dk
  have hlim := hJ.lim
  refine zMet_of false (by decide +kernel) (fun h => by first | rfl | cases h) (Nat.le_of_ble_eq_true rfl) (fun X hN hC => ?_)
  show zG X 0 [some (.inr (30, 0, 0)), some (.inl (.int (nI k))), some (.inl (.int (nI d))), some (.inl (.int f)), none, none, none] [] (mp y) 0 0
  refine s_Mo_comes_0 hC hN _ _ _ _ _ ?_
  simp only [B_Mo_comes_0, B_Mo_comes_15, B_Mo_comes_30, B_Mo_comes_121, B_Mo_comes_127, B_Mo_comes_130, B_Mo_comes_158, B_Mo_comes_164, B_Mo_comes_206, B_Mo_comes_210, B_Mo_comes_211, B_Mo_comes_219, B_Mo_comes_264, B_Mo_comes_265, B_Mo_comes_269, B_Mo_comes_275, co_Mo_has, co_Mo_isFit2, co_Mo_isLinked, co_Mo_isNeeded, co_Mo_rowOf, co_Mo_wants, i_ic, i_lc, i_nul, i_il, i_ll, i_al, i_is, i_as, i_ls, i_inc, i_iadd, i_isub, i_imul, i_iand, i_ior, i_ixor, i_idiv, i_irem, i_ishl, i_ishr, i_ladd, i_lsub, i_land, i_lor, i_i2l, i_lushr, i_lshl, i_lshr, i_lcmp, i_dup, i_pop, i_dx1, i_dup2, i_ifeq, i_ifne, i_iflt, i_ifge, i_ifgt, i_ifle, i_iceq, i_icne, i_iclt, i_icge, i_icgt, i_icle, i_ifn, i_gf, i_pf, i_ial, i_bal, i_lal, i_aal, i_ias, i_las, i_bas, i_aas, i_alen, i_newa, i_new, i_anew, i_cast, i_oi, i_call, i_callV, i_callV2, i_callI, i_iret, i_zret, i_lret, i_vret, i_aret, i_mmx, i_mmn, i_gsE, i_aceq, i_no, i_acq, i_sw, zsw, zlg, zls, znl, zfg, zcs, zsp, zrc, zisn, zft, zc1, zto, Value.category, List.set_cons_zero, List.set_cons_succ, List.length_cons, List.length_nil, Option.toList, List.append, List.nil_append, List.cons_append, true_and, and_true, Nat.add_zero, Nat.zero_le, Nat.zero_add, Nat.le_refl, Nat.reduceAdd, Nat.reduceLeDiff, co0, z0, zn_0, zn_1, zn_2, zn_3, zn_4, zn_5, zn_8, zn_12, zn_24, zn_121, zn_144, zn_256, zn_300, zn_600, zn_720, zn_1204, zn_1280, zn_2400, zn_4816, zn_14400, zn_90000, q_main, m_main, q_wt, ar_4, ar_5, ar_12, ar_300, ar_600, ar_1200, ar_10, nI_add, ar_1, ar_2, ar_3, ar_2m]
  rw [nI_clamp (by omega), inm_1]
  refine ⟨vp_in_nI (by omega) (by decide), fun hb => ?_, fun hb => hR0 hb⟩
  have hb' : inm (y_wt y k) (nI d) = false := by
    cases h : inm (y_wt y k) (nI d) with
    | true => exact absurd h hb
    | false => rfl
  obtain ⟨⟨ho1, ho2⟩, hc1, hc2, hR⟩ := hR1 hb'
  refine ⟨vp_in_nI (by omega) (by decide), m_k (by decide), vp_in_nI (by omega) (by decide), ?_⟩
  rw [mu_wt]
  -- one desk
  have step : ∀ (z : zMS) (v : Nat), Jv z → rm z → y_dk z = y_dk y → y_nn z = y_nn y → v < y_dk y → y_cp y ≤ y_cp z → y_cp (cs z k d f v) ≤ y_cp (cm y k d f) → ∀ (K N : Nat), K + y_cp y ≤ y_cp z → N + 16 * y_cp y ≤ 16 * y_cp z → (∀ (K N : Nat), K + y_cp y ≤ y_cp (cs z k d f v) → N + 16 * y_cp y ≤ 16 * y_cp (cs z k d f v) → ∀ j5 j6 : Option zAV, zG X 130 [some (.inr (30, 0, 0)), some (.inl (.int (nI k))), some (.inl (.int (nI d))), some (.inl (.int f)), some (.inl (.int (nI (v + 1)))), j5, j6] [] (mp (cs z k d f v)) K N) → ∀ j5 j6 : Option zAV, zG X 130 [some (.inr (30, 0, 0)), some (.inl (.int (nI k))), some (.inl (.int (nI d))), some (.inl (.int f)), some (.inl (.int (nI v))), j5, j6] [] (mp z) K N := by
    intro z v hJz hrm hdz hnz hv hcz hct K N hK hN' hgo j5 j6
    have hmo := (cs_kk z k d f v).2.2
    have hK1 : K ≤ c1 := by omega
    have hN1 : N ≤ c2 := by omega
    have hlz := hJz.lim
    have hcpz := hJz.cp
    have next : ¬ (¬ nI v = f ∧ y_lk z (12 * d + v) = true ∧ y_is z k d v (y_nw z) = true) → ∀ j5 j6 : Option zAV, zG X 130 [some (.inr (30, 0, 0)), some (.inl (.int (nI k))), some (.inl (.int (nI d))), some (.inl (.int f)), some (.inl (.int (nI (v + 1)))), j5, j6] [] (mp z) K N := fun hn j5 j6 => by
      have e : cs z k d f v = z := by unfold cs; rw [if_neg hn]
      rw [e] at hgo
      exact hgo K N hK hN' j5 j6
    refine s_Mo_comes_130 hC hN _ _ _ _ _ ?_
    simp only [B_Mo_comes_0, B_Mo_comes_15, B_Mo_comes_30, B_Mo_comes_121, B_Mo_comes_127, B_Mo_comes_130, B_Mo_comes_158, B_Mo_comes_164, B_Mo_comes_206, B_Mo_comes_210, B_Mo_comes_211, B_Mo_comes_219, B_Mo_comes_264, B_Mo_comes_265, B_Mo_comes_269, B_Mo_comes_275, co_Mo_has, co_Mo_isFit2, co_Mo_isLinked, co_Mo_isNeeded, co_Mo_rowOf, co_Mo_wants, i_ic, i_lc, i_nul, i_il, i_ll, i_al, i_is, i_as, i_ls, i_inc, i_iadd, i_isub, i_imul, i_iand, i_ior, i_ixor, i_idiv, i_irem, i_ishl, i_ishr, i_ladd, i_lsub, i_land, i_lor, i_i2l, i_lushr, i_lshl, i_lshr, i_lcmp, i_dup, i_pop, i_dx1, i_dup2, i_ifeq, i_ifne, i_iflt, i_ifge, i_ifgt, i_ifle, i_iceq, i_icne, i_iclt, i_icge, i_icgt, i_icle, i_ifn, i_gf, i_pf, i_ial, i_bal, i_lal, i_aal, i_ias, i_las, i_bas, i_aas, i_alen, i_newa, i_new, i_anew, i_cast, i_oi, i_call, i_callV, i_callV2, i_callI, i_iret, i_zret, i_lret, i_vret, i_aret, i_mmx, i_mmn, i_gsE, i_aceq, i_no, i_acq, i_sw, zsw, zlg, zls, znl, zfg, zcs, zsp, zrc, zisn, zft, zc1, zto, Value.category, List.set_cons_zero, List.set_cons_succ, List.length_cons, List.length_nil, Option.toList, List.append, List.nil_append, List.cons_append, true_and, and_true, Nat.add_zero, Nat.zero_le, Nat.zero_add, Nat.le_refl, Nat.reduceAdd, Nat.reduceLeDiff, co0, z0, zn_0, zn_1, zn_2, zn_3, zn_4, zn_5, zn_8, zn_12, zn_24, zn_121, zn_144, zn_256, zn_300, zn_600, zn_720, zn_1204, zn_1280, zn_2400, zn_4816, zn_14400, zn_90000, q_main, m_main, hdz, ar_4, ar_5, ar_12, ar_300, ar_600, ar_1200, ar_10, nI_add, ar_1, ar_2, ar_3, ar_2m]
    refine ⟨fun h => absurd ((zK (K := y_dk y) (by omega) (n := v) (by omega)).2.1.mp h) (by omega), fun _ => ⟨fun h => next (fun q => q.1 h) _ _, fun hf => ⟨hK1, hN1, z, d, v, rfl, rfl, by omega, by omega, ?_⟩⟩⟩
    simp only [B_Mo_comes_0, B_Mo_comes_15, B_Mo_comes_30, B_Mo_comes_121, B_Mo_comes_127, B_Mo_comes_130, B_Mo_comes_158, B_Mo_comes_164, B_Mo_comes_206, B_Mo_comes_210, B_Mo_comes_211, B_Mo_comes_219, B_Mo_comes_264, B_Mo_comes_265, B_Mo_comes_269, B_Mo_comes_275, co_Mo_has, co_Mo_isFit2, co_Mo_isLinked, co_Mo_isNeeded, co_Mo_rowOf, co_Mo_wants, i_ic, i_lc, i_nul, i_il, i_ll, i_al, i_is, i_as, i_ls, i_inc, i_iadd, i_isub, i_imul, i_iand, i_ior, i_ixor, i_idiv, i_irem, i_ishl, i_ishr, i_ladd, i_lsub, i_land, i_lor, i_i2l, i_lushr, i_lshl, i_lshr, i_lcmp, i_dup, i_pop, i_dx1, i_dup2, i_ifeq, i_ifne, i_iflt, i_ifge, i_ifgt, i_ifle, i_iceq, i_icne, i_iclt, i_icge, i_icgt, i_icle, i_ifn, i_gf, i_pf, i_ial, i_bal, i_lal, i_aal, i_ias, i_las, i_bas, i_aas, i_alen, i_newa, i_new, i_anew, i_cast, i_oi, i_call, i_callV, i_callV2, i_callI, i_iret, i_zret, i_lret, i_vret, i_aret, i_mmx, i_mmn, i_gsE, i_aceq, i_no, i_acq, i_sw, zsw, zlg, zls, znl, zfg, zcs, zsp, zrc, zisn, zft, zc1, zto, Value.category, List.set_cons_zero, List.set_cons_succ, List.length_cons, List.length_nil, Option.toList, List.append, List.nil_append, List.cons_append, true_and, and_true, Nat.add_zero, Nat.zero_le, Nat.zero_add, Nat.le_refl, Nat.reduceAdd, Nat.reduceLeDiff, co0, z0, zn_0, zn_1, zn_2, zn_3, zn_4, zn_5, zn_8, zn_12, zn_24, zn_121, zn_144, zn_256, zn_300, zn_600, zn_720, zn_1204, zn_1280, zn_2400, zn_4816, zn_14400, zn_90000, q_main, m_main, ar_4, ar_5, ar_12, ar_300, ar_600, ar_1200, ar_10, nI_add, ar_1, ar_2, ar_3, ar_2m]
    refine ⟨fun hl => ?_, fun hl => next (fun q => by rw [zb_0.mp hl] at q; cases q.2.1) _ _⟩
    have hl' := zb_n0 hl
    have fin : ∀ b : Bool, b = y_is z k d v (y_nw z) → ∀ j6 : Option zAV, B_Mo_comes_219 c1 c2 Rt (zG X) [some (.inr (30, 0, 0)), some (.inl (.int (nI k))), some (.inl (.int (nI d))), some (.inl (.int f)), some (.inl (.int (nI v))), some (.inl (.int (zb b))), j6] [] (mp z) K N := by
      intro b hb j6
      simp only [B_Mo_comes_0, B_Mo_comes_15, B_Mo_comes_30, B_Mo_comes_121, B_Mo_comes_127, B_Mo_comes_130, B_Mo_comes_158, B_Mo_comes_164, B_Mo_comes_206, B_Mo_comes_210, B_Mo_comes_211, B_Mo_comes_219, B_Mo_comes_264, B_Mo_comes_265, B_Mo_comes_269, B_Mo_comes_275, co_Mo_has, co_Mo_isFit2, co_Mo_isLinked, co_Mo_isNeeded, co_Mo_rowOf, co_Mo_wants, i_ic, i_lc, i_nul, i_il, i_ll, i_al, i_is, i_as, i_ls, i_inc, i_iadd, i_isub, i_imul, i_iand, i_ior, i_ixor, i_idiv, i_irem, i_ishl, i_ishr, i_ladd, i_lsub, i_land, i_lor, i_i2l, i_lushr, i_lshl, i_lshr, i_lcmp, i_dup, i_pop, i_dx1, i_dup2, i_ifeq, i_ifne, i_iflt, i_ifge, i_ifgt, i_ifle, i_iceq, i_icne, i_iclt, i_icge, i_icgt, i_icle, i_ifn, i_gf, i_pf, i_ial, i_bal, i_lal, i_aal, i_ias, i_las, i_bas, i_aas, i_alen, i_newa, i_new, i_anew, i_cast, i_oi, i_call, i_callV, i_callV2, i_callI, i_iret, i_zret, i_lret, i_vret, i_aret, i_mmx, i_mmn, i_gsE, i_aceq, i_no, i_acq, i_sw, zsw, zlg, zls, znl, zfg, zcs, zsp, zrc, zisn, zft, zc1, zto, Value.category, List.set_cons_zero, List.set_cons_succ, List.length_cons, List.length_nil, Option.toList, List.append, List.nil_append, List.cons_append, true_and, and_true, Nat.add_zero, Nat.zero_le, Nat.zero_add, Nat.le_refl, Nat.reduceAdd, Nat.reduceLeDiff, co0, z0, zn_0, zn_1, zn_2, zn_3, zn_4, zn_5, zn_8, zn_12, zn_24, zn_121, zn_144, zn_256, zn_300, zn_600, zn_720, zn_1204, zn_1280, zn_2400, zn_4816, zn_14400, zn_90000, q_main, m_main, ar_4, ar_5, ar_12, ar_300, ar_600, ar_1200, ar_10, nI_add, ar_1, ar_2, ar_3, ar_2m]
      refine ⟨fun h => next (fun q => by rw [← hb, zb_0.mp h] at q; cases q.2.2) _ _, fun h => ?_⟩
      have his : y_is z k d v (y_nw z) = true := hb.symm.trans (zb_n0 h)
      have e : cs z k d f v = cs_2 (cs_1 z k d v) k d v := by unfold cs; rw [if_pos ⟨hf, hl', his⟩]
      rw [e] at hgo hct
      obtain ⟨cc, hcc⟩ : ∃ cc, cc = if y_ms z = y_cp z then y_cp z else 0 := ⟨_, rfl⟩
      have epu : y_cp (pu z d v (nI k)) = y_cp z + cc := by
        rw [pu_cp, hcc]; split <;> omega
      have hpc : y_ms z = y_cp z → y_cp z ≤ 8192 ∧ y_cp z ≤ cc ∧ 16 * y_cp z ≤ 16 * cc := fun q => by
        have := hrm q
        rw [hcc, if_pos q]
        exact ⟨this, Nat.le_refl _, Nat.le_refl _⟩
      have hct' : y_cp (pu z d v (nI k)) ≤ y_cp (cm y k d f) := hct
      have hJp : Jv (pu z d v (nI k)) := Jv_pu hJz hrm (by omega) (by omega) (Or.inr ⟨k, by omega, rfl⟩)
      have hdp : y_po (pu z d v (nI k)) = y_po z := by unfold pu; split <;> rfl
      refine ⟨cc, 16 * cc, by omega, by omega, z, d, v, nI k, rfl, rfl, hJz, hpc, ?_⟩
      have hg2 := hgo (K + cc) (N + 16 * cc) (by show K + cc + y_cp y ≤ y_cp (pu z d v (nI k)); omega) (by show N + 16 * cc + 16 * y_cp y ≤ 16 * y_cp (pu z d v (nI k)); omega)
      have e1 : cs_1 z k d v = v_po (pu z d v (nI k)) (y_po (pu z d v (nI k)) + 1) := by unfold cs_1; rw [hdp]
      rw [e1] at hg2
      have e2 := mu_po (pu z d v (nI k)) (y_po (pu z d v (nI k)) + 1)
      have hJ1 : Jv (v_po (pu z d v (nI k)) (y_po (pu z d v (nI k)) + 1)) := hJp
      simp only [m_main, k_dk_po, k_nr_po, k_nw_po, k_nn_po, k_ms_po, k_cp_po, k_po_po, k_ne_po, k_td_po, k_lk_po, k_do_po, k_ro_po, k_al_po, k_kd_po, k_mn_po, k_nu_po, k_fi_po, k_sa_po, k_wt_po, k_hh_po, k_he_po, k_hm_po, k_tb_po, k_to_po, k_fr_po, k_tt_po, k_wh_po, k_rw_po, k_lo_po, k_hi_po, k_cv_po, k_so_po, k_me_po, k_re_po, k_gb_po] at e2
      simp only [B_Mo_comes_0, B_Mo_comes_15, B_Mo_comes_30, B_Mo_comes_121, B_Mo_comes_127, B_Mo_comes_130, B_Mo_comes_158, B_Mo_comes_164, B_Mo_comes_206, B_Mo_comes_210, B_Mo_comes_211, B_Mo_comes_219, B_Mo_comes_264, B_Mo_comes_265, B_Mo_comes_269, B_Mo_comes_275, co_Mo_has, co_Mo_isFit2, co_Mo_isLinked, co_Mo_isNeeded, co_Mo_rowOf, co_Mo_wants, i_ic, i_lc, i_nul, i_il, i_ll, i_al, i_is, i_as, i_ls, i_inc, i_iadd, i_isub, i_imul, i_iand, i_ior, i_ixor, i_idiv, i_irem, i_ishl, i_ishr, i_ladd, i_lsub, i_land, i_lor, i_i2l, i_lushr, i_lshl, i_lshr, i_lcmp, i_dup, i_pop, i_dx1, i_dup2, i_ifeq, i_ifne, i_iflt, i_ifge, i_ifgt, i_ifle, i_iceq, i_icne, i_iclt, i_icge, i_icgt, i_icle, i_ifn, i_gf, i_pf, i_ial, i_bal, i_lal, i_aal, i_ias, i_las, i_bas, i_aas, i_alen, i_newa, i_new, i_anew, i_cast, i_oi, i_call, i_callV, i_callV2, i_callI, i_iret, i_zret, i_lret, i_vret, i_aret, i_mmx, i_mmn, i_gsE, i_aceq, i_no, i_acq, i_sw, zsw, zlg, zls, znl, zfg, zcs, zsp, zrc, zisn, zft, zc1, zto, Value.category, List.set_cons_zero, List.set_cons_succ, List.length_cons, List.length_nil, Option.toList, List.append, List.nil_append, List.cons_append, true_and, and_true, Nat.add_zero, Nat.zero_le, Nat.zero_add, Nat.le_refl, Nat.reduceAdd, Nat.reduceLeDiff, co0, z0, zn_0, zn_1, zn_2, zn_3, zn_4, zn_5, zn_8, zn_12, zn_24, zn_121, zn_144, zn_256, zn_300, zn_600, zn_720, zn_1204, zn_1280, zn_2400, zn_4816, zn_14400, zn_90000, q_main, m_main, ar_4, ar_5, ar_12, ar_300, ar_600, ar_1200, ar_10, nI_add, ar_1, ar_2, ar_3, ar_2m]
      rw [e2]
      refine ⟨m_k (by decide), by decide, ?_⟩
      generalize v_po (pu z d v (nI k)) (y_po (pu z d v (nI k)) + 1) = x at hg2 hJ1
      simp only [B_Mo_comes_0, B_Mo_comes_15, B_Mo_comes_30, B_Mo_comes_121, B_Mo_comes_127, B_Mo_comes_130, B_Mo_comes_158, B_Mo_comes_164, B_Mo_comes_206, B_Mo_comes_210, B_Mo_comes_211, B_Mo_comes_219, B_Mo_comes_264, B_Mo_comes_265, B_Mo_comes_269, B_Mo_comes_275, co_Mo_has, co_Mo_isFit2, co_Mo_isLinked, co_Mo_isNeeded, co_Mo_rowOf, co_Mo_wants, i_ic, i_lc, i_nul, i_il, i_ll, i_al, i_is, i_as, i_ls, i_inc, i_iadd, i_isub, i_imul, i_iand, i_ior, i_ixor, i_idiv, i_irem, i_ishl, i_ishr, i_ladd, i_lsub, i_land, i_lor, i_i2l, i_lushr, i_lshl, i_lshr, i_lcmp, i_dup, i_pop, i_dx1, i_dup2, i_ifeq, i_ifne, i_iflt, i_ifge, i_ifgt, i_ifle, i_iceq, i_icne, i_iclt, i_icge, i_icgt, i_icle, i_ifn, i_gf, i_pf, i_ial, i_bal, i_lal, i_aal, i_ias, i_las, i_bas, i_aas, i_alen, i_newa, i_new, i_anew, i_cast, i_oi, i_call, i_callV, i_callV2, i_callI, i_iret, i_zret, i_lret, i_vret, i_aret, i_mmx, i_mmn, i_gsE, i_aceq, i_no, i_acq, i_sw, zsw, zlg, zls, znl, zfg, zcs, zsp, zrc, zisn, zft, zc1, zto, Value.category, List.set_cons_zero, List.set_cons_succ, List.length_cons, List.length_nil, Option.toList, List.append, List.nil_append, List.cons_append, true_and, and_true, Nat.add_zero, Nat.zero_le, Nat.zero_add, Nat.le_refl, Nat.reduceAdd, Nat.reduceLeDiff, co0, z0, zn_0, zn_1, zn_2, zn_3, zn_4, zn_5, zn_8, zn_12, zn_24, zn_121, zn_144, zn_256, zn_300, zn_600, zn_720, zn_1204, zn_1280, zn_2400, zn_4816, zn_14400, zn_90000, q_main, m_main, ar_4, ar_5, ar_12, ar_300, ar_600, ar_1200, ar_10, nI_add, ar_1, ar_2, ar_3, ar_2m]
      refine ⟨by omega, by omega, x, k, d, v, rfl, rfl, hJ1, by omega, by omega, ?_⟩
      unfold cs_2 at hg2
      have e3 : y_ne (v_re x (re_x x v (nI d))) = y_ne x := rfl
      simp only [B_Mo_comes_0, B_Mo_comes_15, B_Mo_comes_30, B_Mo_comes_121, B_Mo_comes_127, B_Mo_comes_130, B_Mo_comes_158, B_Mo_comes_164, B_Mo_comes_206, B_Mo_comes_210, B_Mo_comes_211, B_Mo_comes_219, B_Mo_comes_264, B_Mo_comes_265, B_Mo_comes_269, B_Mo_comes_275, co_Mo_has, co_Mo_isFit2, co_Mo_isLinked, co_Mo_isNeeded, co_Mo_rowOf, co_Mo_wants, i_ic, i_lc, i_nul, i_il, i_ll, i_al, i_is, i_as, i_ls, i_inc, i_iadd, i_isub, i_imul, i_iand, i_ior, i_ixor, i_idiv, i_irem, i_ishl, i_ishr, i_ladd, i_lsub, i_land, i_lor, i_i2l, i_lushr, i_lshl, i_lshr, i_lcmp, i_dup, i_pop, i_dx1, i_dup2, i_ifeq, i_ifne, i_iflt, i_ifge, i_ifgt, i_ifle, i_iceq, i_icne, i_iclt, i_icge, i_icgt, i_icle, i_ifn, i_gf, i_pf, i_ial, i_bal, i_lal, i_aal, i_ias, i_las, i_bas, i_aas, i_alen, i_newa, i_new, i_anew, i_cast, i_oi, i_call, i_callV, i_callV2, i_callI, i_iret, i_zret, i_lret, i_vret, i_aret, i_mmx, i_mmn, i_gsE, i_aceq, i_no, i_acq, i_sw, zsw, zlg, zls, znl, zfg, zcs, zsp, zrc, zisn, zft, zc1, zto, Value.category, List.set_cons_zero, List.set_cons_succ, List.length_cons, List.length_nil, Option.toList, List.append, List.nil_append, List.cons_append, true_and, and_true, Nat.add_zero, Nat.zero_le, Nat.zero_add, Nat.le_refl, Nat.reduceAdd, Nat.reduceLeDiff, co0, z0, zn_0, zn_1, zn_2, zn_3, zn_4, zn_5, zn_8, zn_12, zn_24, zn_121, zn_144, zn_256, zn_300, zn_600, zn_720, zn_1204, zn_1280, zn_2400, zn_4816, zn_14400, zn_90000, q_main, m_main, ar_4, ar_5, ar_12, ar_300, ar_600, ar_1200, ar_10, nI_add, ar_1, ar_2, ar_3, ar_2m]
      refine ⟨fun h5 => ⟨m_k (by decide), by decide, ?_⟩, fun h5 => ⟨m_k (by decide), by decide, ?_⟩⟩
      · rw [if_neg (by rw [zb_0.mp h5]; decide), ← mu_ne] at hg2
        exact hg2 _ _
      · rw [if_pos (zb_n0 h5), ← mu_ne] at hg2
        exact hg2 _ _
    have inner := upto (N := y_nw z) (P := fun w => ∀ b : Bool, b = y_is z k d v w → zG X 164 [some (.inr (30, 0, 0)), some (.inl (.int (nI k))), some (.inl (.int (nI d))), some (.inl (.int f)), some (.inl (.int (nI v))), some (.inl (.int (zb b))), some (.inl (.int (nI w)))] [] (mp z) K N) (fun w hw ih b hb => by
      refine s_Mo_comes_164 hC hN _ _ _ _ _ ?_
      simp only [B_Mo_comes_0, B_Mo_comes_15, B_Mo_comes_30, B_Mo_comes_121, B_Mo_comes_127, B_Mo_comes_130, B_Mo_comes_158, B_Mo_comes_164, B_Mo_comes_206, B_Mo_comes_210, B_Mo_comes_211, B_Mo_comes_264, B_Mo_comes_265, B_Mo_comes_269, B_Mo_comes_275, co_Mo_has, co_Mo_isFit2, co_Mo_isLinked, co_Mo_isNeeded, co_Mo_rowOf, co_Mo_wants, i_ic, i_lc, i_nul, i_il, i_ll, i_al, i_is, i_as, i_ls, i_inc, i_iadd, i_isub, i_imul, i_iand, i_ior, i_ixor, i_idiv, i_irem, i_ishl, i_ishr, i_ladd, i_lsub, i_land, i_lor, i_i2l, i_lushr, i_lshl, i_lshr, i_lcmp, i_dup, i_pop, i_dx1, i_dup2, i_ifeq, i_ifne, i_iflt, i_ifge, i_ifgt, i_ifle, i_iceq, i_icne, i_iclt, i_icge, i_icgt, i_icle, i_ifn, i_gf, i_pf, i_ial, i_bal, i_lal, i_aal, i_ias, i_las, i_bas, i_aas, i_alen, i_newa, i_new, i_anew, i_cast, i_oi, i_call, i_callV, i_callV2, i_callI, i_iret, i_zret, i_lret, i_vret, i_aret, i_mmx, i_mmn, i_gsE, i_aceq, i_no, i_acq, i_sw, zsw, zlg, zls, znl, zfg, zcs, zsp, zrc, zisn, zft, zc1, zto, Value.category, List.set_cons_zero, List.set_cons_succ, List.length_cons, List.length_nil, Option.toList, List.append, List.nil_append, List.cons_append, true_and, and_true, Nat.add_zero, Nat.zero_le, Nat.zero_add, Nat.le_refl, Nat.reduceAdd, Nat.reduceLeDiff, co0, z0, zn_0, zn_1, zn_2, zn_3, zn_4, zn_5, zn_8, zn_12, zn_24, zn_121, zn_144, zn_256, zn_300, zn_600, zn_720, zn_1204, zn_1280, zn_2400, zn_4816, zn_14400, zn_90000, q_main, m_main, q_tb, ar_4, ar_5, ar_12, ar_300, ar_600, ar_1200, ar_10, nI_add, ar_1, ar_2, ar_3, ar_2m]
      have yes : (∃ j, j < w + 1 ∧ zbit (sh (y_tb z) (5 * (12 * d + v))) j = true ∧ y_fit z j (y_f z k) = true) → zG X 164 [some (.inr (30, 0, 0)), some (.inl (.int (nI k))), some (.inl (.int (nI d))), some (.inl (.int f)), some (.inl (.int (nI v))), some (.inl (.int 1)), some (.inl (.int (nI (w + 1))))] [] (mp z) K N := fun q => ih true (zd_t q).symm
      have no : y_is z k d v w = false → ¬ (zbit (sh (y_tb z) (5 * (12 * d + v))) w = true ∧ y_fit z w (y_f z k) = true) → zG X 164 [some (.inr (30, 0, 0)), some (.inl (.int (nI k))), some (.inl (.int (nI d))), some (.inl (.int f)), some (.inl (.int (nI v))), some (.inl (.int 0)), some (.inl (.int (nI (w + 1))))] [] (mp z) K N := fun q1 q2 => ih false (zd_f (fun ⟨j, hj, w1, w2⟩ => by
        by_cases e : j = w
        · rw [e] at w1 w2; exact q2 ⟨w1, w2⟩
        · exact zd_n.mp q1 ⟨j, by omega, w1, w2⟩)).symm
      refine ⟨fun h => absurd ((zK (K := y_nw z) (by omega) (n := w) (by omega)).2.1.mp h) (by omega), fun _ => ⟨fun h => ?_, fun h => ⟨hK1, hN1, d, v, rfl, ?_⟩⟩⟩
      · obtain ⟨j, hj, w1, w2⟩ := zd_i.mp (hb.symm.trans (zb_n0 h))
        exact yes ⟨j, by omega, w1, w2⟩
      · have hf0 := hb.symm.trans (zb_0.mp h)
        simp only [B_Mo_comes_0, B_Mo_comes_15, B_Mo_comes_30, B_Mo_comes_121, B_Mo_comes_127, B_Mo_comes_130, B_Mo_comes_158, B_Mo_comes_164, B_Mo_comes_206, B_Mo_comes_210, B_Mo_comes_211, B_Mo_comes_264, B_Mo_comes_265, B_Mo_comes_269, B_Mo_comes_275, co_Mo_has, co_Mo_isFit2, co_Mo_isLinked, co_Mo_isNeeded, co_Mo_rowOf, co_Mo_wants, i_ic, i_lc, i_nul, i_il, i_ll, i_al, i_is, i_as, i_ls, i_inc, i_iadd, i_isub, i_imul, i_iand, i_ior, i_ixor, i_idiv, i_irem, i_ishl, i_ishr, i_ladd, i_lsub, i_land, i_lor, i_i2l, i_lushr, i_lshl, i_lshr, i_lcmp, i_dup, i_pop, i_dx1, i_dup2, i_ifeq, i_ifne, i_iflt, i_ifge, i_ifgt, i_ifle, i_iceq, i_icne, i_iclt, i_icge, i_icgt, i_icle, i_ifn, i_gf, i_pf, i_ial, i_bal, i_lal, i_aal, i_ias, i_las, i_bas, i_aas, i_alen, i_newa, i_new, i_anew, i_cast, i_oi, i_call, i_callV, i_callV2, i_callI, i_iret, i_zret, i_lret, i_vret, i_aret, i_mmx, i_mmn, i_gsE, i_aceq, i_no, i_acq, i_sw, zsw, zlg, zls, znl, zfg, zcs, zsp, zrc, zisn, zft, zc1, zto, Value.category, List.set_cons_zero, List.set_cons_succ, List.length_cons, List.length_nil, Option.toList, List.append, List.nil_append, List.cons_append, true_and, and_true, Nat.add_zero, Nat.zero_le, Nat.zero_add, Nat.le_refl, Nat.reduceAdd, Nat.reduceLeDiff, co0, z0, zn_0, zn_1, zn_2, zn_3, zn_4, zn_5, zn_8, zn_12, zn_24, zn_121, zn_144, zn_256, zn_300, zn_600, zn_720, zn_1204, zn_1280, zn_2400, zn_4816, zn_14400, zn_90000, q_main, m_main, q_tb, ar_4, ar_5, ar_12, ar_300, ar_600, ar_1200, ar_10, nI_add, ar_1, ar_2, ar_3, ar_2m]
        refine ⟨hK1, hN1, (31, 17, 0), 720, y_tb z, 5 * (12 * d + v), w, rfl, q_tb z, by omega, by omega, by omega, ?_⟩
        simp only [B_Mo_comes_0, B_Mo_comes_15, B_Mo_comes_30, B_Mo_comes_121, B_Mo_comes_127, B_Mo_comes_130, B_Mo_comes_158, B_Mo_comes_164, B_Mo_comes_206, B_Mo_comes_210, B_Mo_comes_211, B_Mo_comes_264, B_Mo_comes_265, B_Mo_comes_269, B_Mo_comes_275, co_Mo_has, co_Mo_isFit2, co_Mo_isLinked, co_Mo_isNeeded, co_Mo_rowOf, co_Mo_wants, i_ic, i_lc, i_nul, i_il, i_ll, i_al, i_is, i_as, i_ls, i_inc, i_iadd, i_isub, i_imul, i_iand, i_ior, i_ixor, i_idiv, i_irem, i_ishl, i_ishr, i_ladd, i_lsub, i_land, i_lor, i_i2l, i_lushr, i_lshl, i_lshr, i_lcmp, i_dup, i_pop, i_dx1, i_dup2, i_ifeq, i_ifne, i_iflt, i_ifge, i_ifgt, i_ifle, i_iceq, i_icne, i_iclt, i_icge, i_icgt, i_icle, i_ifn, i_gf, i_pf, i_ial, i_bal, i_lal, i_aal, i_ias, i_las, i_bas, i_aas, i_alen, i_newa, i_new, i_anew, i_cast, i_oi, i_call, i_callV, i_callV2, i_callI, i_iret, i_zret, i_lret, i_vret, i_aret, i_mmx, i_mmn, i_gsE, i_aceq, i_no, i_acq, i_sw, zsw, zlg, zls, znl, zfg, zcs, zsp, zrc, zisn, zft, zc1, zto, Value.category, List.set_cons_zero, List.set_cons_succ, List.length_cons, List.length_nil, Option.toList, List.append, List.nil_append, List.cons_append, true_and, and_true, Nat.add_zero, Nat.zero_le, Nat.zero_add, Nat.le_refl, Nat.reduceAdd, Nat.reduceLeDiff, co0, z0, zn_0, zn_1, zn_2, zn_3, zn_4, zn_5, zn_8, zn_12, zn_24, zn_121, zn_144, zn_256, zn_300, zn_600, zn_720, zn_1204, zn_1280, zn_2400, zn_4816, zn_14400, zn_90000, q_main, m_main, q_tb, ar_4, ar_5, ar_12, ar_300, ar_600, ar_1200, ar_10, nI_add, ar_1, ar_2, ar_3, ar_2m]
        refine ⟨fun h2 => no hf0 (fun q => by rw [zb_0.mp h2] at q; cases q.1), fun h2 => ⟨hK1, hN1, z, w, k, rfl, rfl, by omega, by omega, hJz, ?_⟩⟩
        simp only [B_Mo_comes_0, B_Mo_comes_15, B_Mo_comes_30, B_Mo_comes_121, B_Mo_comes_127, B_Mo_comes_130, B_Mo_comes_158, B_Mo_comes_164, B_Mo_comes_206, B_Mo_comes_210, B_Mo_comes_211, B_Mo_comes_264, B_Mo_comes_265, B_Mo_comes_269, B_Mo_comes_275, co_Mo_has, co_Mo_isFit2, co_Mo_isLinked, co_Mo_isNeeded, co_Mo_rowOf, co_Mo_wants, i_ic, i_lc, i_nul, i_il, i_ll, i_al, i_is, i_as, i_ls, i_inc, i_iadd, i_isub, i_imul, i_iand, i_ior, i_ixor, i_idiv, i_irem, i_ishl, i_ishr, i_ladd, i_lsub, i_land, i_lor, i_i2l, i_lushr, i_lshl, i_lshr, i_lcmp, i_dup, i_pop, i_dx1, i_dup2, i_ifeq, i_ifne, i_iflt, i_ifge, i_ifgt, i_ifle, i_iceq, i_icne, i_iclt, i_icge, i_icgt, i_icle, i_ifn, i_gf, i_pf, i_ial, i_bal, i_lal, i_aal, i_ias, i_las, i_bas, i_aas, i_alen, i_newa, i_new, i_anew, i_cast, i_oi, i_call, i_callV, i_callV2, i_callI, i_iret, i_zret, i_lret, i_vret, i_aret, i_mmx, i_mmn, i_gsE, i_aceq, i_no, i_acq, i_sw, zsw, zlg, zls, znl, zfg, zcs, zsp, zrc, zisn, zft, zc1, zto, Value.category, List.set_cons_zero, List.set_cons_succ, List.length_cons, List.length_nil, Option.toList, List.append, List.nil_append, List.cons_append, true_and, and_true, Nat.add_zero, Nat.zero_le, Nat.zero_add, Nat.le_refl, Nat.reduceAdd, Nat.reduceLeDiff, co0, z0, zn_0, zn_1, zn_2, zn_3, zn_4, zn_5, zn_8, zn_12, zn_24, zn_121, zn_144, zn_256, zn_300, zn_600, zn_720, zn_1204, zn_1280, zn_2400, zn_4816, zn_14400, zn_90000, q_main, m_main, q_tb, ar_4, ar_5, ar_12, ar_300, ar_600, ar_1200, ar_10, nI_add, ar_1, ar_2, ar_3, ar_2m]
        exact ⟨fun h3 => no hf0 (fun q => by rw [zb_0.mp h3] at q; cases q.2), fun h3 => yes ⟨w, by omega, zb_n0 h2, zb_n0 h3⟩⟩) (fun b hb => by
      refine s_Mo_comes_164 hC hN _ _ _ _ _ ?_
      simp only [B_Mo_comes_0, B_Mo_comes_15, B_Mo_comes_30, B_Mo_comes_121, B_Mo_comes_127, B_Mo_comes_130, B_Mo_comes_158, B_Mo_comes_164, B_Mo_comes_206, B_Mo_comes_210, B_Mo_comes_211, B_Mo_comes_264, B_Mo_comes_265, B_Mo_comes_269, B_Mo_comes_275, co_Mo_has, co_Mo_isFit2, co_Mo_isLinked, co_Mo_isNeeded, co_Mo_rowOf, co_Mo_wants, i_ic, i_lc, i_nul, i_il, i_ll, i_al, i_is, i_as, i_ls, i_inc, i_iadd, i_isub, i_imul, i_iand, i_ior, i_ixor, i_idiv, i_irem, i_ishl, i_ishr, i_ladd, i_lsub, i_land, i_lor, i_i2l, i_lushr, i_lshl, i_lshr, i_lcmp, i_dup, i_pop, i_dx1, i_dup2, i_ifeq, i_ifne, i_iflt, i_ifge, i_ifgt, i_ifle, i_iceq, i_icne, i_iclt, i_icge, i_icgt, i_icle, i_ifn, i_gf, i_pf, i_ial, i_bal, i_lal, i_aal, i_ias, i_las, i_bas, i_aas, i_alen, i_newa, i_new, i_anew, i_cast, i_oi, i_call, i_callV, i_callV2, i_callI, i_iret, i_zret, i_lret, i_vret, i_aret, i_mmx, i_mmn, i_gsE, i_aceq, i_no, i_acq, i_sw, zsw, zlg, zls, znl, zfg, zcs, zsp, zrc, zisn, zft, zc1, zto, Value.category, List.set_cons_zero, List.set_cons_succ, List.length_cons, List.length_nil, Option.toList, List.append, List.nil_append, List.cons_append, true_and, and_true, Nat.add_zero, Nat.zero_le, Nat.zero_add, Nat.le_refl, Nat.reduceAdd, Nat.reduceLeDiff, co0, z0, zn_0, zn_1, zn_2, zn_3, zn_4, zn_5, zn_8, zn_12, zn_24, zn_121, zn_144, zn_256, zn_300, zn_600, zn_720, zn_1204, zn_1280, zn_2400, zn_4816, zn_14400, zn_90000, q_main, m_main, q_tb, ar_4, ar_5, ar_12, ar_300, ar_600, ar_1200, ar_10, nI_add, ar_1, ar_2, ar_3, ar_2m]
      exact ⟨fun _ => fin b hb _, fun h => absurd ((zK (K := y_nw z) (by omega) (n := y_nw z) (by omega)).2.1.mpr (Nat.le_refl _)) h⟩) 0 (Nat.zero_le _)
    exact inner false (zd_f (fun ⟨j, hj, _⟩ => Nat.not_lt_zero j hj)).symm
  have hkn := ch_kn y k d (y_nr y)
  have hJ1 : Jv (ch y k d (y_nr y)) := Jv_ch hJ (by omega) ho1 _ (Nat.le_refl _)
  have hcm : cm y k d f = cps (ch y k d (y_nr y)) k d f (y_dk y) := rfl
  have pas : ∀ (K N : Nat), K = 0 → N = 0 → ∀ j5 j6 : Option zAV, zG X 130 [some (.inr (30, 0, 0)), some (.inl (.int (nI k))), some (.inl (.int (nI d))), some (.inl (.int f)), some (.inl (.int (nI 0))), j5, j6] [] (mp (ch y k d (y_nr y))) K N := by
    generalize ch y k d (y_nr y) = y1 at hkn hJ1 hcm ho2
    obtain ⟨a1, a2, a3, a4, a5, a6⟩ := hkn
    have mono : ∀ {a b : Nat}, a ≤ b → y_cp (cps y1 k d f a) ≤ y_cp (cps y1 k d f b) := fun {a b} hab => by
      induction hab with
      | refl => exact Nat.le_refl _
      | step _ ih => exact Nat.le_trans ih (cs_kk _ _ _ _ _).2.2
    intro K N hK hN0 j5 j6
    subst hK hN0
    have lp := upto (N := y_dk y) (P := fun v => ∀ (K N : Nat), K + y_cp y ≤ y_cp (cps y1 k d f v) → N + 16 * y_cp y ≤ 16 * y_cp (cps y1 k d f v) → ∀ j5 j6 : Option zAV, zG X 130 [some (.inr (30, 0, 0)), some (.inl (.int (nI k))), some (.inl (.int (nI d))), some (.inl (.int f)), some (.inl (.int (nI v))), j5, j6] [] (mp (cps y1 k d f v)) K N) (fun v hv ih K N hK hN' j5 j6 => by
      have hJz : Jv (cps y1 k d f v) := Jv_cps hJ1 (by rw [a4]; exact hk) (by omega) v (by omega) (fun v' hv' => ho2 v' (by omega))
      obtain ⟨b1, b2, b3⟩ := cs_kn y1 k d f v
      exact step _ v hJz (ho2 v hv) (b1.trans a1) (b2.trans a4) hv (by rw [← a5]; exact b3) (by rw [hcm]; exact mono (a := v + 1) hv) K N hK hN' ih j5 j6) (fun K N hK hN' j5 j6 => by
      refine s_Mo_comes_130 hC hN _ _ _ _ _ ?_
      have e1 : y_dk (cps y1 k d f (y_dk y)) = y_dk y := (cs_kn y1 k d f _).1.trans a1
      simp only [B_Mo_comes_0, B_Mo_comes_15, B_Mo_comes_30, B_Mo_comes_121, B_Mo_comes_127, B_Mo_comes_130, B_Mo_comes_158, B_Mo_comes_164, B_Mo_comes_206, B_Mo_comes_210, B_Mo_comes_211, B_Mo_comes_219, B_Mo_comes_264, B_Mo_comes_265, B_Mo_comes_269, B_Mo_comes_275, co_Mo_has, co_Mo_isFit2, co_Mo_isLinked, co_Mo_isNeeded, co_Mo_rowOf, co_Mo_wants, i_ic, i_lc, i_nul, i_il, i_ll, i_al, i_is, i_as, i_ls, i_inc, i_iadd, i_isub, i_imul, i_iand, i_ior, i_ixor, i_idiv, i_irem, i_ishl, i_ishr, i_ladd, i_lsub, i_land, i_lor, i_i2l, i_lushr, i_lshl, i_lshr, i_lcmp, i_dup, i_pop, i_dx1, i_dup2, i_ifeq, i_ifne, i_iflt, i_ifge, i_ifgt, i_ifle, i_iceq, i_icne, i_iclt, i_icge, i_icgt, i_icle, i_ifn, i_gf, i_pf, i_ial, i_bal, i_lal, i_aal, i_ias, i_las, i_bas, i_aas, i_alen, i_newa, i_new, i_anew, i_cast, i_oi, i_call, i_callV, i_callV2, i_callI, i_iret, i_zret, i_lret, i_vret, i_aret, i_mmx, i_mmn, i_gsE, i_aceq, i_no, i_acq, i_sw, zsw, zlg, zls, znl, zfg, zcs, zsp, zrc, zisn, zft, zc1, zto, Value.category, List.set_cons_zero, List.set_cons_succ, List.length_cons, List.length_nil, Option.toList, List.append, List.nil_append, List.cons_append, true_and, and_true, Nat.add_zero, Nat.zero_le, Nat.zero_add, Nat.le_refl, Nat.reduceAdd, Nat.reduceLeDiff, co0, z0, zn_0, zn_1, zn_2, zn_3, zn_4, zn_5, zn_8, zn_12, zn_24, zn_121, zn_144, zn_256, zn_300, zn_600, zn_720, zn_1204, zn_1280, zn_2400, zn_4816, zn_14400, zn_90000, q_main, m_main, e1]
      rw [← hcm] at hK hN' ⊢
      exact ⟨fun _ => ⟨by omega, by omega, hR⟩, fun h => absurd ((zK (K := y_dk y) (by omega) (n := y_dk y) (by omega)).2.1.mpr (Nat.le_refl _)) h⟩) 0 (Nat.zero_le _)
    exact lp 0 0 (by show 0 + y_cp y ≤ y_cp y1; omega) (by show 0 + 16 * y_cp y ≤ 16 * y_cp y1; omega) j5 j6
  have hea := upto (N := y_nr y) (P := fun r => ∀ j5 j6 : Option zAV, zG X 30 [some (.inr (30, 0, 0)), some (.inl (.int (nI k))), some (.inl (.int (nI d))), some (.inl (.int f)), some (.inl (.int (nI r))), j5, j6] [] (mp (ch y k d r)) 0 0) (fun r hr ih j5 j6 => by
    have hJz := Jv_ch hJ (show k < 600 by omega) ho1 r (by omega)
    obtain ⟨a1, a2, a3, a4, a5, a6⟩ := ch_kn y k d r
    obtain ⟨m1, m2⟩ := ch_h y k d r r (Nat.le_refl r) (show k < 600 by omega)
    have hro := ho1 r hr
    simp only [ch] at ih
    rw [← a6, ← m1, ← m2] at hro
    generalize ch y k d r = z at ih hJz a1 a2 a3 a4 a5 a6 m1 m2 hro
    have next : ¬ (y_do z r = nI d ∧ y_hh z (600 * r + k) = false ∧ y_wants z r k = true) → ∀ j5 j6 : Option zAV, zG X 30 [some (.inr (30, 0, 0)), some (.inl (.int (nI k))), some (.inl (.int (nI d))), some (.inl (.int f)), some (.inl (.int (nI (r + 1)))), j5, j6] [] (mp z) 0 0 := fun hn j5 j6 => by
      unfold ch_s at ih
      rw [if_neg hn] at ih
      exact ih j5 j6
    refine s_Mo_comes_30 hC hN _ _ _ _ _ ?_
    simp only [B_Mo_comes_0, B_Mo_comes_15, B_Mo_comes_30, B_Mo_comes_121, B_Mo_comes_127, B_Mo_comes_130, B_Mo_comes_158, B_Mo_comes_164, B_Mo_comes_206, B_Mo_comes_210, B_Mo_comes_211, B_Mo_comes_219, B_Mo_comes_264, B_Mo_comes_265, B_Mo_comes_269, B_Mo_comes_275, co_Mo_has, co_Mo_isFit2, co_Mo_isLinked, co_Mo_isNeeded, co_Mo_rowOf, co_Mo_wants, i_ic, i_lc, i_nul, i_il, i_ll, i_al, i_is, i_as, i_ls, i_inc, i_iadd, i_isub, i_imul, i_iand, i_ior, i_ixor, i_idiv, i_irem, i_ishl, i_ishr, i_ladd, i_lsub, i_land, i_lor, i_i2l, i_lushr, i_lshl, i_lshr, i_lcmp, i_dup, i_pop, i_dx1, i_dup2, i_ifeq, i_ifne, i_iflt, i_ifge, i_ifgt, i_ifle, i_iceq, i_icne, i_iclt, i_icge, i_icgt, i_icle, i_ifn, i_gf, i_pf, i_ial, i_bal, i_lal, i_aal, i_ias, i_las, i_bas, i_aas, i_alen, i_newa, i_new, i_anew, i_cast, i_oi, i_call, i_callV, i_callV2, i_callI, i_iret, i_zret, i_lret, i_vret, i_aret, i_mmx, i_mmn, i_gsE, i_aceq, i_no, i_acq, i_sw, zsw, zlg, zls, znl, zfg, zcs, zsp, zrc, zisn, zft, zc1, zto, Value.category, List.set_cons_zero, List.set_cons_succ, List.length_cons, List.length_nil, Option.toList, List.append, List.nil_append, List.cons_append, true_and, and_true, Nat.add_zero, Nat.zero_le, Nat.zero_add, Nat.le_refl, Nat.reduceAdd, Nat.reduceLeDiff, co0, z0, zn_0, zn_1, zn_2, zn_3, zn_4, zn_5, zn_8, zn_12, zn_24, zn_121, zn_144, zn_256, zn_300, zn_600, zn_720, zn_1204, zn_1280, zn_2400, zn_4816, zn_14400, zn_90000, q_main, m_main, q_do, q_hh, a2, ar_4, ar_5, ar_12, ar_300, ar_600, ar_1200, ar_10, nI_add, ar_1, ar_2, ar_3, ar_2m]
    rw [nI_clamp (by omega), nI_clamp (by omega)]
    refine ⟨fun h => absurd ((zK (K := y_nr y) (by omega) (n := r) (by omega)).2.1.mp h) (by omega), fun _ => ⟨vp_in_nI (by omega) (by decide), fun h1 => next (fun q => h1 q.1) _ _, fun h1 => ⟨vp_in_nI (by omega) (by decide), fun h2 => next (fun q => by rw [zb_n0 h2] at q; cases q.2.1) _ _, fun h2 => ⟨z, r, k, rfl, rfl, hJz, by omega, by omega, ?_⟩⟩⟩⟩
    simp only [B_Mo_comes_0, B_Mo_comes_15, B_Mo_comes_30, B_Mo_comes_121, B_Mo_comes_127, B_Mo_comes_130, B_Mo_comes_158, B_Mo_comes_164, B_Mo_comes_206, B_Mo_comes_210, B_Mo_comes_211, B_Mo_comes_219, B_Mo_comes_264, B_Mo_comes_265, B_Mo_comes_269, B_Mo_comes_275, co_Mo_has, co_Mo_isFit2, co_Mo_isLinked, co_Mo_isNeeded, co_Mo_rowOf, co_Mo_wants, i_ic, i_lc, i_nul, i_il, i_ll, i_al, i_is, i_as, i_ls, i_inc, i_iadd, i_isub, i_imul, i_iand, i_ior, i_ixor, i_idiv, i_irem, i_ishl, i_ishr, i_ladd, i_lsub, i_land, i_lor, i_i2l, i_lushr, i_lshl, i_lshr, i_lcmp, i_dup, i_pop, i_dx1, i_dup2, i_ifeq, i_ifne, i_iflt, i_ifge, i_ifgt, i_ifle, i_iceq, i_icne, i_iclt, i_icge, i_icgt, i_icle, i_ifn, i_gf, i_pf, i_ial, i_bal, i_lal, i_aal, i_ias, i_las, i_bas, i_aas, i_alen, i_newa, i_new, i_anew, i_cast, i_oi, i_call, i_callV, i_callV2, i_callI, i_iret, i_zret, i_lret, i_vret, i_aret, i_mmx, i_mmn, i_gsE, i_aceq, i_no, i_acq, i_sw, zsw, zlg, zls, znl, zfg, zcs, zsp, zrc, zisn, zft, zc1, zto, Value.category, List.set_cons_zero, List.set_cons_succ, List.length_cons, List.length_nil, Option.toList, List.append, List.nil_append, List.cons_append, true_and, and_true, Nat.add_zero, Nat.zero_le, Nat.zero_add, Nat.le_refl, Nat.reduceAdd, Nat.reduceLeDiff, co0, z0, zn_0, zn_1, zn_2, zn_3, zn_4, zn_5, zn_8, zn_12, zn_24, zn_121, zn_144, zn_256, zn_300, zn_600, zn_720, zn_1204, zn_1280, zn_2400, zn_4816, zn_14400, zn_90000, q_main, m_main, q_hh, ar_4, ar_5, ar_12, ar_300, ar_600, ar_1200, ar_10, nI_add, ar_1, ar_2, ar_3, ar_2m]
    have h2' := zb_0.mp h2
    have hm := hro h1 h2'
    rw [nI_clamp (by omega), upd_b1, mu_hh]
    refine ⟨fun h3 => next (fun q => by rw [zb_0.mp h3] at q; cases q.2.2) _ _, fun h3 => ⟨m_k (by decide), vp_in_nI (by omega) (by decide), Or.inr trivial, ?_⟩⟩
    unfold ch_s at ih
    rw [if_pos ⟨h1, h2', zb_n0 h3⟩] at ih
    have e1 : y_hm (v_hh z (va_up (y_hh z) (600 * r + k) true)) = y_hm z := rfl
    have e2 : y_he (v_hh z (va_up (y_hh z) (600 * r + k) true)) = y_he z := rfl
    simp only [B_Mo_comes_0, B_Mo_comes_15, B_Mo_comes_30, B_Mo_comes_121, B_Mo_comes_127, B_Mo_comes_130, B_Mo_comes_158, B_Mo_comes_164, B_Mo_comes_206, B_Mo_comes_210, B_Mo_comes_211, B_Mo_comes_219, B_Mo_comes_264, B_Mo_comes_265, B_Mo_comes_269, B_Mo_comes_275, co_Mo_has, co_Mo_isFit2, co_Mo_isLinked, co_Mo_isNeeded, co_Mo_rowOf, co_Mo_wants, i_ic, i_lc, i_nul, i_il, i_ll, i_al, i_is, i_as, i_ls, i_inc, i_iadd, i_isub, i_imul, i_iand, i_ior, i_ixor, i_idiv, i_irem, i_ishl, i_ishr, i_ladd, i_lsub, i_land, i_lor, i_i2l, i_lushr, i_lshl, i_lshr, i_lcmp, i_dup, i_pop, i_dx1, i_dup2, i_ifeq, i_ifne, i_iflt, i_ifge, i_ifgt, i_ifle, i_iceq, i_icne, i_iclt, i_icge, i_icgt, i_icle, i_ifn, i_gf, i_pf, i_ial, i_bal, i_lal, i_aal, i_ias, i_las, i_bas, i_aas, i_alen, i_newa, i_new, i_anew, i_cast, i_oi, i_call, i_callV, i_callV2, i_callI, i_iret, i_zret, i_lret, i_vret, i_aret, i_mmx, i_mmn, i_gsE, i_aceq, i_no, i_acq, i_sw, zsw, zlg, zls, znl, zfg, zcs, zsp, zrc, zisn, zft, zc1, zto, Value.category, List.set_cons_zero, List.set_cons_succ, List.length_cons, List.length_nil, Option.toList, List.append, List.nil_append, List.cons_append, true_and, and_true, Nat.add_zero, Nat.zero_le, Nat.zero_add, Nat.le_refl, Nat.reduceAdd, Nat.reduceLeDiff, co0, z0, zn_0, zn_1, zn_2, zn_3, zn_4, zn_5, zn_8, zn_12, zn_24, zn_121, zn_144, zn_256, zn_300, zn_600, zn_720, zn_1204, zn_1280, zn_2400, zn_4816, zn_14400, zn_90000, q_main, m_main, q_he, q_hm, ar_4, ar_5, ar_12, ar_300, ar_600, ar_1200, ar_10, nI_add, ar_1, ar_2, ar_3, ar_2m]
    rw [e1, e2, nI_clamp (show r < 2 ^ 31 by omega), nI_clamp (show 600 * r + y_hm z r < 2 ^ 31 by omega), mu_he]
    refine ⟨vp_in_nI (by omega) (by decide), m_k (by decide), vp_in_nI (by omega) (by decide), ?_⟩
    have e3 : y_hm (v_he (v_hh z (va_up (y_hh z) (600 * r + k) true)) (upd (y_he z) (600 * r + y_hm z r) (nI k))) = y_hm z := rfl
    simp only [i_ic, i_lc, i_nul, i_il, i_ll, i_al, i_is, i_as, i_ls, i_inc, i_iadd, i_isub, i_imul, i_iand, i_ior, i_ixor, i_idiv, i_irem, i_ishl, i_ishr, i_ladd, i_lsub, i_land, i_lor, i_i2l, i_lushr, i_lshl, i_lshr, i_lcmp, i_dup, i_pop, i_dx1, i_dup2, i_ifeq, i_ifne, i_iflt, i_ifge, i_ifgt, i_ifle, i_iceq, i_icne, i_iclt, i_icge, i_icgt, i_icle, i_ifn, i_gf, i_pf, i_ial, i_bal, i_lal, i_aal, i_ias, i_las, i_bas, i_aas, i_alen, i_newa, i_new, i_anew, i_cast, i_oi, i_call, i_callV, i_callV2, i_callI, i_iret, i_zret, i_lret, i_vret, i_aret, i_mmx, i_mmn, i_gsE, i_aceq, i_no, i_acq, i_sw, zsw, zlg, zls, znl, zfg, zcs, zsp, zrc, zisn, zft, zc1, zto, Value.category, List.set_cons_zero, List.set_cons_succ, List.length_cons, List.length_nil, Option.toList, List.append, List.nil_append, List.cons_append, true_and, and_true, Nat.add_zero, Nat.zero_le, Nat.zero_add, Nat.le_refl, Nat.reduceAdd, Nat.reduceLeDiff, co0, z0, zn_0, zn_1, zn_2, zn_3, zn_4, zn_5, zn_8, zn_12, zn_24, zn_121, zn_144, zn_256, zn_300, zn_600, zn_720, zn_1204, zn_1280, zn_2400, zn_4816, zn_14400, zn_90000, q_main, m_main, q_hm, ar_4, ar_5, ar_12, ar_300, ar_600, ar_1200, ar_10, nI_add, ar_1, ar_2, ar_3, ar_2m]
    rw [nI_clamp (by omega), e3, upd_nt, mu_hm]
    exact ⟨vp_in_nI (by omega) (by decide), m_k (by decide), vp_in_nI (by omega) (by decide), ih _ _⟩) (fun j5 j6 => by
    refine s_Mo_comes_30 hC hN _ _ _ _ _ ?_
    have a2 := (ch_kn y k d (y_nr y)).2.1
    simp only [B_Mo_comes_0, B_Mo_comes_15, B_Mo_comes_30, B_Mo_comes_121, B_Mo_comes_127, B_Mo_comes_130, B_Mo_comes_158, B_Mo_comes_164, B_Mo_comes_206, B_Mo_comes_210, B_Mo_comes_211, B_Mo_comes_219, B_Mo_comes_264, B_Mo_comes_265, B_Mo_comes_269, B_Mo_comes_275, co_Mo_has, co_Mo_isFit2, co_Mo_isLinked, co_Mo_isNeeded, co_Mo_rowOf, co_Mo_wants, i_ic, i_lc, i_nul, i_il, i_ll, i_al, i_is, i_as, i_ls, i_inc, i_iadd, i_isub, i_imul, i_iand, i_ior, i_ixor, i_idiv, i_irem, i_ishl, i_ishr, i_ladd, i_lsub, i_land, i_lor, i_i2l, i_lushr, i_lshl, i_lshr, i_lcmp, i_dup, i_pop, i_dx1, i_dup2, i_ifeq, i_ifne, i_iflt, i_ifge, i_ifgt, i_ifle, i_iceq, i_icne, i_iclt, i_icge, i_icgt, i_icle, i_ifn, i_gf, i_pf, i_ial, i_bal, i_lal, i_aal, i_ias, i_las, i_bas, i_aas, i_alen, i_newa, i_new, i_anew, i_cast, i_oi, i_call, i_callV, i_callV2, i_callI, i_iret, i_zret, i_lret, i_vret, i_aret, i_mmx, i_mmn, i_gsE, i_aceq, i_no, i_acq, i_sw, zsw, zlg, zls, znl, zfg, zcs, zsp, zrc, zisn, zft, zc1, zto, Value.category, List.set_cons_zero, List.set_cons_succ, List.length_cons, List.length_nil, Option.toList, List.append, List.nil_append, List.cons_append, true_and, and_true, Nat.add_zero, Nat.zero_le, Nat.zero_add, Nat.le_refl, Nat.reduceAdd, Nat.reduceLeDiff, co0, z0, zn_0, zn_1, zn_2, zn_3, zn_4, zn_5, zn_8, zn_12, zn_24, zn_121, zn_144, zn_256, zn_300, zn_600, zn_720, zn_1204, zn_1280, zn_2400, zn_4816, zn_14400, zn_90000, q_main, m_main, a2]
    exact ⟨fun _ => pas 0 0 rfl rfl _ _, fun h => absurd ((zK (K := y_nr y) (by omega) (n := y_nr y) (by omega)).2.1.mpr (Nat.le_refl _)) h⟩) 0 (Nat.zero_le _)
  exact hea _ _
