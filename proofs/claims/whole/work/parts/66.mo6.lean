/-! the reference: tells -/
theorem Jv_ym {y : zMS} {a b : Nat → Int64} (h : Jv y) : Jv (ym y a b) := h
theorem Jv_mn {y : zMS} {u v : Nat} (h : Jv y) : Jv (mn_x y u v) := h
theorem Jv_pu1 {y : zMS} {u v : Nat} {s : Int32} (h : Jv y) (hm : y_ms y < y_cp y) (hu : u < 12) (hv : v < 12) (hs : s = -2 ∨ ∃ k, k < y_nn y ∧ s = nI k) : Jv (pu1 y u v s) := by
  refine ⟨h.dk, h.lim, ⟨hm, h.cp.2⟩, h.rdr, h.ro, h.ts, fun m hm' => ?_, h.gb, h.hm⟩
  have hm2 : m < y_ms y + 1 := hm'
  show va_up (y_fr y) (y_ms y) u m < 12 ∧ va_up (y_tt y) (y_ms y) v m < 12 ∧ (upd (y_wh y) (y_ms y) s m = -2 ∨ ∃ k, k < y_nn y ∧ upd (y_wh y) (y_ms y) s m = nI k)
  by_cases e : m = y_ms y
  · rw [e, va_ups', va_ups', upd_s']; exact ⟨hu, hv, hs⟩
  · rw [va_upo' _ _ e, va_upo' _ _ e, upd_o' _ _ e]; exact h.ms m (by omega)
theorem Jv_pg {y : zMS} (h : Jv y) (hc : y_cp y ≤ 8192) : Jv (pg y) := by
  have hcp := h.cp
  refine ⟨h.dk, h.lim, ⟨?_, ?_, ?_⟩, h.rdr, h.ro, h.ts, fun m hm => ?_, fun t j hj => ?_, h.hm⟩
  · show y_ms y ≤ 2 * y_cp y; omega
  · show 256 ≤ 2 * y_cp y; omega
  · show 2 * y_cp y ≤ 16384; omega
  · have hm2 : m < y_ms y := hm
    show cut0 (y_fr y) 0 (y_cp y) m < 12 ∧ cut0 (y_tt y) 0 (y_cp y) m < 12 ∧ (cut0 (y_wh y) 0 (y_cp y) m = -2 ∨ ∃ k, k < y_nn y ∧ cut0 (y_wh y) 0 (y_cp y) m = nI k)
    simp only [cut0, show m < y_cp y by omega, if_true]
    exact h.ms m hm2
  · have hj2 : (if t < 4 ∧ j = y_cp y then m_gro y t else y_gb y t j) ≠ none := hj
    show j < 2 * y_cp y
    by_cases e : t < 4 ∧ j = y_cp y
    · omega
    · rw [if_neg e] at hj2
      have := h.gb t j hj2
      omega
theorem Jv_pu {y : zMS} {u v : Nat} {s : Int32} (h : Jv y) (hm : y_ms y = y_cp y → y_cp y ≤ 8192) (hu : u < 12) (hv : v < 12) (hs : s = -2 ∨ ∃ k, k < y_nn y ∧ s = nI k) : Jv (pu y u v s) := by
  have hcp := h.cp
  unfold pu
  by_cases e : y_ms y = y_cp y
  · rw [if_pos e]
    refine Jv_pu1 (Jv_pg h (hm e)) ?_ hu hv hs
    show y_ms y < 2 * y_cp y
    omega
  · rw [if_neg e]
    exact Jv_pu1 h (by omega) hu hv hs
theorem pu_cp (y : zMS) (u v : Nat) (s : Int32) : y_cp (pu y u v s) = if y_ms y = y_cp y then 2 * y_cp y else y_cp y := by
  unfold pu
  split <;> rfl
/-- five words of f from place b on are those of g -/
def rwp (f : Nat → Int64) (b : Nat) (g : Nat → Int64) (k : Nat) : Nat → Int64 := fun j => if b ≤ j ∧ j < b + k then g (j - b) else f j
theorem rwp_u (f : Nat → Int64) (b : Nat) (g : Nat → Int64) (k : Nat) : vp_updL (rwp f b g k) (b + k) (g k) = rwp f b g (k + 1) := by
  funext j
  simp only [vp_updL, rwp]
  by_cases e : j = b + k
  · rw [if_pos e, if_pos (by omega), e, Nat.add_sub_cancel_left]
  · rw [if_neg e]
    by_cases c : b ≤ j ∧ j < b + k
    · rw [if_pos c, if_pos (by omega)]
    · rw [if_neg c, if_neg (by omega)]
theorem rwp_0 (f : Nat → Int64) (b : Nat) (g : Nat → Int64) : rwp f b g 0 = f := by
  funext j
  exact if_neg (by omega)
/-- the last message on (u, v), if it is a tell -/
noncomputable def tl_m (z : zMS) (u v : Nat) : Option Nat := match lsO z u v (y_ms z) with
  | some m => if y_wh z m = -2 then some m else none
  | none => none
noncomputable def tl_p (z : zMS) (u v : Nat) : zMS := match tl_m z u v with
  | some _ => z
  | none => pu z u v (-2)
noncomputable def tl_i (z : zMS) (u v : Nat) : Nat := match tl_m z u v with
  | some m => m
  | none => y_ms z
/-- row and told are being written, k words of them -/
noncomputable def tl_k (z p : zMS) (m u v k : Nat) : zMS := v_to (v_rw p (rwp (y_rw p) (5 * m) (y_me z) k)) (rwp (y_to p) (5 * (12 * u + v)) (y_me z) k)
noncomputable def tl_w (z : zMS) (u v : Nat) : zMS := tl_k z (tl_p z u v) (tl_i z u v) u v 5
noncomputable def tl_o (z : zMS) (u v n : Nat) : Bool := zd (∃ k, k < n ∧ y_me z k ≠ y_to z (5 * (12 * u + v) + k))
noncomputable def tl_1 (y : zMS) (u v : Nat) : zMS := if y_lk y (12 * u + v) = true then (if tl_o (mn_x y u v) u v 5 = true then tl_w (mn_x y u v) u v else mn_x y u v) else y
noncomputable def tl_v (y : zMS) (u : Nat) : Nat → zMS
  | 0 => y
  | n + 1 => tl_1 (tl_v y u n) u n
noncomputable def tl_u (y : zMS) : Nat → zMS
  | 0 => y
  | n + 1 => tl_v (tl_u y n) n (y_dk y)
noncomputable def tl (y : zMS) : zMS := tl_u y (y_dk y)
theorem lsO_lt {y : zMS} {u v : Nat} : ∀ {n m : Nat}, lsO y u v n = some m → m < n
  | 0, m, h => by cases h
  | n + 1, m, h => by
    simp only [lsO] at h
    split at h
    · cases h; omega
    · have := lsO_lt h; omega
theorem tl_m_lt {z : zMS} {u v m : Nat} (h : tl_m z u v = some m) : m < y_ms z := by
  unfold tl_m at h
  split at h
  · rename_i m' e
    split at h
    · cases h; exact lsO_lt e
    · cases h
  · cases h
/-- what tells keep -/
def tl_f (y z : zMS) : Prop := y_dk z = y_dk y ∧ y_cp y ≤ y_cp z ∧ y_lk z = y_lk y
theorem tl_fr (y : zMS) : tl_f y y := ⟨rfl, Nat.le_refl _, rfl⟩
theorem tl_ft {x y z : zMS} (h1 : tl_f x y) (h2 : tl_f y z) : tl_f x z := ⟨h2.1.trans h1.1, Nat.le_trans h1.2.1 h2.2.1, h2.2.2.trans h1.2.2⟩
theorem tl_fp (z : zMS) (u v : Nat) : tl_f z (tl_p z u v) := by
  unfold tl_p
  split
  · exact tl_fr z
  · refine ⟨?_, ?_, ?_⟩
    · unfold pu; split <;> rfl
    · rw [pu_cp]; split <;> omega
    · unfold pu; split <;> rfl
theorem tl_f1 (y : zMS) (u v : Nat) : tl_f y (tl_1 y u v) := by
  unfold tl_1
  split
  · split
    · exact tl_ft (show tl_f y (mn_x y u v) from ⟨rfl, Nat.le_refl _, rfl⟩) (tl_fp (mn_x y u v) u v)
    · exact ⟨rfl, Nat.le_refl _, rfl⟩
  · exact tl_fr y
theorem tl_fv (y : zMS) (u : Nat) : ∀ n, tl_f y (tl_v y u n)
  | 0 => tl_fr y
  | n + 1 => tl_ft (tl_fv y u n) (tl_f1 _ u n)
theorem tl_fu (y : zMS) : ∀ n, tl_f y (tl_u y n)
  | 0 => tl_fr y
  | n + 1 => tl_ft (tl_fu y n) (tl_fv _ n _)
/-- room for a message more, should one be put -/
def rm (z : zMS) : Prop := y_ms z = y_cp z → y_cp z ≤ 8192
theorem Jv_tl1 {y : zMS} {u v : Nat} (h : Jv y) (hr : rm y) (hu : u < 12) (hv : v < 12) : Jv (tl_1 y u v) := by
  unfold tl_1
  split
  · split
    · have hp : Jv (tl_p (mn_x y u v) u v) := by
        unfold tl_p
        split
        · exact Jv_mn h
        · exact Jv_pu (Jv_mn h) hr hu hv (Or.inl rfl)
      exact hp
    · exact Jv_mn h
  · exact h
/-- room all the way -/
def tl_ok (y : zMS) : Prop := ∀ u v, u < y_dk y → v < y_dk y → rm (tl_v (tl_u y u) u v)
theorem Jv_tlv {y : zMS} {u : Nat} (hu : u < 12) : ∀ n, n ≤ 12 → Jv y → (∀ v, v < n → rm (tl_v y u v)) → Jv (tl_v y u n)
  | 0, _, h, _ => h
  | n + 1, hn, h, hr => Jv_tl1 (Jv_tlv hu n (by omega) h (fun v hv => hr v (by omega))) (hr n (by omega)) hu (by omega)
theorem Jv_tlu {y : zMS} (h : Jv y) (hr : tl_ok y) : ∀ n, n ≤ y_dk y → Jv (tl_u y n)
  | 0, _ => h
  | n + 1, hn => by
    have hd := h.dk
    exact Jv_tlv (by omega) _ hd (Jv_tlu h hr n (by omega)) (fun v hv => hr n v (by omega) hv)
def T_Mo_tells (As : List zAV) (M : zMp) (Rt : Option zAV → zMp → Prop) (c1 c2 : Nat) : Prop := ∃ y, As = [.inr (30, 0, 0)] ∧ M = mp y ∧ Jv y ∧ tl_ok y ∧ y_cp (tl y) - y_cp y ≤ c1 ∧ 16 * (y_cp (tl y) - y_cp y) ≤ c2 ∧ Rt none (mp (tl y))
theorem dX7_tells_0 : decode cX7_tells 0 = .ok (.iconst 0, 1) := by decide +kernel
theorem dX7_tells_1 : decode cX7_tells 1 = .ok (.istore_n 1, 1) := by decide +kernel
theorem dX7_tells_2 : decode cX7_tells 2 = .ok (.iload_n 1, 1) := by decide +kernel
theorem dX7_tells_3 : decode cX7_tells 3 = .ok (.aload_n 0, 1) := by decide +kernel
theorem dX7_tells_4 : decode cX7_tells 4 = .ok (.getfield 91, 3) := by decide +kernel
theorem dX7_tells_7 : decode cX7_tells 7 = .ok (.if_icmp .ge 193, 3) := by decide +kernel
theorem dX7_tells_10 : decode cX7_tells 10 = .ok (.iconst 0, 1) := by decide +kernel
theorem dX7_tells_11 : decode cX7_tells 11 = .ok (.istore_n 2, 1) := by decide +kernel
theorem dX7_tells_12 : decode cX7_tells 12 = .ok (.iload_n 2, 1) := by decide +kernel
theorem dX7_tells_13 : decode cX7_tells 13 = .ok (.aload_n 0, 1) := by decide +kernel
theorem dX7_tells_14 : decode cX7_tells 14 = .ok (.getfield 91, 3) := by decide +kernel
theorem dX7_tells_17 : decode cX7_tells 17 = .ok (.if_icmp .ge 177, 3) := by decide +kernel
theorem dX7_tells_20 : decode cX7_tells 20 = .ok (.aload_n 0, 1) := by decide +kernel
theorem dX7_tells_21 : decode cX7_tells 21 = .ok (.iload_n 1, 1) := by decide +kernel
theorem dX7_tells_22 : decode cX7_tells 22 = .ok (.iload_n 2, 1) := by decide +kernel
theorem dX7_tells_23 : decode cX7_tells 23 = .ok (.invokevirtual 119, 3) := by decide +kernel
theorem dX7_tells_26 : decode cX7_tells 26 = .ok (.ifCond .ne 6, 3) := by decide +kernel
theorem dX7_tells_29 : decode cX7_tells 29 = .ok (.goto 159, 3) := by decide +kernel
theorem dX7_tells_32 : decode cX7_tells 32 = .ok (.aload_n 0, 1) := by decide +kernel
theorem dX7_tells_33 : decode cX7_tells 33 = .ok (.iload_n 1, 1) := by decide +kernel
theorem dX7_tells_34 : decode cX7_tells 34 = .ok (.iload_n 2, 1) := by decide +kernel
theorem dX7_tells_35 : decode cX7_tells 35 = .ok (.invokevirtual 132, 3) := by decide +kernel
theorem dX7_tells_38 : decode cX7_tells 38 = .ok (.iconst 0, 1) := by decide +kernel
theorem dX7_tells_39 : decode cX7_tells 39 = .ok (.istore_n 3, 1) := by decide +kernel
theorem dX7_tells_40 : decode cX7_tells 40 = .ok (.iconst 0, 1) := by decide +kernel
theorem dX7_tells_41 : decode cX7_tells 41 = .ok (.istore 4, 2) := by decide +kernel
theorem dX7_tells_43 : decode cX7_tells 43 = .ok (.iload 4, 2) := by decide +kernel
theorem dX7_tells_45 : decode cX7_tells 45 = .ok (.iconst 5, 1) := by decide +kernel
theorem dX7_tells_46 : decode cX7_tells 46 = .ok (.if_icmp .ge 43, 3) := by decide +kernel
theorem dX7_tells_49 : decode cX7_tells 49 = .ok (.iload_n 3, 1) := by decide +kernel
theorem dX7_tells_50 : decode cX7_tells 50 = .ok (.ifCond .ne 27, 3) := by decide +kernel
theorem dX7_tells_53 : decode cX7_tells 53 = .ok (.aload_n 0, 1) := by decide +kernel
theorem dX7_tells_54 : decode cX7_tells 54 = .ok (.getfield 82, 3) := by decide +kernel
theorem dX7_tells_57 : decode cX7_tells 57 = .ok (.iload 4, 2) := by decide +kernel
theorem dX7_tells_59 : decode cX7_tells 59 = .ok (.laload, 1) := by decide +kernel
theorem dX7_tells_60 : decode cX7_tells 60 = .ok (.aload_n 0, 1) := by decide +kernel
theorem dX7_tells_61 : decode cX7_tells 61 = .ok (.getfield 54, 3) := by decide +kernel
theorem dX7_tells_64 : decode cX7_tells 64 = .ok (.iload_n 1, 1) := by decide +kernel
theorem dX7_tells_65 : decode cX7_tells 65 = .ok (.iload_n 2, 1) := by decide +kernel
theorem dX7_tells_66 : decode cX7_tells 66 = .ok (.invokestatic 122, 3) := by decide +kernel
theorem dX7_tells_69 : decode cX7_tells 69 = .ok (.iload 4, 2) := by decide +kernel
theorem dX7_tells_71 : decode cX7_tells 71 = .ok (.iadd, 1) := by decide +kernel
theorem dX7_tells_72 : decode cX7_tells 72 = .ok (.laload, 1) := by decide +kernel
theorem dX7_tells_73 : decode cX7_tells 73 = .ok (.lcmp, 1) := by decide +kernel
theorem dX7_tells_74 : decode cX7_tells 74 = .ok (.ifCond .eq 7, 3) := by decide +kernel
theorem dX7_tells_77 : decode cX7_tells 77 = .ok (.iconst 1, 1) := by decide +kernel
theorem dX7_tells_78 : decode cX7_tells 78 = .ok (.goto 4, 3) := by decide +kernel
theorem dX7_tells_81 : decode cX7_tells 81 = .ok (.iconst 0, 1) := by decide +kernel
theorem dX7_tells_82 : decode cX7_tells 82 = .ok (.istore_n 3, 1) := by decide +kernel
theorem dX7_tells_83 : decode cX7_tells 83 = .ok (.iinc 4 1, 3) := by decide +kernel
theorem dX7_tells_86 : decode cX7_tells 86 = .ok (.goto (-43), 3) := by decide +kernel
theorem dX7_tells_89 : decode cX7_tells 89 = .ok (.iload_n 3, 1) := by decide +kernel
theorem dX7_tells_90 : decode cX7_tells 90 = .ok (.ifCond .eq 98, 3) := by decide +kernel
theorem dX7_tells_93 : decode cX7_tells 93 = .ok (.aload_n 0, 1) := by decide +kernel
theorem dX7_tells_94 : decode cX7_tells 94 = .ok (.iload_n 1, 1) := by decide +kernel
theorem dX7_tells_95 : decode cX7_tells 95 = .ok (.iload_n 2, 1) := by decide +kernel
theorem dX7_tells_96 : decode cX7_tells 96 = .ok (.invokevirtual 136, 3) := by decide +kernel
theorem dX7_tells_99 : decode cX7_tells 99 = .ok (.istore 4, 2) := by decide +kernel
theorem dX7_tells_101 : decode cX7_tells 101 = .ok (.iload 4, 2) := by decide +kernel
theorem dX7_tells_103 : decode cX7_tells 103 = .ok (.iconst (-1), 1) := by decide +kernel
theorem dX7_tells_104 : decode cX7_tells 104 = .ok (.if_icmp .eq 20, 3) := by decide +kernel
theorem dX7_tells_107 : decode cX7_tells 107 = .ok (.aload_n 0, 1) := by decide +kernel
theorem dX7_tells_108 : decode cX7_tells 108 = .ok (.getfield 63, 3) := by decide +kernel
theorem dX7_tells_111 : decode cX7_tells 111 = .ok (.iload 4, 2) := by decide +kernel
theorem dX7_tells_113 : decode cX7_tells 113 = .ok (.iaload, 1) := by decide +kernel
theorem dX7_tells_114 : decode cX7_tells 114 = .ok (.bipush (-2), 2) := by decide +kernel
theorem dX7_tells_116 : decode cX7_tells 116 = .ok (.if_icmp .ne 8, 3) := by decide +kernel
theorem dX7_tells_119 : decode cX7_tells 119 = .ok (.iload 4, 2) := by decide +kernel
theorem dX7_tells_121 : decode cX7_tells 121 = .ok (.goto 11, 3) := by decide +kernel
theorem dX7_tells_124 : decode cX7_tells 124 = .ok (.aload_n 0, 1) := by decide +kernel
theorem dX7_tells_125 : decode cX7_tells 125 = .ok (.iload_n 1, 1) := by decide +kernel
theorem dX7_tells_126 : decode cX7_tells 126 = .ok (.iload_n 2, 1) := by decide +kernel
theorem dX7_tells_127 : decode cX7_tells 127 = .ok (.bipush (-2), 2) := by decide +kernel
theorem dX7_tells_129 : decode cX7_tells 129 = .ok (.invokevirtual 139, 3) := by decide +kernel
theorem dX7_tells_132 : decode cX7_tells 132 = .ok (.istore 5, 2) := by decide +kernel
theorem dX7_tells_134 : decode cX7_tells 134 = .ok (.iconst 0, 1) := by decide +kernel
theorem dX7_tells_135 : decode cX7_tells 135 = .ok (.istore 6, 2) := by decide +kernel
theorem dX7_tells_137 : decode cX7_tells 137 = .ok (.iload 6, 2) := by decide +kernel
theorem dX7_tells_139 : decode cX7_tells 139 = .ok (.iconst 5, 1) := by decide +kernel
theorem dX7_tells_140 : decode cX7_tells 140 = .ok (.if_icmp .ge 48, 3) := by decide +kernel
theorem dX7_tells_143 : decode cX7_tells 143 = .ok (.aload_n 0, 1) := by decide +kernel
theorem dX7_tells_144 : decode cX7_tells 144 = .ok (.getfield 66, 3) := by decide +kernel
theorem dX7_tells_147 : decode cX7_tells 147 = .ok (.iconst 5, 1) := by decide +kernel
theorem dX7_tells_148 : decode cX7_tells 148 = .ok (.iload 5, 2) := by decide +kernel
theorem dX7_tells_150 : decode cX7_tells 150 = .ok (.imul, 1) := by decide +kernel
theorem dX7_tells_151 : decode cX7_tells 151 = .ok (.iload 6, 2) := by decide +kernel
theorem dX7_tells_153 : decode cX7_tells 153 = .ok (.iadd, 1) := by decide +kernel
theorem dX7_tells_154 : decode cX7_tells 154 = .ok (.aload_n 0, 1) := by decide +kernel
theorem dX7_tells_155 : decode cX7_tells 155 = .ok (.getfield 82, 3) := by decide +kernel
theorem dX7_tells_158 : decode cX7_tells 158 = .ok (.iload 6, 2) := by decide +kernel
theorem dX7_tells_160 : decode cX7_tells 160 = .ok (.laload, 1) := by decide +kernel
theorem dX7_tells_161 : decode cX7_tells 161 = .ok (.lastore, 1) := by decide +kernel
theorem dX7_tells_162 : decode cX7_tells 162 = .ok (.aload_n 0, 1) := by decide +kernel
theorem dX7_tells_163 : decode cX7_tells 163 = .ok (.getfield 54, 3) := by decide +kernel
theorem dX7_tells_166 : decode cX7_tells 166 = .ok (.iload_n 1, 1) := by decide +kernel
theorem dX7_tells_167 : decode cX7_tells 167 = .ok (.iload_n 2, 1) := by decide +kernel
theorem dX7_tells_168 : decode cX7_tells 168 = .ok (.invokestatic 122, 3) := by decide +kernel
theorem dX7_tells_171 : decode cX7_tells 171 = .ok (.iload 6, 2) := by decide +kernel
theorem dX7_tells_173 : decode cX7_tells 173 = .ok (.iadd, 1) := by decide +kernel
theorem dX7_tells_174 : decode cX7_tells 174 = .ok (.aload_n 0, 1) := by decide +kernel
theorem dX7_tells_175 : decode cX7_tells 175 = .ok (.getfield 82, 3) := by decide +kernel
theorem dX7_tells_178 : decode cX7_tells 178 = .ok (.iload 6, 2) := by decide +kernel
theorem dX7_tells_180 : decode cX7_tells 180 = .ok (.laload, 1) := by decide +kernel
theorem dX7_tells_181 : decode cX7_tells 181 = .ok (.lastore, 1) := by decide +kernel
theorem dX7_tells_182 : decode cX7_tells 182 = .ok (.iinc 6 1, 3) := by decide +kernel
theorem dX7_tells_185 : decode cX7_tells 185 = .ok (.goto (-48), 3) := by decide +kernel
theorem dX7_tells_188 : decode cX7_tells 188 = .ok (.iinc 2 1, 3) := by decide +kernel
theorem dX7_tells_191 : decode cX7_tells 191 = .ok (.goto (-179), 3) := by decide +kernel
theorem dX7_tells_194 : decode cX7_tells 194 = .ok (.iinc 1 1, 3) := by decide +kernel
theorem dX7_tells_197 : decode cX7_tells 197 = .ok (.goto (-195), 3) := by decide +kernel
theorem dX7_tells_200 : decode cX7_tells 200 = .ok (.return_, 1) := by decide +kernel
def B_Mo_tells_200 (mc ms : Nat) (Rt : Option zAV → zMp → Prop) (g : Nat → zKT) : zKT :=
  (i_vret mc ms Rt)
set_option maxRecDepth 20000 in
theorem s_Mo_tells_200 {X : zMa} {mc ms : Nat} {Rt : Option zAV → zMp → Prop} (hC : zCx X RX7 cX7_tells 2 47 mc ms (none) false Rt) (hN : zNL X = 7) : zLe (B_Mo_tells_200 mc ms Rt (zG X)) (zG X 200) :=
  (sd_vret hC dX7_tells_200)
def B_Mo_tells_194 (mc ms : Nat) (Rt : Option zAV → zMp → Prop) (g : Nat → zKT) : zKT :=
  (i_inc 1 1 (g 2))
set_option maxRecDepth 20000 in
theorem s_Mo_tells_194 {X : zMa} {mc ms : Nat} {Rt : Option zAV → zMp → Prop} (hC : zCx X RX7 cX7_tells 2 47 mc ms (none) false Rt) (hN : zNL X = 7) : zLe (B_Mo_tells_194 mc ms Rt (zG X)) (zG X 194) :=
  (sd_inc hC (by decide) (by rw [hN]; decide) dX7_tells_194 ((sd_goto hC (tgt := 2) (by decide) dX7_tells_197 (zLe_rfl))))
def B_Mo_tells_188 (mc ms : Nat) (Rt : Option zAV → zMp → Prop) (g : Nat → zKT) : zKT :=
  (i_inc 2 1 (g 12))
set_option maxRecDepth 20000 in
theorem s_Mo_tells_188 {X : zMa} {mc ms : Nat} {Rt : Option zAV → zMp → Prop} (hC : zCx X RX7 cX7_tells 2 47 mc ms (none) false Rt) (hN : zNL X = 7) : zLe (B_Mo_tells_188 mc ms Rt (zG X)) (zG X 188) :=
  (sd_inc hC (by decide) (by rw [hN]; decide) dX7_tells_188 ((sd_goto hC (tgt := 12) (by decide) dX7_tells_191 (zLe_rfl))))
def B_Mo_tells_137 (mc ms : Nat) (Rt : Option zAV → zMp → Prop) (g : Nat → zKT) : zKT :=
  (i_il 6 (i_ic 5 (i_icge (B_Mo_tells_188 mc ms Rt g) (i_al 0 (i_gf 8 23 (i_ic 5 (i_il 5 (i_imul (i_il 6 (i_iadd (i_al 0 (i_gf 8 31 (i_il 6 (i_lal (i_las (i_al 0 (i_gf 8 18 (i_il 1 (i_il 2 (i_call mc ms 2 T_Mo_rowOf co_Mo_rowOf (i_il 6 (i_iadd (i_al 0 (i_gf 8 31 (i_il 6 (i_lal (i_las (i_inc 6 1 (g 137)))))))))))))))))))))))))))))
set_option maxRecDepth 20000 in
theorem s_Mo_tells_137 {X : zMa} {mc ms : Nat} {Rt : Option zAV → zMp → Prop} (hC : zCx X RX7 cX7_tells 2 47 mc ms (none) false Rt) (hN : zNL X = 7) : zLe (B_Mo_tells_137 mc ms Rt (zG X)) (zG X 137) :=
  (sd_il hC dX7_tells_137 ((sd_iconst hC (by decide) dX7_tells_139 ((sd_icge hC (tgt := 188) (by decide) dX7_tells_140 (s_Mo_tells_188 hC hN) ((sd_al_n hC rfl dX7_tells_143 ((sd_gf hC (ci := 8) (fk := 23) rfl wi_Mo (by decide) fl_Mo_66 (Or.inl rfl) dX7_tells_144 ((sd_iconst hC (by decide) dX7_tells_147 ((sd_il hC dX7_tells_148 ((sd_imul hC dX7_tells_150 ((sd_il hC dX7_tells_151 ((sd_iadd hC dX7_tells_153 ((sd_al_n hC rfl dX7_tells_154 ((sd_gf hC (ci := 8) (fk := 31) rfl wi_Mo (by decide) fl_Mo_82 (Or.inl rfl) dX7_tells_155 ((sd_il hC dX7_tells_158 ((sd_lal hC dX7_tells_160 ((sd_las hC dX7_tells_161 ((sd_al_n hC rfl dX7_tells_162 ((sd_gf hC (ci := 8) (fk := 18) rfl wi_Mo (by decide) fl_Mo_54 (Or.inl rfl) dX7_tells_163 ((sd_il_n hC rfl dX7_tells_166 ((sd_il_n hC rfl dX7_tells_167 ((sd_cS hC c_Mo_rowOf ys_Mo_rowOf ml_Mo_122 (by decide) (by decide) dX7_tells_168 ((sd_il hC dX7_tells_171 ((sd_iadd hC dX7_tells_173 ((sd_al_n hC rfl dX7_tells_174 ((sd_gf hC (ci := 8) (fk := 31) rfl wi_Mo (by decide) fl_Mo_82 (Or.inl rfl) dX7_tells_175 ((sd_il hC dX7_tells_178 ((sd_lal hC dX7_tells_180 ((sd_las hC dX7_tells_181 ((sd_inc hC (by decide) (by rw [hN]; decide) dX7_tells_182 ((sd_goto hC (tgt := 137) (by decide) dX7_tells_185 (zLe_rfl))))))))))))))))))))))))))))))))))))))))))))))))))))))))))
def B_Mo_tells_132 (mc ms : Nat) (Rt : Option zAV → zMp → Prop) (g : Nat → zKT) : zKT :=
  (i_is 5 (i_ic 0 (i_is 6 (g 137))))
set_option maxRecDepth 20000 in
theorem s_Mo_tells_132 {X : zMa} {mc ms : Nat} {Rt : Option zAV → zMp → Prop} (hC : zCx X RX7 cX7_tells 2 47 mc ms (none) false Rt) (hN : zNL X = 7) : zLe (B_Mo_tells_132 mc ms Rt (zG X)) (zG X 132) :=
  (sd_is hC (by rw [hN]; decide) dX7_tells_132 ((sd_iconst hC (by decide) dX7_tells_134 ((sd_is hC (by rw [hN]; decide) dX7_tells_135 (zLe_rfl))))))
def B_Mo_tells_124 (mc ms : Nat) (Rt : Option zAV → zMp → Prop) (g : Nat → zKT) : zKT :=
  (i_al 0 (i_il 1 (i_il 2 (i_ic (-2) (i_callV2 mc ms 8 4 T_Mo_put (B_Mo_tells_132 mc ms Rt g))))))
set_option maxRecDepth 20000 in
theorem s_Mo_tells_124 {X : zMa} {mc ms : Nat} {Rt : Option zAV → zMp → Prop} (hC : zCx X RX7 cX7_tells 2 47 mc ms (none) false Rt) (hN : zNL X = 7) : zLe (B_Mo_tells_124 mc ms Rt (zG X)) (zG X 124) :=
  (sd_al_n hC rfl dX7_tells_124 ((sd_il_n hC rfl dX7_tells_125 ((sd_il_n hC rfl dX7_tells_126 ((sd_bipush hC (by decide) dX7_tells_127 ((sd_cV2 hC c_Mo_put yv_Mo_put (ci := 8) rfl rfl ml_Mo_139 (by decide) (by decide) dX7_tells_129 (s_Mo_tells_132 hC hN))))))))))
def B_Mo_tells_89 (mc ms : Nat) (Rt : Option zAV → zMp → Prop) (g : Nat → zKT) : zKT :=
  (i_il 3 (i_ifeq (B_Mo_tells_188 mc ms Rt g) (i_al 0 (i_il 1 (i_il 2 (i_callV mc ms 8 3 T_Mo_lastOf co_Mo_lastOf (i_is 4 (i_il 4 (i_ic (-1) (i_iceq (B_Mo_tells_124 mc ms Rt g) (i_al 0 (i_gf 8 22 (i_il 4 (i_ial (i_ic (-2) (i_icne (B_Mo_tells_124 mc ms Rt g) (i_il 4 (B_Mo_tells_132 mc ms Rt g))))))))))))))))))
set_option maxRecDepth 20000 in
theorem s_Mo_tells_89 {X : zMa} {mc ms : Nat} {Rt : Option zAV → zMp → Prop} (hC : zCx X RX7 cX7_tells 2 47 mc ms (none) false Rt) (hN : zNL X = 7) : zLe (B_Mo_tells_89 mc ms Rt (zG X)) (zG X 89) :=
  (sd_il_n hC rfl dX7_tells_89 ((sd_ifeq hC (tgt := 188) (by decide) dX7_tells_90 (s_Mo_tells_188 hC hN) ((sd_al_n hC rfl dX7_tells_93 ((sd_il_n hC rfl dX7_tells_94 ((sd_il_n hC rfl dX7_tells_95 ((sd_cV hC c_Mo_lastOf yv_Mo_lastOf (ci := 8) rfl rfl ml_Mo_136 (by decide) (by decide) dX7_tells_96 ((sd_is hC (by rw [hN]; decide) dX7_tells_99 ((sd_il hC dX7_tells_101 ((sd_iconst hC (by decide) dX7_tells_103 ((sd_iceq hC (tgt := 124) (by decide) dX7_tells_104 (s_Mo_tells_124 hC hN) ((sd_al_n hC rfl dX7_tells_107 ((sd_gf hC (ci := 8) (fk := 22) rfl wi_Mo (by decide) fl_Mo_63 (Or.inl rfl) dX7_tells_108 ((sd_il hC dX7_tells_111 ((sd_ial hC dX7_tells_113 ((sd_bipush hC (by decide) dX7_tells_114 ((sd_icne hC (tgt := 124) (by decide) dX7_tells_116 (s_Mo_tells_124 hC hN) ((sd_il hC dX7_tells_119 ((sd_goto hC (tgt := 132) (by decide) dX7_tells_121 (s_Mo_tells_132 hC hN))))))))))))))))))))))))))))))))))))
def B_Mo_tells_82 (mc ms : Nat) (Rt : Option zAV → zMp → Prop) (g : Nat → zKT) : zKT :=
  (i_is 3 (i_inc 4 1 (g 43)))
set_option maxRecDepth 20000 in
theorem s_Mo_tells_82 {X : zMa} {mc ms : Nat} {Rt : Option zAV → zMp → Prop} (hC : zCx X RX7 cX7_tells 2 47 mc ms (none) false Rt) (hN : zNL X = 7) : zLe (B_Mo_tells_82 mc ms Rt (zG X)) (zG X 82) :=
  (sd_is_n hC rfl (by rw [hN]; decide) dX7_tells_82 ((sd_inc hC (by decide) (by rw [hN]; decide) dX7_tells_83 ((sd_goto hC (tgt := 43) (by decide) dX7_tells_86 (zLe_rfl))))))
def B_Mo_tells_81 (mc ms : Nat) (Rt : Option zAV → zMp → Prop) (g : Nat → zKT) : zKT :=
  (i_ic 0 (B_Mo_tells_82 mc ms Rt g))
set_option maxRecDepth 20000 in
theorem s_Mo_tells_81 {X : zMa} {mc ms : Nat} {Rt : Option zAV → zMp → Prop} (hC : zCx X RX7 cX7_tells 2 47 mc ms (none) false Rt) (hN : zNL X = 7) : zLe (B_Mo_tells_81 mc ms Rt (zG X)) (zG X 81) :=
  (sd_iconst hC (by decide) dX7_tells_81 (s_Mo_tells_82 hC hN))
def B_Mo_tells_77 (mc ms : Nat) (Rt : Option zAV → zMp → Prop) (g : Nat → zKT) : zKT :=
  (i_ic 1 (B_Mo_tells_82 mc ms Rt g))
set_option maxRecDepth 20000 in
theorem s_Mo_tells_77 {X : zMa} {mc ms : Nat} {Rt : Option zAV → zMp → Prop} (hC : zCx X RX7 cX7_tells 2 47 mc ms (none) false Rt) (hN : zNL X = 7) : zLe (B_Mo_tells_77 mc ms Rt (zG X)) (zG X 77) :=
  (sd_iconst hC (by decide) dX7_tells_77 ((sd_goto hC (tgt := 82) (by decide) dX7_tells_78 (s_Mo_tells_82 hC hN))))
def B_Mo_tells_43 (mc ms : Nat) (Rt : Option zAV → zMp → Prop) (g : Nat → zKT) : zKT :=
  (i_il 4 (i_ic 5 (i_icge (B_Mo_tells_89 mc ms Rt g) (i_il 3 (i_ifne (B_Mo_tells_77 mc ms Rt g) (i_al 0 (i_gf 8 31 (i_il 4 (i_lal (i_al 0 (i_gf 8 18 (i_il 1 (i_il 2 (i_call mc ms 2 T_Mo_rowOf co_Mo_rowOf (i_il 4 (i_iadd (i_lal (i_lcmp (i_ifeq (B_Mo_tells_81 mc ms Rt g) (B_Mo_tells_77 mc ms Rt g))))))))))))))))))))
set_option maxRecDepth 20000 in
theorem s_Mo_tells_43 {X : zMa} {mc ms : Nat} {Rt : Option zAV → zMp → Prop} (hC : zCx X RX7 cX7_tells 2 47 mc ms (none) false Rt) (hN : zNL X = 7) : zLe (B_Mo_tells_43 mc ms Rt (zG X)) (zG X 43) :=
  (sd_il hC dX7_tells_43 ((sd_iconst hC (by decide) dX7_tells_45 ((sd_icge hC (tgt := 89) (by decide) dX7_tells_46 (s_Mo_tells_89 hC hN) ((sd_il_n hC rfl dX7_tells_49 ((sd_ifne hC (tgt := 77) (by decide) dX7_tells_50 (s_Mo_tells_77 hC hN) ((sd_al_n hC rfl dX7_tells_53 ((sd_gf hC (ci := 8) (fk := 31) rfl wi_Mo (by decide) fl_Mo_82 (Or.inl rfl) dX7_tells_54 ((sd_il hC dX7_tells_57 ((sd_lal hC dX7_tells_59 ((sd_al_n hC rfl dX7_tells_60 ((sd_gf hC (ci := 8) (fk := 18) rfl wi_Mo (by decide) fl_Mo_54 (Or.inl rfl) dX7_tells_61 ((sd_il_n hC rfl dX7_tells_64 ((sd_il_n hC rfl dX7_tells_65 ((sd_cS hC c_Mo_rowOf ys_Mo_rowOf ml_Mo_122 (by decide) (by decide) dX7_tells_66 ((sd_il hC dX7_tells_69 ((sd_iadd hC dX7_tells_71 ((sd_lal hC dX7_tells_72 ((sd_lcmp hC dX7_tells_73 ((sd_ifeq hC (tgt := 81) (by decide) dX7_tells_74 (s_Mo_tells_81 hC hN) (s_Mo_tells_77 hC hN))))))))))))))))))))))))))))))))))))))
def B_Mo_tells_32 (mc ms : Nat) (Rt : Option zAV → zMp → Prop) (g : Nat → zKT) : zKT :=
  (i_al 0 (i_il 1 (i_il 2 (i_callV mc ms 8 3 T_Mo_means co_Mo_means (i_ic 0 (i_is 3 (i_ic 0 (i_is 4 (g 43)))))))))
set_option maxRecDepth 20000 in
theorem s_Mo_tells_32 {X : zMa} {mc ms : Nat} {Rt : Option zAV → zMp → Prop} (hC : zCx X RX7 cX7_tells 2 47 mc ms (none) false Rt) (hN : zNL X = 7) : zLe (B_Mo_tells_32 mc ms Rt (zG X)) (zG X 32) :=
  (sd_al_n hC rfl dX7_tells_32 ((sd_il_n hC rfl dX7_tells_33 ((sd_il_n hC rfl dX7_tells_34 ((sd_cV hC c_Mo_means yv_Mo_means (ci := 8) rfl rfl ml_Mo_132 (by decide) (by decide) dX7_tells_35 ((sd_iconst hC (by decide) dX7_tells_38 ((sd_is_n hC rfl (by rw [hN]; decide) dX7_tells_39 ((sd_iconst hC (by decide) dX7_tells_40 ((sd_is hC (by rw [hN]; decide) dX7_tells_41 (zLe_rfl))))))))))))))))
def B_Mo_tells_12 (mc ms : Nat) (Rt : Option zAV → zMp → Prop) (g : Nat → zKT) : zKT :=
  (i_il 2 (i_al 0 (i_gf 8 0 (i_icge (B_Mo_tells_194 mc ms Rt g) (i_al 0 (i_il 1 (i_il 2 (i_callV mc ms 8 3 T_Mo_isLinked co_Mo_isLinked (i_ifne (B_Mo_tells_32 mc ms Rt g) (B_Mo_tells_188 mc ms Rt g))))))))))
set_option maxRecDepth 20000 in
theorem s_Mo_tells_12 {X : zMa} {mc ms : Nat} {Rt : Option zAV → zMp → Prop} (hC : zCx X RX7 cX7_tells 2 47 mc ms (none) false Rt) (hN : zNL X = 7) : zLe (B_Mo_tells_12 mc ms Rt (zG X)) (zG X 12) :=
  (sd_il_n hC rfl dX7_tells_12 ((sd_al_n hC rfl dX7_tells_13 ((sd_gf hC (ci := 8) (fk := 0) rfl wi_Mo (by decide) fl_Mo_91 (Or.inl rfl) dX7_tells_14 ((sd_icge hC (tgt := 194) (by decide) dX7_tells_17 (s_Mo_tells_194 hC hN) ((sd_al_n hC rfl dX7_tells_20 ((sd_il_n hC rfl dX7_tells_21 ((sd_il_n hC rfl dX7_tells_22 ((sd_cV hC c_Mo_isLinked yv_Mo_isLinked (ci := 8) rfl rfl ml_Mo_119 (by decide) (by decide) dX7_tells_23 ((sd_ifne hC (tgt := 32) (by decide) dX7_tells_26 (s_Mo_tells_32 hC hN) ((sd_goto hC (tgt := 188) (by decide) dX7_tells_29 (s_Mo_tells_188 hC hN))))))))))))))))))))
def B_Mo_tells_2 (mc ms : Nat) (Rt : Option zAV → zMp → Prop) (g : Nat → zKT) : zKT :=
  (i_il 1 (i_al 0 (i_gf 8 0 (i_icge (B_Mo_tells_200 mc ms Rt g) (i_ic 0 (i_is 2 (g 12)))))))
set_option maxRecDepth 20000 in
theorem s_Mo_tells_2 {X : zMa} {mc ms : Nat} {Rt : Option zAV → zMp → Prop} (hC : zCx X RX7 cX7_tells 2 47 mc ms (none) false Rt) (hN : zNL X = 7) : zLe (B_Mo_tells_2 mc ms Rt (zG X)) (zG X 2) :=
  (sd_il_n hC rfl dX7_tells_2 ((sd_al_n hC rfl dX7_tells_3 ((sd_gf hC (ci := 8) (fk := 0) rfl wi_Mo (by decide) fl_Mo_91 (Or.inl rfl) dX7_tells_4 ((sd_icge hC (tgt := 200) (by decide) dX7_tells_7 (s_Mo_tells_200 hC hN) ((sd_iconst hC (by decide) dX7_tells_10 ((sd_is_n hC rfl (by rw [hN]; decide) dX7_tells_11 (zLe_rfl))))))))))))
def B_Mo_tells_0 (mc ms : Nat) (Rt : Option zAV → zMp → Prop) (g : Nat → zKT) : zKT :=
  (i_ic 0 (i_is 1 (g 2)))
set_option maxRecDepth 20000 in
theorem s_Mo_tells_0 {X : zMa} {mc ms : Nat} {Rt : Option zAV → zMp → Prop} (hC : zCx X RX7 cX7_tells 2 47 mc ms (none) false Rt) (hN : zNL X = 7) : zLe (B_Mo_tells_0 mc ms Rt (zG X)) (zG X 0) :=
  (sd_iconst hC (by decide) dX7_tells_0 ((sd_is_n hC rfl (by rw [hN]; decide) dX7_tells_1 (zLe_rfl))))
theorem c_Mo_tells (l : Launch) : zCT2 l yX7_tells cX7_tells 7 (none) 2 47 T_Mo_tells := by
  intro As M Rt c1 c2 hT
  obtain ⟨y, rfl, rfl, hJ, hok, hc1, hc2, hR⟩ := hT
  have hd := hJ.dk
  refine zMet_of false (by decide +kernel) (fun h => by first | rfl | cases h) (Nat.le_of_ble_eq_true rfl) (fun X hN hC => ?_)
  show zG X 0 [some (.inr (30, 0, 0)), none, none, none, none, none, none] [] (mp y) 0 0
  -- one road
  have step : ∀ (z : zMS) (u v : Nat), Jv z → rm z → y_dk z = y_dk y → u < y_dk y → v < y_dk y → y_cp y ≤ y_cp z → y_cp (tl_1 z u v) ≤ y_cp (tl y) → ∀ (k n : Nat), k + y_cp y ≤ y_cp z → n + 16 * y_cp y ≤ 16 * y_cp z → (∀ (k n : Nat), k + y_cp y ≤ y_cp (tl_1 z u v) → n + 16 * y_cp y ≤ 16 * y_cp (tl_1 z u v) → ∀ j3 j4 j5 j6 : Option zAV, zG X 12 [some (.inr (30, 0, 0)), some (.inl (.int (nI u))), some (.inl (.int (nI (v + 1)))), j3, j4, j5, j6] [] (mp (tl_1 z u v)) k n) → ∀ j3 j4 j5 j6 : Option zAV, zG X 12 [some (.inr (30, 0, 0)), some (.inl (.int (nI u))), some (.inl (.int (nI v))), j3, j4, j5, j6] [] (mp z) k n := by
    intro z u v hJz hrm hdz hu hv hcz hct k n hk hn hgo j3 j4 j5 j6
    have hmo := (tl_f1 z u v).2.1
    have hk1 : k ≤ c1 := by omega
    have hn1 : n ≤ c2 := by omega
    refine s_Mo_tells_12 hC hN _ _ _ _ _ ?_
    simp only [B_Mo_tells_0, B_Mo_tells_2, B_Mo_tells_12, B_Mo_tells_32, B_Mo_tells_43, B_Mo_tells_77, B_Mo_tells_81, B_Mo_tells_82, B_Mo_tells_89, B_Mo_tells_124, B_Mo_tells_132, B_Mo_tells_137, B_Mo_tells_188, B_Mo_tells_194, B_Mo_tells_200, co_Mo_isLinked, co_Mo_lastOf, co_Mo_means, co_Mo_rowOf, i_ic, i_lc, i_nul, i_il, i_ll, i_al, i_is, i_as, i_ls, i_inc, i_iadd, i_isub, i_imul, i_iand, i_ior, i_ixor, i_idiv, i_irem, i_ishl, i_ishr, i_ladd, i_lsub, i_land, i_lor, i_i2l, i_lushr, i_lshl, i_lshr, i_lcmp, i_dup, i_pop, i_dx1, i_dup2, i_ifeq, i_ifne, i_iflt, i_ifge, i_ifgt, i_ifle, i_iceq, i_icne, i_iclt, i_icge, i_icgt, i_icle, i_ifn, i_gf, i_pf, i_ial, i_bal, i_lal, i_aal, i_ias, i_las, i_bas, i_aas, i_alen, i_newa, i_new, i_anew, i_cast, i_oi, i_call, i_callV, i_callV2, i_callI, i_iret, i_zret, i_lret, i_vret, i_aret, i_mmx, i_mmn, i_gsE, i_aceq, i_no, i_acq, i_sw, zsw, zlg, zls, znl, zfg, zcs, zsp, zrc, zisn, zft, zc1, zto, Value.category, List.set_cons_zero, List.set_cons_succ, List.length_cons, List.length_nil, Option.toList, List.append, List.nil_append, List.cons_append, true_and, and_true, Nat.add_zero, Nat.zero_le, Nat.zero_add, Nat.le_refl, Nat.reduceAdd, Nat.reduceLeDiff, co0, z0, zn_0, zn_1, zn_2, zn_3, zn_4, zn_5, zn_8, zn_12, zn_24, zn_121, zn_144, zn_256, zn_300, zn_600, zn_720, zn_1204, zn_1280, zn_2400, zn_4816, zn_14400, zn_90000, q_main, m_main, hdz]
    refine ⟨fun h => absurd ((zK (K := y_dk y) (by omega) (n := v) (by omega)).2.1.mp h) (by omega), fun _ => ⟨hk1, hn1, z, u, v, rfl, rfl, by omega, by omega, ?_⟩⟩
    simp only [B_Mo_tells_0, B_Mo_tells_2, B_Mo_tells_12, B_Mo_tells_32, B_Mo_tells_43, B_Mo_tells_77, B_Mo_tells_81, B_Mo_tells_82, B_Mo_tells_89, B_Mo_tells_124, B_Mo_tells_132, B_Mo_tells_137, B_Mo_tells_188, B_Mo_tells_194, B_Mo_tells_200, co_Mo_isLinked, co_Mo_lastOf, co_Mo_means, co_Mo_rowOf, i_ic, i_lc, i_nul, i_il, i_ll, i_al, i_is, i_as, i_ls, i_inc, i_iadd, i_isub, i_imul, i_iand, i_ior, i_ixor, i_idiv, i_irem, i_ishl, i_ishr, i_ladd, i_lsub, i_land, i_lor, i_i2l, i_lushr, i_lshl, i_lshr, i_lcmp, i_dup, i_pop, i_dx1, i_dup2, i_ifeq, i_ifne, i_iflt, i_ifge, i_ifgt, i_ifle, i_iceq, i_icne, i_iclt, i_icge, i_icgt, i_icle, i_ifn, i_gf, i_pf, i_ial, i_bal, i_lal, i_aal, i_ias, i_las, i_bas, i_aas, i_alen, i_newa, i_new, i_anew, i_cast, i_oi, i_call, i_callV, i_callV2, i_callI, i_iret, i_zret, i_lret, i_vret, i_aret, i_mmx, i_mmn, i_gsE, i_aceq, i_no, i_acq, i_sw, zsw, zlg, zls, znl, zfg, zcs, zsp, zrc, zisn, zft, zc1, zto, Value.category, List.set_cons_zero, List.set_cons_succ, List.length_cons, List.length_nil, Option.toList, List.append, List.nil_append, List.cons_append, true_and, and_true, Nat.add_zero, Nat.zero_le, Nat.zero_add, Nat.le_refl, Nat.reduceAdd, Nat.reduceLeDiff, co0, z0, zn_0, zn_1, zn_2, zn_3, zn_4, zn_5, zn_8, zn_12, zn_24, zn_121, zn_144, zn_256, zn_300, zn_600, zn_720, zn_1204, zn_1280, zn_2400, zn_4816, zn_14400, zn_90000, q_main, m_main, ar_4, ar_5, ar_12, ar_300, ar_600, ar_1200, ar_10, nI_add, ar_1, ar_2, ar_3, ar_2m]
    refine ⟨fun hl => ⟨hk1, hn1, z, u, v, rfl, rfl, by omega, by omega, hJz, ?_⟩, fun hl => ?_⟩
    · have hl' := zb_n0 hl
      have hJw : Jv (mn_x z u v) := Jv_mn hJz
      have e1 : tl_1 z u v = if tl_o (mn_x z u v) u v 5 = true then tl_w (mn_x z u v) u v else mn_x z u v := by unfold tl_1; rw [if_pos hl']
      rw [e1] at hgo hct hmo
      have hcw : y_cp (mn_x z u v) = y_cp z := rfl
      have hdw : y_dk (mn_x z u v) = y_dk y := hdz
      have hrw : rm (mn_x z u v) := hrm
      generalize mn_x z u v = w at hgo hct hmo hJw hcw hdw hrw
      simp only [B_Mo_tells_0, B_Mo_tells_2, B_Mo_tells_12, B_Mo_tells_32, B_Mo_tells_43, B_Mo_tells_77, B_Mo_tells_81, B_Mo_tells_82, B_Mo_tells_89, B_Mo_tells_124, B_Mo_tells_132, B_Mo_tells_137, B_Mo_tells_188, B_Mo_tells_194, B_Mo_tells_200, co_Mo_isLinked, co_Mo_lastOf, co_Mo_means, co_Mo_rowOf, i_ic, i_lc, i_nul, i_il, i_ll, i_al, i_is, i_as, i_ls, i_inc, i_iadd, i_isub, i_imul, i_iand, i_ior, i_ixor, i_idiv, i_irem, i_ishl, i_ishr, i_ladd, i_lsub, i_land, i_lor, i_i2l, i_lushr, i_lshl, i_lshr, i_lcmp, i_dup, i_pop, i_dx1, i_dup2, i_ifeq, i_ifne, i_iflt, i_ifge, i_ifgt, i_ifle, i_iceq, i_icne, i_iclt, i_icge, i_icgt, i_icle, i_ifn, i_gf, i_pf, i_ial, i_bal, i_lal, i_aal, i_ias, i_las, i_bas, i_aas, i_alen, i_newa, i_new, i_anew, i_cast, i_oi, i_call, i_callV, i_callV2, i_callI, i_iret, i_zret, i_lret, i_vret, i_aret, i_mmx, i_mmn, i_gsE, i_aceq, i_no, i_acq, i_sw, zsw, zlg, zls, znl, zfg, zcs, zsp, zrc, zisn, zft, zc1, zto, Value.category, List.set_cons_zero, List.set_cons_succ, List.length_cons, List.length_nil, Option.toList, List.append, List.nil_append, List.cons_append, true_and, and_true, Nat.add_zero, Nat.zero_le, Nat.zero_add, Nat.le_refl, Nat.reduceAdd, Nat.reduceLeDiff, co0, z0, zn_0, zn_1, zn_2, zn_3, zn_4, zn_5, zn_8, zn_12, zn_24, zn_121, zn_144, zn_256, zn_300, zn_600, zn_720, zn_1204, zn_1280, zn_2400, zn_4816, zn_14400, zn_90000, q_main, m_main]
      -- row and told
      have copy : ∀ (p : zMS) (m : Nat), tl_p w u v = p → tl_i w u v = m → tl_o w u v 5 = true → m < y_cp p → y_cp p ≤ 16384 → y_me p = y_me w → ∀ (k n : Nat), k + y_cp y ≤ y_cp p → n + 16 * y_cp y ≤ 16 * y_cp p → ∀ j3 j4 : Option zAV, zG X 137 [some (.inr (30, 0, 0)), some (.inl (.int (nI u))), some (.inl (.int (nI v))), j3, j4, some (.inl (.int (nI m))), some (.inl (.int (nI 0)))] [] (mp p) k n := by
        intro p m hp hm ho hmp hcp hme k n hk hn j3 j4
        have hfin : tl_w w u v = tl_k w p m u v 5 := by unfold tl_w; rw [hp, hm]
        rw [if_pos ho, hfin] at hgo hct
        have hgo' := hgo k n hk hn j3 j4
        have hk2 : k ≤ c1 := by have : y_cp (tl_k w p m u v 5) = y_cp p := rfl; omega
        have hn2 : n ≤ c2 := by have : y_cp (tl_k w p m u v 5) = y_cp p := rfl; omega
        have e0 : tl_k w p m u v 0 = p := by unfold tl_k; rw [rwp_0, rwp_0]; rfl
        have lp := five (P := fun i => zG X 137 [some (.inr (30, 0, 0)), some (.inl (.int (nI u))), some (.inl (.int (nI v))), j3, j4, some (.inl (.int (nI m))), some (.inl (.int (nI i)))] [] (mp (tl_k w p m u v i)) k n) (fun i hi ihi => by
          refine s_Mo_tells_137 hC hN _ _ _ _ _ ?_
          have f1 : y_cp (tl_k w p m u v i) = y_cp p := rfl
          have f2 : y_rw (tl_k w p m u v i) = rwp (y_rw p) (5 * m) (y_me w) i := rfl
          have f3 : y_me (tl_k w p m u v i) = y_me w := hme
          simp only [B_Mo_tells_0, B_Mo_tells_2, B_Mo_tells_12, B_Mo_tells_32, B_Mo_tells_43, B_Mo_tells_77, B_Mo_tells_81, B_Mo_tells_82, B_Mo_tells_89, B_Mo_tells_124, B_Mo_tells_132, B_Mo_tells_137, B_Mo_tells_188, B_Mo_tells_194, B_Mo_tells_200, co_Mo_isLinked, co_Mo_lastOf, co_Mo_means, co_Mo_rowOf, i_ic, i_lc, i_nul, i_il, i_ll, i_al, i_is, i_as, i_ls, i_inc, i_iadd, i_isub, i_imul, i_iand, i_ior, i_ixor, i_idiv, i_irem, i_ishl, i_ishr, i_ladd, i_lsub, i_land, i_lor, i_i2l, i_lushr, i_lshl, i_lshr, i_lcmp, i_dup, i_pop, i_dx1, i_dup2, i_ifeq, i_ifne, i_iflt, i_ifge, i_ifgt, i_ifle, i_iceq, i_icne, i_iclt, i_icge, i_icgt, i_icle, i_ifn, i_gf, i_pf, i_ial, i_bal, i_lal, i_aal, i_ias, i_las, i_bas, i_aas, i_alen, i_newa, i_new, i_anew, i_cast, i_oi, i_call, i_callV, i_callV2, i_callI, i_iret, i_zret, i_lret, i_vret, i_aret, i_mmx, i_mmn, i_gsE, i_aceq, i_no, i_acq, i_sw, zsw, zlg, zls, znl, zfg, zcs, zsp, zrc, zisn, zft, zc1, zto, Value.category, List.set_cons_zero, List.set_cons_succ, List.length_cons, List.length_nil, Option.toList, List.append, List.nil_append, List.cons_append, true_and, and_true, Nat.add_zero, Nat.zero_le, Nat.zero_add, Nat.le_refl, Nat.reduceAdd, Nat.reduceLeDiff, co0, z0, zn_0, zn_1, zn_2, zn_3, zn_4, zn_5, zn_8, zn_12, zn_24, zn_121, zn_144, zn_256, zn_300, zn_600, zn_720, zn_1204, zn_1280, zn_2400, zn_4816, zn_14400, zn_90000, q_main, m_main, q_rw, q_me, ar_4, ar_5, ar_12, ar_300, ar_600, ar_1200, ar_10, nI_add, ar_1, ar_2, ar_3, ar_2m]
          rw [nI_clamp (by omega), nI_clamp (by omega), f2, f3, rwp_u, mu_rw]
          refine ⟨fun h => absurd ((zK (K := 5) (by decide) (n := i) (by omega)).2.1.mp h) (by omega), fun _ => ⟨vp_in_nI (by omega) (by decide), m_k (by decide), vp_in_nI (by omega) (by omega), ?_⟩⟩
          simp only [B_Mo_tells_0, B_Mo_tells_2, B_Mo_tells_12, B_Mo_tells_32, B_Mo_tells_43, B_Mo_tells_77, B_Mo_tells_81, B_Mo_tells_82, B_Mo_tells_89, B_Mo_tells_124, B_Mo_tells_132, B_Mo_tells_137, B_Mo_tells_188, B_Mo_tells_194, B_Mo_tells_200, co_Mo_isLinked, co_Mo_lastOf, co_Mo_means, co_Mo_rowOf, i_ic, i_lc, i_nul, i_il, i_ll, i_al, i_is, i_as, i_ls, i_inc, i_iadd, i_isub, i_imul, i_iand, i_ior, i_ixor, i_idiv, i_irem, i_ishl, i_ishr, i_ladd, i_lsub, i_land, i_lor, i_i2l, i_lushr, i_lshl, i_lshr, i_lcmp, i_dup, i_pop, i_dx1, i_dup2, i_ifeq, i_ifne, i_iflt, i_ifge, i_ifgt, i_ifle, i_iceq, i_icne, i_iclt, i_icge, i_icgt, i_icle, i_ifn, i_gf, i_pf, i_ial, i_bal, i_lal, i_aal, i_ias, i_las, i_bas, i_aas, i_alen, i_newa, i_new, i_anew, i_cast, i_oi, i_call, i_callV, i_callV2, i_callI, i_iret, i_zret, i_lret, i_vret, i_aret, i_mmx, i_mmn, i_gsE, i_aceq, i_no, i_acq, i_sw, zsw, zlg, zls, znl, zfg, zcs, zsp, zrc, zisn, zft, zc1, zto, Value.category, List.set_cons_zero, List.set_cons_succ, List.length_cons, List.length_nil, Option.toList, List.append, List.nil_append, List.cons_append, true_and, and_true, Nat.add_zero, Nat.zero_le, Nat.zero_add, Nat.le_refl, Nat.reduceAdd, Nat.reduceLeDiff, co0, z0, zn_0, zn_1, zn_2, zn_3, zn_4, zn_5, zn_8, zn_12, zn_24, zn_121, zn_144, zn_256, zn_300, zn_600, zn_720, zn_1204, zn_1280, zn_2400, zn_4816, zn_14400, zn_90000, q_main, m_main, q_rw, q_me, q_to, ar_4, ar_5, ar_12, ar_300, ar_600, ar_1200, ar_10, nI_add, ar_1, ar_2, ar_3, ar_2m]
          refine ⟨hk2, hn2, u, v, rfl, ?_⟩
          have f4 : y_to (v_rw (tl_k w p m u v i) (rwp (y_rw p) (5 * m) (y_me w) (i + 1))) = rwp (y_to p) (5 * (12 * u + v)) (y_me w) i := rfl
          have f5 : y_me (v_rw (tl_k w p m u v i) (rwp (y_rw p) (5 * m) (y_me w) (i + 1))) = y_me w := hme
          simp only [B_Mo_tells_0, B_Mo_tells_2, B_Mo_tells_12, B_Mo_tells_32, B_Mo_tells_43, B_Mo_tells_77, B_Mo_tells_81, B_Mo_tells_82, B_Mo_tells_89, B_Mo_tells_124, B_Mo_tells_132, B_Mo_tells_137, B_Mo_tells_188, B_Mo_tells_194, B_Mo_tells_200, co_Mo_isLinked, co_Mo_lastOf, co_Mo_means, co_Mo_rowOf, i_ic, i_lc, i_nul, i_il, i_ll, i_al, i_is, i_as, i_ls, i_inc, i_iadd, i_isub, i_imul, i_iand, i_ior, i_ixor, i_idiv, i_irem, i_ishl, i_ishr, i_ladd, i_lsub, i_land, i_lor, i_i2l, i_lushr, i_lshl, i_lshr, i_lcmp, i_dup, i_pop, i_dx1, i_dup2, i_ifeq, i_ifne, i_iflt, i_ifge, i_ifgt, i_ifle, i_iceq, i_icne, i_iclt, i_icge, i_icgt, i_icle, i_ifn, i_gf, i_pf, i_ial, i_bal, i_lal, i_aal, i_ias, i_las, i_bas, i_aas, i_alen, i_newa, i_new, i_anew, i_cast, i_oi, i_call, i_callV, i_callV2, i_callI, i_iret, i_zret, i_lret, i_vret, i_aret, i_mmx, i_mmn, i_gsE, i_aceq, i_no, i_acq, i_sw, zsw, zlg, zls, znl, zfg, zcs, zsp, zrc, zisn, zft, zc1, zto, Value.category, List.set_cons_zero, List.set_cons_succ, List.length_cons, List.length_nil, Option.toList, List.append, List.nil_append, List.cons_append, true_and, and_true, Nat.add_zero, Nat.zero_le, Nat.zero_add, Nat.le_refl, Nat.reduceAdd, Nat.reduceLeDiff, co0, z0, zn_0, zn_1, zn_2, zn_3, zn_4, zn_5, zn_8, zn_12, zn_24, zn_121, zn_144, zn_256, zn_300, zn_600, zn_720, zn_1204, zn_1280, zn_2400, zn_4816, zn_14400, zn_90000, q_main, m_main, q_me, q_to, ar_4, ar_5, ar_12, ar_300, ar_600, ar_1200, ar_10, nI_add, ar_1, ar_2, ar_3, ar_2m]
          rw [nI_clamp (by omega), nI_clamp (by omega), f4, f5, rwp_u, mu_to]
          exact ⟨vp_in_nI (by omega) (by decide), m_k (by decide), vp_in_nI (by omega) (by decide), ihi⟩) (by
          refine s_Mo_tells_137 hC hN _ _ _ _ _ ?_
          simp only [B_Mo_tells_0, B_Mo_tells_2, B_Mo_tells_12, B_Mo_tells_32, B_Mo_tells_43, B_Mo_tells_77, B_Mo_tells_81, B_Mo_tells_82, B_Mo_tells_89, B_Mo_tells_124, B_Mo_tells_132, B_Mo_tells_137, B_Mo_tells_188, B_Mo_tells_194, B_Mo_tells_200, co_Mo_isLinked, co_Mo_lastOf, co_Mo_means, co_Mo_rowOf, i_ic, i_lc, i_nul, i_il, i_ll, i_al, i_is, i_as, i_ls, i_inc, i_iadd, i_isub, i_imul, i_iand, i_ior, i_ixor, i_idiv, i_irem, i_ishl, i_ishr, i_ladd, i_lsub, i_land, i_lor, i_i2l, i_lushr, i_lshl, i_lshr, i_lcmp, i_dup, i_pop, i_dx1, i_dup2, i_ifeq, i_ifne, i_iflt, i_ifge, i_ifgt, i_ifle, i_iceq, i_icne, i_iclt, i_icge, i_icgt, i_icle, i_ifn, i_gf, i_pf, i_ial, i_bal, i_lal, i_aal, i_ias, i_las, i_bas, i_aas, i_alen, i_newa, i_new, i_anew, i_cast, i_oi, i_call, i_callV, i_callV2, i_callI, i_iret, i_zret, i_lret, i_vret, i_aret, i_mmx, i_mmn, i_gsE, i_aceq, i_no, i_acq, i_sw, zsw, zlg, zls, znl, zfg, zcs, zsp, zrc, zisn, zft, zc1, zto, Value.category, List.set_cons_zero, List.set_cons_succ, List.length_cons, List.length_nil, Option.toList, List.append, List.nil_append, List.cons_append, true_and, and_true, Nat.add_zero, Nat.zero_le, Nat.zero_add, Nat.le_refl, Nat.reduceAdd, Nat.reduceLeDiff, co0, z0, zn_0, zn_1, zn_2, zn_3, zn_4, zn_5, zn_8, zn_12, zn_24, zn_121, zn_144, zn_256, zn_300, zn_600, zn_720, zn_1204, zn_1280, zn_2400, zn_4816, zn_14400, zn_90000, q_main, m_main, ar_4, ar_5, ar_12, ar_300, ar_600, ar_1200, ar_10, nI_add, ar_1, ar_2, ar_3, ar_2m]
          exact ⟨fun _ => hgo' _ _, fun h => absurd (by decide) h⟩)
        rw [e0] at lp
        exact lp
      have cmp := five (P := fun i => ∀ b : Bool, b = tl_o w u v i → ∀ j5 j6 : Option zAV, zG X 43 [some (.inr (30, 0, 0)), some (.inl (.int (nI u))), some (.inl (.int (nI v))), some (.inl (.int (zb b))), some (.inl (.int (nI i))), j5, j6] [] (mp w) k n) (fun i hi ihi b hb j5 j6 => by
        refine s_Mo_tells_43 hC hN _ _ _ _ _ ?_
        simp only [B_Mo_tells_0, B_Mo_tells_2, B_Mo_tells_12, B_Mo_tells_32, B_Mo_tells_43, B_Mo_tells_77, B_Mo_tells_81, B_Mo_tells_82, B_Mo_tells_124, B_Mo_tells_132, B_Mo_tells_137, B_Mo_tells_188, B_Mo_tells_194, B_Mo_tells_200, co_Mo_isLinked, co_Mo_lastOf, co_Mo_means, co_Mo_rowOf, i_ic, i_lc, i_nul, i_il, i_ll, i_al, i_is, i_as, i_ls, i_inc, i_iadd, i_isub, i_imul, i_iand, i_ior, i_ixor, i_idiv, i_irem, i_ishl, i_ishr, i_ladd, i_lsub, i_land, i_lor, i_i2l, i_lushr, i_lshl, i_lshr, i_lcmp, i_dup, i_pop, i_dx1, i_dup2, i_ifeq, i_ifne, i_iflt, i_ifge, i_ifgt, i_ifle, i_iceq, i_icne, i_iclt, i_icge, i_icgt, i_icle, i_ifn, i_gf, i_pf, i_ial, i_bal, i_lal, i_aal, i_ias, i_las, i_bas, i_aas, i_alen, i_newa, i_new, i_anew, i_cast, i_oi, i_call, i_callV, i_callV2, i_callI, i_iret, i_zret, i_lret, i_vret, i_aret, i_mmx, i_mmn, i_gsE, i_aceq, i_no, i_acq, i_sw, zsw, zlg, zls, znl, zfg, zcs, zsp, zrc, zisn, zft, zc1, zto, Value.category, List.set_cons_zero, List.set_cons_succ, List.length_cons, List.length_nil, Option.toList, List.append, List.nil_append, List.cons_append, true_and, and_true, Nat.add_zero, Nat.zero_le, Nat.zero_add, Nat.le_refl, Nat.reduceAdd, Nat.reduceLeDiff, co0, z0, zn_0, zn_1, zn_2, zn_3, zn_4, zn_5, zn_8, zn_12, zn_24, zn_121, zn_144, zn_256, zn_300, zn_600, zn_720, zn_1204, zn_1280, zn_2400, zn_4816, zn_14400, zn_90000, q_main, m_main, q_me, q_to, ar_4, ar_5, ar_12, ar_300, ar_600, ar_1200, ar_10, nI_add, ar_1, ar_2, ar_3, ar_2m]
        rw [nI_clamp (by omega)]
        have yes : (∃ j, j < i + 1 ∧ y_me w j ≠ y_to w (5 * (12 * u + v) + j)) → zG X 43 [some (.inr (30, 0, 0)), some (.inl (.int (nI u))), some (.inl (.int (nI v))), some (.inl (.int 1)), some (.inl (.int (nI (i + 1)))), j5, j6] [] (mp w) k n := fun q => ihi true (zd_t q).symm _ _
        refine ⟨fun h => absurd ((zK (K := 5) (by decide) (n := i) (by omega)).2.1.mp h) (by omega), fun _ => ⟨fun h => ?_, fun h => ⟨vp_in_nI (by omega) (by decide), hk1, hn1, u, v, rfl, ?_⟩⟩⟩
        · have := zd_i.mp (hb.symm.trans (zb_n0 h))
          obtain ⟨j, hj, hq⟩ := this
          exact yes ⟨j, by omega, hq⟩
        · simp only [B_Mo_tells_0, B_Mo_tells_2, B_Mo_tells_12, B_Mo_tells_32, B_Mo_tells_43, B_Mo_tells_77, B_Mo_tells_81, B_Mo_tells_82, B_Mo_tells_124, B_Mo_tells_132, B_Mo_tells_137, B_Mo_tells_188, B_Mo_tells_194, B_Mo_tells_200, co_Mo_isLinked, co_Mo_lastOf, co_Mo_means, co_Mo_rowOf, i_ic, i_lc, i_nul, i_il, i_ll, i_al, i_is, i_as, i_ls, i_inc, i_iadd, i_isub, i_imul, i_iand, i_ior, i_ixor, i_idiv, i_irem, i_ishl, i_ishr, i_ladd, i_lsub, i_land, i_lor, i_i2l, i_lushr, i_lshl, i_lshr, i_lcmp, i_dup, i_pop, i_dx1, i_dup2, i_ifeq, i_ifne, i_iflt, i_ifge, i_ifgt, i_ifle, i_iceq, i_icne, i_iclt, i_icge, i_icgt, i_icle, i_ifn, i_gf, i_pf, i_ial, i_bal, i_lal, i_aal, i_ias, i_las, i_bas, i_aas, i_alen, i_newa, i_new, i_anew, i_cast, i_oi, i_call, i_callV, i_callV2, i_callI, i_iret, i_zret, i_lret, i_vret, i_aret, i_mmx, i_mmn, i_gsE, i_aceq, i_no, i_acq, i_sw, zsw, zlg, zls, znl, zfg, zcs, zsp, zrc, zisn, zft, zc1, zto, Value.category, List.set_cons_zero, List.set_cons_succ, List.length_cons, List.length_nil, Option.toList, List.append, List.nil_append, List.cons_append, true_and, and_true, Nat.add_zero, Nat.zero_le, Nat.zero_add, Nat.le_refl, Nat.reduceAdd, Nat.reduceLeDiff, co0, z0, zn_0, zn_1, zn_2, zn_3, zn_4, zn_5, zn_8, zn_12, zn_24, zn_121, zn_144, zn_256, zn_300, zn_600, zn_720, zn_1204, zn_1280, zn_2400, zn_4816, zn_14400, zn_90000, q_main, m_main, q_me, q_to, ar_4, ar_5, ar_12, ar_300, ar_600, ar_1200, ar_10, nI_add, ar_1, ar_2, ar_3, ar_2m]
          rw [nI_clamp (by omega), lg_cmp_eq]
          have hf : tl_o w u v i = false := hb.symm.trans (zb_0.mp h)
          refine ⟨vp_in_nI (by omega) (by decide), fun q => ?_, fun q => ?_⟩
          · refine ihi false (zd_f (fun ⟨j, hj, hq⟩ => ?_)).symm _ _
            by_cases e : j = i
            · rw [e] at hq; exact hq q
            · exact zd_n.mp hf ⟨j, by omega, hq⟩
          · exact yes ⟨i, by omega, q⟩) (fun b hb j5 j6 => by
        refine s_Mo_tells_43 hC hN _ _ _ _ _ ?_
        simp only [B_Mo_tells_0, B_Mo_tells_2, B_Mo_tells_12, B_Mo_tells_32, B_Mo_tells_43, B_Mo_tells_77, B_Mo_tells_81, B_Mo_tells_82, B_Mo_tells_89, B_Mo_tells_124, B_Mo_tells_132, B_Mo_tells_137, B_Mo_tells_188, B_Mo_tells_194, B_Mo_tells_200, co_Mo_isLinked, co_Mo_lastOf, co_Mo_means, co_Mo_rowOf, i_ic, i_lc, i_nul, i_il, i_ll, i_al, i_is, i_as, i_ls, i_inc, i_iadd, i_isub, i_imul, i_iand, i_ior, i_ixor, i_idiv, i_irem, i_ishl, i_ishr, i_ladd, i_lsub, i_land, i_lor, i_i2l, i_lushr, i_lshl, i_lshr, i_lcmp, i_dup, i_pop, i_dx1, i_dup2, i_ifeq, i_ifne, i_iflt, i_ifge, i_ifgt, i_ifle, i_iceq, i_icne, i_iclt, i_icge, i_icgt, i_icle, i_ifn, i_gf, i_pf, i_ial, i_bal, i_lal, i_aal, i_ias, i_las, i_bas, i_aas, i_alen, i_newa, i_new, i_anew, i_cast, i_oi, i_call, i_callV, i_callV2, i_callI, i_iret, i_zret, i_lret, i_vret, i_aret, i_mmx, i_mmn, i_gsE, i_aceq, i_no, i_acq, i_sw, zsw, zlg, zls, znl, zfg, zcs, zsp, zrc, zisn, zft, zc1, zto, Value.category, List.set_cons_zero, List.set_cons_succ, List.length_cons, List.length_nil, Option.toList, List.append, List.nil_append, List.cons_append, true_and, and_true, Nat.add_zero, Nat.zero_le, Nat.zero_add, Nat.le_refl, Nat.reduceAdd, Nat.reduceLeDiff, co0, z0, zn_0, zn_1, zn_2, zn_3, zn_4, zn_5, zn_8, zn_12, zn_24, zn_121, zn_144, zn_256, zn_300, zn_600, zn_720, zn_1204, zn_1280, zn_2400, zn_4816, zn_14400, zn_90000, q_main, m_main, ar_4, ar_5, ar_12, ar_300, ar_600, ar_1200, ar_10, nI_add, ar_1, ar_2, ar_3, ar_2m]
        refine ⟨fun _ => ⟨fun h => ?_, fun h => ?_⟩, fun h => absurd (by decide) h⟩
        · rw [if_neg (by rw [← hb, zb_0.mp h]; decide)] at hgo
          exact hgo k n (by omega) (by omega) _ _ _ _
        · have ho : tl_o w u v 5 = true := hb.symm.trans (zb_n0 h)
          refine ⟨hk1, hn1, w, u, v, rfl, rfl, by omega, by omega, hJw, ?_⟩
          simp only [B_Mo_tells_0, B_Mo_tells_2, B_Mo_tells_12, B_Mo_tells_32, B_Mo_tells_43, B_Mo_tells_77, B_Mo_tells_81, B_Mo_tells_82, B_Mo_tells_89, B_Mo_tells_124, B_Mo_tells_132, B_Mo_tells_137, B_Mo_tells_188, B_Mo_tells_194, B_Mo_tells_200, co_Mo_isLinked, co_Mo_lastOf, co_Mo_means, co_Mo_rowOf, i_ic, i_lc, i_nul, i_il, i_ll, i_al, i_is, i_as, i_ls, i_inc, i_iadd, i_isub, i_imul, i_iand, i_ior, i_ixor, i_idiv, i_irem, i_ishl, i_ishr, i_ladd, i_lsub, i_land, i_lor, i_i2l, i_lushr, i_lshl, i_lshr, i_lcmp, i_dup, i_pop, i_dx1, i_dup2, i_ifeq, i_ifne, i_iflt, i_ifge, i_ifgt, i_ifle, i_iceq, i_icne, i_iclt, i_icge, i_icgt, i_icle, i_ifn, i_gf, i_pf, i_ial, i_bal, i_lal, i_aal, i_ias, i_las, i_bas, i_aas, i_alen, i_newa, i_new, i_anew, i_cast, i_oi, i_call, i_callV, i_callV2, i_callI, i_iret, i_zret, i_lret, i_vret, i_aret, i_mmx, i_mmn, i_gsE, i_aceq, i_no, i_acq, i_sw, zsw, zlg, zls, znl, zfg, zcs, zsp, zrc, zisn, zft, zc1, zto, Value.category, List.set_cons_zero, List.set_cons_succ, List.length_cons, List.length_nil, Option.toList, List.append, List.nil_append, List.cons_append, true_and, and_true, Nat.add_zero, Nat.zero_le, Nat.zero_add, Nat.le_refl, Nat.reduceAdd, Nat.reduceLeDiff, co0, z0, zn_0, zn_1, zn_2, zn_3, zn_4, zn_5, zn_8, zn_12, zn_24, zn_121, zn_144, zn_256, zn_300, zn_600, zn_720, zn_1204, zn_1280, zn_2400, zn_4816, zn_14400, zn_90000, q_main, m_main, q_wh]
          have hcpw := hJw.cp
          have hkk : k + y_cp y ≤ y_cp w := by omega
          have hnn : n + 16 * y_cp y ≤ 16 * y_cp w := by omega
          obtain ⟨cc, hcc⟩ : ∃ cc, cc = if y_ms w = y_cp w then y_cp w else 0 := ⟨_, rfl⟩
          have epu : y_cp (pu w u v (-2)) = y_cp w + cc := by
            rw [pu_cp, hcc]; split <;> omega
          have neu : tl_m w u v = none → (k + cc ≤ c1 ∧ n + 16 * cc ≤ c2) ∧ ∀ j3 j4 : Option zAV, zG X 137 [some (.inr (30, 0, 0)), some (.inl (.int (nI u))), some (.inl (.int (nI v))), j3, j4, some (.inl (.int (nI (y_ms w)))), some (.inl (.int (nI 0)))] [] (mp (pu w u v (-2))) (k + cc) (n + 16 * cc) := by
            intro hn0
            have hp : tl_p w u v = pu w u v (-2) := by unfold tl_p; rw [hn0]
            have hi : tl_i w u v = y_ms w := by unfold tl_i; rw [hn0]
            have hJp : Jv (pu w u v (-2)) := Jv_pu hJw hrw (by omega) (by omega) (Or.inl rfl)
            have hms : y_ms (pu w u v (-2)) = y_ms w + 1 := by unfold pu; split <;> rfl
            have hcp2 := hJp.cp
            have hme : y_me (pu w u v (-2)) = y_me w := by unfold pu; split <;> rfl
            rw [if_pos ho] at hct
            have hct' : y_cp (tl_p w u v) ≤ y_cp (tl y) := hct
            rw [hp] at hct'
            exact ⟨⟨by omega, by omega⟩, copy _ _ hp hi ho (by omega) hcp2.2.2 hme _ _ (by omega) (by omega)⟩
          have hpc : y_ms w = y_cp w → y_cp w ≤ 8192 ∧ y_cp w ≤ cc ∧ 16 * y_cp w ≤ 16 * cc := fun q => by
            have := hrw q
            rw [hcc, if_pos q]
            exact ⟨this, Nat.le_refl _, Nat.le_refl _⟩
          cases hls : lsO w u v (y_ms w) with
          | none =>
            have hn0 : tl_m w u v = none := by unfold tl_m; rw [hls]
            obtain ⟨⟨q1, q2⟩, q3⟩ := neu hn0
            exact ⟨fun _ => ⟨cc, 16 * cc, q1, q2, w, u, v, -2, rfl, rfl, hJw, hpc, q3 _ _⟩, fun h => absurd rfl h⟩
          | some m =>
            have hm := lsO_lt hls
            have em : (nI m).toNatClampNeg = m := nI_clamp (by omega)
            refine ⟨fun h => ?_, fun _ => ⟨vp_in_nI (by omega) (by omega), fun h => ?_, fun h => ?_⟩⟩
            · have h' : nI m = -1 := h
              have := nI_pos (n := m) (by omega)
              rw [h'] at this
              exact absurd (by decide) this
            · have h' : ¬ y_wh w (nI m).toNatClampNeg = -2 := h
              rw [em] at h'
              have hn0 : tl_m w u v = none := by unfold tl_m; rw [hls]; exact if_neg h'
              obtain ⟨⟨q1, q2⟩, q3⟩ := neu hn0
              exact ⟨cc, 16 * cc, q1, q2, w, u, v, -2, rfl, rfl, hJw, hpc, q3 _ _⟩
            · have h' : y_wh w (nI m).toNatClampNeg = -2 := h
              rw [em] at h'
              have hn0 : tl_m w u v = some m := by unfold tl_m; rw [hls]; exact if_pos h'
              exact copy w m (by unfold tl_p; rw [hn0]) (by unfold tl_i; rw [hn0]) ho (by omega) hcpw.2.2 rfl k n hkk hnn _ _)
      exact cmp false (zd_f (fun ⟨j, hj, _⟩ => Nat.not_lt_zero j hj)).symm _ _
    · have e : tl_1 z u v = z := by unfold tl_1; rw [zb_0.mp hl]; rfl
      rw [e] at hgo
      exact hgo k n hk hn _ _ _ _
  have hdu : ∀ u, y_dk (tl_u y u) = y_dk y := fun u => (tl_fu y u).1
  have mo : ∀ u v, u < y_dk y → v ≤ y_dk y → y_cp (tl_v (tl_u y u) u v) ≤ y_cp (tl y) := by
    have m1 : ∀ (z : zMS) (u : Nat) {a b : Nat}, a ≤ b → y_cp (tl_v z u a) ≤ y_cp (tl_v z u b) := fun z u a b hab => by
      induction hab with
      | refl => exact Nat.le_refl _
      | step _ ih => exact Nat.le_trans ih (tl_f1 _ _ _).2.1
    have m2 : ∀ {a b : Nat}, a ≤ b → y_cp (tl_u y a) ≤ y_cp (tl_u y b) := fun {a b} hab => by
      induction hab with
      | refl => exact Nat.le_refl _
      | step _ ih => exact Nat.le_trans ih (tl_fv _ _ _).2.1
    intro u v hu hv
    refine Nat.le_trans (m1 (tl_u y u) u hv) ?_
    exact m2 (a := u + 1) (b := y_dk y) hu
  have ge : ∀ u v, y_cp y ≤ y_cp (tl_v (tl_u y u) u v) := fun u v => Nat.le_trans (tl_fu y u).2.1 (tl_fv _ u v).2.1
  have outer := upto (N := y_dk y) (P := fun u => ∀ (k n : Nat), k + y_cp y ≤ y_cp (tl_u y u) → n + 16 * y_cp y ≤ 16 * y_cp (tl_u y u) → ∀ j2 j3 j4 j5 j6 : Option zAV, zG X 2 [some (.inr (30, 0, 0)), some (.inl (.int (nI u))), j2, j3, j4, j5, j6] [] (mp (tl_u y u)) k n) (fun u hu ih k n hk hn j2 j3 j4 j5 j6 => by
    have inner := upto (N := y_dk y) (P := fun v => ∀ (k n : Nat), k + y_cp y ≤ y_cp (tl_v (tl_u y u) u v) → n + 16 * y_cp y ≤ 16 * y_cp (tl_v (tl_u y u) u v) → ∀ j3 j4 j5 j6 : Option zAV, zG X 12 [some (.inr (30, 0, 0)), some (.inl (.int (nI u))), some (.inl (.int (nI v))), j3, j4, j5, j6] [] (mp (tl_v (tl_u y u) u v)) k n) (fun v hv ihv k n hk hn j3 j4 j5 j6 => by
      have hJz : Jv (tl_v (tl_u y u) u v) := Jv_tlv (by omega) v (by omega) (Jv_tlu hJ hok u (by omega)) (fun v' hv' => hok u v' hu (by omega))
      exact step _ u v hJz (hok u v hu hv) ((tl_fv _ u v).1.trans (hdu u)) hu hv (ge u v) (mo u (v + 1) hu hv) k n hk hn ihv j3 j4 j5 j6) (fun k n hk hn j3 j4 j5 j6 => by
      refine s_Mo_tells_12 hC hN _ _ _ _ _ ?_
      have e1 : y_dk (tl_v (tl_u y u) u (y_dk y)) = y_dk y := (tl_fv _ u _).1.trans (hdu u)
      simp only [B_Mo_tells_0, B_Mo_tells_2, B_Mo_tells_12, B_Mo_tells_32, B_Mo_tells_43, B_Mo_tells_77, B_Mo_tells_81, B_Mo_tells_82, B_Mo_tells_89, B_Mo_tells_124, B_Mo_tells_132, B_Mo_tells_137, B_Mo_tells_188, B_Mo_tells_194, B_Mo_tells_200, co_Mo_isLinked, co_Mo_lastOf, co_Mo_means, co_Mo_rowOf, i_ic, i_lc, i_nul, i_il, i_ll, i_al, i_is, i_as, i_ls, i_inc, i_iadd, i_isub, i_imul, i_iand, i_ior, i_ixor, i_idiv, i_irem, i_ishl, i_ishr, i_ladd, i_lsub, i_land, i_lor, i_i2l, i_lushr, i_lshl, i_lshr, i_lcmp, i_dup, i_pop, i_dx1, i_dup2, i_ifeq, i_ifne, i_iflt, i_ifge, i_ifgt, i_ifle, i_iceq, i_icne, i_iclt, i_icge, i_icgt, i_icle, i_ifn, i_gf, i_pf, i_ial, i_bal, i_lal, i_aal, i_ias, i_las, i_bas, i_aas, i_alen, i_newa, i_new, i_anew, i_cast, i_oi, i_call, i_callV, i_callV2, i_callI, i_iret, i_zret, i_lret, i_vret, i_aret, i_mmx, i_mmn, i_gsE, i_aceq, i_no, i_acq, i_sw, zsw, zlg, zls, znl, zfg, zcs, zsp, zrc, zisn, zft, zc1, zto, Value.category, List.set_cons_zero, List.set_cons_succ, List.length_cons, List.length_nil, Option.toList, List.append, List.nil_append, List.cons_append, true_and, and_true, Nat.add_zero, Nat.zero_le, Nat.zero_add, Nat.le_refl, Nat.reduceAdd, Nat.reduceLeDiff, co0, z0, zn_0, zn_1, zn_2, zn_3, zn_4, zn_5, zn_8, zn_12, zn_24, zn_121, zn_144, zn_256, zn_300, zn_600, zn_720, zn_1204, zn_1280, zn_2400, zn_4816, zn_14400, zn_90000, q_main, m_main, e1, ar_4, ar_5, ar_12, ar_300, ar_600, ar_1200, ar_10, nI_add, ar_1, ar_2, ar_3, ar_2m]
      exact ⟨fun _ => ih k n hk hn _ _ _ _ _, fun h => absurd ((zK (K := y_dk y) (by omega) (n := y_dk y) (by omega)).2.1.mpr (Nat.le_refl _)) h⟩) 0 (Nat.zero_le _)
    refine s_Mo_tells_2 hC hN _ _ _ _ _ ?_
    simp only [B_Mo_tells_0, B_Mo_tells_2, B_Mo_tells_12, B_Mo_tells_32, B_Mo_tells_43, B_Mo_tells_77, B_Mo_tells_81, B_Mo_tells_82, B_Mo_tells_89, B_Mo_tells_124, B_Mo_tells_132, B_Mo_tells_137, B_Mo_tells_188, B_Mo_tells_194, B_Mo_tells_200, co_Mo_isLinked, co_Mo_lastOf, co_Mo_means, co_Mo_rowOf, i_ic, i_lc, i_nul, i_il, i_ll, i_al, i_is, i_as, i_ls, i_inc, i_iadd, i_isub, i_imul, i_iand, i_ior, i_ixor, i_idiv, i_irem, i_ishl, i_ishr, i_ladd, i_lsub, i_land, i_lor, i_i2l, i_lushr, i_lshl, i_lshr, i_lcmp, i_dup, i_pop, i_dx1, i_dup2, i_ifeq, i_ifne, i_iflt, i_ifge, i_ifgt, i_ifle, i_iceq, i_icne, i_iclt, i_icge, i_icgt, i_icle, i_ifn, i_gf, i_pf, i_ial, i_bal, i_lal, i_aal, i_ias, i_las, i_bas, i_aas, i_alen, i_newa, i_new, i_anew, i_cast, i_oi, i_call, i_callV, i_callV2, i_callI, i_iret, i_zret, i_lret, i_vret, i_aret, i_mmx, i_mmn, i_gsE, i_aceq, i_no, i_acq, i_sw, zsw, zlg, zls, znl, zfg, zcs, zsp, zrc, zisn, zft, zc1, zto, Value.category, List.set_cons_zero, List.set_cons_succ, List.length_cons, List.length_nil, Option.toList, List.append, List.nil_append, List.cons_append, true_and, and_true, Nat.add_zero, Nat.zero_le, Nat.zero_add, Nat.le_refl, Nat.reduceAdd, Nat.reduceLeDiff, co0, z0, zn_0, zn_1, zn_2, zn_3, zn_4, zn_5, zn_8, zn_12, zn_24, zn_121, zn_144, zn_256, zn_300, zn_600, zn_720, zn_1204, zn_1280, zn_2400, zn_4816, zn_14400, zn_90000, q_main, m_main, hdu]
    exact ⟨fun h => absurd ((zK (K := y_dk y) (by omega) (n := u) (by omega)).2.1.mp h) (by omega), fun _ => inner k n hk hn _ _ _ _⟩) (fun k n hk hn j2 j3 j4 j5 j6 => by
    refine s_Mo_tells_2 hC hN _ _ _ _ _ ?_
    simp only [B_Mo_tells_0, B_Mo_tells_2, B_Mo_tells_12, B_Mo_tells_32, B_Mo_tells_43, B_Mo_tells_77, B_Mo_tells_81, B_Mo_tells_82, B_Mo_tells_89, B_Mo_tells_124, B_Mo_tells_132, B_Mo_tells_137, B_Mo_tells_188, B_Mo_tells_194, B_Mo_tells_200, co_Mo_isLinked, co_Mo_lastOf, co_Mo_means, co_Mo_rowOf, i_ic, i_lc, i_nul, i_il, i_ll, i_al, i_is, i_as, i_ls, i_inc, i_iadd, i_isub, i_imul, i_iand, i_ior, i_ixor, i_idiv, i_irem, i_ishl, i_ishr, i_ladd, i_lsub, i_land, i_lor, i_i2l, i_lushr, i_lshl, i_lshr, i_lcmp, i_dup, i_pop, i_dx1, i_dup2, i_ifeq, i_ifne, i_iflt, i_ifge, i_ifgt, i_ifle, i_iceq, i_icne, i_iclt, i_icge, i_icgt, i_icle, i_ifn, i_gf, i_pf, i_ial, i_bal, i_lal, i_aal, i_ias, i_las, i_bas, i_aas, i_alen, i_newa, i_new, i_anew, i_cast, i_oi, i_call, i_callV, i_callV2, i_callI, i_iret, i_zret, i_lret, i_vret, i_aret, i_mmx, i_mmn, i_gsE, i_aceq, i_no, i_acq, i_sw, zsw, zlg, zls, znl, zfg, zcs, zsp, zrc, zisn, zft, zc1, zto, Value.category, List.set_cons_zero, List.set_cons_succ, List.length_cons, List.length_nil, Option.toList, List.append, List.nil_append, List.cons_append, true_and, and_true, Nat.add_zero, Nat.zero_le, Nat.zero_add, Nat.le_refl, Nat.reduceAdd, Nat.reduceLeDiff, co0, z0, zn_0, zn_1, zn_2, zn_3, zn_4, zn_5, zn_8, zn_12, zn_24, zn_121, zn_144, zn_256, zn_300, zn_600, zn_720, zn_1204, zn_1280, zn_2400, zn_4816, zn_14400, zn_90000, q_main, m_main, hdu]
    have hk' : k + y_cp y ≤ y_cp (tl y) := hk
    have hn' : n + 16 * y_cp y ≤ 16 * y_cp (tl y) := hn
    exact ⟨fun _ => ⟨by omega, by omega, hR⟩, fun h => absurd ((zK (K := y_dk y) (by omega) (n := y_dk y) (by omega)).2.1.mpr (Nat.le_refl _)) h⟩) 0 (Nat.zero_le _)
  refine s_Mo_tells_0 hC hN _ _ _ _ _ ?_
  simp only [B_Mo_tells_0, B_Mo_tells_2, B_Mo_tells_12, B_Mo_tells_32, B_Mo_tells_43, B_Mo_tells_77, B_Mo_tells_81, B_Mo_tells_82, B_Mo_tells_89, B_Mo_tells_124, B_Mo_tells_132, B_Mo_tells_137, B_Mo_tells_188, B_Mo_tells_194, B_Mo_tells_200, co_Mo_isLinked, co_Mo_lastOf, co_Mo_means, co_Mo_rowOf, i_ic, i_lc, i_nul, i_il, i_ll, i_al, i_is, i_as, i_ls, i_inc, i_iadd, i_isub, i_imul, i_iand, i_ior, i_ixor, i_idiv, i_irem, i_ishl, i_ishr, i_ladd, i_lsub, i_land, i_lor, i_i2l, i_lushr, i_lshl, i_lshr, i_lcmp, i_dup, i_pop, i_dx1, i_dup2, i_ifeq, i_ifne, i_iflt, i_ifge, i_ifgt, i_ifle, i_iceq, i_icne, i_iclt, i_icge, i_icgt, i_icle, i_ifn, i_gf, i_pf, i_ial, i_bal, i_lal, i_aal, i_ias, i_las, i_bas, i_aas, i_alen, i_newa, i_new, i_anew, i_cast, i_oi, i_call, i_callV, i_callV2, i_callI, i_iret, i_zret, i_lret, i_vret, i_aret, i_mmx, i_mmn, i_gsE, i_aceq, i_no, i_acq, i_sw, zsw, zlg, zls, znl, zfg, zcs, zsp, zrc, zisn, zft, zc1, zto, Value.category, List.set_cons_zero, List.set_cons_succ, List.length_cons, List.length_nil, Option.toList, List.append, List.nil_append, List.cons_append, true_and, and_true, Nat.add_zero, Nat.zero_le, Nat.zero_add, Nat.le_refl, Nat.reduceAdd, Nat.reduceLeDiff, co0, z0, zn_0, zn_1, zn_2, zn_3, zn_4, zn_5, zn_8, zn_12, zn_24, zn_121, zn_144, zn_256, zn_300, zn_600, zn_720, zn_1204, zn_1280, zn_2400, zn_4816, zn_14400, zn_90000]
  exact outer 0 0 (by show 0 + y_cp y ≤ y_cp y; omega) (by show 0 + 16 * y_cp y ≤ 16 * y_cp y; omega) _ _ _ _ _
