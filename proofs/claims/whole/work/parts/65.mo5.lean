/-! the reference: put -/
theorem q_gb {y : zMS} {i j : Nat} (h : ¬ (i < 4 ∧ j = y_cp y)) : mp y (32, i, j) = y_gb y i j := if_neg h
theorem mu_gb (y : zMS) {i j : Nat} (e : zAE) (h : ¬ (i < 4 ∧ j = y_cp y)) : zup (mp y) (32, i, j) e = mp (v_gb y (va_u2 (y_gb y) i j (some e))) := by
  refine mp_up ?_ (fun k i' j' hn => ?_)
  · show (if i < 4 ∧ j = y_cp y then m_gro y i else va_u2 (y_gb y) i j (some e) i j) = some e
    rw [if_neg h]
    exact if_pos ⟨rfl, rfl⟩
  · show _ = (if k = 30 then (if i' = 0 ∧ j' = 0 then some (m_main y) else none) else if k = 31 then (if j' = 0 then m_arr y i' else none) else if k = 32 then (if i' < 4 ∧ j' = y_cp y then m_gro y i' else va_u2 (y_gb y) i j (some e) i' j') else none)
    show (if k = 30 then (if i' = 0 ∧ j' = 0 then some (m_main y) else none) else if k = 31 then (if j' = 0 then m_arr y i' else none) else if k = 32 then (if i' < 4 ∧ j' = y_cp y then m_gro y i' else y_gb y i' j') else none) = _
    by_cases hk : k = 32
    · subst hk
      have : va_u2 (y_gb y) i j (some e) i' j' = y_gb y i' j' := if_neg (fun q => hn (by rw [q.1, q.2]))
      rw [this]
    · simp only [hk, if_false]
/-- the four new arrays of twice the length -/
def gG (y : zMS) (A B C : Nat → Int32) (D : Nat → Int64) : Nat → Nat → Option zAE := fun i j => if j = 2 * y_cp y then (if i = 0 then some (zin (2 * y_cp y) A) else if i = 1 then some (zin (2 * y_cp y) B) else if i = 2 then some (zin (2 * y_cp y) C) else if i = 3 then some (zll (10 * y_cp y) D) else y_gb y i j) else y_gb y i j
theorem gG_0 (y : zMS) (A B C A' : Nat → Int32) (D : Nat → Int64) : va_u2 (gG y A B C D) 0 (2 * y_cp y) (some (zin (2 * y_cp y) A')) = gG y A' B C D := by
  funext i j
  simp only [va_u2, gG]
  by_cases hj : j = 2 * y_cp y <;> by_cases hi : i = 0 <;> simp [hj, hi]
theorem gG_1 (y : zMS) (A B C B' : Nat → Int32) (D : Nat → Int64) : va_u2 (gG y A B C D) 1 (2 * y_cp y) (some (zin (2 * y_cp y) B')) = gG y A B' C D := by
  funext i j
  simp only [va_u2, gG]
  by_cases hj : j = 2 * y_cp y <;> by_cases hi : i = 1 <;> simp [hj, hi]
theorem gG_2 (y : zMS) (A B C C' : Nat → Int32) (D : Nat → Int64) : va_u2 (gG y A B C D) 2 (2 * y_cp y) (some (zin (2 * y_cp y) C')) = gG y A B C' D := by
  funext i j
  simp only [va_u2, gG]
  by_cases hj : j = 2 * y_cp y <;> by_cases hi : i = 2 <;> simp [hj, hi]
theorem gG_3 (y : zMS) (A B C : Nat → Int32) (D D' : Nat → Int64) : va_u2 (gG y A B C D) 3 (2 * y_cp y) (some (zll (10 * y_cp y) D')) = gG y A B C D' := by
  funext i j
  simp only [va_u2, gG]
  by_cases hj : j = 2 * y_cp y <;> by_cases hi : i = 3 <;> simp [hj, hi]
theorem gG_n (y : zMS) (A B C : Nat → Int32) (D : Nat → Int64) : va_u2 (va_u2 (va_u2 (va_u2 (y_gb y) 0 (2 * y_cp y) (some (zin (2 * y_cp y) A))) 1 (2 * y_cp y) (some (zin (2 * y_cp y) B))) 2 (2 * y_cp y) (some (zin (2 * y_cp y) C))) 3 (2 * y_cp y) (some (zll (10 * y_cp y) D)) = gG y A B C D := by
  funext i j
  simp only [va_u2, gG]
  by_cases hj : j = 2 * y_cp y
  · by_cases h0 : i = 0
    · simp [hj, h0]
    · by_cases h1 : i = 1
      · simp [hj, h1]
      · by_cases h2 : i = 2
        · simp [hj, h2]
        · by_cases h3 : i = 3 <;> simp [hj, h0, h1, h2, h3]
  · simp [hj]
/-- numbers of the old array, then nothing -/
def cut0 {α : Type} (f : Nat → α) (z : α) (n : Nat) : Nat → α := fun k => if k < n then f k else z
/-- the lists with room for as many again -/
def pg (y : zMS) : zMS := v_gb (v_rw (v_wh (v_tt (v_fr (v_cp y (2 * y_cp y)) (cut0 (y_fr y) 0 (y_cp y))) (cut0 (y_tt y) 0 (y_cp y))) (cut0 (y_wh y) 0 (y_cp y))) (cut0 (y_rw y) 0 (5 * y_cp y))) (fun i j => if i < 4 ∧ j = y_cp y then m_gro y i else y_gb y i j)
def pu1 (y : zMS) (u v : Nat) (s : Int32) : zMS := v_ms (v_wh (v_tt (v_fr y (va_up (y_fr y) (y_ms y) u)) (va_up (y_tt y) (y_ms y) v)) (upd (y_wh y) (y_ms y) s)) (y_ms y + 1)
def pu (y : zMS) (u v : Nat) (s : Int32) : zMS := if y_ms y = y_cp y then pu1 (pg y) u v s else pu1 y u v s
theorem cut0_u (f : Nat → Int32) (k : Nat) : upd (cut0 f 0 k) k (f k) = cut0 f 0 (k + 1) := by
  funext j
  simp only [upd, cut0]
  by_cases e : j = k
  · rw [if_pos e, if_pos (by omega), e]
  · rw [if_neg e]
    by_cases c : j < k
    · rw [if_pos c, if_pos (by omega)]
    · rw [if_neg c, if_neg (by omega)]
theorem cut0_L (f : Nat → Int64) (k : Nat) : vp_updL (cut0 f 0 k) k (f k) = cut0 f 0 (k + 1) := by
  funext j
  simp only [vp_updL, cut0]
  by_cases e : j = k
  · rw [if_pos e, if_pos (by omega), e]
  · rw [if_neg e]
    by_cases c : j < k
    · rw [if_pos c, if_pos (by omega)]
    · rw [if_neg c, if_neg (by omega)]
theorem cut0_n (f : Nat → Nat) (n : Nat) : cut0 (fun k => nI (f k)) 0 n = fun k => nI (cut0 f 0 n k) := by
  funext k
  simp only [cut0]
  split <;> rfl
/-- the main object with the new arrays -/
def m_new (y : zMS) : zAE := m_main (v_cp y (2 * y_cp y))
theorem pg_e (y : zMS) (h0 : 0 < y_cp y) (hg : ∀ i, y_gb y i (2 * y_cp y) = none) : zup (mp (v_gb y (gG y (cut0 (fun k => nI (y_fr y k)) 0 (y_cp y)) (cut0 (fun k => nI (y_tt y k)) 0 (y_cp y)) (cut0 (y_wh y) 0 (y_cp y)) (cut0 (y_rw y) 0 (5 * y_cp y))))) (30, 0, 0) (m_new y) = mp (pg y) := by
  refine mp_up rfl (fun k i j hn => ?_)
  show (if k = 30 then (if i = 0 ∧ j = 0 then some (m_main y) else none) else if k = 31 then (if j = 0 then m_arr y i else none) else if k = 32 then (if i < 4 ∧ j = y_cp y then m_gro y i else gG y (cut0 (fun k => nI (y_fr y k)) 0 (y_cp y)) (cut0 (fun k => nI (y_tt y k)) 0 (y_cp y)) (cut0 (y_wh y) 0 (y_cp y)) (cut0 (y_rw y) 0 (5 * y_cp y)) i j) else none) = (if k = 30 then (if i = 0 ∧ j = 0 then some (m_new y) else none) else if k = 31 then (if j = 0 then m_arr y i else none) else if k = 32 then (if i < 4 ∧ j = 2 * y_cp y then m_gro (pg y) i else (if i < 4 ∧ j = y_cp y then m_gro y i else y_gb y i j)) else none)
  by_cases hk : k = 30
  · subst hk
    have : ¬ (i = 0 ∧ j = 0) := fun q => hn (by rw [q.1, q.2])
    rw [if_pos rfl, if_pos rfl, if_neg this, if_neg this]
  · by_cases hk2 : k = 32
    · subst hk2
      show (if i < 4 ∧ j = y_cp y then m_gro y i else gG y (cut0 (fun k => nI (y_fr y k)) 0 (y_cp y)) (cut0 (fun k => nI (y_tt y k)) 0 (y_cp y)) (cut0 (y_wh y) 0 (y_cp y)) (cut0 (y_rw y) 0 (5 * y_cp y)) i j) = (if i < 4 ∧ j = 2 * y_cp y then m_gro (pg y) i else (if i < 4 ∧ j = y_cp y then m_gro y i else y_gb y i j))
      by_cases hj : j = 2 * y_cp y
      · subst hj
        rw [show (if i < 4 ∧ 2 * y_cp y = y_cp y then m_gro y i else y_gb y i (2 * y_cp y)) = y_gb y i (2 * y_cp y) from if_neg (fun q => by omega), if_neg (fun q => by omega), hg i]
        simp only [gG, if_true, and_true, hg i]
        rcases i with _ | _ | _ | _ | i
        · simp only [if_true]
          rw [cut0_n]
          rfl
        · simp only [Nat.zero_add, Nat.succ_ne_zero, if_false, if_true, show (1 : Nat) < 4 from by decide]
          rw [cut0_n]
          rfl
        · rfl
        · show some (zll (10 * y_cp y) (cut0 (y_rw y) 0 (5 * y_cp y))) = some (zll (5 * (2 * y_cp y)) (cut0 (y_rw y) 0 (5 * y_cp y)))
          rw [show 5 * (2 * y_cp y) = 10 * y_cp y by omega]
        · rw [if_neg (by omega), if_neg (by omega), if_neg (by omega), if_neg (by omega), if_neg (by omega)]
      · rw [if_neg (show ¬ (i < 4 ∧ j = 2 * y_cp y) from fun q => hj q.2)]
        simp only [gG, hj, if_false]
    · simp only [hk, hk2, if_false]
def T_Mo_put (As : List zAV) (M : zMp) (Rt : Option zAV → zMp → Prop) (c1 c2 : Nat) : Prop := ∃ y u v s, As = [.inr (30, 0, 0), .inl (.int (nI u)), .inl (.int (nI v)), .inl (.int s)] ∧ M = mp y ∧ Jv y ∧ (y_ms y = y_cp y → y_cp y ≤ 8192 ∧ y_cp y ≤ c1 ∧ 16 * y_cp y ≤ c2) ∧ Rt (some (.inl (.int (nI (y_ms y))))) (mp (pu y u v s))
theorem dX7_put_0 : decode cX7_put 0 = .ok (.aload_n 0, 1) := by decide +kernel
theorem dX7_put_1 : decode cX7_put 1 = .ok (.getfield 129, 3) := by decide +kernel
theorem dX7_put_4 : decode cX7_put 4 = .ok (.aload_n 0, 1) := by decide +kernel
theorem dX7_put_5 : decode cX7_put 5 = .ok (.getfield 57, 3) := by decide +kernel
theorem dX7_put_8 : decode cX7_put 8 = .ok (.arraylength, 1) := by decide +kernel
theorem dX7_put_9 : decode cX7_put 9 = .ok (.if_icmp .ne 154, 3) := by decide +kernel
theorem dX7_put_12 : decode cX7_put 12 = .ok (.iconst 2, 1) := by decide +kernel
theorem dX7_put_13 : decode cX7_put 13 = .ok (.aload_n 0, 1) := by decide +kernel
theorem dX7_put_14 : decode cX7_put 14 = .ok (.getfield 129, 3) := by decide +kernel
theorem dX7_put_17 : decode cX7_put 17 = .ok (.imul, 1) := by decide +kernel
theorem dX7_put_18 : decode cX7_put 18 = .ok (.newarray .int, 2) := by decide +kernel
theorem dX7_put_20 : decode cX7_put 20 = .ok (.astore 4, 2) := by decide +kernel
theorem dX7_put_22 : decode cX7_put 22 = .ok (.iconst 2, 1) := by decide +kernel
theorem dX7_put_23 : decode cX7_put 23 = .ok (.aload_n 0, 1) := by decide +kernel
theorem dX7_put_24 : decode cX7_put 24 = .ok (.getfield 129, 3) := by decide +kernel
theorem dX7_put_27 : decode cX7_put 27 = .ok (.imul, 1) := by decide +kernel
theorem dX7_put_28 : decode cX7_put 28 = .ok (.newarray .int, 2) := by decide +kernel
theorem dX7_put_30 : decode cX7_put 30 = .ok (.astore 5, 2) := by decide +kernel
theorem dX7_put_32 : decode cX7_put 32 = .ok (.iconst 2, 1) := by decide +kernel
theorem dX7_put_33 : decode cX7_put 33 = .ok (.aload_n 0, 1) := by decide +kernel
theorem dX7_put_34 : decode cX7_put 34 = .ok (.getfield 129, 3) := by decide +kernel
theorem dX7_put_37 : decode cX7_put 37 = .ok (.imul, 1) := by decide +kernel
theorem dX7_put_38 : decode cX7_put 38 = .ok (.newarray .int, 2) := by decide +kernel
theorem dX7_put_40 : decode cX7_put 40 = .ok (.astore 6, 2) := by decide +kernel
theorem dX7_put_42 : decode cX7_put 42 = .ok (.bipush 10, 2) := by decide +kernel
theorem dX7_put_44 : decode cX7_put 44 = .ok (.aload_n 0, 1) := by decide +kernel
theorem dX7_put_45 : decode cX7_put 45 = .ok (.getfield 129, 3) := by decide +kernel
theorem dX7_put_48 : decode cX7_put 48 = .ok (.imul, 1) := by decide +kernel
theorem dX7_put_49 : decode cX7_put 49 = .ok (.newarray .long, 2) := by decide +kernel
theorem dX7_put_51 : decode cX7_put 51 = .ok (.astore 7, 2) := by decide +kernel
theorem dX7_put_53 : decode cX7_put 53 = .ok (.iconst 0, 1) := by decide +kernel
theorem dX7_put_54 : decode cX7_put 54 = .ok (.istore 8, 2) := by decide +kernel
theorem dX7_put_56 : decode cX7_put 56 = .ok (.iload 8, 2) := by decide +kernel
theorem dX7_put_58 : decode cX7_put 58 = .ok (.aload_n 0, 1) := by decide +kernel
theorem dX7_put_59 : decode cX7_put 59 = .ok (.getfield 129, 3) := by decide +kernel
theorem dX7_put_62 : decode cX7_put 62 = .ok (.if_icmp .ge 45, 3) := by decide +kernel
theorem dX7_put_65 : decode cX7_put 65 = .ok (.aload 4, 2) := by decide +kernel
theorem dX7_put_67 : decode cX7_put 67 = .ok (.iload 8, 2) := by decide +kernel
theorem dX7_put_69 : decode cX7_put 69 = .ok (.aload_n 0, 1) := by decide +kernel
theorem dX7_put_70 : decode cX7_put 70 = .ok (.getfield 57, 3) := by decide +kernel
theorem dX7_put_73 : decode cX7_put 73 = .ok (.iload 8, 2) := by decide +kernel
theorem dX7_put_75 : decode cX7_put 75 = .ok (.iaload, 1) := by decide +kernel
theorem dX7_put_76 : decode cX7_put 76 = .ok (.iastore, 1) := by decide +kernel
theorem dX7_put_77 : decode cX7_put 77 = .ok (.aload 5, 2) := by decide +kernel
theorem dX7_put_79 : decode cX7_put 79 = .ok (.iload 8, 2) := by decide +kernel
theorem dX7_put_81 : decode cX7_put 81 = .ok (.aload_n 0, 1) := by decide +kernel
theorem dX7_put_82 : decode cX7_put 82 = .ok (.getfield 60, 3) := by decide +kernel
theorem dX7_put_85 : decode cX7_put 85 = .ok (.iload 8, 2) := by decide +kernel
theorem dX7_put_87 : decode cX7_put 87 = .ok (.iaload, 1) := by decide +kernel
theorem dX7_put_88 : decode cX7_put 88 = .ok (.iastore, 1) := by decide +kernel
theorem dX7_put_89 : decode cX7_put 89 = .ok (.aload 6, 2) := by decide +kernel
theorem dX7_put_91 : decode cX7_put 91 = .ok (.iload 8, 2) := by decide +kernel
theorem dX7_put_93 : decode cX7_put 93 = .ok (.aload_n 0, 1) := by decide +kernel
theorem dX7_put_94 : decode cX7_put 94 = .ok (.getfield 63, 3) := by decide +kernel
theorem dX7_put_97 : decode cX7_put 97 = .ok (.iload 8, 2) := by decide +kernel
theorem dX7_put_99 : decode cX7_put 99 = .ok (.iaload, 1) := by decide +kernel
theorem dX7_put_100 : decode cX7_put 100 = .ok (.iastore, 1) := by decide +kernel
theorem dX7_put_101 : decode cX7_put 101 = .ok (.iinc 8 1, 3) := by decide +kernel
theorem dX7_put_104 : decode cX7_put 104 = .ok (.goto (-48), 3) := by decide +kernel
theorem dX7_put_107 : decode cX7_put 107 = .ok (.iconst 0, 1) := by decide +kernel
theorem dX7_put_108 : decode cX7_put 108 = .ok (.istore 8, 2) := by decide +kernel
theorem dX7_put_110 : decode cX7_put 110 = .ok (.iload 8, 2) := by decide +kernel
theorem dX7_put_112 : decode cX7_put 112 = .ok (.iconst 5, 1) := by decide +kernel
theorem dX7_put_113 : decode cX7_put 113 = .ok (.aload_n 0, 1) := by decide +kernel
theorem dX7_put_114 : decode cX7_put 114 = .ok (.getfield 129, 3) := by decide +kernel
theorem dX7_put_117 : decode cX7_put 117 = .ok (.imul, 1) := by decide +kernel
theorem dX7_put_118 : decode cX7_put 118 = .ok (.if_icmp .ge 21, 3) := by decide +kernel
theorem dX7_put_121 : decode cX7_put 121 = .ok (.aload 7, 2) := by decide +kernel
theorem dX7_put_123 : decode cX7_put 123 = .ok (.iload 8, 2) := by decide +kernel
theorem dX7_put_125 : decode cX7_put 125 = .ok (.aload_n 0, 1) := by decide +kernel
theorem dX7_put_126 : decode cX7_put 126 = .ok (.getfield 66, 3) := by decide +kernel
theorem dX7_put_129 : decode cX7_put 129 = .ok (.iload 8, 2) := by decide +kernel
theorem dX7_put_131 : decode cX7_put 131 = .ok (.laload, 1) := by decide +kernel
theorem dX7_put_132 : decode cX7_put 132 = .ok (.lastore, 1) := by decide +kernel
theorem dX7_put_133 : decode cX7_put 133 = .ok (.iinc 8 1, 3) := by decide +kernel
theorem dX7_put_136 : decode cX7_put 136 = .ok (.goto (-26), 3) := by decide +kernel
theorem dX7_put_139 : decode cX7_put 139 = .ok (.aload_n 0, 1) := by decide +kernel
theorem dX7_put_140 : decode cX7_put 140 = .ok (.aload 4, 2) := by decide +kernel
theorem dX7_put_142 : decode cX7_put 142 = .ok (.putfield 57, 3) := by decide +kernel
theorem dX7_put_145 : decode cX7_put 145 = .ok (.aload_n 0, 1) := by decide +kernel
theorem dX7_put_146 : decode cX7_put 146 = .ok (.aload 5, 2) := by decide +kernel
theorem dX7_put_148 : decode cX7_put 148 = .ok (.putfield 60, 3) := by decide +kernel
theorem dX7_put_151 : decode cX7_put 151 = .ok (.aload_n 0, 1) := by decide +kernel
theorem dX7_put_152 : decode cX7_put 152 = .ok (.aload 6, 2) := by decide +kernel
theorem dX7_put_154 : decode cX7_put 154 = .ok (.putfield 63, 3) := by decide +kernel
theorem dX7_put_157 : decode cX7_put 157 = .ok (.aload_n 0, 1) := by decide +kernel
theorem dX7_put_158 : decode cX7_put 158 = .ok (.aload 7, 2) := by decide +kernel
theorem dX7_put_160 : decode cX7_put 160 = .ok (.putfield 66, 3) := by decide +kernel
theorem dX7_put_163 : decode cX7_put 163 = .ok (.aload_n 0, 1) := by decide +kernel
theorem dX7_put_164 : decode cX7_put 164 = .ok (.getfield 57, 3) := by decide +kernel
theorem dX7_put_167 : decode cX7_put 167 = .ok (.aload_n 0, 1) := by decide +kernel
theorem dX7_put_168 : decode cX7_put 168 = .ok (.getfield 129, 3) := by decide +kernel
theorem dX7_put_171 : decode cX7_put 171 = .ok (.iload_n 1, 1) := by decide +kernel
theorem dX7_put_172 : decode cX7_put 172 = .ok (.iastore, 1) := by decide +kernel
theorem dX7_put_173 : decode cX7_put 173 = .ok (.aload_n 0, 1) := by decide +kernel
theorem dX7_put_174 : decode cX7_put 174 = .ok (.getfield 60, 3) := by decide +kernel
theorem dX7_put_177 : decode cX7_put 177 = .ok (.aload_n 0, 1) := by decide +kernel
theorem dX7_put_178 : decode cX7_put 178 = .ok (.getfield 129, 3) := by decide +kernel
theorem dX7_put_181 : decode cX7_put 181 = .ok (.iload_n 2, 1) := by decide +kernel
theorem dX7_put_182 : decode cX7_put 182 = .ok (.iastore, 1) := by decide +kernel
theorem dX7_put_183 : decode cX7_put 183 = .ok (.aload_n 0, 1) := by decide +kernel
theorem dX7_put_184 : decode cX7_put 184 = .ok (.getfield 63, 3) := by decide +kernel
theorem dX7_put_187 : decode cX7_put 187 = .ok (.aload_n 0, 1) := by decide +kernel
theorem dX7_put_188 : decode cX7_put 188 = .ok (.getfield 129, 3) := by decide +kernel
theorem dX7_put_191 : decode cX7_put 191 = .ok (.iload_n 3, 1) := by decide +kernel
theorem dX7_put_192 : decode cX7_put 192 = .ok (.iastore, 1) := by decide +kernel
theorem dX7_put_193 : decode cX7_put 193 = .ok (.aload_n 0, 1) := by decide +kernel
theorem dX7_put_194 : decode cX7_put 194 = .ok (.dup, 1) := by decide +kernel
theorem dX7_put_195 : decode cX7_put 195 = .ok (.getfield 129, 3) := by decide +kernel
theorem dX7_put_198 : decode cX7_put 198 = .ok (.iconst 1, 1) := by decide +kernel
theorem dX7_put_199 : decode cX7_put 199 = .ok (.iadd, 1) := by decide +kernel
theorem dX7_put_200 : decode cX7_put 200 = .ok (.putfield 129, 3) := by decide +kernel
theorem dX7_put_203 : decode cX7_put 203 = .ok (.aload_n 0, 1) := by decide +kernel
theorem dX7_put_204 : decode cX7_put 204 = .ok (.getfield 129, 3) := by decide +kernel
theorem dX7_put_207 : decode cX7_put 207 = .ok (.iconst 1, 1) := by decide +kernel
theorem dX7_put_208 : decode cX7_put 208 = .ok (.isub, 1) := by decide +kernel
theorem dX7_put_209 : decode cX7_put 209 = .ok (.ireturn, 1) := by decide +kernel
def B_Mo_put_163 (mc ms : Nat) (Rt : Option zAV → zMp → Prop) (g : Nat → zKT) : zKT :=
  (i_al 0 (i_gf 8 20 (i_al 0 (i_gf 8 19 (i_il 1 (i_ias (i_al 0 (i_gf 8 21 (i_al 0 (i_gf 8 19 (i_il 2 (i_ias (i_al 0 (i_gf 8 22 (i_al 0 (i_gf 8 19 (i_il 3 (i_ias (i_al 0 (i_dup (i_gf 8 19 (i_ic 1 (i_iadd (i_pf 8 19 .int (i_al 0 (i_gf 8 19 (i_ic 1 (i_isub (i_iret mc ms Rt)))))))))))))))))))))))))))))
set_option maxRecDepth 20000 in
theorem s_Mo_put_163 {X : zMa} {mc ms : Nat} {Rt : Option zAV → zMp → Prop} (hC : zCx X RX7 cX7_put 0 0 mc ms (some .int) false Rt) (hN : zNL X = 9) : zLe (B_Mo_put_163 mc ms Rt (zG X)) (zG X 163) :=
  (sd_al_n hC rfl dX7_put_163 ((sd_gf hC (ci := 8) (fk := 20) rfl wi_Mo (by decide) fl_Mo_57 (Or.inl rfl) dX7_put_164 ((sd_al_n hC rfl dX7_put_167 ((sd_gf hC (ci := 8) (fk := 19) rfl wi_Mo (by decide) fl_Mo_129 (Or.inl rfl) dX7_put_168 ((sd_il_n hC rfl dX7_put_171 ((sd_ias hC dX7_put_172 ((sd_al_n hC rfl dX7_put_173 ((sd_gf hC (ci := 8) (fk := 21) rfl wi_Mo (by decide) fl_Mo_60 (Or.inl rfl) dX7_put_174 ((sd_al_n hC rfl dX7_put_177 ((sd_gf hC (ci := 8) (fk := 19) rfl wi_Mo (by decide) fl_Mo_129 (Or.inl rfl) dX7_put_178 ((sd_il_n hC rfl dX7_put_181 ((sd_ias hC dX7_put_182 ((sd_al_n hC rfl dX7_put_183 ((sd_gf hC (ci := 8) (fk := 22) rfl wi_Mo (by decide) fl_Mo_63 (Or.inl rfl) dX7_put_184 ((sd_al_n hC rfl dX7_put_187 ((sd_gf hC (ci := 8) (fk := 19) rfl wi_Mo (by decide) fl_Mo_129 (Or.inl rfl) dX7_put_188 ((sd_il_n hC rfl dX7_put_191 ((sd_ias hC dX7_put_192 ((sd_al_n hC rfl dX7_put_193 ((sd_dup hC dX7_put_194 ((sd_gf hC (ci := 8) (fk := 19) rfl wi_Mo (by decide) fl_Mo_129 (Or.inl rfl) dX7_put_195 ((sd_iconst hC (by decide) dX7_put_198 ((sd_iadd hC dX7_put_199 ((sd_pf hC (ci := 8) (fk := 19) rfl wi_Mo tyX7 tyX7_ok nmX7 (by decide) fl_Mo_129 (Or.inl rfl) (Or.inl rfl) dX7_put_200 ((sd_al_n hC rfl dX7_put_203 ((sd_gf hC (ci := 8) (fk := 19) rfl wi_Mo (by decide) fl_Mo_129 (Or.inl rfl) dX7_put_204 ((sd_iconst hC (by decide) dX7_put_207 ((sd_isub hC dX7_put_208 ((sd_iret hC dX7_put_209)))))))))))))))))))))))))))))))))))))))))))))))))))))))))
def B_Mo_put_139 (mc ms : Nat) (Rt : Option zAV → zMp → Prop) (g : Nat → zKT) : zKT :=
  (i_al 0 (i_al 4 (i_pf 8 20 (.array .int) (i_al 0 (i_al 5 (i_pf 8 21 (.array .int) (i_al 0 (i_al 6 (i_pf 8 22 (.array .int) (i_al 0 (i_al 7 (i_pf 8 23 (.array .long) (B_Mo_put_163 mc ms Rt g)))))))))))))
set_option maxRecDepth 20000 in
theorem s_Mo_put_139 {X : zMa} {mc ms : Nat} {Rt : Option zAV → zMp → Prop} (hC : zCx X RX7 cX7_put 0 0 mc ms (some .int) false Rt) (hN : zNL X = 9) : zLe (B_Mo_put_139 mc ms Rt (zG X)) (zG X 139) :=
  (sd_al_n hC rfl dX7_put_139 ((sd_al hC dX7_put_140 ((sd_pf hC (ci := 8) (fk := 20) rfl wi_Mo tyX7 tyX7_ok nmX7 (by decide) fl_Mo_57 (Or.inl rfl) (Or.inl rfl) dX7_put_142 ((sd_al_n hC rfl dX7_put_145 ((sd_al hC dX7_put_146 ((sd_pf hC (ci := 8) (fk := 21) rfl wi_Mo tyX7 tyX7_ok nmX7 (by decide) fl_Mo_60 (Or.inl rfl) (Or.inl rfl) dX7_put_148 ((sd_al_n hC rfl dX7_put_151 ((sd_al hC dX7_put_152 ((sd_pf hC (ci := 8) (fk := 22) rfl wi_Mo tyX7 tyX7_ok nmX7 (by decide) fl_Mo_63 (Or.inl rfl) (Or.inl rfl) dX7_put_154 ((sd_al_n hC rfl dX7_put_157 ((sd_al hC dX7_put_158 ((sd_pf hC (ci := 8) (fk := 23) rfl wi_Mo tyX7 tyX7_ok nmX7 (by decide) fl_Mo_66 (Or.inl rfl) (Or.inl rfl) dX7_put_160 (s_Mo_put_163 hC hN))))))))))))))))))))))))
def B_Mo_put_110 (mc ms : Nat) (Rt : Option zAV → zMp → Prop) (g : Nat → zKT) : zKT :=
  (i_il 8 (i_ic 5 (i_al 0 (i_gf 8 19 (i_imul (i_icge (B_Mo_put_139 mc ms Rt g) (i_al 7 (i_il 8 (i_al 0 (i_gf 8 23 (i_il 8 (i_lal (i_las (i_inc 8 1 (g 110)))))))))))))))
set_option maxRecDepth 20000 in
theorem s_Mo_put_110 {X : zMa} {mc ms : Nat} {Rt : Option zAV → zMp → Prop} (hC : zCx X RX7 cX7_put 0 0 mc ms (some .int) false Rt) (hN : zNL X = 9) : zLe (B_Mo_put_110 mc ms Rt (zG X)) (zG X 110) :=
  (sd_il hC dX7_put_110 ((sd_iconst hC (by decide) dX7_put_112 ((sd_al_n hC rfl dX7_put_113 ((sd_gf hC (ci := 8) (fk := 19) rfl wi_Mo (by decide) fl_Mo_129 (Or.inl rfl) dX7_put_114 ((sd_imul hC dX7_put_117 ((sd_icge hC (tgt := 139) (by decide) dX7_put_118 (s_Mo_put_139 hC hN) ((sd_al hC dX7_put_121 ((sd_il hC dX7_put_123 ((sd_al_n hC rfl dX7_put_125 ((sd_gf hC (ci := 8) (fk := 23) rfl wi_Mo (by decide) fl_Mo_66 (Or.inl rfl) dX7_put_126 ((sd_il hC dX7_put_129 ((sd_lal hC dX7_put_131 ((sd_las hC dX7_put_132 ((sd_inc hC (by decide) (by rw [hN]; decide) dX7_put_133 ((sd_goto hC (tgt := 110) (by decide) dX7_put_136 (zLe_rfl))))))))))))))))))))))))))))))
def B_Mo_put_107 (mc ms : Nat) (Rt : Option zAV → zMp → Prop) (g : Nat → zKT) : zKT :=
  (i_ic 0 (i_is 8 (g 110)))
set_option maxRecDepth 20000 in
theorem s_Mo_put_107 {X : zMa} {mc ms : Nat} {Rt : Option zAV → zMp → Prop} (hC : zCx X RX7 cX7_put 0 0 mc ms (some .int) false Rt) (hN : zNL X = 9) : zLe (B_Mo_put_107 mc ms Rt (zG X)) (zG X 107) :=
  (sd_iconst hC (by decide) dX7_put_107 ((sd_is hC (by rw [hN]; decide) dX7_put_108 (zLe_rfl))))
def B_Mo_put_56 (mc ms : Nat) (Rt : Option zAV → zMp → Prop) (g : Nat → zKT) : zKT :=
  (i_il 8 (i_al 0 (i_gf 8 19 (i_icge (B_Mo_put_107 mc ms Rt g) (i_al 4 (i_il 8 (i_al 0 (i_gf 8 20 (i_il 8 (i_ial (i_ias (i_al 5 (i_il 8 (i_al 0 (i_gf 8 21 (i_il 8 (i_ial (i_ias (i_al 6 (i_il 8 (i_al 0 (i_gf 8 22 (i_il 8 (i_ial (i_ias (i_inc 8 1 (g 56)))))))))))))))))))))))))))
set_option maxRecDepth 20000 in
theorem s_Mo_put_56 {X : zMa} {mc ms : Nat} {Rt : Option zAV → zMp → Prop} (hC : zCx X RX7 cX7_put 0 0 mc ms (some .int) false Rt) (hN : zNL X = 9) : zLe (B_Mo_put_56 mc ms Rt (zG X)) (zG X 56) :=
  (sd_il hC dX7_put_56 ((sd_al_n hC rfl dX7_put_58 ((sd_gf hC (ci := 8) (fk := 19) rfl wi_Mo (by decide) fl_Mo_129 (Or.inl rfl) dX7_put_59 ((sd_icge hC (tgt := 107) (by decide) dX7_put_62 (s_Mo_put_107 hC hN) ((sd_al hC dX7_put_65 ((sd_il hC dX7_put_67 ((sd_al_n hC rfl dX7_put_69 ((sd_gf hC (ci := 8) (fk := 20) rfl wi_Mo (by decide) fl_Mo_57 (Or.inl rfl) dX7_put_70 ((sd_il hC dX7_put_73 ((sd_ial hC dX7_put_75 ((sd_ias hC dX7_put_76 ((sd_al hC dX7_put_77 ((sd_il hC dX7_put_79 ((sd_al_n hC rfl dX7_put_81 ((sd_gf hC (ci := 8) (fk := 21) rfl wi_Mo (by decide) fl_Mo_60 (Or.inl rfl) dX7_put_82 ((sd_il hC dX7_put_85 ((sd_ial hC dX7_put_87 ((sd_ias hC dX7_put_88 ((sd_al hC dX7_put_89 ((sd_il hC dX7_put_91 ((sd_al_n hC rfl dX7_put_93 ((sd_gf hC (ci := 8) (fk := 22) rfl wi_Mo (by decide) fl_Mo_63 (Or.inl rfl) dX7_put_94 ((sd_il hC dX7_put_97 ((sd_ial hC dX7_put_99 ((sd_ias hC dX7_put_100 ((sd_inc hC (by decide) (by rw [hN]; decide) dX7_put_101 ((sd_goto hC (tgt := 56) (by decide) dX7_put_104 (zLe_rfl))))))))))))))))))))))))))))))))))))))))))))))))))))))
def B_Mo_put_0 (mc ms : Nat) (Rt : Option zAV → zMp → Prop) (g : Nat → zKT) : zKT :=
  (i_al 0 (i_gf 8 19 (i_al 0 (i_gf 8 20 (i_alen (i_icne (B_Mo_put_163 mc ms Rt g) (i_ic 2 (i_al 0 (i_gf 8 19 (i_imul (i_newa mc ms .int (i_as 4 (i_ic 2 (i_al 0 (i_gf 8 19 (i_imul (i_newa mc ms .int (i_as 5 (i_ic 2 (i_al 0 (i_gf 8 19 (i_imul (i_newa mc ms .int (i_as 6 (i_ic 10 (i_al 0 (i_gf 8 19 (i_imul (i_newa mc ms .long (i_as 7 (i_ic 0 (i_is 8 (g 56)))))))))))))))))))))))))))))))))
set_option maxRecDepth 20000 in
theorem s_Mo_put_0 {X : zMa} {mc ms : Nat} {Rt : Option zAV → zMp → Prop} (hC : zCx X RX7 cX7_put 0 0 mc ms (some .int) false Rt) (hN : zNL X = 9) : zLe (B_Mo_put_0 mc ms Rt (zG X)) (zG X 0) :=
  (sd_al_n hC rfl dX7_put_0 ((sd_gf hC (ci := 8) (fk := 19) rfl wi_Mo (by decide) fl_Mo_129 (Or.inl rfl) dX7_put_1 ((sd_al_n hC rfl dX7_put_4 ((sd_gf hC (ci := 8) (fk := 20) rfl wi_Mo (by decide) fl_Mo_57 (Or.inl rfl) dX7_put_5 ((sd_alen hC dX7_put_8 ((sd_icne hC (tgt := 163) (by decide) dX7_put_9 (s_Mo_put_163 hC hN) ((sd_iconst hC (by decide) dX7_put_12 ((sd_al_n hC rfl dX7_put_13 ((sd_gf hC (ci := 8) (fk := 19) rfl wi_Mo (by decide) fl_Mo_129 (Or.inl rfl) dX7_put_14 ((sd_imul hC dX7_put_17 ((sd_newa hC (at0 := .int) rfl (by decide) ac_int dX7_put_18 ((sd_as hC (by rw [hN]; decide) dX7_put_20 ((sd_iconst hC (by decide) dX7_put_22 ((sd_al_n hC rfl dX7_put_23 ((sd_gf hC (ci := 8) (fk := 19) rfl wi_Mo (by decide) fl_Mo_129 (Or.inl rfl) dX7_put_24 ((sd_imul hC dX7_put_27 ((sd_newa hC (at0 := .int) rfl (by decide) ac_int dX7_put_28 ((sd_as hC (by rw [hN]; decide) dX7_put_30 ((sd_iconst hC (by decide) dX7_put_32 ((sd_al_n hC rfl dX7_put_33 ((sd_gf hC (ci := 8) (fk := 19) rfl wi_Mo (by decide) fl_Mo_129 (Or.inl rfl) dX7_put_34 ((sd_imul hC dX7_put_37 ((sd_newa hC (at0 := .int) rfl (by decide) ac_int dX7_put_38 ((sd_as hC (by rw [hN]; decide) dX7_put_40 ((sd_bipush hC (by decide) dX7_put_42 ((sd_al_n hC rfl dX7_put_44 ((sd_gf hC (ci := 8) (fk := 19) rfl wi_Mo (by decide) fl_Mo_129 (Or.inl rfl) dX7_put_45 ((sd_imul hC dX7_put_48 ((sd_newa hC (at0 := .long) rfl (by decide) ac_long dX7_put_49 ((sd_as hC (by rw [hN]; decide) dX7_put_51 ((sd_iconst hC (by decide) dX7_put_53 ((sd_is hC (by rw [hN]; decide) dX7_put_54 (zLe_rfl))))))))))))))))))))))))))))))))))))))))))))))))))))))))))))))))
theorem c_Mo_put (l : Launch) : zCT2 l yX7_put cX7_put 9 (some .int) 0 0 T_Mo_put := by
  intro As M Rt c1 c2 hT
  obtain ⟨y, u, v, s, rfl, rfl, hJ, hc, hR⟩ := hT
  have hcp := hJ.cp
  refine zMet_of false (by decide +kernel) (fun h => by first | rfl | cases h) (Nat.le_of_ble_eq_true rfl) (fun X hN hC => ?_)
  show zG X 0 [some (.inr (30, 0, 0)), some (.inl (.int (nI u))), some (.inl (.int (nI v))), some (.inl (.int s)), none, none, none, none, none] [] (mp y) 0 0
  have fin : ∀ z : zMS, y_ms z = y_ms y → y_ms z < y_cp z → y_cp z ≤ 16384 → Rt (some (.inl (.int (nI (y_ms y))))) (mp (pu1 z u v s)) → ∀ (k n : Nat), k ≤ c1 → n ≤ c2 → ∀ j4 j5 j6 j7 j8 : Option zAV, B_Mo_put_163 c1 c2 Rt (zG X) [some (.inr (30, 0, 0)), some (.inl (.int (nI u))), some (.inl (.int (nI v))), some (.inl (.int s)), j4, j5, j6, j7, j8] [] (mp z) k n := by
    intro z h1 h2 h3 hr k n hk hn j4 j5 j6 j7 j8
    simp only [B_Mo_put_0, B_Mo_put_56, B_Mo_put_107, B_Mo_put_110, B_Mo_put_139, B_Mo_put_163, i_ic, i_lc, i_nul, i_il, i_ll, i_al, i_is, i_as, i_ls, i_inc, i_iadd, i_isub, i_imul, i_iand, i_ior, i_ixor, i_idiv, i_irem, i_ishl, i_ishr, i_ladd, i_lsub, i_land, i_lor, i_i2l, i_lushr, i_lshl, i_lshr, i_lcmp, i_dup, i_pop, i_dx1, i_dup2, i_ifeq, i_ifne, i_iflt, i_ifge, i_ifgt, i_ifle, i_iceq, i_icne, i_iclt, i_icge, i_icgt, i_icle, i_ifn, i_gf, i_pf, i_ial, i_bal, i_lal, i_aal, i_ias, i_las, i_bas, i_aas, i_alen, i_newa, i_new, i_anew, i_cast, i_oi, i_call, i_callV, i_callV2, i_callI, i_iret, i_zret, i_lret, i_vret, i_aret, i_mmx, i_mmn, i_gsE, i_aceq, i_no, i_acq, i_sw, zsw, zlg, zls, znl, zfg, zcs, zsp, zrc, zisn, zft, zc1, zto, Value.category, List.set_cons_zero, List.set_cons_succ, List.length_cons, List.length_nil, Option.toList, List.append, List.nil_append, List.cons_append, true_and, and_true, Nat.add_zero, Nat.zero_le, Nat.zero_add, Nat.le_refl, Nat.reduceAdd, Nat.reduceLeDiff, co0, z0, zn_0, zn_1, zn_2, zn_3, zn_4, zn_5, zn_8, zn_12, zn_24, zn_121, zn_144, zn_256, zn_300, zn_600, zn_720, zn_1204, zn_1280, zn_2400, zn_4816, zn_14400, zn_90000, q_main, m_main, q_fr]
    rw [nI_clamp (by omega), upd_nt, mu_fr]
    refine ⟨m_k (by decide), vp_in_nI (by omega) (by omega), ?_⟩
    have e1 : y_ms (v_fr z (va_up (y_fr z) (y_ms z) u)) = y_ms z := rfl
    have e2 : y_cp (v_fr z (va_up (y_fr z) (y_ms z) u)) = y_cp z := rfl
    have e3 : y_tt (v_fr z (va_up (y_fr z) (y_ms z) u)) = y_tt z := rfl
    simp only [i_ic, i_lc, i_nul, i_il, i_ll, i_al, i_is, i_as, i_ls, i_inc, i_iadd, i_isub, i_imul, i_iand, i_ior, i_ixor, i_idiv, i_irem, i_ishl, i_ishr, i_ladd, i_lsub, i_land, i_lor, i_i2l, i_lushr, i_lshl, i_lshr, i_lcmp, i_dup, i_pop, i_dx1, i_dup2, i_ifeq, i_ifne, i_iflt, i_ifge, i_ifgt, i_ifle, i_iceq, i_icne, i_iclt, i_icge, i_icgt, i_icle, i_ifn, i_gf, i_pf, i_ial, i_bal, i_lal, i_aal, i_ias, i_las, i_bas, i_aas, i_alen, i_newa, i_new, i_anew, i_cast, i_oi, i_call, i_callV, i_callV2, i_callI, i_iret, i_zret, i_lret, i_vret, i_aret, i_mmx, i_mmn, i_gsE, i_aceq, i_no, i_acq, i_sw, zsw, zlg, zls, znl, zfg, zcs, zsp, zrc, zisn, zft, zc1, zto, Value.category, List.set_cons_zero, List.set_cons_succ, List.length_cons, List.length_nil, Option.toList, List.append, List.nil_append, List.cons_append, true_and, and_true, Nat.add_zero, Nat.zero_le, Nat.zero_add, Nat.le_refl, Nat.reduceAdd, Nat.reduceLeDiff, co0, z0, zn_0, zn_1, zn_2, zn_3, zn_4, zn_5, zn_8, zn_12, zn_24, zn_121, zn_144, zn_256, zn_300, zn_600, zn_720, zn_1204, zn_1280, zn_2400, zn_4816, zn_14400, zn_90000, q_main, m_main, q_tt]
    rw [nI_clamp (by omega), upd_nt, mu_tt, e3, e1]
    refine ⟨m_k (by decide), vp_in_nI (by omega) (by omega), ?_⟩
    obtain ⟨z2, hz2⟩ : ∃ z2, z2 = v_tt (v_fr z (va_up (y_fr z) (y_ms z) u)) (va_up (y_tt z) (y_ms z) v) := ⟨_, rfl⟩
    rw [← hz2]
    have g1 : y_ms z2 = y_ms z := by rw [hz2]; rfl
    have g2 : y_cp z2 = y_cp z := by rw [hz2]; rfl
    have g3 : y_wh z2 = y_wh z := by rw [hz2]; rfl
    simp only [i_ic, i_lc, i_nul, i_il, i_ll, i_al, i_is, i_as, i_ls, i_inc, i_iadd, i_isub, i_imul, i_iand, i_ior, i_ixor, i_idiv, i_irem, i_ishl, i_ishr, i_ladd, i_lsub, i_land, i_lor, i_i2l, i_lushr, i_lshl, i_lshr, i_lcmp, i_dup, i_pop, i_dx1, i_dup2, i_ifeq, i_ifne, i_iflt, i_ifge, i_ifgt, i_ifle, i_iceq, i_icne, i_iclt, i_icge, i_icgt, i_icle, i_ifn, i_gf, i_pf, i_ial, i_bal, i_lal, i_aal, i_ias, i_las, i_bas, i_aas, i_alen, i_newa, i_new, i_anew, i_cast, i_oi, i_call, i_callV, i_callV2, i_callI, i_iret, i_zret, i_lret, i_vret, i_aret, i_mmx, i_mmn, i_gsE, i_aceq, i_no, i_acq, i_sw, zsw, zlg, zls, znl, zfg, zcs, zsp, zrc, zisn, zft, zc1, zto, Value.category, List.set_cons_zero, List.set_cons_succ, List.length_cons, List.length_nil, Option.toList, List.append, List.nil_append, List.cons_append, true_and, and_true, Nat.add_zero, Nat.zero_le, Nat.zero_add, Nat.le_refl, Nat.reduceAdd, Nat.reduceLeDiff, co0, z0, zn_0, zn_1, zn_2, zn_3, zn_4, zn_5, zn_8, zn_12, zn_24, zn_121, zn_144, zn_256, zn_300, zn_600, zn_720, zn_1204, zn_1280, zn_2400, zn_4816, zn_14400, zn_90000, q_main, m_main, q_wh]
    rw [nI_clamp (by omega), mu_wh, g3, g1]
    refine ⟨m_k (by decide), vp_in_nI (by omega) (by omega), ?_⟩
    obtain ⟨z3, hz3⟩ : ∃ z3, z3 = v_wh z2 (upd (y_wh z) (y_ms z) s) := ⟨_, rfl⟩
    rw [← hz3]
    have g4 : y_ms z3 = y_ms z := by rw [hz3]; exact g1
    have hr2 : Rt (some (.inl (.int (nI (y_ms y))))) (mp (v_ms z3 (y_ms z + 1))) := by
      rw [hz3, hz2]; exact hr
    simp only [i_ic, i_lc, i_nul, i_il, i_ll, i_al, i_is, i_as, i_ls, i_inc, i_iadd, i_isub, i_imul, i_iand, i_ior, i_ixor, i_idiv, i_irem, i_ishl, i_ishr, i_ladd, i_lsub, i_land, i_lor, i_i2l, i_lushr, i_lshl, i_lshr, i_lcmp, i_dup, i_pop, i_dx1, i_dup2, i_ifeq, i_ifne, i_iflt, i_ifge, i_ifgt, i_ifle, i_iceq, i_icne, i_iclt, i_icge, i_icgt, i_icle, i_ifn, i_gf, i_pf, i_ial, i_bal, i_lal, i_aal, i_ias, i_las, i_bas, i_aas, i_alen, i_newa, i_new, i_anew, i_cast, i_oi, i_call, i_callV, i_callV2, i_callI, i_iret, i_zret, i_lret, i_vret, i_aret, i_mmx, i_mmn, i_gsE, i_aceq, i_no, i_acq, i_sw, zsw, zlg, zls, znl, zfg, zcs, zsp, zrc, zisn, zft, zc1, zto, Value.category, List.set_cons_zero, List.set_cons_succ, List.length_cons, List.length_nil, Option.toList, List.append, List.nil_append, List.cons_append, true_and, and_true, Nat.add_zero, Nat.zero_le, Nat.zero_add, Nat.le_refl, Nat.reduceAdd, Nat.reduceLeDiff, co0, z0, zn_0, zn_1, zn_2, zn_3, zn_4, zn_5, zn_8, zn_12, zn_24, zn_121, zn_144, zn_256, zn_300, zn_600, zn_720, zn_1204, zn_1280, zn_2400, zn_4816, zn_14400, zn_90000, q_main, m_main, zup_s]
    rw [g4, nI_1, nI_pred, h1]
    rw [← mu_ms, h1] at hr2
    exact ⟨m_k (by decide), by decide, hk, hn, hr2⟩
  refine s_Mo_put_0 hC hN _ _ _ _ _ ?_
  simp only [B_Mo_put_0, B_Mo_put_56, B_Mo_put_107, B_Mo_put_110, B_Mo_put_139, i_ic, i_lc, i_nul, i_il, i_ll, i_al, i_is, i_as, i_ls, i_inc, i_iadd, i_isub, i_imul, i_iand, i_ior, i_ixor, i_idiv, i_irem, i_ishl, i_ishr, i_ladd, i_lsub, i_land, i_lor, i_i2l, i_lushr, i_lshl, i_lshr, i_lcmp, i_dup, i_pop, i_dx1, i_dup2, i_ifeq, i_ifne, i_iflt, i_ifge, i_ifgt, i_ifle, i_iceq, i_icne, i_iclt, i_icge, i_icgt, i_icle, i_ifn, i_gf, i_pf, i_ial, i_bal, i_lal, i_aal, i_ias, i_las, i_bas, i_aas, i_alen, i_newa, i_new, i_anew, i_cast, i_oi, i_call, i_callV, i_callV2, i_callI, i_iret, i_zret, i_lret, i_vret, i_aret, i_mmx, i_mmn, i_gsE, i_aceq, i_no, i_acq, i_sw, zsw, zlg, zls, znl, zfg, zcs, zsp, zrc, zisn, zft, zc1, zto, Value.category, List.set_cons_zero, List.set_cons_succ, List.length_cons, List.length_nil, Option.toList, List.append, List.nil_append, List.cons_append, true_and, and_true, Nat.add_zero, Nat.zero_le, Nat.zero_add, Nat.le_refl, Nat.reduceAdd, Nat.reduceLeDiff, co0, z0, zn_0, zn_1, zn_2, zn_3, zn_4, zn_5, zn_8, zn_12, zn_24, zn_121, zn_144, zn_256, zn_300, zn_600, zn_720, zn_1204, zn_1280, zn_2400, zn_4816, zn_14400, zn_90000, q_main, m_main, q_fr, ar_4, ar_5, ar_12, ar_300, ar_600, ar_1200, ar_10, nI_add, ar_1, ar_2, ar_3, ar_2m]
  refine ⟨fun hne => ?_, fun he => ?_⟩
  · have hne' : ¬ y_ms y = y_cp y := fun q => hne (by rw [q])
    rw [pu, if_neg hne'] at hR
    exact fin y rfl (by omega) hcp.2.2 hR 0 0 (Nat.zero_le _) (Nat.zero_le _) _ _ _ _ _
  · have he' : y_ms y = y_cp y := (nI_eq (by omega) (by omega)).mp he
    obtain ⟨hc1, hc2, hc3⟩ := hc he'
    rw [pu, if_pos he'] at hR
    have hg : ∀ i, y_gb y i (2 * y_cp y) = none := fun i => by
      cases h : y_gb y i (2 * y_cp y) with
      | none => rfl
      | some e => exact absurd (hJ.gb i _ (by rw [h]; simp)) (by omega)
    have nn : ∀ G i, G i (2 * y_cp y) = none → mp (v_gb y G) (32, i, 2 * y_cp y) = none := fun G i h => (q_gb (y := v_gb y G) (fun q => by have := q.2; rw [show y_cp (v_gb y G) = y_cp y from rfl] at this; omega)).trans h
    have uu : ∀ G i e, zup (mp (v_gb y G)) (32, i, 2 * y_cp y) e = mp (v_gb y (va_u2 G i (2 * y_cp y) (some e))) := fun G i e => mu_gb (v_gb y G) e (fun q => by have := q.2; rw [show y_cp (v_gb y G) = y_cp y from rfl] at this; omega)
    rw [he', nI_clamp (by omega), show mp y = mp (v_gb y (y_gb y)) from rfl]
    refine ⟨(32, 0, 2 * y_cp y), nn _ _ (hg 0), m_k (by decide), nI_pos (by omega), by omega, by omega, by omega, ?_⟩
    rw [uu]
    simp only [i_ic, i_lc, i_nul, i_il, i_ll, i_al, i_is, i_as, i_ls, i_inc, i_iadd, i_isub, i_imul, i_iand, i_ior, i_ixor, i_idiv, i_irem, i_ishl, i_ishr, i_ladd, i_lsub, i_land, i_lor, i_i2l, i_lushr, i_lshl, i_lshr, i_lcmp, i_dup, i_pop, i_dx1, i_dup2, i_ifeq, i_ifne, i_iflt, i_ifge, i_ifgt, i_ifle, i_iceq, i_icne, i_iclt, i_icge, i_icgt, i_icle, i_ifn, i_gf, i_pf, i_ial, i_bal, i_lal, i_aal, i_ias, i_las, i_bas, i_aas, i_alen, i_newa, i_new, i_anew, i_cast, i_oi, i_call, i_callV, i_callV2, i_callI, i_iret, i_zret, i_lret, i_vret, i_aret, i_mmx, i_mmn, i_gsE, i_aceq, i_no, i_acq, i_sw, zsw, zlg, zls, znl, zfg, zcs, zsp, zrc, zisn, zft, zc1, zto, Value.category, List.set_cons_zero, List.set_cons_succ, List.length_cons, List.length_nil, Option.toList, List.append, List.nil_append, List.cons_append, true_and, and_true, Nat.add_zero, Nat.zero_le, Nat.zero_add, Nat.le_refl, Nat.reduceAdd, Nat.reduceLeDiff, co0, z0, zn_0, zn_1, zn_2, zn_3, zn_4, zn_5, zn_8, zn_12, zn_24, zn_121, zn_144, zn_256, zn_300, zn_600, zn_720, zn_1204, zn_1280, zn_2400, zn_4816, zn_14400, zn_90000, q_main, m_main, ar_4, ar_5, ar_12, ar_300, ar_600, ar_1200, ar_10, nI_add, ar_1, ar_2, ar_3, ar_2m]
    rw [show y_ms (v_gb y (va_u2 (y_gb y) 0 (2 * y_cp y) (some (zin (2 * y_cp y) (fun _ => 0))))) = y_cp y from he', nI_clamp (by omega)]
    refine ⟨(32, 1, 2 * y_cp y), nn _ _ (by rw [va_u2_o _ _ (by omega)]; exact hg 1), m_k (by decide), nI_pos (by omega), by omega, by omega, by omega, ?_⟩
    rw [uu]
    simp only [i_ic, i_lc, i_nul, i_il, i_ll, i_al, i_is, i_as, i_ls, i_inc, i_iadd, i_isub, i_imul, i_iand, i_ior, i_ixor, i_idiv, i_irem, i_ishl, i_ishr, i_ladd, i_lsub, i_land, i_lor, i_i2l, i_lushr, i_lshl, i_lshr, i_lcmp, i_dup, i_pop, i_dx1, i_dup2, i_ifeq, i_ifne, i_iflt, i_ifge, i_ifgt, i_ifle, i_iceq, i_icne, i_iclt, i_icge, i_icgt, i_icle, i_ifn, i_gf, i_pf, i_ial, i_bal, i_lal, i_aal, i_ias, i_las, i_bas, i_aas, i_alen, i_newa, i_new, i_anew, i_cast, i_oi, i_call, i_callV, i_callV2, i_callI, i_iret, i_zret, i_lret, i_vret, i_aret, i_mmx, i_mmn, i_gsE, i_aceq, i_no, i_acq, i_sw, zsw, zlg, zls, znl, zfg, zcs, zsp, zrc, zisn, zft, zc1, zto, Value.category, List.set_cons_zero, List.set_cons_succ, List.length_cons, List.length_nil, Option.toList, List.append, List.nil_append, List.cons_append, true_and, and_true, Nat.add_zero, Nat.zero_le, Nat.zero_add, Nat.le_refl, Nat.reduceAdd, Nat.reduceLeDiff, co0, z0, zn_0, zn_1, zn_2, zn_3, zn_4, zn_5, zn_8, zn_12, zn_24, zn_121, zn_144, zn_256, zn_300, zn_600, zn_720, zn_1204, zn_1280, zn_2400, zn_4816, zn_14400, zn_90000, q_main, m_main, ar_4, ar_5, ar_12, ar_300, ar_600, ar_1200, ar_10, nI_add, ar_1, ar_2, ar_3, ar_2m]
    rw [show y_ms (v_gb y (va_u2 (va_u2 (y_gb y) 0 (2 * y_cp y) (some (zin (2 * y_cp y) (fun _ => 0)))) 1 (2 * y_cp y) (some (zin (2 * y_cp y) (fun _ => 0))))) = y_cp y from he', nI_clamp (by omega)]
    refine ⟨(32, 2, 2 * y_cp y), nn _ _ (by rw [va_u2_o _ _ (by omega), va_u2_o _ _ (by omega)]; exact hg 2), m_k (by decide), nI_pos (by omega), by omega, by omega, by omega, ?_⟩
    rw [uu]
    simp only [i_ic, i_lc, i_nul, i_il, i_ll, i_al, i_is, i_as, i_ls, i_inc, i_iadd, i_isub, i_imul, i_iand, i_ior, i_ixor, i_idiv, i_irem, i_ishl, i_ishr, i_ladd, i_lsub, i_land, i_lor, i_i2l, i_lushr, i_lshl, i_lshr, i_lcmp, i_dup, i_pop, i_dx1, i_dup2, i_ifeq, i_ifne, i_iflt, i_ifge, i_ifgt, i_ifle, i_iceq, i_icne, i_iclt, i_icge, i_icgt, i_icle, i_ifn, i_gf, i_pf, i_ial, i_bal, i_lal, i_aal, i_ias, i_las, i_bas, i_aas, i_alen, i_newa, i_new, i_anew, i_cast, i_oi, i_call, i_callV, i_callV2, i_callI, i_iret, i_zret, i_lret, i_vret, i_aret, i_mmx, i_mmn, i_gsE, i_aceq, i_no, i_acq, i_sw, zsw, zlg, zls, znl, zfg, zcs, zsp, zrc, zisn, zft, zc1, zto, Value.category, List.set_cons_zero, List.set_cons_succ, List.length_cons, List.length_nil, Option.toList, List.append, List.nil_append, List.cons_append, true_and, and_true, Nat.add_zero, Nat.zero_le, Nat.zero_add, Nat.le_refl, Nat.reduceAdd, Nat.reduceLeDiff, co0, z0, zn_0, zn_1, zn_2, zn_3, zn_4, zn_5, zn_8, zn_12, zn_24, zn_121, zn_144, zn_256, zn_300, zn_600, zn_720, zn_1204, zn_1280, zn_2400, zn_4816, zn_14400, zn_90000, q_main, m_main, ar_4, ar_5, ar_12, ar_300, ar_600, ar_1200, ar_10, nI_add, ar_1, ar_2, ar_3, ar_2m]
    rw [show y_ms (v_gb y (va_u2 (va_u2 (va_u2 (y_gb y) 0 (2 * y_cp y) (some (zin (2 * y_cp y) (fun _ => 0)))) 1 (2 * y_cp y) (some (zin (2 * y_cp y) (fun _ => 0)))) 2 (2 * y_cp y) (some (zin (2 * y_cp y) (fun _ => 0))))) = y_cp y from he', nI_clamp (by omega)]
    refine ⟨(32, 3, 2 * y_cp y), nn _ _ (by rw [va_u2_o _ _ (by omega), va_u2_o _ _ (by omega), va_u2_o _ _ (by omega)]; exact hg 3), m_k (by decide), nI_pos (by omega), by omega, by omega, by omega, ?_⟩
    rw [uu, gG_n]
    have r0 : ∀ A B C D, mp (v_gb y (gG y A B C D)) (32, 0, 2 * y_cp y) = some (zin (2 * y_cp y) A) := fun A B C D => (q_gb (y := v_gb y (gG y A B C D)) (fun q => by have := q.2; rw [show y_cp (v_gb y (gG y A B C D)) = y_cp y from rfl] at this; omega)).trans (by show gG y A B C D 0 (2 * y_cp y) = _; simp only [gG, if_true])
    have r1 : ∀ A B C D, mp (v_gb y (gG y A B C D)) (32, 1, 2 * y_cp y) = some (zin (2 * y_cp y) B) := fun A B C D => (q_gb (y := v_gb y (gG y A B C D)) (fun q => by have := q.2; rw [show y_cp (v_gb y (gG y A B C D)) = y_cp y from rfl] at this; omega)).trans (by show gG y A B C D 1 (2 * y_cp y) = _; simp [gG])
    have r2 : ∀ A B C D, mp (v_gb y (gG y A B C D)) (32, 2, 2 * y_cp y) = some (zin (2 * y_cp y) C) := fun A B C D => (q_gb (y := v_gb y (gG y A B C D)) (fun q => by have := q.2; rw [show y_cp (v_gb y (gG y A B C D)) = y_cp y from rfl] at this; omega)).trans (by show gG y A B C D 2 (2 * y_cp y) = _; simp [gG])
    have r3 : ∀ A B C D, mp (v_gb y (gG y A B C D)) (32, 3, 2 * y_cp y) = some (zll (10 * y_cp y) D) := fun A B C D => (q_gb (y := v_gb y (gG y A B C D)) (fun q => by have := q.2; rw [show y_cp (v_gb y (gG y A B C D)) = y_cp y from rfl] at this; omega)).trans (by show gG y A B C D 3 (2 * y_cp y) = _; simp [gG])
    have ems : ∀ G, y_ms (v_gb y G) = y_cp y := fun G => he'
    have ecp : ∀ G, y_cp (v_gb y G) = y_cp y := fun G => rfl
    have efr : ∀ G, y_fr (v_gb y G) = y_fr y := fun G => rfl
    have ett : ∀ G, y_tt (v_gb y G) = y_tt y := fun G => rfl
    have ewh : ∀ G, y_wh (v_gb y G) = y_wh y := fun G => rfl
    have erw : ∀ G, y_rw (v_gb y G) = y_rw y := fun G => rfl
    -- the rows
    have loopB : ∀ (k n : Nat), k ≤ c1 → n ≤ c2 → zG X 110 [some (.inr (30, 0, 0)), some (.inl (.int (nI u))), some (.inl (.int (nI v))), some (.inl (.int s)), some (.inr (32, 0, 2 * y_cp y)), some (.inr (32, 1, 2 * y_cp y)), some (.inr (32, 2, 2 * y_cp y)), some (.inr (32, 3, 2 * y_cp y)), some (.inl (.int (nI 0)))] [] (mp (v_gb y (gG y (cut0 (fun k => nI (y_fr y k)) 0 (y_cp y)) (cut0 (fun k => nI (y_tt y k)) 0 (y_cp y)) (cut0 (y_wh y) 0 (y_cp y)) (cut0 (y_rw y) 0 0)))) k n := by
      intro k n hk hn
      refine upto (N := 5 * y_cp y) (P := fun i => zG X 110 [some (.inr (30, 0, 0)), some (.inl (.int (nI u))), some (.inl (.int (nI v))), some (.inl (.int s)), some (.inr (32, 0, 2 * y_cp y)), some (.inr (32, 1, 2 * y_cp y)), some (.inr (32, 2, 2 * y_cp y)), some (.inr (32, 3, 2 * y_cp y)), some (.inl (.int (nI i)))] [] (mp (v_gb y (gG y (cut0 (fun k => nI (y_fr y k)) 0 (y_cp y)) (cut0 (fun k => nI (y_tt y k)) 0 (y_cp y)) (cut0 (y_wh y) 0 (y_cp y)) (cut0 (y_rw y) 0 i)))) k n) (fun i hi ih => ?_) ?_ 0 (Nat.zero_le _)
      · refine s_Mo_put_110 hC hN _ _ _ _ _ ?_
        simp only [B_Mo_put_0, B_Mo_put_56, B_Mo_put_107, B_Mo_put_110, B_Mo_put_139, i_ic, i_lc, i_nul, i_il, i_ll, i_al, i_is, i_as, i_ls, i_inc, i_iadd, i_isub, i_imul, i_iand, i_ior, i_ixor, i_idiv, i_irem, i_ishl, i_ishr, i_ladd, i_lsub, i_land, i_lor, i_i2l, i_lushr, i_lshl, i_lshr, i_lcmp, i_dup, i_pop, i_dx1, i_dup2, i_ifeq, i_ifne, i_iflt, i_ifge, i_ifgt, i_ifle, i_iceq, i_icne, i_iclt, i_icge, i_icgt, i_icle, i_ifn, i_gf, i_pf, i_ial, i_bal, i_lal, i_aal, i_ias, i_las, i_bas, i_aas, i_alen, i_newa, i_new, i_anew, i_cast, i_oi, i_call, i_callV, i_callV2, i_callI, i_iret, i_zret, i_lret, i_vret, i_aret, i_mmx, i_mmn, i_gsE, i_aceq, i_no, i_acq, i_sw, zsw, zlg, zls, znl, zfg, zcs, zsp, zrc, zisn, zft, zc1, zto, Value.category, List.set_cons_zero, List.set_cons_succ, List.length_cons, List.length_nil, Option.toList, List.append, List.nil_append, List.cons_append, true_and, and_true, Nat.add_zero, Nat.zero_le, Nat.zero_add, Nat.le_refl, Nat.reduceAdd, Nat.reduceLeDiff, co0, z0, zn_0, zn_1, zn_2, zn_3, zn_4, zn_5, zn_8, zn_12, zn_24, zn_121, zn_144, zn_256, zn_300, zn_600, zn_720, zn_1204, zn_1280, zn_2400, zn_4816, zn_14400, zn_90000, q_main, m_main, q_rw, r3, ems, ar_4, ar_5, ar_12, ar_300, ar_600, ar_1200, ar_10, nI_add, ar_1, ar_2, ar_3, ar_2m]
        rw [erw, nI_clamp (by omega), uu, cut0_L, gG_3]
        refine ⟨fun h => absurd ((zK (K := 5 * y_cp y) (by omega) (n := i) (by omega)).2.1.mp h) (by omega), fun _ => ⟨vp_in_nI (by rw [ecp]; omega) (by rw [ecp]; omega), m_k (by decide), vp_in_nI (by omega) (by omega), ih⟩⟩
      · refine s_Mo_put_110 hC hN _ _ _ _ _ ?_
        simp only [B_Mo_put_0, B_Mo_put_56, B_Mo_put_107, B_Mo_put_110, B_Mo_put_139, i_ic, i_lc, i_nul, i_il, i_ll, i_al, i_is, i_as, i_ls, i_inc, i_iadd, i_isub, i_imul, i_iand, i_ior, i_ixor, i_idiv, i_irem, i_ishl, i_ishr, i_ladd, i_lsub, i_land, i_lor, i_i2l, i_lushr, i_lshl, i_lshr, i_lcmp, i_dup, i_pop, i_dx1, i_dup2, i_ifeq, i_ifne, i_iflt, i_ifge, i_ifgt, i_ifle, i_iceq, i_icne, i_iclt, i_icge, i_icgt, i_icle, i_ifn, i_gf, i_pf, i_ial, i_bal, i_lal, i_aal, i_ias, i_las, i_bas, i_aas, i_alen, i_newa, i_new, i_anew, i_cast, i_oi, i_call, i_callV, i_callV2, i_callI, i_iret, i_zret, i_lret, i_vret, i_aret, i_mmx, i_mmn, i_gsE, i_aceq, i_no, i_acq, i_sw, zsw, zlg, zls, znl, zfg, zcs, zsp, zrc, zisn, zft, zc1, zto, Value.category, List.set_cons_zero, List.set_cons_succ, List.length_cons, List.length_nil, Option.toList, List.append, List.nil_append, List.cons_append, true_and, and_true, Nat.add_zero, Nat.zero_le, Nat.zero_add, Nat.le_refl, Nat.reduceAdd, Nat.reduceLeDiff, co0, z0, zn_0, zn_1, zn_2, zn_3, zn_4, zn_5, zn_8, zn_12, zn_24, zn_121, zn_144, zn_256, zn_300, zn_600, zn_720, zn_1204, zn_1280, zn_2400, zn_4816, zn_14400, zn_90000, q_main, m_main, ems, zup_s, zup_zup, ar_4, ar_5, ar_12, ar_300, ar_600, ar_1200, ar_10, nI_add, ar_1, ar_2, ar_3, ar_2m]
        refine ⟨fun _ => ?_, fun h => absurd ((zK (K := 5 * y_cp y) (by omega) (n := 5 * y_cp y) (by omega)).2.1.mpr (Nat.le_refl _)) h⟩
        have hw := pg_e y (by omega) hg
        simp only [m_new, m_main] at hw
        rw [show y_ms (v_cp y (2 * y_cp y)) = y_cp y from he'] at hw
        refine ⟨m_k (by decide), by decide, m_k (by decide), by decide, m_k (by decide), by decide, m_k (by decide), by decide, ?_⟩
        refine zM (P := fun W => B_Mo_put_163 c1 c2 Rt (zG X) _ [] W k n) hw (fin (pg y) rfl ?_ ?_ hR k n hk hn _ _ _ _ _)
        · show y_ms y < 2 * y_cp y
          omega
        · show 2 * y_cp y ≤ 16384
          omega
    have loopA : ∀ (k n : Nat), k ≤ c1 → n ≤ c2 → zG X 56 [some (.inr (30, 0, 0)), some (.inl (.int (nI u))), some (.inl (.int (nI v))), some (.inl (.int s)), some (.inr (32, 0, 2 * y_cp y)), some (.inr (32, 1, 2 * y_cp y)), some (.inr (32, 2, 2 * y_cp y)), some (.inr (32, 3, 2 * y_cp y)), some (.inl (.int (nI 0)))] [] (mp (v_gb y (gG y (cut0 (fun k => nI (y_fr y k)) 0 0) (cut0 (fun k => nI (y_tt y k)) 0 0) (cut0 (y_wh y) 0 0) (cut0 (y_rw y) 0 0)))) k n := by
      intro k n hk hn
      refine upto (N := y_cp y) (P := fun i => zG X 56 [some (.inr (30, 0, 0)), some (.inl (.int (nI u))), some (.inl (.int (nI v))), some (.inl (.int s)), some (.inr (32, 0, 2 * y_cp y)), some (.inr (32, 1, 2 * y_cp y)), some (.inr (32, 2, 2 * y_cp y)), some (.inr (32, 3, 2 * y_cp y)), some (.inl (.int (nI i)))] [] (mp (v_gb y (gG y (cut0 (fun k => nI (y_fr y k)) 0 i) (cut0 (fun k => nI (y_tt y k)) 0 i) (cut0 (y_wh y) 0 i) (cut0 (y_rw y) 0 0)))) k n) (fun i hi ih => ?_) ?_ 0 (Nat.zero_le _)
      · refine s_Mo_put_56 hC hN _ _ _ _ _ ?_
        have hA : upd (cut0 (fun k => nI (y_fr y k)) 0 i) i (nI (y_fr y i)) = cut0 (fun k => nI (y_fr y k)) 0 (i + 1) := cut0_u (fun k => nI (y_fr y k)) i
        have hB : upd (cut0 (fun k => nI (y_tt y k)) 0 i) i (nI (y_tt y i)) = cut0 (fun k => nI (y_tt y k)) 0 (i + 1) := cut0_u (fun k => nI (y_tt y k)) i
        have i1 : ∀ G, vp_in (nI i) (y_cp (v_gb y G)) := fun G => vp_in_nI (by rw [ecp]; omega) (by rw [ecp]; omega)
        have i2 : vp_in (nI i) (2 * y_cp y) := vp_in_nI (by omega) (by omega)
        simp only [B_Mo_put_0, B_Mo_put_56, B_Mo_put_107, B_Mo_put_110, B_Mo_put_139, i_ic, i_lc, i_nul, i_il, i_ll, i_al, i_is, i_as, i_ls, i_inc, i_iadd, i_isub, i_imul, i_iand, i_ior, i_ixor, i_idiv, i_irem, i_ishl, i_ishr, i_ladd, i_lsub, i_land, i_lor, i_i2l, i_lushr, i_lshl, i_lshr, i_lcmp, i_dup, i_pop, i_dx1, i_dup2, i_ifeq, i_ifne, i_iflt, i_ifge, i_ifgt, i_ifle, i_iceq, i_icne, i_iclt, i_icge, i_icgt, i_icle, i_ifn, i_gf, i_pf, i_ial, i_bal, i_lal, i_aal, i_ias, i_las, i_bas, i_aas, i_alen, i_newa, i_new, i_anew, i_cast, i_oi, i_call, i_callV, i_callV2, i_callI, i_iret, i_zret, i_lret, i_vret, i_aret, i_mmx, i_mmn, i_gsE, i_aceq, i_no, i_acq, i_sw, zsw, zlg, zls, znl, zfg, zcs, zsp, zrc, zisn, zft, zc1, zto, Value.category, List.set_cons_zero, List.set_cons_succ, List.length_cons, List.length_nil, Option.toList, List.append, List.nil_append, List.cons_append, true_and, and_true, Nat.add_zero, Nat.zero_le, Nat.zero_add, Nat.le_refl, Nat.reduceAdd, Nat.reduceLeDiff, co0, z0, zn_0, zn_1, zn_2, zn_3, zn_4, zn_5, zn_8, zn_12, zn_24, zn_121, zn_144, zn_256, zn_300, zn_600, zn_720, zn_1204, zn_1280, zn_2400, zn_4816, zn_14400, zn_90000, q_main, m_main, q_fr, r0, ems, ar_4, ar_5, ar_12, ar_300, ar_600, ar_1200, ar_10, nI_add, ar_1, ar_2, ar_3, ar_2m]
        rw [efr, nI_clamp (by omega), uu, hA, gG_0]
        refine ⟨fun h => absurd ((zK (K := y_cp y) (by omega) (n := i) (by omega)).2.1.mp h) (by omega), fun _ => ⟨i1 _, m_k (by decide), i2, ?_⟩⟩
        simp only [i_ic, i_lc, i_nul, i_il, i_ll, i_al, i_is, i_as, i_ls, i_inc, i_iadd, i_isub, i_imul, i_iand, i_ior, i_ixor, i_idiv, i_irem, i_ishl, i_ishr, i_ladd, i_lsub, i_land, i_lor, i_i2l, i_lushr, i_lshl, i_lshr, i_lcmp, i_dup, i_pop, i_dx1, i_dup2, i_ifeq, i_ifne, i_iflt, i_ifge, i_ifgt, i_ifle, i_iceq, i_icne, i_iclt, i_icge, i_icgt, i_icle, i_ifn, i_gf, i_pf, i_ial, i_bal, i_lal, i_aal, i_ias, i_las, i_bas, i_aas, i_alen, i_newa, i_new, i_anew, i_cast, i_oi, i_call, i_callV, i_callV2, i_callI, i_iret, i_zret, i_lret, i_vret, i_aret, i_mmx, i_mmn, i_gsE, i_aceq, i_no, i_acq, i_sw, zsw, zlg, zls, znl, zfg, zcs, zsp, zrc, zisn, zft, zc1, zto, Value.category, List.set_cons_zero, List.set_cons_succ, List.length_cons, List.length_nil, Option.toList, List.append, List.nil_append, List.cons_append, true_and, and_true, Nat.add_zero, Nat.zero_le, Nat.zero_add, Nat.le_refl, Nat.reduceAdd, Nat.reduceLeDiff, co0, z0, zn_0, zn_1, zn_2, zn_3, zn_4, zn_5, zn_8, zn_12, zn_24, zn_121, zn_144, zn_256, zn_300, zn_600, zn_720, zn_1204, zn_1280, zn_2400, zn_4816, zn_14400, zn_90000, q_main, m_main, q_tt, r1]
        rw [ett, nI_clamp (by omega), uu, hB, gG_1]
        refine ⟨i1 _, m_k (by decide), i2, ?_⟩
        simp only [i_ic, i_lc, i_nul, i_il, i_ll, i_al, i_is, i_as, i_ls, i_inc, i_iadd, i_isub, i_imul, i_iand, i_ior, i_ixor, i_idiv, i_irem, i_ishl, i_ishr, i_ladd, i_lsub, i_land, i_lor, i_i2l, i_lushr, i_lshl, i_lshr, i_lcmp, i_dup, i_pop, i_dx1, i_dup2, i_ifeq, i_ifne, i_iflt, i_ifge, i_ifgt, i_ifle, i_iceq, i_icne, i_iclt, i_icge, i_icgt, i_icle, i_ifn, i_gf, i_pf, i_ial, i_bal, i_lal, i_aal, i_ias, i_las, i_bas, i_aas, i_alen, i_newa, i_new, i_anew, i_cast, i_oi, i_call, i_callV, i_callV2, i_callI, i_iret, i_zret, i_lret, i_vret, i_aret, i_mmx, i_mmn, i_gsE, i_aceq, i_no, i_acq, i_sw, zsw, zlg, zls, znl, zfg, zcs, zsp, zrc, zisn, zft, zc1, zto, Value.category, List.set_cons_zero, List.set_cons_succ, List.length_cons, List.length_nil, Option.toList, List.append, List.nil_append, List.cons_append, true_and, and_true, Nat.add_zero, Nat.zero_le, Nat.zero_add, Nat.le_refl, Nat.reduceAdd, Nat.reduceLeDiff, co0, z0, zn_0, zn_1, zn_2, zn_3, zn_4, zn_5, zn_8, zn_12, zn_24, zn_121, zn_144, zn_256, zn_300, zn_600, zn_720, zn_1204, zn_1280, zn_2400, zn_4816, zn_14400, zn_90000, q_main, m_main, q_wh, r2]
        rw [ewh, nI_clamp (by omega), uu, cut0_u, gG_2]
        exact ⟨i1 _, m_k (by decide), i2, ih⟩
      · refine s_Mo_put_56 hC hN _ _ _ _ _ ?_
        simp only [B_Mo_put_0, B_Mo_put_56, B_Mo_put_107, B_Mo_put_110, B_Mo_put_139, i_ic, i_lc, i_nul, i_il, i_ll, i_al, i_is, i_as, i_ls, i_inc, i_iadd, i_isub, i_imul, i_iand, i_ior, i_ixor, i_idiv, i_irem, i_ishl, i_ishr, i_ladd, i_lsub, i_land, i_lor, i_i2l, i_lushr, i_lshl, i_lshr, i_lcmp, i_dup, i_pop, i_dx1, i_dup2, i_ifeq, i_ifne, i_iflt, i_ifge, i_ifgt, i_ifle, i_iceq, i_icne, i_iclt, i_icge, i_icgt, i_icle, i_ifn, i_gf, i_pf, i_ial, i_bal, i_lal, i_aal, i_ias, i_las, i_bas, i_aas, i_alen, i_newa, i_new, i_anew, i_cast, i_oi, i_call, i_callV, i_callV2, i_callI, i_iret, i_zret, i_lret, i_vret, i_aret, i_mmx, i_mmn, i_gsE, i_aceq, i_no, i_acq, i_sw, zsw, zlg, zls, znl, zfg, zcs, zsp, zrc, zisn, zft, zc1, zto, Value.category, List.set_cons_zero, List.set_cons_succ, List.length_cons, List.length_nil, Option.toList, List.append, List.nil_append, List.cons_append, true_and, and_true, Nat.add_zero, Nat.zero_le, Nat.zero_add, Nat.le_refl, Nat.reduceAdd, Nat.reduceLeDiff, co0, z0, zn_0, zn_1, zn_2, zn_3, zn_4, zn_5, zn_8, zn_12, zn_24, zn_121, zn_144, zn_256, zn_300, zn_600, zn_720, zn_1204, zn_1280, zn_2400, zn_4816, zn_14400, zn_90000, q_main, m_main, ems]
        exact ⟨fun _ => loopB k n hk hn, fun h => absurd ((zK (K := y_cp y) (by omega) (n := y_cp y) (by omega)).2.1.mpr (Nat.le_refl _)) h⟩
    have c0 : ∀ f : Nat → Int32, cut0 f 0 0 = fun _ => 0 := fun f => by funext j; exact if_neg (Nat.not_lt_zero j)
    have c0L : cut0 (y_rw y) 0 0 = fun _ => 0 := by funext j; exact if_neg (Nat.not_lt_zero j)
    rw [c0, c0, c0, c0L] at loopA
    exact loopA _ _ (by omega) (by omega)
