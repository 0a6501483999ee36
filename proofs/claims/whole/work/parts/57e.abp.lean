/-! notices come, messages are delivered: what holds stays, and it ends -/
theorem ct_add1 {p : Nat → Prop} {k n : Nat} (hk : k < n) (hp : ¬ p k) : ct (fun j => p j ∨ j = k) n = ct p n + 1 := by
  have h := sm_up (fun i => if zd (p i) = true then 1 else 0) k 1 n hk
  rw [zd_f hp, if_neg (by decide)] at h
  have e : ct (fun j => p j ∨ j = k) n = sm (fun i => if i = k then 1 else (if zd (p i) = true then 1 else 0)) n := by
    refine sm_cg n (fun i _ => ?_)
    by_cases hi : i = k
    · rw [if_pos hi, zd_t (Or.inr hi)]; rfl
    · rw [if_neg hi]
      show (if zd (p i ∨ i = k) = true then 1 else 0) = _
      rw [show (p i ∨ i = k) = p i from propext ⟨fun z => z.elim id (fun z => absurd z hi), Or.inl⟩]
  rw [e]
  exact h
theorem AJ_hear {a : zAb} (h : AJ a) {k d : Nat} (hk : k < a_nn a) : AJ (a_hear a k d) := by
  have es : ∀ k' d', a_sn (a_hear a k d) k' d' = va_u2 (a_sn a) k d true k' d' := fun _ _ => rfl
  have eh : ∀ k' r, a_hb (a_hear a k d) k' r = if k' = k ∧ zd (a_new a k d r) = true then true else a_hb a k' r := fun _ _ => rfl
  have ez : ∀ r, a_rz (a_hear a k d) r = if zd (a_new a k d r) = true then a_rz a r + 1 else a_rz a r := fun _ => rfl
  refine ⟨h.1, h.2.1, h.2.2.1, h.un, h.bit, fun u v => ⟨(h.ql u v).1, (h.ql u v).2.1, fun j hj => ⟨((h.ql u v).2.2.1 j hj).1, ?_⟩, (h.ql u v).2.2.2⟩, h.uw, ⟨fun r hr => ?_, fun j r hj => ?_, fun j d' hj => ?_⟩, h.ts⟩
  · rw [es]
    by_cases e : j = k ∧ u = d
    · rw [e.1, e.2, va_u2_s]
    · rw [va_u2_o _ _ e]; exact ((h.ql u v).2.2.1 j hj).2
  · rw [ez]
    show _ = ct (fun k' => a_hb (a_hear a k d) k' r = true) (a_nn a)
    by_cases hn : a_new a k d r
    · rw [zd_t hn, if_pos rfl, h.hd.1 r hr, ← ct_add1 hk (p := fun k' => a_hb a k' r = true) (by rw [hn.2.2.1]; decide)]
      refine ct_cg _ (fun j _ => ?_)
      rw [eh, zd_t hn]
      by_cases e : j = k
      · rw [if_pos ⟨e, rfl⟩]; exact ⟨fun _ => rfl, fun _ => Or.inr e⟩
      · rw [if_neg (fun z => e z.1)]; exact ⟨fun z => z.elim id (fun z => absurd z e), Or.inl⟩
    · rw [zd_f hn, if_neg (by decide), h.hd.1 r hr]
      refine ct_cg _ (fun j _ => ?_)
      rw [eh, zd_f hn, if_neg (fun z => absurd z.2 (by decide))]
  · rw [eh] at hj
    by_cases e : j = k ∧ zd (a_new a k d r) = true
    · exact ⟨e.1 ▸ hk, (zd_i.mp e.2).1⟩
    · rw [if_neg e] at hj; exact h.hd.2.1 j r hj
  · rw [es] at hj
    by_cases e : j = k ∧ d' = d
    · exact e.1 ▸ hk
    · rw [va_u2_o _ _ e] at hj; exact h.hd.2.2 j d' hj
theorem AJ_ps {a : zAb} (h : AJ a) {k d f n : Nat} (hk : k < a_nn a) (hs : a_sn a k d = true) (hn : ∀ v, k ∉ nt (a_q a d v)) (hu : ct (fun j => a_uw a j ∨ j = k) (a_nn a) ≤ 60) : AJ (a_ps a k d f n) := by
  have hq := ps_q a k d f n
  obtain ⟨q', p, m, e⟩ := psk_n a k d f n
  rw [e] at hq ⊢
  have hq' : q' = fun u v => if u = d ∧ v < n ∧ zd (a_pc a k d f v) = true then a_q a u v ++ [.inl k] else a_q a u v := hq
  have cs : ∀ u v, q' u v = a_q a u v ∨ (u = d ∧ a_lk a u v = true ∧ q' u v = a_q a u v ++ [.inl k]) := fun u v => by
    rw [hq']
    by_cases z : u = d ∧ v < n ∧ zd (a_pc a k d f v) = true
    · refine Or.inr ⟨z.1, ?_, if_pos z⟩
      rw [z.1]; exact (zd_i.mp z.2.2).2.1
    · exact Or.inl (if_neg z)
  refine ⟨h.1, h.2.1, h.2.2.1, fun u v hl => ?_, h.bit, fun u v => ?_, ?_, h.hd, h.ts⟩
  · refine ⟨?_, (h.un u v hl).2⟩
    show q' u v = []
    rcases cs u v with z | ⟨_, z, _⟩
    · rw [z]; exact (h.un u v hl).1
    · have hl' : a_lk a u v = false := hl
      rw [z] at hl'; cases hl'
  · show na (q' u v) ∧ (nt (q' u v)).Nodup ∧ (∀ j, j ∈ nt (q' u v) → j < a_nn a ∧ a_sn a j u = true) ∧ (∀ m, .inr m ∈ q' u v → ∀ w, m w = true → w < a_nw a)
    rcases cs u v with z | ⟨z1, z2, z⟩
    · rw [z]; exact h.ql u v
    · rw [z, nt_app]
      refine ⟨na_app (h.ql u v).1 trivial (fun _ => rfl), ?_, fun j hj => ?_, fun m hm w hw => ?_⟩
      · refine List.nodup_append.mpr ⟨(h.ql u v).2.1, List.nodup_cons.mpr ⟨List.not_mem_nil, List.nodup_nil⟩, fun j hj j' hj' e => ?_⟩
        rw [List.mem_singleton.mp hj'] at e
        rw [e, z1] at hj
        exact hn v hj
      · rcases List.mem_append.mp hj with y | y
        · exact (h.ql u v).2.2.1 j y
        · rw [List.mem_singleton.mp y, z1]; exact ⟨hk, hs⟩
      · rcases List.mem_append.mp hm with y | y
        · exact (h.ql u v).2.2.2 m y w hw
        · cases List.mem_singleton.mp y
  · refine Nat.le_trans (ct_mono _ (fun j _ hj => ?_)) hu
    obtain ⟨u, v, hj⟩ := hj
    have hj' : j ∈ nt (q' u v) := hj
    rcases cs u v with z | ⟨_, _, z⟩
    · rw [z] at hj'; exact Or.inl ⟨u, v, hj'⟩
    · rw [z, nt_app] at hj'
      rcases List.mem_append.mp hj' with y | y
      · exact Or.inl ⟨u, v, y⟩
      · exact Or.inr (List.mem_singleton.mp y)
theorem ps_w {a b : zAb} (h : psk a b) (u v : Nat) : a_w b u v ↔ a_w a u v := by
  obtain ⟨q, p, n, rfl⟩ := h
  exact Iff.rfl
theorem hear_w (a : zAb) (k d u v : Nat) : a_w (a_hear a k d) u v ↔ a_w a u v := Iff.rfl
theorem come_w (a : zAb) (k d f u v : Nat) : a_w (a_come a k d f) u v ↔ a_w a u v := by
  unfold a_come
  split
  · exact Iff.rfl
  · exact (ps_w (psk_n _ k d f _) u v).trans (hear_w a k d u v)
theorem AJ_come {a : zAb} (h : AJ a) {k d f : Nat} (hk : k < a_nn a) (hu : ct (fun j => a_uw a j ∨ j = k) (a_nn a) ≤ 60) : AJ (a_come a k d f) := by
  unfold a_come
  by_cases hs : a_sn a k d = true
  · rw [if_pos hs]; exact h
  · rw [if_neg hs]
    refine AJ_ps (AJ_hear h hk) hk (va_u2_s _ _ _ _) (fun v hv => ?_) hu
    exact hs ((h.ql d v).2.2.1 k hv).2
/-- what is meant on (p, x) is as it was where the same is known -/
theorem mn_cg {a b : zAb} {p x : Nat} (hn : a_nw b = a_nw a) (ho : ∀ w j, w < a_nw a → (a_out b w j ↔ a_out a w j)) (hk : ∀ w, a_kn b p x w ↔ a_kn a p x w) : a_mn b p x = a_mn a p x := by
  funext w
  unfold a_mn
  rw [hn]
  refine congrArg zd (propext ⟨fun z => ⟨z.1, (hk w).mp z.2.1, fun j hj y => z.2.2 j ((hk j).mpr hj) ((ho w j z.1).mpr y)⟩, fun z => ⟨z.1, (hk w).mpr z.2.1, fun j hj y => z.2.2 j ((hk j).mp hj) ((ho w j z.1).mp y)⟩⟩)
/-- where something new is meant, if all was told -/
theorem w_cg {a b : zAb} (h : ∀ u v, ¬ a_w a u v) {p x : Nat} (hl : a_lk b p x = true → a_lk a p x = true) (ht : a_to b p x = a_to a p x) (hm : a_mn b p x = a_mn a p x) : ¬ a_w b p x := fun z => by
  refine h p x ⟨hl z.1, ?_⟩
  rw [← hm, ← ht]
  exact z.2
theorem got_w {a : zAb} (h : ∀ u v, ¬ a_w a u v) {u v : Nat} {m : Nat → Bool} {p x : Nat} (hw : a_w (a_got (a_tk1 a u v) u v m) p x) : p = v ∧ a_lk a v x = true ∧ x ≠ u := by
  by_cases hp : p = v ∧ x ≠ u
  · refine ⟨hp.1, ?_, hp.2⟩
    have := hw.1
    rw [hp.1] at this
    exact this
  · exfalso
    refine w_cg h (b := a_got (a_tk1 a u v) u v m) (fun z => z) rfl (mn_cg rfl (fun _ _ _ => Iff.rfl) (fun w => ?_)) hw
    have e : ∀ y, y ≠ x → a_tb (a_got (a_tk1 a u v) u v m) p y = a_tb a p y := fun y hy => va_u2_o _ _ (fun z => hp ⟨z.1, fun q => hy (z.2.trans q.symm)⟩)
    constructor
    · intro z
      rcases z with z | ⟨y, h1, h2, h3, h4⟩
      · exact Or.inl z
      · exact Or.inr ⟨y, h1, h2, h3, by rw [e y h2] at h4; exact h4⟩
    · intro z
      rcases z with z | ⟨y, h1, h2, h3, h4⟩
      · exact Or.inl z
      · exact Or.inr ⟨y, h1, h2, h3, by rw [e y h2]; exact h4⟩
theorem uw_k {a : zAb} (h : AJ a) {u v k : Nat} (hk : k ∈ nt (a_q a u v)) : ct (fun j => a_uw (a_tk1 a u v) j ∨ j = k) (a_nn a) ≤ 60 := by
  refine Nat.le_trans (ct_mono _ (fun j _ hj => ?_)) h.uw
  rcases hj with ⟨p, x, z⟩ | z
  · refine ⟨p, x, ?_⟩
    by_cases e : p = u ∧ x = v
    · rw [e.1, e.2] at z ⊢
      have z' : j ∈ nt (va_u2 (a_q a) u v (a_q a u v).tail u v) := z
      rw [va_u2_s] at z'
      exact (nt_tail _).subset z'
    · have z' : j ∈ nt (va_u2 (a_q a) u v (a_q a u v).tail p x) := z
      rw [va_u2_o _ _ e] at z'
      exact z'
  · rw [z]; exact ⟨u, v, hk⟩
theorem AI_dl {a : zAb} (h : AI a) (u v : Nat) (hl : a_lk a u v = true) : AI (a_dl a u v) := by
  unfold a_dl
  split
  · exact h
  · rename_i k t e
    have hk : k ∈ nt (a_q a u v) := by rw [e]; exact List.mem_cons_self
    refine ⟨AJ_come (AJ_tk1 h.1 u v) ((h.1.ql u v).2.2.1 k hk).1 (uw_k h.1 hk), fun p x z => ?_⟩
    exact h.2 p x ((come_w (a_tk1 a u v) k v u p x).mp z)
  · rename_i m t e
    refine AI_tlA (AJ_got (AJ_tk1 h.1 u v) (h.1.lk u v hl).1 (fun w hw => ?_))
    exact (h.1.ql u v).2.2.2 m (by rw [e]; exact List.mem_cons_self) w hw
/-! it ends -/
def sm2 (f : Nat → Nat → Nat) : Nat := sm (fun u => sm (f u) 12) 12
theorem sm2_up (f : Nat → Nat → Nat) {u v : Nat} (c : Nat) (hu : u < 12) (hv : v < 12) : sm2 (va_u2 f u v c) + f u v = sm2 f + c := by
  have h1 := sm_up (f u) v c 12 hv
  have h2 := sm_up (fun p => sm (f p) 12) u (sm (fun i => if i = v then c else f u i) 12) 12 hu
  have e : sm2 (va_u2 f u v c) = sm (fun i => if i = u then sm (fun i => if i = v then c else f u i) 12 else sm (f i) 12) 12 := by
    refine sm_cg 12 (fun p _ => ?_)
    by_cases hp : p = u
    · rw [if_pos hp]
      refine sm_cg 12 (fun x _ => ?_)
      simp only [va_u2, hp, true_and]
    · rw [if_neg hp]
      refine sm_cg 12 (fun x _ => ?_)
      simp only [va_u2, hp, false_and, if_false]
  rw [e]
  unfold sm2
  omega
theorem sm2_le {f g : Nat → Nat → Nat} (h : ∀ u v, u < 12 → v < 12 → f u v ≤ g u v) : sm2 f ≤ sm2 g := sm_le 12 (fun u hu => sm_le 12 (fun v hv => h u v hu hv))
theorem sm2_add (f g : Nat → Nat → Nat) : sm2 (fun u v => f u v + g u v) = sm2 f + sm2 g := by
  unfold sm2
  rw [← sm_add]
  exact sm_cg 12 (fun u _ => sm_add (f u) (g u) 12)
theorem sm2_row (f : Nat → Nat) {v : Nat} (hv : v < 12) : sm2 (fun p x => if p = v then f x else 0) = sm f 12 := by
  have h := sm_up (fun _ => 0) v (sm f 12) 12 hv
  rw [sm_0] at h
  have e : sm2 (fun p x => if p = v then f x else 0) = sm (fun i => if i = v then sm f 12 else 0) 12 := by
    refine sm_cg 12 (fun p _ => ?_)
    by_cases hp : p = v
    · rw [if_pos hp]
      exact sm_cg 12 (fun x _ => if_pos hp)
    · rw [if_neg hp]
      exact (sm_cg 12 (fun x _ => if_neg hp)).trans (sm_0 12)
  omega
noncomputable def Ph (a : zAb) : Nat := sm2 (fun u v => (a_q a u v).length * wgt (a_E a) u v)
theorem Ph_step {a b : zAb} (h : AJ a) {u v : Nat} (hl : a_lk a u v = true) (hq : a_q a u v ≠ []) (hE : a_lk b = a_lk a) (hb : ∀ p x, (a_q b p x).length ≤ (a_q (a_tk1 a u v) p x).length + (if zd (p = v ∧ a_lk a v x = true ∧ x ≠ u) = true then 1 else 0)) : Ph b + 1 ≤ Ph a := by
  have hu : u < 12 := Nat.lt_of_lt_of_le (h.lk u v hl).2 h.lim.1
  have hv : v < 12 := Nat.lt_of_lt_of_le (h.lk v u (h.lk u v hl).1).2 h.lim.1
  have eE : a_E b = a_E a := by unfold a_E; rw [hE]
  have h1 : Ph b ≤ sm2 (fun p x => (a_q (a_tk1 a u v) p x).length * wgt (a_E a) p x + (if p = v then (if zd (a_E a v x ∧ x ≠ u) = true then wgt (a_E a) v x else 0) else 0)) := by
    unfold Ph
    rw [eE]
    refine sm2_le (fun p x _ _ => ?_)
    refine Nat.le_trans (Nat.mul_le_mul_right _ (hb p x)) ?_
    rw [Nat.add_mul]
    refine Nat.add_le_add_left ?_ _
    by_cases hp : p = v
    · subst hp
      rw [if_pos rfl]
      by_cases hz : a_lk a p x = true ∧ x ≠ u
      · rw [zd_t ⟨rfl, hz⟩, zd_t (show a_E a p x ∧ x ≠ u from hz), if_pos rfl, if_pos rfl]; omega
      · rw [zd_f (fun z => hz z.2), if_neg (by decide)]; omega
    · rw [zd_f (fun z => hp z.1), if_neg (by decide)]; omega
  rw [sm2_add, sm2_row _ hv] at h1
  have h2 := wgt_sum h.sy h.br hv (show a_E a u v from hl)
  have h3 := sm2_up (fun p x => (a_q a p x).length * wgt (a_E a) p x) ((a_q a u v).tail.length * wgt (a_E a) u v) hu hv
  have e3 : sm2 (fun p x => (a_q (a_tk1 a u v) p x).length * wgt (a_E a) p x) = sm2 (va_u2 (fun p x => (a_q a p x).length * wgt (a_E a) p x) u v ((a_q a u v).tail.length * wgt (a_E a) u v)) := by
    refine congrArg sm2 ?_
    funext p x
    show (va_u2 (a_q a) u v (a_q a u v).tail p x).length * _ = _
    simp only [va_u2]
    by_cases e : p = u ∧ x = v
    · rw [if_pos e, if_pos e, e.1, e.2]
    · rw [if_neg e, if_neg e]
  rw [← e3] at h3
  have e4 : (a_q a u v).length = (a_q a u v).tail.length + 1 := by
    cases hq' : a_q a u v with
    | nil => exact absurd hq' hq
    | cons i t => rfl
  have h3' : sm2 (fun p x => (a_q (a_tk1 a u v) p x).length * wgt (a_E a) p x) + (a_q a u v).length * wgt (a_E a) u v = Ph a + (a_q a u v).tail.length * wgt (a_E a) u v := h3
  rw [e4, Nat.add_mul] at h3'
  omega
theorem tlq_len (q : List zIt) (m : Nat → Bool) : (tlq q m).length ≤ q.length + 1 := by
  unfold tlq
  split
  · rw [List.length_append, List.length_dropLast]
    show q.length - 1 + 1 ≤ q.length + 1
    omega
  · rw [List.length_append]; exact Nat.le_refl _
theorem dl_lk (a : zAb) (u v : Nat) : a_lk (a_dl a u v) = a_lk a := by
  unfold a_dl
  split
  · rfl
  · unfold a_come
    split
    · rfl
    · rename_i k t e _
      obtain ⟨q', p, n, e'⟩ := psk_n (a_hear (a_tk1 a u v) k v) k v u (a_dk (a_tk1 a u v))
      rw [e']
      rfl
  · rfl
theorem Ph_dl {a : zAb} (h : AI a) {u v : Nat} (hl : a_lk a u v = true) (hq : a_q a u v ≠ []) : Ph (a_dl a u v) + 1 ≤ Ph a := by
  refine Ph_step h.1 hl hq (dl_lk a u v) (fun p x => ?_)
  unfold a_dl
  split
  · rename_i e; exact absurd e hq
  · rename_i k t e
    unfold a_come
    split
    · exact Nat.le_add_right _ _
    · rw [ps_q]
      show (if p = v ∧ x < a_dk (a_tk1 a u v) ∧ zd (a_pc (a_hear (a_tk1 a u v) k v) k v u x) = true then a_q (a_tk1 a u v) p x ++ [.inl k] else a_q (a_tk1 a u v) p x).length ≤ _
      by_cases z : p = v ∧ x < a_dk (a_tk1 a u v) ∧ zd (a_pc (a_hear (a_tk1 a u v) k v) k v u x) = true
      · rw [if_pos z, List.length_append]
        have hz := zd_i.mp z.2.2
        rw [zd_t ⟨z.1, hz.2.1, hz.1⟩, if_pos rfl]
        exact Nat.le_refl _
      · rw [if_neg z]
        exact Nat.le_add_right _ _
  · rename_i m t e
    show (if zd (True ∧ a_w (a_got (a_tk1 a u v) u v m) p x) = true then tlq (a_q (a_tk1 a u v) p x) (a_mn (a_got (a_tk1 a u v) u v m) p x) else a_q (a_tk1 a u v) p x).length ≤ _
    by_cases z : a_w (a_got (a_tk1 a u v) u v m) p x
    · rw [zd_t ⟨trivial, z⟩, if_pos rfl, zd_t (got_w h.2 z), if_pos rfl]
      exact tlq_len _ _
    · rw [zd_f (fun y => z y.2), if_neg (by decide)]
      exact Nat.le_add_right _ _
theorem Ph_le {a : zAb} (h : AJ a) : Ph a ≤ 209088 := by
  have h1 : Ph a ≤ sm2 (fun _ _ => 1452) := sm2_le (fun u v _ _ => by
    have h1 := ql_len h u v
    have h2 := wgt_le (a_E a) u v
    calc (a_q a u v).length * wgt (a_E a) u v ≤ 121 * 12 := Nat.mul_le_mul h1 h2
      _ = 1452 := rfl)
  have h2 : sm2 (fun _ _ => 1452) = 209088 := by decide
  omega
