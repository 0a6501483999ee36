/-! the first state -/
def a_0 : zAb := ((((0, 0), (0, (0, 0))), ((0, (0, (fun _ _ => false))), ((fun _ => 0), ((fun _ => 0), (fun _ => false))))), ((((fun _ _ => 0), ((fun _ _ => 0), (fun _ _ _ => 0))), ((fun _ _ => 0), ((fun _ => 0), (fun _ _ => false)))), (((fun _ _ => false), ((fun _ => 0), (fun _ _ => 0))), ((fun _ _ => []), ((fun _ _ _ => false), (fun _ _ _ => false))))))
theorem AI_0 : AI a_0 := by
  have hl : ∀ u v, ¬ a_lk a_0 u v = true := fun u v z => absurd (show false = true from z) (by decide)
  refine ⟨⟨⟨by decide, by decide, by decide, by decide⟩, ⟨fun r hr => absurd hr (Nat.not_lt_zero _), fun r hr => absurd hr (Nat.not_lt_zero _)⟩, ⟨fun u v z => absurd z (hl u v), fun u v z => absurd z (hl u v)⟩, fun u v _ => ⟨rfl, rfl, rfl⟩, fun u v w => ⟨fun z => absurd (show false = true from z) (by decide), fun z => absurd (show false = true from z) (by decide)⟩, fun u v => ⟨?_, ?_, ?_, ?_⟩, ?_, ⟨fun r hr => absurd hr (Nat.not_lt_zero _), fun k r z => absurd (show false = true from z) (by decide), fun k r z => absurd (show false = true from z) (by decide)⟩, fun w f _ _ => Or.inl ⟨rfl, rfl⟩⟩, fun u v z => absurd z.1 (hl u v)⟩
  · exact trivial
  · exact List.nodup_nil
  · exact fun k hk => absurd (show k ∈ ([] : List Nat) from hk) (List.not_mem_nil)
  · exact fun m hm => absurd (show Sum.inr m ∈ ([] : List zIt) from hm) (List.not_mem_nil)
  · exact Nat.le_trans (ct_le _ _) (by decide)
theorem lc_0 : lc a_0 = 0 := by
  unfold lc
  rw [sm_cg 12 (g := fun _ => 0) (fun i _ => ct_zero (fun j _ z => absurd (show false = true from z.2) (by decide)))]
  exact sm_0 12
theorem Iq_0 : Iq x_0 := by
  refine ⟨⟨by decide, ⟨by decide, by decide, by decide⟩, ⟨by decide, by decide, by decide, by decide⟩, fun i hi => ?_, fun i j z => absurd rfl z, fun i hi => absurd hi (Nat.not_lt_zero _), fun i hi => absurd hi (Nat.not_lt_zero _), ⟨by decide, fun f _ => by show 0 ≤ 4; decide⟩, fun i hi => absurd hi (Nat.not_lt_zero _), fun p l z => ?_, fun i hi => absurd hi (Nat.not_lt_zero _)⟩, rfl, rfl, rfl, rfl, rfl⟩
  · match i, hi with
    | 0, _ => exact ⟨by decide, by decide⟩
    | 1, _ => exact ⟨by decide, by decide⟩
    | 2, _ => exact ⟨by decide, by decide⟩
    | 3, _ => exact ⟨by decide, by decide⟩
  · cases (show (none : Option Nat) = some l from z)
theorem Rx_0 : Rx x_0 a_0 := by
  have hn : ∀ p, ¬ x_ln x_0 p ≠ none := fun p z => z rfl
  refine ⟨⟨⟨rfl, rfl, rfl, rfl, rfl, rfl, rfl⟩, fun r hr => absurd hr (Nat.not_lt_zero _), fun r hr => absurd hr (Nat.not_lt_zero _), fun w f _ _ => ⟨rfl, rfl, rfl⟩, fun r hr => absurd hr (Nat.not_lt_zero _), fun u i _ hi => ?_, by rw [lc_0]; rfl⟩, fun u v _ _ => ⟨fun _ => rfl, fun z => absurd (show false = true from z) (by decide)⟩, ⟨fun p p' l _ _ z => ?_, fun k p hk => absurd hk (Nat.not_lt_zero _), fun k p hk => absurd hk (Nat.not_lt_zero _), fun k hk => absurd hk (Nat.not_lt_zero _), ?_, by decide⟩, fun r hr => absurd hr (Nat.not_lt_zero _)⟩
  · exact b_0 i
  · cases (show (none : Option Nat) = some l from z)
  · rw [ct_zero (fun p _ => hn p)]; rfl
theorem Jv_y0 : Jv y_0 := ⟨by decide, ⟨by decide, by decide, by decide⟩, ⟨by decide, by decide, by decide⟩, fun r hr => absurd hr (Nat.not_lt_zero _), fun r hr => absurd hr (Nat.not_lt_zero _), fun t _ => ⟨Or.inl rfl, by show 0 ≤ 4; decide⟩, fun r hr => absurd hr (Nat.not_lt_zero _), fun t j z => absurd rfl z, fun r _ => by show 0 ≤ 600; decide⟩
theorem bto_0 (b : Nat) : bto (sh (fun _ => 0) b) = fun _ => false := by
  funext k
  by_cases hk : k < 320
  · rw [bto_i hk]
    exact BitVec.getLsbD_zero
  · exact bto_o hk
theorem Ry_0 : Ry (un_x y_0 4) a_0 := by
  have hs := un_s y_0 4
  refine ⟨?_, ?_, ?_, Jv_un Jv_y0 4⟩
  · obtain ⟨A, B, e⟩ := un_k y_0 4
    rw [e] at hs ⊢
    refine ⟨⟨rfl, rfl, rfl, rfl, rfl, rfl, rfl⟩, fun r hr => absurd hr (Nat.not_lt_zero _), fun r _ => ⟨fun hr => absurd hr (Nat.not_lt_zero _), fun _ => rfl, fun i hr => absurd hr (Nat.not_lt_zero _)⟩, fun r hr => absurd hr (Nat.not_lt_zero _), ⟨fun r f hr => absurd hr (Nat.not_lt_zero _), fun f hf => ⟨hs f hf, fun z => absurd (show (0 : Int32) = 3 from z) (by decide), fun k hk => absurd hk (Nat.not_lt_zero _)⟩⟩, fun r hr => absurd hr (Nat.not_lt_zero _), fun k _ => ⟨fun d hd => inm_0 (by omega), fun r _ => rfl⟩⟩
  · obtain ⟨A, B, e⟩ := un_k y_0 4
    rw [e]
    exact fun u v _ _ => ⟨rfl, rfl, bto_0 _, bto_0 _⟩
  · obtain ⟨A, B, e⟩ := un_k y_0 4
    rw [e]
    exact ⟨0, by decide, rfl⟩
theorem Bth_0 : Bth x_0 (un_x y_0 4) a_0 := ⟨Rx_0, Ry_0, AI_0, Iq_0⟩
theorem rws_0 : rws x_0 = 0 := rfl
theorem cp_0 : y_cp (un_x y_0 4) = 256 := by
  obtain ⟨A, B, e⟩ := un_k y_0 4
  rw [e]; rfl
