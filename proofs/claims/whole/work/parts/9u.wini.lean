theorem wW_ini {I : sw_I} {J : sw_J} (h : ∀ c, c < 174 → ∀ j, j < mk_N c → I c j = mk_I c j) : wW 0 I J := by
  have v : ∀ (c j : Nat) (x : Int32), c < 174 → j < mk_N c → mk_I c j = x → I c j = x := fun c j x h1 h2 h3 => (h c h1 j h2).trans h3
  have e7 : I 7 0 = -119 := v 7 0 _ (by decide) (by decide) (by decide)
  have all5 : ∀ a, a ∈ mvL → a < 174 ∧ 5 < mk_N a ∧ mk_I a 5 = nI 0 := by decide
  have all14 : ∀ i, i < 10 → i < mk_N 14 ∧ mk_I 14 i = -1 := by decide
  have all114 : ∀ i, i < 10 → i < mk_N 114 ∧ mk_I 114 i = -1 := by decide
  have all108 : ∀ i, i < 3 → i < mk_N 108 ∧ mk_I 108 i = 0 := by decide
  have all171 : ∀ i, i < 3 → i < mk_N 171 ∧ mk_I 171 i = 0 := by decide
  refine ⟨0, 2, 1, 0, 0, 0, 0, 0, 0, ⟨Nat.le_refl _, fun a ha => ⟨0, Nat.zero_le _, v a 5 _ (all5 a ha).1 (all5 a ha).2.1 (all5 a ha).2.2⟩, fun i hi => v 114 i _ (by decide) (all114 i hi).1 (all114 i hi).2, v 113 5 _ (by decide) (by decide) (by decide)⟩, ?_, ?_, ?_, ?_, ?_, ?_, ?_, ?_⟩
  · refine ⟨by decide, by decide, by decide, v 3 0 _ (by decide) (by decide) (by decide), v 140 3 _ (by decide) (by decide) (by decide), v 3 2 _ (by decide) (by decide) (by decide), v 140 4 _ (by decide) (by decide) (by decide), ?_, Or.inl (v 140 5 _ (by decide) (by decide) (by decide)), fun i hi => absurd hi (Nat.not_lt_zero _), fun i hi => absurd hi (Nat.not_lt_zero _)⟩
    rw [v 3 1 (-1) (by decide) (by decide) (by decide), v 140 5 (-1) (by decide) (by decide) (by decide)]
  · refine ⟨v 6 3 _ (by decide) (by decide) (by decide), ⟨fun k hk hn hp => ?_, ?_, by decide⟩, fun k hk => ?_, Or.inl ⟨v 140 23 _ (by decide) (by decide) (by decide), rfl, e7⟩, ?_⟩
    · obtain rfl : k = 0 := by omega
      rw [e7] at hp
      exact absurd (by decide) hp
    · simp [lwD, e7]
    · obtain rfl : k = 0 := by omega
      rw [e7]
      exact ⟨fun q => absurd (by decide) q, fun _ => Or.inl (by decide)⟩
    · have no : ¬ ∃ k, k < 1 ∧ I 7 k = -114 := by
        rintro ⟨k, hk, ek⟩
        have k0 : k = 0 := by omega
        rw [k0, e7] at ek
        exact absurd ek (by decide)
      rw [if_neg no]
      exact v 6 5 _ (by decide) (by decide) (by decide)
  · have e3 : I 13 3 = 0 := v 13 3 _ (by decide) (by decide) (by decide)
    refine ⟨⟨fun i hi => absurd hi (Nat.not_lt_zero _), ?_, ?_, ?_⟩, fun i hi => absurd hi (Nat.not_lt_zero _), fun i _ hi => v 14 i _ (by decide) (all14 i hi).1 (all14 i hi).2, ⟨0, by decide, v 13 4 _ (by decide) (by decide) (by decide)⟩, fun i hi hb => ?_⟩
    · rw [e3, v 144 30 0 (by decide) (by decide) (by decide)]
    · rw [v 13 4 0 (by decide) (by decide) (by decide), v 144 31 0 (by decide) (by decide) (by decide)]
    · rw [v 13 5 0 (by decide) (by decide) (by decide), v 144 32 0 (by decide) (by decide) (by decide)]
    · rw [e3, inB_0 hi] at hb; cases hb
  · exact ⟨by decide, by decide, v 21 1 _ (by decide) (by decide) (by decide), v 21 2 _ (by decide) (by decide) (by decide), v 140 32 _ (by decide) (by decide) (by decide), fun k hk => absurd hk (Nat.not_lt_zero _)⟩
  · exact ⟨by decide, v 0 10 _ (by decide) (by decide) (by decide), v 140 1 _ (by decide) (by decide) (by decide), fun k hk => absurd hk (Nat.not_lt_zero _)⟩
  · exact ⟨by decide, v 1 1 _ (by decide) (by decide) (by decide), v 140 12 _ (by decide) (by decide) (by decide), fun k hk => absurd hk (Nat.not_lt_zero _)⟩
  · exact ⟨by decide, v 109 4 _ (by decide) (by decide) (by decide), v 140 54 _ (by decide) (by decide) (by decide), fun k hk => absurd hk (Nat.not_lt_zero _)⟩
  · exact ⟨v 140 6 _ (by decide) (by decide) (by decide), fun k hk => Or.inl ⟨v 108 k _ (by decide) (all108 k hk).1 (all108 k hk).2, Or.inl (v 171 k _ (by decide) (all171 k hk).1 (all171 k hk).2)⟩⟩
