/-! promise: floors -/
theorem s_forget_loop {I : sw_I} {J : sw_J} {Q : sw_I → sw_J → Prop} (h : ∀ I2, eqx [108] I I2 → (∀ j, j < 3 → I2 108 j = 0) → Q I2 J) :
    ∀ (d k : Nat) (I2 : sw_I), k + d = 3 → eqx [108] I I2 → (∀ j, j < k → I2 108 j = 0) → wl_X9_forgetWhatWas_10 Q (d + 1) (nI k) I2 J := by
  intro d
  induction d with
  | zero =>
    intro k I2 hk h1 h2
    obtain rfl : k = 3 := by omega
    show wb_X9_forgetWhatWas_10 _ Q _ I2 J
    unfold wb_X9_forgetWhatWas_10
    rw [sw_if_f (show ¬ nI 3 < (3 : Int32) by decide)]
    exact h I2 h1 h2
  | succ d ih =>
    intro k I2 hk h1 h2
    show wb_X9_forgetWhatWas_10 _ Q _ I2 J
    unfold wb_X9_forgetWhatWas_10
    rw [sw_if_t (show nI k < (3 : Int32) from nI_lt (b := 3) (by omega) (by decide)), nI_clamp (by omega)]
    refine ⟨vp0 (by omega) (by decide), fun I3 e3 y hy => ?_⟩
    rw [hy, nI_1]
    refine ih (k + 1) I3 (by omega) (by rw [e3]; exact h1.up (by decide) _ _) (fun j hj => ?_)
    rw [e3, sw_up_rowf]
    show (if j = k then (0 : Int32) else I2 108 j) = 0
    by_cases c : j = k
    · rw [if_pos c]
    · rw [if_neg c]; exact h2 j (by omega)
theorem s_X9_forgetWhatWas {I : sw_I} {J : sw_J} {Q : sw_I → sw_J → Prop} (h : ∀ I2, eqx [21, 108] I I2 → (∀ j, j < 3 → I2 108 j = 0) → I2 21 2 = 0 → I2 21 1 = I 21 1 → Q I2 J) : wp_X9_forgetWhatWas I J Q := by
  intro I1 e1
  refine ⟨4, s_forget_loop (I := I1) (fun I2 x2 k2 => ?_) 3 0 I1 (by omega) eqx.rf (fun j hj => by omega)⟩
  refine h I2 ?_ k2 ?_ ?_
  · have q1 : eqx [21, 108] I I1 := by rw [e1]; exact eqx.rf.up (by decide) _ _
    exact q1.tr (x2.mono (by decide))
  · rw [x2.at (by decide), e1, sw_up_same]
  · rw [x2.at (by decide), e1, sw_up_slot _ _ _ _ (by decide)]
theorem s_X3_clear {a : Nat} {I : sw_I} {J : sw_J} {Q : sw_I → sw_J → Prop} (h : ∀ I2, (∀ c, (c < a ∨ a + 4 ≤ c) → I2 c = I c) → (∀ j, j < 10 → I2 (a + 1) j = -1 ∧ I2 (a + 2) j = -1 ∧ I2 (a + 3) j = 0) → I2 a 3 = 0 → I2 a 4 = 0 → I2 a 5 = 0 → Q I2 J) : wp_X3_clear a I J Q := by
  unfold wp_X3_clear
  refine s_J7_fill (by decide) (fun I1 x1 v1 => s_J7_fill (by decide) (fun I2 x2 v2 => s_J7_fill (by decide) (fun I3 x3 v3 => ?_)))
  intro I4 e4 I5 e5 I6 e6
  have g : ∀ c, c ≠ a → I6 c = I3 c := fun c hc => by rw [e6, sw_up_row _ _ _ hc, e5, sw_up_row _ _ _ hc, e4, sw_up_row _ _ _ hc]
  refine h I6 (fun c hc => ?_) (fun j hj => ⟨?_, ?_, ?_⟩) ?_ ?_ ?_
  · rw [g c (by omega), x3 c (by simp; omega), x2 c (by simp; omega), x1 c (by simp; omega)]
  · rw [g _ (by omega), x3 _ (by simp), x2 _ (by simp)]; exact v1 j hj
  · rw [g _ (by omega), x3 _ (by simp)]; exact v2 j hj
  · rw [g _ (by omega)]; exact v3 j hj
  · rw [e6, sw_up_slot _ _ _ _ (by decide), e5, sw_up_slot _ _ _ _ (by decide), e4, sw_up_same]
  · rw [e6, sw_up_slot _ _ _ _ (by decide), e5, sw_up_same]
  · rw [e6, sw_up_same]
/-- nothing is kept any more -/
theorem kp_drop {I I2 : sw_I} {n fl n2 fl2 z : Nat} (h : kpR I n fl z) (hx : ∀ j, j < 3 → I2 108 j = 0) (hk : I2 171 = I 171) (hc : I2 172 = I 172) (hz : I2 140 6 = nI (z + 1)) : kpR I2 n2 fl2 (z + 1) := by
  refine ⟨hz, fun k hk3 => Or.inl ⟨hx k hk3, ?_⟩⟩
  rw [hk, hc]
  rcases h.2 k hk3 with ⟨-, w | ⟨y, hy, ey⟩⟩ | ⟨-, -, w, -⟩
  · exact Or.inl w
  · exact Or.inr ⟨y, by omega, ey⟩
  · exact Or.inr ⟨z, by omega, w⟩
theorem s_floors_loop {I : sw_I} {J : sw_J} {Q : Int32 → sw_I → sw_J → Prop} (h : ∀ I2, eqx [144] I I2 → (∀ j, j < 33 → I2 144 j = 0) → Q 1 (sw_up (sw_up (sw_up I2 140 32 0) 140 54 0) 140 6 (I 140 6 + 1)) J) :
    ∀ (d k : Nat) (I2 : sw_I), k + d = 33 → eqx [144] I I2 → (∀ j, j < k → I2 144 j = 0) → wl_X10_floors_38 Q (d + 1) (nI k) I2 J := by
  intro d
  induction d with
  | zero =>
    intro k I2 hk h1 h2
    obtain rfl : k = 33 := by omega
    show wb_X10_floors_38 _ Q _ I2 J
    unfold wb_X10_floors_38
    rw [sw_if_f (show ¬ nI 33 < (33 : Int32) by decide)]
    intro I3 e3 I4 e4 I5 e5
    rw [e5, e4, sw_up_slot _ _ _ _ (by decide), e3, sw_up_slot _ _ _ _ (by decide), h1.at (by decide)]
    exact h I2 h1 h2
  | succ d ih =>
    intro k I2 hk h1 h2
    show wb_X10_floors_38 _ Q _ I2 J
    unfold wb_X10_floors_38
    rw [sw_if_t (show nI k < (33 : Int32) from nI_lt (b := 33) (by omega) (by decide)), nI_clamp (by omega)]
    refine ⟨vp0 (by omega) (by decide), fun I3 e3 y hy => ?_⟩
    rw [hy, nI_1]
    refine ih (k + 1) I3 (by omega) (by rw [e3]; exact h1.up (by decide) _ _) (fun j hj => ?_)
    rw [e3, sw_up_rowf]
    show (if j = k then (0 : Int32) else I2 144 j) = 0
    by_cases c : j = k
    · rw [if_pos c]
    · rw [if_neg c]; exact h2 j (by omega)
theorem th_up {c : Nat} {I : sw_I} {J : sw_J} (h : wW c I J) : wW (c + 1) I J := by
  obtain ⟨n, fl, m, q, p, r, t, s, z, h0, h1⟩ := h
  refine ⟨n, fl, m, q, p, r, t, s, z, ⟨by omega, fun a ha => ?_, h0.2.2⟩, h1⟩
  obtain ⟨R, hR, eR⟩ := h0.2.1 a ha
  exact ⟨R, by omega, eR⟩
theorem p_floors {c : Nat} {x1 : Int32} {I : sw_I} {J : sw_J} {Q : Int32 → Int32 → sw_I → sw_J → Prop} (h : wW c I J) (hQ : ∀ v I2 J2, wW (c + 1) I2 J2 → I2 140 0 = 0 → Q v v I2 J2) :
    wp_X9_floors x1 I J (fun r I1 J1 => wp_X10_floors x1 I1 J1 (fun r2 I2 J2 => Q r r2 I2 J2)) := by
  obtain ⟨n, fl, m, q, p, r, t, s, z, hw⟩ := h
  obtain ⟨h0, h1, h2, h3, h4, h5, h6, h7, h8⟩ := id hw
  have hn := h1.2.2.1
  obtain ⟨p1, p2, p3, p4, p5, p6⟩ := id h4
  have no : (x1 < 2 ∨ (9 : Int32) < x1) → wp_X10_floors x1 I J (fun r2 I2 J2 => Q 0 r2 I2 J2) := by
    intro co I2 e2
    refine s_X10_in (a := 2) (b := 9) rfl rfl (fun _ => ?_) (fun c1 c2 => absurd co (fun w => w.elim c1 c2))
    rw [sw_if_t rfl]
    exact hQ _ I2 J (th_up (th_of hw e2).1) (th_of hw e2).2
  unfold wp_X9_floors
  by_cases c1 : x1 < (2 : Int32)
  · rw [sw_if_t c1]; exact no (Or.inl c1)
  rw [sw_if_f c1]
  by_cases c2 : (9 : Int32) < x1
  · rw [sw_if_t c2]; exact no (Or.inr c2)
  rw [sw_if_f c2]
  obtain ⟨f, hf, ef⟩ := ixN (n := 10) (x := x1) (by decide) (fun w => c1 (Int32.lt_of_lt_of_le w (by decide))) (fun w => c2 (Int32.lt_of_lt_of_le (show (9 : Int32) < nI 10 by decide) w))
  have hf2 : 2 ≤ f := by
    rcases Nat.lt_or_ge f 2 with w | w
    · rw [ef] at c1; exact absurd (nI_lt (b := 2) w (by decide)) c1
    · exact w
  intro A1 a1 A2 a2 A3 a3
  refine s_X3_clear (fun I1 x1' k1 n1 l1 r1 => ?_)
  intro I2 e2
  refine s_X9_forgetWhatWas (fun I3 x3 k3 z3 y3 => ?_)
  intro I4 e4
  refine s_X10_in (a := 2) (b := 9) rfl rfl (fun co => absurd co (fun w => w.elim c1 c2)) (fun _ _ => ?_)
  rw [sw_if_f (by decide)]
  intro B1 b1 B2 b2 B3 b3
  refine ⟨34, s_floors_loop (fun I5 x5 r5 => ?_) 33 0 B3 (by omega) eqx.rf (fun j hj => by omega)⟩
  generalize e6 : sw_up (sw_up (sw_up I5 140 32 0) 140 54 0) 140 6 (B3 140 6 + 1) = I6
  -- the class's cells behind it
  have A : ∀ c, c ≠ 3 → A3 c = I c := fun c hc => by rw [a3, sw_up_row _ _ _ hc, a2, sw_up_row _ _ _ hc, a1, sw_up_row _ _ _ hc]
  have g3 : ∀ c, c ≠ 3 → (c < 13 ∨ 13 + 4 ≤ c) → c ≠ 109 → c ≠ 21 → c ≠ 108 → I3 c = I c := fun c c1 c2 c3 c4 c5 => by
    rw [x3 c (by simp [c4, c5]), e2, sw_up_row _ _ _ c3, x1' c c2, A c c1]
  have g6 : ∀ c, c ≠ 140 → c ≠ 144 → I6 c = I3 c := fun c c1 c2 => by
    rw [← e6, sw_up_row _ _ _ c1, sw_up_row _ _ _ c1, sw_up_row _ _ _ c1, x5 c (by simpa using c2), b3, sw_up_row _ _ _ c1, b2, sw_up_row _ _ _ c1, b1, sw_up_row _ _ _ c1, e4, sw_up_row _ _ _ c1]
  have bd : I6 3 = A3 3 := by rw [g6 _ (by decide) (by decide), x3 _ (by decide), e2, sw_up_row _ _ _ (by decide), x1' _ (by decide)]
  have m6 : ∀ k, k ∉ [32, 54, 6] → I6 140 k = B3 140 k := fun k hk => by
    simp only [List.mem_cons, List.not_mem_nil, or_false, not_or] at hk
    rw [← e6, sw_up_slot _ _ _ _ hk.2.2, sw_up_slot _ _ _ _ hk.2.1, sw_up_slot _ _ _ _ hk.1, x5 _ (by decide)]
  have mB : ∀ k, k ∉ [0, 3, 4, 5] → B3 140 k = I 140 k := fun k hk => by
    simp only [List.mem_cons, List.not_mem_nil, or_false, not_or] at hk
    rw [b3, sw_up_slot _ _ _ _ hk.2.2.2, b2, sw_up_slot _ _ _ _ hk.2.2.1, b1, sw_up_slot _ _ _ _ hk.2.1, e4, sw_up_slot _ _ _ _ hk.1, g3 _ (by decide) (by decide) (by decide) (by decide) (by decide)]
  have G : ∀ c, c ∈ lC ++ txC → I6 c = I c := fun c hc => by
    have w1 : c ≠ 140 ∧ c ≠ 144 ∧ c ≠ 3 ∧ (c < 13 ∨ 13 + 4 ≤ c) ∧ c ≠ 109 ∧ c ≠ 21 ∧ c ≠ 108 := by revert c; decide +kernel
    rw [g6 c w1.1 w1.2.1, g3 c w1.2.2.1 w1.2.2.2.1 w1.2.2.2.2.1 w1.2.2.2.2.2.1 w1.2.2.2.2.2.2]
  have dg : I6 140 5 = -1 := by rw [m6 _ (by decide), b3, sw_up_same]
  have N6 : ∀ c, 13 ≤ c → c < 13 + 4 → I6 c = I1 c := fun c c1 c2 => by rw [g6 c (by omega) (by omega), x3 c (by simp; omega), e2, sw_up_row _ _ _ (by omega)]
  have mn : ∀ j, j < 33 → I6 144 j = 0 := fun j hj => by
    rw [← e6, sw_up_row _ _ _ (by decide), sw_up_row _ _ _ (by decide), sw_up_row _ _ _ (by decide)]; exact r5 j hj
  have RB : rbR (c + 1) I6 := by
    refine ⟨fun a ha => ?_, ?_, ?_⟩
    · rcases mv_cases a ha with rfl | ⟨i, hi, rfl⟩ | ⟨i, hi, rfl⟩
      · exact ⟨0, by omega, by rw [N6 _ (by decide) (by decide), r1]; rfl⟩
      · obtain ⟨R, hR, eR⟩ := h0.2.1 _ (mv_ring i hi)
        exact ⟨R, by omega, by rw [g6 _ (by omega) (by omega), g3 _ (by omega) (by omega) (by omega) (by omega) (by omega)]; exact eR⟩
      · obtain ⟨R, hR, eR⟩ := h0.2.1 _ (mv_kept i hi)
        exact ⟨R, by omega, by rw [g6 _ (by omega) (by omega), g3 _ (by omega) (by omega) (by omega) (by omega) (by omega)]; exact eR⟩
    · rw [g6 _ (by decide) (by decide), g3 _ (by decide) (by decide) (by decide) (by decide) (by decide)]; exact h0.2.2.1
    · rw [g6 _ (by decide) (by decide), g3 _ (by decide) (by decide) (by decide) (by decide) (by decide)]; exact h0.2.2.2
  refine hQ 1 I6 J ⟨0, f, m, q, 0, r, t, 0, z + 1, ⟨by omega, RB⟩, ⟨hf2, by omega, by omega, ?_, ?_, ?_, ?_, ?_, ?_, fun i hi => by omega, fun i hi => by omega⟩, lR_cong h2 ⟨fun c hc => G c (List.mem_append_left _ hc), fun k hk => ?_⟩, ?_, ⟨p1, by omega, ?_, ?_, ?_, fun k hk => by omega⟩, ?_, txR_sm h6 ⟨fun c hc => G c (List.mem_append_right _ hc), fun k hk => ?_⟩, ⟨by omega, ?_, ?_, fun i hi => by omega⟩, kp_drop h8 ?_ ?_ ?_ ?_⟩ ?_
  · rw [bd, a3, sw_up_slot _ _ _ _ (by decide), a2, sw_up_slot _ _ _ _ (by decide), a1, sw_up_same, ef]
  · rw [m6 _ (by decide), b3, sw_up_slot _ _ _ _ (by decide), b2, sw_up_slot _ _ _ _ (by decide), b1, sw_up_same, ef]
  · rw [bd, a3, sw_up_same]; rfl
  · rw [m6 _ (by decide), b3, sw_up_slot _ _ _ _ (by decide), b2, sw_up_same]; rfl
  · rw [dg, bd, a3, sw_up_slot _ _ _ _ (by decide), a2, sw_up_same]
  · exact Or.inl dg
  · rw [m6 k (by revert k; decide), mB k (by revert k; decide)]
  · unfold momR
    rw [N6 13 (by decide) (by decide), N6 (13 + 1) (by decide) (by decide), N6 (13 + 2) (by decide) (by decide), N6 (13 + 3) (by decide) (by decide), n1, l1, r1]
    refine ⟨⟨fun i hi => by omega, (mn 30 (by decide)).symm, (mn 31 (by decide)).symm, (mn 32 (by decide)).symm⟩, fun i hi => by omega, fun i _ hi => (k1 i hi).1, ⟨0, by omega, rfl⟩, fun i hi hb => ?_⟩
    rw [inB_0 hi] at hb; exact absurd hb (by decide)
  · rw [g6 _ (by decide) (by decide), y3, e2, sw_up_cell _ _ _ _ (by decide), x1' _ (by decide), A _ (by decide)]; exact p3
  · rw [g6 _ (by decide) (by decide), z3]; rfl
  · rw [← e6, sw_up_slot _ _ _ _ (by decide), sw_up_slot _ _ _ _ (by decide), sw_up_same]; rfl
  · unfold rwR
    rw [g6 0 (by decide) (by decide), g3 0 (by decide) (by decide) (by decide) (by decide) (by decide), m6 _ (by decide), mB _ (by decide)]; exact h5
  · rw [m6 k (by revert k; decide), mB k (by revert k; decide)]
  · rw [g6 _ (by decide) (by decide), x3 _ (by decide), e2, sw_up_same]; rfl
  · rw [← e6, sw_up_slot _ _ _ _ (by decide), sw_up_same]; rfl
  · intro j hj; rw [g6 _ (by decide) (by decide)]; exact k3 j hj
  · rw [g6 _ (by decide) (by decide), g3 _ (by decide) (by decide) (by decide) (by decide) (by decide)]
  · rw [g6 _ (by decide) (by decide), g3 _ (by decide) (by decide) (by decide) (by decide) (by decide)]
  · rw [← e6, sw_up_same, mB _ (by decide), h8.1, nI_1]
  · rw [m6 _ (by decide), b3, sw_up_slot _ _ _ _ (by decide), b2, sw_up_slot _ _ _ _ (by decide), b1, sw_up_slot _ _ _ _ (by decide), e4, sw_up_same]
