/-! promises: keep, again -/
theorem s_keep_loop {i : Nat} (hi : i < 3) {I : sw_I} {J : sw_J} {Q : Int32 → sw_I → sw_J → Prop} (h : ∀ I2, eqx [173] I I2 → I2 173 = puF (I 173) (I 144) i 33 → Q 1 I2 J) :
    ∀ (d k : Nat) (I2 : sw_I), k + d = 33 → eqx [173] I I2 → I2 173 = puF (I 173) (I 144) i k → wl_X10_keep_38 Q (d + 1) (nI i) (nI k) I2 J := by
  intro d
  induction d with
  | zero =>
    intro k I2 hk h1 h2
    obtain rfl : k = 33 := by omega
    show wb_X10_keep_38 _ Q _ _ I2 J
    unfold wb_X10_keep_38
    rw [sw_if_f (show ¬ nI 33 < (33 : Int32) by decide)]
    exact h I2 h1 h2
  | succ d ih =>
    intro k I2 hk h1 h2
    show wb_X10_keep_38 _ Q _ _ I2 J
    unfold wb_X10_keep_38
    rw [sw_if_t (show nI k < (33 : Int32) from nI_lt (b := 33) (by omega) (by decide)), nI_33, nI_clamp (by omega), nI_clamp (by omega)]
    refine ⟨vp0 (by omega) (by decide), vp0 (by omega) (by decide), fun I3 e3 y hy => ?_⟩
    rw [hy, nI_1]
    refine ih (k + 1) I3 (by omega) (by rw [e3]; exact h1.up (by decide) _ _) ?_
    rw [e3, sw_up_rowf, h1.at (by decide), h2]
    funext j
    unfold puF
    by_cases c : j = 33 * i + k
    · rw [if_pos c, if_pos (by omega), c, Nat.add_sub_cancel_left]
    · rw [if_neg c]
      by_cases c2 : 33 * i ≤ j ∧ j < 33 * i + k
      · rw [if_pos c2, if_pos (by omega)]
      · rw [if_neg c2, if_neg (by omega)]
theorem kp_out {i c : Nat} (hi : i < 3) (hc : c ∉ kpC) : c < 128 + 4 * i ∨ 128 + 4 * i + 4 ≤ c := by
  rcases Nat.lt_or_ge c (128 + 4 * i) with w | w
  · exact Or.inl w
  · rcases Nat.lt_or_ge c (128 + 4 * i + 4) with w2 | w2
    · obtain ⟨d, hd, rfl⟩ : ∃ d, d < 12 ∧ c = 128 + d := ⟨c - 128, by omega, by omega⟩
      exact absurd (kept_in d hd) hc
    · exact Or.inr w2
theorem in3 {x : Int32} {I : sw_I} {J : sw_J} {Q : Int32 → sw_I → sw_J → Prop} (h0 : (¬ ∃ i, i < 3 ∧ x = nI i) → Q 0 I J) (h1 : ∀ i, i < 3 → x = nI i → Q 1 I J) : wp_X10_in x.toInt64 0 2 I J Q := by
  refine s_X10_in (a := 0) (b := 2) rfl rfl (fun c => h0 (fun ⟨i, hi, ei⟩ => ?_)) (fun c1 c2 => ?_)
  · rcases c with w | w
    · rw [ei] at w; exact nI_pos (by omega) w
    · rw [ei] at w; exact nI_nlt (a := 2) (by omega) (by decide) w
  · obtain ⟨i, hi, ei⟩ := ixN (n := 3) (by decide) c1 (fun w => c2 (Int32.lt_of_lt_of_le (show (2 : Int32) < nI 3 by decide) w))
    exact h1 i hi ei
theorem if3 {x : Int32} {A B : Prop} (h0 : (¬ ∃ i, i < 3 ∧ x = nI i) → A) (h1 : ∀ i, i < 3 → x = nI i → B) : sw_if (x < 0) A (sw_if (x < (3 : Int32)) B A) := by
  rcases pk_ix x (n := 3) (by decide) with c | c | ⟨i, hi, ei⟩
  · rw [sw_if_t c]; exact h0 (fun ⟨i, hi, ei⟩ => by rw [ei] at c; exact nI_pos (by omega) c)
  · have c0 : ¬ x < 0 := fun w => Int32.lt_irrefl (Int32.lt_of_lt_of_le w (Int32.le_trans (show (0 : Int32) ≤ nI 3 by decide) c))
    have c3 : ¬ x < (3 : Int32) := fun w => Int32.lt_irrefl (Int32.lt_of_lt_of_le w c)
    rw [sw_if_f c0, sw_if_f c3]
    exact h0 (fun ⟨i, hi, ei⟩ => by rw [ei] at c3; exact c3 (nI_lt (b := 3) hi (by decide)))
  · rw [sw_if_f (show ¬ x < 0 by rw [ei]; exact nI_pos (by omega)), sw_if_t (show x < (3 : Int32) by rw [ei]; exact nI_lt (b := 3) hi (by decide))]
    exact h1 i hi ei
theorem p_keep {c : Nat} {x1 : Int32} {I : sw_I} {J : sw_J} {Q : Int32 → Int32 → sw_I → sw_J → Prop} (h : wW c I J) (hQ : ∀ v I2 J2, wW c I2 J2 → I2 140 0 = 0 → Q v v I2 J2) :
    wp_X9_keep x1 I J (fun r I1 J1 => wp_X10_keep x1 I1 J1 (fun r2 I2 J2 => Q r r2 I2 J2)) := by
  obtain ⟨n, fl, m, q, p, r, t, s, z, hw⟩ := h
  obtain ⟨h0, h1, h2, h3, h4, h5, h6, h7, h8⟩ := id hw
  have hn := h1.2.2.1
  unfold wp_X9_keep
  refine if3 (fun hno => ?_) (fun i hi ei => ?_)
  · intro I2 e2
    exact in3 (fun _ => by rw [sw_if_t rfl]; exact hQ _ I2 J (th_of hw e2).1 (th_of hw e2).2) (fun i hi ei => absurd ⟨i, hi, ei⟩ hno)
  · have ec : x1.toNatClampNeg = i := by rw [ei, nI_clamp (by omega)]
    have vp : vp_in x1 3 := by rw [ei]; exact vp0 hi (by decide)
    rw [ec]
    refine ⟨vp, s_X3_copy (by omega) (fun I1 k1 => ⟨vp, fun I2 e2 => ?_⟩)⟩
    intro I3 e3
    refine in3 (fun hno => absurd ⟨i, hi, ei⟩ hno) (fun _ _ _ => ?_)
    rw [sw_if_f (by decide), ec]
    refine ⟨vp, fun I4 e4 => ⟨vp, fun I5 e5 => ?_⟩⟩
    rw [ei]
    refine ⟨34, s_keep_loop hi (fun I6 x6 r6 => ?_) 33 0 I5 (by omega) eqx.rf (by funext j; unfold puF; rw [if_neg (by omega)])⟩
    have q1 : eqm kpC [0] I I1 := ⟨fun c hc _ => k1.1 c (kp_out hi hc), fun k _ => by rw [k1.1 140 (by omega)]⟩
    have q5 : eqm kpC [0] I I5 := by
      rw [e5, e4, e3, e2]; exact ((((q1.upC (by decide) (by decide) _ _).upF (by decide) _).upC (by decide) (by decide) _ _).upC (by decide) (by decide) _ _)
    have e : eqm kpC [0] I I6 := q5.tr (x6.eqm (by decide) (by decide))
    have g6 : ∀ c, 128 ≤ c → c < 128 + 12 → I6 c = I1 c := fun c c1 c2 => by
      rw [x6 c (by simp; omega), e5, sw_up_row _ _ _ (by omega), e4, sw_up_row _ _ _ (by omega), e3, sw_up_row _ _ _ (by omega), e2, sw_up_row _ _ _ (by omega)]
    have xk : I6 108 = fun j => if j = i then 1 else I 108 j := by
      rw [x6 _ (by decide), e5, sw_up_row _ _ _ (by decide), e4, sw_up_row _ _ _ (by decide), e3, sw_up_row _ _ _ (by decide), e2, sw_up_rowf, k1.1 _ (by omega)]
    have mk : I6 171 = fun j => if j = i then 1 else I 171 j := by
      rw [x6 _ (by decide), e5, sw_up_row _ _ _ (by decide), e4, sw_up_rowf, e3, sw_up_row _ _ _ (by decide), e2, sw_up_row _ _ _ (by decide), k1.1 _ (by omega)]
    have cg : I4 140 6 = nI z := by
      rw [e4, sw_up_cell _ _ _ _ (by decide), e3, sw_up_slot _ _ _ _ (by decide), e2, sw_up_cell _ _ _ _ (by decide), k1.1 _ (by omega)]; exact h8.1
    have kc : I6 172 = fun j => if j = i then nI z else I 172 j := by
      rw [x6 _ (by decide), e5, sw_up_rowf, cg, e4, sw_up_row _ _ _ (by decide), e3, sw_up_row _ _ _ (by decide), e2, sw_up_row _ _ _ (by decide), k1.1 _ (by omega)]
    have kr : I6 173 = puF (I 173) (I 144) i 33 := by rw [r6, q5.1 144 (by decide) (by decide)]; congr 1; rw [e5, sw_up_row _ _ _ (by decide), e4, sw_up_row _ _ _ (by decide), e3, sw_up_row _ _ _ (by decide), e2, sw_up_row _ _ _ (by decide), k1.1 _ (by omega)]
    have RB : rbR c I6 := by
      refine rb_mk (d := 0) h0.2 (by omega) ⟨13, mv_now, 0, by omega, ?_⟩ (fun k hk => ⟨_, mv_ring k hk, ?_⟩) (fun k hk => ?_) ?_ ?_
      · rw [e.1 _ (by decide) (by decide)]; show _ = _ + (0 : Int32); simp
      · rw [e.1 _ (by simp; omega) (by omega)]
      · by_cases ck : k = i
        · exact ⟨13, mv_now, by rw [ck, g6 _ (by omega) (by omega)]; exact k1.2.2.2.2⟩
        · exact ⟨_, mv_kept k hk, by rw [g6 _ (by omega) (by omega), k1.1 _ (by omega)]⟩
      · rw [e.1 _ (by decide) (by decide)]
      · rw [e.1 _ (by decide) (by decide)]
    refine hQ 1 I6 J ⟨n, fl, m, q, p, r, t, s, z, ⟨h0.1, RB⟩, hs_of e (by decide) (by decide) h1, l_of e (by decide) (by decide) h2, now_of e (by decide) hn h3, past_of e (by decide) (by decide) hn h4, rw_of e (by decide) (by decide) h5, tx_of e (by decide) (by decide) h6, sn_of e (by decide) (by decide) h7, ⟨by rw [e.2 _ (by decide)]; exact h8.1, fun k hk => ?_⟩⟩ ?_
    · rw [xk, mk, kc, kr]
      by_cases c : k = i
      · subst c
        simp only [if_true]
        refine Or.inr ⟨trivial, trivial, trivial, momR_cong (fun c c1 c2 => g6 c (by omega) (by omega)) (fun j hj => ?_) hn (momR_copy k1 hn h3)⟩
        show puF _ _ k 33 (33 * k + j) = _
        unfold puF; rw [if_pos (by omega), Nat.add_sub_cancel_left]
      · simp only [if_neg c]
        rcases h8.2 k hk with w | ⟨w1, w2, w3, w4⟩
        · exact Or.inl w
        · refine Or.inr ⟨w1, w2, w3, momR_cong (fun c c1 c2 => by rw [g6 c (by omega) (by omega)]; exact k1.1 c (by omega)) (fun j hj => ?_) hn w4⟩
          show puF _ _ i 33 (33 * k + j) = _
          unfold puF; rw [if_neg (by omega)]
    · rw [x6 _ (by decide), e5, sw_up_cell _ _ _ _ (by decide), e4, sw_up_cell _ _ _ _ (by decide), e3, sw_up_same]
theorem s_again_loop {i : Nat} (hi : i < 3) {I : sw_I} {J : sw_J} {Q : Int32 → sw_I → sw_J → Prop} (h : ∀ I2, eqx [144] I I2 → I2 144 = unF (I 144) (I 173) i 33 → Q 1 (sw_up I2 140 32 0) J) :
    ∀ (d k : Nat) (I2 : sw_I), k + d = 33 → eqx [144] I I2 → I2 144 = unF (I 144) (I 173) i k → wl_X10_again_43 Q (d + 1) (nI i) (nI k) I2 J := by
  intro d
  induction d with
  | zero =>
    intro k I2 hk h1 h2
    obtain rfl : k = 33 := by omega
    show wb_X10_again_43 _ Q _ _ I2 J
    unfold wb_X10_again_43
    rw [sw_if_f (show ¬ nI 33 < (33 : Int32) by decide)]
    intro I3 e3
    rw [e3]
    exact h I2 h1 h2
  | succ d ih =>
    intro k I2 hk h1 h2
    show wb_X10_again_43 _ Q _ _ I2 J
    unfold wb_X10_again_43
    rw [sw_if_t (show nI k < (33 : Int32) from nI_lt (b := 33) (by omega) (by decide)), nI_33, nI_clamp (by omega), nI_clamp (by omega)]
    refine ⟨vp0 (by omega) (by decide), vp0 (by omega) (by decide), fun I3 e3 y hy => ?_⟩
    rw [hy, nI_1]
    refine ih (k + 1) I3 (by omega) (by rw [e3]; exact h1.up (by decide) _ _) ?_
    rw [e3, sw_up_rowf, h1.at (by decide), h2]
    funext j
    unfold unF
    by_cases c : j = k
    · rw [if_pos c, if_pos (by omega), c]
    · rw [if_neg c]
      by_cases c2 : j < k
      · rw [if_pos c2, if_pos (by omega)]
      · rw [if_neg c2, if_neg (by omega)]
theorem p_again {c : Nat} (hc : c < 2 ^ 31) {x1 : Int32} {I : sw_I} {J : sw_J} {Q : Int32 → Int32 → sw_I → sw_J → Prop} (h : wW c I J) (hQ : ∀ v I2 J2, wW c I2 J2 → I2 140 0 = 0 → Q v v I2 J2) :
    wp_X9_again x1 I J (fun r I1 J1 => wp_X10_again x1 I1 J1 (fun r2 I2 J2 => Q r r2 I2 J2)) := by
  obtain ⟨n, fl, m, q, p, r, t, s, z, hw⟩ := h
  obtain ⟨h0, h1, h2, h3, h4, h5, h6, h7, h8⟩ := id hw
  have hn := h1.2.2.1
  obtain ⟨p1, p2, p3, p4, p5, p6⟩ := id h4
  have h00 := h0.1
  unfold wp_X9_again
  refine if3 (fun hno => ?_) (fun i hi ei => ?_)
  · intro I2 e2
    exact in3 (fun _ => by rw [sw_if_t rfl]; exact hQ _ I2 J (th_of hw e2).1 (th_of hw e2).2) (fun i hi ei => absurd ⟨i, hi, ei⟩ hno)
  · have ec : x1.toNatClampNeg = i := by rw [ei, nI_clamp (by omega)]
    have vp : vp_in x1 3 := by rw [ei]; exact vp0 hi (by decide)
    rw [ec]
    rcases h8.2 i hi with ⟨a0, b0⟩ | ⟨a1, b1, d1, M⟩
    · refine ⟨vp, ?_⟩
      rw [sw_if_t a0]
      intro I2 e2
      have fin : Q 0 0 I2 J := hQ _ I2 J (th_of hw e2).1 (th_of hw e2).2
      refine in3 (fun hno => absurd ⟨i, hi, ei⟩ hno) (fun _ _ _ => ?_)
      rw [sw_if_f (by decide), ec]
      refine ⟨vp, ?_⟩
      have ek : I2 171 i = I 171 i := by rw [e2, sw_up_cell _ _ _ _ (by decide)]
      have ekc : I2 172 i = I 172 i := by rw [e2, sw_up_cell _ _ _ _ (by decide)]
      have ech : I2 140 6 = nI z := by rw [e2, sw_up_slot _ _ _ _ (by decide)]; exact h8.1
      rw [ek, ekc, ech]
      by_cases ck : I 171 i = 0
      · rw [sw_if_t ck]; exact fin
      · rw [sw_if_f ck]
        refine ⟨vp, ?_⟩
        rcases b0 with w | ⟨y, hy, ey⟩
        · exact absurd w ck
        · rw [sw_if_f (show ¬ I 172 i = nI z by rw [ey]; exact fun w => by have := (nI_eq (by omega) (by omega)).mp w; omega)]
          exact fin
    · refine ⟨vp, ?_⟩
      rw [sw_if_f (show ¬ I 108 i = 0 by rw [a1]; decide)]
      refine ⟨vp, s_X3_copy (by omega) (fun I1 k1 => fun I2 e2 => ?_)⟩
      intro I3 e3
      refine in3 (fun hno => absurd ⟨i, hi, ei⟩ hno) (fun _ _ _ => ?_)
      rw [sw_if_f (by decide), ec]
      refine ⟨vp, ?_⟩
      have g3 : ∀ c, c ≠ 140 → c ≠ 21 → (c < 13 ∨ 13 + 4 ≤ c) → I3 c = I c := fun c c1 c2 c3 => by rw [e3, sw_up_row _ _ _ c1, e2, sw_up_row _ _ _ c2, k1.1 c c3]
      have m3 : ∀ k, k ≠ 0 → I3 140 k = I 140 k := fun k hk => by rw [e3, sw_up_slot _ _ _ _ hk, e2, sw_up_cell _ _ _ _ (by decide), k1.1 _ (by decide)]
      rw [g3 171 (by decide) (by decide) (by decide), sw_if_f (show ¬ I 171 i = 0 by rw [b1]; decide)]
      refine ⟨vp, ?_⟩
      rw [g3 172 (by decide) (by decide) (by decide), m3 _ (by decide), sw_if_t (by rw [d1]; exact h8.1.symm), ei]
      refine ⟨34, s_again_loop hi (fun I4 x4 r4 => ?_) 33 0 I3 (by omega) eqx.rf (by funext j; unfold unF; rw [if_neg (by omega)])⟩
      generalize e5 : sw_up I4 140 32 0 = I5
      have g5 : ∀ c, c ≠ 140 → c ≠ 144 → I5 c = I3 c := fun c c1 c2 => by rw [← e5, sw_up_row _ _ _ c1, x4 c (by simpa using c2)]
      have m5 : ∀ k, k ≠ 32 → I5 140 k = I3 140 k := fun k hk => by rw [← e5, sw_up_slot _ _ _ _ hk, x4 _ (by decide)]
      have e : sm stC stS I I5 := ⟨fun c hc => by
        have w1 : c ≠ 140 ∧ c ≠ 144 ∧ (c < 13 ∨ 13 + 4 ≤ c) ∧ c ≠ 21 := by revert c; decide +kernel
        rw [g5 c w1.1 w1.2.1, g3 c w1.1 w1.2.2.2 w1.2.2.1], fun k hk => by
        rw [m5 k (by revert k; decide), m3 k (by revert k; decide)]⟩
      have M5 : momR I5 13 n fl (I5 144) := by
        refine momR_cong (fun c c1 c2 => ?_) (fun j hj => ?_) hn (momR_copy k1 hn M)
        · rw [g5 c (by omega) (by omega), e3, sw_up_row _ _ _ (by omega), e2, sw_up_row _ _ _ (by omega)]
        · rw [← e5, sw_up_row _ _ _ (by decide), r4]; unfold unF
          rw [if_pos hj, g3 173 (by decide) (by decide) (by decide)]
      have P5 : pastR I5 n fl q 0 := by
        refine ⟨p1, by omega, ?_, ?_, ?_, fun k hk => by omega⟩
        · rw [g5 _ (by decide) (by decide), e3, sw_up_cell _ _ _ _ (by decide), e2, sw_up_slot _ _ _ _ (by decide), k1.1 _ (by decide)]; exact p3
        · rw [g5 _ (by decide) (by decide), e3, sw_up_cell _ _ _ _ (by decide), e2, sw_up_same]; rfl
        · rw [← e5, sw_up_same]; rfl
      have R5 : rwR I5 J r := by
        unfold rwR
        rw [g5 0 (by decide) (by decide), g3 0 (by decide) (by decide) (by decide), m5 _ (by decide), m3 _ (by decide)]; exact h5
      have RB : rbR c I5 := by
        refine rb_mk (d := 0) h0.2 (by omega) ⟨_, mv_kept i hi, 0, by omega, ?_⟩ (fun k hk => ⟨_, mv_ring k hk, ?_⟩) (fun k hk => ⟨_, mv_kept k hk, ?_⟩) ?_ ?_
        · rw [g5 _ (by decide) (by decide), e3, sw_up_cell _ _ _ _ (by decide), e2, sw_up_cell _ _ _ _ (by decide), k1.2.2.2.2]; show _ = _ + (0 : Int32); simp
        · rw [g5 _ (by omega) (by omega), g3 _ (by omega) (by omega) (by omega)]
        · rw [g5 _ (by omega) (by omega), g3 _ (by omega) (by omega) (by omega)]
        · rw [g5 _ (by decide) (by decide), g3 _ (by decide) (by decide) (by decide)]
        · rw [g5 _ (by decide) (by decide), g3 _ (by decide) (by decide) (by decide)]
      exact hQ 1 I5 J ⟨n, fl, m, q, 0, r, t, s, z, wR_moved hw e M5 P5 R5 (Nat.le_refl _) RB⟩ (by rw [m5 _ (by decide), e3, sw_up_same])
