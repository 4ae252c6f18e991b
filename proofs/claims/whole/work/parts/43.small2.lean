/-! small promises: undo, count, end -/
theorem th_of {c : Nat} {I I2 : sw_I} {J : sw_J} {n fl m q p r t s z : Nat} (hw : wR c I J n fl m q p r t s z) (e2 : I2 = sw_up I 140 0 0) : wW c I2 J ∧ I2 140 0 = 0 := by
  have e : eqm [] [0] I I2 := by rw [e2]; exact eqm.rf.upF (by decide) _
  exact ⟨⟨n, fl, m, q, p, r, t, s, z, wR_scr hw (e.mono (by decide) (by decide)) rfl rfl⟩, by rw [e2, sw_up_same]⟩
theorem p_undo {c : Nat} {I : sw_I} {J : sw_J} {Q : Int32 → Int32 → sw_I → sw_J → Prop} (h : wW c I J) (hQ : ∀ v I2 J2, wW c I2 J2 → I2 140 0 = 0 → Q v v I2 J2) :
    wp_X9_undo  I J (fun r I1 J1 => wp_X10_undo  I1 J1 (fun r2 I2 J2 => Q r r2 I2 J2)) := by
  obtain ⟨n, fl, m, q, p, r, t, s, z, hw⟩ := h
  obtain ⟨h0, h1, h2, h3, h4, h5, h6, h7, h8⟩ := id hw
  have hn := h1.2.2.1
  obtain ⟨p1, p2, p3, p4, p5, p6⟩ := id h4
  unfold wp_X9_undo
  refine s_X4_bringBack (q := q) (p := p) (by omega) p1 p2 p3 p4 (fun c0 => ?_) (fun cp I1 I2 x1 n1 z1 k2 => ?_)
  · rw [sw_if_t rfl]
    exact s_X10_undo p2 p5 (fun _ => hQ _ _ J (th_of hw rfl).1 (th_of hw rfl).2) (fun w => by omega)
  · rw [sw_if_f (by decide)]
    have f1 : ∀ c, c ≠ 21 → I1 c = I c := fun c hc => x1 c (by simpa using hc)
    have f2 : ∀ c, c ≠ 21 → (c < 13 ∨ 13 + 4 ≤ c) → I2 c = I c := fun c hc h => by rw [k2.1 c h, f1 c hc]
    have e2m : I2 140 = I 140 := f2 _ (by decide) (by decide)
    refine s_X10_undo p2 (by rw [e2m]; exact p5) (fun w => by omega) (fun _ I3 m3 u3 t3 v3 => ?_)
    have v : I2 21 2 = nI (p - 1) := by rw [k2.1 _ (by decide)]; exact z1
    rw [v]
    have B := pastR_back (I2 := I3) hn h4 cp (fun c c1 c2 => by rw [m3.1 c (by simp; omega) (by omega), f2 c (by omega) (by omega)]) (by rw [m3.1 _ (by decide) (by decide), k2.1 _ (by decide)]; exact n1) (by rw [m3.1 _ (by decide) (by decide), k2.1 _ (by decide)]; exact z1) v3 (by rw [m3.1 _ (by decide) (by decide), f2 _ (by decide) (by decide)])
    have M1 : momR I1 (23 + 4 * ((q + 20) % 21)) n fl (fun j => I 155 (33 * (p - 1) + j)) := momR_cong (fun c c1 c2 => f1 c (by omega)) (fun _ _ => rfl) hn B.2
    have M2 := momR_copy k2 hn M1
    have M3 : momR I3 13 n fl (I3 144) := momR_cong (fun c c1 c2 => m3.1 c (by simp; omega) (by omega)) (fun j hj => by
      rw [u3]; unfold unF; rw [if_pos hj, f2 155 (by decide) (by decide)]) hn M2
    have e : sm stC stS I I3 := ⟨fun c hc => by
      have w1 : c ≠ 140 ∧ c ≠ 144 ∧ (c < 13 ∨ 13 + 4 ≤ c) ∧ c ≠ 21 := by revert c; decide +kernel
      rw [m3.1 c (by simpa using w1.2.1) w1.1, f2 c w1.2.2.2 w1.2.2.1], fun k hk => by
      rw [m3.2 k (by revert k; decide), e2m]⟩
    have R : rwR I3 J r := by
      unfold rwR
      rw [m3.1 0 (by decide) (by decide), f2 0 (by decide) (by decide), m3.2 1 (by decide), e2m]; exact h5
    have RB : rbR c I3 := by
      refine rb_mk (d := 0) h0.2 (by omega) ⟨_, mv_ring ((q + 20) % 21) (by omega), 0, by omega, ?_⟩ (fun i hi => ⟨_, mv_ring i hi, ?_⟩) (fun i hi => ⟨_, mv_kept i hi, ?_⟩) ?_ ?_
      · rw [m3.1 _ (by decide) (by decide), k2.2.2.2.2, f1 _ (by omega)]; show _ = _ + (0 : Int32); simp
      · rw [m3.1 _ (by simp; omega) (by omega), f2 _ (by omega) (by omega)]
      · rw [m3.1 _ (by simp; omega) (by omega), f2 _ (by omega) (by omega)]
      · rw [m3.1 _ (by decide) (by decide), f2 _ (by decide) (by decide)]
      · rw [m3.1 _ (by decide) (by decide), f2 _ (by decide) (by decide)]
    exact hQ _ I3 J ⟨n, fl, m, _, _, r, t, s, z, wR_moved hw e M3 B.1 R (Nat.le_refl _) RB⟩ t3
theorem ev_eq : ∀ n, n ≤ 10 → ((1 : Int32) <<< (nI n &&& 31)) - 1 = nI (2 ^ n - 1) := by decide +kernel
theorem ev_bit : ∀ n, n ≤ 10 → ∀ k, k < 32 → inB (((1 : Int32) <<< (nI n &&& 31)) - 1) k = decide (k < n) := by decide +kernel
/-- who is on the lift's floor, of both -/
theorem on_rel {pl wi rd row : Nat → Int32} {ins lift rides : Int32} {n fl : Nat} (hn : n ≤ 10) (hfl : fl ≤ 9) (h : relF pl wi rd ins lift rides row n fl) (v : valF pl wi ins lift n fl) : bs (fun i => decide (pl i = lift)) 10 = bs (fun i => decide (row i = row 31)) n := by
  obtain ⟨l, hl, el⟩ := v.2.2.1
  refine inB_ext (fun k hk => ?_)
  rw [inB_bs _ 10 (by decide) k hk, inB_bs _ n (by omega) k hk, ← h.2.2.1]
  by_cases c : k < n
  · rw [decide_eq_true (show k < 10 by omega), decide_eq_true c, el, plR_at (h.1 k c).1 (by omega)]
  · rw [decide_eq_false c, Bool.false_and]
    by_cases c2 : k < 10
    · rw [v.2.1 k (by omega) c2, el, decide_eq_false (p := (-1 : Int32) = nI l) (fun w => nem1 (by omega) w), Bool.and_false]
    · rw [decide_eq_false c2, Bool.false_and]
/-- who is at home, of both -/
theorem home_rel {pl wi rd row : Nat → Int32} {ins lift rides : Int32} {n fl : Nat} (hn : n ≤ 10) (hfl : fl ≤ 9) (h : relF pl wi rd ins lift rides row n fl) : bs (fun i => decide (pl i = -1)) 10 &&& (((1 : Int32) <<< (nI n &&& 31)) - 1) = bs (fun i => decide (row i = 9)) n := by
  refine inB_ext (fun k hk => ?_)
  rw [inB_and _ _ hk, inB_bs _ 10 (by decide) k hk, inB_bs _ n (by omega) k hk, ev_bit n hn k hk]
  by_cases c : k < n
  · rw [decide_eq_true (show k < 10 by omega), decide_eq_true c, Bool.and_true, Bool.true_and, Bool.true_and]
    rcases (h.1 k c).1 with ⟨q1, q2⟩ | ⟨q1, j, hj, q2⟩
    · rw [q1, q2]; rfl
    · have w1 : ¬ pl k = -1 := by rw [q2]; exact fun w => nem1 (by omega) w.symm
      have w2 : ¬ row k = 9 := by rw [← q1, q2]; exact fun w => ne9 (by omega) w.symm
      rw [decide_eq_false w1, decide_eq_false w2]
  · rw [decide_eq_false c, Bool.and_false, Bool.false_and]
theorem p_count {c : Nat} {x1 : Int32} {I : sw_I} {J : sw_J} {Q : Int32 → Int32 → sw_I → sw_J → Prop} (h : wW c I J) (hQ : ∀ v I2 J2, wW c I2 J2 → I2 140 0 = 0 → Q v v I2 J2) :
    wp_X9_count x1 I J (fun r I1 J1 => wp_X10_count x1 I1 J1 (fun r2 I2 J2 => Q r r2 I2 J2)) := by
  obtain ⟨n, fl, m, q, p, r, t, s, z, hw⟩ := h
  obtain ⟨h0, h1, h2, h3, h4, h5, h6, h7, h8⟩ := id hw
  have hn := h1.2.2.1
  have fin : ∀ (v v2 : Int32) I2, I2 = sw_up I 140 0 0 → v = v2 → Q v v2 I2 J := fun v v2 I2 e2 ev => by rw [ev]; exact hQ _ I2 J (th_of hw e2).1 (th_of hw e2).2
  have em : ∀ I2, I2 = sw_up I 140 0 0 → eqm [] [0] I I2 := fun I2 e2 => by rw [e2]; exact eqm.rf.upF (by decide) _
  unfold wp_X9_count
  by_cases c0 : x1 = 0
  · rw [sw_if_t c0]
    intro I2 e2
    rw [sw_if_t c0]
    exact fin _ _ I2 e2 (by rw [(em I2 e2).2 _ (by decide)]; exact h1.2.2.2.1.trans h1.2.2.2.2.1.symm)
  rw [sw_if_f c0]
  by_cases c1 : x1 = 1
  · rw [sw_if_t c1]
    intro I2 e2
    rw [sw_if_f c0, sw_if_t c1]
    exact fin _ _ I2 e2 (by rw [(em I2 e2).2 _ (by decide)]; exact h1.2.2.2.2.2.1.trans h1.2.2.2.2.2.2.1.symm)
  rw [sw_if_f c1]
  by_cases c2 : x1 = 2
  · rw [sw_if_t c2]
    intro I2 e2
    rw [sw_if_f c0, sw_if_f c1, sw_if_t c2]
    exact fin _ _ I2 e2 (by rw [(em I2 e2).1 144 (by decide) (by decide)]; exact h3.1.2.2.1)
  rw [sw_if_f c2]
  by_cases c3 : x1 = 3
  · rw [sw_if_t c3]
    intro I2 e2
    rw [sw_if_f c0, sw_if_f c1, sw_if_f c2, sw_if_t c3]
    exact fin _ _ I2 e2 (by rw [(em I2 e2).1 144 (by decide) (by decide)]; exact h3.1.2.2.2)
  rw [sw_if_f c3]
  by_cases c4 : x1 = 4
  · rw [sw_if_t c4]
    intro I2 e2
    rw [sw_if_f c0, sw_if_f c1, sw_if_f c2, sw_if_f c3, sw_if_t c4]
    exact fin _ _ I2 e2 (by rw [(em I2 e2).1 144 (by decide) (by decide)]; exact h3.1.2.1)
  rw [sw_if_f c4]
  by_cases c5 : x1 = 5
  · rw [sw_if_t c5]
    refine s_X3_onFloor ?_
    intro I2 e2
    rw [sw_if_f c0, sw_if_f c1, sw_if_f c2, sw_if_f c3, sw_if_f c4, sw_if_t c5]
    refine s_X10_there hn (by decide) (by decide) (by rw [(em I2 e2).2 _ (by decide)]; exact h1.2.2.2.2.2.2.1) ?_
    refine fin _ _ I2 e2 ?_
    have e30 : I2 144 (30 : Int32).toNatClampNeg = I 13 3 := by rw [(em I2 e2).1 144 (by decide) (by decide)]; exact h3.1.2.1.symm
    rw [e30, (em I2 e2).1 144 (by decide) (by decide), ← on_rel hn h1.2.1 h3.1 h3.2]
  rw [sw_if_f c5]
  by_cases c6 : x1 = 6
  · rw [sw_if_t c6]
    refine s_X3_onFloor ?_
    unfold wp_X1_everybody
    intro I2 e2
    rw [sw_if_f c0, sw_if_f c1, sw_if_f c2, sw_if_f c3, sw_if_f c4, sw_if_f c5, sw_if_t c6]
    refine s_X10_homeBits hn (by decide) (by decide) (by rw [(em I2 e2).2 _ (by decide)]; exact h1.2.2.2.2.2.2.1) ?_
    refine fin _ _ I2 e2 ?_
    rw [(em I2 e2).1 144 (by decide) (by decide), ← home_rel hn h1.2.1 h3.1, h1.2.2.2.2.2.1]
  rw [sw_if_f c6]
  by_cases c7 : x1 = 7
  · rw [sw_if_t c7]
    intro I2 e2
    rw [sw_if_f c0, sw_if_f c1, sw_if_f c2, sw_if_f c3, sw_if_f c4, sw_if_f c5, sw_if_f c6, sw_if_t c7]
    exact fin _ _ I2 e2 (by rw [(em I2 e2).2 _ (by decide)]; exact h1.2.2.2.2.2.2.2.1)
  rw [sw_if_f c7]
  by_cases c8 : x1 = 8
  · rw [sw_if_t c8]
    intro I2 e2
    rw [sw_if_f c0, sw_if_f c1, sw_if_f c2, sw_if_f c3, sw_if_f c4, sw_if_f c5, sw_if_f c6, sw_if_f c7, sw_if_t c8]
    exact fin _ _ I2 e2 (by rw [(em I2 e2).2 _ (by decide)]; exact h4.2.2.2.1.trans h4.2.2.2.2.1.symm)
  rw [sw_if_f c8]
  by_cases c9 : x1 = 9
  · rw [sw_if_t c9]
    intro I2 e2
    rw [sw_if_f c0, sw_if_f c1, sw_if_f c2, sw_if_f c3, sw_if_f c4, sw_if_f c5, sw_if_f c6, sw_if_f c7, sw_if_f c8, sw_if_t c9]
    exact fin _ _ I2 e2 (by rw [(em I2 e2).2 _ (by decide)]; exact h7.2.1.trans h7.2.2.1.symm)
  rw [sw_if_f c9]
  by_cases c10 : x1 = 10
  · rw [sw_if_t c10]
    intro I2 e2
    rw [sw_if_f c0, sw_if_f c1, sw_if_f c2, sw_if_f c3, sw_if_f c4, sw_if_f c5, sw_if_f c6, sw_if_f c7, sw_if_f c8, sw_if_f c9, sw_if_t c10]
    exact fin _ _ I2 e2 (by rw [(em I2 e2).2 _ (by decide)]; exact h5.2.1.trans h5.2.2.1.symm)
  rw [sw_if_f c10]
  by_cases c11 : x1 = 11
  · rw [sw_if_t c11]
    intro I2 e2
    rw [sw_if_f c0, sw_if_f c1, sw_if_f c2, sw_if_f c3, sw_if_f c4, sw_if_f c5, sw_if_f c6, sw_if_f c7, sw_if_f c8, sw_if_f c9, sw_if_f c10, sw_if_t c11]
    exact fin _ _ I2 e2 (by rw [(em I2 e2).2 _ (by decide)]; exact h6.2.1.trans h6.2.2.1.symm)
  rw [sw_if_f c11]
  intro I2 e2
  rw [sw_if_f c0, sw_if_f c1, sw_if_f c2, sw_if_f c3, sw_if_f c4, sw_if_f c5, sw_if_f c6, sw_if_f c7, sw_if_f c8, sw_if_f c9, sw_if_f c10, sw_if_f c11]
  exact fin _ _ I2 e2 rfl
theorem p_end {c : Nat} {x1 : Int32} {I : sw_I} {J : sw_J} {Q : Int32 → Int32 → sw_I → sw_J → Prop} (h : wW c I J) (hQ : ∀ v I2 J2, wW c I2 J2 → I2 140 0 = 0 → Q v v I2 J2) :
    wp_X9_end x1 I J (fun r I1 J1 => wp_X10_end x1 I1 J1 (fun r2 I2 J2 => Q r r2 I2 J2)) := by
  obtain ⟨n, fl, m, q, p, r, t, s, z, hw⟩ := h
  obtain ⟨h0, h1, h2, h3, h4, h5, h6, h7, h8⟩ := id hw
  have hn := h1.2.2.1
  have hs := h6.2.1
  have h80 := h6.1
  have no : (x1 < 0 ∨ nI t < x1) → wp_X10_end x1 I J (fun r2 I2 J2 => Q 0 r2 I2 J2) := by
    intro co I2 e2
    have ep : I2 140 12 = nI t := by rw [e2, sw_up_slot _ _ _ _ (by decide)]; exact h6.2.2.1
    refine s_X10_in (a := 0) (b := nI t) rfl (by rw [ep]) (fun _ => ?_) (fun c1 c2 => ?_)
    · rw [sw_if_t rfl]; exact hQ _ I2 J (th_of hw e2).1 (th_of hw e2).2
    · exact absurd co (fun w => w.elim c1 c2)
  unfold wp_X9_end
  rw [hs]
  by_cases c1 : x1 < 0
  · rw [sw_if_t c1]; exact no (Or.inl c1)
  · rw [sw_if_f c1]
    by_cases c2 : nI t < x1
    · rw [sw_if_t c2]; exact no (Or.inr c2)
    · rw [sw_if_f c2]
      obtain ⟨k, hk, ek⟩ := ixN (n := t + 1) (by omega) c1 (fun w => nI_ge (by omega) (by omega) (Int32.le_trans w (Int32.not_lt.mp c2)))
      intro I1 e1 I2 e2
      have ep : I2 140 12 = nI t := by rw [e2, sw_up_slot _ _ _ _ (by decide), e1, sw_up_cell _ _ _ _ (by decide)]; exact h6.2.2.1
      refine s_X10_in (a := 0) (b := nI t) rfl (by rw [ep]) (fun co => absurd co (fun w => w.elim c1 c2)) (fun _ _ => ?_)
      rw [sw_if_f (by decide)]
      intro I3 e3
      have e : eqm [1] [0, 12] I I3 := by rw [e3, e2, e1]; exact ((eqm.rf.upC (by decide) (by decide) _ _).upF (by decide) _).upF (by decide) _
      refine hQ 1 I3 J ⟨n, fl, m, q, p, r, k, s, z, ⟨h0.1, rb_of e (by decide) h0.2⟩, hs_of e (by decide) (by decide) h1, l_of e (by decide) (by decide) h2, now_of e (by decide) hn h3, past_of e (by decide) (by decide) hn h4, rw_of e (by decide) (by decide) h5, ⟨by omega, ?_, ?_, ?_⟩, sn_of e (by decide) (by decide) h7, kp_of e (by decide) (by decide) hn h8⟩ ?_
      · rw [e3, sw_up_cell _ _ _ _ (by decide), e2, sw_up_cell _ _ _ _ (by decide), e1, sw_up_same, ek]
      · rw [e3, sw_up_same, ek]
      · rw [e.1 2 (by decide) (by decide), e.1 146 (by decide) (by decide)]; exact fun i hi => h6.2.2.2 i (by omega)
      · rw [e3, sw_up_slot _ _ _ _ (by decide), e2, sw_up_same]
