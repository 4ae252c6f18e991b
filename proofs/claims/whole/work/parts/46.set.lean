/-! promises: set -/
theorem momR_wish {I I2 : sw_I} {a n fl k : Nat} {row row2 : Nat → Int32} {v : Int32} (hn : n ≤ 10) (h : momR I a n fl row) (hk : k < n) (hv : fw fl v) (e0 : I2 a = I a) (e1 : I2 (a + 1) = I (a + 1)) (e2 : I2 (a + 2) = fun j => if j = k then v else I (a + 2) j) (e3 : I2 (a + 3) = I (a + 3)) (er : ∀ j, j < 33 → row2 j = if j = 10 + k then v else row j) : momR I2 a n fl row2 := by
  obtain ⟨⟨b1, b2, b3, b4⟩, v1, v2, v3, v4⟩ := h
  unfold momR
  rw [e0, e1, e2, e3]
  refine ⟨⟨fun i hi => ?_, ?_, ?_, ?_⟩, fun i hi => ?_, v2, v3, v4⟩
  · obtain ⟨c1, c2, c3⟩ := b1 i hi
    rw [er i (by omega), er (10 + i) (by omega), er (20 + i) (by omega), if_neg (show ¬ i = 10 + k by omega), if_neg (show ¬ 20 + i = 10 + k by omega)]
    refine ⟨c1, ?_, c3⟩
    show (if i = k then v else _) = _
    by_cases c : i = k
    · rw [if_pos c, if_pos (by omega)]
    · rw [if_neg c, if_neg (by omega)]; exact c2
  · rw [er 30 (by omega), if_neg (by omega)]; exact b2
  · rw [er 31 (by omega), if_neg (by omega)]; exact b3
  · rw [er 32 (by omega), if_neg (by omega)]; exact b4
  · refine ⟨(v1 i hi).1, ?_⟩
    show fw fl (if i = k then v else _)
    by_cases c : i = k
    · rw [if_pos c]; exact hv
    · rw [if_neg c]; exact (v1 i hi).2
def setOK (n fl : Nat) (x y w : Int32) : Prop := (∃ k, k < n ∧ y = nI k) ∧ ((x = 0 ∧ ∃ j, j < fl ∧ w = nI j) ∨ (x = 1 ∧ fw fl w) ∨ (x = 2 ∧ ∃ j, j ≤ 10 ∧ w = nI j))
theorem s_X1_canBeWish {fl : Nat} (hfl : fl ≤ 9) {x : Int32} {I : sw_I} {J : sw_J} {Q : Int32 → sw_I → sw_J → Prop} (hf : I 3 0 = nI fl) (h0 : ¬ fw fl x → Q 0 I J) (h1 : fw fl x → Q 1 I J) : wp_X1_canBeWish x I J Q := by
  unfold wp_X1_canBeWish
  by_cases c : x = -1
  · rw [sw_if_t c]; exact h1 (Or.inl c)
  · rw [sw_if_f c]
    refine s_X1_hasFloor hfl hf (fun co => ?_) (fun k hk ek => ?_)
    · rw [sw_if_t rfl]
      refine h0 (fun q => ?_)
      rcases q with q | ⟨j, hj, ej⟩
      · exact c q
      · exact ix_out (by omega) hj ej co
    · rw [sw_if_f (by decide)]
      exact h1 (Or.inr ⟨k, hk, ek⟩)
theorem ten_ix {x : Int32} (c1 : ¬ x < 0) (c2 : ¬ (10 : Int32) < x) : ∃ j, j ≤ 10 ∧ x = nI j := by
  obtain ⟨j, hj, ej⟩ := ixN (n := 11) (by decide) c1 (fun w => c2 (Int32.lt_of_lt_of_le (show (10 : Int32) < nI 11 by decide) w))
  exact ⟨j, by omega, ej⟩
theorem ten_out {x : Int32} {j : Nat} (hj : j ≤ 10) (e : x = nI j) (h : x < 0 ∨ (10 : Int32) < x) : False := by
  rcases h with w | w
  · rw [e] at w; exact nI_pos (by omega) w
  · rw [e] at w; exact nI_nlt (b := j) (a := 10) (by omega) (by decide) w
theorem s_X9_set {n fl : Nat} (hn : n ≤ 10) (hfl : fl ≤ 9) {x y w : Int32} {I : sw_I} {J : sw_J} {Q : Int32 → sw_I → sw_J → Prop} (hr : I 3 2 = nI n) (hf : I 3 0 = nI fl) (h0 : ¬ setOK n fl x y w → Q 0 I J)
    (hA : ∀ k, k < n → y = nI k → x = 0 → (∃ j, j < fl ∧ w = nI j) → Q 1 (sw_up I 4 k w) J) (hB : ∀ k, k < n → y = nI k → x = 1 → fw fl w → Q 1 (sw_up I 15 k w) J) (hC : ∀ k, k < n → y = nI k → x = 2 → (∃ j, j ≤ 10 ∧ w = nI j) → Q 1 (sw_up I 5 k w) J) : wp_X9_set x y w I J Q := by
  unfold wp_X9_set
  refine s_X1_hasRider hn hr (fun co => ?_) (fun k hk ek => ?_)
  · rw [sw_if_t rfl]; exact h0 (fun ⟨⟨j, hj, ej⟩, _⟩ => ix_out (by omega) hj ej co)
  · rw [sw_if_f (by decide)]
    have tC : ¬ x = 0 → ¬ x = 1 → wB_X9_set_68 Q x y w I J := by
      intro x0 x1
      unfold wB_X9_set_68
      by_cases c : x = 2
      · rw [sw_if_t (show x = (2 : Int32) from c)]
        by_cases c1 : w < 0
        · rw [sw_if_t c1]; exact h0 (fun q => by rcases q.2 with q | q | ⟨_, j, hj, ej⟩; exact x0 q.1; exact x1 q.1; exact ten_out hj ej (Or.inl c1))
        · rw [sw_if_f c1]
          by_cases c2 : (10 : Int32) < w
          · rw [sw_if_t c2]; exact h0 (fun q => by rcases q.2 with q | q | ⟨_, j, hj, ej⟩; exact x0 q.1; exact x1 q.1; exact ten_out hj ej (Or.inr c2))
          · rw [sw_if_f c2, ek, nI_clamp (by omega)]
            exact ⟨vp0 (by omega) (by decide), fun I5 e5 => by rw [e5]; exact hC k hk ek c (ten_ix c1 c2)⟩
      · rw [sw_if_f (show ¬ x = (2 : Int32) from c)]
        exact h0 (fun q => by rcases q.2 with q | q | q; exact x0 q.1; exact x1 q.1; exact c q.1)
    by_cases c0 : x = 0
    · rw [sw_if_t c0]
      refine s_X1_hasFloor hfl hf (fun co => ?_) (fun k2 hk2 ek2 => ?_)
      · rw [sw_if_t rfl]
        unfold wB_X9_set_40 wB_X9_set_68
        rw [sw_if_f (show ¬ x = (1 : Int32) by rw [c0]; decide), sw_if_f (show ¬ x = (2 : Int32) by rw [c0]; decide)]
        refine h0 (fun q => ?_)
        rcases q.2 with ⟨-, j, hj, ej⟩ | q | q
        · exact ix_out (by omega) hj ej co
        · rw [c0] at q; exact absurd q.1 (by decide)
        · rw [c0] at q; exact absurd q.1 (by decide)
      · rw [sw_if_f (by decide), ek, nI_clamp (by omega)]
        exact ⟨vp0 (by omega) (by decide), fun I5 e5 => by rw [e5]; exact hA k hk ek c0 ⟨k2, hk2, ek2⟩⟩
    · rw [sw_if_f c0]
      unfold wB_X9_set_40
      by_cases c1 : x = 1
      · rw [sw_if_t (show x = (1 : Int32) from c1)]
        refine s_X1_canBeWish hfl hf (fun co => ?_) (fun hw => ?_)
        · rw [sw_if_t rfl]
          unfold wB_X9_set_68
          rw [sw_if_f (show ¬ x = (2 : Int32) by rw [c1]; decide)]
          exact h0 (fun q => by rcases q.2 with q | q | q; exact c0 q.1; exact co q.2; rw [c1] at q; exact absurd q.1 (by decide))
        · rw [sw_if_f (by decide), ek, nI_clamp (by omega)]
          exact ⟨vp0 (by omega) (by decide), fun I5 e5 => by rw [e5]; exact hB k hk ek c1 hw⟩
      · rw [sw_if_f (show ¬ x = (1 : Int32) from c1)]
        exact tC c0 c1
theorem s_X10_set {n fl : Nat} (hn : n ≤ 10) (hfl : fl ≤ 9) {x y w : Int32} {I : sw_I} {J : sw_J} {Q : Int32 → sw_I → sw_J → Prop} (hr : I 140 4 = nI n) (hf : I 140 3 = nI fl) (h0 : ¬ setOK n fl x y w → Q 0 (sw_up I 140 0 0) J)
    (hA : ∀ k, k < n → y = nI k → x = 0 → (∃ j, j < fl ∧ w = nI j) → Q 1 (sw_up (sw_up I 140 0 0) 142 k w) J) (hB : ∀ k, k < n → y = nI k → x = 1 → fw fl w → Q 1 (sw_up (sw_up I 140 0 0) 144 (10 + k) w) J) (hC : ∀ k, k < n → y = nI k → x = 2 → (∃ j, j ≤ 10 ∧ w = nI j) → Q 1 (sw_up (sw_up I 140 0 0) 143 k w) J) : wp_X10_set x y w I J Q := by
  intro I1 e1
  have r1 : I1 140 4 = nI n := by rw [e1, sw_up_slot _ _ _ _ (by decide), hr]
  have f1 : I1 140 3 = nI fl := by rw [e1, sw_up_slot _ _ _ _ (by decide), hf]
  have no : ¬ setOK n fl x y w → wB_X10_set_65 Q x y w 0 I1 J := by
    intro hno
    unfold wB_X10_set_65
    have fin : Q 0 I1 J := by rw [e1]; exact h0 hno
    exact s_X10_isRider hn r1 (fun _ => by rw [sw_if_t rfl]; exact fin) (fun k hk ek => by rw [sw_if_f (by decide), sw_if_t rfl]; exact fin)
  have yes : ((x = 0 ∧ ∃ j, j < fl ∧ w = nI j) ∨ (x = 1 ∧ fw fl w) ∨ (x = 2 ∧ ∃ j, j ≤ 10 ∧ w = nI j)) → wB_X10_set_65 Q x y w 1 I1 J := by
    intro ok
    unfold wB_X10_set_65
    refine s_X10_isRider hn r1 (fun co => ?_) (fun k hk ek => ?_)
    · rw [sw_if_t rfl, e1]; exact h0 (fun ⟨⟨j, hj, ej⟩, _⟩ => ix_out (by omega) hj ej co)
    · rw [sw_if_f (by decide), sw_if_f (by decide)]
      have eA : y.toNatClampNeg = k := by rw [ek, nI_clamp (by omega)]
      rcases ok with ⟨c, q⟩ | ⟨c, q⟩ | ⟨c, q⟩
      · rw [sw_if_t c, eA]
        exact ⟨by rw [ek]; exact vp0 (by omega) (by decide), fun I5 e5 => by rw [e5, e1]; exact hA k hk ek c q⟩
      · have eB : (10 : Int32) + y = nI (10 + k) := by rw [ek]; exact nI_add 10 k
        rw [sw_if_f (show ¬ x = 0 by rw [c]; decide), sw_if_t (show x = (1 : Int32) from c), eB, nI_clamp (by omega)]
        exact ⟨vp0 (by omega) (by decide), fun I5 e5 => by rw [e5, e1]; exact hB k hk ek c q⟩
      · rw [sw_if_f (show ¬ x = 0 by rw [c]; decide), sw_if_f (show ¬ x = (1 : Int32) by rw [c]; decide), eA]
        exact ⟨by rw [ek]; exact vp0 (by omega) (by decide), fun I5 e5 => by rw [e5, e1]; exact hC k hk ek c q⟩
  by_cases c0 : x = 0
  · rw [sw_if_t c0]
    refine s_X10_isFloor (n := fl) (by omega) f1 (fun co => no (fun q => ?_)) (fun j hj ej => yes (Or.inl ⟨c0, j, hj, ej⟩))
    rcases q.2 with ⟨-, j, hj, ej⟩ | q | q
    · exact ix_out (by omega) hj ej co
    · rw [c0] at q; exact absurd q.1 (by decide)
    · rw [c0] at q; exact absurd q.1 (by decide)
  · rw [sw_if_f c0]
    by_cases c1 : x = 1
    · rw [sw_if_t (show x = (1 : Int32) from c1)]
      by_cases cw : w = -1
      · rw [sw_if_t (show w = (-1 : Int32) from cw)]; exact yes (Or.inr (Or.inl ⟨c1, Or.inl cw⟩))
      · rw [sw_if_f (show ¬ w = (-1 : Int32) from cw)]
        refine s_X10_isFloor (n := fl) (by omega) f1 (fun co => ?_) (fun j hj ej => ?_)
        · rw [sw_if_t rfl]
          refine no (fun q => ?_)
          rcases q.2 with q | ⟨-, q | ⟨j, hj, ej⟩⟩ | q
          · exact c0 q.1
          · exact cw q
          · exact ix_out (by omega) hj ej co
          · rw [c1] at q; exact absurd q.1 (by decide)
        · rw [sw_if_f (by decide)]; exact yes (Or.inr (Or.inl ⟨c1, Or.inr ⟨j, hj, ej⟩⟩))
    · rw [sw_if_f (show ¬ x = (1 : Int32) from c1)]
      by_cases c2 : x = 2
      · rw [sw_if_t (show x = (2 : Int32) from c2)]
        refine s_X10_in (a := 0) (b := 10) rfl rfl (fun co => ?_) (fun d1 d2 => ?_)
        · rw [sw_if_t rfl]
          exact no (fun q => by rcases q.2 with q | q | ⟨_, j, hj, ej⟩; exact c0 q.1; exact c1 q.1; exact ten_out hj ej co)
        · rw [sw_if_f (by decide)]; exact yes (Or.inr (Or.inr ⟨c2, ten_ix d1 d2⟩))
      · rw [sw_if_f (show ¬ x = (2 : Int32) from c2)]
        exact no (fun q => by rcases q.2 with q | q | q; exact c0 q.1; exact c1 q.1; exact c2 q.1)
theorem hs_home {I I2 : sw_I} {n fl k : Nat} {v : Int32} (h : hsR I n fl) (hv : ∃ j, j < fl ∧ v = nI j) (e0 : I2 3 = I 3) (e1 : I2 4 = fun j => if j = k then v else I 4 j) (e2 : I2 5 = I 5) (e3 : I2 142 = fun j => if j = k then v else I 142 j) (e4 : I2 143 = I 143) (e5 : ∀ k, k ∈ hsF → I2 140 k = I 140 k) : hsR I2 n fl := by
  obtain ⟨a1, a2, a3, a4, a5, a6, a7, a8, a9, a10, a11⟩ := h
  unfold hsR
  rw [e0, e1, e2, e3, e4, e5 3 (by decide), e5 4 (by decide), e5 5 (by decide)]
  refine ⟨a1, a2, a3, a4, a5, a6, a7, a8, a9, fun i hi => ?_, a11⟩
  by_cases c : i = k
  · simp only [c, if_true]; exact ⟨trivial, hv⟩
  · simp only [if_neg c]; exact a10 i hi
theorem hs_truth {I I2 : sw_I} {n fl k : Nat} {v : Int32} (h : hsR I n fl) (hv : ∃ j, j ≤ 10 ∧ v = nI j) (e0 : I2 3 = I 3) (e1 : I2 5 = fun j => if j = k then v else I 5 j) (e2 : I2 4 = I 4) (e3 : I2 143 = fun j => if j = k then v else I 143 j) (e4 : I2 142 = I 142) (e5 : ∀ k, k ∈ hsF → I2 140 k = I 140 k) : hsR I2 n fl := by
  obtain ⟨a1, a2, a3, a4, a5, a6, a7, a8, a9, a10, a11⟩ := h
  unfold hsR
  rw [e0, e1, e2, e3, e4, e5 3 (by decide), e5 4 (by decide), e5 5 (by decide)]
  refine ⟨a1, a2, a3, a4, a5, a6, a7, a8, a9, a10, fun i hi => ?_⟩
  by_cases c : i = k
  · simp only [c, if_true]; exact ⟨trivial, hv⟩
  · simp only [if_neg c]; exact a11 i hi
theorem p_set {c : Nat} {x1 x2 x3 : Int32} {I : sw_I} {J : sw_J} {Q : Int32 → Int32 → sw_I → sw_J → Prop} (h : wW c I J) (hQ : ∀ v I2 J2, wW c I2 J2 → I2 140 0 = 0 → Q v v I2 J2) :
    wp_X9_set x1 x2 x3 I J (fun r I1 J1 => wp_X10_set x1 x2 x3 I1 J1 (fun r2 I2 J2 => Q r r2 I2 J2)) := by
  obtain ⟨n, fl, m, q, p, r, t, s, z, hw⟩ := h
  obtain ⟨h0, h1, h2, h3, h4, h5, h6, h7, h8⟩ := id hw
  have hn := h1.2.2.1
  obtain ⟨a1, a2, a3, a4, a5, a6, a7, a8, a9, a10, a11⟩ := id h1
  have kk : ∀ {k k2 : Nat}, k < n → k2 < n → x2 = nI k → x2 = nI k2 → k2 = k := fun q1 q2 q3 q4 => (nI_eq (by omega) (by omega)).mp (q4.symm.trans q3)
  refine s_X9_set hn a2 a6 a4 (fun hno => ?_) (fun k hk ek c ok => ?_) (fun k hk ek c ok => ?_) (fun k hk ek c ok => ?_)
  · exact s_X10_set hn a2 a7 a5 (fun _ => hQ _ _ J (th_of hw rfl).1 (th_of hw rfl).2) (fun k hk ek c ok => absurd ⟨⟨k, hk, ek⟩, Or.inl ⟨c, ok⟩⟩ hno) (fun k hk ek c ok => absurd ⟨⟨k, hk, ek⟩, Or.inr (Or.inl ⟨c, ok⟩)⟩ hno) (fun k hk ek c ok => absurd ⟨⟨k, hk, ek⟩, Or.inr (Or.inr ⟨c, ok⟩)⟩ hno)
  · refine s_X10_set hn a2 (by rw [sw_up_cell _ _ _ _ (by decide)]; exact a7) (by rw [sw_up_cell _ _ _ _ (by decide)]; exact a5) (fun hno => absurd ⟨⟨k, hk, ek⟩, Or.inl ⟨c, ok⟩⟩ hno) (fun k2 hk2 ek2 _ _ => ?_) (fun _ _ _ c2 _ => absurd (c.symm.trans c2) (by decide)) (fun _ _ _ c2 _ => absurd (c.symm.trans c2) (by decide))
    rw [kk hk hk2 ek ek2]
    generalize e3 : sw_up (sw_up (sw_up I 4 k x3) 140 0 0) 142 k x3 = I3
    have e : eqm [4, 142] [0] I I3 := by rw [← e3]; exact ((eqm.rf.upC (by decide) (by decide) _ _).upF (by decide) _).upC (by decide) (by decide) _ _
    refine hQ 1 I3 J ⟨n, fl, m, q, p, r, t, s, z, ⟨h0.1, rb_of e (by decide) h0.2⟩, hs_home (k := k) h1 ok (e.1 _ (by decide) (by decide)) ?_ (e.1 _ (by decide) (by decide)) ?_ (e.1 _ (by decide) (by decide)) (fun k hk => e.2 k (by revert k; decide)), l_of e (by decide) (by decide) h2, now_of e (by decide) hn h3, past_of e (by decide) (by decide) hn h4, rw_of e (by decide) (by decide) h5, tx_of e (by decide) (by decide) h6, sn_of e (by decide) (by decide) h7, kp_of e (by decide) (by decide) hn h8⟩ ?_
    · rw [← e3, sw_up_row _ _ _ (by decide), sw_up_row _ _ _ (by decide), sw_up_rowf]
    · rw [← e3, sw_up_rowf, sw_up_row _ _ _ (by decide), sw_up_row _ _ _ (by decide)]
    · rw [← e3, sw_up_cell _ _ _ _ (by decide), sw_up_same]
  · refine s_X10_set hn a2 (by rw [sw_up_cell _ _ _ _ (by decide)]; exact a7) (by rw [sw_up_cell _ _ _ _ (by decide)]; exact a5) (fun hno => absurd ⟨⟨k, hk, ek⟩, Or.inr (Or.inl ⟨c, ok⟩)⟩ hno) (fun _ _ _ c2 _ => absurd (c.symm.trans c2) (by decide)) (fun k2 hk2 ek2 _ _ => ?_) (fun _ _ _ c2 _ => absurd (c.symm.trans c2) (by decide))
    rw [kk hk hk2 ek ek2]
    generalize e3 : sw_up (sw_up (sw_up I 15 k x3) 140 0 0) 144 (10 + k) x3 = I3
    have e : eqm [15, 144] [0] I I3 := by rw [← e3]; exact ((eqm.rf.upC (by decide) (by decide) _ _).upF (by decide) _).upC (by decide) (by decide) _ _
    refine hQ 1 I3 J ⟨n, fl, m, q, p, r, t, s, z, ⟨h0.1, rb_of e (by decide) h0.2⟩, hs_of e (by decide) (by decide) h1, l_of e (by decide) (by decide) h2, momR_wish hn h3 hk ok (e.1 _ (by decide) (by decide)) (e.1 _ (by decide) (by decide)) ?_ (e.1 _ (by decide) (by decide)) (fun j _ => ?_), past_of e (by decide) (by decide) hn h4, rw_of e (by decide) (by decide) h5, tx_of e (by decide) (by decide) h6, sn_of e (by decide) (by decide) h7, kp_of e (by decide) (by decide) hn h8⟩ ?_
    · rw [← e3, sw_up_row _ _ _ (by decide), sw_up_row _ _ _ (by decide)]; exact sw_up_rowf _ _ _ _
    · rw [← e3, sw_up_rowf, sw_up_row _ _ _ (by decide), sw_up_row _ _ _ (by decide)]
    · rw [← e3, sw_up_cell _ _ _ _ (by decide), sw_up_same]
  · refine s_X10_set hn a2 (by rw [sw_up_cell _ _ _ _ (by decide)]; exact a7) (by rw [sw_up_cell _ _ _ _ (by decide)]; exact a5) (fun hno => absurd ⟨⟨k, hk, ek⟩, Or.inr (Or.inr ⟨c, ok⟩)⟩ hno) (fun _ _ _ c2 _ => absurd (c.symm.trans c2) (by decide)) (fun _ _ _ c2 _ => absurd (c.symm.trans c2) (by decide)) (fun k2 hk2 ek2 _ _ => ?_)
    rw [kk hk hk2 ek ek2]
    generalize e3 : sw_up (sw_up (sw_up I 5 k x3) 140 0 0) 143 k x3 = I3
    have e : eqm [5, 143] [0] I I3 := by rw [← e3]; exact ((eqm.rf.upC (by decide) (by decide) _ _).upF (by decide) _).upC (by decide) (by decide) _ _
    refine hQ 1 I3 J ⟨n, fl, m, q, p, r, t, s, z, ⟨h0.1, rb_of e (by decide) h0.2⟩, hs_truth (k := k) h1 ok (e.1 _ (by decide) (by decide)) ?_ (e.1 _ (by decide) (by decide)) ?_ (e.1 _ (by decide) (by decide)) (fun k hk => e.2 k (by revert k; decide)), l_of e (by decide) (by decide) h2, now_of e (by decide) hn h3, past_of e (by decide) (by decide) hn h4, rw_of e (by decide) (by decide) h5, tx_of e (by decide) (by decide) h6, sn_of e (by decide) (by decide) h7, kp_of e (by decide) (by decide) hn h8⟩ ?_
    · rw [← e3, sw_up_row _ _ _ (by decide), sw_up_row _ _ _ (by decide), sw_up_rowf]
    · rw [← e3, sw_up_rowf, sw_up_row _ _ _ (by decide), sw_up_row _ _ _ (by decide)]
    · rw [← e3, sw_up_cell _ _ _ _ (by decide), sw_up_same]
