/-! promise: ride -/
theorem s_X9_tell {r : Nat} (hr : r < 12) {w : Int64} {I : sw_I} {J : sw_J} {Q : sw_I → sw_J → Prop} (e : I 0 10 = nI r) (h : Q (sw_up I 0 10 (nI (r + 1))) (sw_up J 118 r w)) : wp_X9_tell w I J Q := by
  unfold wp_X9_tell
  rw [e, sw_if_t (show nI r < (12 : Int32) from nI_lt (b := 12) hr (by decide)), nI_clamp (by omega)]
  refine ⟨vp0 hr (by decide), fun J3 e3 I5 e5 => ?_⟩
  rw [e5, e3, nI_1]; exact h
theorem s_X10_enters {r : Nat} (hr : r < 24) {w : Int64} {I : sw_I} {J : sw_J} {Q : sw_I → sw_J → Prop} (e : I 140 1 = nI r) (h : Q (sw_up I 140 1 (nI (r + 1))) (sw_up J 141 r w)) : wp_X10_enters w I J Q := by
  unfold wp_X10_enters
  rw [e, nI_clamp (by omega)]
  refine ⟨vp0 hr (by decide), fun J3 e3 I5 e5 => ?_⟩
  rw [e5, e3, nI_1]; exact h
abbrev rdT : List Nat := [0, 13, 14, 16, 21, 140, 144, 155, 10, 11, 12, 9, 153, 154, 152]
abbrev rdS : List Nat := [0, 32, 1, 28, 29, 30]
theorem rdT_st : (∀ c, c ∈ stC → c ∉ rdT) ∧ ∀ k, k ∈ stS → k ∉ rdS := by decide +kernel
theorem rdT_sub : (∀ c, c ∈ nsC → c ∈ rdT) ∧ (∀ c, c ∈ mnsC → c ∈ rdT) ∧ ∀ k, k ∈ maF → k ∈ rdS := by decide +kernel
theorem p_ride {c : Nat} {I : sw_I} {J : sw_J} {Q : Int32 → Int32 → sw_I → sw_J → Prop} (h : wW c I J) (hQ : ∀ v I2 J2, wW (c + 1) I2 J2 → I2 140 0 = 0 → Q v v I2 J2) :
    wp_X9_ride I J (fun r I1 J1 => wp_X10_ride I1 J1 (fun r2 I2 J2 => Q r r2 I2 J2)) := by
  obtain ⟨n, fl, m, q, p, r, t, s, z, hw⟩ := h
  obtain ⟨h0, h1, h2, h3, h4, h5, h6, h7, h8⟩ := id hw
  obtain ⟨p1, p2, p3, p4, p5, p6⟩ := id h4
  have hn := h1.2.2.1
  unfold wp_X9_ride
  refine s_X4_prepare (q := q) (by omega) p1 p3 (fun I1 k1 => ?_)
  have f1 : ∀ c, (c < 23 + 4 * q ∨ 23 + 4 * q + 4 ≤ c) → I1 c = I c := k1.1
  have s1 : sm stC stS I I1 := ⟨fun c hc => f1 c (by have := stC_ring c hc; omega), fun k _ => by rw [f1 140 (by omega)]⟩
  have g1 := hsR_cong h1 (s1.mono (by decide) (by decide))
  have g2 := lR_cong h2 (s1.mono (by decide) (by decide))
  have m1 : momR I1 13 n fl (I 144) := momR_cong (fun c c1 c2 => f1 c (by omega)) (fun _ _ => rfl) hn h3
  refine c_ride (by decide) g1 g2 (fun I2 r2 => ?_)
  obtain ⟨sj, hsj, hst⟩ := stW_rng (a := 13) (m := m) (s := I1 13 3) g1
  generalize hstop : stW I1 13 n fl m (I1 13 3) = stop at r2 hst ⊢
  have f2 : ∀ c, c ∉ rdT → I2 c = I1 c := fun c hc => r2.1 c (fun w => hc (rdT_sub.1 c w)) (fun w => hc (by rw [w]; decide)) (fun w => hc (by rw [w]; decide)) (fun w => hc (by rw [w]; decide))
  have f2m : ∀ c, c ∈ [140, 144, 155, 21, 0] → I2 c = I1 c := fun c hc => r2.1 c (by revert c; decide) (by revert c; decide) (by revert c; decide) (by revert c; decide)
  refine s_X4_commit p1 p2 (by rw [f2m 21 (by decide), f1 _ (by omega)]; exact p3) (by rw [f2m 21 (by decide), f1 _ (by omega)]; exact p4) (fun I3 x3 n3 z3 => ?_)
  intro I4 e4
  have t4 : I4 0 10 = nI 0 := by rw [e4, sw_up_same]; rfl
  refine s_X9_tell (by decide) t4 ?_
  generalize e5 : sw_up I4 0 10 (nI (0 + 1)) = I5
  have f5 : ∀ c, c ≠ 0 → c ≠ 21 → I5 c = I2 c := fun c c1 c2 => by rw [← e5, sw_up_row _ _ _ c1, e4, sw_up_row _ _ _ c1, x3 c (by simpa using c2)]
  have p5' : I5 21 = I3 21 := by rw [← e5, sw_up_row _ _ _ (by decide), e4, sw_up_row _ _ _ (by decide)]
  have x5 : I5 0 10 = nI 1 := by rw [← e5, sw_up_same]
  intro I6 e6
  have f6 : ∀ c, c ≠ 140 → I6 c = I5 c := fun c c1 => by rw [e6, sw_up_row _ _ _ c1]
  have m6 : ∀ k, k ≠ 0 → I6 140 k = I 140 k := fun k hk => by rw [e6, sw_up_slot _ _ _ _ hk, f5 _ (by decide) (by decide), f2m _ (by decide), f1 _ (by omega)]
  have t6 : I6 140 0 = 0 := by rw [e6, sw_up_same]
  refine s_X10_putsBy p2 (by rw [m6 _ (by decide)]; exact p5) (fun I7 x7 u7 => ?_)
  have n6 : I6 144 = I 144 := by rw [f6 _ (by decide), f5 _ (by decide) (by decide), f2m _ (by decide), f1 _ (by omega)]
  have u6 : I6 155 = I 155 := by rw [f6 _ (by decide), f5 _ (by decide) (by decide), f2m _ (by decide), f1 _ (by omega)]
  rw [n6, u6] at u7
  have n7 : I7 144 = I 144 := by rw [x7 _ (by decide), n6]
  have m7 : ∀ k, k ≠ 0 → I7 140 k = I 140 k := fun k hk => by rw [x7 _ (by decide)]; exact m6 k hk
  have f7 : ∀ c, c ∉ rdT → I7 c = I1 c := fun c hc => by
    have q1 : c ≠ 0 := fun w => hc (by rw [w]; decide)
    have q2 : c ≠ 21 := fun w => hc (by rw [w]; decide)
    have q3 : c ≠ 140 := fun w => hc (by rw [w]; decide)
    have q4 : c ≠ 155 := fun w => hc (by rw [w]; decide)
    rw [x7 c (by simpa using q4), f6 c q3, f5 c q1 q2, f2 c hc]
  have s7 : sm stC stS I I7 := ⟨fun c hc => by rw [f7 c (rdT_st.1 c hc), s1.1 c hc], fun k hk => m7 k (fun w => rdT_st.2 k hk (by rw [w]; decide))⟩
  have eins : I7 144 (30 : Int32).toNatClampNeg = I1 13 3 := by rw [n7]; exact m1.1.2.1.symm
  rw [eins]
  refine m_rideG (pl := I1 (13 + 1)) (wi := I1 (13 + 2)) (rd := I1 (13 + 3)) (by decide) (by decide) (by decide) (hsR_cong h1 (s7.mono (by decide) (by decide))) (lR_cong h2 (s7.mono (by decide) (by decide))) (by rw [n7]; exact m1.1) m1.2 (fun I8 r8 => ?_)
  have ec : I7 7 = I1 7 := f7 _ (by decide)
  have eh : I7 4 = I1 4 := f7 _ (by decide)
  have ed : I7 140 5 = I1 140 5 := by rw [m7 _ (by decide), f1 _ (by omega)]
  have estop : nsF (I7 7) m (I1 (13 + 1)) (I1 (13 + 2)) n fl (I7 140 5) (I1 13 3) (I1 13 4) (I1 13 5) = stop := by rw [ec, ed]; exact hstop
  rw [estop] at r8 ⊢
  rw [eh]
  generalize hcm : cmF (I1 4) (I1 13 3) stop n = cm
  have f8 : ∀ c, c ∉ rdT → I8 c = I7 c := fun c hc => r8.1 c (fun w => hc (rdT_sub.2.1 c w)) (fun w => hc (by rw [w]; decide)) (fun w => hc (by rw [w]; decide))
  have f8m : ∀ c, c ∈ [155, 21, 0, 13, 13 + 1, 13 + 2, 13 + 3] → I8 c = I7 c := fun c hc => r8.1 c (by revert c; decide) (by revert c; decide) (by revert c; decide)
  have u8 : I8 140 32 = nI p := by rw [r8.2.1 _ (by decide), m7 _ (by decide)]; exact p5
  refine s_X10_adds p2 u8 (fun I9 x9 a9 u9 => ?_)
  intro I10 e10
  have t10 : I10 140 1 = nI 0 := by rw [e10, sw_up_same]; rfl
  refine s_X10_enters (by decide) t10 ?_
  generalize e11 : sw_up I10 140 1 (nI (0 + 1)) = I11
  have f11 : ∀ c, c ≠ 140 → c ≠ 155 → I11 c = I8 c := fun c c1 c2 => by rw [← e11, sw_up_row _ _ _ c1, e10, sw_up_row _ _ _ c1, x9.1 c (by simpa using c2) c1]
  have u11 : I11 155 = I9 155 := by rw [← e11, sw_up_row _ _ _ (by decide), e10, sw_up_row _ _ _ (by decide)]
  have m11 : ∀ k, k ∉ rdS → I11 140 k = I 140 k := fun k hk => by
    have q1 : k ≠ 1 := fun w => hk (by rw [w]; decide)
    have q2 : k ≠ 32 := fun w => hk (by rw [w]; decide)
    have q3 : k ≠ 0 := fun w => hk (by rw [w]; decide)
    rw [← e11, sw_up_slot _ _ _ _ q1, e10, sw_up_slot _ _ _ _ q1, x9.2 k (by simpa using q2), r8.2.1 k (fun w => hk (rdT_sub.2.2 k w)), m7 k q3]
  have F1 : ∀ c, c ∉ rdT → I11 c = I1 c := fun c hc => by
    rw [f11 c (fun w => hc (by rw [w]; decide)) (fun w => hc (by rw [w]; decide)), f8 c hc, f7 c hc]
  have s11 : sm stC stS I I11 := ⟨fun c hc => by rw [F1 c (rdT_st.1 c hc), s1.1 c hc], fun k hk => m11 k (rdT_st.2 k hk)⟩
  have past11 : I11 21 = I3 21 := by rw [f11 _ (by decide) (by decide), f8m _ (by decide), x7 _ (by decide), f6 _ (by decide), p5']
  have now11 : ∀ c, 13 ≤ c → c < 13 + 4 → I11 c = I2 c := fun c c1 c2 => by
    obtain ⟨d, hd, rfl⟩ : ∃ d, d < 4 ∧ c = 13 + d := ⟨c - 13, by omega, by omega⟩
    rw [f11 _ (by omega) (by omega), f8m _ (by revert d; decide), x7 _ (by simp; omega), f6 _ (by omega), f5 _ (by omega) (by omega)]
  have mnow : I11 144 = I8 144 := f11 _ (by decide) (by decide)
  have M : momR I11 13 n fl (I11 144) := by
    rw [mnow]
    exact momR_cong now11 (fun _ _ => rfl) hn (momR_ride hn (by decide) (by rw [n7]; exact m1) rfl ⟨sj, hsj, hst⟩ (fun i hi => by rw [(g1.2.2.2.2.2.2.2.2.2.1 i hi).1, s7.1 142 (by decide), s1.1 142 (by decide)]) r2 r8)
  have P : pastR I11 n fl ((q + 1) % 21) (adN p) := by
    refine pastR_push hn h4 h3 (fun c c1 c2 c3 => ?_) ⟨fun i hi => ?_, ?_, ?_, ?_⟩ (by rw [past11]; exact n3) (by rw [past11]; exact z3) ?_ ?_
    · rw [F1 c (by simp; omega), f1 c c3]
    · rw [F1 _ (by simp; omega), F1 _ (by simp; omega), F1 _ (by simp; omega)]; exact k1.2.1 i hi
    · rw [F1 _ (by simp; omega)]; exact k1.2.2.1
    · rw [F1 _ (by simp; omega)]; exact k1.2.2.2.1
    · rw [F1 _ (by simp; omega)]; exact k1.2.2.2.2
    · rw [← e11, sw_up_slot _ _ _ _ (by decide), e10, sw_up_slot _ _ _ _ (by decide)]; exact u9
    · rw [u11, a9, f8m _ (by decide), u7]
  have R : rwR I11 (sw_up (sw_up J 118 0 cm.toInt64) 141 0 cm.toInt64) 1 := by
    refine ⟨by omega, ?_, ?_, fun i hi => ?_⟩
    · rw [f11 _ (by decide) (by decide), f8m _ (by decide), x7 _ (by decide), f6 _ (by decide)]; exact x5
    · rw [← e11, sw_up_same]
    · obtain rfl : i = 0 := by omega
      rw [sw_up_cell _ _ _ _ (by decide), sw_up_same, sw_up_same]
  have T : I11 140 0 = 0 := by
    rw [← e11, sw_up_slot _ _ _ _ (by decide), e10, sw_up_slot _ _ _ _ (by decide), x9.2 _ (by decide), r8.2.1 _ (by decide), x7 _ (by decide)]; exact t6
  have v1 : I5 13 4 = stop := by rw [f5 _ (by decide) (by decide)]; exact r2.2.2.2.2.1
  have v2 : I11 144 (31 : Int32).toNatClampNeg = stop := by rw [mnow, r8.2.2]; rfl
  rw [v1, v2]
  have B : rbR (c + 1) I11 := by
    refine rb_mk (d := 1) h0.2 (by omega) ⟨13, mv_now, 1, by omega, ?_⟩ (fun i hi => ?_) (fun i hi => ?_) ?_ ?_
    · rw [now11 _ (by decide) (by decide), r2.2.2.2.2.2, f1 _ (by omega)]; rfl
    · by_cases ci : i = q
      · exact ⟨13, mv_now, by rw [ci, F1 _ (by simp; omega)]; exact k1.2.2.2.2⟩
      · exact ⟨_, mv_ring i hi, by rw [F1 _ (by simp; omega), f1 _ (by omega)]⟩
    · exact ⟨_, mv_kept i hi, by rw [F1 _ (by simp; omega), f1 _ (by omega)]⟩
    · rw [F1 _ (by decide), f1 _ (by omega)]
    · rw [F1 _ (by decide), f1 _ (by omega)]
  exact hQ stop I11 _ ⟨n, fl, m, _, _, 1, t, s, z, wR_moved hw s11 M P R (by omega) B⟩ T
