/-! promises: saw, set -/
theorem s_X1_everybody {n : Nat} {I : sw_I} {J : sw_J} {Q : Int32 → sw_I → sw_J → Prop} (hr : I 3 2 = nI n) (h : Q (((1 : Int32) <<< (nI n &&& 31)) - 1) I J) : wp_X1_everybody I J Q := by
  unfold wp_X1_everybody
  rw [hr]; exact h
def sawOK (n fl s : Nat) (x y w : Int32) : Prop := (∃ j, j < fl ∧ x = nI j) ∧ (∃ j, j < fl ∧ w = nI j) ∧ ¬ x = w ∧ (∃ j, j < 2 ^ n ∧ y = nI j) ∧ s < 8
theorem s_X9_saw {n fl s : Nat} (hn : n ≤ 10) (hfl : fl ≤ 9) (hs : s ≤ 8) {x y w : Int32} {I : sw_I} {J : sw_J} {Q : Int32 → sw_I → sw_J → Prop} (hr : I 3 2 = nI n) (hf : I 3 0 = nI fl) (hz : I 109 4 = nI s) (h0 : ¬ sawOK n fl s x y w → Q (-1) I J)
    (h1 : sawOK n fl s x y w → Q (nI (s + 1)) (sw_up (sw_up (sw_up (sw_up I 110 s x) 111 s y) 112 s w) 109 4 (nI (s + 1))) J) : wp_X9_saw x y w I J Q := by
  have no : ¬ sawOK n fl s x y w → wB_X9_saw_31 Q x y w I J := by
    intro hno
    show wB_X9_saw_32 Q x y w 0 I J
    unfold wB_X9_saw_32
    rw [sw_if_t rfl]; exact h0 hno
  unfold wp_X9_saw
  refine s_X1_hasFloor hfl hf (fun co => ?_) (fun k hk ek => ?_)
  · rw [sw_if_t rfl]; exact no (fun ⟨⟨j, hj, ej⟩, _⟩ => ix_out (by omega) hj ej co)
  · rw [sw_if_f (by decide)]
    refine s_X1_hasFloor hfl hf (fun co => ?_) (fun k2 hk2 ek2 => ?_)
    · rw [sw_if_t rfl]; exact no (fun ⟨_, ⟨j, hj, ej⟩, _⟩ => ix_out (by omega) hj ej co)
    · rw [sw_if_f (by decide)]
      by_cases c : x = w
      · rw [sw_if_t c]; exact no (fun q => q.2.2.1 c)
      · rw [sw_if_f c]
        unfold wB_X9_saw_32
        rw [sw_if_f (by decide)]
        refine s_X1_everybody hr ?_
        by_cases c2 : y &&& ((((1 : Int32) <<< (nI n &&& 31)) - 1) ^^^ (-1)) = 0
        · rw [sw_if_t c2, hz]
          by_cases c3 : s < 8
          · rw [sw_if_t (show nI s < (8 : Int32) from nI_lt (b := 8) c3 (by decide))]
            unfold wp_X7_add
            rw [hz, sw_if_t (show nI s < (8 : Int32) from nI_lt (b := 8) c3 (by decide)), nI_clamp (by omega)]
            refine ⟨vp0 c3 (by decide), fun I3 e3 => ?_⟩
            rw [show I3 109 4 = nI s by rw [e3, sw_up_cell _ _ _ _ (by decide), hz], nI_clamp (by omega)]
            refine ⟨vp0 c3 (by decide), fun I6 e6 => ?_⟩
            rw [show I6 109 4 = nI s by rw [e6, sw_up_cell _ _ _ _ (by decide), e3, sw_up_cell _ _ _ _ (by decide), hz], nI_clamp (by omega)]
            refine ⟨vp0 c3 (by decide), fun I9 e9 I11 e11 => ?_⟩
            rw [show I9 109 4 = nI s by rw [e9, sw_up_cell _ _ _ _ (by decide), e6, sw_up_cell _ _ _ _ (by decide), e3, sw_up_cell _ _ _ _ (by decide), hz], nI_1] at e11
            rw [show I11 109 4 = nI (s + 1) by rw [e11, sw_up_same], e11, e9, e6, e3]
            exact h1 ⟨⟨k, hk, ek⟩, ⟨k2, hk2, ek2⟩, c, set_ix hn c2, c3⟩
          · rw [sw_if_f (show ¬ nI s < (8 : Int32) from nI_nlt (b := 8) (by omega) (by omega))]
            exact h0 (fun q => c3 q.2.2.2.2)
        · rw [sw_if_f c2]
          exact h0 (fun ⟨_, _, _, ⟨j, hj, ej⟩, _⟩ => c2 (by rw [ej]; exact ix_set hn hj))
theorem s_X10_saw {n fl s : Nat} (hn : n ≤ 10) (hfl : fl ≤ 9) (hs : s ≤ 8) {x y w : Int32} {I : sw_I} {J : sw_J} {Q : Int32 → sw_I → sw_J → Prop} (hr : I 140 4 = nI n) (hf : I 140 3 = nI fl) (hz : I 140 54 = nI s) (h0 : ¬ sawOK n fl s x y w → Q (-1) (sw_up I 140 0 0) J)
    (h1 : sawOK n fl s x y w → ∀ I2, eqm [167, 168, 169] [0, 54] I I2 → (I2 167 = fun j => if j = s then x else I 167 j) → (I2 168 = fun j => if j = s then y else I 168 j) → (I2 169 = fun j => if j = s then w else I 169 j) → I2 140 54 = nI (s + 1) → I2 140 0 = 0 → Q (nI (s + 1)) I2 J) : wp_X10_saw x y w I J Q := by
  intro I1 e1
  have no : ¬ sawOK n fl s x y w → Q (-1) I1 J := fun q => by rw [e1]; exact h0 q
  have m1 : ∀ k, k ≠ 0 → I1 140 k = I 140 k := fun k hk => by rw [e1, sw_up_slot _ _ _ _ hk]
  have f1 : I1 140 3 = nI fl := by rw [m1 _ (by decide)]; exact hf
  refine s_X10_isFloor (n := fl) (by omega) f1 (fun co => ?_) (fun k hk ek => ?_)
  · rw [sw_if_t rfl]; exact no (fun ⟨⟨j, hj, ej⟩, _⟩ => ix_out (by omega) hj ej co)
  · rw [sw_if_f (by decide)]
    refine s_X10_isFloor (n := fl) (by omega) f1 (fun co => ?_) (fun k2 hk2 ek2 => ?_)
    · rw [sw_if_t rfl]; exact no (fun ⟨_, ⟨j, hj, ej⟩, _⟩ => ix_out (by omega) hj ej co)
    · rw [sw_if_f (by decide)]
      by_cases c : x = w
      · rw [sw_if_t c]; exact no (fun q => q.2.2.1 c)
      · rw [sw_if_f c]
        refine s_X10_inSet (n := n) hn (by rw [m1 _ (by decide), hr]) (fun co => ?_) (fun j hj ej => ?_)
        · rw [sw_if_t rfl]; exact no (fun q => co q.2.2.2.1)
        · rw [sw_if_f (by decide)]
          have z1 : I1 140 54 = nI s := by rw [m1 _ (by decide)]; exact hz
          rw [z1]
          by_cases c3 : s = 8
          · rw [sw_if_t (by rw [c3]; rfl)]; exact no (fun q => by have := q.2.2.2.2; omega)
          · rw [sw_if_f (show ¬ nI s = (8 : Int32) from fun w => c3 ((nI_eq (b := 8) (by omega) (by decide)).mp w)), nI_clamp (by omega)]
            refine ⟨vp0 (by omega) (by decide), fun I3 e3 => ?_⟩
            have z3 : I3 140 54 = nI s := by rw [e3, sw_up_cell _ _ _ _ (by decide), z1]
            rw [z3, nI_clamp (by omega)]
            refine ⟨vp0 (by omega) (by decide), fun I6 e6 => ?_⟩
            have z6 : I6 140 54 = nI s := by rw [e6, sw_up_cell _ _ _ _ (by decide), z3]
            rw [z6, nI_clamp (by omega)]
            refine ⟨vp0 (by omega) (by decide), fun I9 e9 I11 e11 => ?_⟩
            rw [show I9 140 54 = nI s by rw [e9, sw_up_cell _ _ _ _ (by decide), z6], nI_1] at e11
            have z11 : I11 140 54 = nI (s + 1) := by rw [e11, sw_up_same]
            rw [z11]
            refine h1 ⟨⟨k, hk, ek⟩, ⟨k2, hk2, ek2⟩, c, ⟨j, hj, ej⟩, by omega⟩ I11 ?_ ?_ ?_ ?_ z11 ?_
            · rw [e11, e9, e6, e3, e1]; exact (((((eqm.rf.upF (by decide) _).upC (by decide) (by decide) _ _).upC (by decide) (by decide) _ _).upC (by decide) (by decide) _ _).upF (by decide) _)
            · rw [e11, sw_up_row _ _ _ (by decide), e9, sw_up_row _ _ _ (by decide), e6, sw_up_row _ _ _ (by decide), e3, sw_up_rowf, e1, sw_up_row _ _ _ (by decide)]
            · rw [e11, sw_up_row _ _ _ (by decide), e9, sw_up_row _ _ _ (by decide), e6, sw_up_rowf, e3, sw_up_row _ _ _ (by decide), e1, sw_up_row _ _ _ (by decide)]
            · rw [e11, sw_up_row _ _ _ (by decide), e9, sw_up_rowf, e6, sw_up_row _ _ _ (by decide), e3, sw_up_row _ _ _ (by decide), e1, sw_up_row _ _ _ (by decide)]
            · rw [e11, sw_up_slot _ _ _ _ (by decide), e9, sw_up_cell _ _ _ _ (by decide), e6, sw_up_cell _ _ _ _ (by decide), e3, sw_up_cell _ _ _ _ (by decide), e1, sw_up_same]
theorem p_saw {c : Nat} {x1 x2 x3 : Int32} {I : sw_I} {J : sw_J} {Q : Int32 → Int32 → sw_I → sw_J → Prop} (h : wW c I J) (hQ : ∀ v I2 J2, wW c I2 J2 → I2 140 0 = 0 → Q v v I2 J2) :
    wp_X9_saw x1 x2 x3 I J (fun r I1 J1 => wp_X10_saw x1 x2 x3 I1 J1 (fun r2 I2 J2 => Q r r2 I2 J2)) := by
  obtain ⟨n, fl, m, q, p, r, t, s, z, hw⟩ := h
  obtain ⟨h0, h1, h2, h3, h4, h5, h6, h7, h8⟩ := id hw
  have hn := h1.2.2.1
  obtain ⟨a1, a2, a3, a4, a5, a6, a7, a8, a9, a10, a11⟩ := id h1
  obtain ⟨s1, s2, s3, s4⟩ := id h7
  refine s_X9_saw hn a2 s1 a6 a4 s2 (fun hno => ?_) (fun ok => ?_)
  · exact s_X10_saw hn a2 s1 a7 a5 s3 (fun _ => hQ _ _ J (th_of hw rfl).1 (th_of hw rfl).2) (fun ok => absurd ok hno)
  · generalize e1 : sw_up (sw_up (sw_up (sw_up I 110 s x1) 111 s x2) 112 s x3) 109 4 (nI (s + 1)) = I1
    have q1 : eqm [109, 110, 111, 112, 167, 168, 169] [0, 54] I I1 := by
      rw [← e1]; exact (((eqm.rf.upC (by decide) (by decide) _ _).upC (by decide) (by decide) _ _).upC (by decide) (by decide) _ _).upC (by decide) (by decide) _ _
    have m1 : I1 140 = I 140 := by rw [← e1, sw_up_row _ _ _ (by decide), sw_up_row _ _ _ (by decide), sw_up_row _ _ _ (by decide), sw_up_row _ _ _ (by decide)]
    refine s_X10_saw hn a2 s1 (by rw [m1]; exact a7) (by rw [m1]; exact a5) (by rw [m1]; exact s3) (fun hno => absurd ok hno) (fun _ I2 b1 b2 b3 b4 b5 b6 => ?_)
    have e := q1.tr (b1.mono (by decide) (by decide))
    have g : ∀ c, c ∈ [109, 110, 111, 112] → I2 c = I1 c := fun c hc => b1.1 c (by revert c; decide) (by revert c; decide)
    have r1 : ∀ c, c ∈ [167, 168, 169] → I1 c = I c := fun c hc => by
      rw [← e1, sw_up_row _ _ _ (by revert c; decide), sw_up_row _ _ _ (by revert c; decide), sw_up_row _ _ _ (by revert c; decide), sw_up_row _ _ _ (by revert c; decide)]
    refine hQ _ I2 J ⟨n, fl, m, q, p, r, t, s + 1, z, ⟨h0.1, rb_of e (by decide) h0.2⟩, hs_of e (by decide) (by decide) h1, l_of e (by decide) (by decide) h2, now_of e (by decide) hn h3, past_of e (by decide) (by decide) hn h4, rw_of e (by decide) (by decide) h5, tx_of e (by decide) (by decide) h6, ⟨by have := ok.2.2.2.2; omega, ?_, b5, fun i hi => ?_⟩, kp_of e (by decide) (by decide) hn h8⟩ b6
    · rw [g _ (by decide), ← e1, sw_up_same]
    · have F1 : I1 110 = fun j => if j = s then x1 else I 110 j := by rw [← e1, sw_up_row _ _ _ (by decide), sw_up_row _ _ _ (by decide), sw_up_row _ _ _ (by decide), sw_up_rowf]
      have F2 : I1 111 = fun j => if j = s then x2 else I 111 j := by rw [← e1, sw_up_row _ _ _ (by decide), sw_up_row _ _ _ (by decide), sw_up_rowf, sw_up_row _ _ _ (by decide)]
      have F3 : I1 112 = fun j => if j = s then x3 else I 112 j := by rw [← e1, sw_up_row _ _ _ (by decide), sw_up_rowf, sw_up_row _ _ _ (by decide), sw_up_row _ _ _ (by decide)]
      rw [g 110 (by decide), g 111 (by decide), g 112 (by decide), F1, F2, F3, b2, b3, b4, r1 167 (by decide), r1 168 (by decide), r1 169 (by decide)]
      by_cases ci : i = s
      · simp only [ci, if_true]
        obtain ⟨⟨j1, hj1, ej1⟩, ⟨j2, hj2, ej2⟩, hne, ⟨j3, hj3, ej3⟩, -⟩ := ok
        refine ⟨trivial, trivial, trivial, ⟨j1, hj1, ej1⟩, ⟨j2, hj2, ej2⟩, hne, fun b hb hin => ?_⟩
        rw [ej3, nI_bit (Nat.lt_of_lt_of_le hj3 (Nat.le_trans (Nat.pow_le_pow_right (by decide) hn) (by decide))) hb] at hin
        rcases Nat.lt_or_ge b n with w | w
        · exact w
        · rw [Nat.testBit_lt_two_pow (Nat.lt_of_lt_of_le hj3 (Nat.pow_le_pow_right (by decide) w))] at hin
          exact absurd hin (by decide)
      · simp only [if_neg ci]
        exact s4 i (by omega)
