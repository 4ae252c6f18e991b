/-! promises: sign, saw -/
theorem nI_bit {j : Nat} (hj : j < 2 ^ 31) {k : Nat} (hk : k < 32) : inB (nI j) k = j.testBit k := by
  rw [inB_bt _ hk]
  show (Int32.ofNat j).toBitVec.getLsbD k = _
  rw [show (Int32.ofNat j).toBitVec = BitVec.ofNat 32 j from rfl, BitVec.getLsbD_ofNat, decide_eq_true hk, Bool.true_and]
theorem nI_bv (x : Int32) {j : Nat} (h : x.toBitVec.toNat = j) : x = nI j := by
  apply Int32.toBitVec_inj.mp
  show x.toBitVec = BitVec.ofNat 32 j
  rw [← h, BitVec.ofNat_toNat, BitVec.setWidth_eq]
theorem and_lt (x : Int32) {b : Nat} (hb : b ≤ 16) : ∃ j, j < 2 ^ b ∧ x &&& nI (2 ^ b - 1) = nI j := by
  refine ⟨(x &&& nI (2 ^ b - 1)).toBitVec.toNat, ?_, nI_bv _ rfl⟩
  rw [Int32.toBitVec_and, BitVec.toNat_and]
  have hp : 2 ^ b ≤ 2 ^ 16 := Nat.pow_le_pow_right (by decide) hb
  have hp0 : 0 < 2 ^ b := Nat.two_pow_pos b
  have e : (nI (2 ^ b - 1)).toBitVec.toNat = 2 ^ b - 1 := by
    show (BitVec.ofNat 32 (2 ^ b - 1)).toNat = _
    rw [BitVec.toNat_ofNat, Nat.mod_eq_of_lt (by omega)]
  rw [e]
  have := Nat.and_le_right (n := x.toBitVec.toNat) (m := 2 ^ b - 1)
  omega
theorem sg_eq {n : Nat} (hn : n ≤ 24) (x : Int32) : (x >>> (nI n &&& 31)) &&& 255 = ((x.toUInt32 >>> ((nI n).toUInt32 &&& Int32.toUInt32 31)).toInt32) &&& 255 := by
  refine b_ext (fun i hi => ?_)
  rw [b_and, b_and, b_255, b_sshr n (by omega) x hi, b_ushr n (by omega) x i]
  by_cases c : i < 8
  · rw [if_pos (by omega)]
  · rw [decide_eq_false c, Bool.and_false, Bool.and_false]
theorem sg_top (x : Int32) : ((x.toUInt32 >>> ((nI 24).toUInt32 &&& Int32.toUInt32 31)).toInt32) &&& 255 = (x.toUInt32 >>> ((nI 24).toUInt32 &&& Int32.toUInt32 31)).toInt32 := by
  refine b_ext (fun i hi => ?_)
  rw [b_and, b_255, b_ushr 24 (by decide) x i]
  by_cases c : i < 8
  · rw [decide_eq_true c, Bool.and_true]
  · rw [decide_eq_false c, Bool.and_false, b_big (by omega)]
theorem sg_low (x : Int32) : (x >>> (nI 0 &&& 31)) &&& 255 = x &&& 255 := by
  refine b_ext (fun i hi => ?_)
  rw [b_and, b_and, b_sshr 0 (by decide) x hi, Nat.zero_add, if_pos hi]
/-- the four signs of a number -/
def sgF (x : Int32) (k : Nat) : Int32 := (x >>> (nI (24 - 8 * k) &&& 31)) &&& 255
def tpF (row : Nat → Int32) (x : Int32) (t k : Nat) : Nat → Int32 := fun j => if t ≤ j ∧ j < t + k then sgF x (j - t) else row j
theorem tpF_0 (row : Nat → Int32) (x : Int32) (t : Nat) : tpF row x t 0 = row := by funext j; unfold tpF; rw [if_neg (by omega)]
theorem tpF_s (row : Nat → Int32) (x : Int32) (t k : Nat) : (fun j => if j = t + k then sgF x k else tpF row x t k j) = tpF row x t (k + 1) := by
  funext j
  unfold tpF
  by_cases c : j = t + k
  · rw [if_pos c, if_pos (by omega), c, Nat.add_sub_cancel_left]
  · rw [if_neg c]
    by_cases c2 : t ≤ j ∧ j < t + k
    · rw [if_pos c2, if_pos (by omega)]
    · rw [if_neg c2, if_neg (by omega)]
theorem s_X8_put {t k : Nat} {v x : Int32} (hv : v = sgF x k) (ht : t + k < 80) {I I0 : sw_I} {J : sw_J} {Q : sw_I → sw_J → Prop} (h1 : eqx [1, 2] I0 I) (h2 : I 1 1 = nI (t + k)) (h3 : I 2 = tpF (I0 2) x t k)
    (h : ∀ I2, eqx [1, 2] I0 I2 → I2 1 1 = nI (t + (k + 1)) → I2 2 = tpF (I0 2) x t (k + 1) → Q I2 J) : wp_X8_put v I J Q := by
  unfold wp_X8_put
  rw [h2, sw_if_t (show nI (t + k) < (80 : Int32) from nI_lt (b := 80) ht (by decide)), nI_clamp (by omega)]
  refine ⟨vp0 ht (by decide), fun I3 e3 I5 e5 => ?_⟩
  refine h I5 (by rw [e5, e3]; exact (h1.up (by decide) _ _).up (by decide) _ _) ?_ ?_
  · rw [e5, sw_up_same, e3, sw_up_cell _ _ _ _ (by decide), h2, nI_1]; rfl
  · rw [e5, sw_up_row _ _ _ (by decide), e3, sw_up_rowf, h3, hv]; exact tpF_s _ _ _ _
theorem s_sign_loop {t : Nat} (ht : t + 4 ≤ 80) {x : Int32} {I : sw_I} {J : sw_J} {Q : Int32 → sw_I → sw_J → Prop} (hu : I 140 12 = nI t) (h : ∀ I2, eqx [146] I I2 → I2 146 = tpF (I 146) x t 4 → Q (nI (t + 4)) (sw_up I2 140 12 (nI (t + 4))) J) :
    ∀ (d k : Nat) (I2 : sw_I), k + d = 4 → eqx [146] I I2 → I2 146 = tpF (I 146) x t k → wl_X10_sign_18 Q (d + 1) x (nI k) I2 J := by
  intro d
  induction d with
  | zero =>
    intro k I2 hk h1 h2
    obtain rfl : k = 4 := by omega
    show wb_X10_sign_18 _ Q _ _ I2 J
    unfold wb_X10_sign_18
    rw [sw_if_f (show ¬ nI 4 < (4 : Int32) by decide)]
    intro I3 e3
    rw [h1.at (by decide), hu, show nI t + (4 : Int32) = nI (t + 4) from nI_add t 4] at e3
    rw [show I3 140 12 = nI (t + 4) by rw [e3, sw_up_same], e3]
    exact h I2 h1 h2
  | succ d ih =>
    intro k I2 hk h1 h2
    show wb_X10_sign_18 _ Q _ _ I2 J
    unfold wb_X10_sign_18
    rw [sw_if_t (show nI k < (4 : Int32) from nI_lt (b := 4) (by omega) (by decide)), h1.at (by decide), hu, nI_add, nI_clamp (by omega)]
    refine ⟨vp0 (by omega) (by decide), fun I3 e3 y hy => ?_⟩
    rw [hy, nI_1]
    refine ih (k + 1) I3 (by omega) (by rw [e3]; exact h1.up (by decide) _ _) ?_
    have ev : (x >>> (((24 : Int32) - (8 : Int32) * nI k) &&& 31)) &&& (255 : Int32) = sgF x k := by
      have : ∀ k, k < 4 → (24 : Int32) - 8 * nI k = nI (24 - 8 * k) := by decide
      rw [this k (by omega)]; rfl
    rw [e3, sw_up_rowf, h2, ev]; exact tpF_s _ _ _ _
theorem p_sign {c : Nat} {x1 : Int32} {I : sw_I} {J : sw_J} {Q : Int32 → Int32 → sw_I → sw_J → Prop} (h : wW c I J) (hQ : ∀ v I2 J2, wW c I2 J2 → I2 140 0 = 0 → Q v v I2 J2) :
    wp_X9_sign x1 I J (fun r I1 J1 => wp_X10_sign x1 I1 J1 (fun r2 I2 J2 => Q r r2 I2 J2)) := by
  obtain ⟨n, fl, m, q, p, r, t, s, z, hw⟩ := h
  obtain ⟨h0, h1, h2, h3, h4, h5, h6, h7, h8⟩ := id hw
  have hn := h1.2.2.1
  obtain ⟨t1, t2, t3, t4⟩ := id h6
  unfold wp_X9_sign
  rw [t2, show nI t + (4 : Int32) = nI (t + 4) from nI_add t 4]
  by_cases c : 76 < t
  · rw [sw_if_t (show (80 : Int32) < nI (t + 4) from nI_lt (a := 80) (by omega) (by omega))]
    intro I2 e2
    rw [sw_if_t (show (76 : Int32) < I2 140 12 by rw [e2, sw_up_slot _ _ _ _ (by decide), t3]; exact nI_lt (a := 76) c (by omega))]
    exact hQ _ I2 J (th_of hw e2).1 (th_of hw e2).2
  · rw [sw_if_f (show ¬ (80 : Int32) < nI (t + 4) from nI_nlt (a := 80) (by omega) (by decide))]
    refine s_X8_put (t := t) (k := 0) (x := x1) (by rw [show (x1.toUInt32 >>> ((24 : Int32).toUInt32 &&& Int32.toUInt32 31)).toInt32 = ((x1.toUInt32 >>> ((nI 24).toUInt32 &&& Int32.toUInt32 31)).toInt32) from rfl, ← sg_top, ← sg_eq (by decide)]; rfl) (by omega) eqx.rf t2 (tpF_0 _ _ _).symm (fun I1 a1 b1 d1 => ?_)
    refine s_X8_put (t := t) (k := 1) (x := x1) ((sg_eq (n := 16) (by decide) x1).symm) (by omega) a1 b1 d1 (fun I2 a2 b2 d2 => ?_)
    refine s_X8_put (t := t) (k := 2) (x := x1) ((sg_eq (n := 8) (by decide) x1).symm) (by omega) a2 b2 d2 (fun I3 a3 b3 d3 => ?_)
    refine s_X8_put (t := t) (k := 3) (x := x1) ((sg_low x1).symm) (by omega) a3 b3 d3 (fun I4 a4 b4 d4 => ?_)
    rw [b4]
    intro I5 e5
    have f5 : ∀ c, c ≠ 140 → I5 c = I4 c := fun c hc => by rw [e5, sw_up_row _ _ _ hc]
    have m5 : ∀ k, k ≠ 0 → I5 140 k = I 140 k := fun k hk => by rw [e5, sw_up_slot _ _ _ _ hk, a4 _ (by decide)]
    have t5 : I5 140 12 = nI t := by rw [m5 _ (by decide)]; exact t3
    rw [sw_if_f (show ¬ (76 : Int32) < I5 140 12 by rw [t5]; exact nI_nlt (a := 76) (by omega) (by decide))]
    refine ⟨5, s_sign_loop (t := t) (by omega) t5 (fun I6 x6 r6 => ?_) 4 0 I5 (by omega) eqx.rf (tpF_0 _ _ _).symm⟩
    generalize e7 : sw_up I6 140 12 (nI (t + 4)) = I7
    have e : eqm [1, 2, 146] [0, 12] I I7 := by
      have q5 : eqm [1, 2, 146] [0, 12] I I5 := by rw [e5]; exact (a4.eqm (by decide) (by decide)).upF (by decide) _
      rw [← e7]; exact (q5.tr (x6.eqm (by decide) (by decide))).upF (by decide) _
    have g7 : ∀ c, c ≠ 140 → c ≠ 146 → I7 c = I4 c := fun c c1 c2 => by rw [← e7, sw_up_row _ _ _ c1, x6 c (by simpa using c2), f5 c c1]
    have r7 : I7 146 = tpF (I 146) x1 t 4 := by rw [← e7, sw_up_row _ _ _ (by decide), r6, f5 _ (by decide), a4 _ (by decide)]
    refine hQ _ I7 J ⟨n, fl, m, q, p, r, t + 4, s, z, ⟨h0.1, rb_of e (by decide) h0.2⟩, hs_of e (by decide) (by decide) h1, l_of e (by decide) (by decide) h2, now_of e (by decide) hn h3, past_of e (by decide) (by decide) hn h4, rw_of e (by decide) (by decide) h5, ⟨by omega, ?_, ?_, fun i hi => ?_⟩, sn_of e (by decide) (by decide) h7, kp_of e (by decide) (by decide) hn h8⟩ ?_
    · rw [g7 _ (by decide) (by decide), b4]
    · rw [← e7, sw_up_same]
    · rw [g7 _ (by decide) (by decide), d4, r7]
      unfold tpF
      by_cases ci : t ≤ i ∧ i < t + 4
      · rw [if_pos ci, if_pos ci]
        obtain ⟨j, hj, ej⟩ := and_lt (x1 >>> (nI (24 - 8 * (i - t)) &&& 31)) (b := 8) (by decide)
        exact ⟨rfl, j, hj, ej⟩
      · rw [if_neg ci, if_neg ci]; exact t4 i (by omega)
    · rw [← e7, sw_up_slot _ _ _ _ (by decide), x6 _ (by decide), e5, sw_up_same]
/-- those of a set are among the first n -/
theorem set_ix {n : Nat} (hn : n ≤ 10) {x : Int32} (h : x &&& ((((1 : Int32) <<< (nI n &&& 31)) - 1) ^^^ (-1)) = 0) : ∃ j, j < 2 ^ n ∧ x = nI j := by
  obtain ⟨j, hj, ej⟩ := and_lt x (b := n) (by omega)
  refine ⟨j, hj, ?_⟩
  rw [← ej, ← ev_eq n hn]
  refine inB_ext (fun k hk => ?_)
  have hb : inB (x &&& ((((1 : Int32) <<< (nI n &&& 31)) - 1) ^^^ (-1))) k = false := by rw [h]; exact inB_0 hk
  rw [inB_and _ _ hk, inB_not _ hk, ev_bit n hn k hk] at hb
  rw [inB_and _ _ hk, ev_bit n hn k hk]
  cases h1 : inB x k <;> cases h2 : decide (k < n) <;> simp_all
theorem ix_set {n j : Nat} (hn : n ≤ 10) (hj : j < 2 ^ n) : nI j &&& ((((1 : Int32) <<< (nI n &&& 31)) - 1) ^^^ (-1)) = 0 := by
  have hp : 2 ^ n ≤ 2 ^ 10 := Nat.pow_le_pow_right (by decide) hn
  refine inB_ext (fun k hk => ?_)
  rw [inB_and _ _ hk, inB_not _ hk, ev_bit n hn k hk, inB_0 hk, nI_bit (by omega) hk]
  by_cases c : k < n
  · rw [decide_eq_true c]; simp
  · rw [Nat.testBit_lt_two_pow (Nat.lt_of_lt_of_le hj (Nat.pow_le_pow_right (by decide) (by omega)))]; simp
theorem s_X10_inSet {n : Nat} (hn : n ≤ 10) {x : Int32} {w2 : Int64} {I : sw_I} {J : sw_J} {Q : Int32 → sw_I → sw_J → Prop} (hw : w2 = ((((1 : Int32) <<< (nI n &&& 31)) - 1).toInt64)) (h0 : (¬ ∃ j, j < 2 ^ n ∧ x = nI j) → Q 0 I J) (h1 : ∀ j, j < 2 ^ n → x = nI j → Q 1 I J) : wp_X10_in x.toInt64 0 w2 I J Q := by
  have hp : 2 ^ n ≤ 2 ^ 10 := Nat.pow_le_pow_right (by decide) hn
  have hp0 : 0 < 2 ^ n := Nat.two_pow_pos n
  refine s_X10_in (a := 0) (b := nI (2 ^ n - 1)) rfl (by rw [hw, ev_eq n hn]) (fun c => h0 (fun ⟨j, hj, ej⟩ => ?_)) (fun c1 c2 => ?_)
  · rcases c with w | w
    · rw [ej] at w; exact nI_pos (by omega) w
    · rw [ej] at w; exact nI_nlt (by omega) (by omega) w
  · obtain ⟨j, hj, ej⟩ := ixN (n := 2 ^ n) (by omega) c1 (fun w => c2 (by
      refine Int32.lt_of_lt_of_le (nI_lt (b := 2 ^ n) (by omega) (by omega)) w))
    exact h1 j hj ej
