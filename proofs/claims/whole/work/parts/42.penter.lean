theorem s_X10_canEnter {n fl : Nat} {pl wi rd : Nat → Int32} {ins lift rides x : Int32} (hn : n ≤ 10) (hfl : fl ≤ 9) {I : sw_I} {J : sw_J} {Q : Int32 → sw_I → sw_J → Prop} (hr : I 140 4 = nI n) (hR : relF pl wi rd ins lift rides (I 144) n fl) (hv : valF pl wi ins lift n fl)
    (h0 : (x < 0 ∨ nI n ≤ x) → Q 0 I J) (h1 : ∀ k, k < n → x = nI k → Q (if sdB pl ins lift k then 1 else 0) I J) : wp_X10_canEnter x I J Q := by
  unfold wp_X10_canEnter
  refine s_X10_isRider hn hr (fun c => by rw [sw_if_t rfl]; exact h0 c) (fun k hk e => ?_)
  rw [sw_if_f (by decide)]
  have q := h1 k hk e
  subst e
  rw [nI_clamp (by omega)]
  obtain ⟨l, hl, el⟩ := hv.2.2.1
  have e31 : I 144 (31 : Int32).toNatClampNeg = lift := hR.2.2.1.symm
  have e30 : I 144 (30 : Int32).toNatClampNeg = ins := hR.2.1.symm
  have key : (I 144 k = lift) ↔ (pl k = lift) := by
    have := plR_at (f := l) (hR.1 k hk).1 (by omega)
    rw [← el, decide_eq_decide] at this
    exact this.symm
  rw [e31, e30]
  refine ⟨vp0 (by omega) (by decide), fun c => s_X10_has ?_, fun c => ?_⟩
  · have c2 := key.mp c
    cases hb : inB ins k
    · rw [sw_if_t (by simp)]; simpa [sdB, c2, hb] using q
    · rw [sw_if_f (by simp)]; simpa [sdB, c2, hb] using q
  · have c2 : ¬ pl k = lift := fun w => c (key.mpr w)
    simpa [sdB, c2] using q
theorem s_X10_canLeave {n : Nat} {x : Int32} (hn : n ≤ 10) {I : sw_I} {J : sw_J} {Q : Int32 → sw_I → sw_J → Prop} (hr : I 140 4 = nI n)
    (h0 : (x < 0 ∨ nI n ≤ x) → Q 0 I J) (h1 : ∀ k, k < n → x = nI k → Q (if inB (I 144 30) k then 1 else 0) I J) : wp_X10_canLeave x I J Q := by
  unfold wp_X10_canLeave
  refine s_X10_isRider hn hr (fun c => by rw [sw_if_t rfl]; exact h0 c) (fun k hk e => ?_)
  rw [sw_if_f (by decide)]
  have q := h1 k hk e
  subst e
  have e30 : I 144 (30 : Int32).toNatClampNeg = I 144 30 := rfl
  rw [e30]
  refine s_X10_has ?_
  cases hb : inB (I 144 30) k
  · rw [sw_if_t (by simp)]; simpa [hb] using q
  · rw [sw_if_f (by simp)]; simpa [hb] using q
/-- promise: enter -/
theorem p_enter {c : Nat} {x : Int32} {I : sw_I} {J : sw_J} {Q : Int32 → Int32 → sw_I → sw_J → Prop} (h : wW c I J) (hQ : ∀ v I2 J2, wW c I2 J2 → I2 140 0 = 0 → Q v v I2 J2) :
    wp_X9_enter x I J (fun r I1 J1 => wp_X10_enter x I1 J1 (fun r2 I2 J2 => Q r r2 I2 J2)) := by
  obtain ⟨n, fl, m, q, p, r, t, s, z, hw⟩ := h
  obtain ⟨h0, h1, h2, h3, h4, h5, h6, h7, h8⟩ := id hw
  have hn := h1.2.2.1
  have hr := h1.2.2.2.2.2.2.1
  obtain ⟨v1, v2, ⟨l, hl, el⟩, v4⟩ := id h3.2
  have no : (∀ k, k < n → x = nI k → sdB (I (13 + 1)) (I 13 3) (I 13 4) k = false) → wp_X10_enter x I J (fun r2 I2 J2 => Q 0 r2 I2 J2) := by
    intro hno I2 e2
    have e : eqm [] [0] I I2 := by rw [e2]; exact eqm.rf.upF (by decide) _
    have fin : Q 0 0 I2 J := hQ 0 I2 J ⟨n, fl, m, q, p, r, t, s, z, wR_scr hw (e.mono (by decide) (by decide)) rfl rfl⟩ (by rw [e2, sw_up_same])
    refine s_X10_canEnter hn h1.2.1 (by rw [e.2 _ (by decide)]; exact hr) (by rw [e.1 _ (by decide) (by decide)]; exact h3.1) h3.2 (fun _ => by rw [sw_if_t rfl]; exact fin) (fun k hk ek => ?_)
    rw [hno k hk ek, sw_if_t (by simp)]; exact fin
  unfold wp_X9_enter
  refine s_X3_stands_any (fun co => ?_) (fun k hk ek => ?_)
  · rw [sw_if_t rfl]
    refine no (fun k hk ek => absurd co (fun w => ?_))
    exact ix_out (n := 10) (by decide) (by omega) ek w
  · cases hb : sdB (I (13 + 1)) (I 13 3) (I 13 4) k
    · rw [sw_if_t (by simp)]
      refine no (fun k2 hk2 ek2 => ?_)
      have := (nI_eq (by omega) (by omega)).mp (ek2.symm.trans ek)
      rw [this]; exact hb
    · rw [sw_if_f (by simp)]
      simp only [sdB, Bool.and_eq_true, decide_eq_true_eq, Bool.not_eq_true'] at hb
      have hkn : k < n := by
        rcases Nat.lt_or_ge k n with w | w
        · exact w
        · have := v2 k w hk
          rw [hb.1, el] at this
          exact absurd this.symm (nem1 (by have := h1.2.1; omega))
      refine c_ins (f := fun y => y ||| ((1 : Int32) <<< (x &&& 31))) h4 (fun I1 a1 a2 a3 a4 a5 => ?_)
      intro Im em
      have eI : ∀ c, c ≠ 140 → Im c = I1 c := fun c hc => by rw [em, sw_up_row _ _ _ hc]
      have en : Im 144 = I 144 := by rw [eI _ (by decide), a1 _ (by decide) (by decide) (by have := h4.1; omega)]
      have emm : ∀ k, k ≠ 0 → Im 140 k = I 140 k := fun k hk => by rw [em, sw_up_slot _ _ _ _ hk, a1 _ (by decide) (by decide) (by have := h4.1; omega)]
      refine s_X10_canEnter hn h1.2.1 (by rw [emm _ (by decide)]; exact hr) (by rw [en]; exact h3.1) h3.2 (fun co => absurd co (fun w => ix_out (by omega) hkn ek w)) (fun k2 hk2 ek2 => ?_)
      have ekk := (nI_eq (by omega) (by omega)).mp (ek2.symm.trans ek)
      have hb2 : sdB (I (13 + 1)) (I 13 3) (I 13 4) k2 = true := by rw [ekk]; simp [sdB, hb.1, hb.2]
      rw [hb2, sw_if_f (by simp)]
      refine m_ins (f := fun y => y ||| ((1 : Int32) <<< (x &&& 31))) h4.2.1 (by rw [emm _ (by decide)]; exact h4.2.2.2.2.1) (fun I2 b1 b2 b3 b4 => ?_)
      have e30 : Im 144 30 = I 13 3 := by rw [en]; exact h3.1.2.1.symm
      refine hQ 1 I2 J ⟨n, fl, m, _, _, r, t, s, z, ins_R hw (fun i hi hbi => ?_) a1 a2 a3 a4 a5 (Im := Im) (by rw [em]; exact eqm.rf.upF (by decide) _) b1 (by rw [b2, e30]) b3 b4⟩ ?_
      · rw [inB_or _ _ hi, ek, inB_one k (by omega) i hi, Bool.or_eq_true, decide_eq_true_eq] at hbi
        rcases hbi with w | w
        · exact v4 i hi w
        · rw [w]; exact ⟨hkn, hb.1⟩
      · rw [b1.2 _ (by decide), em, sw_up_same]
/-- promise: leave -/
theorem p_leave {c : Nat} {x : Int32} {I : sw_I} {J : sw_J} {Q : Int32 → Int32 → sw_I → sw_J → Prop} (h : wW c I J) (hQ : ∀ v I2 J2, wW c I2 J2 → I2 140 0 = 0 → Q v v I2 J2) :
    wp_X9_leave x I J (fun r I1 J1 => wp_X10_leave x I1 J1 (fun r2 I2 J2 => Q r r2 I2 J2)) := by
  obtain ⟨n, fl, m, q, p, r, t, s, z, hw⟩ := h
  obtain ⟨h0, h1, h2, h3, h4, h5, h6, h7, h8⟩ := id hw
  have hn := h1.2.2.1
  have hr := h1.2.2.2.2.2.2.1
  obtain ⟨v1, v2, ⟨l, hl, el⟩, v4⟩ := id h3.2
  have no : (∀ k, k < n → x = nI k → inB (I 13 3) k = false) → wp_X10_leave x I J (fun r2 I2 J2 => Q 0 r2 I2 J2) := by
    intro hno I2 e2
    have e : eqm [] [0] I I2 := by rw [e2]; exact eqm.rf.upF (by decide) _
    have fin : Q 0 0 I2 J := hQ 0 I2 J ⟨n, fl, m, q, p, r, t, s, z, wR_scr hw (e.mono (by decide) (by decide)) rfl rfl⟩ (by rw [e2, sw_up_same])
    refine s_X10_canLeave hn (by rw [e.2 _ (by decide)]; exact hr) (fun _ => by rw [sw_if_t rfl]; exact fin) (fun k hk ek => ?_)
    rw [e.1 _ (by decide) (by decide), ← h3.1.2.1, hno k hk ek, sw_if_t (by simp)]; exact fin
  unfold wp_X9_leave
  refine s_X3_isIn_any (fun co => ?_) (fun k hk ek => ?_)
  · rw [sw_if_t rfl]
    refine no (fun k hk ek => absurd co (fun w => ?_))
    exact ix_out (n := 10) (by decide) (by omega) ek w
  · cases hb : inB (I 13 3) k
    · rw [sw_if_t (by simp)]
      refine no (fun k2 hk2 ek2 => ?_)
      have := (nI_eq (by omega) (by omega)).mp (ek2.symm.trans ek)
      rw [this]; exact hb
    · rw [sw_if_f (by simp)]
      have hkn : k < n := (v4 k (by omega) hb).1
      refine c_ins (f := fun y => y &&& (((1 : Int32) <<< (x &&& 31)) ^^^ (-1))) h4 (fun I1 a1 a2 a3 a4 a5 => ?_)
      intro Im em
      have eI : ∀ c, c ≠ 140 → Im c = I1 c := fun c hc => by rw [em, sw_up_row _ _ _ hc]
      have en : Im 144 = I 144 := by rw [eI _ (by decide), a1 _ (by decide) (by decide) (by have := h4.1; omega)]
      have emm : ∀ k, k ≠ 0 → Im 140 k = I 140 k := fun k hk => by rw [em, sw_up_slot _ _ _ _ hk, a1 _ (by decide) (by decide) (by have := h4.1; omega)]
      have e30 : Im 144 30 = I 13 3 := by rw [en]; exact h3.1.2.1.symm
      refine s_X10_canLeave hn (by rw [emm _ (by decide)]; exact hr) (fun co => absurd co (fun w => ix_out (by omega) hkn ek w)) (fun k2 hk2 ek2 => ?_)
      have ekk := (nI_eq (by omega) (by omega)).mp (ek2.symm.trans ek)
      rw [e30, ekk, hb, sw_if_f (by simp)]
      refine m_ins (f := fun y => y &&& (((1 : Int32) <<< (x &&& 31)) ^^^ (-1))) h4.2.1 (by rw [emm _ (by decide)]; exact h4.2.2.2.2.1) (fun I2 b1 b2 b3 b4 => ?_)
      refine hQ 1 I2 J ⟨n, fl, m, _, _, r, t, s, z, ins_R hw (fun i hi hbi => ?_) a1 a2 a3 a4 a5 (Im := Im) (by rw [em]; exact eqm.rf.upF (by decide) _) b1 (by rw [b2, e30]) b3 b4⟩ ?_
      · rw [inB_and _ _ hi, Bool.and_eq_true] at hbi
        exact v4 i hi hbi.1
      · rw [b1.2 _ (by decide), em, sw_up_same]
