/-! the reference reads a text -/
def tpS (I : sw_I) (T : Nat → Int32) (p to : Nat) : Prop := I 140 13 = nI p ∧ I 140 14 = nI to ∧ p ≤ to ∧ to ≤ 80 ∧ ∀ i, i < to → I 146 i = T i ∧ ∃ j, j < 256 ∧ T i = nI j
theorem tpS_of {I I2 : sw_I} {T : Nat → Int32} {p p2 to : Nat} {C F : List Nat} (h : tpS I T p to) (e : eqm C F I I2) (hc : 146 ∉ C) (hf : 14 ∉ F) (h1 : I2 140 13 = nI p2) (h2 : p2 ≤ to) : tpS I2 T p2 to := by
  obtain ⟨a1, a2, a3, a4, a5⟩ := h
  refine ⟨h1, by rw [e.2 _ hf]; exact a2, h2, a4, fun i hi => by rw [e.1 _ hc (by decide)]; exact a5 i hi⟩
theorem s_takes {T : Nat → Int32} {p to : Nat} {c : Int32} {I : sw_I} {J : sw_J} {Q : Int32 → sw_I → sw_J → Prop} (hs : tpS I T p to) (h0 : ¬ (p < to ∧ T p = c) → ∀ I2, eqm [] [13] I I2 → tpS I2 T p to → Q 0 I2 J) (h1 : p < to → T p = c → ∀ I2, eqm [] [13] I I2 → tpS I2 T (p + 1) to → Q 1 I2 J) : wp_X10_takes c I J Q := by
  obtain ⟨a1, a2, a3, a4, a5⟩ := id hs
  unfold wp_X10_takes
  rw [a1, a2]
  have no : ¬ (p < to ∧ T p = c) → wB_X10_takes_28 Q I J := by
    intro hno
    unfold wB_X10_takes_28 wB_X10_takes_29
    refine s_X10_flag ?_
    rw [if_pos rfl]
    intro I2 e2
    refine ⟨Or.inl rfl, h0 hno I2 ?_ ?_⟩
    · rw [e2]; exact eqm.rf.upF (by decide) _
    · refine tpS_of (C := []) (F := [13]) hs (by rw [e2]; exact eqm.rf.upF (by decide) _) (by decide) (by decide) ?_ a3
      rw [e2, sw_up_same, a1]; simp
  by_cases c1 : p < to
  · rw [sw_if_t (nI_lt c1 (by omega)), nI_clamp (by omega), (a5 p c1).1]
    refine ⟨vp0 (by omega) (by decide), fun c2 => ?_, fun c2 => no (fun q => c2 q.2)⟩
    unfold wB_X10_takes_29
    refine s_X10_flag ?_
    rw [if_neg (by decide)]
    intro I2 e2
    refine ⟨Or.inr rfl, h1 c1 c2 I2 ?_ ?_⟩
    · rw [e2]; exact eqm.rf.upF (by decide) _
    · refine tpS_of (C := []) (F := [13]) hs (by rw [e2]; exact eqm.rf.upF (by decide) _) (by decide) (by decide) ?_ (by omega)
      rw [e2, sw_up_same, a1, nI_1]
  · rw [sw_if_f (nI_nlt (by omega) (by omega))]
    exact no (fun q => c1 q.1)
theorem s_isDigit {T : Nat → Int32} {p to : Nat} {I : sw_I} {J : sw_J} {Q : Int32 → sw_I → sw_J → Prop} (hs : tpS I T p to) (h0 : ¬ (p < to ∧ ¬ T p < 48 ∧ ¬ (57 : Int32) < T p) → Q 0 I J) (h1 : p < to → ¬ T p < 48 → ¬ (57 : Int32) < T p → Q 1 I J) : wp_X10_isDigit I J Q := by
  obtain ⟨a1, a2, a3, a4, a5⟩ := id hs
  unfold wp_X10_isDigit
  rw [a1, a2]
  by_cases c1 : p < to
  · rw [sw_if_t (nI_lt c1 (by omega)), nI_clamp (by omega), (a5 p c1).1]
    refine ⟨vp0 (by omega) (by decide), s_X10_in (a := 48) (b := 57) rfl rfl (fun co => ?_) (fun c2 c3 => ?_)⟩
    · rw [sw_if_t rfl]; exact h0 (fun q => by rcases co with z | z; exact q.2.1 z; exact q.2.2 z)
    · rw [sw_if_f (by decide)]; exact h1 c1 c2 c3
  · rw [sw_if_f (nI_nlt (by omega) (by omega))]
    exact h0 (fun q => c1 q.1)
theorem fl_dig {fl j : Nat} (hfl : fl ≤ 9) (hj : j < 256) (h : flB fl (nI j) = true) : ∃ k, k < fl ∧ nI j - 48 = nI k ∧ ¬ nI j < 48 ∧ ¬ (57 : Int32) < nI j := by
  unfold flB at h
  simp only [decide_eq_true_eq] at h
  obtain ⟨k, hk, ek⟩ := ixN (n := fl) (by omega) h.1 h.2
  refine ⟨k, hk, ek, ?_, ?_⟩
  · intro q
    have e : nI j = nI (k + 48) := by
      have : nI j - 48 + 48 = nI k + 48 := by rw [ek]
      rw [Int32.sub_add_cancel, show (48 : Int32) = nI 48 from rfl, nI_add] at this; exact this
    have := (nI_eq (by omega) (by omega)).mp e
    exact nI_nlt (a := j) (b := 48) (by omega) (by omega) q
  · intro q
    have e : nI j = nI (k + 48) := by
      have : nI j - 48 + 48 = nI k + 48 := by rw [ek]
      rw [Int32.sub_add_cancel, show (48 : Int32) = nI 48 from rfl, nI_add] at this; exact this
    have := (nI_eq (by omega) (by omega)).mp e
    exact nI_nlt (a := 57) (b := j) (by omega) (by omega) q
theorem s_readsFloor {T : Nat → Int32} {p to fl : Nat} (hfl : fl ≤ 9) {I : sw_I} {J : sw_J} {Q : Int32 → sw_I → sw_J → Prop} (hs : tpS I T p to) (hf : I 140 3 = nI fl) (h0 : ¬ (p < to ∧ flB fl (T p) = true) → Q (-1) I J) (h1 : p < to → flB fl (T p) = true → (∃ k, k < fl ∧ T p - 48 = nI k) → ∀ I2, eqm [] [13] I I2 → tpS I2 T (p + 1) to → Q (T p - 48) I2 J) : wp_X10_readsFloor I J Q := by
  obtain ⟨a1, a2, a3, a4, a5⟩ := id hs
  unfold wp_X10_readsFloor
  refine s_isDigit hs (fun hno => ?_) (fun c1 c2 c3 => ?_)
  · rw [sw_if_t rfl]
    refine h0 (fun q => hno ?_)
    obtain ⟨-, j, hj, ej⟩ := a5 p q.1
    have q2 := q.2
    rw [ej] at q2 ⊢
    obtain ⟨k, -, -, d1, d2⟩ := fl_dig hfl hj q2
    exact ⟨q.1, d1, d2⟩
  · rw [sw_if_f (by decide), a1, nI_clamp (by omega), (a5 p c1).1]
    refine ⟨vp0 (by omega) (by decide), s_X10_isFloor (n := fl) (by omega) hf (fun co => ?_) (fun k hk ek => ?_)⟩
    · rw [sw_if_t rfl]
      exact h0 (fun q => by
        have := q.2; unfold flB at this; simp only [decide_eq_true_eq] at this
        rcases co with z | z; exact this.1 z; exact this.2 z)
    · rw [sw_if_f (by decide)]
      intro I2 e2
      rw [a1, nI_1] at e2
      have g2 : I2 140 13 = nI (p + 1) := by rw [e2, sw_up_same]
      have q2 : eqm [] [13] I I2 := by rw [e2]; exact eqm.rf.upF (by decide) _
      rw [g2, nI_pred, nI_clamp (by omega), q2.1 _ (by decide) (by decide), (a5 p c1).1]
      refine ⟨vp0 (by omega) (by decide), h1 c1 ?_ ⟨k, hk, ek⟩ I2 q2 (tpS_of hs q2 (by decide) (by decide) g2 (by omega))⟩
      unfold flB; exact decide_eq_true ⟨by rw [ek]; exact nI_pos (by omega), by rw [ek]; exact nI_ge hk (by omega)⟩
def wsT (T : Nat → Int32) (p : Nat) : Int32 := if T (p + 2) = 45 then -1 else T (p + 2) - 48
abbrev rdA : List Nat := [147, 148, 149]
/-- what reading one rider leaves -/
def rdK (I I2 : sw_I) (k : Nat) : Prop := ∀ c, c ∈ rdA → ∀ j, j ≠ k → I2 c j = I c j
theorem rdK.up {I I2 : sw_I} {k : Nat} (h : rdK I I2 k) (a : Nat) (v : Int32) : rdK I (sw_up I2 a k v) k := fun c hc j hj => by rw [sw_up_slot _ _ _ _ hj]; exact h c hc j hj
theorem rdK.tr {I I2 I3 : sw_I} {k : Nat} {F : List Nat} (h : rdK I I2 k) (e : eqm [] F I2 I3) : rdK I I3 k := fun c hc j hj => by rw [e.1 c (by simp) (by revert c; decide)]; exact h c hc j hj
theorem s_readsRider {T : Nat → Int32} {p to fl n l : Nat} {lift : Int32} (hfl : fl ≤ 9) (hn : n + l ≤ 10) {I : sw_I} {J : sw_J} {Q : Int32 → sw_I → sw_J → Prop} (hs : tpS I T p to) (hf : I 140 3 = nI fl) (hr : I 140 4 = nI n) (hl : I 140 19 = nI l) (hlift : I 144 31 = lift)
    (hfull : n + l = 10 → Q 0 I J)
    (h0 : n + l < 10 → ∀ e, lnE T fl to p = some e → ∀ I2, eqm rdA [13] I I2 → tpS I2 T e to → Q 0 I2 J)
    (h1 : n + l < 10 → lnE T fl to p = none → ∀ I2, eqm rdA [13, 19, 20] I I2 → tpS I2 T (lnQ T to lift p) to → I2 140 19 = nI (l + 1) → I2 140 20 = (if lnI T to lift p then I 140 20 ||| ((1 : Int32) <<< (nI (n + l) &&& 31)) else I 140 20) → rdK I I2 (n + l) → I2 147 (n + l) = T p - 48 → I2 148 (n + l) = wsT T p → I2 149 (n + l) = T (p + 4) - 48 → (∃ k, k < fl ∧ T p - 48 = nI k) → fw fl (wsT T p) → (∃ k, k < fl ∧ T (p + 4) - 48 = nI k) → Q 1 I2 J) : wp_X10_readsRider I J Q := by
  intro y hy
  rw [hr, hl, nI_add] at hy
  rw [hy]
  by_cases c10 : n + l = 10
  · rw [sw_if_t (by rw [c10]; rfl)]; exact hfull c10
  rw [sw_if_f (show ¬ nI (n + l) = (10 : Int32) from fun q => c10 ((nI_eq (b := 10) (by omega) (by decide)).mp q)), nI_clamp (by omega)]
  have hlt : n + l < 10 := by omega
  have vp : vp_in (nI (n + l)) 10 := vp0 (by omega) (by decide)
  unfold lnE at h0 h1
  refine s_readsFloor hfl hs hf (fun k0 => ⟨vp, fun I2 e2 => ⟨vp, ?_⟩⟩) (fun p0 b0 r0 I1 q1 s1 => ⟨vp, fun I2 e2 => ⟨vp, ?_⟩⟩)
  · rw [if_pos k0] at h0
    rw [e2, sw_up_same, sw_if_t (by decide)]
    have q2 : eqm rdA [13] I (sw_up I 147 (n + l) (-1)) := eqm.rf.upC (by decide) (by decide) _ _
    exact h0 hlt p rfl _ q2 (tpS_of hs q2 (by decide) (by decide) (by rw [sw_up_cell _ _ _ _ (by decide)]; exact hs.1) hs.2.2.1)
  · have k0 : ¬ ¬ (p < to ∧ flB fl (T p) = true) := fun q => q ⟨p0, b0⟩
    rw [if_neg k0] at h0 h1
    have g2 : I2 147 (n + l) = T p - 48 := by rw [e2, sw_up_same]
    have q2 : eqm rdA [13] I I2 := by rw [e2]; exact (q1.mono (by decide) (by decide)).upC (by decide) (by decide) _ _
    have s2 : tpS I2 T (p + 1) to := tpS_of hs q2 (by decide) (by decide) (by rw [e2, sw_up_cell _ _ _ _ (by decide)]; exact s1.1) (by omega)
    have kk2 : rdK I I2 (n + l) := by rw [e2]; exact (rdK.tr (fun _ _ _ _ => rfl) q1).up _ _
    rw [g2]
    obtain ⟨h1', hh1', eh1'⟩ := id r0
    rw [sw_if_f (by rw [eh1']; exact nI_pos (by omega))]
    refine s_takes s2 (fun k1 I3 q3 s3 => ?_) (fun p1 b1 I3 q3 s3 => ?_)
    · rw [sw_if_t rfl]
      rw [if_pos k1] at h0
      exact h0 hlt _ rfl I3 (q2.tr (q3.mono (by decide) (by decide))) s3
    rw [sw_if_f (by decide)]
    have k1 : ¬ ¬ (p + 1 < to ∧ T (p + 1) = 62) := fun q => q ⟨p1, b1⟩
    rw [if_neg k1] at h0 h1
    refine ⟨vp, fun I4 e4 => ?_⟩
    have q3' := q2.tr (q3.mono (by decide) (by decide))
    have q4 : eqm rdA [13] I I4 := by rw [e4]; exact q3'.upC (by decide) (by decide) _ _
    have s4 : tpS I4 T (p + 1 + 1) to := tpS_of hs q4 (by decide) (by decide) (by rw [e4, sw_up_cell _ _ _ _ (by decide)]; exact s3.1) (by omega)
    have kk4 : rdK I I4 (n + l) := by rw [e4]; exact (kk2.tr q3).up _ _
    have h4 : I4 147 (n + l) = T p - 48 := by rw [e4, sw_up_cell _ _ _ _ (by decide), q3.1 _ (by decide) (by decide)]; exact g2
    have w4 : I4 148 (n + l) = -1 := by rw [e4, sw_up_same]
    -- behind the wish
    have tail : (p + 2 < to ∧ (T (p + 2) = 45 ∨ flB fl (T (p + 2)) = true)) → fw fl (wsT T p) → ∀ I5, eqm rdA [13] I I5 → tpS I5 T (p + 3) to → rdK I I5 (n + l) → I5 147 (n + l) = T p - 48 → I5 148 (n + l) = wsT T p → wB_X10_readsRider_85 Q (nI (n + l)) I5 J := by
      intro b2 fw2 I5 q5 s5 kk5 h5 w5
      rw [if_neg (show ¬ ¬ (p + 2 < to ∧ (T (p + 2) = 45 ∨ flB fl (T (p + 2)) = true)) from fun q => q b2)] at h0 h1
      unfold wB_X10_readsRider_85
      refine s_takes s5 (fun k3 I6 q6 s6 => ?_) (fun p3 b3 I6 q6 s6 => ?_)
      · rw [sw_if_t rfl]
        rw [if_pos k3] at h0
        exact h0 hlt _ rfl I6 (q5.tr (q6.mono (by decide) (by decide))) s6
      rw [sw_if_f (by decide), nI_clamp (by omega)]
      rw [if_neg (show ¬ ¬ (p + 3 < to ∧ T (p + 3) = 64) from fun q => q ⟨p3, b3⟩)] at h0 h1
      have q6' := q5.tr (q6.mono (by decide) (by decide))
      refine s_readsFloor hfl s6 (by rw [q6'.2 _ (by decide)]; exact hf) (fun k4 => ⟨vp, fun I7 e7 => ⟨vp, ?_⟩⟩) (fun p4 b4 r4 I7 q7 s7 => ⟨vp, fun I8 e8 => ⟨vp, ?_⟩⟩)
      · rw [if_pos k4] at h0
        rw [e7, sw_up_same, sw_if_t (by decide)]
        have q7 : eqm rdA [13] I (sw_up I6 149 (n + l) (-1)) := q6'.upC (by decide) (by decide) _ _
        exact h0 hlt _ rfl _ q7 (tpS_of hs q7 (by decide) (by decide) (by rw [sw_up_cell _ _ _ _ (by decide)]; exact s6.1) s6.2.2.1)
      · rw [if_neg (show ¬ ¬ (p + 4 < to ∧ flB fl (T (p + 4)) = true) from fun q => q ⟨p4, b4⟩)] at h1
        have g8 : I8 149 (n + l) = T (p + 4) - 48 := by rw [e8, sw_up_same]
        have q7' := q6'.tr (q7.mono (by decide) (by decide))
        have q8 : eqm rdA [13] I I8 := by rw [e8]; exact q7'.upC (by decide) (by decide) _ _
        have s8 : tpS I8 T (p + 5) to := tpS_of hs q8 (by decide) (by decide) (by rw [e8, sw_up_cell _ _ _ _ (by decide)]; exact s7.1) (by omega)
        have kk8 : rdK I I8 (n + l) := by rw [e8]; exact ((kk5.tr q6).tr q7).up _ _
        have h8 : I8 147 (n + l) = T p - 48 := by rw [e8, sw_up_cell _ _ _ _ (by decide), q7.1 _ (by decide) (by decide), q6.1 _ (by decide) (by decide)]; exact h5
        have w8 : I8 148 (n + l) = wsT T p := by rw [e8, sw_up_cell _ _ _ _ (by decide), q7.1 _ (by decide) (by decide), q6.1 _ (by decide) (by decide)]; exact w5
        have l8 : I8 144 (31 : Int32).toNatClampNeg = lift := by rw [q8.1 _ (by decide) (by decide)]; exact hlift
        obtain ⟨k9, hk9, ek9⟩ := id r4
        have e4' : T (p + 3 + 1) - 48 = nI k9 := ek9
        rw [g8, l8, sw_if_f (by rw [ek9]; exact nI_pos (by omega))]
        have many : ∀ I9, eqm [] [13, 20] I8 I9 → I9 140 19 = nI l := fun I9 e => by rw [e.2 _ (by decide), q8.2 _ (by decide)]; exact hl
        have fin : ∀ I9, eqm [] [13, 20] I8 I9 → tpS I9 T (lnQ T to lift p) to → I9 140 20 = (if lnI T to lift p then I 140 20 ||| ((1 : Int32) <<< (nI (n + l) &&& 31)) else I 140 20) → wB_X10_readsRider_154 Q I9 J := by
          intro I9 q9 s9 r9
          intro I10 e10
          rw [many I9 q9, nI_1] at e10
          have qq : eqm rdA [13, 19, 20] I I10 := by rw [e10]; exact ((q8.mono (by decide) (by decide)).tr (q9.mono (by decide) (by decide))).upF (by decide) _
          have fx : ∀ c, c ≠ 140 → I10 c = I8 c := fun c hc => by rw [e10, sw_up_row _ _ _ hc, q9.1 c (by simp) hc]
          refine h1 hlt rfl I10 qq (tpS_of hs qq (by decide) (by decide) (by rw [e10, sw_up_slot _ _ _ _ (by decide)]; exact s9.1) s9.2.2.1) (by rw [e10, sw_up_same]) (by rw [e10, sw_up_slot _ _ _ _ (by decide)]; exact r9) (fun c hc j hj => by rw [fx c (by revert c; decide)]; exact kk8 c hc j hj) (by rw [fx _ (by decide)]; exact h8) (by rw [fx _ (by decide)]; exact w8) (by rw [fx _ (by decide)]; exact g8) r0 fw2 r4
        have nI8 : I8 140 20 = I 140 20 := q8.2 _ (by decide)
        refine ⟨vp, fun c5 => ?_, fun c5 => ?_⟩
        · refine s_takes s8 (fun k5 I9 q9 s9 => ?_) (fun p5 b5 I9 q9 s9 => ?_)
          · rw [sw_if_t rfl]
            have eI : lnI T to lift p = false := decide_eq_false (fun q => k5 ⟨q.1, q.2.2⟩)
            refine fin I9 (q9.mono (by decide) (by decide)) ?_ ?_
            · unfold lnQ; rw [eI]; exact s9
            · rw [eI, q9.2 _ (by decide), nI8]; rfl
          · rw [sw_if_f (by decide)]
            have eI : lnI T to lift p = true := decide_eq_true ⟨p5, c5, b5⟩
            intro I10 e10
            have q10 : eqm [] [13, 20] I8 I10 := by rw [e10]; exact (q9.mono (by decide) (by decide)).upF (by decide) _
            refine fin I10 q10 ?_ ?_
            · unfold lnQ; rw [eI]
              exact tpS_of s9 (C := []) (F := [20]) (by rw [e10]; exact eqm.rf.upF (by decide) _) (by decide) (by decide) (by rw [e10, sw_up_slot _ _ _ _ (by decide)]; exact s9.1) s9.2.2.1
            · rw [eI, e10, sw_up_same, q9.2 _ (by decide), nI8]; rfl
        · have eI : lnI T to lift p = false := decide_eq_false (fun q => c5 q.2.1)
          refine fin I8 eqm.rf ?_ ?_
          · unfold lnQ; rw [eI]; exact s8
          · rw [eI, nI8]; rfl
    refine s_takes s4 (fun k2 I5 q5 s5 => ?_) (fun p2 b2 I5 q5 s5 => ?_)
    · rw [sw_if_t rfl]
      have q5' := q4.tr (q5.mono (by decide) (by decide))
      refine s_readsFloor hfl s5 (by rw [q5'.2 _ (by decide)]; exact hf) (fun k3 => ⟨vp, fun I6 e6 => ⟨vp, ?_⟩⟩) (fun p3 b3 r3 I6 q6 s6 => ⟨vp, fun I7 e7 => ⟨vp, ?_⟩⟩)
      · have kx : ¬ (p + 2 < to ∧ (T (p + 2) = 45 ∨ flB fl (T (p + 2)) = true)) := fun q => by
          rcases q.2 with z | z
          · exact k2 ⟨q.1, z⟩
          · exact k3 ⟨q.1, z⟩
        rw [if_pos kx] at h0
        rw [e6, sw_up_same, sw_if_t (by decide)]
        have q6 : eqm rdA [13] I (sw_up I5 148 (n + l) (-1)) := q5'.upC (by decide) (by decide) _ _
        exact h0 hlt _ rfl _ q6 (tpS_of hs q6 (by decide) (by decide) (by rw [sw_up_cell _ _ _ _ (by decide)]; exact s5.1) s5.2.2.1)
      · have g7 : I7 148 (n + l) = T (p + 2) - 48 := by rw [e7, sw_up_same]
        obtain ⟨k9, hk9, ek9⟩ := r3
        have ek : T (p + 2) - 48 = nI k9 := ek9
        rw [g7, sw_if_f (by rw [ek]; exact nI_pos (by omega))]
        have n45 : ¬ T (p + 2) = 45 := fun q => k2 ⟨p3, q⟩
        have ws : wsT T p = T (p + 2) - 48 := by unfold wsT; rw [if_neg n45]
        have q7 : eqm rdA [13] I I7 := by rw [e7]; exact (q5'.tr (q6.mono (by decide) (by decide))).upC (by decide) (by decide) _ _
        refine tail ⟨p3, Or.inr b3⟩ (by rw [ws]; exact Or.inr ⟨k9, hk9, ek⟩) I7 q7 (tpS_of hs q7 (by decide) (by decide) (by rw [e7, sw_up_cell _ _ _ _ (by decide)]; exact s6.1) s6.2.2.1) (by rw [e7]; exact ((kk4.tr q5).tr q6).up _ _) (by rw [e7, sw_up_cell _ _ _ _ (by decide), q6.1 _ (by decide) (by decide), q5.1 _ (by decide) (by decide)]; exact h4) (by rw [g7, ws])
    · rw [sw_if_f (by decide)]
      have ws : wsT T p = -1 := by unfold wsT; rw [if_pos b2]
      exact tail ⟨p2, Or.inl b2⟩ (by rw [ws]; exact Or.inl rfl) I5 (q4.tr (q5.mono (by decide) (by decide))) s5 (kk4.tr q5) (by rw [q5.1 _ (by decide) (by decide)]; exact h4) (by rw [q5.1 _ (by decide) (by decide), w4, ws])
