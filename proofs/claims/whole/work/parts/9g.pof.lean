/-! the four that throw: of, worthOf, row, ballast -/
theorem wW_J {c o : Nat} {I : sw_I} {J : sw_J} {v : Int64} (o1 : ¬ o = 118) (o2 : ¬ o = 141) (h : wW c I J) : wW c I (sw_up J o 0 v) := by
  obtain ⟨n, fl, m, q, p, r, t, s, z, h0, h1, h2, h3, h4, h5, h6, h7, h8⟩ := h
  refine ⟨n, fl, m, q, p, r, t, s, z, h0, h1, h2, h3, h4, ⟨h5.1, h5.2.1, h5.2.2.1, fun i hi => ?_⟩, h6, h7, h8⟩
  rw [sw_up_row _ _ _ (fun e => o1 e.symm), sw_up_row _ _ _ (fun e => o2 e.symm)]
  exact h5.2.2.2 i hi
theorem th1_of {c : Nat} {I I2 : sw_I} {J : sw_J} {n fl m q p r t s z : Nat} (hw : wR c I J n fl m q p r t s z) (e2 : I2 = sw_up (sw_up I 140 0 0) 140 0 1) : wW c I2 J ∧ I2 140 0 = 1 := by
  have e : eqm [] [0] I I2 := by rw [e2]; exact (eqm.rf.upF (by decide) _).upF (by decide) _
  exact ⟨⟨n, fl, m, q, p, r, t, s, z, wR_scr hw (e.mono (by decide) (by decide)) rfl rfl⟩, by rw [e2, sw_up_same]⟩
theorem m_of {n k : Nat} (hn : n ≤ 10) (hk : k < n) {x2 : Int32} {I : sw_I} {J : sw_J} {Q : Int32 → sw_I → sw_J → Prop} (hr : I 140 4 = nI n)
    (hx : (¬ ∃ j, j ≤ 5 ∧ x2 = nI j) → ∀ I2, I2 = sw_up (sw_up I 140 0 0) 140 0 1 → Q 0 I2 J)
    (h0 : x2 = 0 → ∀ I2, I2 = sw_up I 140 0 0 → Q (I 142 k) I2 J)
    (h1 : x2 = 1 → ∀ I2, I2 = sw_up I 140 0 0 → Q (I 144 (10 + k)) I2 J)
    (h2 : x2 = 2 → ∀ I2, I2 = sw_up I 140 0 0 → Q (I 143 k) I2 J)
    (h3 : x2 = 3 → ∀ I2, I2 = sw_up I 140 0 0 → Q (if I 144 k = 9 then -1 else I 144 k) I2 J)
    (h4 : x2 = 4 → ∀ I2, I2 = sw_up I 140 0 0 → Q (if inB (I 144 30) k then 1 else 0) I2 J)
    (h5 : x2 = 5 → ∀ I2, I2 = sw_up I 140 0 0 → Q (I 144 (20 + k)) I2 J) : wp_X10_of (nI k) x2 I J Q := by
  unfold wp_X10_of
  intro I1 e1
  have r142 : I1 142 = I 142 := by rw [e1, sw_up_row _ _ _ (by decide)]
  have r143 : I1 143 = I 143 := by rw [e1, sw_up_row _ _ _ (by decide)]
  have r144 : I1 144 = I 144 := by rw [e1, sw_up_row _ _ _ (by decide)]
  have ck : (nI k).toNatClampNeg = k := nI_clamp (by omega)
  have ak : (10 : Int32) + nI k = nI (10 + k) := nI_add 10 k
  have bk : (20 : Int32) + nI k = nI (20 + k) := nI_add 20 k
  have ca : (nI (10 + k)).toNatClampNeg = 10 + k := nI_clamp (by omega)
  have cb : (nI (20 + k)).toNatClampNeg = 20 + k := nI_clamp (by omega)
  refine s_X10_isRider hn (by rw [e1, sw_up_slot _ _ _ _ (by decide)]; exact hr) (fun hno => (ix_out (by omega) hk rfl hno).elim) (fun _ _ _ => ?_)
  rw [sw_if_f (by decide)]
  refine in_N (N := 5) (by decide) rfl (fun hno => ?_) (fun j hj ej => ?_)
  · rw [sw_if_t rfl]
    unfold wB_X10_of_25 wp_X10_refuse
    intro I2 e2
    exact hx hno I2 (by rw [e2, e1])
  · rw [sw_if_f (by decide)]
    by_cases c0 : x2 = 0
    · rw [sw_if_t c0, ck, r142]
      exact ⟨vp0 (by omega) (by decide), h0 c0 I1 e1⟩
    rw [sw_if_f c0]
    by_cases c1 : x2 = 1
    · rw [sw_if_t c1, ak, ca, r144]
      exact ⟨vp0 (by omega) (by decide), h1 c1 I1 e1⟩
    rw [sw_if_f c1]
    by_cases c2 : x2 = 2
    · rw [sw_if_t c2, ck, r143]
      exact ⟨vp0 (by omega) (by decide), h2 c2 I1 e1⟩
    rw [sw_if_f c2]
    by_cases c3 : x2 = 3
    · rw [sw_if_t c3, ck, r144]
      have q := h3 c3 I1 e1
      refine ⟨vp0 (by omega) (by decide), fun w => ?_, fun w => ⟨vp0 (by omega) (by decide), ?_⟩⟩
      · rw [if_pos w] at q; exact q
      · rw [if_neg w] at q; exact q
    rw [sw_if_f c3]
    by_cases c4 : x2 = 4
    · rw [sw_if_t c4, r144]
      have q := h4 c4 I1 e1
      have e30 : I 144 (30 : Int32).toNatClampNeg = I 144 30 := rfl
      rw [e30]
      refine s_X10_has (s_X10_flag ?_)
      cases hb : inB (I 144 30) k
      · rw [hb] at q; simpa using q
      · rw [hb] at q; simpa using q
    rw [sw_if_f c4, bk, cb, r144]
    refine ⟨vp0 (by omega) (by decide), h5 ?_ I1 e1⟩
    have d : j = 5 := by
      rcases Nat.lt_or_ge j 5 with w | w
      · exfalso
        rcases (by omega : j = 0 ∨ j = 1 ∨ j = 2 ∨ j = 3 ∨ j = 4) with w | w | w | w | w
        · exact c0 (by rw [ej, w]; rfl)
        · exact c1 (by rw [ej, w]; rfl)
        · exact c2 (by rw [ej, w]; rfl)
        · exact c3 (by rw [ej, w]; rfl)
        · exact c4 (by rw [ej, w]; rfl)
      · omega
    rw [ej, d]; rfl
theorem of_bit (s : Int32) (k : Nat) : ((s >>> (nI k &&& 31)) &&& 1) = if inB s k then 1 else 0 := by
  have h1 := inB_1 s k
  unfold inB at h1 ⊢
  by_cases c : ((s >>> (nI k &&& 31)) &&& 1) = 0
  · simp [c]
  · have d : ((s >>> (nI k &&& 31)) &&& 1) = 1 := by
      simp only [c, not_false_eq_true, decide_true] at h1
      exact of_decide_eq_true h1.symm
    simp [d]
/-- promise: of -/
theorem p_of {c o : Nat} {x1 x2 : Int32} {I : sw_I} {J : sw_J} {Q : Int32 → Int32 → sw_I → sw_J → Prop} (o1 : ¬ o = 118) (o2 : ¬ o = 141) (h : wW c I J) (hQ : ∀ (k v : Int32) I2 J2, wW c I2 J2 → I2 140 0 = k → (k = 0 → J2 o 0 = v.toInt64) → Q k v I2 J2) :
    wp_L_of x1 x2 o I J (fun k I1 J1 => wp_X10_of x1 x2 I1 J1 (fun r2 I2 J2 => Q k r2 I2 J2)) := by
  obtain ⟨n, fl, m, q, p, r, t, s, z, hw⟩ := h
  obtain ⟨h0, h1, h2, h3, h4, h5, h6, h7, h8⟩ := id hw
  have hn := h1.2.2.1
  have fin0 : ∀ (v v2 : Int32) I2, I2 = sw_up I 140 0 0 → v2 = v → Q 0 v2 I2 (sw_up J o 0 v.toInt64) := fun v v2 I2 e2 ev => by
    rw [ev]; exact hQ 0 v I2 _ (wW_J o1 o2 (th_of hw e2).1) (th_of hw e2).2 (fun _ => sw_up_same _ _ _ _)
  have fin1 : ∀ (v : Int32) I2, I2 = sw_up (sw_up I 140 0 0) 140 0 1 → Q 1 v I2 J := fun v I2 e2 => hQ 1 v I2 J (th1_of hw e2).1 (th1_of hw e2).2 (fun w => absurd w (by decide))
  unfold wp_L_of wp_X9_of
  refine s_X1_hasRider hn h1.2.2.2.2.2.1 (fun hno => ?_) (fun k hk ek => ?_)
  · rw [sw_if_t rfl]
    unfold wp_X10_of
    intro I1 e1
    refine s_X10_isRider hn (by rw [e1, sw_up_slot _ _ _ _ (by decide)]; exact h1.2.2.2.2.2.2.1) (fun _ => ?_) (fun k hk ek => (ix_out (by omega) hk ek hno).elim)
    rw [sw_if_t rfl]
    unfold wB_X10_of_25 wp_X10_refuse
    intro I2 e2
    exact fin1 _ I2 (by rw [e2, e1])
  · subst ek
    rw [sw_if_f (by decide)]
    have hv : vp_in (nI k) 10 := vp0 (by omega) (by decide)
    have ck : (nI k).toNatClampNeg = k := nI_clamp (by omega)
    have hr : I 140 4 = nI n := h1.2.2.2.2.2.2.1
    have rel := h3.1.1 k hk
    have ne : ∀ {a b : Nat} {A : Prop}, a < 6 → b < 6 → ¬ a = b → x2 = nI a → x2 = nI b → A := fun ha hb hab ea eb => absurd ((nI_eq (by omega) (by omega)).mp (ea.symm.trans eb)) hab
    by_cases c0 : x2 = 0
    · rw [sw_if_t c0, ck]
      refine ⟨hv, m_of hn hk hr (fun hno => absurd ⟨0, by omega, c0⟩ hno) (fun _ I2 e2 => fin0 _ _ I2 e2 (h1.2.2.2.2.2.2.2.2.2.1 k hk).1.symm) (fun e => ne (a := 0) (b := 1) (by omega) (by omega) (by omega) c0 e) (fun e => ne (a := 0) (b := 2) (by omega) (by omega) (by omega) c0 e) (fun e => ne (a := 0) (b := 3) (by omega) (by omega) (by omega) c0 e) (fun e => ne (a := 0) (b := 4) (by omega) (by omega) (by omega) c0 e) (fun e => ne (a := 0) (b := 5) (by omega) (by omega) (by omega) c0 e)⟩
    rw [sw_if_f c0]
    by_cases c1 : x2 = 1
    · rw [sw_if_t c1, ck]
      refine ⟨hv, m_of hn hk hr (fun hno => absurd ⟨1, by omega, c1⟩ hno) (fun e => absurd e c0) (fun _ I2 e2 => fin0 _ _ I2 e2 rel.2.1.symm) (fun e => ne (a := 1) (b := 2) (by omega) (by omega) (by omega) c1 e) (fun e => ne (a := 1) (b := 3) (by omega) (by omega) (by omega) c1 e) (fun e => ne (a := 1) (b := 4) (by omega) (by omega) (by omega) c1 e) (fun e => ne (a := 1) (b := 5) (by omega) (by omega) (by omega) c1 e)⟩
    rw [sw_if_f c1]
    by_cases c2 : x2 = 2
    · rw [sw_if_t c2, ck]
      refine ⟨hv, m_of hn hk hr (fun hno => absurd ⟨2, by omega, c2⟩ hno) (fun e => absurd e c0) (fun e => absurd e c1) (fun _ I2 e2 => fin0 _ _ I2 e2 (h1.2.2.2.2.2.2.2.2.2.2 k hk).1.symm) (fun e => ne (a := 2) (b := 3) (by omega) (by omega) (by omega) c2 e) (fun e => ne (a := 2) (b := 4) (by omega) (by omega) (by omega) c2 e) (fun e => ne (a := 2) (b := 5) (by omega) (by omega) (by omega) c2 e)⟩
    rw [sw_if_f c2]
    by_cases c3 : x2 = 3
    · rw [sw_if_t c3, ck]
      refine ⟨hv, m_of hn hk hr (fun hno => absurd ⟨3, by omega, c3⟩ hno) (fun e => absurd e c0) (fun e => absurd e c1) (fun e => absurd e c2) (fun _ I2 e2 => fin0 _ _ I2 e2 ?_) (fun e => ne (a := 3) (b := 4) (by omega) (by omega) (by omega) c3 e) (fun e => ne (a := 3) (b := 5) (by omega) (by omega) (by omega) c3 e)⟩
      rcases rel.1 with ⟨q1, q2⟩ | ⟨q1, j, hj, q2⟩
      · rw [if_pos q2]; exact q1.symm
      · have hfl := h1.2.1
        rw [if_neg (by rw [← q1, q2]; exact fun w => absurd ((nI_eq (a := j) (b := 9) (by omega) (by omega)).mp w) (by omega))]; exact q1.symm
    rw [sw_if_f c3]
    by_cases c4 : x2 = 4
    · rw [sw_if_t c4]
      refine m_of hn hk hr (fun hno => absurd ⟨4, by omega, c4⟩ hno) (fun e => absurd e c0) (fun e => absurd e c1) (fun e => absurd e c2) (fun e => absurd e c3) (fun _ I2 e2 => fin0 _ _ I2 e2 ?_) (fun e => ne (a := 4) (b := 5) (by omega) (by omega) (by omega) c4 e)
      rw [of_bit, h3.1.2.1]
    rw [sw_if_f c4]
    by_cases c5 : x2 = 5
    · rw [sw_if_t c5, ck]
      exact ⟨hv, m_of hn hk hr (fun hno => absurd ⟨5, by omega, c5⟩ hno) (fun e => absurd e c0) (fun e => absurd e c1) (fun e => absurd e c2) (fun e => absurd e c3) (fun e => absurd e c4) (fun _ I2 e2 => fin0 _ _ I2 e2 rel.2.2.symm)⟩
    rw [sw_if_f c5]
    exact m_of hn hk hr (fun _ I2 e2 => fin1 _ I2 e2) (fun e => absurd e c0) (fun e => absurd e c1) (fun e => absurd e c2) (fun e => absurd e c3) (fun e => absurd e c4) (fun e => absurd e c5)
/-- promise: row -/
theorem p_row {c o : Nat} {x1 : Int32} {I : sw_I} {J : sw_J} {Q : Int32 → Int64 → sw_I → sw_J → Prop} (o1 : ¬ o = 118) (o2 : ¬ o = 141) (h : wW c I J) (hQ : ∀ (k : Int32) (v : Int64) I2 J2, wW c I2 J2 → I2 140 0 = k → (k = 0 → J2 o 0 = v) → Q k v I2 J2) :
    wp_L_row x1 o I J (fun k I1 J1 => wp_X10_row x1 I1 J1 (fun r2 I2 J2 => Q k r2 I2 J2)) := by
  obtain ⟨n, fl, m, q, p, r, t, s, z, hw⟩ := h
  obtain ⟨h0, h1, h2, h3, h4, h5, h6, h7, h8⟩ := id hw
  obtain ⟨g1, g2, g3, g4⟩ := h5
  have fin1 : ∀ (v : Int64) I2, I2 = sw_up (sw_up I 140 0 0) 140 0 1 → Q 1 v I2 J := fun v I2 e2 => hQ 1 v I2 J (th1_of hw e2).1 (th1_of hw e2).2 (fun w => absurd w (by decide))
  have mis : (x1 < 0 ∨ nI r ≤ x1) → wp_X10_row x1 I J (fun r2 I2 J2 => Q 1 r2 I2 J2) := fun hno => by
    unfold wp_X10_row
    intro I1 e1
    have e140 : I1 140 1 = nI r := by rw [e1, sw_up_slot _ _ _ _ (by decide)]; exact g3
    rw [e140]
    refine s_X10_in (a := 0) (b := nI r - 1) rfl rfl (fun _ => ?_) (fun w1 w2 => ?_)
    · rw [sw_if_t rfl]
      intro I2 e2
      exact fin1 _ I2 (by rw [e2, e1])
    · exact (hno.elim w1 (fun w => w2 ((nIp_lt (by omega)).mpr w))).elim
  unfold wp_L_row wp_X9_row
  rw [g2]
  refine ⟨fun w => mis (Or.inl w), fun w => ⟨fun w2 => ?_, fun w2 => mis (Or.inr (Int32.not_lt.mp w2))⟩⟩
  obtain ⟨k, hk, ek⟩ := ixN (n := r) (by omega) w (Int32.not_le.mpr w2)
  subst ek
  have ck : (nI k).toNatClampNeg = k := nI_clamp (by omega)
  rw [ck]
  refine ⟨vp0 (by omega) (by decide), ?_⟩
  unfold wp_X10_row
  intro I1 e1
  have e140 : I1 140 1 = nI r := by rw [e1, sw_up_slot _ _ _ _ (by decide)]; exact g3
  rw [e140]
  refine s_X10_in (a := 0) (b := nI r - 1) rfl rfl (fun hno => ?_) (fun _ _ => ?_)
  · exact (ix_out (n := r) (by omega) hk rfl (hno.imp id (fun q => (nIp_lt (by omega)).mp q))).elim
  · rw [sw_if_f (by decide), ck]
    refine ⟨vp0 (by omega) (by decide), ?_⟩
    rw [sw_up_row _ _ _ (fun e => o2 e.symm), ← g4 k hk]
    exact hQ 0 _ I1 _ (wW_J o1 o2 (th_of hw e1).1) (th_of hw e1).2 (fun _ => sw_up_same _ _ _ _)
