/-! promise: rests -/
def bI (b : Bool) : Int32 := if b then 1 else 0
def taM (w : Wd) : Nat → Nat → Bool → Mo → Bool × Mo
  | 0, _, a, μ => (a, μ)
  | d + 1, i, a, μ => if inB (oI μ) i = true then taM w d (i + 1) (a || decide (¬ (bwR w μ i).1 = μ.2.1 i)) (setW μ i (bwR w μ i).1) else taM w d (i + 1) a μ
theorem bI_or (a b : Bool) : bI a ||| bI b = bI (a || b) := by cases a <;> cases b <;> decide
theorem bI_01 (a : Bool) : bI a = 0 ∨ bI a = 1 := by cases a; exact Or.inl rfl; exact Or.inr rfl
theorem s_anew_loop {w : Wd} {I : sw_I} {J : sw_J} {Q : Int32 → sw_I → sw_J → Prop} (hW : isW I w) :
    ∀ (d i : Nat) (a : Bool) (μ : Mo) (I2 : sw_I), i + d = wn w → eqx tr4 I I2 → moE I2 17 μ → (∀ I3, eqx tr4 I I3 → moE I3 17 (taM w d i a μ).2 → Q (bI (taM w d i a μ).1) I3 J) → wl_X9_tellAnew_4 17 Q (d + 1) (bI a) (nI i) I2 J := by
  have hn := hW.1.2.2.1
  have ff : ∀ I2, eqx tr4 I I2 → I2 3 2 = nI (wn w) := fun I2 e => by rw [e.at (by decide)]; exact hW.1.2.2.2.2.2.1
  intro d
  induction d with
  | zero =>
    intro i a μ I2 hk h1 h2 h
    obtain rfl : i = wn w := by omega
    show wb_X9_tellAnew_4 _ _ Q _ _ I2 J
    unfold wb_X9_tellAnew_4
    rw [sw_if_f (by rw [ff I2 h1]; exact nI_nlt (Nat.le_refl _) (by omega))]
    exact ⟨bI_01 a, h I2 h1 h2⟩
  | succ d ih =>
    intro i a μ I2 hk h1 h2 h
    show wb_X9_tellAnew_4 _ _ Q _ _ I2 J
    unfold wb_X9_tellAnew_4
    rw [sw_if_t (by rw [ff I2 h1]; exact nI_lt (by omega) (by omega))]
    refine s_X3_isIn (by omega) ?_
    rw [h2.2.1]
    unfold taM at h
    by_cases cb : inB (oI μ) i = true
    · rw [cb, sw_if_f (by simp)]
      rw [if_pos cb] at h
      refine c_best (w := w) (by decide) (by omega) (isW_of (h1.eqm (C := tr4) (F := []) (fun _ q => q) (by decide)) (by decide) (by decide) hW) h2 (fun I3 x3 => ?_)
      have E3 : moE I3 17 μ := moE_cong (fun c c1 c2 => x3 c (by simp; omega)) h2
      have q3 : eqx tr4 I I3 := h1.tr (x3.mono (by decide))
      have go : ∀ b : Bool, b = decide (¬ (bwR w μ i).1 = μ.2.1 i) → wB_X9_tellAnew_48 17 (wl_X9_tellAnew_4 17 Q (d + 1)) Q (nI i) (bwR w μ i).1 (bI a) (bI b) I3 J := by
        intro b hb y hy
        rw [nI_clamp (by omega)]
        refine ⟨vp0 (by omega) (by decide), fun I4 e4 => ?_⟩
        intro y2 hy2
        rw [hy2, nI_1, hy, bI_or, hb]
        have f4 : ∀ c, c ≠ 17 + 2 → I4 c = I3 c := fun c hc => by rw [e4, sw_up_row _ _ _ hc]
        exact ih (i + 1) _ (setW μ i (bwR w μ i).1) I4 (by omega) (by rw [e4]; exact q3.up (by decide) _ _) (moE_setW E3 (by rw [e4]; exact sw_up_rowf _ _ _ _) (f4 _ (by decide)) (f4 _ (by decide)) (f4 _ (by decide))) h
      have ew : I3 (17 + 2) i = μ.2.1 i := (E3.1 i (by omega)).2.1
      rw [nI_clamp (by omega), ew]
      refine ⟨vp0 (by omega) (by decide), fun c1 => ?_, fun c1 => ?_⟩
      · exact go false (by simp [c1])
      · exact go true (by simp [c1])
    · rw [Bool.eq_false_iff.mpr cb, sw_if_t (by simp)]
      rw [if_neg cb] at h
      intro y hy
      rw [hy, nI_1]
      exact ih (i + 1) a μ I2 (by omega) h1 h2 h
def roM (w : Wd) : Nat → Nat → Bool → Mo → Nat × Bool × Mo
  | 0, k, r, μ => (k, r, μ)
  | d + 1, k, r, μ => if r = true then (k, r, μ) else roM w d (k + 1) (!(taM w (wn w) 0 false μ).1) (taM w (wn w) 0 false μ).2
theorem s_rests_loop {w : Wd} {N : Nat} (hN : N ≤ 30) {I : sw_I} {J : sw_J} {Q : Int32 → sw_I → sw_J → Prop} (hW : isW I w) :
    ∀ (d k : Nat) (r : Bool) (μ : Mo) (I2 : sw_I), k + d = N → eqx tr4 I I2 → moE I2 17 μ → (∀ I3, eqx tr4 I I3 → moE I3 17 (roM w d k r μ).2.2 → wB_X9_rests_59 Q (nI (roM w d k r μ).1) (bI (roM w d k r μ).2.1) I3 J) → wl_X9_rests_27 Q (d + 1) (nI N) (nI k) (bI r) I2 J := by
  intro d
  induction d with
  | zero =>
    intro k r μ I2 hk h1 h2 h
    obtain rfl : k = N := by omega
    show wb_X9_rests_27 _ Q _ _ _ I2 J
    unfold wb_X9_rests_27
    rw [sw_if_f (nI_nlt (Nat.le_refl _) (by omega))]
    exact h I2 h1 h2
  | succ d ih =>
    intro k r μ I2 hk h1 h2 h
    show wb_X9_rests_27 _ Q _ _ _ I2 J
    unfold wb_X9_rests_27
    rw [sw_if_t (nI_lt (by omega) (by omega))]
    unfold roM at h
    by_cases cr : r = true
    · rw [sw_if_f (by rw [cr]; decide)]
      rw [if_pos cr] at h
      exact h I2 h1 h2
    · rw [sw_if_t (by rw [Bool.eq_false_iff.mpr cr]; rfl)]
      rw [if_neg cr] at h
      refine ⟨wn w + 1, s_anew_loop (w := w) hW (wn w) 0 false μ I2 (Nat.zero_add _) h1 h2 (fun I3 x3 e3 => ?_)⟩
      have go : ∀ b : Bool, b = !(taM w (wn w) 0 false μ).1 → wB_X9_rests_52 (wl_X9_rests_27 Q (d + 1)) Q (nI N) (nI k) (bI b) I3 J := by
        intro b hb y hy
        rw [hy, nI_1, hb]
        exact ih (k + 1) _ _ I3 (by omega) x3 e3 h
      cases ht : (taM w (wn w) 0 false μ).1
      · rw [sw_if_t (by rfl)]; exact go true (by rw [ht]; rfl)
      · rw [sw_if_f (by decide)]; exact go false (by rw [ht]; rfl)
theorem m_anew_loop {w : Wd} {I : sw_I} {J : sw_J} {Q : Int32 → sw_I → sw_J → Prop} {K : Int32 → Int32 → Int32 → sw_I → sw_J → Prop} (hW : isW I w) {x1 x2 : Int32} :
    ∀ (d i : Nat) (a : Bool) (μ : Mo) (I2 : sw_I), i + d = wn w → eqm (145 :: mnsC) (42 :: maF) I I2 → relM w μ (I2 145) → (∀ I3, eqm (145 :: mnsC) (42 :: maF) I I3 → relM w (taM w d i a μ).2 (I3 145) → K x1 (x2 + 1) (bI (!(taM w d i a μ).1)) I3 J) → wl_X10_rests_48 K Q (d + 1) x1 x2 (bI (!a)) (nI i) I2 J := by
  have hn := hW.1.2.2.1
  have ff : ∀ I2, eqm (145 :: mnsC) (42 :: maF) I I2 → I2 140 4 = nI (wn w) := fun I2 e => by rw [e.2 _ (by decide)]; exact hW.1.2.2.2.2.2.2.1
  intro d
  induction d with
  | zero =>
    intro i a μ I2 hk h1 h2 h
    obtain rfl : i = wn w := by omega
    show wb_X10_rests_48 _ _ Q _ _ _ _ I2 J
    unfold wb_X10_rests_48
    rw [sw_if_f (by rw [ff I2 h1]; exact nI_nlt (Nat.le_refl _) (by omega))]
    intro y hy
    rw [hy]
    exact h I2 h1 h2
  | succ d ih =>
    intro i a μ I2 hk h1 h2 h
    show wb_X10_rests_48 _ _ Q _ _ _ _ I2 J
    unfold wb_X10_rests_48
    have e30 : I2 145 (30 : Int32).toNatClampNeg = oI μ := h2.1.2.1.symm
    rw [sw_if_t (by rw [ff I2 h1]; exact nI_lt (by omega) (by omega)), e30]
    have e10 : (10 : Int32) + nI i = nI (10 + i) := nI_add 10 i
    refine s_X10_has ?_
    unfold taM at h
    by_cases cb : inB (oI μ) i = true
    · rw [cb, sw_if_f (by simp)]
      rw [if_pos cb] at h
      refine m_best (w := w) (by decide) (by decide) (by decide) (by omega) (isW_of h1 (by decide) (by decide) hW) h2 (fun I3 x3 f3 => ?_)
      have q3 : eqm (145 :: mnsC) (42 :: maF) I I3 := h1.tr (x3.mono (by decide) (by decide))
      have n3 : I3 145 = I2 145 := x3.1 _ (by decide) (by decide)
      have go : ∀ b : Bool, b = !(a || decide (¬ (bwR w μ i).1 = μ.2.1 i)) → wB_X10_rests_108 (wl_X10_rests_48 K Q (d + 1)) Q x1 x2 (nI i) (bwR w μ i).1 (bI b) I3 J := by
        intro b hb
        unfold wB_X10_rests_108
        rw [e10, nI_clamp (by omega)]
        refine ⟨vp0 (by omega) (by decide), fun I4 e4 => ?_⟩
        intro y hy
        rw [hy, nI_1, hb]
        refine ih (i + 1) _ (setW μ i (bwR w μ i).1) I4 (by omega) (by rw [e4]; exact q3.upC (by decide) (by decide) _ _) (relM_setW hn h2 (by omega) (bwR_fw w μ i (h2.2.1 i (by omega)).2) (fun j _ => by rw [e4, sw_up_rowf, n3])) h
      have ew : I3 145 (10 + i) = μ.2.1 i := by rw [n3]; exact (h2.1.1 i (by omega)).2.1.symm
      cases a with
      | true =>
        rw [sw_if_t (show bI (!true) = 0 from rfl)]
        exact go false (by simp)
      | false =>
        rw [sw_if_f (show ¬ bI (!false) = 0 by decide), e10, nI_clamp (by omega), ew]
        refine ⟨vp0 (by omega) (by decide), fun c1 => ?_, fun c1 => ?_⟩
        · exact go true (by simp [c1])
        · exact go false (by simp [c1])
    · rw [Bool.eq_false_iff.mpr cb, sw_if_t (by simp)]
      rw [if_neg cb] at h
      intro y hy
      rw [hy, nI_1]
      exact ih (i + 1) a μ I2 (by omega) h1 h2 h
theorem m_rests_loop {w : Wd} {N : Nat} (hN : N ≤ 30) {I : sw_I} {J : sw_J} {Q : Int32 → sw_I → sw_J → Prop} (hW : isW I w) :
    ∀ (d k : Nat) (r : Bool) (μ : Mo) (I2 : sw_I), k + d = N → eqm (145 :: mnsC) (42 :: maF) I I2 → relM w μ (I2 145) → (∀ I3, eqm (145 :: mnsC) (42 :: maF) I I3 → relM w (roM w d k r μ).2.2 (I3 145) → wB_X10_rests_133 Q (nI (roM w d k r μ).1) (bI (roM w d k r μ).2.1) I3 J) → wl_X10_rests_34 Q (d + 1) (nI N) (nI k) (bI r) I2 J := by
  intro d
  induction d with
  | zero =>
    intro k r μ I2 hk h1 h2 h
    obtain rfl : k = N := by omega
    show wb_X10_rests_34 _ Q _ _ _ I2 J
    unfold wb_X10_rests_34
    rw [sw_if_f (nI_nlt (Nat.le_refl _) (by omega))]
    exact h I2 h1 h2
  | succ d ih =>
    intro k r μ I2 hk h1 h2 h
    show wb_X10_rests_34 _ Q _ _ _ I2 J
    unfold wb_X10_rests_34
    rw [sw_if_t (nI_lt (by omega) (by omega))]
    unfold roM at h
    by_cases cr : r = true
    · rw [sw_if_f (by rw [cr]; decide)]
      rw [if_pos cr] at h
      exact h I2 h1 h2
    · rw [sw_if_t (by rw [Bool.eq_false_iff.mpr cr]; rfl)]
      rw [if_neg cr] at h
      have := m_anew_loop (w := w) (J := J) (Q := Q) (K := wl_X10_rests_34 Q (d + 1)) hW (x1 := nI N) (x2 := nI k) (wn w) 0 false μ I2 (Nat.zero_add _) h1 h2 (fun I3 x3 e3 => by
        rw [nI_1]
        exact ih (k + 1) _ _ I3 (by omega) x3 e3 h)
      exact ⟨wn w + 1, this⟩
def rwL (μ : Mo) (k : Nat) : List Int64 := (List.range k).map (fun i => (μ.2.1 i).toInt64)
theorem rwL_s (μ : Mo) (k : Nat) : rwL μ (k + 1) = rwL μ k ++ [(μ.2.1 k).toInt64] := by
  unfold rwL; rw [List.range_succ, List.map_append]; rfl
theorem rwL_len (μ : Mo) (k : Nat) : (rwL μ k).length = k := by unfold rwL; simp
theorem s_rests2_loop {w : Wd} {μ : Mo} {L : List Int64} (hL : L.length = 2) {I : sw_I} {J : sw_J} {v : Int32} {Q : Int32 → sw_I → sw_J → Prop} (hW : isW I w) (hE : moE I 17 μ) (h : ∀ I3 J3, eqx [0] I I3 → eqj [118] J J3 → tlC I3 J3 (L ++ rwL μ (wn w)) → Q v I3 J3) :
    ∀ (d k : Nat) (I2 : sw_I) (J2 : sw_J), k + d = wn w → eqx [0] I I2 → eqj [118] J J2 → tlC I2 J2 (L ++ rwL μ k) → wl_X9_rests_102 Q (d + 1) v (nI k) I2 J2 := by
  have hn := hW.1.2.2.1
  have ff : ∀ I2, eqx [0] I I2 → I2 3 2 = nI (wn w) := fun I2 e => by rw [e.at (by decide)]; exact hW.1.2.2.2.2.2.1
  intro d
  induction d with
  | zero =>
    intro k I2 J2 hk h1 h2 h3
    obtain rfl : k = wn w := by omega
    show wb_X9_rests_102 _ Q _ _ I2 J2
    unfold wb_X9_rests_102
    rw [sw_if_f (by rw [ff I2 h1]; exact nI_nlt (Nat.le_refl _) (by omega))]
    exact h I2 J2 h1 h2 h3
  | succ d ih =>
    intro k I2 J2 hk h1 h2 h3
    show wb_X9_rests_102 _ Q _ _ I2 J2
    unfold wb_X9_rests_102
    have ew : I2 19 k = μ.2.1 k := by rw [h1.at (by decide)]; exact (hE.1 k (by omega)).2.1
    rw [sw_if_t (by rw [ff I2 h1]; exact nI_lt (by omega) (by omega)), nI_clamp (by omega), ew]
    refine ⟨vp0 (by omega) (by decide), t_tell (by rw [List.length_append, rwL_len, hL]; omega) h3 (fun I4 J4 x4 j4 t4 => ?_)⟩
    intro y hy
    rw [hy, nI_1]
    exact ih (k + 1) I4 J4 (by omega) (h1.tr x4) (h2.tr j4) (by rw [rwL_s, ← List.append_assoc]; exact t4)
theorem m_rests2_loop {w : Wd} {μ : Mo} {L : List Int64} (hL : L.length = 2) {I : sw_I} {J : sw_J} {v : Int32} {Q : Int32 → sw_I → sw_J → Prop} (hW : isW I w) (hR : relM w μ (I 145)) (h : ∀ I3 J3, eqm [] [1] I I3 → eqj [141] J J3 → tlM I3 J3 (L ++ rwL μ (wn w)) → Q v I3 J3) :
    ∀ (d k : Nat) (I2 : sw_I) (J2 : sw_J), k + d = wn w → eqm [] [1] I I2 → eqj [141] J J2 → tlM I2 J2 (L ++ rwL μ k) → wl_X10_rests_170 Q (d + 1) v (nI k) I2 J2 := by
  have hn := hW.1.2.2.1
  have ff : ∀ I2, eqm [] [1] I I2 → I2 140 4 = nI (wn w) := fun I2 e => by rw [e.2 _ (by decide)]; exact hW.1.2.2.2.2.2.2.1
  intro d
  induction d with
  | zero =>
    intro k I2 J2 hk h1 h2 h3
    obtain rfl : k = wn w := by omega
    show wb_X10_rests_170 _ Q _ _ I2 J2
    unfold wb_X10_rests_170
    rw [sw_if_f (by rw [ff I2 h1]; exact nI_nlt (Nat.le_refl _) (by omega))]
    exact h I2 J2 h1 h2 h3
  | succ d ih =>
    intro k I2 J2 hk h1 h2 h3
    show wb_X10_rests_170 _ Q _ _ I2 J2
    unfold wb_X10_rests_170
    have ew : I2 145 (10 + k) = μ.2.1 k := by rw [h1.1 _ (by decide) (by decide)]; exact (hR.1.1 k (by omega)).2.1.symm
    rw [sw_if_t (by rw [ff I2 h1]; exact nI_lt (by omega) (by omega)), show (10 : Int32) + nI k = nI (10 + k) from nI_add 10 k, nI_clamp (by omega), ew]
    refine ⟨vp0 (by omega) (by decide), t_enters (by rw [List.length_append, rwL_len, hL]; omega) h3 (fun I4 J4 x4 j4 t4 => ?_)⟩
    intro y hy
    rw [hy, nI_1]
    exact ih (k + 1) I4 J4 (by omega) (h1.tr x4) (h2.tr j4) (by rw [rwL_s, ← List.append_assoc]; exact t4)
theorem p_rests {c : Nat} {x1 : Int32} {I : sw_I} {J : sw_J} {Q : Int32 → Int32 → sw_I → sw_J → Prop} (h : wW c I J) (hQ : ∀ v I2 J2, wW c I2 J2 → I2 140 0 = 0 → Q v v I2 J2) :
    wp_X9_rests x1 I J (fun r I1 J1 => wp_X10_rests x1 I1 J1 (fun r2 I2 J2 => Q r r2 I2 J2)) := by
  obtain ⟨n, fl, m, q, p, r, t, s, z, hw⟩ := h
  obtain ⟨h0, h1, h2, h3, h4, h5, h6, h7, h8⟩ := id hw
  have hn := h1.2.2.1
  unfold wp_X9_rests
  refine if_N (N := 30) (by decide) rfl (fun hno => ?_) (fun N hN eN => ?_)
  · intro I2 e2
    refine in_N (N := 30) (by decide) rfl (fun _ => ?_) (fun i hi ei => absurd ⟨i, hi, ei⟩ hno)
    rw [sw_if_t rfl]; exact hQ _ I2 J (th_of hw e2).1 (th_of hw e2).2
  · have hW := isW_O h1 h2
    generalize hμ : moC I 13 = μ
    have hE : moE I 13 μ := by rw [← hμ]; exact moE_C _ _
    have hR : relM (wdO I m n fl) μ (I 144) := by rw [← hμ]; exact h3
    rw [eN]
    refine s_X3_copy (by decide) (fun I1 k1 => ⟨N + 1, ?_⟩)
    have q1 : eqx tr4 I I1 := fun c hc => k1.1 c (by simp at hc; omega)
    refine s_rests_loop (w := wdO I m n fl) hN hW N 0 false μ I1 (by omega) q1 (moE_copy k1 hE) (fun I2 x2 e2 => ?_)
    generalize hro : roM (wdO I m n fl) N 0 false μ = ro at e2
    obtain ⟨rk, rr, ν⟩ := ro
    -- the class tells
    have tell : ∀ I3, eqx trC I I3 → moE I3 17 ν → tlC I3 J [] → wB_X9_rests_73 (fun r I1 J1 => wp_X10_rests (nI N) I1 J1 (fun r2 I2 J2 => Q r r2 I2 J2)) (nI rk) (bI rr).toInt64 I3 J := by
      intro I3 x3 E3 t3
      unfold wB_X9_rests_73
      refine t_tell (by decide) t3 (fun I4 J4 x4 j4 t4 => ?_)
      have q4 : eqx trC I I4 := x3.tr (x4.mono (by decide))
      have E4 : moE I4 17 ν := moE_cong (fun c c1 c2 => x4 c (by simp; omega)) E3
      rw [E4.2.1]
      refine c_stopM (by decide) (isW_of (q4.eqm (C := trC) (F := []) (fun _ q => q) (by decide)) (by decide) (by decide) hW) E4 (fun I5 x5 => t_tell (by simp) (tlC_of t4 (x5 _ (by decide)) rfl) (fun I6 J6 x6 j6 t6 => ⟨n + 1, ?_⟩))
      have q6 : eqx trC I I6 := (q4.tr (x5.mono (by decide))).tr (x6.mono (by decide))
      have E6 : moE I6 17 ν := moE_cong (fun c c1 c2 => by rw [x6 c (by simp; omega), x5 c (by simp; omega)]) E4
      have hW6 := isW_of (q6.eqm (C := trC) (F := []) (fun _ q => q) (by decide)) (by decide) (by decide) hW
      refine s_rests2_loop (w := wdO I m n fl) (L := [(bI rr).toInt64, (stM (wdO I m n fl) ν (oI ν)).toInt64]) rfl hW6 E6 (fun I7 J7 x7 j7 t7 => ?_) n 0 I6 J6 (Nat.zero_add _) eqx.rf eqj.rf t6
      intro I8 e8
      have s7 : eqm (0 :: scrC) (1 :: scrF) I I7 := (q6.tr (x7.mono (by decide))).eqm (by decide) (by decide)
      have s8 : eqm (0 :: scrC) (1 :: scrF) I I8 := by rw [e8]; exact s7.upF (by decide) _
      refine in_N (N := 30) (by decide) rfl (fun hno => absurd ⟨N, hN, rfl⟩ hno) (fun _ _ _ => ?_)
      rw [sw_if_f (by decide)]
      refine s_X10_puts (by decide) (fun I9 x9 r9 => ⟨N + 1, ?_⟩)
      have s9 : eqm (0 :: scrC) (1 :: scrF) I I9 := s8.tr (x9.eqm (by decide) (by decide))
      have hW9 := isW_of s9 (by decide) (by decide) hW
      have R9 : relM (wdO I m n fl) μ (I9 145) := relM_cong hn (fun j hj => by rw [r9 j hj, s8.1 _ (by decide) (by decide)]) hR
      refine m_rests_loop (w := wdO I m n fl) hN hW9 N 0 false μ I9 (by omega) eqm.rf R9 (fun I10 x10 R10 => ?_)
      rw [hro] at R10 ⊢
      intro I11 e11
      have s10 : eqm (0 :: scrC) (1 :: scrF) I I10 := s9.tr (x10.mono (by decide) (by decide))
      have s11 : eqm (0 :: scrC) (1 :: scrF) I I11 := by rw [e11]; exact s10.upF (by decide) _
      refine s_X10_flag ?_
      have efl : (if bI rr = 0 then (0 : Int32) else 1) = bI rr := by cases rr <;> decide
      rw [efl]
      refine t_enters (by decide) (tlM_0 e11) (fun I12 J12 x12 j12 t12 => ?_)
      have s12 : eqm (0 :: scrC) (1 :: scrF) I I12 := s11.tr (x12.mono (by decide) (by decide))
      have n12 : I12 145 = I10 145 := by rw [x12.1 _ (by decide) (by decide), e11, sw_up_row _ _ _ (by decide)]
      have e30 : I12 145 (30 : Int32).toNatClampNeg = oI ν := by rw [n12]; exact R10.1.2.1.symm
      rw [e30]
      refine m_stopM (w := wdO I m n fl) (μ := ν) (by decide) (by decide) (isW_of s12 (by decide) (by decide) hW) (by rw [n12]; exact R10) (fun I13 x13 => ?_)
      refine t_enters (by simp) (tlM_of t12 (x13.2 _ (by decide)) rfl) (fun I14 J14 x14 j14 t14 => ⟨n + 1, ?_⟩)
      have s14 : eqm (0 :: scrC) (1 :: scrF) I I14 := (s12.tr (x13.mono (by decide) (by decide))).tr (x14.mono (by decide) (by decide))
      have n14 : I14 145 = I10 145 := by rw [x14.1 _ (by decide) (by decide), x13.1 _ (by decide) (by decide), n12]
      refine m_rests2_loop (w := wdO I m n fl) (L := [(bI rr).toInt64, (stM (wdO I m n fl) ν (oI ν)).toInt64]) rfl (isW_of s14 (by decide) (by decide) hW) (by rw [n14]; exact R10) (fun I15 J15 x15 j15 t15 => ?_) n 0 I14 J14 (Nat.zero_add _) eqm.rf eqj.rf t14
      have jj : eqj [141] J7 J15 := (j12.tr j14).tr j15
      refine hQ _ I15 J15 (told_fin hw (s14.tr (x15.mono (by decide) (by decide))) (by rw [List.length_append, rwL_len]; show 2 + n ≤ 12; omega) (tlC_of t7 ?_ (jj _ (by decide))) t15) ?_
      · rw [x15.1 _ (by decide) (by decide), x14.1 _ (by decide) (by decide), x13.1 _ (by decide) (by decide), x12.1 _ (by decide) (by decide), e11, sw_up_row _ _ _ (by decide), x10.1 _ (by decide) (by decide), x9 _ (by decide), e8, sw_up_row _ _ _ (by decide)]
      · rw [x15.2 _ (by decide), x14.2 _ (by decide), x13.2 _ (by decide), x12.2 _ (by decide), e11, sw_up_slot _ _ _ _ (by decide), x10.2 _ (by decide), x9 _ (by decide), e8, sw_up_same]
    unfold wB_X9_rests_59
    refine t_clear (fun I3 x3 t3 => ?_)
    have q3 : eqx trC I I3 := (x2.mono (by decide)).tr (x3.mono (by decide))
    have T := tell I3 q3 (moE_cong (fun c c1 c2 => x3 c (by simp; omega)) e2) t3
    cases rr
    · rw [sw_if_t (show bI false = 0 from rfl)]; exact T
    · rw [sw_if_f (show ¬ bI true = 0 by decide)]; exact T
