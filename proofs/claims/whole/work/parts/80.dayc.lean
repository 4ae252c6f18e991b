/-! day: the class does the acts -/
abbrev tdA : Nat := 0
abbrev tdR : Nat := 1
abbrev tdD : Nat := 2
theorem moE_flip {I I2 : sw_I} {a : Nat} {μ : Mo} {s : Int32} (h : moE I a μ) (e : ∀ k, I2 a k = if k = 3 then s else I a k) (e1 : I2 (a + 1) = I (a + 1)) (e2 : I2 (a + 2) = I (a + 2)) (e3 : I2 (a + 3) = I (a + 3)) : moE I2 a (setI μ s) := by
  obtain ⟨h1, h2, h3, h4⟩ := h
  refine ⟨fun i hi => ?_, ?_, ?_, ?_⟩
  · rw [e1, e2, e3]; exact h1 i hi
  · rw [e, if_pos rfl]; rfl
  · rw [e, if_neg (by decide)]; exact h3
  · rw [e, if_neg (by decide)]; exact h4
theorem c_pass_loop {w : Wd} {T : Nat → Int32} {U : Nat → Nat} {t q κ : Nat} (ht : t ≤ 80) (hq : q ≤ t) (hU : txU T U t) (hκ : κ ≤ 1) {vb : Bool} {v : Int32} {I : sw_I} {J : sw_J} {Q : Int32 → sw_I → sw_J → Prop} (hs : I 1 1 = nI t) (hT : I 2 = T) {g : Int32} (hg : g = bI (decide (κ = 0))) :
    ∀ (d p D : Nat) (μ : Mo) (I2 : sw_I), p + d = q → (∀ j, p ≤ j → j < q → 97 ≤ U j ∧ U j ≤ 106) → eqx [13, 119] I I2 → moE I2 13 μ → I2 119 tdD = nI D → I2 119 tdR = I 119 tdR → I2 119 tdA = I 119 tdA →
      (∀ I3, eqx [13, 119] I I3 → moE I3 13 (paM w κ vb v (lsR U d p) μ).2.1 → I3 119 tdD = nI (D + (paM w κ vb v (lsR U d p) μ).2.2) → I3 119 tdR = I 119 tdR → I3 119 tdA = I 119 tdA → Q (bI (paM w κ vb v (lsR U d p) μ).1) I3 J) → wl_X0_pass_22 13 Q (d + 1) (nI q) g (nI p) I2 J := by
  intro d
  induction d with
  | zero =>
    intro p D μ I2 hd hl e1 hE hD hR hA h
    show wb_X0_pass_22 _ _ Q _ _ _ I2 J
    unfold wb_X0_pass_22
    rw [sw_if_f (nI_nlt (by omega) (by omega))]
    exact h I2 e1 hE hD hR hA
  | succ d ih =>
    intro p D μ I2 hd hl e1 hE hD hR hA h
    show wb_X0_pass_22 _ _ Q _ _ _ I2 J
    unfold wb_X0_pass_22
    rw [sw_if_t (nI_lt (by omega) (by omega))]
    refine s_X8_at (T := T) ht (by rw [e1 _ (by decide)]; exact hs) (by rw [e1 _ (by decide)]; exact hT) (by omega) ?_
    have hu := hU p (by omega)
    have hp := hl p (by omega) (by omega)
    rw [if_pos (by omega), hu.1]
    intro y hy
    have ey : y = nI (U p - 97) := by rw [hy]; exact nI_sub (b := 97) (by omega)
    have lse : lsR U (d + 1) p = (U p - 97) :: lsR U d (p + 1) := rfl
    generalize hr : U p - 97 = r at ey lse
    have hr10 : r < 10 := by omega
    rw [lse] at h
    have no : paO w κ vb μ r = false → Q 0 I2 J := by
      intro hno
      have e : paM w κ vb v (r :: lsR U d (p + 1)) μ = (false, μ, 0) := by show (if _ then _ else _) = _; rw [if_neg (by rw [hno]; decide)]
      rw [e] at h
      exact h I2 e1 hE hD hR hA
    have yes : paO w κ vb μ r = true → wB_X0_pass_68 13 (wl_X0_pass_22 13 Q (d + 1)) Q (nI q) g (nI p) y I2 J := by
      intro hyes
      have hst : paS κ v μ r = flM μ r := by unfold paS; rw [if_neg (by omega)]
      have e : paM w κ vb v (r :: lsR U d (p + 1)) μ = ((paM w κ vb v (lsR U d (p + 1)) (flM μ r)).1, (paM w κ vb v (lsR U d (p + 1)) (flM μ r)).2.1, (paM w κ vb v (lsR U d (p + 1)) (flM μ r)).2.2 + 1) := by
        show (if _ then _ else _) = _; rw [if_pos hyes, hst]
      rw [e] at h
      unfold wB_X0_pass_68
      intro I3 e3 I5 e5 y2 hy2
      rw [hy2, nI_1]
      have x5 : eqx [13, 119] I I5 := by rw [e5, e3]; exact (e1.up (by decide) _ _).up (by decide) _ _
      refine ih (p + 1) (D + 1) (flM μ r) I5 (by omega) (fun j h1 h2 => hl j (by omega) h2) x5 ?_ ?_ ?_ ?_ (fun I6 z1 z2 z3 z4 z5 => ?_)
      · refine moE_flip hE (fun k => ?_) ?_ ?_ ?_
        · rw [e5, sw_up_cell _ _ _ _ (by decide), e3]
          by_cases ck : k = 3
          · rw [ck, sw_up_same, if_pos rfl, ey, hE.2.1]
          · rw [sw_up_slot _ _ _ _ ck, if_neg ck]
        · rw [e5, sw_up_row _ _ _ (by decide), e3, sw_up_row _ _ _ (by decide)]
        · rw [e5, sw_up_row _ _ _ (by decide), e3, sw_up_row _ _ _ (by decide)]
        · rw [e5, sw_up_row _ _ _ (by decide), e3, sw_up_row _ _ _ (by decide)]
      · rw [e5, sw_up_same, e3, sw_up_cell _ _ _ _ (by decide)]; show I2 119 tdD + 1 = _; rw [hD, nI_1]
      · rw [e5, sw_up_slot _ _ _ _ (by decide), e3, sw_up_cell _ _ _ _ (by decide)]; exact hR
      · rw [e5, sw_up_slot _ _ _ _ (by decide), e3, sw_up_cell _ _ _ _ (by decide)]; exact hA
      · refine h I6 z1 z2 ?_ z4 z5
        rw [z3]; congr 1; dsimp only; omega
    by_cases c0 : κ = 0
    · rw [hg, c0, sw_if_f (by decide), ey]
      refine s_X3_stands_any (fun co => (ix_out (n := 10) (by decide) hr10 rfl co).elim) (fun k hk ek => ?_)
      have ek2 := (nI_eq (by omega) (by omega)).mp ek
      rw [← ek2, hE.2.1, hE.2.2.1]
      have eb : sdB (I2 (13 + 1)) (oI μ) (oL μ) r = paO w κ vb μ r := by
        unfold paO; rw [if_pos c0]; unfold sdB; rw [(hE.1 r hr10).1]
      rw [eb]
      cases hb : paO w κ vb μ r
      · rw [sw_if_t (by simp)]; exact no hb
      · rw [sw_if_f (by simp)]
        have := yes hb
        rw [hg, c0, ey] at this; exact this
    · have c1 : κ = 1 := by omega
      rw [hg, c1, sw_if_t (by rfl), ey]
      refine s_X3_isIn hr10 ?_
      rw [hE.2.1]
      have eb : inB (oI μ) r = paO w κ vb μ r := by unfold paO; rw [if_neg c0, if_pos c1]
      rw [eb]
      cases hb : paO w κ vb μ r
      · rw [sw_if_t (by simp)]; exact no hb
      · rw [sw_if_f (by simp)]
        have := yes hb
        rw [hg, c1, ey] at this; exact this
theorem c_act_rides {w : Wd} {N : Nat} (hN : N ≤ 9) {I : sw_I} {J : sw_J} {Q : Int32 → sw_I → sw_J → Prop} (hW : isW I w) {R D : Nat} :
    ∀ (d k : Nat) (μ : Mo) (I2 : sw_I), k + d = N → eqx (119 :: rdC 13) I I2 → moE I2 13 μ → I2 119 tdD = nI (D + k) → I2 119 tdR = nI (R + k) → I2 119 tdA = I 119 tdA → (∀ I3, eqx (119 :: rdC 13) I I3 → moE I3 13 (itM w d μ) → I3 119 tdD = nI (D + N) → I3 119 tdR = nI (R + N) → I3 119 tdA = I 119 tdA → Q 1 I3 J) → wl_X0_act_106 13 Q (d + 1) (nI N) (nI k) I2 J := by
  intro d
  induction d with
  | zero =>
    intro k μ I2 hk h1 hE hD hR hA h
    obtain rfl : k = N := by omega
    show wb_X0_act_106 _ _ Q _ _ I2 J
    unfold wb_X0_act_106
    rw [sw_if_f (nI_nlt (Nat.le_refl _) (by omega))]
    exact h I2 h1 hE hD hR hA
  | succ d ih =>
    intro k μ I2 hk h1 hE hD hR hA h
    show wb_X0_act_106 _ _ Q _ _ I2 J
    unfold wb_X0_act_106
    rw [sw_if_t (nI_lt (by omega) (by omega))]
    refine c_rideM (by decide) (isW_of (h1.eqm (C := 119 :: rdC 13) (F := []) (fun _ q => q) (by decide)) (by decide) (by decide) hW) hE (fun I3 x3 e3 => ?_)
    intro I5 e5 I7 e7 y hy
    rw [hy, nI_1]
    have t3 : I3 119 = I2 119 := x3 _ (by decide)
    refine ih (k + 1) (rdM w μ) I7 (by omega) ?_ ?_ ?_ ?_ ?_ h
    · rw [e7, e5]; exact ((h1.tr (x3.mono (by decide))).up (by decide) _ _).up (by decide) _ _
    · refine moE_cong (fun c c1 c2 => ?_) e3
      rw [e7, sw_up_row _ _ _ (by omega), e5, sw_up_row _ _ _ (by omega)]
    · rw [e7, sw_up_same, e5, sw_up_slot _ _ _ _ (by decide), t3]; show I2 119 tdD + 1 = _; rw [hD, nI_1]; rfl
    · rw [e7, sw_up_slot _ _ _ _ (by decide), e5, sw_up_same, t3]; show I2 119 tdR + 1 = _; rw [hR, nI_1]; rfl
    · rw [e7, sw_up_slot _ _ _ _ (by decide), e5, sw_up_slot _ _ _ _ (by decide), t3]; exact hA
abbrev dyX : List Nat := 119 :: (13 + 2) :: rdC 13
theorem c_act {w : Wd} {T : Nat → Int32} {U : Nat → Nat} {t p R D : Nat} {μ : Mo} (ht : t ≤ 80) (hU : txU T U t) (hp : dyE U t p = none) {I : sw_I} {J : sw_J} {Q : Int32 → sw_I → sw_J → Prop} (hW : isW I w) (hs : I 1 1 = nI t) (hT : I 2 = T) (hE : moE I 13 μ) (hD : I 119 tdD = nI D) (hR : I 119 tdR = nI R)
    (h : ∀ I3, eqx dyX I I3 → moE I3 13 (acM w U t p μ).2.1 → I3 119 tdD = nI (D + acC U t p (acM w U t p μ).2.2.2) → I3 119 tdR = nI (R + (acM w U t p μ).2.2.1) → I3 119 tdA = I 119 tdA → Q (bI (acM w U t p μ).1) I3 J) : wp_X0_act 13 (nI p) (nI (dyQ U t p)) I J Q := by
  obtain ⟨hlt, hk⟩ := dyE_none hp
  have hq := dyQ_rng hp
  have hu := hU p hlt
  have eqc : ∀ k, k < 256 → (nI (U p) = nI k ↔ U p = k) := fun k hk => nI_eq (by omega) (by omega)
  have pass : (U p = 105 ∨ U p = 111) → wB_X0_act_40 13 Q (nI p) (nI (dyQ U t p)) I J := by
    intro hc
    have h3 : ¬ kd U p = 3 := by unfold kd; rcases hc with c | c <;> rw [c] <;> decide
    have hm : acM w U t p μ = ((paM w (kd U p) (acB U (wf w) p) (acW U p) (acL U t p) μ).1, (paM w (kd U p) (acB U (wf w) p) (acW U p) (acL U t p) μ).2.1, 0, (paM w (kd U p) (acB U (wf w) p) (acW U p) (acL U t p) μ).2.2) := by unfold acM; rw [if_neg h3]
    have hl : acL U t p = lsR U (dyQ U t p - (p + 1)) (p + 1) := by unfold acL; rw [if_neg (by omega)]
    have hcc : acC U t p (acM w U t p μ).2.2.2 = (acM w U t p μ).2.2.2 := by unfold acC; rw [if_neg h3]
    have hkd : kd U p = if U p = 105 then 0 else 1 := by unfold kd; rcases hc with c | c <;> rw [c] <;> rfl
    rw [hcc, hm, hl] at h
    unfold wB_X0_act_40 wp_X0_pass
    refine s_X8_at ht hs hT (by omega) ?_
    rw [if_pos hlt, hu.1]
    have go : ∀ g, g = bI (decide (kd U p = 0)) → wB_X0_pass_15 13 (fun r I2 J2 => (r = 0 ∨ r = 1) ∧ Q r I2 J2) (nI p) (nI (dyQ U t p)) g I J := by
      intro g hg y hy
      rw [nI_1] at hy
      rw [hy]
      refine ⟨dyQ U t p - (p + 1) + 1, c_pass_loop (w := w) (κ := kd U p) (vb := acB U (wf w) p) (v := acW U p) ht hq.2 hU (by rw [hkd]; split <;> omega) hs hT hg _ (p + 1) D μ I (by omega) (fun j h1 h2 => ?_) eqx.rf hE hD rfl rfl (fun I3 z1 z2 z3 z4 z5 => ⟨?_, h I3 (z1.mono (by decide)) z2 z3 (by rw [z4, hR]; rfl) z5⟩)⟩
      · rw [dyQ_lt hlt (by omega) (by omega)] at h2
        exact ltQ_let U t _ 96 (p + 1) j (by omega) h1 h2
      · generalize (paM w (kd U p) (acB U (wf w) p) (acW U p) (lsR U (dyQ U t p - (p + 1)) (p + 1)) μ).1 = b
        cases b
        · exact Or.inl rfl
        · exact Or.inr rfl
    by_cases c : U p = 105
    · rw [sw_if_t (show nI (U p) = (105 : Int32) by rw [c]; rfl)]
      exact go 1 (by rw [hkd, if_pos c]; rfl)
    · rw [sw_if_f (show ¬ nI (U p) = (105 : Int32) from fun z => c ((eqc 105 (by omega)).mp z))]
      exact go 0 (by rw [hkd, if_neg c]; rfl)
  unfold wp_X0_act
  refine s_X8_at ht hs hT (by omega) ?_
  rw [if_pos hlt, hu.1]
  by_cases c1 : U p = 105
  · rw [sw_if_t (by rw [c1]; rfl)]; exact pass (Or.inl c1)
  rw [sw_if_f (show ¬ nI (U p) = (105 : Int32) from fun z => c1 ((eqc 105 (by omega)).mp z))]
  by_cases c2 : U p = 111
  · rw [sw_if_t (by rw [c2]; rfl)]; exact pass (Or.inr c2)
  rw [sw_if_f (show ¬ nI (U p) = (111 : Int32) from fun z => c2 ((eqc 111 (by omega)).mp z))]
  by_cases c3 : U p = 119
  · rw [sw_if_t (by rw [c3]; rfl)]
    have k2 : kd U p = 2 := by unfold kd; rw [c3]; rfl
    have hx : p + 2 < t ∧ 97 ≤ U (p + 1) ∧ U (p + 1) ≤ 106 ∧ (U (p + 2) = 45 ∨ 48 ≤ U (p + 2) ∧ U (p + 2) ≤ 57) := by omega
    have hl : acL U t p = [U (p + 1) - 97] := by unfold acL; rw [if_pos c3]; rfl
    have hcc : acC U t p (acM w U t p μ).2.2.2 = (acM w U t p μ).2.2.2 := by unfold acC; rw [if_neg (by omega)]
    have hm : acM w U t p μ = ((paM w (kd U p) (acB U (wf w) p) (acW U p) (acL U t p) μ).1, (paM w (kd U p) (acB U (wf w) p) (acW U p) (acL U t p) μ).2.1, 0, (paM w (kd U p) (acB U (wf w) p) (acW U p) (acL U t p) μ).2.2) := by unfold acM; rw [if_neg (by omega)]
    rw [hcc, hm, hl, k2] at h
    have u1 := hU (p + 1) (by omega)
    have u2 := hU (p + 2) (by omega)
    rw [nI_1, show nI p + (2 : Int32) = nI (p + 2) from nI_add _ _]
    refine s_X8_at ht hs hT (by omega) (s_X8_at ht hs hT (by omega) ?_)
    rw [if_pos (by omega), if_pos (by omega), u1.1, u2.1, show nI (U (p + 1)) - (97 : Int32) = nI (U (p + 1) - 97) from nI_sub (b := 97) (by omega)]
    generalize hr : U (p + 1) - 97 = r at h
    have hpa : paM w 2 (acB U (wf w) p) (acW U p) [r] μ = if decide (r < wn w) && acB U (wf w) p then (true, setW μ r (acW U p), 1) else (false, μ, 0) := by
      show (if _ then _ else _) = _
      have : paO w 2 (acB U (wf w) p) μ r = (decide (r < wn w) && acB U (wf w) p) := rfl
      rw [this]
      split
      · rfl
      · rfl
    rw [hpa] at h
    have hn := hW.1.2.2.1
    have hfl := hW.1.2.1
    have go : ∀ s0, s0 = acW U p → wB_X0_wish_16 13 (fun r_13 I_14 J_15 => (r_13 = 0 ∨ r_13 = 1) ∧ Q r_13 I_14 J_15) (nI r) s0 I J := by
      intro s0 e0
      unfold wB_X0_wish_16
      have nope : (decide (r < wn w) && acB U (wf w) p) = false → ((0 : Int32) = 0 ∨ (0 : Int32) = 1) ∧ Q 0 I J := by
        intro hb
        rw [if_neg (by rw [hb]; decide)] at h
        exact ⟨Or.inl rfl, h I eqx.rf hE hD hR rfl⟩
      refine s_X1_hasRider hn hW.1.2.2.2.2.2.1 (fun co => ?_) (fun k hk ek => ?_)
      · rw [sw_if_t rfl]
        refine nope ?_
        rw [Bool.and_eq_false_iff]; left
        exact decide_eq_false (fun z => ix_out (n := wn w) (by omega) z rfl co)
      · have ek2 := (nI_eq (by omega) (by omega)).mp ek
        rw [sw_if_f (by decide)]
        have fwb : fw (wf w) s0 ↔ acB U (wf w) p = true := by
          rw [e0]
          unfold fw acB acW
          rw [decide_eq_true_iff]
          by_cases c45 : U (p + 2) = 45
          · rw [if_pos c45]; exact ⟨fun _ => Or.inl c45, fun _ => Or.inl rfl⟩
          · rw [if_neg c45]
            constructor
            · intro z
              rcases z with z | ⟨j, hj, ej⟩
              · exact absurd (show nI (U (p + 2) - 48) < 0 by rw [z]; decide) (nI_pos (by omega))
              · right; have := (nI_eq (by omega) (by omega)).mp ej; omega
            · intro z
              right; exact ⟨U (p + 2) - 48, by omega, rfl⟩
        refine s_X1_canBeWish hfl hW.1.2.2.2.1 (fun co => ?_) (fun co => ?_)
        · rw [sw_if_t rfl]
          refine nope ?_
          rw [Bool.and_eq_false_iff]; right
          cases hb : acB U (wf w) p
          · rfl
          · exact absurd (fwb.mpr hb) co
        · rw [sw_if_f (by decide), nI_clamp (by omega)]
          refine ⟨vp0 (by omega) (by decide), fun I10 e10 I12 e12 => ⟨Or.inr rfl, ?_⟩⟩
          have hb : (decide (r < wn w) && acB U (wf w) p) = true := by
            rw [Bool.and_eq_true]; exact ⟨decide_eq_true (by omega), fwb.mp co⟩
          rw [if_pos hb] at h
          refine h I12 ?_ ?_ ?_ ?_ ?_
          · rw [e12, e10]; exact (eqx.rf.up (by decide) _ _).up (by decide) _ _
          · refine moE_setW hE ?_ ?_ ?_ ?_
            · rw [e12, sw_up_row _ _ _ (by decide), e10, sw_up_rowf, e0]
            · rw [e12, sw_up_row _ _ _ (by decide), e10, sw_up_row _ _ _ (by decide)]
            · rw [e12, sw_up_row _ _ _ (by decide), e10, sw_up_row _ _ _ (by decide)]
            · rw [e12, sw_up_row _ _ _ (by decide), e10, sw_up_row _ _ _ (by decide)]
          · rw [e12, sw_up_same, e10, sw_up_cell _ _ _ _ (by decide)]; show I 119 tdD + 1 = _; rw [hD, nI_1]
          · rw [e12, sw_up_slot _ _ _ _ (by decide), e10, sw_up_cell _ _ _ _ (by decide)]; exact hR
          · rw [e12, sw_up_slot _ _ _ _ (by decide), e10, sw_up_cell _ _ _ _ (by decide)]
    unfold wp_X0_wish
    by_cases c45 : U (p + 2) = 45
    · rw [sw_if_t (show nI (U (p + 2)) = (45 : Int32) by rw [c45]; rfl)]
      exact go _ (by unfold acW; rw [if_pos c45])
    · rw [sw_if_f (show ¬ nI (U (p + 2)) = (45 : Int32) from fun z => c45 ((nI_eq (b := 45) (by omega) (by omega)).mp z))]
      exact go _ (by unfold acW; rw [if_neg c45]; exact nI_sub (b := 48) (by omega))
  · rw [sw_if_f (show ¬ nI (U p) = (119 : Int32) from fun z => c3 ((eqc 119 (by omega)).mp z))]
    have c4 : U p = 114 := by omega
    have k3 : kd U p = 3 := (kd_3 hp).mpr c4
    have hm : acM w U t p μ = (true, itM w (acN U t p) μ, acN U t p, 1) := by unfold acM; rw [if_pos k3]
    have hcc : acC U t p (acM w U t p μ).2.2.2 = acN U t p := by unfold acC; rw [if_pos k3]
    rw [hcc, hm] at h
    have hN := acN_rng (U := U) (to := t) (p := p)
    have go : ∀ s0, s0 = nI (acN U t p) → wB_X0_act_101 13 Q s0 I J := by
      intro s0 e0
      rw [e0]
      exact ⟨acN U t p + 1, c_act_rides hN.2 hW (acN U t p) 0 μ I (by omega) eqx.rf hE hD hR rfl (fun I3 z1 z2 z3 z4 z5 => h I3 (z1.mono (by decide)) z2 z3 z4 z5)⟩
    rw [nI_1]
    by_cases c : p + 1 < t ∧ 49 ≤ U (p + 1) ∧ U (p + 1) ≤ 57
    · have eQ : dyQ U t p = p + 2 := by unfold dyQ; rw [if_pos c4, if_pos c]
      rw [eQ, sw_if_t (nI_lt (by omega) (by omega))]
      refine s_X8_at ht hs hT (by omega) ?_
      rw [if_pos c.1, (hU (p + 1) c.1).1]
      refine go _ ?_
      unfold acN; rw [if_pos c]; exact nI_sub (b := 48) (by omega)
    · have eQ : dyQ U t p = p + 1 := by unfold dyQ; rw [if_pos c4, if_neg c]
      rw [eQ, sw_if_f (nI_nlt (by omega) (by omega))]
      refine go _ ?_
      unfold acN; rw [if_neg c]; rfl
/-- all acts -/
theorem c_live_loop {w : Wd} {T : Nat → Int32} {U : Nat → Nat} {t : Nat} (h0 : 0 < t) (ht : t ≤ 80) (hU : txU T U t) {I : sw_I} {J : sw_J} {Q : Int32 → sw_I → sw_J → Prop} (hW : isW I w) (hs : I 1 1 = nI t) (hT : I 2 = T) :
    ∀ (d p A R D : Nat) (μ : Mo) (I2 : sw_I), (dyP U t d p).1 = true → (dyP U t d p).2.1 = t → eqx dyX I I2 → moE I2 13 μ → I2 119 tdA = nI A → I2 119 tdD = nI D → I2 119 tdR = nI R →
      (∀ I3, eqx dyX I I3 → moE I3 13 (dyR w U t (dyP U t d p).2.2 μ).2.2.1 → I3 119 tdA = nI (A + (dyR w U t (dyP U t d p).2.2 μ).2.1) → I3 119 tdD = nI (D + (dyR w U t (dyP U t d p).2.2 μ).2.2.2.2.1) → I3 119 tdR = nI (R + (dyR w U t (dyP U t d p).2.2 μ).2.2.2.1) → Q (bI (dyR w U t (dyP U t d p).2.2 μ).1) I3 J) → wl_X0_live_21 13 Q (t + 2 - p) (nI p) (nI p) I2 J := by
  intro d
  induction d with
  | zero => intro p A R D μ I2 g1; exact absurd g1 (by show ¬ false = true; decide)
  | succ d ih =>
    intro p A R D μ I2 g1 g2 e1 hE hA hD hR h
    rw [dyP_s] at g1 g2 h
    cases hd : dyE U t p with
    | some e => rw [hd] at g1; exact absurd g1 (by show ¬ false = true; decide)
    | none =>
      rw [hd] at g1 g2 h
      dsimp only at g1 g2 h
      have hq := dyQ_rng hd
      have W2 : isW I2 w := isW_of (e1.eqm (C := dyX) (F := []) (fun _ q => q) (by decide)) (by decide) (by decide) hW
      have s2 : I2 1 1 = nI t := by rw [e1 _ (by decide)]; exact hs
      have T2 : I2 2 = T := by rw [e1 _ (by decide)]; exact hT
      -- the act at its end
      have act : ∀ f, f = t + 1 - dyQ U t p → wB_X0_live_57 13 (wl_X0_live_21 13 Q f) Q (nI p) (nI (dyQ U t p)) I2 J := by
        intro f hf
        unfold wB_X0_live_57
        refine c_act (w := w) (μ := μ) ht hU hd W2 s2 T2 hE hD hR (fun I3 x3 E3 D3 R3 A3 => ?_)
        have dyRe : ∀ S, dyR w U t (p :: S) μ = if (acM w U t p μ).1 = true then ((dyR w U t S (acM w U t p μ).2.1).1, (dyR w U t S (acM w U t p μ).2.1).2.1 + 1, (dyR w U t S (acM w U t p μ).2.1).2.2.1, (acM w U t p μ).2.2.1 + (dyR w U t S (acM w U t p μ).2.1).2.2.2.1, acC U t p (acM w U t p μ).2.2.2 + (dyR w U t S (acM w U t p μ).2.1).2.2.2.2.1, (acM w U t p μ).2.2.2 + (dyR w U t S (acM w U t p μ).2.1).2.2.2.2.2) else (false, 0, (acM w U t p μ).2.1, (acM w U t p μ).2.2.1, acC U t p (acM w U t p μ).2.2.2, (acM w U t p μ).2.2.2) := fun S => rfl
        cases hok : (acM w U t p μ).1
        · rw [sw_if_t (by rfl)]
          have fin : ∀ S, dyR w U t (p :: S) μ = (false, 0, (acM w U t p μ).2.1, (acM w U t p μ).2.2.1, acC U t p (acM w U t p μ).2.2.2, (acM w U t p μ).2.2.2) := fun S => by rw [dyRe, if_neg (by rw [hok]; decide)]
          by_cases c : dyQ U t p < t ∧ U (dyQ U t p) = 59
          · rw [if_pos c] at h
            dsimp only at h
            rw [fin] at h
            exact h I3 (e1.tr x3) E3 (by rw [A3]; exact hA) D3 R3
          · rw [if_neg c] at h
            dsimp only at h
            rw [fin] at h
            exact h I3 (e1.tr x3) E3 (by rw [A3]; exact hA) D3 R3
        · rw [sw_if_f (by decide)]
          intro I5 e5 y hy
          unfold wB_X0_live_89
          intro y2 hy2
          rw [nI_1] at hy hy2
          rw [hy, hy2]
          have x5 : eqx dyX I I5 := by rw [e5]; exact (e1.tr x3).up (by decide) _ _
          have E5 : moE I5 13 (acM w U t p μ).2.1 := moE_cong (fun c c1 c2 => by rw [e5, sw_up_row _ _ _ (by omega)]) E3
          have A5 : I5 119 tdA = nI (A + 1) := by rw [e5, sw_up_same]; show I3 119 tdA + 1 = _; rw [A3, hA, nI_1]
          have D5 : I5 119 tdD = nI (D + acC U t p (acM w U t p μ).2.2.2) := by rw [e5, sw_up_slot _ _ _ _ (by decide)]; exact D3
          have R5 : I5 119 tdR = nI (R + (acM w U t p μ).2.2.1) := by rw [e5, sw_up_slot _ _ _ _ (by decide)]; exact R3
          by_cases c : dyQ U t p < t ∧ U (dyQ U t p) = 59
          · rw [if_pos c] at g1 g2 h
            dsimp only at g1 g2 h
            rw [dyRe, if_pos hok] at h
            dsimp only at h
            rw [hf, show t + 1 - dyQ U t p = t + 2 - (dyQ U t p + 1) by omega]
            refine ih (dyQ U t p + 1) (A + 1) _ _ _ I5 g1 g2 x5 E5 A5 D5 R5 (fun I6 z1 z2 z3 z4 z5 => h I6 z1 z2 ?_ ?_ ?_)
            · rw [z3]; congr 1; omega
            · rw [z4]; congr 1; omega
            · rw [z5]; congr 1; omega
          · rw [if_neg c] at g1 g2 h
            dsimp only at g1 g2 h
            rw [dyRe, if_pos hok] at h
            have en : dyR w U t [] (acM w U t p μ).2.1 = (true, 0, (acM w U t p μ).2.1, 0, 0, 0) := rfl
            rw [en] at h
            dsimp only at h
            rw [hf, g2, show t + 1 - t = 1 by omega]
            show wb_X0_live_21 _ _ Q _ _ I5 J
            unfold wb_X0_live_21
            rw [sw_if_t (by rw [x5 _ (by decide), hs]; exact nI_lt (by omega) (by omega))]
            exact h I5 x5 E5 A5 D5 R5
      -- the signs ahead of it
      have scan : ∀ e j, j + e = dyQ U t p → p ≤ j → wl_X0_live_21 13 Q (t + 2 - j) (nI p) (nI j) I2 J := by
        intro e
        induction e with
        | zero =>
          intro j hj hpj
          obtain rfl : j = dyQ U t p := by omega
          rw [show t + 2 - dyQ U t p = (t + 1 - dyQ U t p) + 1 by omega]
          show wb_X0_live_21 _ _ Q _ _ I2 J
          unfold wb_X0_live_21
          rw [s2, sw_if_f (nI_nlt (by omega) (by omega)), sw_if_t (show (0 : Int32) < nI t from nI_lt (a := 0) h0 (by omega))]
          by_cases c : dyQ U t p = t
          · rw [sw_if_t (by rw [c])]; exact act _ rfl
          · rw [sw_if_f (fun z => c ((nI_eq (by omega) (by omega)).mp z))]
            refine s_X8_at ht s2 T2 (by omega) ?_
            rw [if_pos (by omega), (hU _ (show dyQ U t p < t by omega)).1]
            have c9 : U (dyQ U t p) = 59 := by
              by_cases c : dyQ U t p < t ∧ U (dyQ U t p) = 59
              · exact c.2
              · rw [if_neg c] at g2
                dsimp only at g2
                omega
            rw [sw_if_t (by rw [c9]; rfl)]; exact act _ rfl
        | succ e ihe =>
          intro j hj hpj
          rw [show t + 2 - j = (t + 2 - (j + 1)) + 1 by omega]
          show wb_X0_live_21 _ _ Q _ _ I2 J
          unfold wb_X0_live_21
          rw [s2, sw_if_f (nI_nlt (by omega) (by omega)), sw_if_t (show (0 : Int32) < nI t from nI_lt (a := 0) h0 (by omega)), sw_if_f (fun z => by have := (nI_eq (by omega) (by omega)).mp z; omega)]
          refine s_X8_at ht s2 T2 (by omega) ?_
          rw [if_pos (by omega), (hU j (by omega)).1]
          have n9 := dyQ_in hd hpj (show j < dyQ U t p by omega)
          rw [sw_if_f (show ¬ nI (U j) = (59 : Int32) from fun z => n9 ((nI_eq (b := 59) (by have := (hU j (by omega)).2; omega) (by omega)).mp z))]
          intro y hy
          rw [nI_1] at hy
          rw [hy]
          exact ihe (j + 1) (by omega) (by omega)
      exact scan (dyQ U t p - p) p (by omega) (Nat.le_refl _)
