/-! promise: day -/
theorem c_live {w : Wd} {T : Nat → Int32} {U : Nat → Nat} {t : Nat} {μ : Mo} (ht : t ≤ 60) (hU : txU T U t) (g1 : (dyZ U t).1 = true) (g2 : (dyZ U t).2.1 = t) {I : sw_I} {J : sw_J} {Q : Int32 → sw_I → sw_J → Prop} (hW : isW I w) (hs : I 1 1 = nI t) (hT : I 2 = T) (hE : moE I 13 μ)
    (h : ∀ I3, eqx dyX I I3 → moE I3 13 (dyR w U t (dyZ U t).2.2 μ).2.2.1 → I3 119 tdA = nI (dyR w U t (dyZ U t).2.2 μ).2.1 → I3 119 tdD = nI (dyR w U t (dyZ U t).2.2 μ).2.2.2.2.1 → I3 119 tdR = nI (dyR w U t (dyZ U t).2.2 μ).2.2.2.1 → Q (bI (dyR w U t (dyZ U t).2.2 μ).1) I3 J) : wp_X0_live 13 I J Q := by
  intro I1 e1 I3 e3 I5 e5
  have x5 : eqx dyX I I5 := by rw [e5, e3, e1]; exact ((eqx.rf.up (by decide) _ _).up (by decide) _ _).up (by decide) _ _
  have E5 : moE I5 13 μ := moE_cong (fun c c1 c2 => by rw [e5, sw_up_row _ _ _ (by omega), e3, sw_up_row _ _ _ (by omega), e1, sw_up_row _ _ _ (by omega)]) hE
  have A5 : I5 119 tdA = nI 0 := by rw [e5, sw_up_slot _ _ _ _ (by decide), e3, sw_up_slot _ _ _ _ (by decide), e1, sw_up_same]; rfl
  have R5 : I5 119 tdR = nI 0 := by rw [e5, sw_up_slot _ _ _ _ (by decide), e3, sw_up_same]; rfl
  have D5 : I5 119 tdD = nI 0 := by rw [e5, sw_up_same]; rfl
  have W5 : isW I5 w := isW_of (x5.eqm (C := dyX) (F := []) (fun _ q => q) (by decide)) (by decide) (by decide) hW
  have s5 : I5 1 1 = nI t := by rw [x5 _ (by decide)]; exact hs
  have T5 : I5 2 = T := by rw [x5 _ (by decide)]; exact hT
  by_cases c0 : t = 0
  · have eX : dyZ U t = (true, 0, []) := by unfold dyZ; rw [if_pos c0]
    rw [eX] at h
    refine ⟨1, ?_⟩
    show wb_X0_live_21 _ _ Q _ _ I5 J
    unfold wb_X0_live_21
    rw [s5, c0, sw_if_f (by decide), sw_if_f (by decide)]
    exact h I5 x5 E5 A5 D5 R5
  · have eX : dyZ U t = dyP U t (t + 1) 0 := by unfold dyZ; rw [if_neg c0, show min t 60 = t by omega]
    rw [eX] at h g1 g2
    refine ⟨t + 2 - 0, c_live_loop (by omega) (by omega) hU W5 s5 T5 (t + 1) 0 0 0 0 μ I5 g1 g2 eqx.rf E5 A5 D5 R5 (fun I6 z1 z2 z3 z4 z5 => h I6 (x5.tr z1) z2 ?_ ?_ ?_)⟩
    · rw [z3, Nat.zero_add]
    · rw [z4, Nat.zero_add]
    · rw [z5, Nat.zero_add]
theorem dyZ_e {U : Nat → Nat} {t : Nat} : (if t = 0 then (-1 : Int32) else auV t 60 (auD U (min t 60) 0 0)) = hsV t 60 ((dyZ U t).1, (dyZ U t).2.1) := by
  by_cases c : t = 0
  · rw [if_pos c, c]; rfl
  · rw [if_neg c]
    have := au_dy (U := U) (t := t) (min t 60 + 1) 0 (by omega) (by omega)
    unfold dyZ
    rw [if_neg c]
    exact this
theorem dyP_le (U : Nat → Nat) (to : Nat) : ∀ d p, p ≤ to → (dyP U to d p).2.1 ≤ to + 2
  | 0, p, h => by show p ≤ _; omega
  | d + 1, p, h => by
    rw [dyP_s]
    cases hE : dyE U to p with
    | some e =>
      show e ≤ _
      unfold dyE at hE
      repeat' split at hE
      all_goals first | (cases hE; omega) | (cases hE) | skip
      all_goals omega
    | none =>
      have hr := dyQ_rng hE
      dsimp only
      by_cases c : dyQ U to p < to ∧ U (dyQ U to p) = 59
      · rw [if_pos c]; exact dyP_le U to d _ (by omega)
      · rw [if_neg c]; dsimp only; omega
theorem dyP_len2 (U : Nat → Nat) (to : Nat) : ∀ d p, 2 * (dyP U to d p).2.2.length ≤ to + 2 - p
  | 0, p => Nat.zero_le _
  | d + 1, p => by
    rw [dyP_s]
    cases hE : dyE U to p with
    | some e => exact Nat.zero_le _
    | none =>
      have hr := dyQ_rng hE
      dsimp only
      by_cases c : dyQ U to p < to ∧ U (dyQ U to p) = 59
      · rw [if_pos c]
        have := dyP_len2 U to d (dyQ U to p + 1)
        show 2 * ((dyP U to d (dyQ U to p + 1)).2.2.length + 1) ≤ _
        omega
      · rw [if_neg c]; show 2 * 1 ≤ _; omega
abbrev dvX : List Nat := 0 :: 21 :: dyX
abbrev dvM : List Nat := acA ++ 155 :: 144 :: mnsC
abbrev dvF : List Nat := [0, 13, 15, 14, 38, 32, 1] ++ dsF
theorem clamp256 : ∀ j, j < 256 → (nI j).toNatClampNeg = j := fun j hj => nI_clamp (by omega)
theorem p_day {c : Nat} {I : sw_I} {J : sw_J} {Q : Int32 → Int32 → sw_I → sw_J → Prop} (h : wW c I J) (hQ : ∀ v I2 J2, wW (c + 1) I2 J2 → I2 140 0 = 0 → Q v v I2 J2) :
    wp_X9_day  I J (fun r I1 J1 => wp_X10_day  I1 J1 (fun r2 I2 J2 => Q r r2 I2 J2)) := by
  obtain ⟨n, fl, m, q, p, r, t, s, z, hw⟩ := h
  obtain ⟨h0, h1, h2, h3, h4, h5, h6, h7, h8⟩ := id hw
  have hn := h1.2.2.1
  obtain ⟨p1, p2, p3, p4, p5, p6⟩ := id h4
  obtain ⟨x1, x2, x3, x4⟩ := id h6
  have hU : txU (I 2) (fun i => (I 2 i).toNatClampNeg) t := fun i hi => by
    obtain ⟨j, hj, ej⟩ := (x4 i hi).2
    show I 2 i = nI (I 2 i).toNatClampNeg ∧ (I 2 i).toNatClampNeg < 256
    rw [ej, clamp256 j hj]; exact ⟨rfl, hj⟩
  generalize (fun i => (I 2 i).toNatClampNeg) = U at hU
  have tape : ∀ i, i < t → I 146 i = I 2 i ∧ ∃ j, j < 256 ∧ I 2 i = nI j := fun i hi => ⟨(x4 i hi).1.symm, (x4 i hi).2⟩
  unfold wp_X9_day
  refine c_dflaw x1 hU x2 rfl ?_
  rw [dyZ_e]
  have hle : ((dyZ U t).1, (dyZ U t).2.1).2 ≤ 80 := by
    unfold dyZ
    by_cases c : t = 0
    · rw [if_pos c]; show 0 ≤ 80; omega
    · rw [if_neg c]
      have := dyP_le U (min t 60) (min t 60 + 1) 0 (by omega)
      dsimp only; omega
  by_cases cf : hsV t 60 ((dyZ U t).1, (dyZ U t).2.1) < 0
  · obtain ⟨g1, g2, g3, g4⟩ := hsG_neg hle cf (by decide)
    dsimp only at g1 g2
    rw [sw_if_t cf]
    -- the text is taken away ahead of all
    generalize eI0 : sw_up (sw_up I 1 1 0) 140 12 0 = I0
    have e : eqm [1] [12] I I0 := by rw [← eI0]; exact (eqm.rf.upC (by decide) (by decide) _ _).upF (by decide) _
    have hw0 : wR c I0 J n fl m q p r 0 s z := ⟨⟨h0.1, rb_of e (by decide) h0.2⟩, hs_of e (by decide) (by decide) h1, l_of e (by decide) (by decide) h2, now_of e (by decide) hn h3, past_of e (by decide) (by decide) hn h4, rw_of e (by decide) (by decide) h5, ⟨by omega, by rw [← eI0, sw_up_cell _ _ _ _ (by decide), sw_up_same]; rfl, by rw [← eI0, sw_up_same]; rfl, fun i hi => by omega⟩, sn_of e (by decide) (by decide) h7, kp_of e (by decide) (by decide) hn h8⟩
    have hwd : wdO I0 m n fl = wdO I m n fl := by
      show (I0 7, m, I0 4, n, fl, I0 140 5) = _
      rw [e.1 _ (by decide) (by decide), e.1 _ (by decide) (by decide), e.2 _ (by decide)]
    refine s_X4_prepare (q := q) (by omega) p1 p3 (fun I1 k1 => ?_)
    have f1 := k1.1
    have W1 : isW I1 (wdO I m n fl) := by
      refine isW_of (C := [23 + 4 * q, 23 + 4 * q + 1, 23 + 4 * q + 2, 23 + 4 * q + 3]) (F := []) ⟨fun c hc _ => f1 c (by simp at hc; omega), fun k _ => by rw [f1 _ (by omega)]⟩ (fun c hc => ?_) (by decide) (isW_O h1 h2)
      have : c < 21 ∨ 23 + 84 ≤ c := by revert c; decide +kernel
      simp; omega
    refine c_live (w := wdO I m n fl) (μ := moC I 13) g3 hU g1 g2 W1 (by rw [f1 _ (by omega)]; exact x2) (by rw [f1 _ (by omega)]) (moE_cong (fun c c1 c2 => f1 c (by omega)) (moE_C _ _)) (fun I3 z1 z2 z3 z4 z5 => ?_)
    have hmin : min t 60 = t := by omega
    have bnd : (dyR (wdO I m n fl) U t (dyZ U t).2.2 (moC I 13)).2.2.2.1 ≤ 200 ∧ (dyR (wdO I m n fl) U t (dyZ U t).2.2 (moC I 13)).2.2.2.2.1 < 2 ^ 31 ∧ (dyR (wdO I m n fl) U t (dyZ U t).2.2 (moC I 13)).2.2.2.2.2 < 2 ^ 31 ∧ (dyZ U t).2.2.length ≤ 60 := by
      unfold dyZ
      by_cases c : t = 0
      · rw [if_pos c]
        have en : dyR (wdO I m n fl) U t [] (moC I 13) = (true, 0, moC I 13, 0, 0, 0) := rfl
        show (dyR (wdO I m n fl) U t [] (moC I 13)).2.2.2.1 ≤ 200 ∧ (dyR (wdO I m n fl) U t [] (moC I 13)).2.2.2.2.1 < 2 ^ 31 ∧ (dyR (wdO I m n fl) U t [] (moC I 13)).2.2.2.2.2 < 2 ^ 31 ∧ 0 ≤ 60
        rw [en]; dsimp only; omega
      · rw [if_neg c, hmin]
        obtain ⟨b1, b2, b3, b4⟩ := dyR_rd (wdO I m n fl) U t (t + 1) 0 (moC I 13)
        have b5 := dyP_len2 U t (t + 1) 0
        refine ⟨by omega, by omega, by omega, by omega⟩
    have hmem : ∀ x, x ∈ (dyZ U t).2.2 → dyE U (min t 60) x = none := by
      unfold dyZ
      by_cases c : t = 0
      · rw [if_pos c]; intro x hx; exact absurd hx (by simp)
      · rw [if_neg c]; exact dyP_mem U (min t 60) _ _
    have hzero := dyR_z (wdO I m n fl) U t (dyZ U t).2.2 (moC I 13)
    have hoR := dyR_R (wdO I m n fl) U t (dyZ U t).2.2 (moC I 13)
    generalize hRR : dyR (wdO I m n fl) U t (dyZ U t).2.2 (moC I 13) = RR at z2 z3 z4 z5 bnd hzero hoR ⊢
    obtain ⟨bd1, bd2, bd3, bd4⟩ := bnd
    refine psC_0 p2 p1 (I := I) p3 p4 (by rw [z1 _ (by decide), f1 _ (by omega)]) z4 bd2 (fun I4 y4 ps4 => ?_)
    have fL : ∀ I9 J9, eqj [118] J J9 → (∀ c, c ≠ 0 → c ≠ 1 → I9 c = I4 c) → I9 1 = I0 1 → tlC I9 J9 [(nI RR.2.2.2.1).toInt64, (bI (!RR.1)).toInt64] → wp_X10_day I9 J9 (Q (nI RR.2.1)) := by
      intro I9 J9 j9 f9 t9 L9
      have g9 : ∀ c, c ∉ dvX → c ≠ 1 → (c < 23 + 4 * q ∨ 23 + 4 * q + 4 ≤ c) → I9 c = I c := fun c c1 c2 c3 => by
        simp only [dvX, List.mem_cons, not_or] at c1
        rw [f9 c c1.1 c2, y4 c (by simpa using c1.2.1), z1 c (by simp only [List.mem_cons, not_or]; exact c1.2.2), f1 c c3]
      have m9 : I9 140 = I 140 := g9 _ (by decide) (by decide) (by omega)
      have k9 : ∀ c, c ∈ [144, 155, 146] → I9 c = I c := fun c hc => g9 c (by revert c; decide) (by revert c; decide) (by have : 23 + 84 ≤ c := (by revert c; decide); omega)
      refine m_day (t := t) (T := I 2) (U := U) x1 hU (by rw [m9]; exact x3) (fun i hi => by rw [k9 _ (by decide)]; exact tape i hi) (fun hb => absurd cf hb) (fun _ I10 q10 t10 h10 hS => ?_)
      obtain ⟨Is, S1, S2, S3⟩ := hS
      have u10 : I10 140 32 = nI p := by rw [q10.2 _ (by decide), m9]; exact p5
      refine s_X10_putsBy p2 u10 (fun I11 x11 w11 => ?_)
      intro I12 e12 I13 e13
      have q13 : eqm dvM dvF I10 I13 := by
        have a : eqm dvM dvF I10 I11 := x11.eqm (by decide) (by decide)
        rw [e13, e12]; exact (a.upF (by decide) _).upF (by decide) _
      have W13 : isW I13 (wdO I m n fl) := by
        have sm9 : sm (hsC ++ lC) (hsF ++ lF) I I9 := ⟨fun c hc => g9 c (by revert c; decide) (by revert c; decide) (by have : c < 21 ∨ 23 + 84 ≤ c := (by revert c; decide); omega), fun k _ => by rw [m9]⟩
        have W9 : isW I9 (wdO I m n fl) := ⟨hsR_cong h1 (sm9.mono (by decide) (by decide)), lR_cong h2 (sm9.mono (by decide) (by decide)), sm9.1 _ (by decide), sm9.1 _ (by decide), sm9.2 _ (by decide)⟩
        exact isW_of q13 (by decide) (by decide) (isW_of q10 (by decide) (by decide) W9)
      have a13 : I13 140 38 = nI (dyZ U t).2.2.length := by
        rw [e13, sw_up_slot _ _ _ _ (by decide), e12, sw_up_slot _ _ _ _ (by decide), x11 _ (by decide)]; exact S2
      have n10 : I10 144 = I 144 := by rw [q10.1 _ (by decide) (by decide), k9 _ (by decide)]
      have n13 : I13 144 = I 144 := by rw [e13, sw_up_row _ _ _ (by decide), e12, sw_up_row _ _ _ (by decide), x11 _ (by decide), n10]
      have ac13 : ∀ c, c ∈ acA → I13 c = I10 c := fun c hc => by
        have ca : c ≠ 140 ∧ c ∉ [155] := by revert c; decide
        rw [e13, sw_up_row _ _ _ ca.1, e12, sw_up_row _ _ _ ca.1, x11 c ca.2]
      refine ⟨(dyZ U t).2.2.length + 1, m_does_loop (w := wdO I m n fl) (U := U) (to := min t 60) (by omega) bd4 W13 a13 (dyZ U t).2.2 0 0 0 (moC I 13) I13 (by omega) (fun i hi => acV_of (by rw [Nat.zero_add]; exact S3 i hi) (fun c hc => by rw [ac13 c hc])) hmem eqm.rf (by rw [n13]; exact h3) (by rw [e13, sw_up_same]; rfl) (by rw [e13, sw_up_slot _ _ _ _ (by decide), e12, sw_up_same]; rfl) (fun I14 e14 M14 R14 D14 le14 all14 => ?_)⟩
      rw [hmin, hRR] at M14 R14 D14 le14 all14 ⊢
      rw [Nat.zero_add] at R14 D14 le14 all14 ⊢
      unfold wB_X10_day_119
      have w10 : I11 155 = puF (I 155) (I 144) p 33 := by rw [w11, q10.1 _ (by decide) (by decide), n10, k9 _ (by decide)]
      have u14 : I14 155 = puF (I 155) (I 144) p 33 := by
        rw [e14.1 _ (by decide) (by decide), e13, sw_up_row _ _ _ (by decide), e12, sw_up_row _ _ _ (by decide)]; exact w10
      have d14 : I14 140 32 = nI p := by
        rw [e14.2 _ (by decide), e13, sw_up_slot _ _ _ _ (by decide), e12, sw_up_slot _ _ _ _ (by decide), x11 _ (by decide)]; exact u10
      refine psM_0 p2 (u := I 155) (row := I 144) d14 u14 D14 bd3 (fun I15 x15 ps15 => ?_)
      unfold wB_X10_day_130
      intro I16 e16
      have q16 : eqm dvM (12 :: dvF) I9 I16 := by
        rw [e16]; exact ((((q10.mono (by decide) (by decide)).tr (q13.mono (by decide) (by decide))).tr (e14.mono (by decide) (by decide))).tr (x15.mono (by decide) (by decide))).upF (by decide) _
      have r16 : I16 140 40 = nI RR.2.2.2.1 := by rw [e16, sw_up_slot _ _ _ _ (by decide), x15.2 _ (by decide)]; exact R14
      rw [r16]
      refine t_enters (by decide) (tlM_0 e16) (fun I17 J17 x17 j17 t17 => ?_)
      have a17 : I17 140 38 = nI (dyZ U t).2.2.length := by
        rw [x17.2 _ (by decide), e16, sw_up_slot _ _ _ _ (by decide), x15.2 _ (by decide), e14.2 _ (by decide)]; exact a13
      rw [a17]
      have last : ∀ s1, s1 = bI (!RR.1) → wB_X10_day_159 (fun r2 I2 J2 => Q (nI RR.2.1) r2 I2 J2) (nI RR.2.1) s1 I17 J17 := by
        intro s1 es
        unfold wB_X10_day_159
        refine s_X10_flag ?_
        have ef : (if s1 = 0 then (0 : Int32) else 1) = bI (!RR.1) := by
          rw [es]; cases RR.1 <;> rfl
        rw [ef]
        refine t_enters (by simp) t17 (fun I18 J18 x18 j18 t18 => ?_)
        have q18 : eqm dvM (12 :: dvF) I9 I18 := (q16.tr (x17.mono (by decide) (by decide))).tr (x18.mono (by decide) (by decide))
        have r18 : ∀ k, k ≠ 1 → I18 140 k = I15 140 k := fun k hk => by rw [x18.2 k (by simpa using hk), x17.2 k (by simpa using hk), e16, sw_up_slot _ _ _ _ hk]
        have g18 : ∀ c, c ≠ 140 → I18 c = I15 c := fun c hc => by rw [x18.1 c (by simp) hc, x17.1 c (by simp) hc, e16, sw_up_row _ _ _ hc]
        have tp18 : I18 140 12 = 0 := by
          rw [r18 _ (by decide), x15.2 _ (by decide), e14.2 _ (by decide), e13, sw_up_slot _ _ _ _ (by decide), e12, sw_up_slot _ _ _ _ (by decide), x11 _ (by decide)]; exact t10
        have th18 : I18 140 0 = 0 := by
          rw [r18 _ (by decide), x15.2 _ (by decide), e14.2 _ (by decide), e13, sw_up_slot _ _ _ _ (by decide), e12, sw_up_slot _ _ _ _ (by decide), x11 _ (by decide)]; exact h10
        generalize eIt : sw_up I9 140 12 0 = It
        have ft : ∀ c, c ≠ 140 → It c = I9 c := fun c hc => by rw [← eIt, sw_up_row _ _ _ hc]
        have A1 : ∀ c, c ∉ dvX → (c < 23 + 4 * q ∨ 23 + 4 * q + 4 ≤ c) → It c = I0 c := fun c c1 c2 => by
          by_cases cm : c = 140
          · rw [cm, ← eIt, ← eI0]
            funext k
            by_cases ck : k = 12
            · rw [ck, sw_up_same, sw_up_same]
            · rw [sw_up_slot _ _ _ _ ck, sw_up_slot _ _ _ _ ck, sw_up_cell _ _ _ _ (by decide), m9]
          · rw [ft c cm]
            by_cases ct : c = 1
            · rw [ct]; exact t9
            · rw [g9 c c1 ct c2, e.1 c (by simpa using ct) cm]
        have now0 : ∀ c, c ≠ 140 → c ≠ 1 → I0 c = I c := fun c c1 c2 => e.1 c (by simpa using c2) c1
        have rg : ∀ c, 21 < c → c < 23 + 84 → It c = I1 c := fun c c1 c2 => by
          have hc : c ∉ dyX ∧ c ≠ 0 ∧ c ≠ 1 ∧ c ≠ 140 := by
            refine ⟨fun w => ?_, by omega, by omega, by omega⟩
            have hd : ∀ c, c ∈ dyX → c ≤ 21 ∨ 23 + 84 ≤ c := by decide
            have := hd c w
            omega
          rw [ft c hc.2.2.2, f9 c hc.2.1 hc.2.2.1, y4 c (by simp; omega), z1 c hc.1]
        have A2 : cpV (23 + 4 * q) 13 I0 It := by
          refine ⟨fun i hi => ?_, ?_, ?_, ?_⟩
          · rw [rg _ (by omega) (by omega), rg _ (by omega) (by omega), rg _ (by omega) (by omega), now0 _ (by decide) (by decide), now0 _ (by decide) (by decide), now0 _ (by decide) (by decide)]; exact k1.2.1 i hi
          · rw [rg _ (by omega) (by omega), now0 _ (by decide) (by decide)]; exact k1.2.2.1
          · rw [rg _ (by omega) (by omega), now0 _ (by decide) (by decide)]; exact k1.2.2.2.1
          · rw [rg _ (by omega) (by omega), now0 _ (by decide) (by decide)]; exact k1.2.2.2.2
        have A3 : moE It 13 RR.2.2.1 := moE_cong (fun c c1 c2 => by rw [ft c (by omega), f9 c (by omega) (by omega), y4 c (by simp; omega)]) z2
        have A4 : psC RR.2.2.2.2.2 q p I0 It := by
          have h9 : psC RR.2.2.2.2.1 q p I It := by
            unfold psC at ps4 ⊢
            rw [ft _ (by decide), f9 _ (by decide) (by decide)]; exact ps4
          unfold psC at h9 ⊢
          rw [now0 _ (by decide) (by decide)]
          by_cases cz : RR.2.2.2.2.1 = 0
          · rw [if_pos cz] at h9; rw [if_pos (hzero.mp cz)]; exact h9
          · rw [if_neg cz] at h9; rw [if_neg (fun w => cz (hzero.mpr w))]; exact h9
        have B1 : eqm dvM dvF It I18 := ⟨fun c c1 c2 => by rw [q18.1 c c1 c2, ft c c2], fun k hk => by
          by_cases ck : k = 12
          · rw [ck, tp18, ← eIt, sw_up_same]
          · rw [q18.2 k (fun w => by rcases List.mem_cons.mp w with y | y; exact ck y; exact hk y), ← eIt, sw_up_slot _ _ _ _ ck]⟩
        have B2 : relM (wdO I0 m n fl) RR.2.2.1 (I18 144) := by
          rw [hwd, g18 _ (by decide), x15.1 _ (by decide) (by decide)]; exact M14
        have B3 : psM RR.2.2.2.2.2 p (I0 155) (I0 144) I18 := by
          rw [now0 _ (by decide) (by decide), now0 _ (by decide) (by decide)]
          unfold psM at ps15 ⊢
          rw [r18 _ (by decide), g18 _ (by decide)]; exact ps15
        refine hQ _ I18 J18 (moved_fin hw0 A1 A2 A3 A4 B1 B2 B3 (L := [(nI RR.2.2.2.1).toInt64, (bI (!RR.1)).toInt64]) (by simp) (tlC_of L9 (q18.1 _ (by decide) (by decide)) ?_) t18 (by decide) (by decide) (by decide +kernel) (by decide) (by decide) (by decide) (e := RR.2.2.2.1) bd1 ?_) th18
        · rw [j18 _ (by decide), j17 _ (by decide)]
        · rw [hoR, now0 _ (by decide) (by decide)]; rfl
      by_cases cw : RR.1 = true
      · have := all14.mp cw
        rw [sw_if_f (nI_nlt (by omega) (by omega))]
        exact last 0 (by rw [cw]; rfl)
      · have hne : ¬ RR.2.1 = (dyZ U t).2.2.length := fun z => cw (all14.mpr z)
        rw [sw_if_t (nI_lt (by omega) (by omega))]
        exact last 1 (by cases hz : RR.1; rfl; exact absurd hz cw)
    unfold wB_X9_day_72
    intro I5 e5
    refine t_clear (fun I6 x6 t6 => ?_)
    have td6 : ∀ k, I6 119 k = I3 119 k := fun k => by rw [x6 _ (by decide), e5, sw_up_cell _ _ _ _ (by decide), y4 _ (by decide)]
    rw [td6, show I3 119 1 = nI RR.2.2.2.1 from z5]
    refine t_tell (by decide) t6 (fun I7 J7 x7 j7 t7 => ?_)
    have tell : ∀ b : Int64, b = (bI (!RR.1)).toInt64 → wB_X9_day_106 (fun r I1 J1 => wp_X10_day I1 J1 (fun r2 I2 J2 => Q r r2 I2 J2)) b I7 J7 := by
      intro b eb
      unfold wB_X9_day_106
      refine t_tell (by simp) t7 (fun I8 J8 x8 j8 t8 => ?_)
      have f8 : ∀ c, c ≠ 0 → I8 c = I5 c := fun c hc => by rw [x8 c (by simpa using hc), x7 c (by simpa using hc), x6 c (by simpa using hc)]
      have ea : I8 119 0 = nI RR.2.1 := by rw [f8 _ (by decide), e5, sw_up_cell _ _ _ _ (by decide), y4 _ (by decide)]; exact z3
      rw [ea]
      refine fL I8 J8 (j7.tr j8) (fun c c1 c2 => by rw [f8 c c1, e5, sw_up_row _ _ _ c2]) ?_ (by rw [← eb]; exact t8)
      have e0 : I0 1 = sw_up I 1 1 0 1 := by rw [← eI0, sw_up_row _ _ _ (show (1 : Nat) ≠ 140 by decide)]
      rw [f8 _ (by decide), e5, e0]
      have : I4 1 = I 1 := by rw [y4 _ (by decide), z1 _ (by decide), f1 _ (by omega)]
      funext k
      by_cases ck : k = 1
      · rw [ck, sw_up_same, sw_up_same]
      · rw [sw_up_slot _ _ _ _ ck, sw_up_slot _ _ _ _ ck, this]
    cases hb : RR.1
    · rw [sw_if_t (by rfl)]; exact tell 1 (by rw [hb]; rfl)
    · rw [sw_if_f (by decide)]; exact tell 0 (by rw [hb]; rfl)
  · obtain ⟨k, hk, ek⟩ := hsG_pos hle (by decide) cf
    rw [sw_if_f cf]
    intro I1 e1
    have E1 : eqm [1] [] I I1 := by rw [e1]; exact eqm.rf.upC (by decide) (by decide) _ _
    refine m_day (t := t) (T := I 2) (U := U) x1 hU (by rw [E1.2 _ (by decide)]; exact x3) (fun i hi => by rw [E1.1 _ (by decide) (by decide)]; exact tape i hi) (fun _ I3 q3 t3 th3 => ?_) (fun hg => absurd hg cf)
    have e : eqm (1 :: acA) dgF I I3 := (E1.mono (by decide) (by decide)).tr (q3.mono (by decide) (by decide))
    refine hQ _ I3 J (th_up ⟨n, fl, m, q, p, r, 0, s, z, ⟨h0.1, rb_of e (by decide) h0.2⟩, hs_of e (by decide) (by decide) h1, l_of e (by decide) (by decide) h2, now_of e (by decide) hn h3, past_of e (by decide) (by decide) hn h4, rw_of e (by decide) (by decide) h5, ⟨by omega, ?_, ?_, fun i hi => by omega⟩, sn_of e (by decide) (by decide) h7, kp_of e (by decide) (by decide) hn h8⟩) th3
    · rw [q3.1 _ (by decide) (by decide), e1, sw_up_same]; rfl
    · exact t3
