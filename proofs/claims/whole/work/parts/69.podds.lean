/-! promises: odds, likely -/
theorem wpF_s (M : Nat) (t : Nat → Nat) (h r : Nat) : wpF M t h (r + 1) = if M.testBit r then wpF M t h r * (if h.testBit r then t r else 10 - t r) else wpF M t h r := rfl
def wiH (w : Wd) (μ : Mo) (M h : Nat) : Nat → Int32 := fun i => if M.testBit i then (if h.testBit i then w.2.2.1 i else μ.2.1 i) else μ.2.1 i
def moH (w : Wd) (μ : Mo) (M h : Nat) : Mo := (μ.1, wiH w μ M h, μ.2.2)
def tOK (I : sw_I) (w : Wd) (t : Nat → Nat) : Prop := (∀ i, t i ≤ 10) ∧ ∀ i, i < wn w → I 5 i = nI (t i) ∧ I 143 i = nI (t i)
def gW (w : Wd) (μ : Mo) (M : Nat) (t : Nat → Nat) (f x : Nat) : Nat := if stM w (moH w μ M x) (nI M) = nI f then wpF M t x (wn w) else 0
theorem bit_M {M n : Nat} (hn : n ≤ 10) (hM : M < 2 ^ n) {i : Nat} (hi : i < 32) : inB (nI M) i = M.testBit i := nI_bit (Nat.lt_of_lt_of_le hM (Nat.le_trans (Nat.pow_le_pow_right (by decide) hn) (by decide))) hi
theorem ten_sub {t : Nat} (h : t ≤ 10) : ((10 : Int32) - nI t).toInt64 = Int64.ofNat (10 - t) := by
  have e : (10 : Int32) - nI t = nI (10 - t) := by
    have : nI (10 - t) + nI t = nI 10 := by rw [nI_add, Nat.sub_add_cancel h]
    rw [show (10 : Int32) = nI 10 from rfl, ← this, Int32.add_sub_cancel]
  rw [e, nI_64 (by omega)]
theorem s_weight_loop {w : Wd} {μ : Mo} {M h : Nat} {t : Nat → Nat} (hM : M < 2 ^ wn w) (hh : h < 2 ^ wn w) {I : sw_I} {J : sw_J} {Q : Int64 → sw_I → sw_J → Prop} (hW : isW I w) (hT : tOK I w t) (hin : I 13 3 = nI M) (hwi : ∀ i, i < 10 → I 15 i = μ.2.1 i) (hE : ∀ i, i < 10 → M.testBit i = false → I 19 i = μ.2.1 i) (hQ : ∀ I2, eqx [19] I I2 → (∀ i, i < 10 → I2 19 i = wiH w μ M h i) → Q (Int64.ofNat (wpF M t h (wn w))) I2 J) :
    ∀ (d k : Nat) (I2 : sw_I), k + d = wn w → eqx [19] I I2 → (∀ i, i < 10 → I2 19 i = if i < k then wiH w μ M h i else I 19 i) → wl_X9_weightOf_5 Q (d + 1) (nI h) (Int64.ofNat (wpF M t h k)) (nI k) I2 J := by
  have hn := hW.1.2.2.1
  intro d
  induction d with
  | zero =>
    intro k I2 hk h1 h2
    obtain rfl : k = wn w := by omega
    show wb_X9_weightOf_5 _ Q _ _ _ I2 J
    unfold wb_X9_weightOf_5
    rw [sw_if_f (by rw [h1.at (by decide), hW.1.2.2.2.2.2.1]; exact nI_nlt (Nat.le_refl _) (by omega))]
    refine hQ I2 h1 (fun i hi => ?_)
    rw [h2 i hi]
    by_cases c : i < wn w
    · rw [if_pos c]
    · have hb : M.testBit i = false := Nat.testBit_lt_two_pow (Nat.lt_of_lt_of_le hM (Nat.pow_le_pow_right (by decide) (by omega)))
      rw [if_neg c, hE i hi hb]
      unfold wiH; rw [hb]; rfl
  | succ d ih =>
    intro k I2 hk h1 h2
    show wb_X9_weightOf_5 _ Q _ _ _ I2 J
    unfold wb_X9_weightOf_5
    rw [sw_if_t (by rw [h1.at (by decide), hW.1.2.2.2.2.2.1]; exact nI_lt (by omega) (by omega))]
    refine s_X3_isIn (by omega) ?_
    rw [h1.at (by decide), hin, bit_M hn hM (by omega)]
    have vp : vp_in (nI k) 10 := vp0 (by omega) (by decide)
    cases hb : M.testBit k
    · rw [sw_if_t (by simp)]
      intro y hy
      rw [hy, nI_1]
      have := ih (k + 1) I2 (by omega) h1 (fun i hi => by
        rw [h2 i hi]
        by_cases c : i < k
        · rw [if_pos c, if_pos (by omega)]
        · rw [if_neg c]
          by_cases c2 : i = k
          · subst c2
            rw [if_pos (by omega), hE i hi hb]; unfold wiH; rw [hb]; rfl
          · rw [if_neg (by omega)])
      unfold wpF at this
      rw [hb] at this
      exact this
    · rw [sw_if_f (by simp)]
      have tr : I2 5 k = nI (t k) := by rw [h1.at (by decide)]; exact (hT.2 k (by omega)).1
      have put : ∀ (v : Int32) (W : Int64), v = wiH w μ M h k → W = Int64.ofNat (wpF M t h (k + 1)) → wB_X9_weightOf_118 (wl_X9_weightOf_5 Q (d + 1)) Q (nI h) W (nI k) (nI k) v I2 J := by
        intro v W hv hw
        unfold wB_X9_weightOf_118
        rw [nI_clamp (by omega)]
        refine ⟨vp, fun I3 e3 => ?_⟩
        intro y hy
        rw [hy, nI_1, hw]
        refine ih (k + 1) I3 (by omega) (by rw [e3]; exact h1.up (by decide) _ _) (fun i hi => ?_)
        rw [e3, sw_up_rowf]
        show (if i = k then v else I2 19 i) = _
        by_cases c : i = k
        · rw [if_pos c, if_pos (by omega), hv, c]
        · rw [if_neg c, h2 i hi]
          by_cases c2 : i < k
          · rw [if_pos c2, if_pos (by omega)]
          · rw [if_neg c2, if_neg (by omega)]
      have hkb : ((nI h >>> (nI k &&& 31)) &&& (1 : Int32) = 0) ↔ h.testBit k = false := by
        have e1 : inB (nI h) k = h.testBit k := bit_M hn hh (by omega)
        rw [← e1]; unfold inB; simp
      have en : I2 15 k = μ.2.1 k := by rw [h1.at (by decide)]; exact hwi k (by omega)
      have eh : I2 4 k = w.2.2.1 k := by rw [h1.at (by decide), hW.2.2.2.1]
      refine ⟨fun c1 => ?_, fun c1 => ?_⟩
      · have hk0 := hkb.mp c1
        unfold wB_X9_weightOf_43
        rw [sw_if_t rfl, nI_clamp (by omega), tr, ten_sub (hT.1 k)]
        refine ⟨vp, fun y hy => ?_⟩
        rw [sw_if_t rfl, nI_clamp (by omega), en]
        refine ⟨vp, put _ _ ?_ ?_⟩
        · unfold wiH; rw [hb, hk0]; rfl
        · rw [hy, nJ_mul, wpF_s, hb, hk0]; rfl
      · have hk1 : h.testBit k = true := by cases hq : h.testBit k; exact absurd (hkb.mpr hq) c1; rfl
        unfold wB_X9_weightOf_43
        rw [sw_if_f (by decide), nI_clamp (by omega), tr, nI_64 (by have := hT.1 k; omega)]
        refine ⟨vp, fun y hy => ?_⟩
        rw [sw_if_f (by decide), nI_clamp (by omega), eh]
        refine ⟨vp, put _ _ ?_ ?_⟩
        · unfold wiH; rw [hb, hk1]; rfl
        · rw [hy, nJ_mul, wpF_s, hb, hk1]; rfl
theorem wp_le {M : Nat} {t : Nat → Nat} (ht : ∀ i, t i ≤ 10) (h : Nat) : ∀ r, wpF M t h r ≤ 10 ^ r
  | 0 => Nat.le_refl 1
  | r + 1 => by
    have ih := wp_le (M := M) ht h r
    have := ht r
    unfold wpF
    rw [Nat.pow_succ]
    split
    · exact Nat.mul_le_mul ih (by split <;> omega)
    · omega
abbrev wgC : List Nat := [19, 10, 11, 12, 9]
theorem s_weigh_loop {w : Wd} {μ : Mo} {M T : Nat} {t : Nat → Nat} (hM : M < 2 ^ wn w) (hT2 : T ≤ 1024) {I : sw_I} {J : sw_J} {Q : Int64 → sw_I → sw_J → Prop} (hW : isW I w) (hT : tOK I w t) (hin : I 13 3 = nI M) (hwi : ∀ i, i < 10 → I 15 i = μ.2.1 i) (hE : moE I 17 μ) :
    ∀ (L : List Nat) (k : Nat) (s : Int32) (P : Nat) (C : Nat → Nat) (I2 : sw_I) (J2 : sw_J), k + L.length = T → chn (nI M) L s → (∀ j, j ∈ L → j < 2 ^ wn w) → eqx wgC I I2 → (∀ i, i < 10 → M.testBit i = false → I2 19 i = μ.2.1 i) → eqj [117] J J2 → (∀ f, f < 9 → J2 117 f = Int64.ofNat (C f)) →
    (∀ I3 J3, eqx wgC I I3 → eqj [117] J J3 → (∀ f, f < 9 → J3 117 f = Int64.ofNat (C f + sumL (gW w μ M t f) L)) → Q (Int64.ofNat (P + sumL (fun x => wpF M t x (wn w)) L)) I3 J3) → wl_X9_weighStops_37 Q (L.length + 1) (nI T) s (Int64.ofNat P) (nI k) I2 J2 := by
  have h9 := hW.1.2.1
  have hn := hW.1.2.2.1
  have hp : 10 ^ wn w ≤ 10 ^ 10 := Nat.pow_le_pow_right (by decide) hn
  have p10 : 10 ^ 10 < 2 ^ 63 := by decide
  intro L
  induction L with
  | nil =>
    intro k s P C I2 J2 hk hc hm h1 h2 h3 h4 h
    simp at hk
    subst hk
    show wb_X9_weighStops_37 _ Q _ _ _ _ I2 J2
    unfold wb_X9_weighStops_37
    rw [sw_if_f (nI_nlt (Nat.le_refl _) (by omega))]
    exact h I2 J2 h1 h3 h4
  | cons j L ih =>
    intro k s P C I2 J2 hk hc hm h1 h2 h3 h4 h
    rw [List.length_cons] at hk
    obtain ⟨rfl, hc2⟩ := hc
    have hj := hm j List.mem_cons_self
    have hwl := wp_le (M := M) hT.1 j (wn w)
    show wb_X9_weighStops_37 _ Q _ _ _ _ I2 J2
    unfold wb_X9_weighStops_37
    rw [sw_if_t (nI_lt (by omega) (by omega))]
    have q2 : eqm wgC [] I I2 := h1.eqm (fun _ q => q) (by decide)
    have hW2 := isW_of q2 (by decide) (by decide) hW
    have hT2' : tOK I2 w t := ⟨hT.1, fun i hi => by rw [h1.at (by decide), h1.at (by decide)]; exact hT.2 i hi⟩
    refine ⟨wn w + 1, s_weight_loop (w := w) (μ := μ) (M := M) (h := j) (t := t) hM hj hW2 hT2' (by rw [h1.at (by decide)]; exact hin) (fun i hi => by rw [h1.at (by decide)]; exact hwi i hi) h2 (fun I3 x3 w3 => ?_) (wn w) 0 I2 (Nat.zero_add _) eqx.rf (fun i hi => by rw [if_neg (by omega)])⟩
    have q3 : eqx wgC I I3 := h1.tr (x3.mono (by decide))
    have n3 : ∀ i, i < 10 → M.testBit i = false → I3 19 i = μ.2.1 i := fun i hi hb => by rw [w3 i hi]; unfold wiH; rw [hb]; rfl
    have ein : I3 13 3 = nI M := by rw [q3.at (by decide)]; exact hin
    have nxt : ∀ (P2 : Nat) (C2 : Nat → Nat) I4 J4, eqx wgC I I4 → (∀ i, i < 10 → M.testBit i = false → I4 19 i = μ.2.1 i) → eqj [117] J J4 → (∀ f, f < 9 → J4 117 f = Int64.ofNat (C2 f)) → P2 = P + wpF M t j (wn w) → (∀ f, f < 9 → C2 f = C f + gW w μ M t f j) → wB_X9_weighStops_86 (wl_X9_weighStops_37 Q (L.length + 1)) Q (nI T) (nI j) (Int64.ofNat P2) (nI k) I4 J4 := by
      intro P2 C2 I4 J4 x4 y4 j4 c4 eP eC
      unfold wB_X9_weighStops_86 wp_X9_nextSet
      rw [show I4 13 3 = nI M by rw [x4.at (by decide)]; exact hin]
      intro y hy
      rw [hy, nI_1]
      refine ih (k + 1) _ P2 C2 I4 J4 (by omega) hc2 (fun i hi => hm i (List.mem_cons_of_mem _ hi)) x4 y4 j4 c4 (fun I5 J5 x5 j5 c5 => ?_)
      have := h I5 J5 x5 j5 (fun f hf => by rw [c5 f hf, eC f hf]; show _ = Int64.ofNat (C f + (gW w μ M t f j + sumL _ L)); rw [Nat.add_assoc])
      rw [eP, Nat.add_assoc]; exact this
    by_cases cw : 0 < wpF M t j (wn w)
    · rw [sw_if_t ((lg_cmp_gt _ _).mpr ((nJ_pos (by omega)).mpr cw)), ein]
      have E3 : moE I3 17 (moH w μ M j) := by
        refine ⟨fun i hi => ⟨?_, w3 i hi, ?_⟩, ?_, ?_, ?_⟩
        · rw [q3.at (by decide)]; exact (hE.1 i hi).1
        · rw [q3.at (by decide)]; exact (hE.1 i hi).2.2
        · rw [q3.at (by decide)]; exact hE.2.1
        · rw [q3.at (by decide)]; exact hE.2.2.1
        · rw [q3.at (by decide)]; exact hE.2.2.2
      have hW3 := isW_of (q3.eqm (C := wgC) (F := []) (fun _ q => q) (by decide)) (by decide) (by decide) hW
      refine c_stopM (by decide) hW3 E3 (fun I4 x4 => ?_)
      obtain ⟨zz, hz, ez, -⟩ := stM_rng hW3 (moH w μ M j) (nI M)
      rw [ez]
      refine s_X9_addChance (by omega) ?_
      intro y hy
      rw [nJ_add] at hy
      rw [hy]
      refine nxt _ (fun f => C f + gW w μ M t f j) I4 _ (q3.tr (x4.mono (by decide))) (fun i hi hb => by rw [x4.at (by decide)]; exact n3 i hi hb) (h3.up (by decide) _ _) (fun f hf => ?_) rfl (fun _ _ => rfl)
      unfold gW
      by_cases e : f = zz
      · subst e
        rw [sw_up_same, h4 f hf, if_pos ez, nJ_add]
      · rw [sw_up_slot _ _ _ _ e, h4 f hf, if_neg (fun q => e ((nI_eq (by omega) (by omega)).mp (ez.symm.trans q)).symm)]; rfl
    · rw [sw_if_f (fun q => cw ((nJ_pos (by omega)).mp ((lg_cmp_gt _ _).mp q)))]
      have w0 : wpF M t j (wn w) = 0 := by omega
      refine nxt P C I3 J2 q3 n3 h3 h4 (by rw [w0]; rfl) (fun f hf => ?_)
      unfold gW; rw [w0]; split <;> rfl
theorem wp_zero {M : Nat} {t : Nat → Nat} {h r : Nat} (h0 : wpF M t h r = 0) : ∀ d, wpF M t h (r + d) = 0
  | 0 => h0
  | d + 1 => by
    have ih := wp_zero h0 d
    show (if M.testBit (r + d) then wpF M t h (r + d) * _ else wpF M t h (r + d)) = 0
    rw [ih]
    split
    · rw [Nat.zero_mul]
    · rfl
theorem ts_zero {M : Nat} {t : Nat → Nat} {g : Nat → Nat} {N : Nat} (hg : ∀ x, wpF M t x N = 0 → g x = 0) : ∀ d r h, r + d = N → h < 2 ^ r → wpF M t h r = 0 → tsM M g d r h = 0
  | 0, r, h, e, _, h0 => by
    obtain rfl : r = N := by omega
    exact hg h h0
  | d + 1, r, h, e, hh, h0 => by
    obtain ⟨b1, b2, b3⟩ := tb_add hh
    have z1 : wpF M t (h + 2 ^ r) (r + 1) = 0 := by
      have : wpF M t (h + 2 ^ r) r = 0 := by rw [wp_low r (fun i hi => b3 i hi)]; exact h0
      exact wp_zero this 1
    have z2 : wpF M t h (r + 1) = 0 := wp_zero h0 1
    unfold tsM
    rw [ts_zero hg d (r + 1) (h + 2 ^ r) (by omega) (by rw [Nat.pow_succ]; omega) z1, ts_zero hg d (r + 1) h (by omega) (by rw [Nat.pow_succ]; omega) z2]
    split <;> rfl
def gE (w : Wd) (μ : Mo) (M : Nat) (t : Nat → Nat) (f x : Nat) : Nat := gW w μ M t f x * 10 ^ (10 - pcN M (wn w))
abbrev btC : List Nat := 145 :: mnsC
theorem m_bets {w : Wd} {μ : Mo} {M : Nat} {t : Nat → Nat} (hM : M < 2 ^ wn w) {I0 : sw_I} (hW : isW I0 w) (hT : tOK I0 w t) (hR : relM w μ (I0 144)) (hin : oI μ = nI M) : ∀ (d r h : Nat) (I : sw_I) (J : sw_J) (C : Nat → Nat) (Q : sw_I → sw_J → Prop), r ≤ wn w → wn w - r < d → h < 2 ^ r → eqm btC maF I0 I → (∀ j, j < 33 → ¬ (10 ≤ j ∧ j < 20) → I 145 j = I0 144 j) → (∀ i, i < wn w → I 145 (10 + i) = if i < r then wiH w μ M h i else μ.2.1 i) → (∀ f, f < 9 → J 170 f = Int64.ofNat (C f)) →
    (∀ I2 J2, eqm btC maF I0 I2 → (∀ j, j < 33 → ¬ (10 ≤ j ∧ j < 20) → I2 145 j = I0 144 j) → (∀ i, i < wn w → I2 145 (10 + i) = if i < r then wiH w μ M h i else μ.2.1 i) → eqj [170] J J2 → (∀ f, f < 9 → J2 170 f = Int64.ofNat (C f + tsM M (gE w μ M t f) (wn w - r) r h)) → Q I2 J2) → wp_X10_bets d (nI r) (Int64.ofNat (wpF M t h r * 10 ^ (10 - pcN M r))) I J Q
  | 0, r, h, I, J, C, Q, hr, hd, hh, e1, e2, e3, e4, hQ => absurd hd (Nat.not_lt_zero _)
  | d + 1, r, h, I, J, C, Q, hr, hd, hh, e1, e2, e3, e4, hQ => by
    have h9 := hW.1.2.1
    have hn := hW.1.2.2.1
    have e10 : ∀ i, (10 : Int32) + nI i = nI (10 + i) := fun i => nI_add 10 i
    have pw : ∀ r, r ≤ 10 → pcN M r ≤ 10 := fun r hr => Nat.le_trans (pcN_le M r) hr
    have part63 : ∀ x r, r ≤ 10 → wpF M t x r * 10 ^ (10 - pcN M r) < 2 ^ 63 := by
      intro x r hr
      have a := wp_le (M := M) hT.1 x r
      have : wpF M t x r ≤ 10 ^ pcN M r := by
        clear a
        induction r with
        | zero => exact Nat.le_refl 1
        | succ r ih =>
          have ih := ih (by omega)
          have := hT.1 r
          unfold wpF pcN
          cases M.testBit r
          · simpa using ih
          · simp only [if_true]
            rw [Nat.pow_succ]
            exact Nat.mul_le_mul ih (by split <;> omega)
      have hle := pw r hr
      have : wpF M t x r * 10 ^ (10 - pcN M r) ≤ 10 ^ pcN M r * 10 ^ (10 - pcN M r) := Nat.mul_le_mul_right _ this
      rw [← Nat.pow_add, show pcN M r + (10 - pcN M r) = 10 by omega] at this
      exact Nat.lt_of_le_of_lt this (by decide)
    have p63 := part63 h r (by omega)
    show wpb_X10_bets _ _ _ I J Q
    unfold wpb_X10_bets
    by_cases c0 : wpF M t h r * 10 ^ (10 - pcN M r) = 0
    · have w0 : wpF M t h r = 0 := by
        rcases Nat.mul_eq_zero.mp c0 with q | q
        · exact q
        · have := Nat.pow_pos (n := 10 - pcN M r) (show 0 < 10 by decide); omega
      rw [c0, sw_if_t (by decide)]
      refine hQ I J e1 e2 e3 eqj.rf (fun f hf => ?_)
      rw [ts_zero (t := t) (N := wn w) (fun x hx => by unfold gE gW; rw [hx]; split <;> simp) _ r h (by omega) hh w0, e4 f hf]; rfl
    · have hp : 0 < wpF M t h r * 10 ^ (10 - pcN M r) := Nat.pos_of_ne_zero c0
      have c1 : ¬ lg_cmp (Int64.ofNat (wpF M t h r * 10 ^ (10 - pcN M r))) (0 : Int64) = 0 := fun q => by
        have := (lg_cmp_gt _ _).mpr ((nJ_pos p63).mpr hp)
        rw [q] at this; exact Int32.lt_irrefl this
      have rr : I 140 4 = nI (wn w) := by rw [e1.2 _ (by decide)]; exact hW.1.2.2.2.2.2.2.1
      have e30 : I 144 (30 : Int32).toNatClampNeg = nI M := by rw [e1.1 _ (by decide) (by decide), ← hin]; exact hR.1.2.1.symm
      have hWI := isW_of e1 (by decide) (by decide) hW
      rw [sw_if_f c1, rr, e30]
      by_cases cr : r = wn w
      · rw [sw_if_t (by rw [cr])]
        have hRI : relM w (moH w μ M h) (I 145) := by
          obtain ⟨⟨a1, a2, a3, a4⟩, v1, v2, v3, v4⟩ := hR
          refine ⟨⟨fun i hi => ?_, ?_, ?_, ?_⟩, fun i hi => ⟨(v1 i hi).1, ?_⟩, v2, v3, v4⟩
          · rw [e2 i (by omega) (by omega), e3 i hi, if_pos (by omega), e2 (20 + i) (by omega) (by omega)]
            exact ⟨(a1 i hi).1, rfl, (a1 i hi).2.2⟩
          · rw [e2 30 (by omega) (by omega)]; exact a2
          · rw [e2 31 (by omega) (by omega)]; exact a3
          · rw [e2 32 (by omega) (by omega)]; exact a4
          · show fw _ (wiH w μ M h i)
            unfold wiH
            split
            · split
              · obtain ⟨j, hj, ej⟩ := (hW.1.2.2.2.2.2.2.2.2.2.1 i hi).2
                rw [hW.2.2.2.1] at ej
                exact Or.inr ⟨j, hj, ej⟩
              · exact (v1 i hi).2
            · exact (v1 i hi).2
        refine m_stopM (w := w) (μ := moH w μ M h) (by decide) (by decide) hWI hRI (fun I2 x2 => ?_)
        obtain ⟨zz, hz, ez, -⟩ := stM_rng hW (moH w μ M h) (nI M)
        rw [ez, nI_clamp (by omega)]
        refine ⟨vp0 (by omega) (by decide), vp0 (by omega) (by decide), fun J3 j3 => ?_⟩
        rw [e4 zz (by omega), nJ_add] at j3
        have n2 : I2 145 = I 145 := x2.1 _ (by decide) (by decide)
        refine hQ I2 J3 (e1.tr (x2.mono (by decide) (by decide))) (by rw [n2]; exact e2) (by rw [n2]; exact e3) (by rw [j3]; exact eqj.rf.up (by decide) _ _) (fun f hf => ?_)
        have ts0 : tsM M (gE w μ M t f) (wn w - r) r h = gE w μ M t f h := by rw [cr, Nat.sub_self]; rfl
        rw [ts0, j3]
        unfold gE gW
        by_cases e : f = zz
        · subst e
          rw [sw_up_same, if_pos ez, cr]
        · rw [sw_up_slot _ _ _ _ e, e4 f hf, if_neg (fun q => e ((nI_eq (by omega) (by omega)).mp (ez.symm.trans q)).symm), Nat.zero_mul]; rfl
      · rw [sw_if_f (fun q => cr ((nI_eq (by omega) (by omega)).mp q))]
        have hrn : r < wn w := by omega
        obtain ⟨b1, b2, b3⟩ := tb_add hh
        have hh1 : h + 2 ^ r < 2 ^ (r + 1) := by rw [Nat.pow_succ]; omega
        have hh2 : h < 2 ^ (r + 1) := by rw [Nat.pow_succ]; omega
        have sub1 : wn w - r = (wn w - (r + 1)) + 1 := by omega
        refine s_X10_has ?_
        rw [bit_M hn hM (by omega)]
        cases hb : M.testBit r
        · rw [sw_if_t (by simp), nI_1]
          have ep : wpF M t h r * 10 ^ (10 - pcN M r) = wpF M t h (r + 1) * 10 ^ (10 - pcN M (r + 1)) := by
            rw [pcN_s, wpF_s, hb]; rfl
          rw [ep]
          have same : ∀ i, (if i < r then wiH w μ M h i else μ.2.1 i) = if i < r + 1 then wiH w μ M h i else μ.2.1 i := fun i => by
            by_cases c : i < r
            · rw [if_pos c, if_pos (by omega)]
            · rw [if_neg c]
              by_cases c2 : i = r
              · rw [if_pos (by omega), c2]; unfold wiH; rw [hb]; rfl
              · rw [if_neg (by omega)]
          refine m_bets hM hW hT hR hin d (r + 1) h I J C Q (by omega) (by omega) hh2 e1 e2 (fun i hi => by rw [e3 i hi, same]) e4 (fun I2 J2 a1 a2 a3 a4 a5 => ?_)
          refine hQ I2 J2 a1 a2 (fun i hi => by rw [a3 i hi, same]) a4 (fun f hf => ?_)
          rw [a5 f hf, sub1]
          show _ = Int64.ofNat (C f + if M.testBit r then _ else _)
          rw [hb]; rfl
        · rw [sw_if_f (by simp), e10, nI_clamp (by omega), nI_clamp (by omega), nI_1]
          have hh0 : I 142 r = w.2.2.1 r := by rw [e1.1 _ (by decide) (by decide), ← (hW.1.2.2.2.2.2.2.2.2.2.1 r hrn).1, hW.2.2.2.1]
          have pcs : pcN M (r + 1) = pcN M r + 1 := by rw [pcN_s, hb]; rfl
          have hpc : pcN M r ≤ r := pcN_le M r
          have ten : 10 ^ (10 - pcN M r) = 10 * 10 ^ (10 - pcN M (r + 1)) := by
            rw [pcs, show 10 - pcN M r = (10 - (pcN M r + 1)) + 1 by omega, Nat.pow_succ]; omega
          have dv : Int64.ofNat (wpF M t h r * 10 ^ (10 - pcN M r)) / (10 : Int64) = Int64.ofNat (wpF M t h r * 10 ^ (10 - pcN M (r + 1))) := by
            rw [show (10 : Int64) = Int64.ofNat 10 from rfl, nJ_div p63 (by decide), ten]
            congr 1
            rw [show wpF M t h r * (10 * 10 ^ (10 - pcN M (r + 1))) = wpF M t h r * 10 ^ (10 - pcN M (r + 1)) * 10 by rw [Nat.mul_left_comm, Nat.mul_comm 10 (wpF M t h r * _)]]
            exact Nat.mul_div_cancel _ (by decide)
          have vp : vp_in (nI r) 10 := vp0 (by omega) (by decide)
          have vq : vp_in (nI (10 + r)) 33 := vp0 (by omega) (by decide)
          refine ⟨vp, vq, fun I2 a2 => ⟨vp, ?_⟩⟩
          rw [hh0] at a2
          have q2 : eqm btC maF I0 I2 := by rw [a2]; exact e1.upC (by decide) (by decide) _ _
          have t2 : I2 143 r = nI (t r) := by rw [q2.1 _ (by decide) (by decide)]; exact (hT.2 r hrn).2
          have htr := hT.1 r
          rw [dv, t2, nI_64 (by omega), nJ_mul]
          have w1 : wpF M t (h + 2 ^ r) (r + 1) = wpF M t h r * t r := by
            rw [wpF_s, hb, b1, wp_low r (fun i hi => b3 i hi)]; rfl
          have w2 : wpF M t h (r + 1) = wpF M t h r * (10 - t r) := by
            rw [wpF_s, hb, b2]; rfl
          have r1 : wpF M t h r * 10 ^ (10 - pcN M (r + 1)) * t r = wpF M t (h + 2 ^ r) (r + 1) * 10 ^ (10 - pcN M (r + 1)) := by rw [w1, Nat.mul_right_comm]
          have r2 : wpF M t h r * 10 ^ (10 - pcN M (r + 1)) * (10 - t r) = wpF M t h (r + 1) * 10 ^ (10 - pcN M (r + 1)) := by rw [w2, Nat.mul_right_comm]
          rw [r1]
          refine m_bets hM hW hT hR hin d (r + 1) (h + 2 ^ r) I2 J C _ (by omega) (by omega) hh1 q2 (fun j hj hj2 => by rw [a2, sw_up_slot _ _ _ _ (by omega)]; exact e2 j hj hj2) (fun i hi => ?_) e4 (fun I3 J3 z1 z2 z3 z4 z5 => ?_)
          · rw [a2]
            by_cases c : i = r
            · rw [c, sw_up_same, if_pos (by omega)]; unfold wiH; rw [hb, b1]; rfl
            · rw [sw_up_slot _ _ _ _ (by omega), e3 i hi]
              by_cases c2 : i < r
              · rw [if_pos c2, if_pos (by omega)]; unfold wiH; rw [b3 i c2]
              · rw [if_neg c2, if_neg (by omega)]
          · refine ⟨vq, vq, fun I4 a4 => ⟨vp, ?_⟩⟩
            have nr : I3 144 (10 + r) = μ.2.1 r := by rw [z1.1 _ (by decide) (by decide)]; exact (hR.1.1 r hrn).2.1.symm
            rw [nr] at a4
            have q4 : eqm btC maF I0 I4 := by rw [a4]; exact z1.upC (by decide) (by decide) _ _
            have t4 : I4 143 r = nI (t r) := by rw [q4.1 _ (by decide) (by decide)]; exact (hT.2 r hrn).2
            rw [t4, ten_sub htr, nJ_mul, r2]
            refine m_bets hM hW hT hR hin d (r + 1) h I4 J3 (fun f => C f + tsM M (gE w μ M t f) (wn w - (r + 1)) (r + 1) (h + 2 ^ r)) _ (by omega) (by omega) hh2 q4 (fun j hj hj2 => by rw [a4, sw_up_slot _ _ _ _ (by omega)]; exact z2 j hj hj2) (fun i hi => ?_) z5 (fun I5 J5 y1 y2 y3 y4 y5 => ?_)
            · rw [a4]
              by_cases c : i = r
              · rw [c, sw_up_same, if_pos (by omega)]; unfold wiH; rw [hb, b2]; rfl
              · rw [sw_up_slot _ _ _ _ (by omega), z3 i hi]
                by_cases c2 : i < r
                · rw [if_pos (by omega), if_pos (by omega)]; unfold wiH; rw [b3 i c2]
                · rw [if_neg (by omega), if_neg (by omega)]
            · refine hQ I5 J5 y1 y2 (fun i hi => ?_) (z4.tr y4) (fun f hf => ?_)
              · rw [y3 i hi]
                by_cases c2 : i < r
                · rw [if_pos (by omega), if_pos c2]
                · by_cases c : i = r
                  · rw [if_pos (by omega), if_neg c2, c]; unfold wiH; rw [hb, b2]; rfl
                  · rw [if_neg (by omega), if_neg c2]
              · rw [y5 f hf, sub1]
                show _ = Int64.ofNat (C f + if M.testBit r then _ + _ else _)
                rw [hb, if_pos rfl, Nat.add_assoc]
