/-! promise: truly -/
def owM (w : Wd) (D : Sd) (wi : Nat → Int32) (i : Nat) (v : Int32) (o s : Nat) : Nat → Nat → Option Nat
  | 0, _ => none
  | d + 1, k => if ¬ nI k - 1 = wi o ∧ asA w D (updW (updW wi i v) o (nI k - 1)) s = true then some k else owM w D wi i v o s d (k + 1)
def owV (r : Option Nat) : Int32 := match r with | none => -2 | some k => nI k - 1
theorem wk_m2 {k : Nat} (hk : k < 2 ^ 31) : ¬ nI k - 1 = (-2 : Int32) := by
  intro e
  have := congrArg Int32.toInt e
  rw [nIp_toInt hk] at this
  have h2 : (-2 : Int32).toInt = -2 := by decide
  rw [h2] at this; omega
theorem ow_rng (w : Wd) (D : Sd) (wi : Nat → Int32) (i : Nat) (v : Int32) (o s : Nat) : ∀ d k t, owM w D wi i v o s d k = some t → t < k + d
  | 0, _, _, h => by cases h
  | d + 1, k, t, h => by
    unfold owM at h
    split at h
    · obtain rfl := Option.some.inj h; omega
    · have := ow_rng w D wi i v o s d (k + 1) t h; omega
abbrev alW : List Nat := 115 :: alC
theorem ow_end {i o : Nat} {v u x7 : Int32} (hi : i < 10) (ho : o < 10) (hne : i ≠ o) {I I2 : sw_I} {J : sw_J} {Q : Int32 → sw_I → sw_J → Prop} (e : eqx alW I I2) (g : I2 115 = fun j => if j = o then u else if j = i then v else I 115 j) (r : I2 113 5 = 0) (h : ∀ I3, eqx alC I I3 → I3 113 5 = 0 → Q x7 I3 J) : wB_X7_otherWishSo_93 Q (nI i) (nI o) (I 115 i) (I 115 o) x7 I2 J := by
  unfold wB_X7_otherWishSo_93
  rw [nI_clamp (by omega), nI_clamp (by omega)]
  refine ⟨vp0 hi (by decide), fun I3 e3 => ⟨vp0 ho (by decide), fun I5 e5 => ?_⟩⟩
  refine h I5 (fun c hc => ?_) ?_
  · by_cases ce : c = 115
    · rw [ce, e5, sw_up_rowf, e3, sw_up_rowf, g]
      funext j
      by_cases c1 : j = o
      · simp only [if_pos c1]; rw [c1]
      · simp only [if_neg c1]
        by_cases c2 : j = i
        · simp only [if_pos c2]; rw [c2]
        · simp only [if_neg c2]
    · rw [e5, sw_up_row _ _ _ ce, e3, sw_up_row _ _ _ ce]
      exact e c (fun q => by rcases List.mem_cons.mp q with q | q; exact ce q; exact hc q)
  · rw [e5, sw_up_cell _ _ _ _ (by decide), e3, sw_up_cell _ _ _ _ (by decide)]; exact r
theorem s_other_loop {w : Wd} {D : Sd} {wi : Nat → Int32} {s i o : Nat} {v : Int32} (hs : s ≤ 8) (hi : i < 10) (ho : o < 10) (hne : i ≠ o) {I : sw_I} {J : sw_J} {Q : Int32 → sw_I → sw_J → Prop} (hW : isW I w) (hA : alO I wi) (hD : sdO I D s) :
    ∀ (d k : Nat) (u : Int32) (I2 : sw_I), k + d = wf w + 1 → eqx alW I I2 → (I2 115 = fun j => if j = o then u else if j = i then v else I 115 j) → I2 113 5 = 0 → (∀ I3, eqx alC I I3 → I3 113 5 = 0 → Q (owV (owM w D wi i v o s d k)) I3 J) → wl_X7_otherWishSo_40 Q (d + 2) (nI i) (nI o) (I 115 i) (I 115 o) (-2) (nI k - 1) I2 J := by
  have h9 := hW.1.2.1
  have ff : ∀ I2, eqx alW I I2 → I2 3 0 = nI (wf w) := fun I2 e => by rw [e.at (by decide)]; exact hW.1.2.2.2.1
  have two : (wi o : Int32) = I 115 o := (hA.2.1 o ho).symm
  intro d
  induction d with
  | zero =>
    intro k u I2 hk h1 h2 h3 h
    show wb_X7_otherWishSo_40 _ Q _ _ _ _ _ _ I2 J
    unfold wb_X7_otherWishSo_40
    rw [sw_if_f (by rw [ff I2 h1, wk_lt (by omega) (by omega)]; omega)]
    exact ow_end hi ho hne h1 h2 h3 h
  | succ d ih =>
    intro k u I2 hk h1 h2 h3 h
    show wb_X7_otherWishSo_40 _ Q _ _ _ _ _ _ I2 J
    unfold wb_X7_otherWishSo_40
    rw [sw_if_t (by rw [ff I2 h1, wk_lt (by omega) (by omega)]; omega), sw_if_t rfl, nI_clamp (by omega)]
    refine ⟨vp0 ho (by decide), fun I4 e4 => ?_⟩
    have q4 : eqx alW I I4 := by rw [e4]; exact h1.up (by decide) _ _
    have g4 : I4 115 = fun j => if j = o then nI k - 1 else if j = i then v else I 115 j := by
      rw [e4, sw_up_rowf, h2]
      funext j
      by_cases c1 : j = o
      · simp only [if_pos c1]
      · simp only [if_neg c1]
    have r4 : I4 113 5 = 0 := by rw [e4, sw_up_cell _ _ _ _ (by decide)]; exact h3
    have A4 : alO I4 (updW (updW wi i v) o (nI k - 1)) := by
      refine ⟨fun j hj => ?_, fun j hj => ?_, r4⟩
      · rw [q4.at (by decide)]; exact hA.1 j hj
      · show I4 115 j = if j = o then nI k - 1 else if j = i then v else wi j
        rw [g4]
        show (if j = o then nI k - 1 else if j = i then v else I 115 j) = _
        rw [show I 115 j = wi j from hA.2.1 j hj]
    unfold owM at h
    rw [two] at h
    have on : ∀ I5, eqx alW I I5 → (I5 115 = fun j => if j = o then nI k - 1 else if j = i then v else I 115 j) → I5 113 5 = 0 → (∀ I3, eqx alC I I3 → I3 113 5 = 0 → Q (owV (owM w D wi i v o s d (k + 1))) I3 J) → wB_X7_otherWishSo_87 (wl_X7_otherWishSo_40 Q (d + 2)) Q (nI i) (nI o) (I 115 i) (I 115 o) (-2) (nI k - 1) I5 J := by
      intro I5 a1 a2 a3 g y hy
      rw [hy, wk_1]
      exact ih (k + 1) (nI k - 1) I5 (by omega) a1 a2 a3 g
    by_cases c1 : nI k - 1 = I 115 o
    · rw [sw_if_t c1]
      rw [if_neg (fun q => q.1 c1)] at h
      exact on I4 q4 g4 r4 h
    · rw [sw_if_f c1]
      refine c_allSo hs (isW_of (q4.eqm (C := alW) (F := []) (fun _ q => q) (by decide)) (by decide) (by decide) hW) A4 (sdO_kept hD q4 (by decide)) (fun I5 x5 r5 => ?_)
      have q5 : eqx alW I I5 := q4.tr (x5.mono (by decide))
      have g5 : I5 115 = fun j => if j = o then nI k - 1 else if j = i then v else I 115 j := by rw [x5 _ (by decide), g4]
      cases ha : asA w D (updW (updW wi i v) o (nI k - 1)) s
      · rw [sw_if_t (by rfl)]
        rw [if_neg (fun q => by rw [ha] at q; exact absurd q.2 (by decide))] at h
        exact on I5 q5 g5 r5 h
      · rw [sw_if_f (by decide)]
        rw [if_pos ⟨c1, ha⟩] at h
        intro y hy
        rw [hy, wk_1]
        -- found: the loop ends at its next test
        show wb_X7_otherWishSo_40 _ Q _ _ _ _ _ _ I5 J
        unfold wb_X7_otherWishSo_40
        have fin := ow_end (x7 := nI k - 1) hi ho hne q5 g5 r5 h
        by_cases c2 : nI (k + 1) - 1 < I5 3 0
        · rw [sw_if_t c2, sw_if_f (wk_m2 (by omega))]; exact fin
        · rw [sw_if_f c2]; exact fin
theorem c_other {w : Wd} {D : Sd} {wi : Nat → Int32} {s i o : Nat} {v : Int32} (hs : s ≤ 8) (hi : i < 10) (ho : o < 10) (hne : i ≠ o) {I : sw_I} {J : sw_J} {Q : Int32 → sw_I → sw_J → Prop} (hW : isW I w) (hA : alO I wi) (hD : sdO I D s) (h : ∀ I3, eqx alC I I3 → I3 113 5 = 0 → Q (owV (owM w D wi i v o s (wf w + 1) 0)) I3 J) : wp_X7_otherWishSo (nI i) v (nI o) I J Q := by
  unfold wp_X7_otherWishSo
  rw [nI_clamp (by omega), nI_clamp (by omega)]
  refine ⟨vp0 hi (by decide), fun y hy => ⟨vp0 ho (by decide), fun y2 hy2 => ⟨vp0 hi (by decide), fun I8 e8 => ⟨wf w + 3, ?_⟩⟩⟩⟩
  rw [hy, hy2]
  refine s_other_loop (w := w) (D := D) (wi := wi) (v := v) hs hi ho hne hW hA hD (wf w + 1) 0 (I 115 o) I8 (by omega) (by rw [e8]; exact eqx.rf.up (by decide) _ _) ?_ ?_ h
  · rw [e8, sw_up_rowf]
    funext j
    by_cases c1 : j = o
    · rw [if_pos c1, if_neg (by omega), c1]
    · rw [if_neg c1]
  · rw [e8, sw_up_cell _ _ _ _ (by decide)]; exact hA.2.2
def orM (w : Wd) (D : Sd) (wi : Nat → Int32) (i : Nat) (v : Int32) (s : Nat) : Nat → Nat → Bool
  | 0, _ => false
  | d + 1, o => if o = i then orM w D wi i v s d (o + 1) else if (owM w D wi i v o s (wf w + 1) 0).isSome = true then true else orM w D wi i v s d (o + 1)
def trB (w : Wd) (D : Sd) (wi : Nat → Int32) (v : Int32) (s i : Nat) : Bool := asA w D (updW wi i v) s || orM w D wi i v s (wn w) 0
theorem s_one_loop {w : Wd} {D : Sd} {wi : Nat → Int32} {s i : Nat} {v : Int32} (hs : s ≤ 8) (hi : i < 10) {I : sw_I} {J : sw_J} {Q : Int32 → sw_I → sw_J → Prop} (hW : isW I w) (hA : alO I wi) (hD : sdO I D s) :
    ∀ (d o : Nat) (I2 : sw_I), o + d = wn w → eqx alC I I2 → I2 113 5 = 0 → (∀ I3, eqx alC I I3 → I3 113 5 = 0 → Q (bI (orM w D wi i v s d o)) I3 J) → wl_X7_soWithOneMore_15 Q (d + 1) (nI i) v (nI o) I2 J := by
  have h9 := hW.1.2.1
  have hn := hW.1.2.2.1
  have ff : ∀ I2, eqx alC I I2 → I2 3 2 = nI (wn w) := fun I2 e => by rw [e.at (by decide)]; exact hW.1.2.2.2.2.2.1
  intro d
  induction d with
  | zero =>
    intro o I2 hk h1 h2 h
    obtain rfl : o = wn w := by omega
    show wb_X7_soWithOneMore_15 _ Q _ _ _ I2 J
    unfold wb_X7_soWithOneMore_15
    rw [sw_if_f (by rw [ff I2 h1]; exact nI_nlt (Nat.le_refl _) (by omega))]
    exact h I2 h1 h2
  | succ d ih =>
    intro o I2 hk h1 h2 h
    show wb_X7_soWithOneMore_15 _ Q _ _ _ I2 J
    unfold wb_X7_soWithOneMore_15
    rw [sw_if_t (by rw [ff I2 h1]; exact nI_lt (by omega) (by omega))]
    unfold orM at h
    by_cases c1 : o = i
    · rw [sw_if_t (by rw [c1])]
      rw [if_pos c1] at h
      intro y hy
      rw [hy, nI_1]
      exact ih (o + 1) I2 (by omega) h1 h2 h
    · rw [sw_if_f (fun q => c1 ((nI_eq (by omega) (by omega)).mp q))]
      rw [if_neg c1] at h
      refine c_other (w := w) (D := D) (wi := wi) hs hi (by omega) (fun q => c1 q.symm) (isW_of (h1.eqm (C := alC) (F := []) (fun _ q => q) (by decide)) (by decide) (by decide) hW) (alO_kept hA h1 h2) (sdO_kept hD h1 (by decide)) (fun I3 x3 r3 => ?_)
      cases hr : owM w D wi i v o s (wf w + 1) 0 with
      | none =>
        rw [hr] at h
        rw [sw_if_t (show owV none = (-2 : Int32) from rfl)]
        intro y hy
        rw [hy, nI_1]
        exact ih (o + 1) I3 (by omega) (h1.tr x3) r3 h
      | some t =>
        have ht := ow_rng w D wi i v o s _ _ t hr
        rw [hr] at h
        rw [sw_if_f (show ¬ owV (some t) = (-2 : Int32) from wk_m2 (by omega))]
        exact h I3 (h1.tr x3) r3
theorem c_one {w : Wd} {D : Sd} {wi : Nat → Int32} {s i : Nat} {v : Int32} (hs : s ≤ 8) (hi : i < 10) {I : sw_I} {J : sw_J} {Q : Int32 → sw_I → sw_J → Prop} (hW : isW I w) (hA : alO I wi) (hD : sdO I D s) (h : ∀ I3, eqx alC I I3 → I3 113 5 = 0 → Q (bI (trB w D wi v s i)) I3 J) : wp_X7_soWithOneMore (nI i) v I J Q := by
  unfold wp_X7_soWithOneMore
  refine c_allSoIf hs hi hW hA hD (fun I1 x1 r1 => ?_)
  unfold trB at h
  cases ha : asA w D (updW wi i v) s
  · rw [sw_if_t (by rfl)]
    rw [ha, Bool.false_or] at h
    exact ⟨wn w + 1, s_one_loop (w := w) hs hi hW hA hD (wn w) 0 I1 (Nat.zero_add _) x1 r1 h⟩
  · rw [sw_if_f (by decide)]
    rw [ha, Bool.true_or] at h
    exact h I1 x1 r1
theorem s_truly_loop {w : Wd} {D : Sd} {wi : Nat → Int32} {s : Nat} {v : Int32} (hs : s ≤ 8) {I : sw_I} {J : sw_J} {Q : Int32 → sw_I → sw_J → Prop} (hW : isW I w) (hA : alO I wi) (hD : sdO I D s) (h : ∀ I3, eqx alC I I3 → I3 113 5 = 0 → Q (bs (trB w D wi v s) (wn w)) I3 J) :
    ∀ (d i : Nat) (I2 : sw_I), i + d = wn w → eqx alC I I2 → I2 113 5 = 0 → wl_X9_truly_31 Q (d + 1) v (bs (trB w D wi v s) i) (nI i) I2 J := by
  have hn := hW.1.2.2.1
  have ff : ∀ I2, eqx alC I I2 → I2 3 2 = nI (wn w) := fun I2 e => by rw [e.at (by decide)]; exact hW.1.2.2.2.2.2.1
  intro d
  induction d with
  | zero =>
    intro i I2 hk h1 h2
    obtain rfl : i = wn w := by omega
    show wb_X9_truly_31 _ Q _ _ _ I2 J
    unfold wb_X9_truly_31
    rw [sw_if_f (by rw [ff I2 h1]; exact nI_nlt (Nat.le_refl _) (by omega))]
    exact h I2 h1 h2
  | succ d ih =>
    intro i I2 hk h1 h2
    show wb_X9_truly_31 _ Q _ _ _ I2 J
    unfold wb_X9_truly_31
    rw [sw_if_t (by rw [ff I2 h1]; exact nI_lt (by omega) (by omega))]
    refine c_one (w := w) (D := D) (wi := wi) hs (by omega) (isW_of (h1.eqm (C := alC) (F := []) (fun _ q => q) (by decide)) (by decide) (by decide) hW) (alO_kept hA h1 h2) (sdO_kept hD h1 (by decide)) (fun I3 x3 r3 => ?_)
    have nxt := ih (i + 1) I3 (by omega) (h1.tr x3) r3
    cases hb : trB w D wi v s i
    · rw [sw_if_t (by rfl)]
      rw [← bs_f hb, or0] at nxt
      intro y hy
      rw [hy, nI_1]; exact nxt
    · rw [sw_if_f (by decide)]
      rw [← bs_t hb] at nxt
      intro y hy y2 hy2
      rw [hy2, nI_1, hy]; exact nxt
/-- as the reference asks: any wish of another -/
theorem ow_any {w : Wd} {D : Sd} {wi : Nat → Int32} {i o s : Nat} {v : Int32} (hne : i ≠ o) (h0 : asA w D (updW wi i v) s = false) {k : Nat} : (¬ nI k - 1 = wi o ∧ asA w D (updW (updW wi i v) o (nI k - 1)) s = true) ↔ asA w D (updW (updW wi i v) o (nI k - 1)) s = true := by
  constructor
  · exact fun q => q.2
  · intro q
    refine ⟨fun e => ?_, q⟩
    have : updW (updW wi i v) o (nI k - 1) = updW wi i v := by
      rw [e]
      funext j; unfold updW
      by_cases c : j = o
      · rw [if_pos c, if_neg (by omega), c]
      · rw [if_neg c]
    rw [this, h0] at q; cases q
theorem m_true2_loop {w : Wd} {D : Sd} {wi : Nat → Int32} {s i o : Nat} {v : Int32} (hs : s ≤ 8) (hi : i < wn w) (ho : o < wn w) (hne : i ≠ o) (h0 : asA w D (updW wi i v) s = false) {I : sw_I} {J : sw_J} {Q : Int32 → sw_I → sw_J → Prop} {K : Int32 → Int32 → Int32 → sw_I → sw_J → Prop} (hW : isW I w) (hD : mdO I D s) (hf : ∀ k, k < s → ∃ j, j < wf w ∧ D.1 k = nI j) :
    ∀ (d k : Nat) (u : Int32) (I2 : sw_I), k + d = wf w + 1 → eqm nxC maF I I2 → nxO I2 w (updW (updW wi i v) o u) → (∀ I3 u3, eqm nxC maF I I3 → nxO I3 w (updW (updW wi i v) o u3) → owM w D wi i v o s d k = none → wB_X10_isTruly_83 K Q (nI i) v (nI o) I3 J) → (∀ I3, eqm nxC maF I I3 → (owM w D wi i v o s d k).isSome = true → Q 1 I3 J) → wl_X10_isTruly_43 K Q (d + 1) (nI i) v (nI o) (nI k - 1) I2 J := by
  have h9 := hW.1.2.1
  have hn := hW.1.2.2.1
  have ff : ∀ I2, eqm nxC maF I I2 → I2 140 3 = nI (wf w) := fun I2 e => by rw [e.2 _ (by decide)]; exact hW.1.2.2.2.2.1
  have e10 : (10 : Int32) + nI o = nI (10 + o) := nI_add 10 o
  intro d
  induction d with
  | zero =>
    intro k u I2 hk h1 h2 g1 g2
    show wb_X10_isTruly_43 _ _ Q _ _ _ _ I2 J
    unfold wb_X10_isTruly_43
    rw [sw_if_f (by rw [ff I2 h1, wk_lt (by omega) (by omega)]; omega)]
    exact g1 I2 u h1 h2 rfl
  | succ d ih =>
    intro k u I2 hk h1 h2 g1 g2
    show wb_X10_isTruly_43 _ _ Q _ _ _ _ I2 J
    unfold wb_X10_isTruly_43
    rw [sw_if_t (by rw [ff I2 h1, wk_lt (by omega) (by omega)]; omega), sw_if_f (fun q => hne ((nI_eq (by omega) (by omega)).mp q).symm), e10, nI_clamp (by omega)]
    refine ⟨vp0 (by omega) (by decide), fun I4 e4 => ?_⟩
    have q4 : eqm nxC maF I I4 := by rw [e4]; exact h1.upC (by decide) (by decide) _ _
    have X4 : nxO I4 w (updW (updW wi i v) o (nI k - 1)) := by
      rw [← updW_upd (updW wi i v) o u]
      refine nx_set h2 (wk_fw (by omega)) (fun j hj => ?_)
      rw [e4]
      by_cases c : j = o
      · rw [if_pos c, c, sw_up_same]
      · rw [if_neg c, sw_up_slot _ _ _ _ (by omega)]
    refine m_areSo hs (isW_of q4 (by decide) (by decide) hW) (mdO_kept hD q4 (by decide) (by decide)) X4 hf (fun I5 x5 k5 => ?_)
    unfold owM at g1 g2
    cases ha : asA w D (updW (updW wi i v) o (nI k - 1)) s
    · rw [sw_if_t (by rfl)]
      rw [if_neg (fun q => by rw [ha] at q; exact absurd q.2 (by decide))] at g1 g2
      intro y hy
      rw [hy, wk_1]
      exact ih (k + 1) (nI k - 1) I5 (by omega) (q4.tr x5) (nxO_kept hn X4 k5) g1 g2
    · rw [sw_if_f (by decide)]
      rw [if_pos ((ow_any hne h0).mpr ha)] at g2
      exact g2 I5 (q4.tr x5) rfl
theorem m_truly {w : Wd} {D : Sd} {μ : Mo} {s i : Nat} {v : Int32} (hs : s ≤ 8) (hi : i < wn w) (hv : fw (wf w) v) {I : sw_I} {J : sw_J} {Q : Int32 → sw_I → sw_J → Prop} (hW : isW I w) (hD : mdO I D s) (hf : ∀ k, k < s → ∃ j, j < wf w ∧ D.1 k = nI j) (hR : relM w μ (I 144)) (h : ∀ I3, eqm nxC maF I I3 → Q (bI (trB w D μ.2.1 v s i)) I3 J) : wp_X10_isTruly (nI i) v I J Q := by
  have h9 := hW.1.2.1
  have hn := hW.1.2.2.1
  have e10 : ∀ i, (10 : Int32) + nI i = nI (10 + i) := fun i => nI_add 10 i
  refine s_X10_puts (by decide) (fun I1 x1 r1 => ?_)
  rw [e10, nI_clamp (by omega)]
  refine ⟨vp0 (by omega) (by decide), fun I2 e2 => ?_⟩
  have q1 : eqm nxC maF I I1 := x1.eqm (by decide) (by decide)
  have q2 : eqm nxC maF I I2 := by rw [e2]; exact q1.upC (by decide) (by decide) _ _
  have X1 : nxO I1 w μ.2.1 := nx_puts hn hR r1
  have X2 : nxO I2 w (updW μ.2.1 i v) := nx_set X1 hv (fun j hj => by
    rw [e2]
    by_cases c : j = i
    · rw [if_pos c, c, sw_up_same]
    · rw [if_neg c, sw_up_slot _ _ _ _ (by omega)])
  refine m_areSo hs (isW_of q2 (by decide) (by decide) hW) (mdO_kept hD q2 (by decide) (by decide)) X2 hf (fun I3 x3 k3 => ?_)
  unfold trB at h
  cases ha : asA w D (updW μ.2.1 i v) s
  · rw [sw_if_t (by rfl)]
    rw [ha, Bool.false_or] at h
    have loop : ∀ (d o : Nat) (I4 : sw_I), o + d = wn w → eqm nxC maF I I4 → nxO I4 w (updW μ.2.1 i v) → (∀ I3, eqm nxC maF I I3 → Q (bI (orM w D μ.2.1 i v s d o)) I3 J) → wl_X10_isTruly_32 Q (d + 1) (nI i) v (nI o) I4 J := by
      intro d
      induction d with
      | zero =>
        intro o I4 hk x4 X4 h
        obtain rfl : o = wn w := by omega
        show wb_X10_isTruly_32 _ Q _ _ _ I4 J
        unfold wb_X10_isTruly_32
        rw [sw_if_f (by rw [x4.2 _ (by decide), hW.1.2.2.2.2.2.2.1]; exact nI_nlt (Nat.le_refl _) (by omega))]
        exact h I4 x4
      | succ d ih =>
        intro o I4 hk x4 X4 h
        show wb_X10_isTruly_32 _ Q _ _ _ I4 J
        unfold wb_X10_isTruly_32
        rw [sw_if_t (by rw [x4.2 _ (by decide), hW.1.2.2.2.2.2.2.1]; exact nI_lt (by omega) (by omega))]
        unfold orM at h
        by_cases c1 : o = i
        · rw [if_pos c1] at h
          refine ⟨1, ?_⟩
          have tail : wB_X10_isTruly_83 (wl_X10_isTruly_32 Q (d + 1)) Q (nI i) v (nI o) I4 J := by
            unfold wB_X10_isTruly_83 wB_X10_isTruly_109
            rw [sw_if_t (by rw [c1]), e10, nI_clamp (by omega)]
            refine ⟨vp0 (by omega) (by decide), fun I5 e5 y hy => ?_⟩
            rw [hy, nI_1]
            refine ih (o + 1) I5 (by omega) (by rw [e5]; exact x4.upC (by decide) (by decide) _ _) ?_ h
            rw [← updW_upd μ.2.1 i v]
            refine nx_set X4 hv (fun j hj => ?_)
            rw [e5]
            by_cases c : j = i
            · rw [if_pos c, c, ← c1, sw_up_same]
            · rw [if_neg c, sw_up_slot _ _ _ _ (by omega)]
          show wb_X10_isTruly_43 _ _ Q _ _ _ _ I4 J
          unfold wb_X10_isTruly_43
          by_cases c2 : (-1 : Int32) < I4 140 3
          · rw [sw_if_t c2, sw_if_t (by rw [c1])]; exact tail
          · rw [sw_if_f c2]; exact tail
        · rw [if_neg c1] at h
          have hne : i ≠ o := fun q => c1 q.symm
          have hid : updW (updW μ.2.1 i v) o (μ.2.1 o) = updW μ.2.1 i v := by
            funext j; unfold updW
            by_cases c : j = o
            · rw [if_pos c, if_neg (by omega), c]
            · rw [if_neg c]
          have := m_true2_loop (w := w) (D := D) (wi := μ.2.1) (v := v) (K := wl_X10_isTruly_32 Q (d + 1)) (J := J) (Q := Q) hs hi (show o < wn w by omega) hne ha (isW_of x4 (by decide) (by decide) hW) (mdO_kept hD x4 (by decide) (by decide)) hf (wf w + 1) 0 (μ.2.1 o) I4 (Nat.zero_add _) eqm.rf (by rw [hid]; exact X4) (fun I5 u5 x5 X5 hnone => ?_) (fun I5 x5 hsome => ?_)
          · exact ⟨wf w + 2, this⟩
          · rw [hnone] at h
            have q5 := x4.tr x5
            unfold wB_X10_isTruly_83 wB_X10_isTruly_109
            have en : I5 144 (10 + o) = μ.2.1 o := by rw [q5.1 _ (by decide) (by decide)]; exact (hR.1.1 o (by omega)).2.1.symm
            rw [sw_if_f (fun q => c1 ((nI_eq (by omega) (by omega)).mp q)), e10, nI_clamp (by omega), en]
            refine ⟨vp0 (by omega) (by decide), vp0 (by omega) (by decide), fun I6 e6 y hy => ?_⟩
            rw [hy, nI_1]
            refine ih (o + 1) I6 (by omega) (by rw [e6]; exact q5.upC (by decide) (by decide) _ _) ?_ h
            rw [← hid, ← updW_upd (updW μ.2.1 i v) o u5]
            refine nx_set X5 (hR.2.1 o (by omega)).2 (fun j hj => ?_)
            rw [e6]
            by_cases c : j = o
            · rw [if_pos c, c, sw_up_same]
            · rw [if_neg c, sw_up_slot _ _ _ _ (by omega)]
          · rw [if_pos hsome] at h
            exact h I5 (x4.tr x5)
    exact ⟨wn w + 1, loop (wn w) 0 I3 (Nat.zero_add _) (q2.tr x3) (nxO_kept hn X2 k3) h⟩
  · rw [sw_if_f (by decide)]
    rw [ha, Bool.true_or] at h
    exact h I3 (q2.tr x3)
theorem m_truly_loop {w : Wd} {D : Sd} {μ : Mo} {s : Nat} {v : Int32} (hs : s ≤ 8) (hv : fw (wf w) v) {I : sw_I} {J : sw_J} {Q : Int32 → sw_I → sw_J → Prop} (hW : isW I w) (hD : mdO I D s) (hf : ∀ k, k < s → ∃ j, j < wf w ∧ D.1 k = nI j) (hR : relM w μ (I 144)) (h : ∀ I3, eqm nxC maF I I3 → Q (bs (trB w D μ.2.1 v s) (wn w)) I3 J) :
    ∀ (d i : Nat) (I2 : sw_I), i + d = wn w → eqm nxC maF I I2 → wl_X10_truly_19 Q (d + 1) v (bs (trB w D μ.2.1 v s) i) (nI i) I2 J := by
  have hn := hW.1.2.2.1
  intro d
  induction d with
  | zero =>
    intro i I2 hk h1
    obtain rfl : i = wn w := by omega
    show wb_X10_truly_19 _ Q _ _ _ I2 J
    unfold wb_X10_truly_19
    rw [sw_if_f (by rw [h1.2 _ (by decide), hW.1.2.2.2.2.2.2.1]; exact nI_nlt (Nat.le_refl _) (by omega))]
    exact h I2 h1
  | succ d ih =>
    intro i I2 hk h1
    show wb_X10_truly_19 _ Q _ _ _ I2 J
    unfold wb_X10_truly_19
    rw [sw_if_t (by rw [h1.2 _ (by decide), hW.1.2.2.2.2.2.2.1]; exact nI_lt (by omega) (by omega))]
    refine m_truly (w := w) (D := D) (μ := μ) hs (by omega) hv (isW_of h1 (by decide) (by decide) hW) (mdO_kept hD h1 (by decide) (by decide)) hf (by rw [h1.1 _ (by decide) (by decide)]; exact hR) (fun I3 x3 => ?_)
    have go : ∀ t, bs (trB w D μ.2.1 v s) i ||| t = bs (trB w D μ.2.1 v s) (i + 1) → wB_X10_truly_44 (wl_X10_truly_19 Q (d + 1)) Q v (nI i) (bs (trB w D μ.2.1 v s) i) t I3 J := by
      intro t ht y hy y2 hy2
      rw [hy2, nI_1, hy, ht]
      exact ih (i + 1) I3 (by omega) (h1.tr x3)
    cases hb : trB w D μ.2.1 v s i
    · rw [sw_if_t (by rfl)]; exact go _ (bs_f hb)
    · rw [sw_if_f (by decide)]; exact go _ (bs_t hb)
theorem p_truly {c : Nat} {x1 : Int32} {I : sw_I} {J : sw_J} {Q : Int32 → Int32 → sw_I → sw_J → Prop} (h : wW c I J) (hQ : ∀ v I2 J2, wW c I2 J2 → I2 140 0 = 0 → Q v v I2 J2) :
    wp_X9_truly x1 I J (fun r I1 J1 => wp_X10_truly x1 I1 J1 (fun r2 I2 J2 => Q r r2 I2 J2)) := by
  obtain ⟨n, fl, m, q, p, r, t, s, z, hw⟩ := h
  obtain ⟨h0, h1, h2, h3, h4, h5, h6, h7, h8⟩ := id hw
  have hn := h1.2.2.1
  have hW := isW_O h1 h2
  have hR : relM (wdO I m n fl) (moC I 13) (I 144) := h3
  obtain ⟨D1, D2, D3⟩ := sn_both h7
  generalize sdC I = D at D1 D2 D3
  have hs := h7.1
  have h9 := h1.2.1
  unfold wp_X9_truly
  refine s_X1_hasFloor h9 h1.2.2.2.1 (fun co => ?_) (fun k hk ek => ?_)
  · rw [sw_if_t rfl]
    intro I2 e2
    refine s_X10_isFloor (n := fl) (by omega) (by rw [e2, sw_up_slot _ _ _ _ (by decide)]; exact h1.2.2.2.2.1) (fun _ => ?_) (fun k hk ek => absurd co (fun w => ix_out (by omega) hk ek w))
    rw [sw_if_t rfl]; exact hQ _ I2 J (th_of hw e2).1 (th_of hw e2).2
  · rw [sw_if_f (by decide)]
    refine c_believe h0.2.2 (fun I1 x1' A1 => ?_)
    have hW1 := isW_of (x1'.eqm (C := [115]) (F := []) (fun _ q => q) (by decide)) (by decide) (by decide) hW
    refine ⟨n + 1, s_truly_loop (w := wdO I m n fl) hs hW1 A1 (sdO_kept D1 x1' (by decide)) (fun I2 x2 r2 => ?_) n 0 I1 (Nat.zero_add _) eqx.rf A1.2.2⟩
    have s2 : eqm (113 :: scrC) scrF I I2 := (x1'.eqm (by decide) (by decide)).tr (x2.eqm (by decide) (by decide))
    intro I3 e3
    have s3 : eqm (113 :: scrC) scrF I I3 := by rw [e3]; exact s2.upF (by decide) _
    refine s_X10_isFloor (n := fl) (by omega) (by rw [s3.2 _ (by decide)]; exact h1.2.2.2.2.1) (fun co => absurd co (fun w => ix_out (by omega) hk ek w)) (fun _ _ _ => ?_)
    rw [sw_if_f (by decide)]
    refine ⟨n + 1, m_truly_loop (w := wdO I m n fl) (D := D) (μ := moC I 13) hs (Or.inr ⟨k, hk, ek⟩) (isW_of s3 (by decide) (by decide) hW) (mdO_kept D2 s3 (by decide) (by decide)) D3 (by rw [s3.1 _ (by decide) (by decide)]; exact hR) (fun I5 x5 => ?_) n 0 I3 (Nat.zero_add _) eqm.rf⟩
    refine hQ _ I5 J (seen_fin0 hw (s3.tr (x5.mono (by decide) (by decide))) ?_ rfl rfl) ?_
    · rw [x5.1 _ (by decide) (by decide), e3, sw_up_cell _ _ _ _ (by decide)]; exact r2
    · rw [x5.2 _ (by decide), e3, sw_up_same]
