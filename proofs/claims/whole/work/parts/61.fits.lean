/-! promises: fits, truly -/
def updW (wi : Nat → Int32) (i : Nat) (v : Int32) : Nat → Int32 := fun j => if j = i then v else wi j
theorem c_allSoIf {w : Wd} {D : Sd} {wi : Nat → Int32} {s i : Nat} {v : Int32} (hs : s ≤ 8) (hi : i < 10) {I : sw_I} {J : sw_J} {Q : Int32 → sw_I → sw_J → Prop} (hW : isW I w) (hA : alO I wi) (hD : sdO I D s) (h : ∀ I2, eqx alC I I2 → I2 113 5 = 0 → Q (bI (asA w D (updW wi i v) s)) I2 J) : wp_X7_allSoIf (nI i) v I J Q := by
  unfold wp_X7_allSoIf
  rw [nI_clamp (by omega)]
  have vp : vp_in (nI i) 10 := vp0 hi (by decide)
  refine ⟨vp, fun y hy => ⟨vp, fun I5 e5 => ?_⟩⟩
  have f5 : ∀ c, c ≠ 115 → I5 c = I c := fun c hc => by rw [e5, sw_up_row _ _ _ hc]
  have g5 : I5 115 = fun j => if j = i then v else I 115 j := by rw [e5, sw_up_rowf]
  have q5 : eqx [115] I I5 := fun c hc => f5 c (by simpa using hc)
  have A5 : alO I5 (updW wi i v) := by
    refine ⟨fun j hj => ?_, fun j hj => ?_, ?_⟩
    · rw [f5 _ (by decide)]; exact hA.1 j hj
    · show I5 115 j = if j = i then v else wi j
      rw [g5]
      show (if j = i then v else I 115 j) = _
      rw [show I 115 j = wi j from hA.2.1 j hj]
    · rw [f5 _ (by decide)]; exact hA.2.2
  refine c_allSo hs (isW_of (q5.eqm (C := [115]) (F := []) (fun _ q => q) (by decide)) (by decide) (by decide) hW) A5 (sdO_kept hD q5 (by decide)) (fun I8 x8 r8 => ⟨vp, fun I11 e11 => ⟨bI_01 _, ?_⟩⟩)
  refine h I11 (fun c hc => ?_) ?_
  · by_cases e : c = 115
    · rw [e, e11, sw_up_rowf, x8 _ (by decide), g5]
      funext j
      by_cases cj : j = i
      · simp only [if_pos cj]; rw [hy, cj]
      · simp only [if_neg cj]
    · rw [e11, sw_up_row _ _ _ e, x8 c hc, f5 c e]
  · rw [e11, sw_up_cell _ _ _ _ (by decide)]; exact r8
/-- the bits of wishes that fit -/
def ftV (k : Nat) : Int32 := if k = 0 then (1 : Int32) <<< ((9 : Int32) &&& 31) else (1 : Int32) <<< ((nI k - 1) &&& 31)
def ftM (w : Wd) (D : Sd) (wi : Nat → Int32) (s i : Nat) : Nat → Nat → Int32 → Int32
  | 0, _, a => a
  | d + 1, k, a => ftM w D wi s i d (k + 1) (if asA w D (updW wi i (nI k - 1)) s = true then a ||| ftV k else a)
theorem wk_m1 {k : Nat} (hk : k < 2 ^ 31) : (nI k - 1 = (-1 : Int32)) ↔ k = 0 := by
  constructor
  · intro e
    have := congrArg Int32.toInt e
    rw [nIp_toInt hk] at this
    have h2 : (-1 : Int32).toInt = -1 := by decide
    rw [h2] at this; omega
  · intro e; rw [e]; decide
theorem wk_neg {k : Nat} (hk : k < 2 ^ 31) : (nI k - 1 < 0) ↔ k = 0 := by
  rw [Int32.lt_iff_toInt_lt, nIp_toInt hk]
  show (k : Int) - 1 < 0 ↔ _
  omega
theorem s_fits_loop {w : Wd} {D : Sd} {wi : Nat → Int32} {s i : Nat} (hs : s ≤ 8) (hi : i < 10) {I : sw_I} {J : sw_J} {Q : Int32 → sw_I → sw_J → Prop} (hW : isW I w) (hA : alO I wi) (hD : sdO I D s) :
    ∀ (d k : Nat) (a : Int32) (I2 : sw_I), k + d = wf w + 1 → eqx alC I I2 → I2 113 5 = 0 → (∀ I3, eqx alC I I3 → I3 113 5 = 0 → Q (ftM w D wi s i d k a) I3 J) → wl_X9_fits_31 Q (d + 1) (nI i) a (nI k - 1) I2 J := by
  have h9 := hW.1.2.1
  have ff : ∀ I2, eqx alC I I2 → I2 3 0 = nI (wf w) := fun I2 e => by rw [e.at (by decide)]; exact hW.1.2.2.2.1
  intro d
  induction d with
  | zero =>
    intro k a I2 hk h1 h2 h
    show wb_X9_fits_31 _ Q _ _ _ I2 J
    unfold wb_X9_fits_31
    rw [sw_if_f (by rw [ff I2 h1, wk_lt (by omega) (by omega)]; omega)]
    exact h I2 h1 h2
  | succ d ih =>
    intro k a I2 hk h1 h2 h
    show wb_X9_fits_31 _ Q _ _ _ I2 J
    unfold wb_X9_fits_31
    rw [sw_if_t (by rw [ff I2 h1, wk_lt (by omega) (by omega)]; omega)]
    refine c_allSoIf hs hi (isW_of (h1.eqm (C := alC) (F := []) (fun _ q => q) (by decide)) (by decide) (by decide) hW) (alO_kept hA h1 h2) (sdO_kept hD h1 (by decide)) (fun I3 x3 r3 => ?_)
    unfold ftM at h
    have go : ∀ b, b = (if asA w D (updW wi i (nI k - 1)) s = true then a ||| ftV k else a) → wB_X9_fits_74 (wl_X9_fits_31 Q (d + 1)) Q (nI i) b (nI k - 1) I3 J := by
      intro b hb y hy
      rw [hy, wk_1, hb]
      exact ih (k + 1) _ I3 (by omega) (h1.tr x3) r3 h
    cases ha : asA w D (updW wi i (nI k - 1)) s
    · rw [sw_if_t (by rfl)]
      exact go a (by rw [ha]; rfl)
    · rw [sw_if_f (by decide)]
      refine ⟨fun c1 => ?_, fun c1 => ?_⟩
      · intro y hy
        refine go y ?_
        rw [hy, ha, if_pos rfl]
        unfold ftV; rw [if_pos ((wk_m1 (by omega)).mp c1)]
      · intro y hy
        refine go y ?_
        rw [hy, ha, if_pos rfl]
        unfold ftV; rw [if_neg (fun q => c1 ((wk_m1 (by omega)).mpr q))]
/-- the reference's wishes with one of them set -/
theorem nx_set {I I2 : sw_I} {w : Wd} {wi : Nat → Int32} {i : Nat} {v : Int32} (h : nxO I w wi) (hv : fw (wf w) v) (e : ∀ j, j < wn w → I2 145 (10 + j) = if j = i then v else I 145 (10 + j)) : nxO I2 w (updW wi i v) := by
  intro j hj
  rw [e j hj]
  unfold updW
  by_cases c : j = i
  · rw [if_pos c, if_pos c]; exact ⟨rfl, hv⟩
  · rw [if_neg c, if_neg c]; exact h j hj
theorem updW_upd (wi : Nat → Int32) (i : Nat) (u v : Int32) : updW (updW wi i u) i v = updW wi i v := by
  funext j; unfold updW
  by_cases c : j = i
  · rw [if_pos c, if_pos c]
  · rw [if_neg c, if_neg c, if_neg c]
theorem m_fits_loop {w : Wd} {D : Sd} {wi : Nat → Int32} {s i : Nat} (hs : s ≤ 8) (hi : i < wn w) {I : sw_I} {J : sw_J} {Q : Int32 → sw_I → sw_J → Prop} (hW : isW I w) (hD : mdO I D s) (hf : ∀ k, k < s → ∃ j, j < wf w ∧ D.1 k = nI j) :
    ∀ (d k : Nat) (a u : Int32) (I2 : sw_I), k + d = wf w + 1 → eqm nxC maF I I2 → nxO I2 w (updW wi i u) → (∀ I3, eqm nxC maF I I3 → Q (ftM w D wi s i d k a) I3 J) → wl_X10_fits_30 Q (d + 1) (nI i) a (nI k - 1) I2 J := by
  have h9 := hW.1.2.1
  have hn := hW.1.2.2.1
  have ff : ∀ I2, eqm nxC maF I I2 → I2 140 3 = nI (wf w) := fun I2 e => by rw [e.2 _ (by decide)]; exact hW.1.2.2.2.2.1
  have e10 : (10 : Int32) + nI i = nI (10 + i) := nI_add 10 i
  intro d
  induction d with
  | zero =>
    intro k a u I2 hk h1 h2 h
    show wb_X10_fits_30 _ Q _ _ _ I2 J
    unfold wb_X10_fits_30
    rw [sw_if_f (by rw [ff I2 h1, wk_lt (by omega) (by omega)]; omega)]
    exact h I2 h1
  | succ d ih =>
    intro k a u I2 hk h1 h2 h
    show wb_X10_fits_30 _ Q _ _ _ I2 J
    unfold wb_X10_fits_30
    rw [sw_if_t (by rw [ff I2 h1, wk_lt (by omega) (by omega)]; omega), e10, nI_clamp (by omega)]
    refine ⟨vp0 (by omega) (by decide), fun I3 e3 => ?_⟩
    have q3 : eqm nxC maF I I3 := by rw [e3]; exact h1.upC (by decide) (by decide) _ _
    have X3 : nxO I3 w (updW wi i (nI k - 1)) := by
      rw [← updW_upd wi i u]
      refine nx_set h2 (wk_fw (by omega)) (fun j hj => ?_)
      rw [e3]
      by_cases c : j = i
      · rw [if_pos c, c, sw_up_same]
      · rw [if_neg c, sw_up_slot _ _ _ _ (by omega)]
    refine m_areSo hs (isW_of q3 (by decide) (by decide) hW) (mdO_kept hD q3 (by decide) (by decide)) X3 hf (fun I4 x4 k4 => ?_)
    unfold ftM at h
    have go : ∀ b t, (if asA w D (updW wi i (nI k - 1)) s = true then a ||| ftV k else a) = b ||| t → wB_X10_fits_72 (wl_X10_fits_30 Q (d + 1)) Q (nI i) (nI k - 1) b t I4 J := by
      intro b t hb y hy y2 hy2
      rw [hy2, wk_1, hy, ← hb]
      exact ih (k + 1) _ (nI k - 1) I4 (by omega) (q3.tr x4) (nxO_kept hn X3 k4) h
    cases ha : asA w D (updW wi i (nI k - 1)) s
    · rw [sw_if_t (by rfl)]
      exact go a 0 (by rw [ha]; simp)
    · rw [sw_if_f (by decide)]
      refine ⟨fun c1 => ?_, fun c1 => ?_⟩
      · refine go a _ ?_
        rw [ha, if_pos rfl]
        unfold ftV; rw [if_pos ((wk_neg (by omega)).mp c1)]
      · refine go a _ ?_
        rw [ha, if_pos rfl]
        unfold ftV; rw [if_neg (fun q => c1 ((wk_neg (by omega)).mpr q))]
theorem updW_id (wi : Nat → Int32) (i : Nat) : updW wi i (wi i) = wi := by
  funext j; unfold updW
  by_cases c : j = i
  · rw [if_pos c, c]
  · rw [if_neg c]
theorem p_fits {c : Nat} {x1 : Int32} {I : sw_I} {J : sw_J} {Q : Int32 → Int32 → sw_I → sw_J → Prop} (h : wW c I J) (hQ : ∀ v I2 J2, wW c I2 J2 → I2 140 0 = 0 → Q v v I2 J2) :
    wp_X9_fits x1 I J (fun r I1 J1 => wp_X10_fits x1 I1 J1 (fun r2 I2 J2 => Q r r2 I2 J2)) := by
  obtain ⟨n, fl, m, q, p, r, t, s, z, hw⟩ := h
  obtain ⟨h0, h1, h2, h3, h4, h5, h6, h7, h8⟩ := id hw
  have hn := h1.2.2.1
  have hW := isW_O h1 h2
  have hR : relM (wdO I m n fl) (moC I 13) (I 144) := h3
  have hr := h1.2.2.2.2.2.2.1
  obtain ⟨D1, D2, D3⟩ := sn_both h7
  generalize sdC I = D at D1 D2 D3
  have hs := h7.1
  unfold wp_X9_fits
  refine s_X1_hasRider hn h1.2.2.2.2.2.1 (fun co => ?_) (fun k hk ek => ?_)
  · rw [sw_if_t rfl]
    intro I2 e2
    refine s_X10_isRider hn (by rw [e2, sw_up_slot _ _ _ _ (by decide)]; exact hr) (fun _ => ?_) (fun k hk ek => absurd co (fun w => ix_out (by omega) hk ek w))
    rw [sw_if_t rfl]; exact hQ _ I2 J (th_of hw e2).1 (th_of hw e2).2
  · rw [sw_if_f (by decide), ek]
    refine c_believe h0.2.2 (fun I1 x1 A1 => ?_)
    have hW1 := isW_of (x1.eqm (C := [115]) (F := []) (fun _ q => q) (by decide)) (by decide) (by decide) hW
    refine ⟨fl + 2, s_fits_loop (w := wdO I m n fl) hs (by omega) hW1 A1 (sdO_kept D1 x1 (by decide)) (fl + 1) 0 0 I1 (Nat.zero_add _) eqx.rf A1.2.2 (fun I2 x2 r2 => ?_)⟩
    have s2 : eqm (113 :: scrC) scrF I I2 := (x1.eqm (by decide) (by decide)).tr (x2.eqm (by decide) (by decide))
    intro I3 e3
    have s3 : eqm (113 :: scrC) scrF I I3 := by rw [e3]; exact s2.upF (by decide) _
    refine s_X10_isRider hn (by rw [s3.2 _ (by decide)]; exact hr) (fun co => absurd co (fun w => ix_out (by omega) hk rfl w)) (fun _ _ _ => ?_)
    rw [sw_if_f (by decide)]
    refine s_X10_puts (by decide) (fun I4 x4 r4 => ⟨fl + 2, ?_⟩)
    have s4 : eqm (113 :: scrC) scrF I I4 := s3.tr (x4.eqm (by decide) (by decide))
    have X4 : nxO I4 (wdO I m n fl) (I 15) := nx_puts (I := I3) (μ := moC I 13) hn (by rw [s3.1 _ (by decide) (by decide)]; exact hR) r4
    refine m_fits_loop (w := wdO I m n fl) (wi := I 15) hs hk (isW_of s4 (by decide) (by decide) hW) (mdO_kept D2 s4 (by decide) (by decide)) D3 (fl + 1) 0 0 (I 15 k) I4 (Nat.zero_add _) eqm.rf (by rw [updW_id]; exact X4) (fun I5 x5 => ?_)
    refine hQ _ I5 J (seen_fin0 hw (s4.tr (x5.mono (by decide) (by decide))) ?_ rfl rfl) ?_
    · rw [x5.1 _ (by decide) (by decide), x4 _ (by decide), e3, sw_up_cell _ _ _ _ (by decide)]; exact r2
    · rw [x5.2 _ (by decide), x4 _ (by decide), e3, sw_up_same]
