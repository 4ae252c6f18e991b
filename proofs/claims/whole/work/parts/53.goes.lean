/-! promise: goes -/
def woM (w : Wd) (μ : Mo) (s : Int32) (k : Nat) : Int32 := woF w.1 w.2.1 μ.1 μ.2.1 (wn w) s (oL μ) (oR μ) k
theorem woF_cong {cd pl pl2 wi wi2 : Nat → Int32} {m n k : Nat} {s lift rides : Int32} (h : ∀ i, i < n → pl i = pl2 i ∧ wi i = wi2 i) : woF cd m pl wi n s lift rides k = woF cd m pl2 wi2 n s lift rides k := by
  unfold woF
  have e1 : (fun f => ct (fun i => inB s i && decide (wi i = nI f)) n) = (fun f => ct (fun i => inB s i && decide (wi2 i = nI f)) n) := by
    funext f; exact ct_cong (fun i hi => by rw [(h i hi).2])
  have e2 : (fun f => ct (fun i => !inB s i && decide (pl i = nI f)) n) = (fun f => ct (fun i => !inB s i && decide (pl2 i = nI f)) n) := by
    funext f; exact ct_cong (fun i hi => by rw [(h i hi).1])
  rw [e1, e2]
/-- the worth of a floor behind a look -/
theorem c_worth {I I0 I2 : sw_I} {J : sw_J} {a k : Nat} {w : Wd} {μ : Mo} {s : Int32} (ha : a ∈ momL) (hk : k < 9) {Q : Int32 → sw_I → sw_J → Prop} (hW : isW I w) (hE : moE I a μ) (ho : scOK a s (wn w) I I0) (h0 : eqx [0, 9] I0 I2) (hs : eqx [0, 10, 11, 12, 9] I I2) (h : ∀ I3, eqx [9] I2 I3 → Q (woM w μ s k) I3 J) : wp_X2_worth (nI k) I2 J Q := by
  obtain ⟨h1, h2, h3, h4, h5⟩ := id hW
  have hn := h1.2.2.1
  refine s_X2_worth (n := w.2.1) rfl hk (by rw [hs.at (by decide)]; exact h2.1) (by rw [hs _ (by decide)]; exact h2.2.1) (fun I3 x3 => ?_)
  have ev : (lwR (envX I2 (nI k)) (I2 7) w.2.1).headD 0 = woM w μ s k := by
    have e0 : ∀ c, envX I2 (nI k) c = envX I0 (nI k) c := fun c => by
      unfold envX
      rw [h0 11 (by decide), h0 12 (by decide), h0 10 (by decide)]
    rw [lwR_env (fun c => (e0 c).trans (envX_sc ho hk c)), hs _ (by decide), h3, hE.2.2.1, hE.2.2.2]
    exact woF_cong (pl := I (a + 1)) (wi := I (a + 2)) (fun i hi => ⟨(hE.1 i (by omega)).1, (hE.1 i (by omega)).2.1⟩)
  rw [ev]; exact h I3 x3
theorem m_stopM2 {I : sw_I} {J : sw_J} {b : Nat} {w : Wd} {μ : Mo} {s : Int32} (hb : b ∉ mnsC) (hbm : b ≠ 140) {Q : Int32 → sw_I → sw_J → Prop} (hW : isW I w) (hR : relM w μ (I b)) (h : ∀ I2, eqm mnsC maF I I2 → mscOK b s (wn w) I I2 → Q (stM w μ s) I2 J) : wp_X10_stopOf b 33 s I J Q := by
  obtain ⟨h1, h2, h3, h4, h5⟩ := hW
  obtain ⟨l9, hl9, e9⟩ := hR.2.2.2.1
  have e31 : I b 31 = nI l9 := by rw [← hR.1.2.2.1]; exact e9
  refine s_X10_stopOf2 h1.2.2.1 hb hbm h1.2.1 (by have := h1.2.1; omega) h1.2.2.2.2.2.2.1 (mrow_ofG h1.2.1 hR.1 hR.2) e31 (fw9 h1.2.1 h1.2.2.2.2.2.2.2.2.1) h2.2.1 h2.2.2.1 h2.2.2.2.1 h1.2.2.2.2.1 (fun I2 e2 o2 => ?_)
  have := nsF_rel (cd := I 7) (m := w.2.1) (dog := I 140 5) (s := s) hR.1 h1.2.1
  rw [← this, h3, h5]
  exact h I2 e2 o2
theorem m_worth {I I2 : sw_I} {J : sw_J} {b k : Nat} {w : Wd} {μ : Mo} {s : Int32} (hk : k < 9) {Q : Int32 → sw_I → sw_J → Prop} (hW : isW I2 w) (hWI : I 7 = w.1) (hR : relM w μ (I b)) (ho : mscOK b s (wn w) I I2) (h : ∀ I3, eqx [152] I2 I3 → Q (woM w μ s k) I3 J) : wp_X10_lawFor (nI k) I2 J Q := by
  obtain ⟨h1, h2, h3, h4, h5⟩ := id hW
  obtain ⟨l9, hl9, e9⟩ := hR.2.2.2.1
  have hl : I2 140 29 = nI l9 := by rw [ho.2.1, ← hR.1.2.2.1]; exact e9
  refine s_X10_lawFor (m := w.2.1) (cd := I2 7) (l9 := l9) hk (by have := h1.2.1; omega) hl h2.2.1 h2.2.2.1 h2.2.2.2.1 (fun I3 x3 => ?_)
  have ev : (lwR (envM I2 (nI k)) (I2 7) w.2.1).headD 0 = woM w μ s k := by
    rw [lwR_env (envM_sc ho hk), h3, ← hR.1.2.2.1, ← hR.1.2.2.2]
    exact (woF_rel (s := s) (l9 := oL μ) (r9 := oR μ) hR.1 hk).symm
  rw [ev]; exact h I3 x3
def gsL (w : Wd) (μ : Mo) (s : Int32) (k : Nat) : List Int64 := (List.range k).map (fun f => (woM w μ s f).toInt64)
theorem gsL_s (w : Wd) (μ : Mo) (s : Int32) (k : Nat) : gsL w μ s (k + 1) = gsL w μ s k ++ [(woM w μ s k).toInt64] := by
  unfold gsL; rw [List.range_succ, List.map_append]; rfl
theorem gsL_len (w : Wd) (μ : Mo) (s : Int32) (k : Nat) : (gsL w μ s k).length = k := by unfold gsL; simp
abbrev gsC : List Nat := [0, 10, 11, 12, 9]
theorem s_goes_loop {w : Wd} {μ : Mo} {s v : Int32} {I I0 : sw_I} {J : sw_J} {Q : Int32 → sw_I → sw_J → Prop} (hW : isW I w) (hE : moE I 13 μ) (ho : scOK 13 s (wn w) I I0) (h0 : eqx gsC I I0)
    (h : ∀ I3 J3, eqx gsC I I3 → eqj [118] J J3 → tlC I3 J3 (gsL w μ s (wf w)) → Q v I3 J3) : ∀ (d k : Nat) (I2 : sw_I) (J2 : sw_J), k + d = wf w → eqx [0, 9] I0 I2 → eqj [118] J J2 → tlC I2 J2 (gsL w μ s k) → wl_X9_goes_55 Q (d + 1) v (nI k) I2 J2 := by
  have h9 := hW.1.2.1
  have ff : ∀ I2, eqx gsC I I2 → I2 3 0 = nI (wf w) := fun I2 e => by rw [e.at (by decide)]; exact hW.1.2.2.2.1
  intro d
  induction d with
  | zero =>
    intro k I2 J2 hk h2 h3 h4
    obtain rfl : k = wf w := by omega
    have g2 : eqx gsC I I2 := h0.tr (h2.mono (by decide))
    show wb_X9_goes_55 _ Q _ _ I2 J2
    unfold wb_X9_goes_55
    rw [sw_if_f (by rw [ff I2 g2]; exact nI_nlt (Nat.le_refl _) (by omega))]
    exact h I2 J2 g2 h3 h4
  | succ d ih =>
    intro k I2 J2 hk h2 h3 h4
    have g2 : eqx gsC I I2 := h0.tr (h2.mono (by decide))
    show wb_X9_goes_55 _ Q _ _ I2 J2
    unfold wb_X9_goes_55
    rw [sw_if_t (by rw [ff I2 g2]; exact nI_lt (by omega) (by omega))]
    refine c_worth (by decide) (by omega) hW hE ho h2 (g2.mono (by decide)) (fun I3 x3 => ?_)
    refine t_tell (by rw [gsL_len]; omega) (tlC_of h4 (x3 _ (by decide)) rfl) (fun I4 J4 x4 j4 t4 => ?_)
    intro y hy
    rw [hy, nI_1]
    exact ih (k + 1) I4 J4 (by omega) ((h2.tr (x3.mono (by decide))).tr (x4.mono (by decide))) (h3.tr j4) (by rw [gsL_s]; exact t4)
theorem m_goes_loop {w : Wd} {μ : Mo} {s v : Int32} {I I0 : sw_I} {J : sw_J} {Q : Int32 → sw_I → sw_J → Prop} (hW : isW I w) (hR : relM w μ (I 144)) (ho : mscOK 144 s (wn w) I I0) (h0 : eqm mnsC (1 :: maF) I I0)
    (h : ∀ I3 J3, eqm mnsC (1 :: maF) I I3 → eqj [141] J J3 → tlM I3 J3 (gsL w μ s (wf w)) → Q v I3 J3) : ∀ (d k : Nat) (I2 : sw_I) (J2 : sw_J), k + d = wf w → eqm [152] [1] I0 I2 → eqj [141] J J2 → tlM I2 J2 (gsL w μ s k) → wl_X10_goes_40 Q (d + 1) v (nI k) I2 J2 := by
  have h9 := hW.1.2.1
  have ff : ∀ I2, eqm mnsC (1 :: maF) I I2 → I2 140 3 = nI (wf w) := fun I2 e => by rw [e.2 _ (by decide)]; exact hW.1.2.2.2.2.1
  intro d
  induction d with
  | zero =>
    intro k I2 J2 hk h2 h3 h4
    obtain rfl : k = wf w := by omega
    have g2 : eqm mnsC (1 :: maF) I I2 := h0.tr (h2.mono (by decide) (by decide))
    show wb_X10_goes_40 _ Q _ _ I2 J2
    unfold wb_X10_goes_40
    rw [sw_if_f (by rw [ff I2 g2]; exact nI_nlt (Nat.le_refl _) (by omega))]
    exact h I2 J2 g2 h3 h4
  | succ d ih =>
    intro k I2 J2 hk h2 h3 h4
    have g2 : eqm mnsC (1 :: maF) I I2 := h0.tr (h2.mono (by decide) (by decide))
    show wb_X10_goes_40 _ Q _ _ I2 J2
    unfold wb_X10_goes_40
    rw [sw_if_t (by rw [ff I2 g2]; exact nI_lt (by omega) (by omega))]
    have o2 : mscOK 144 s (wn w) I I2 := by
      unfold mscOK
      rw [h2.2 28 (by decide), h2.2 29 (by decide), h2.2 30 (by decide), h2.1 153 (by decide) (by decide), h2.1 154 (by decide) (by decide)]
      exact ho
    refine m_worth (by omega) (isW_of g2 (by decide) (by decide) hW) hW.2.2.1 hR o2 (fun I3 x3 => ?_)
    refine t_enters (by rw [gsL_len]; omega) (tlM_of h4 (by rw [x3 _ (by decide)]) rfl) (fun I4 J4 x4 j4 t4 => ?_)
    intro y hy
    rw [hy, nI_1]
    exact ih (k + 1) I4 J4 (by omega) ((h2.tr (x3.eqm (by decide) (by decide))).tr (x4.mono (by decide) (by decide))) (h3.tr j4) (by rw [gsL_s]; exact t4)
theorem p_goes {c : Nat} {x1 : Int32} {I : sw_I} {J : sw_J} {Q : Int32 → Int32 → sw_I → sw_J → Prop} (h : wW c I J) (hQ : ∀ v I2 J2, wW c I2 J2 → I2 140 0 = 0 → Q v v I2 J2) :
    wp_X9_goes x1 I J (fun r I1 J1 => wp_X10_goes x1 I1 J1 (fun r2 I2 J2 => Q r r2 I2 J2)) := by
  obtain ⟨n, fl, m, q, p, r, t, s, z, hw⟩ := h
  obtain ⟨h0, h1, h2, h3, h4, h5, h6, h7, h8⟩ := id hw
  have hn := h1.2.2.1
  have hW := isW_O h1 h2
  generalize hμ : moC I 13 = μ
  have hE : moE I 13 μ := by rw [← hμ]; exact moE_C _ _
  have hR : relM (wdO I m n fl) μ (I 144) := by rw [← hμ]; exact h3
  have hr := h1.2.2.2.2.2.2.1
  have ht : bs (fun i => decide (I (13 + 1) i = I 13 4)) 10 = bs (fun i => decide (I 144 i = I 144 31)) n := on_rel hn h1.2.1 h3.1 h3.2
  unfold wp_X9_goes
  refine s_X3_onFloor ?_
  by_cases c0 : x1 &&& (bs (fun i => decide (I (13 + 1) i = I 13 4)) 10 ^^^ (-1)) = 0
  · rw [sw_if_t c0]
    refine c_stopM (by decide) hW hE (fun I1 x1' => ?_)
    have hW1 : isW I1 (wdO I m n fl) := isW_of (x1'.eqm (C := nsC) (F := []) (fun _ q => q) (by decide)) (by decide) (by decide) hW
    have hE1 : moE I1 13 μ := moE_cong (fun c c1 c2 => x1' c (by simp; omega)) hE
    refine s_X1_look hn (by decide) (by decide) (by decide) (by rw [x1'.at (by decide)]; exact h1.2.2.2.2.2.1) (fun I2 x2 o2 => t_clear (fun I3 x3 t3 => ⟨fl + 1, ?_⟩))
    refine s_goes_loop (w := wdO I m n fl) (I := I1) (I0 := I2) hW1 hE1 o2 (x2.mono (by decide)) (fun I4 J4 x4 j4 t4 => ?_) fl 0 I3 J (Nat.zero_add _) (x3.mono (by decide)) eqj.rf t3
    intro I5 e5
    have s4 : eqm (0 :: scrC) (1 :: scrF) I I4 := (x1'.eqm (by decide) (by decide)).tr (x4.eqm (by decide) (by decide))
    have s5 : eqm (0 :: scrC) (1 :: scrF) I I5 := by rw [e5]; exact s4.upF (by decide) _
    have n5 : I5 144 = I 144 := s5.1 _ (by decide) (by decide)
    refine s_X10_there hn (by decide) (by decide) (by rw [s5.2 _ (by decide)]; exact hr) ?_
    rw [n5, ← ht, sw_if_t c0]
    have hW5 := isW_of s5 (by decide) (by decide) hW
    refine m_stopM2 (by decide) (by decide) hW5 (by rw [n5]; exact hR) (fun I6 x6 o6 => ?_)
    intro I7 e7
    have q7 : eqm mnsC (1 :: maF) I5 I7 := by rw [e7]; exact (x6.mono (by decide) (by decide)).upF (by decide) _
    have o7 : mscOK 144 x1 n I5 I7 := by
      unfold mscOK
      rw [e7, sw_up_slot _ _ _ _ (by decide), sw_up_slot _ _ _ _ (by decide), sw_up_slot _ _ _ _ (by decide), sw_up_row _ _ _ (by decide), sw_up_row _ _ _ (by decide)]
      exact o6
    refine ⟨fl + 1, m_goes_loop (w := wdO I m n fl) (I := I5) (I0 := I7) hW5 (by rw [n5]; exact hR) o7 q7 (fun I8 J8 x8 j8 t8 => ?_) fl 0 I7 J4 (Nat.zero_add _) eqm.rf eqj.rf (tlM_0 e7)⟩
    refine hQ _ I8 J8 (told_fin hw (s5.tr (x8.mono (by decide) (by decide))) (by rw [gsL_len]; have := h1.2.1; show fl ≤ 12; omega) (tlC_of t4 ?_ (j8 _ (by decide))) t8) ?_
    · rw [x8.1 _ (by decide) (by decide), e5, sw_up_row _ _ _ (by decide)]
    · rw [x8.2 _ (by decide), e5, sw_up_same]
  · rw [sw_if_f c0]
    intro I2 e2
    have s2 : eqm [] [0] I I2 := by rw [e2]; exact eqm.rf.upF (by decide) _
    refine s_X10_there hn (by decide) (by decide) (by rw [s2.2 _ (by decide)]; exact hr) ?_
    rw [s2.1 144 (by decide) (by decide), ← ht, sw_if_f c0]
    exact hQ _ I2 J (th_of hw e2).1 (th_of hw e2).2
