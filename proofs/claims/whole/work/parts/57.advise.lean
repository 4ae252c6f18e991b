/-! promises: advise, rests -/
def setW (μ : Mo) (i : Nat) (v : Int32) : Mo := (μ.1, fun j => if j = i then v else μ.2.1 j, μ.2.2)
theorem setW_id (μ : Mo) (i : Nat) : setW μ i (μ.2.1 i) = μ := by
  unfold setW
  have : (fun j => if j = i then μ.2.1 i else μ.2.1 j) = μ.2.1 := by
    funext j
    by_cases c : j = i
    · rw [if_pos c, c]
    · rw [if_neg c]
  rw [this]
theorem relM_setW {w : Wd} {μ : Mo} {i : Nat} {v : Int32} {row row2 : Nat → Int32} (hn : wn w ≤ 10) (h : relM w μ row) (hi : i < wn w) (hv : fw (wf w) v) (hr : ∀ j, j < 33 → row2 j = if j = 10 + i then v else row j) : relM w (setW μ i v) row2 := by
  obtain ⟨⟨h1, h2, h3, h4⟩, v1, v2, v3, v4⟩ := h
  refine ⟨⟨fun k hk => ?_, ?_, ?_, ?_⟩, fun k hk => ⟨(v1 k hk).1, ?_⟩, v2, v3, v4⟩
  · obtain ⟨c1, c2, c3⟩ := h1 k hk
    rw [hr k (by omega), hr (10 + k) (by omega), hr (20 + k) (by omega), if_neg (show ¬ k = 10 + i by omega), if_neg (show ¬ 20 + k = 10 + i by omega)]
    refine ⟨c1, ?_, c3⟩
    show (if k = i then v else μ.2.1 k) = _
    by_cases c : k = i
    · rw [if_pos c, if_pos (by omega)]
    · rw [if_neg c, if_neg (by omega)]; exact c2
  · rw [hr 30 (by omega), if_neg (by omega)]; exact h2
  · rw [hr 31 (by omega), if_neg (by omega)]; exact h3
  · rw [hr 32 (by omega), if_neg (by omega)]; exact h4
  · show fw _ (if k = i then v else μ.2.1 k)
    by_cases c : k = i
    · rw [if_pos c]; exact hv
    · rw [if_neg c]; exact (v1 k hk).2
theorem moE_setW {I I2 : sw_I} {a i : Nat} {v : Int32} {μ : Mo} (h : moE I a μ) (e : I2 (a + 2) = fun j => if j = i then v else I (a + 2) j) (e0 : I2 a = I a) (e1 : I2 (a + 1) = I (a + 1)) (e3 : I2 (a + 3) = I (a + 3)) : moE I2 a (setW μ i v) := by
  unfold moE
  rw [e, e0, e1, e3]
  refine ⟨fun j hj => ⟨(h.1 j hj).1, ?_, (h.1 j hj).2.2⟩, h.2⟩
  show (if j = i then v else I (a + 2) j) = if j = i then v else μ.2.1 j
  rw [(h.1 j hj).2.1]
def dsM (w : Wd) (μ : Mo) (i : Nat) (v : Int32) : Int32 := ab (stM w (setW μ i v) (oI μ) - w.2.2.1 i)
theorem c_dist {I : sw_I} {J : sw_J} {a i : Nat} {w : Wd} {μ : Mo} {v : Int32} (ha : a ∈ momL) (hi : i < 10) {Q : Int32 → sw_I → sw_J → Prop} (hW : isW I w) (hE : moE I a μ) (h : ∀ I2, eqx nsC I I2 → Q (dsM w μ i v) I2 J) : wp_X9_distanceBy a (nI i) v I J Q := by
  obtain ⟨hna, hba⟩ := mom_ap a ha
  have dd : a + 2 ∉ [3, 4, 5, 142, 143, 6, 7, 150, 140] := by
    have : ∀ a, a ∈ momL → a + 2 ∉ [3, 4, 5, 142, 143, 6, 7, 150, 140] := by decide
    exact this a ha
  unfold wp_X9_distanceBy
  rw [nI_clamp (by omega)]
  have vp : vp_in (nI i) 10 := vp0 hi (by decide)
  refine ⟨vp, fun y hy => ⟨vp, fun I5 e5 => ?_⟩⟩
  have f5 : ∀ c, c ≠ a + 2 → I5 c = I c := fun c hc => by rw [e5, sw_up_row _ _ _ hc]
  have g5 : I5 (a + 2) = fun j => if j = i then v else I (a + 2) j := by rw [e5, sw_up_rowf]
  have hW5 : isW I5 w := isW_of (C := [a + 2]) (F := []) ⟨fun c hc _ => f5 c (by simpa using hc), fun k _ => by rw [f5 _ (fun q => dd (by rw [← q]; decide))]⟩ (fun c hc q => dd (by rw [← List.mem_singleton.mp q]; clear q; revert c; decide)) (by decide) hW
  have hE5 : moE I5 a (setW μ i v) := moE_setW hE g5 (f5 _ (by omega)) (f5 _ (by omega)) (f5 _ (by omega))
  have ei : I5 a 3 = oI μ := hE5.2.1
  rw [ei]
  refine c_stopM ha hW5 hE5 (fun I8 x8 => ⟨vp, fun I11 e11 => ⟨vp, ?_⟩⟩)
  have f11 : ∀ c, c ≠ a + 2 → I11 c = I8 c := fun c hc => by rw [e11, sw_up_row _ _ _ hc]
  have eh : I11 4 i = w.2.2.1 i := by
    rw [f11 _ (fun q => dd (by rw [← q]; decide)), x8 _ (by decide), f5 _ (fun q => dd (by rw [← q]; decide)), hW.2.2.2.1]
  rw [eh]
  refine h I11 (fun c hc => ?_)
  by_cases e : c = a + 2
  · rw [e, e11, sw_up_rowf, x8 _ hna.2.2.1, g5]
    funext j
    by_cases cj : j = i
    · simp only [if_pos cj]; rw [hy, cj]
    · simp only [if_neg cj]
  · rw [f11 c e, x8 c hc, f5 c e]
def bwM (w : Wd) (μ : Mo) (i : Nat) : Nat → Nat → Int32 × Int32 → Int32 × Int32
  | 0, _, o => o
  | d + 1, k, o => bwM w μ i d (k + 1) (if dsM w μ i (nI k - 1) < o.2 then (nI k - 1, dsM w μ i (nI k - 1)) else o)
def bwR (w : Wd) (μ : Mo) (i : Nat) : Int32 × Int32 := bwM w μ i (wf w + 1) 0 (μ.2.1 i, dsM w μ i (μ.2.1 i))
theorem bwM_inv (w : Wd) (μ : Mo) (i : Nat) : ∀ d k o, o.2 = dsM w μ i o.1 → (bwM w μ i d k o).2 = dsM w μ i (bwM w μ i d k o).1
  | 0, _, _, h => h
  | d + 1, k, o, h => by
    unfold bwM
    refine bwM_inv w μ i d (k + 1) _ ?_
    split
    · rfl
    · exact h
theorem bwR_inv (w : Wd) (μ : Mo) (i : Nat) : (bwR w μ i).2 = dsM w μ i (bwR w μ i).1 := bwM_inv w μ i _ _ _ rfl
theorem wk_fw {fl k : Nat} (hk : k ≤ fl) : fw fl (nI k - 1) := by
  cases k with
  | zero => exact Or.inl (by decide)
  | succ j => exact Or.inr ⟨j, by omega, nI_pred j⟩
theorem bwM_fw (w : Wd) (μ : Mo) (i : Nat) : ∀ d k o, k + d ≤ wf w + 1 → fw (wf w) o.1 → fw (wf w) (bwM w μ i d k o).1
  | 0, _, _, _, h => h
  | d + 1, k, o, hk, h => by
    unfold bwM
    refine bwM_fw w μ i d (k + 1) _ (by omega) ?_
    split
    · exact wk_fw (by omega)
    · exact h
theorem bwR_fw (w : Wd) (μ : Mo) (i : Nat) (h : fw (wf w) (μ.2.1 i)) : fw (wf w) (bwR w μ i).1 := bwM_fw w μ i _ _ _ (by omega) h
theorem wk_lt {k fl : Nat} (hk : k < 2 ^ 31) (hfl : fl < 2 ^ 31) : (nI k - 1 < nI fl) ↔ k < fl + 1 := by
  rw [Int32.lt_iff_toInt_lt, nIp_toInt hk, nI_toInt hfl]; omega
theorem wk_1 (k : Nat) : nI k - 1 + 1 = nI (k + 1) - 1 := by rw [nI_pred, Int32.sub_add_cancel]
theorem s_best_loop {a i : Nat} {w : Wd} {μ : Mo} (ha : a ∈ momL) (hi : i < 10) {I : sw_I} {J : sw_J} {Q : Int32 → sw_I → sw_J → Prop} (hW : isW I w) (hE : moE I a μ) :
    ∀ (d k : Nat) (o : Int32 × Int32) (I2 : sw_I), k + d = wf w + 1 → eqx nsC I I2 → (∀ I3, eqx nsC I I3 → Q (bwM w μ i d k o).1 I3 J) → wl_X9_bestWish_19 a Q (d + 1) (nI i) o.1 o.2 (nI k - 1) I2 J := by
  obtain ⟨hna, hba⟩ := mom_ap a ha
  have h9 := hW.1.2.1
  have ff : ∀ I2, eqx nsC I I2 → I2 3 0 = nI (wf w) := fun I2 e => by rw [e.at (by decide)]; exact hW.1.2.2.2.1
  intro d
  induction d with
  | zero =>
    intro k o I2 hk h1 h
    show wb_X9_bestWish_19 _ _ Q _ _ _ _ I2 J
    unfold wb_X9_bestWish_19
    rw [sw_if_f (by rw [ff I2 h1, wk_lt (by omega) (by omega)]; omega)]
    exact h I2 h1
  | succ d ih =>
    intro k o I2 hk h1 h
    show wb_X9_bestWish_19 _ _ Q _ _ _ _ I2 J
    unfold wb_X9_bestWish_19
    rw [sw_if_t (by rw [ff I2 h1, wk_lt (by omega) (by omega)]; omega)]
    have E2 : moE I2 a μ := by
      unfold moE
      rw [h1 _ hna.1, h1 _ hna.2.1, h1 _ hna.2.2.1, h1 _ hna.2.2.2]; exact hE
    refine c_dist ha hi (isW_of (h1.eqm (C := nsC) (F := []) (fun _ q => q) (by decide)) (by decide) (by decide) hW) E2 (fun I3 x3 => ?_)
    unfold bwM at h
    by_cases c1 : dsM w μ i (nI k - 1) < o.2
    · rw [sw_if_t c1]
      rw [if_pos c1] at h
      intro y hy
      rw [hy, wk_1]
      exact ih (k + 1) (nI k - 1, dsM w μ i (nI k - 1)) I3 (by omega) (h1.tr x3) h
    · rw [sw_if_f c1]
      rw [if_neg c1] at h
      intro y hy
      rw [hy, wk_1]
      exact ih (k + 1) o I3 (by omega) (h1.tr x3) h
theorem c_best {a i : Nat} {w : Wd} {μ : Mo} (ha : a ∈ momL) (hi : i < 10) {I : sw_I} {J : sw_J} {Q : Int32 → sw_I → sw_J → Prop} (hW : isW I w) (hE : moE I a μ) (h : ∀ I3, eqx nsC I I3 → Q (bwR w μ i).1 I3 J) : wp_X9_bestWish a (nI i) I J Q := by
  unfold wp_X9_bestWish
  rw [nI_clamp (by omega)]
  refine ⟨vp0 hi (by decide), fun y hy => ?_⟩
  rw [(hE.1 i hi).2.1] at hy
  rw [hy]
  refine c_dist ha hi hW hE (fun I3 x3 => ⟨wf w + 2, ?_⟩)
  have := s_best_loop (w := w) (Q := Q) (J := J) ha hi hW hE (wf w + 1) 0 (μ.2.1 i, dsM w μ i (μ.2.1 i)) I3 (by omega) x3 h
  exact this
theorem m_best_loop {b i : Nat} {w : Wd} {μ : Mo} (hb : b ∉ mnsC) (hbm : b ≠ 140) (hbh : b ∉ hsC ++ lC) (hi : i < wn w) {I : sw_I} {J : sw_J} {Q : Int32 → sw_I → sw_J → Prop} (hW : isW I w) (hR : relM w μ (I b)) :
    ∀ (d k : Nat) (o : Int32 × Int32) (u : Int32) (I2 : sw_I), k + d = wf w + 1 → eqm (b :: mnsC) (42 :: maF) I I2 → (I2 b = fun j => if j = 10 + i then u else I b j) → I2 140 42 = o.2 → (∀ I3, eqm mnsC (42 :: maF) I I3 → I3 140 42 = (bwM w μ i d k o).2 → Q (bwM w μ i d k o).1 I3 J) → wl_X10_bestWish_36 b 33 Q (d + 1) (nI i) (μ.2.1 i) o.1 (nI k - 1) I2 J := by
  have h9 := hW.1.2.1
  have hn := hW.1.2.2.1
  have hdis : ∀ c, c ∈ hsC ++ lC → c ∉ b :: mnsC := fun c hc q => by
    rcases List.mem_cons.mp q with q | q
    · exact hbh (by rw [← q]; exact hc)
    · have : ∀ c, c ∈ hsC ++ lC → c ∉ mnsC := by decide
      exact this c hc q
  have ff : ∀ I2, eqm (b :: mnsC) (42 :: maF) I I2 → I2 140 3 = nI (wf w) := fun I2 e => by rw [e.2 _ (by decide)]; exact hW.1.2.2.2.2.1
  have e10 : (10 : Int32) + nI i = nI (10 + i) := nI_add 10 i
  intro d
  induction d with
  | zero =>
    intro k o u I2 hk h1 h2 h3 h
    show wb_X10_bestWish_36 _ _ _ Q _ _ _ _ I2 J
    unfold wb_X10_bestWish_36
    rw [sw_if_f (by rw [ff I2 h1, wk_lt (by omega) (by omega)]; omega), e10, nI_clamp (by omega)]
    refine ⟨vp0 (by omega) (by decide), fun I3 e3 => ?_⟩
    refine h I3 ⟨fun c hc hcm => ?_, fun k hk => ?_⟩ ?_
    · by_cases ce : c = b
      · rw [ce, e3, sw_up_rowf, h2]
        funext j
        by_cases cj : j = 10 + i
        · simp only [if_pos cj]; rw [cj]; exact (hR.1.1 i hi).2.1
        · simp only [if_neg cj]
      · rw [e3, sw_up_row _ _ _ ce]
        exact h1.1 c (fun q => by rcases List.mem_cons.mp q with q | q; exact ce q; exact hc q) hcm
    · rw [e3, sw_up_cell _ _ _ _ (fun q => hbm q.symm)]; exact h1.2 k hk
    · rw [e3, sw_up_cell _ _ _ _ (fun q => hbm q.symm)]; exact h3
  | succ d ih =>
    intro k o u I2 hk h1 h2 h3 h
    show wb_X10_bestWish_36 _ _ _ Q _ _ _ _ I2 J
    unfold wb_X10_bestWish_36
    rw [sw_if_t (by rw [ff I2 h1, wk_lt (by omega) (by omega)]; omega), e10, nI_clamp (by omega), nI_clamp (by omega)]
    refine ⟨vp0 (by omega) (by decide), fun I3 e3 => ⟨by unfold vp_in; decide, ?_⟩⟩
    have g3 : I3 b = fun j => if j = 10 + i then nI k - 1 else I b j := by
      rw [e3, sw_up_rowf, h2]
      funext j
      by_cases cj : j = 10 + i
      · simp only [if_pos cj]
      · simp only [if_neg cj]
    have q3 : eqm (b :: mnsC) (42 :: maF) I I3 := by rw [e3]; exact h1.upC (by simp) hbm _ _
    have R3 : relM w (setW μ i (nI k - 1)) (I3 b) := relM_setW hn hR hi (wk_fw (by omega)) (fun j _ => by rw [g3])
    have e30 : I3 b (30 : Int32).toNatClampNeg = oI μ := R3.1.2.1.symm
    rw [e30]
    refine m_stopM hb hbm (isW_of q3 hdis (by decide) hW) R3 (fun I4 x4 => ⟨vp0 (by omega) (by decide), fun y hy => ?_⟩)
    have q4 : eqm (b :: mnsC) (42 :: maF) I I4 := q3.tr (x4.mono (fun c q => List.mem_cons_of_mem _ q) (by decide))
    have f4 : I4 140 42 = o.2 := by rw [x4.2 _ (by decide), e3, sw_up_cell _ _ _ _ (fun q => hbm q.symm)]; exact h3
    have hh : I4 142 i = w.2.2.1 i := by rw [q4.1 _ (hdis _ (by decide)) (by decide), ← (hW.1.2.2.2.2.2.2.2.2.2.1 i hi).1, hW.2.2.2.1]
    have ey : y = dsM w μ i (nI k - 1) := by rw [hy, hh]; rfl
    have g4 : I4 b = fun j => if j = 10 + i then nI k - 1 else I b j := by rw [x4.1 _ hb hbm, g3]
    rw [f4, ey]
    unfold bwM at h
    have go : ∀ (s0 : Int32) (o2 : Int32 × Int32), s0 = o2.1 → (o2.2 = if dsM w μ i (nI k - 1) < o.2 then dsM w μ i (nI k - 1) else o.2) → (∀ I3, eqm mnsC (42 :: maF) I I3 → I3 140 42 = (bwM w μ i d (k + 1) o2).2 → Q (bwM w μ i d (k + 1) o2).1 I3 J) → wB_X10_bestWish_90 b 33 (wl_X10_bestWish_36 b 33 Q (d + 1)) Q (nI i) (μ.2.1 i) (nI k - 1) (dsM w μ i (nI k - 1)) s0 I4 J := by
      intro s0 o2 a1 a2 g I5 e5 y2 hy2
      rw [f4] at e5
      rw [hy2, wk_1, a1]
      refine ih (k + 1) o2 (nI k - 1) I5 (by omega) (by rw [e5]; exact q4.upF (by decide) _) ?_ ?_ g
      · rw [e5, sw_up_row _ _ _ hbm, g4]
      · rw [e5, sw_up_same, a2]
    by_cases c1 : dsM w μ i (nI k - 1) < o.2
    · rw [sw_if_t c1]
      rw [if_pos c1] at h
      exact go _ (nI k - 1, dsM w μ i (nI k - 1)) rfl (by rw [if_pos c1]) h
    · rw [sw_if_f c1]
      rw [if_neg c1] at h
      exact go _ o rfl (by rw [if_neg c1]) h
theorem m_best {b i : Nat} {w : Wd} {μ : Mo} (hb : b ∉ mnsC) (hbm : b ≠ 140) (hbh : b ∉ hsC ++ lC) (hi : i < wn w) {I : sw_I} {J : sw_J} {Q : Int32 → sw_I → sw_J → Prop} (hW : isW I w) (hR : relM w μ (I b)) (h : ∀ I3, eqm mnsC (42 :: maF) I I3 → I3 140 42 = (bwR w μ i).2 → Q (bwR w μ i).1 I3 J) : wp_X10_bestWish b 33 (nI i) I J Q := by
  have hn := hW.1.2.2.1
  have e10 : (10 : Int32) + nI i = nI (10 + i) := nI_add 10 i
  unfold wp_X10_bestWish
  rw [e10, nI_clamp (by omega), nI_clamp (by omega)]
  refine ⟨vp0 (by omega) (by decide), fun y hy => ⟨by unfold vp_in; decide, ?_⟩⟩
  have ey : y = μ.2.1 i := by rw [hy]; exact (hR.1.1 i hi).2.1.symm
  have e30 : I b (30 : Int32).toNatClampNeg = oI μ := hR.1.2.1.symm
  rw [e30, ey]
  refine m_stopM hb hbm hW hR (fun I6 x6 => ⟨vp0 (by omega) (by decide), fun I9 e9 => ⟨wf w + 2, ?_⟩⟩)
  have hh : I6 142 i = w.2.2.1 i := by rw [x6.1 _ (by decide) (by decide), ← (hW.1.2.2.2.2.2.2.2.2.2.1 i hi).1, hW.2.2.2.1]
  have ed : dsM w μ i (μ.2.1 i) = (if 0 ≤ (stM w μ (oI μ) - w.2.2.1 i) then (stM w μ (oI μ) - w.2.2.1 i) else 0 - (stM w μ (oI μ) - w.2.2.1 i)) := by
    unfold dsM; rw [setW_id]; rfl
  rw [hh, ← ed] at e9
  have q9 : eqm (b :: mnsC) (42 :: maF) I I9 := by rw [e9]; exact (x6.mono (fun c q => List.mem_cons_of_mem _ q) (by decide)).upF (by decide) _
  refine m_best_loop (w := w) (o := (μ.2.1 i, dsM w μ i (μ.2.1 i))) hb hbm hbh hi hW hR (wf w + 1) 0 (μ.2.1 i) I9 (by omega) q9 ?_ ?_ h
  · rw [e9, sw_up_row _ _ _ hbm, x6.1 _ hb hbm]
    funext j
    by_cases cj : j = 10 + i
    · rw [if_pos cj, cj]; exact (hR.1.1 i hi).2.1.symm
    · rw [if_neg cj]
  · rw [e9, sw_up_same]
theorem p_advise {c : Nat} {x1 : Int32} {I : sw_I} {J : sw_J} {Q : Int32 → Int32 → sw_I → sw_J → Prop} (h : wW c I J) (hQ : ∀ v I2 J2, wW c I2 J2 → I2 140 0 = 0 → Q v v I2 J2) :
    wp_X9_advise x1 I J (fun r I1 J1 => wp_X10_advise x1 I1 J1 (fun r2 I2 J2 => Q r r2 I2 J2)) := by
  obtain ⟨n, fl, m, q, p, r, t, s, z, hw⟩ := h
  obtain ⟨h0, h1, h2, h3, h4, h5, h6, h7, h8⟩ := id hw
  have hn := h1.2.2.1
  have hr := h1.2.2.2.2.2.2.1
  have hW := isW_O h1 h2
  generalize hμ : moC I 13 = μ
  have hE : moE I 13 μ := by rw [← hμ]; exact moE_C _ _
  have hR : relM (wdO I m n fl) μ (I 144) := by rw [← hμ]; exact h3
  have v4 := h3.2.2.2.2
  have no : (∀ k, k < n → x1 = nI k → inB (I 13 3) k = false) → wp_X10_advise x1 I J (fun r2 I2 J2 => Q (-2) r2 I2 J2) := by
    intro hno I2 e2
    have e : eqm [] [0] I I2 := by rw [e2]; exact eqm.rf.upF (by decide) _
    have fin : Q (-2) (-2) I2 J := hQ _ I2 J (th_of hw e2).1 (th_of hw e2).2
    refine s_X10_canLeave hn (by rw [e.2 _ (by decide)]; exact hr) (fun _ => by rw [sw_if_t rfl]; exact fin) (fun k hk ek => ?_)
    rw [e.1 _ (by decide) (by decide), ← h3.1.2.1, hno k hk ek, sw_if_t (by simp)]; exact fin
  unfold wp_X9_advise
  refine s_X3_isIn_any (fun co => ?_) (fun k hk ek => ?_)
  · rw [sw_if_t rfl]
    exact no (fun k hk ek => absurd co (fun w => ix_out (n := 10) (by decide) (by omega) ek w))
  · cases hb : inB (I 13 3) k
    · rw [sw_if_t (by simp)]
      refine no (fun k2 hk2 ek2 => ?_)
      have := (nI_eq (by omega) (by omega)).mp (ek2.symm.trans ek)
      rw [this]; exact hb
    · rw [sw_if_f (by simp)]
      have hkn : k < n := (v4 k (by omega) hb).1
      rw [ek]
      refine s_X3_copy (by decide) (fun I1 k1 => ?_)
      have q1 : eqx trC I I1 := fun c hc => k1.1 c (by simp at hc; omega)
      have E1 := moE_copy k1 hE
      have hW1 := isW_of (q1.eqm (C := trC) (F := []) (fun _ q => q) (by decide)) (by decide) (by decide) hW
      refine c_best (by decide) hk hW1 E1 (fun I2 x2 => t_clear (fun I3 x3 t3 => ?_))
      have q3 : eqx trC I I3 := (q1.tr (x2.mono (by decide))).tr (x3.mono (by decide))
      have E3 : moE I3 17 μ := moE_cong (fun c c1 c2 => by rw [x3 c (by simp; omega), x2 c (by simp; omega)]) E1
      refine c_dist (by decide) hk (isW_of (q3.eqm (C := trC) (F := []) (fun _ q => q) (by decide)) (by decide) (by decide) hW) E3 (fun I4 x4 => t_tell (by decide) (tlC_of t3 (x4 _ (by decide)) rfl) (fun I5 J5 x5 j5 t5 => ?_))
      have s5 : eqm (0 :: scrC) (1 :: scrF) I I5 := ((q3.tr (x4.mono (by decide))).tr (x5.mono (by decide))).eqm (by decide) (by decide)
      intro I6 e6
      have s6 : eqm (0 :: scrC) (1 :: scrF) I I6 := by rw [e6]; exact s5.upF (by decide) _
      have n6 : I6 144 = I 144 := s6.1 _ (by decide) (by decide)
      have e30 : I6 144 30 = I 13 3 := by rw [n6]; exact h3.1.2.1.symm
      refine s_X10_canLeave hn (by rw [s6.2 _ (by decide)]; exact hr) (fun co => absurd co (fun w => ix_out (by omega) hkn rfl w)) (fun k2 hk2 ek2 => ?_)
      have ekk := (nI_eq (by omega) (by omega)).mp ek2
      rw [e30, ← ekk, hb, sw_if_f (by simp)]
      refine m_best (w := wdO I m n fl) (by decide) (by decide) (by decide) hkn (isW_of s6 (by decide) (by decide) hW) (by rw [n6]; exact hR) (fun I7 x7 f7 => ?_)
      intro I8 e8
      have f8 : I8 140 42 = dsM (wdO I m n fl) μ k (bwR (wdO I m n fl) μ k).1 := by rw [e8, sw_up_slot _ _ _ _ (by decide), f7, bwR_inv]
      rw [f8]
      have s8 : eqm (0 :: scrC) (1 :: scrF) I I8 := by rw [e8]; exact (s6.tr (x7.mono (by decide) (by decide))).upF (by decide) _
      refine t_enters (by decide) (tlM_0 e8) (fun I9 J9 x9 j9 t9 => ?_)
      refine hQ _ I9 J9 (told_fin hw (s8.tr (x9.mono (by decide) (by decide))) (by simp) (tlC_of t5 ?_ (j9 _ (by decide))) t9) ?_
      · rw [x9.1 _ (by decide) (by decide), e8, sw_up_row _ _ _ (by decide), x7.1 _ (by decide) (by decide), e6, sw_up_row _ _ _ (by decide)]
      · rw [x9.2 _ (by decide), e8, sw_up_slot _ _ _ _ (by decide), x7.2 _ (by decide), e6, sw_up_same]
