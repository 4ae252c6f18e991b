/-! what was seen: believed, fits -/
theorem bs_t {p : Nat → Bool} {k : Nat} (h : p k = true) : bs p k ||| ((1 : Int32) <<< (nI k &&& 31)) = bs p (k + 1) := by show _ = bs p k ||| (if p k then _ else _); rw [if_pos h]
theorem bs_f {p : Nat → Bool} {k : Nat} (h : p k = false) : bs p k ||| 0 = bs p (k + 1) := by show _ = bs p k ||| (if p k then _ else _); rw [if_neg (by rw [h]; decide)]
abbrev Sd : Type := (Nat → Int32) × (Nat → Int32) × (Nat → Int32)
def alM (wi : Nat → Int32) (l : Int32) : Mo := (fun _ => -1, wi, fun _ => 0, 0, l, 0)
def soV (w : Wd) (wi : Nat → Int32) (l s : Int32) : Int32 := stM w (alM wi l) s
def soK (w : Wd) (D : Sd) (wi : Nat → Int32) (k : Nat) : Bool := decide (soV w wi (D.1 k) (D.2.1 k) = D.2.2 k)
def asA (w : Wd) (D : Sd) (wi : Nat → Int32) : Nat → Bool
  | 0 => true
  | k + 1 => asA w D wi k && soK w D wi k
theorem asA_cong {w : Wd} {D : Sd} {wi wi2 : Nat → Int32} (h : ∀ i, i < wn w → wi i = wi2 i) : ∀ s, asA w D wi s = asA w D wi2 s
  | 0 => rfl
  | k + 1 => by
    have e : soV w wi (D.1 k) (D.2.1 k) = soV w wi2 (D.1 k) (D.2.1 k) := nsF_cong (pl := (alM wi (D.1 k)).1) (wi := wi) (pl2 := (alM wi2 (D.1 k)).1) (wi2 := wi2) (fun i hi => ⟨rfl, h i hi⟩)
    unfold asA soK
    rw [asA_cong h k, e]
theorem asA_false {w : Wd} {D : Sd} {wi : Nat → Int32} {k : Nat} (h : asA w D wi k = false) : ∀ s, k ≤ s → asA w D wi s = false
  | 0, hs => by have : k = 0 := by omega
                rw [this] at h; exact h
  | s + 1, hs => by
    by_cases c : k = s + 1
    · rw [← c]; exact h
    · unfold asA; rw [asA_false h s (by omega)]; rfl
def alO (I : sw_I) (wi : Nat → Int32) : Prop := (∀ i, i < 10 → I (113 + 1) i = -1) ∧ (∀ i, i < 10 → I (113 + 2) i = wi i) ∧ I 113 5 = 0
def sdO (I : sw_I) (D : Sd) (s : Nat) : Prop := I 109 4 = nI s ∧ I 110 = D.1 ∧ I 111 = D.2.1 ∧ I 112 = D.2.2
theorem c_alone {I : sw_I} {J : sw_J} {w : Wd} {wi : Nat → Int32} {s l : Int32} {Q : Int32 → sw_I → sw_J → Prop} (hW : isW I w) (hA : alO I wi) (hl : I 113 4 = l) (h : ∀ I2, eqx nsC I I2 → Q (soV w wi l s) I2 J) : wp_X1_nextStop 113 s I J Q := by
  have hn := hW.1.2.2.1
  refine c_stopM (by decide) hW (moE_C I 113) (fun I2 x2 => ?_)
  have e : stM w (moC I 113) s = soV w wi l s := by
    unfold soV stM
    have e1 : oL (moC I 113) = oL (alM wi l) := hl
    have e2 : oR (moC I 113) = oR (alM wi l) := hA.2.2
    rw [e1, e2]
    exact nsF_cong (fun i hi => ⟨hA.1 i (by omega), hA.2.1 i (by omega)⟩)
  rw [e]; exact h I2 x2
abbrev alC : List Nat := 113 :: nsC
theorem alO_kept {I I2 : sw_I} {wi : Nat → Int32} (h : alO I wi) (e : eqx alC I I2) (e2 : I2 113 5 = 0) : alO I2 wi := by
  refine ⟨fun i hi => ?_, fun i hi => ?_, e2⟩
  · rw [e.at (by decide)]; exact h.1 i hi
  · rw [e.at (by decide)]; exact h.2.1 i hi
theorem sdO_kept {I I2 : sw_I} {D : Sd} {s : Nat} {S : List Nat} (h : sdO I D s) (e : eqx S I I2) (hS : ∀ c, c ∈ [109, 110, 111, 112] → c ∉ S) : sdO I2 D s := by
  unfold sdO
  rw [e _ (hS 109 (by decide)), e _ (hS 110 (by decide)), e _ (hS 111 (by decide)), e _ (hS 112 (by decide))]
  exact h
theorem s_allSo_loop {w : Wd} {D : Sd} {wi : Nat → Int32} {s : Nat} (hs : s ≤ 8) {I : sw_I} {J : sw_J} {Q : Int32 → sw_I → sw_J → Prop} (hW : isW I w) (hA : alO I wi) (hD : sdO I D s) (h : ∀ I2, eqx alC I I2 → I2 113 5 = 0 → Q (bI (asA w D wi s)) I2 J) :
    ∀ (d k : Nat) (I2 : sw_I), k + d = s → asA w D wi k = true → eqx alC I I2 → I2 113 5 = 0 → wl_X7_allSo_2 Q (d + 1) (nI k) I2 J := by
  intro d
  induction d with
  | zero =>
    intro k I2 hk ha h1 h2
    obtain rfl : k = s := by omega
    have hD2 := sdO_kept hD h1 (by decide)
    show wb_X7_allSo_2 _ Q _ I2 J
    unfold wb_X7_allSo_2
    rw [sw_if_f (by rw [hD2.1]; exact nI_nlt (Nat.le_refl _) (by omega))]
    have := h I2 h1 h2
    rw [ha] at this; exact this
  | succ d ih =>
    intro k I2 hk ha h1 h2
    have hD2 := sdO_kept hD h1 (by decide)
    show wb_X7_allSo_2 _ Q _ I2 J
    unfold wb_X7_allSo_2
    rw [sw_if_t (by rw [hD2.1]; exact nI_lt (by omega) (by omega)), nI_clamp (by omega)]
    have vp : vp_in (nI k) 8 := vp0 (by omega) (by decide)
    refine ⟨vp, fun I3 e3 => ⟨vp, ?_⟩⟩
    have q3 : eqx alC I I3 := by rw [e3]; exact h1.up (by decide) _ _
    have r3 : I3 113 5 = 0 := by rw [e3, sw_up_slot _ _ _ _ (by decide)]; exact h2
    have hD3 := sdO_kept hD q3 (by decide)
    refine c_alone (l := D.1 k) (isW_of (q3.eqm (C := alC) (F := []) (fun _ q => q) (by decide)) (by decide) (by decide) hW) (alO_kept hA q3 r3) (by rw [e3, sw_up_same, hD2.2.1]) (fun I4 x4 => ⟨vp, ?_⟩)
    have q4 : eqx alC I I4 := q3.tr (x4.mono (by decide))
    have r4 : I4 113 5 = 0 := by rw [x4.at (by decide)]; exact r3
    have hD4 := sdO_kept hD q4 (by decide)
    rw [hD3.2.2.1, hD4.2.2.2]
    refine ⟨fun c1 => ?_, fun c1 => ?_⟩
    · intro y hy
      rw [hy, nI_1]
      refine ih (k + 1) I4 (by omega) ?_ q4 r4
      unfold asA soK; rw [ha, decide_eq_true c1]; rfl
    · have hf : asA w D wi (k + 1) = false := by unfold asA soK; rw [decide_eq_false c1, Bool.and_false]
      have := h I4 q4 r4
      rw [asA_false hf s (by omega)] at this
      exact this
theorem c_allSo {w : Wd} {D : Sd} {wi : Nat → Int32} {s : Nat} (hs : s ≤ 8) {I : sw_I} {J : sw_J} {Q : Int32 → sw_I → sw_J → Prop} (hW : isW I w) (hA : alO I wi) (hD : sdO I D s) (h : ∀ I2, eqx alC I I2 → I2 113 5 = 0 → Q (bI (asA w D wi s)) I2 J) : wp_X7_allSo I J Q :=
  ⟨s + 1, s_allSo_loop hs hW hA hD h s 0 I (Nat.zero_add _) rfl eqx.rf hA.2.2⟩
theorem s_notSo_loop {w : Wd} {D : Sd} {wi : Nat → Int32} {s : Nat} (hs : s ≤ 8) {I : sw_I} {J : sw_J} {Q : Int32 → sw_I → sw_J → Prop} (hW : isW I w) (hA : alO I wi) (hD : sdO I D s) (h : ∀ I2, eqx alC I I2 → I2 113 5 = 0 → Q (bs (fun k => !soK w D wi k) s) I2 J) :
    ∀ (d k : Nat) (I2 : sw_I), k + d = s → eqx alC I I2 → I2 113 5 = 0 → wl_X7_notSo_4 Q (d + 1) (bs (fun k => !soK w D wi k) k) (nI k) I2 J := by
  intro d
  induction d with
  | zero =>
    intro k I2 hk h1 h2
    obtain rfl : k = s := by omega
    have hD2 := sdO_kept hD h1 (by decide)
    show wb_X7_notSo_4 _ Q _ _ I2 J
    unfold wb_X7_notSo_4
    rw [sw_if_f (by rw [hD2.1]; exact nI_nlt (Nat.le_refl _) (by omega))]
    exact h I2 h1 h2
  | succ d ih =>
    intro k I2 hk h1 h2
    have hD2 := sdO_kept hD h1 (by decide)
    show wb_X7_notSo_4 _ Q _ _ I2 J
    unfold wb_X7_notSo_4
    rw [sw_if_t (by rw [hD2.1]; exact nI_lt (by omega) (by omega)), nI_clamp (by omega)]
    have vp : vp_in (nI k) 8 := vp0 (by omega) (by decide)
    refine ⟨vp, fun I3 e3 => ⟨vp, ?_⟩⟩
    have q3 : eqx alC I I3 := by rw [e3]; exact h1.up (by decide) _ _
    have r3 : I3 113 5 = 0 := by rw [e3, sw_up_slot _ _ _ _ (by decide)]; exact h2
    have hD3 := sdO_kept hD q3 (by decide)
    refine c_alone (l := D.1 k) (isW_of (q3.eqm (C := alC) (F := []) (fun _ q => q) (by decide)) (by decide) (by decide) hW) (alO_kept hA q3 r3) (by rw [e3, sw_up_same, hD2.2.1]) (fun I4 x4 => ⟨vp, ?_⟩)
    have q4 : eqx alC I I4 := q3.tr (x4.mono (by decide))
    have r4 : I4 113 5 = 0 := by rw [x4.at (by decide)]; exact r3
    have hD4 := sdO_kept hD q4 (by decide)
    rw [hD3.2.2.1, hD4.2.2.2]
    have go : ∀ t, bs (fun k => !soK w D wi k) k ||| t = bs (fun k => !soK w D wi k) (k + 1) → wB_X7_notSo_56 (wl_X7_notSo_4 Q (d + 1)) Q (nI k) (bs (fun k => !soK w D wi k) k) t I4 J := by
      intro t ht y hy y2 hy2
      rw [hy2, nI_1, hy, ht]
      exact ih (k + 1) I4 (by omega) q4 r4
    refine ⟨fun c1 => go _ ?_, fun c1 => go _ ?_⟩
    · exact bs_f (by unfold soK; rw [decide_eq_true c1]; rfl)
    · exact bs_t (by unfold soK; rw [decide_eq_false c1]; rfl)
def mdO (I : sw_I) (D : Sd) (s : Nat) : Prop := I 140 54 = nI s ∧ ∀ i, i < s → I 167 i = D.1 i ∧ I 168 i = D.2.1 i ∧ I 169 i = D.2.2 i
def nxO (I : sw_I) (w : Wd) (wi : Nat → Int32) : Prop := ∀ i, i < wn w → I 145 (10 + i) = wi i ∧ fw (wf w) (wi i)
def nxK (I I2 : sw_I) : Prop := ∀ j, 10 ≤ j → j < 30 → I2 145 j = I 145 j
abbrev nxC : List Nat := 145 :: mnsC
theorem mdO_kept {I I2 : sw_I} {D : Sd} {s : Nat} {C F : List Nat} (h : mdO I D s) (e : eqm C F I I2) (hC : ∀ c, c ∈ [167, 168, 169] → c ∉ C) (hF : 54 ∉ F) : mdO I2 D s := by
  unfold mdO
  rw [e.2 _ hF, e.1 _ (hC 167 (by decide)) (by decide), e.1 _ (hC 168 (by decide)) (by decide), e.1 _ (hC 169 (by decide)) (by decide)]
  exact h
theorem m_isSo_loop {w : Wd} {k0 : Nat} {I : sw_I} {J : sw_J} {Q : Int32 → sw_I → sw_J → Prop} (hW : isW I w) {P : sw_I → Prop} (hP : ∀ I2, P I2 → wb_X10_isSo_2 (fun _ _ _ _ => True) Q (nI k0) (nI (wn w)) I2 J) :
    ∀ (d k : Nat) (I2 : sw_I), k + d = wn w → eqx [145] I I2 → nxK I I2 → (∀ i, i < k → I2 145 i = 9) → (∀ I3, eqx [145] I I3 → nxK I I3 → (∀ i, i < wn w → I3 145 i = 9) → P I3) → wl_X10_isSo_2 Q (d + 1) (nI k0) (nI k) I2 J := by
  have hn := hW.1.2.2.1
  have ff : ∀ I2, eqx [145] I I2 → I2 140 4 = nI (wn w) := fun I2 e => by rw [e.at (by decide)]; exact hW.1.2.2.2.2.2.2.1
  intro d
  induction d with
  | zero =>
    intro k I2 hk h1 h2 h3 h
    obtain rfl : k = wn w := by omega
    have := hP I2 (h I2 h1 h2 h3)
    show wb_X10_isSo_2 _ Q _ _ I2 J
    unfold wb_X10_isSo_2 at this ⊢
    have c : ¬ nI (wn w) < I2 140 4 := by rw [ff I2 h1]; exact nI_nlt (Nat.le_refl _) (by omega)
    rw [sw_if_f c] at this ⊢
    exact this
  | succ d ih =>
    intro k I2 hk h1 h2 h3 h
    show wb_X10_isSo_2 _ Q _ _ I2 J
    unfold wb_X10_isSo_2
    rw [sw_if_t (by rw [ff I2 h1]; exact nI_lt (by omega) (by omega)), nI_clamp (by omega)]
    refine ⟨vp0 (by omega) (by decide), fun I3 e3 y hy => ?_⟩
    rw [hy, nI_1]
    refine ih (k + 1) I3 (by omega) (by rw [e3]; exact h1.up (by decide) _ _) (fun j hj1 hj2 => ?_) (fun i hi => ?_) h
    · rw [e3, sw_up_slot _ _ _ _ (by omega)]; exact h2 j hj1 hj2
    · rw [e3]
      by_cases c : i = k
      · rw [c, sw_up_same]
      · rw [sw_up_slot _ _ _ _ c]; exact h3 i (by omega)
theorem so_ref {w : Wd} {row wi : Nat → Int32} {l s : Int32} (h9 : wf w ≤ 9) (h1 : ∀ i, i < wn w → row i = 9 ∧ row (10 + i) = wi i) (h31 : row 31 = l) (h32 : row 32 = 0) : (stF (row 31) (woF w.1 w.2.1 row (fun i => row (10 + i)) (wn w) s (row 31) (row 32)) (wf w)).1 = soV w wi l s := by
  have hrel : relF (fun _ => -1) wi (fun i => row (20 + i)) (row 30) l 0 row (wn w) (wf w) := ⟨fun i hi => ⟨Or.inl ⟨rfl, (h1 i hi).1⟩, (h1 i hi).2.symm, rfl⟩, rfl, h31.symm, h32.symm⟩
  have := nsF_rel (cd := w.1) (m := w.2.1) (dog := w.2.2.2.2.2) (s := s) hrel h9
  unfold soV stM
  show _ = nsF w.1 w.2.1 (fun _ => -1) wi (wn w) (wf w) w.2.2.2.2.2 s l 0
  rw [this]
  unfold nsF
  rw [if_neg (fun q => by have := q.1; rw [h32] at this; exact absurd this (by decide))]
theorem m_isSo {w : Wd} {D : Sd} {wi : Nat → Int32} {s k0 : Nat} (hs : s ≤ 8) (hk0 : k0 < s) {I : sw_I} {J : sw_J} {Q : Int32 → sw_I → sw_J → Prop} (hW : isW I w) (hD : mdO I D s) (hX : nxO I w wi) (hf : ∃ j, j < wf w ∧ D.1 k0 = nI j) (h : ∀ I2, eqm nxC maF I I2 → nxK I I2 → Q (bI (soK w D wi k0)) I2 J) : wp_X10_isSo (nI k0) I J Q := by
  have hn := hW.1.2.2.1
  have h9 := hW.1.2.1
  refine ⟨wn w + 1, m_isSo_loop (w := w) (P := fun I3 => eqx [145] I I3 ∧ nxK I I3 ∧ ∀ i, i < wn w → I3 145 i = 9) hW (fun I2 ⟨x2, n2, z2⟩ => ?_) (wn w) 0 I (Nat.zero_add _) eqx.rf (fun _ _ _ => rfl) (fun i hi => absurd hi (Nat.not_lt_zero i)) (fun I3 a b c => ⟨a, b, c⟩)⟩
  unfold wb_X10_isSo_2
  rw [sw_if_f (by rw [x2.at (by decide), hW.1.2.2.2.2.2.2.1]; exact nI_nlt (Nat.le_refl _) (by omega)), nI_clamp (by omega)]
  have vp : vp_in (nI k0) 8 := vp0 (by omega) (by decide)
  have q2 : eqm nxC maF I I2 := x2.eqm (by decide) (by decide)
  have hD2 := mdO_kept hD q2 (by decide) (by decide)
  refine ⟨vp, fun I4 e4 I7 e7 => ⟨vp, ?_⟩⟩
  have t31 : (31 : Int32).toNatClampNeg = 31 := rfl
  have t32 : (32 : Int32).toNatClampNeg = 32 := rfl
  rw [t31, (hD2.2 k0 hk0).1] at e4
  rw [t32] at e7
  have q7 : eqm nxC maF I I7 := by rw [e7, e4]; exact (q2.upC (by decide) (by decide) _ _).upC (by decide) (by decide) _ _
  have hD7 := mdO_kept hD q7 (by decide) (by decide)
  have g7 : ∀ j, j ≠ 31 → j ≠ 32 → I7 145 j = I2 145 j := fun j j1 j2 => by rw [e7, sw_up_slot _ _ _ _ j2, e4, sw_up_slot _ _ _ _ j1]
  have l7 : I7 145 31 = D.1 k0 := by rw [e7, sw_up_slot _ _ _ _ (by decide), e4, sw_up_same]
  have r7 : I7 145 32 = 0 := by rw [e7, sw_up_same]
  have hW7 := isW_of q7 (by decide) (by decide) hW
  obtain ⟨b1, b2, b3, b4, b5⟩ := id hW7
  have w7 : ∀ i, i < wn w → I7 145 i = 9 ∧ I7 145 (10 + i) = wi i := fun i hi => ⟨by rw [g7 i (by omega) (by omega)]; exact z2 i hi, by rw [g7 _ (by omega) (by omega), n2 _ (by omega) (by omega)]; exact (hX i hi).1⟩
  obtain ⟨l9, hl9, el9⟩ := hf
  have hrow : mrow 145 (wn w) I7 := fun i hi => ⟨Or.inl (w7 i hi).1, by rw [(w7 i hi).2]; exact fw9 h9 (hX i hi).2⟩
  rw [(hD7.2 k0 hk0).2.1]
  refine s_X10_looks hn (by decide) (by decide) b1.2.2.2.2.2.2.1 hrow (fun I11 x11 o11 => ⟨wf w + 1, ?_⟩)
  refine s_leastStop_loop (cd := I7 7) (m := w.2.1) (I := I7) h9 (show l9 < 9 by omega) (by rw [l7]; exact el9) b2.2.1 b2.2.2.1 b2.2.2.2.1 b1.2.2.2.2.1 x11 o11 (fun I14 x14 _ => ⟨vp, ?_⟩) (wf w) 0 I11 (Nat.zero_add _) eqx.rf
  have ev := so_ref (w := w) (row := I7 145) (wi := wi) (l := D.1 k0) (s := D.2.1 k0) h9 w7 l7 r7
  rw [b3, ev]
  have q14 : eqm nxC maF I I14 := q7.tr (x14.mono (by decide) (by decide))
  have k14 : nxK I I14 := fun j j1 j2 => by rw [x14.1 _ (by decide) (by decide), g7 j (by omega) (by omega)]; exact n2 j j1 j2
  have hD14 := mdO_kept hD q14 (by decide) (by decide)
  rw [(hD14.2 k0 hk0).2.2]
  have fin := h I14 q14 k14
  unfold soK at fin
  refine ⟨fun c1 => ?_, fun c1 => ?_⟩
  · rw [decide_eq_true c1] at fin; exact fin
  · rw [decide_eq_false c1] at fin; exact fin
theorem nxO_kept {I I2 : sw_I} {w : Wd} {wi : Nat → Int32} (hn : wn w ≤ 10) (h : nxO I w wi) (e : nxK I I2) : nxO I2 w wi := fun i hi => ⟨by rw [e _ (by omega) (by omega)]; exact (h i hi).1, (h i hi).2⟩
theorem nxK.tr {I I2 I3 : sw_I} (h : nxK I I2) (h2 : nxK I2 I3) : nxK I I3 := fun j j1 j2 => (h2 j j1 j2).trans (h j j1 j2)
theorem m_areSo {w : Wd} {D : Sd} {wi : Nat → Int32} {s : Nat} (hs : s ≤ 8) {I : sw_I} {J : sw_J} {Q : Int32 → sw_I → sw_J → Prop} (hW : isW I w) (hD : mdO I D s) (hX : nxO I w wi) (hf : ∀ k, k < s → ∃ j, j < wf w ∧ D.1 k = nI j) (h : ∀ I2, eqm nxC maF I I2 → nxK I I2 → Q (bI (asA w D wi s)) I2 J) : wp_X10_areSo I J Q := by
  have hn := hW.1.2.2.1
  have loop : ∀ (d k : Nat) (I2 : sw_I), k + d = s → eqm nxC maF I I2 → nxK I I2 → wl_X10_areSo_4 Q (d + 1) (bI (asA w D wi k)) (nI k) I2 J := by
    intro d
    induction d with
    | zero =>
      intro k I2 hk h1 h2
      obtain rfl : k = s := by omega
      have hD2 := mdO_kept hD h1 (by decide) (by decide)
      show wb_X10_areSo_4 _ Q _ _ I2 J
      unfold wb_X10_areSo_4
      rw [sw_if_f (by rw [hD2.1]; exact nI_nlt (Nat.le_refl _) (by omega))]
      exact ⟨bI_01 _, h I2 h1 h2⟩
    | succ d ih =>
      intro k I2 hk h1 h2
      have hD2 := mdO_kept hD h1 (by decide) (by decide)
      show wb_X10_areSo_4 _ Q _ _ I2 J
      unfold wb_X10_areSo_4
      rw [sw_if_t (by rw [hD2.1]; exact nI_lt (by omega) (by omega))]
      cases ha : asA w D wi k
      · rw [sw_if_t (by rfl)]
        have := h I2 h1 h2
        rw [asA_false ha s (by omega)] at this
        exact ⟨bI_01 _, this⟩
      · rw [sw_if_f (by decide)]
        refine m_isSo hs (by omega) (isW_of h1 (by decide) (by decide) hW) hD2 (nxO_kept hn hX h2) (hf k (by omega)) (fun I3 x3 k3 => ?_)
        intro y hy
        rw [hy, nI_1]
        have := ih (k + 1) I3 (by omega) (h1.tr x3) (h2.tr k3)
        unfold asA at this
        rw [ha, Bool.true_and] at this
        exact this
  exact ⟨s + 1, loop s 0 I (Nat.zero_add _) eqm.rf (fun _ _ _ => rfl)⟩
/-- the relation behind a call that sets the moment of what was seen -/
theorem seen_fin {c : Nat} {I I2 : sw_I} {J J2 : sw_J} {n fl m q p r t s z : Nat} {L : List Int64} (hw : wR c I J n fl m q p r t s z) (e : eqm (0 :: 113 :: scrC) (1 :: scrF) I I2) (hr : I2 113 5 = 0) (hL : L.length ≤ 12) (h1 : tlC I2 J2 L) (h2 : tlM I2 J2 L) : wW c I2 J2 := by
  obtain ⟨g0, g1, g2, g3, g4, g5, g6, g7, g8⟩ := hw
  have hn := g1.2.2.1
  refine ⟨n, fl, m, q, p, _, t, s, z, ⟨g0.1, fun a ha => ?_, ?_, hr⟩, hs_of e (by decide) (by decide) g1, l_of e (by decide) (by decide) g2, now_of e (by decide) hn g3, past_of e (by decide) (by decide) hn g4, rwR_of hL h1 h2, tx_of e (by decide) (by decide) g6, sn_of e (by decide) (by decide) g7, kp_of e (by decide) (by decide) hn g8⟩
  · rw [e.1 a (by revert a; decide) (by revert a; decide)]; exact g0.2.1 a ha
  · rw [e.1 _ (by decide) (by decide)]; exact g0.2.2.1
theorem seen_fin0 {c : Nat} {I I2 : sw_I} {J J2 : sw_J} {n fl m q p r t s z : Nat} (hw : wR c I J n fl m q p r t s z) (e : eqm (113 :: scrC) scrF I I2) (hr : I2 113 5 = 0) (j1 : J2 118 = J 118) (j2 : J2 141 = J 141) : wW c I2 J2 := by
  obtain ⟨g0, g1, g2, g3, g4, g5, g6, g7, g8⟩ := hw
  have hn := g1.2.2.1
  refine ⟨n, fl, m, q, p, r, t, s, z, ⟨g0.1, fun a ha => ?_, ?_, hr⟩, hs_of e (by decide) (by decide) g1, l_of e (by decide) (by decide) g2, now_of e (by decide) hn g3, past_of e (by decide) (by decide) hn g4, ?_, tx_of e (by decide) (by decide) g6, sn_of e (by decide) (by decide) g7, kp_of e (by decide) (by decide) hn g8⟩
  · rw [e.1 a (by revert a; decide) (by revert a; decide)]; exact g0.2.1 a ha
  · rw [e.1 _ (by decide) (by decide)]; exact g0.2.2.1
  · unfold rwR
    rw [e.1 0 (by decide) (by decide), e.2 _ (by decide), j1, j2]; exact g5
theorem c_believe {I : sw_I} {J : sw_J} {Q : sw_I → sw_J → Prop} (hA : (∀ i, i < 10 → I (113 + 1) i = -1) ∧ I 113 5 = 0) (h : ∀ I2, eqx [115] I I2 → alO I2 (I 15) → Q I2 J) : wp_X7_believe 15 10 I J Q := by
  unfold wp_X7_believe
  refine ⟨by unfold sw_cpok; decide, fun I2 e2 => ?_⟩
  have t0 : (0 : Int32).toNatClampNeg = 0 := rfl
  have t10 : (10 : Int32).toNatClampNeg = 10 := rfl
  rw [t0, t10] at e2
  have r2 : ∀ c, c ≠ 115 → I2 c = I c := fun c hc => by rw [e2]; exact sw_cp_row hc
  refine h I2 (fun c hc => r2 c (by simpa using hc)) ⟨fun i hi => ?_, fun i hi => ?_, ?_⟩
  · rw [r2 _ (by decide)]; exact hA.1 i hi
  · show I2 115 i = _
    rw [e2]; exact sw_cp_at hi
  · rw [r2 _ (by decide)]; exact hA.2
def sdC (I : sw_I) : Sd := (I 110, I 111, I 112)
theorem sn_both {I : sw_I} {n fl s : Nat} (h : snR I n fl s) : sdO I (sdC I) s ∧ mdO I (sdC I) s ∧ ∀ k, k < s → ∃ j, j < fl ∧ (sdC I).1 k = nI j :=
  ⟨⟨h.2.1, rfl, rfl, rfl⟩, ⟨h.2.2.1, fun i hi => ⟨(h.2.2.2 i hi).1.symm, (h.2.2.2 i hi).2.1.symm, (h.2.2.2 i hi).2.2.1.symm⟩⟩, fun k hk => (h.2.2.2 k hk).2.2.2.1⟩
theorem nx_puts {I I1 : sw_I} {w : Wd} {μ : Mo} (hn : wn w ≤ 10) (hR : relM w μ (I 144)) (hr : ∀ j, j < 33 → I1 145 j = I 144 j) : nxO I1 w μ.2.1 := fun i hi => ⟨by rw [hr _ (by omega)]; exact (hR.1.1 i hi).2.1.symm, (hR.2.1 i hi).2⟩
theorem p_believed {c : Nat} {I : sw_I} {J : sw_J} {Q : Int32 → Int32 → sw_I → sw_J → Prop} (h : wW c I J) (hQ : ∀ v I2 J2, wW c I2 J2 → I2 140 0 = 0 → Q v v I2 J2) :
    wp_X9_believed  I J (fun r I1 J1 => wp_X10_believed  I1 J1 (fun r2 I2 J2 => Q r r2 I2 J2)) := by
  obtain ⟨n, fl, m, q, p, r, t, s, z, hw⟩ := h
  obtain ⟨h0, h1, h2, h3, h4, h5, h6, h7, h8⟩ := id hw
  have hn := h1.2.2.1
  have hW := isW_O h1 h2
  have hR : relM (wdO I m n fl) (moC I 13) (I 144) := h3
  obtain ⟨D1, D2, D3⟩ := sn_both h7
  generalize sdC I = D at D1 D2 D3
  have hs := h7.1
  unfold wp_X9_believed
  refine c_believe h0.2.2 (fun I1 x1 A1 => ?_)
  have hW1 := isW_of (x1.eqm (C := [115]) (F := []) (fun _ q => q) (by decide)) (by decide) (by decide) hW
  refine ⟨s + 1, s_notSo_loop (w := wdO I m n fl) hs hW1 A1 (sdO_kept D1 x1 (by decide)) (fun I2 x2 r2 => ?_) s 0 I1 (Nat.zero_add _) eqx.rf A1.2.2⟩
  refine t_clear (fun I3 x3 t3 => t_tell (by decide) t3 (fun I4 J4 x4 j4 t4 => ?_))
  generalize hwr : bs (fun k => !soK (wdO I m n fl) D (I 15) k) s = wrong at t4
  have s2 : eqm (0 :: 113 :: scrC) (1 :: scrF) I I2 := (x1.eqm (by decide) (by decide)).tr (x2.eqm (by decide) (by decide))
  have s4 : eqm (0 :: 113 :: scrC) (1 :: scrF) I I4 := s2.tr ((x3.eqm (by decide) (by decide)).tr (x4.eqm (by decide) (by decide)))
  have r4 : I4 113 5 = 0 := by rw [x4.at (by decide), x3.at (by decide)]; exact r2
  have ref : ∀ v : Int32, v = (if wrong = 0 then 1 else 0) → wp_X10_believed I4 J4 (fun r2 I2 J2 => Q v r2 I2 J2) := by
    intro v hv I5 e5
    have s5 : eqm (0 :: 113 :: scrC) (1 :: scrF) I I5 := by rw [e5]; exact s4.upF (by decide) _
    refine s_X10_puts (by decide) (fun I6 x6 r6 => ⟨s + 1, ?_⟩)
    have s6 : eqm (0 :: 113 :: scrC) (1 :: scrF) I I6 := s5.tr (x6.eqm (by decide) (by decide))
    have hW6 := isW_of s6 (by decide) (by decide) hW
    have D6 := mdO_kept D2 s6 (by decide) (by decide)
    have X6 : nxO I6 (wdO I m n fl) (I 15) := nx_puts (I := I5) (μ := moC I 13) hn (by rw [s5.1 _ (by decide) (by decide)]; exact hR) r6
    have loop : ∀ (d k : Nat) (I7 : sw_I), k + d = s → eqm nxC maF I6 I7 → nxK I6 I7 → wl_X10_believed_20 (fun r2 I2 J2 => Q v r2 I2 J2) (d + 1) (bs (fun k => !soK (wdO I m n fl) D (I 15) k) k) (nI k) I7 J4 := by
      intro d
      induction d with
      | zero =>
        intro k I7 hk x7 k7
        obtain rfl : k = s := by omega
        have D7 := mdO_kept D6 x7 (by decide) (by decide)
        show wb_X10_believed_20 _ _ _ _ I7 J4
        unfold wb_X10_believed_20
        rw [sw_if_f (by rw [D7.1]; exact nI_nlt (Nat.le_refl _) (by omega)), hwr]
        intro I8 e8
        have s8 : eqm (0 :: 113 :: scrC) (1 :: scrF) I I8 := by rw [e8]; exact (s6.tr (x7.mono (by decide) (by decide))).upF (by decide) _
        refine t_enters (by decide) (tlM_0 e8) (fun I9 J9 x9 j9 t9 => ?_)
        have fin : Q v v I9 J9 := by
          refine hQ _ I9 J9 (seen_fin (L := [wrong.toInt64]) hw (s8.tr (x9.mono (by decide) (by decide))) ?_ (by simp) (tlC_of t4 ?_ (j9 _ (by decide))) t9) ?_
          · rw [x9.1 _ (by decide) (by decide), e8, sw_up_cell _ _ _ _ (by decide), x7.1 _ (by decide) (by decide), x6 _ (by decide), e5, sw_up_cell _ _ _ _ (by decide)]; exact r4
          · rw [x9.1 _ (by decide) (by decide), e8, sw_up_row _ _ _ (by decide), x7.1 _ (by decide) (by decide), x6 _ (by decide), e5, sw_up_row _ _ _ (by decide)]
          · rw [x9.2 _ (by decide), e8, sw_up_slot _ _ _ _ (by decide), x7.2 _ (by decide), x6 _ (by decide), e5, sw_up_same]
        refine ⟨fun c1 => ?_, fun c1 => ?_⟩
        · unfold wB_X10_believed_72
          refine s_X10_flag ?_
          rw [if_pos c1] at hv
          rw [if_neg (by decide)]
          rw [hv] at fin ⊢; exact fin
        · unfold wB_X10_believed_72
          refine s_X10_flag ?_
          rw [if_neg c1] at hv
          rw [if_pos rfl]
          rw [hv] at fin ⊢; exact fin
      | succ d ih =>
        intro k I7 hk x7 k7
        have D7 := mdO_kept D6 x7 (by decide) (by decide)
        show wb_X10_believed_20 _ _ _ _ I7 J4
        unfold wb_X10_believed_20
        rw [sw_if_t (by rw [D7.1]; exact nI_lt (by omega) (by omega))]
        refine m_isSo hs (by omega) (isW_of x7 (by decide) (by decide) hW6) D7 (nxO_kept hn X6 k7) (D3 k (by omega)) (fun I8 x8 k8 => ?_)
        have go : ∀ t, bs (fun k => !soK (wdO I m n fl) D (I 15) k) k ||| t = bs (fun k => !soK (wdO I m n fl) D (I 15) k) (k + 1) → wB_X10_believed_44 (wl_X10_believed_20 (fun r2 I2 J2 => Q v r2 I2 J2) (d + 1)) (fun r2 I2 J2 => Q v r2 I2 J2) (nI k) (bs (fun k => !soK (wdO I m n fl) D (I 15) k) k) t I8 J4 := by
          intro t ht y hy y2 hy2
          rw [hy2, nI_1, hy, ht]
          exact ih (k + 1) I8 (by omega) (x7.tr x8) (k7.tr k8)
        cases hb : soK (wdO I m n fl) D (I 15) k
        · rw [sw_if_t (by rfl)]; exact go _ (bs_t (by rw [hb]; rfl))
        · rw [sw_if_f (by decide)]; exact go _ (bs_f (by rw [hb]; rfl))
    exact loop s 0 I6 (Nat.zero_add _) eqm.rf (fun _ _ _ => rfl)
  by_cases c1 : wrong = 0
  · rw [sw_if_t c1]; exact ref 1 (by rw [if_pos c1])
  · rw [sw_if_f c1]; exact ref 0 (by rw [if_neg c1])
