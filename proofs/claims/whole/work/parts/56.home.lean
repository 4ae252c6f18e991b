/-! comeHome; promise: hinders -/
def setI (μ : Mo) (s : Int32) : Mo := (μ.1, μ.2.1, μ.2.2.1, s, oL μ, oR μ)
abbrev tr4 : List Nat := [17, 17 + 1, 17 + 2, 17 + 3, 10, 11, 12, 9]
theorem s_home_loop {w : Wd} {N : Nat} (hN : N ≤ 40) {I : sw_I} {J : sw_J} {Q : Int32 → sw_I → sw_J → Prop} (hW : isW I w) :
    ∀ (d k : Nat) (c : Int32) (μ : Mo) (I2 : sw_I), k + d = N → eqx tr4 I I2 → moE I2 17 μ → (∀ I3, eqx tr4 I I3 → Q (thC w d c μ) I3 J) → wl_X9_comeHome_24 Q (d + 1) (nI N) c (nI k) I2 J := by
  intro d
  induction d with
  | zero =>
    intro k c μ I2 hk h1 h2 h
    obtain rfl : k = N := by omega
    show wb_X9_comeHome_24 _ Q _ _ _ I2 J
    unfold wb_X9_comeHome_24
    rw [sw_if_f (nI_nlt (Nat.le_refl _) (by omega))]
    exact h I2 h1
  | succ d ih =>
    intro k c μ I2 hk h1 h2 h
    show wb_X9_comeHome_24 _ Q _ _ _ I2 J
    unfold wb_X9_comeHome_24
    rw [sw_if_t (nI_lt (by omega) (by omega))]
    refine c_rideM (by decide) (isW_of (h1.eqm (C := tr4) (F := []) (fun _ q => q) (by decide)) (by decide) (by decide) hW) h2 (fun I3 x3 e3 => ?_)
    intro y hy y2 hy2
    rw [hy2, nI_1, hy]
    exact ih (k + 1) _ (rdM w μ) I3 (by omega) (h1.tr (x3.mono (by decide))) e3 h
theorem c_home {w : Wd} {N : Nat} (hN : N ≤ 40) {μ : Mo} {s : Int32} {I : sw_I} {J : sw_J} {Q : Int32 → sw_I → sw_J → Prop} (hW : isW I w) (hE : moE I 13 μ) (h : ∀ I2, eqx tr4 I I2 → Q (thC w N 0 (setI μ s)) I2 J) : wp_X9_comeHome s (nI N) I J Q := by
  refine s_X3_copy (by decide) (fun I1 k1 => ?_)
  intro I2 e2
  have q1 : eqx tr4 I I1 := fun c hc => k1.1 c (by simp at hc; omega)
  have E1 := moE_copy k1 hE
  refine ⟨N + 1, s_home_loop (w := w) hN hW N 0 0 (setI μ s) I2 (by omega) (by rw [e2]; exact q1.up (by decide) _ _) ⟨fun i hi => ?_, ?_, ?_, ?_⟩ h⟩
  · rw [e2, sw_up_row _ _ _ (by decide), sw_up_row _ _ _ (by decide), sw_up_row _ _ _ (by decide)]; exact E1.1 i hi
  · rw [e2, sw_up_same]; rfl
  · rw [e2, sw_up_slot _ _ _ _ (by decide)]; exact E1.2.2.1
  · rw [e2, sw_up_slot _ _ _ _ (by decide)]; exact E1.2.2.2
theorem m_home_loop {w : Wd} {N : Nat} (hN : N ≤ 40) {I : sw_I} {J : sw_J} {Q : Int32 → sw_I → sw_J → Prop} (hW : isW I w) :
    ∀ (d k : Nat) (c : Int32) (μ : Mo) (I2 : sw_I), k + d = N → eqm (145 :: mnsC) maF I I2 → relM w μ (I2 145) → (∀ I3, eqm (145 :: mnsC) maF I I3 → Q (thC w d c μ) I3 J) → wl_X10_comeHome_24 Q (d + 1) (nI N) c (nI k) I2 J := by
  intro d
  induction d with
  | zero =>
    intro k c μ I2 hk h1 h2 h
    obtain rfl : k = N := by omega
    show wb_X10_comeHome_24 _ Q _ _ _ I2 J
    unfold wb_X10_comeHome_24
    rw [sw_if_f (nI_nlt (Nat.le_refl _) (by omega))]
    exact h I2 h1
  | succ d ih =>
    intro k c μ I2 hk h1 h2 h
    show wb_X10_comeHome_24 _ Q _ _ _ I2 J
    unfold wb_X10_comeHome_24
    have e30 : I2 145 (30 : Int32).toNatClampNeg = oI μ := h2.1.2.1.symm
    rw [sw_if_t (nI_lt (by omega) (by omega)), e30]
    refine m_rideM (by decide) (by decide) (by decide) rfl (isW_of h1 (by decide) (by decide) hW) h2 (fun I3 x3 e3 => ?_)
    intro y hy y2 hy2
    rw [hy2, nI_1, hy]
    exact ih (k + 1) _ (rdM w μ) I3 (by omega) (h1.tr x3) e3 h
theorem relM_setI {w : Wd} {μ : Mo} {s : Int32} {row row2 : Nat → Int32} (hn : wn w ≤ 10) (h : relM w μ row) (hs : ∀ k, k < 32 → inB s k = true → inB (oI μ) k = true) (hr : ∀ j, j < 33 → row2 j = if j = 30 then s else row j) : relM w (setI μ s) row2 := by
  obtain ⟨⟨h1, h2, h3, h4⟩, v1, v2, v3, v4⟩ := h
  refine ⟨⟨fun i hi => ?_, ?_, ?_, ?_⟩, v1, v2, v3, fun i hi hb => v4 i hi (hs i hi hb)⟩
  · rw [hr i (by omega), hr (10 + i) (by omega), hr (20 + i) (by omega), if_neg (by omega), if_neg (by omega), if_neg (by omega)]; exact h1 i hi
  · rw [hr 30 (by omega), if_pos rfl]; rfl
  · rw [hr 31 (by omega), if_neg (by omega)]; exact h3
  · rw [hr 32 (by omega), if_neg (by omega)]; exact h4
theorem m_home {w : Wd} {N : Nat} (hN : N ≤ 40) {μ : Mo} {s : Int32} {I : sw_I} {J : sw_J} {Q : Int32 → sw_I → sw_J → Prop} (hW : isW I w) (hR : relM w μ (I 144)) (hs : ∀ k, k < 32 → inB s k = true → inB (oI μ) k = true) (h : ∀ I2, eqm (145 :: mnsC) maF I I2 → Q (thC w N 0 (setI μ s)) I2 J) : wp_X10_comeHome s (nI N) I J Q := by
  have hn := hW.1.2.2.1
  refine s_X10_puts (by decide) (fun I1 x1 r1 => ?_)
  intro I2 e2
  have t30 : (30 : Int32).toNatClampNeg = 30 := rfl
  rw [t30] at e2
  have q1 : eqm (145 :: mnsC) maF I I1 := x1.eqm (by decide) (by decide)
  have q2 : eqm (145 :: mnsC) maF I I2 := by rw [e2]; exact q1.upC (by decide) (by decide) _ _
  refine ⟨N + 1, m_home_loop (w := w) hN (isW_of q2 (by decide) (by decide) hW) N 0 0 (setI μ s) I2 (by omega) eqm.rf (relM_setI hn hR hs (fun j hj => ?_)) (fun I3 x3 => h I3 (q2.tr x3))⟩
  rw [e2, sw_up_rowf]
  show (if j = 30 then s else I1 145 j) = _
  rw [r1 j hj]
theorem thC_bN {w : Wd} (hn : wn w ≤ 10) : ∀ d c μ, bN (wn w) c → bN (wn w) (thC w d c μ)
  | 0, _, _, h => h
  | d + 1, c, μ, h => by
    unfold thC
    refine thC_bN hn d _ _ (fun k hk hc => ?_)
    rw [inB_or _ _ hk, Bool.or_eq_true] at hc
    rcases hc with q | q
    · exact h k hk q
    · rw [cm_bit w (by omega) μ hk] at q; simp at q; exact q.1
theorem bN_0 (n : Nat) : bN n 0 := fun k hk hb => by rw [inB_0 hk] at hb; cases hb
/-- how many come home without rider i -/
def hdV (w : Wd) (N : Nat) (μ : Mo) (i : Nat) : Nat := (bcF (thC w N 0 (setI μ (oI μ &&& (((1 : Int32) <<< (nI i &&& 31)) ^^^ (-1)))))).toNatClampNeg
theorem hdV_eq {w : Wd} (hn : wn w ≤ 10) (N : Nat) (μ : Mo) (i : Nat) : bcF (thC w N 0 (setI μ (oI μ &&& (((1 : Int32) <<< (nI i &&& 31)) ^^^ (-1))))) = nI (hdV w N μ i) ∧ hdV w N μ i ≤ 10 := by
  obtain ⟨j, hj, ej⟩ := bN_ix hn (thC_bN hn N 0 (setI μ (oI μ &&& (((1 : Int32) <<< (nI i &&& 31)) ^^^ (-1)))) (bN_0 _))
  have hp : 2 ^ wn w ≤ 2 ^ 10 := Nat.pow_le_pow_right (by decide) hn
  have hb := pcN_le j 10
  unfold hdV
  rw [ej, bc10 j (by omega), nI_clamp (by omega)]
  exact ⟨rfl, hb⟩
def hdT (o : Option (Nat × Nat)) (v : Nat) : Bool := match o with | none => true | some b => decide (b.2 < v)
def hdS (w : Wd) (N : Nat) (μ : Mo) (i : Nat) (o : Option (Nat × Nat)) : Option (Nat × Nat) := if inB (oI μ) i = true ∧ hdT o (hdV w N μ i) = true then some (i, hdV w N μ i) else o
def hdM (w : Wd) (N : Nat) (μ : Mo) : Nat → Nat → Option (Nat × Nat) → Option (Nat × Nat)
  | 0, _, o => o
  | d + 1, i, o => hdM w N μ d (i + 1) (hdS w N μ i o)
def hdB (d : Int32) (o : Option (Nat × Nat)) : Int32 := match o with | none => d | some b => nI b.1
def hdN (o : Option (Nat × Nat)) : Int32 := match o with | none => -1 | some b => nI b.2
def hdK (o : Option (Nat × Nat)) : Prop := ∀ b, o = some b → b.1 < 10 ∧ b.2 ≤ 10
theorem hdK_s {w : Wd} (hn : wn w ≤ 10) {N : Nat} {μ : Mo} {i : Nat} {o : Option (Nat × Nat)} (hi : i < 10) (h : hdK o) : hdK (hdS w N μ i o) := by
  intro b hb
  unfold hdS at hb
  split at hb
  · obtain rfl := Option.some.inj hb; exact ⟨hi, (hdV_eq hn N μ i).2⟩
  · exact h b hb
theorem hd_lt {w : Wd} (hn : wn w ≤ 10) {N : Nat} {μ : Mo} {i : Nat} {o : Option (Nat × Nat)} (h : hdK o) : (hdN o < nI (hdV w N μ i)) ↔ hdT o (hdV w N μ i) = true := by
  have hv := (hdV_eq hn N μ i).2
  cases o with
  | none =>
    refine ⟨fun _ => rfl, fun _ => ?_⟩
    show (-1 : Int32) < nI _
    rw [Int32.lt_iff_toInt_lt, nI_toInt (by omega)]
    show (-1 : Int) < _; omega
  | some b =>
    have hb := (h b rfl).2
    show (nI b.2 < nI _) ↔ decide (b.2 < _) = true
    rw [decide_eq_true_iff]
    constructor
    · intro q
      rcases Nat.lt_or_ge b.2 (hdV w N μ i) with z | z
      · exact z
      · exact absurd q (nI_nlt z (by omega))
    · intro q; exact nI_lt q (by omega)
theorem in_less {s : Int32} {i : Nat} : ∀ k, k < 32 → inB (s &&& (((1 : Int32) <<< (nI i &&& 31)) ^^^ (-1))) k = true → inB s k = true := fun k hk hb => by
  rw [inB_and _ _ hk, Bool.and_eq_true] at hb; exact hb.1
theorem s_hinders_loop {w : Wd} {N : Nat} (hN : N ≤ 40) {μ : Mo} {I : sw_I} {J : sw_J} {Q : Int32 → sw_I → sw_J → Prop} (hW : isW I w) (hE : moE I 13 μ) :
    ∀ (d i : Nat) (o : Option (Nat × Nat)) (I2 : sw_I), i + d = wn w → hdK o → eqx tr4 I I2 → (∀ I3, eqx tr4 I I3 → hdM w N μ d i o = none → Q (-2) I3 J) → (∀ I3 J3 b, eqx (0 :: tr4) I I3 → eqj [118] J J3 → hdM w N μ d i o = some b → tlC I3 J3 [(nI b.2).toInt64] → Q (nI b.1) I3 J3) → wl_X9_hinders_19 Q (d + 1) (nI N) (hdB (-1) o) (hdN o) (nI i) I2 J := by
  have hn := hW.1.2.2.1
  have ff : ∀ I2, eqx tr4 I I2 → I2 3 2 = nI (wn w) := fun I2 e => by rw [e.at (by decide)]; exact hW.1.2.2.2.2.2.1
  intro d
  induction d with
  | zero =>
    intro i o I2 hk ho h1 h h'
    obtain rfl : i = wn w := by omega
    show wb_X9_hinders_19 _ Q _ _ _ _ I2 J
    unfold wb_X9_hinders_19
    rw [sw_if_f (by rw [ff I2 h1]; exact nI_nlt (Nat.le_refl _) (by omega))]
    cases o with
    | none =>
      rw [sw_if_t (show hdB (-1) none = (-1 : Int32) from rfl)]
      exact h I2 h1 rfl
    | some b =>
      have hb := ho b rfl
      rw [sw_if_f (show ¬ hdB (-1) (some b) = (-1 : Int32) from fun q => nem1 (f := b.1) (by omega) q.symm)]
      refine t_clear (fun I3 x3 t3 => t_tell (by decide) t3 (fun I4 J4 x4 j4 t4 => ?_))
      exact h' I4 J4 b (((h1.mono (by decide)).tr (x3.mono (by decide))).tr (x4.mono (by decide))) j4 rfl t4
  | succ d ih =>
    intro i o I2 hk ho h1 h h'
    show wb_X9_hinders_19 _ Q _ _ _ _ I2 J
    unfold wb_X9_hinders_19
    rw [sw_if_t (by rw [ff I2 h1]; exact nI_lt (by omega) (by omega))]
    have nxt : ∀ I3, eqx tr4 I I3 → wB_X9_hinders_79 (wl_X9_hinders_19 Q (d + 1)) Q (nI N) (hdB (-1) (hdS w N μ i o)) (hdN (hdS w N μ i o)) (nI i) I3 J := by
      intro I3 x3 y hy
      rw [hy, nI_1]
      exact ih (i + 1) _ I3 (by omega) (hdK_s hn (by omega) ho) x3 h h'
    have ei : I2 13 3 = oI μ := by rw [h1.at (by decide)]; exact hE.2.1
    refine s_X3_isIn (by omega) ?_
    rw [ei]
    by_cases cb : inB (oI μ) i = true
    · rw [cb, sw_if_f (by simp)]
      refine c_home (w := w) hN (isW_of (h1.eqm (C := tr4) (F := []) (fun _ q => q) (by decide)) (by decide) (by decide) hW) (moE_cong (fun c c1 c2 => h1 c (by simp; omega)) hE) (fun I3 x3 => s_J6_bitCount ?_)
      rw [(hdV_eq hn N μ i).1]
      have n3 := nxt I3 (h1.tr x3)
      by_cases c1 : hdN o < nI (hdV w N μ i)
      · rw [sw_if_t c1]
        unfold hdS at n3
        rw [if_pos ⟨cb, (hd_lt hn ho).mp c1⟩] at n3
        exact n3
      · rw [sw_if_f c1]
        unfold hdS at n3
        rw [if_neg (fun q => c1 ((hd_lt hn ho).mpr q.2))] at n3
        exact n3
    · rw [Bool.eq_false_iff.mpr cb, sw_if_t (by simp)]
      have n3 := nxt I2 h1
      unfold hdS at n3
      rw [if_neg (fun q => cb q.1)] at n3
      exact n3
theorem m_hinders_loop {w : Wd} {N : Nat} (hN : N ≤ 40) {μ : Mo} {I : sw_I} {J : sw_J} {Q : Int32 → sw_I → sw_J → Prop} (hW : isW I w) (hR : relM w μ (I 144)) :
    ∀ (d i : Nat) (o : Option (Nat × Nat)) (I2 : sw_I), i + d = wn w → hdK o → eqm (145 :: mnsC) maF I I2 → (∀ I3, eqm (145 :: mnsC) maF I I3 → hdM w N μ d i o = none → Q (-2) I3 J) → (∀ I3 J3 b, eqm (145 :: mnsC) (1 :: maF) I I3 → eqj [141] J J3 → hdM w N μ d i o = some b → tlM I3 J3 [(nI b.2).toInt64] → Q (nI b.1) I3 J3) → wl_X10_hinders_27 Q (d + 1) (nI N) (hdB (-2) o) (hdN o) (nI i) I2 J := by
  have hn := hW.1.2.2.1
  have ff : ∀ I2, eqm (145 :: mnsC) maF I I2 → I2 140 4 = nI (wn w) := fun I2 e => by rw [e.2 _ (by decide)]; exact hW.1.2.2.2.2.2.2.1
  intro d
  induction d with
  | zero =>
    intro i o I2 hk ho h1 h h'
    obtain rfl : i = wn w := by omega
    show wb_X10_hinders_27 _ Q _ _ _ _ I2 J
    unfold wb_X10_hinders_27
    rw [sw_if_f (by rw [ff I2 h1]; exact nI_nlt (Nat.le_refl _) (by omega))]
    cases o with
    | none =>
      rw [sw_if_t (show hdB (-2) none < 0 by decide)]
      exact h I2 h1 rfl
    | some b =>
      have hb := ho b rfl
      rw [sw_if_f (show ¬ hdB (-2) (some b) < 0 from nI_pos (by omega))]
      intro I3 e3
      have q3 : eqm (145 :: mnsC) (1 :: maF) I I3 := by rw [e3]; exact (h1.mono (by decide) (by decide)).upF (by decide) _
      refine t_enters (by decide) (tlM_0 e3) (fun I4 J4 x4 j4 t4 => ?_)
      exact h' I4 J4 b (q3.tr (x4.mono (by decide) (by decide))) j4 rfl t4
  | succ d ih =>
    intro i o I2 hk ho h1 h h'
    show wb_X10_hinders_27 _ Q _ _ _ _ I2 J
    unfold wb_X10_hinders_27
    rw [sw_if_t (by rw [ff I2 h1]; exact nI_lt (by omega) (by omega))]
    have n2 : I2 144 = I 144 := h1.1 _ (by decide) (by decide)
    have e30 : I2 144 (30 : Int32).toNatClampNeg = oI μ := by rw [n2]; exact hR.1.2.1.symm
    have go : ∀ (v : Int32) I3, eqm (145 :: mnsC) maF I I3 → (hdN (hdS w N μ i o) = if hdN o < v then v else hdN o) → (hdB (-2) (hdS w N μ i o) = if hdN o < v then nI i else hdB (-2) o) → wB_X10_hinders_77 (wl_X10_hinders_27 Q (d + 1)) Q (nI N) (hdB (-2) o) (hdN o) (nI i) v I3 J := by
      intro v I3 x3 a1 a2
      have fin := ih (i + 1) (hdS w N μ i o) I3 (by omega) (hdK_s hn (by omega) ho) x3 h h'
      unfold wB_X10_hinders_77
      by_cases c1 : hdN o < v
      · rw [sw_if_t c1]
        intro y hy y2 hy2
        rw [a1, a2, if_pos c1, if_pos c1] at fin
        rw [hy2, nI_1, hy, if_pos c1]; exact fin
      · rw [sw_if_f c1]
        intro y hy y2 hy2
        rw [a1, a2, if_neg c1, if_neg c1] at fin
        rw [hy2, nI_1, hy, if_neg c1]; exact fin
    rw [e30]
    refine s_X10_has ?_
    by_cases cb : inB (oI μ) i = true
    · rw [cb, sw_if_f (by simp), e30]
      refine m_home (w := w) (μ := μ) (s := oI μ &&& (((1 : Int32) <<< (nI i &&& 31)) ^^^ (-1))) hN (isW_of h1 (by decide) (by decide) hW) (by rw [n2]; exact hR) (in_less (s := oI μ) (i := i)) (fun I3 x3 => s_J6_bitCount ?_)
      rw [(hdV_eq hn N μ i).1]
      refine go _ I3 (h1.tr x3) ?_ ?_
      · unfold hdS
        by_cases c1 : hdN o < nI (hdV w N μ i)
        · rw [if_pos ⟨cb, (hd_lt hn ho).mp c1⟩, if_pos c1]; rfl
        · rw [if_neg (fun q => c1 ((hd_lt hn ho).mpr q.2)), if_neg c1]
      · unfold hdS
        by_cases c1 : hdN o < nI (hdV w N μ i)
        · rw [if_pos ⟨cb, (hd_lt hn ho).mp c1⟩, if_pos c1]; rfl
        · rw [if_neg (fun q => c1 ((hd_lt hn ho).mpr q.2)), if_neg c1]
    · rw [Bool.eq_false_iff.mpr cb, sw_if_t (by simp)]
      have c1 : ¬ hdN o < (-1 : Int32) := by
        cases o with
        | none => decide
        | some b =>
          have hb := ho b rfl
          intro q
          exact nI_pos (n := b.2) (by omega) (Int32.lt_trans q (by decide))
      refine go _ I2 h1 ?_ ?_
      · unfold hdS; rw [if_neg (fun q => cb q.1), if_neg c1]
      · unfold hdS; rw [if_neg (fun q => cb q.1), if_neg c1]
theorem p_hinders {c : Nat} {x1 : Int32} {I : sw_I} {J : sw_J} {Q : Int32 → Int32 → sw_I → sw_J → Prop} (h : wW c I J) (hQ : ∀ v I2 J2, wW c I2 J2 → I2 140 0 = 0 → Q v v I2 J2) :
    wp_X9_hinders x1 I J (fun r I1 J1 => wp_X10_hinders x1 I1 J1 (fun r2 I2 J2 => Q r r2 I2 J2)) := by
  obtain ⟨n, fl, m, q, p, r, t, s, z, hw⟩ := h
  obtain ⟨h0, h1, h2, h3, h4, h5, h6, h7, h8⟩ := id hw
  have hn := h1.2.2.1
  unfold wp_X9_hinders
  refine if_N (N := 40) (by decide) rfl (fun hno => ?_) (fun N hN eN => ?_)
  · intro I2 e2
    refine in_N (N := 40) (by decide) rfl (fun _ => ?_) (fun i hi ei => absurd ⟨i, hi, ei⟩ hno)
    rw [sw_if_t rfl]; exact hQ _ I2 J (th_of hw e2).1 (th_of hw e2).2
  · have hW := isW_O h1 h2
    generalize hμ : moC I 13 = μ
    have hE : moE I 13 μ := by rw [← hμ]; exact moE_C _ _
    have hR : relM (wdO I m n fl) μ (I 144) := by rw [← hμ]; exact h3
    rw [eN]
    refine ⟨n + 1, s_hinders_loop (w := wdO I m n fl) hN hW hE n 0 none I (Nat.zero_add _) (fun b hb => by cases hb) eqx.rf (fun I3 x3 e3 => ?_) (fun I3 J3 b x3 j3 e3 t3 => ?_)⟩
    · intro I4 e4
      have s3 : eqm scrC scrF I I3 := x3.eqm (by decide) (by decide)
      have s4 : eqm scrC scrF I I4 := by rw [e4]; exact s3.upF (by decide) _
      refine in_N (N := 40) (by decide) rfl (fun hno => absurd ⟨N, hN, rfl⟩ hno) (fun _ _ _ => ?_)
      rw [sw_if_f (by decide)]
      refine ⟨n + 1, m_hinders_loop (w := wdO I m n fl) (μ := μ) hN (isW_of s4 (by decide) (by decide) hW) (by rw [s4.1 _ (by decide) (by decide)]; exact hR) n 0 none I4 (Nat.zero_add _) (fun b hb => by cases hb) eqm.rf (fun I5 x5 e5 => ?_) (fun I5 J5 b x5 j5 e5 t5 => ?_)⟩
      · exact hQ _ I5 J ⟨n, fl, m, q, p, r, t, s, z, wR_scr hw (s4.tr (x5.mono (by decide) (by decide))) rfl rfl⟩ (by rw [x5.2 _ (by decide), e4, sw_up_same])
      · exact absurd (e3.symm.trans e5) (by simp)
    · intro I4 e4
      have s3 : eqm (0 :: scrC) (1 :: scrF) I I3 := x3.eqm (by decide) (by decide)
      have s4 : eqm (0 :: scrC) (1 :: scrF) I I4 := by rw [e4]; exact s3.upF (by decide) _
      refine in_N (N := 40) (by decide) rfl (fun hno => absurd ⟨N, hN, rfl⟩ hno) (fun _ _ _ => ?_)
      rw [sw_if_f (by decide)]
      refine ⟨n + 1, m_hinders_loop (w := wdO I m n fl) (μ := μ) hN (isW_of s4 (by decide) (by decide) hW) (by rw [s4.1 _ (by decide) (by decide)]; exact hR) n 0 none I4 (Nat.zero_add _) (fun b hb => by cases hb) eqm.rf (fun I5 x5 e5 => ?_) (fun I5 J5 b2 x5 j5 e5 t5 => ?_)⟩
      · exact absurd (e3.symm.trans e5) (by simp)
      · have eb : b2 = b := (Option.some.inj (e3.symm.trans e5)).symm
        subst eb
        refine hQ _ I5 J5 (told_fin (L := [(nI b2.2).toInt64]) hw (s4.tr (x5.mono (by decide) (by decide))) (by simp) (tlC_of t3 ?_ (j5 _ (by decide))) t5) ?_
        · rw [x5.1 _ (by decide) (by decide), e4, sw_up_row _ _ _ (by decide)]
        · rw [x5.2 _ (by decide), e4, sw_up_same]
