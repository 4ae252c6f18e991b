/-! promises: along, without -/
def fwB (o : Option Nat) (j : Nat) : Bool := match o with | none => true | some b => decide (pcN j 10 < pcN b 10)
def fwS (w : Wd) (μ : Mo) (f : Int32) (j : Nat) (o : Option Nat) : Option Nat := if fwB o j = true ∧ stM w μ (oI μ ^^^ nI j) = f then some j else o
def fwM (w : Wd) (μ : Mo) (f : Int32) : List Nat → Option Nat → Option Nat
  | [], o => o
  | j :: L, o => fwM w μ f L (fwS w μ f j o)
def fwN (o : Option Nat) : Int32 := match o with | none => 11 | some b => nI (pcN b 10)
def fwV (d : Int32) (o : Option Nat) : Int32 := match o with | none => d | some b => nI b
def fwK (o : Option Nat) : Prop := ∀ b, o = some b → b < 1024
theorem fwK_s {w : Wd} {μ : Mo} {f : Int32} {j : Nat} {o : Option Nat} (hj : j < 1024) (h : fwK o) : fwK (fwS w μ f j o) := by
  intro b hb
  unfold fwS at hb
  split at hb
  · obtain rfl := Option.some.inj hb; exact hj
  · exact h b hb
theorem fw_lt {o : Option Nat} {j : Nat} : (nI (pcN j 10) < fwN o) ↔ fwB o j = true := by
  have hj := pcN_le j 10
  cases o with
  | none => exact ⟨fun _ => rfl, fun _ => nI_lt (b := 11) (by omega) (by decide)⟩
  | some b =>
    have hb := pcN_le b 10
    show (nI (pcN j 10) < nI (pcN b 10)) ↔ decide _ = true
    rw [decide_eq_true_iff]
    constructor
    · intro h
      rcases Nat.lt_or_ge (pcN j 10) (pcN b 10) with q | q
      · exact q
      · exact absurd h (nI_nlt q (by omega))
    · intro h; exact nI_lt h (by omega)
/-- what the call tells at last: the class and the reference alike -/
def fwT (o : Option Nat) : Option (Int32 × List Int64) := match o with | none => none | some b => some (nI (pcN b 10), [(nI b).toInt64])
theorem s_fewest_loop {w : Wd} {μ : Mo} {M T : Nat} {f : Int32} (hT : T ≤ 1024) {I : sw_I} {J : sw_J} {Q : Int32 → sw_I → sw_J → Prop} (hW : isW I w) (hE : moE I 13 μ) :
    ∀ (L : List Nat) (k : Nat) (s : Int32) (o : Option Nat) (I2 : sw_I), k + L.length = T → chn (nI M) L s → (∀ j, j ∈ L → j < 1024) → fwK o → eqx nsC I I2 →
    (∀ I3, eqx nsC I I3 → fwM w μ f L o = none → Q (-2) I3 J) → (∀ I3 J3 b, eqx chC I I3 → eqj [118] J J3 → fwM w μ f L o = some b → tlC I3 J3 [(nI b).toInt64] → Q (nI (pcN b 10)) I3 J3) → wl_X9_fewestMoved_31 Q (L.length + 1) f (nI M) (nI T) (fwN o) (fwV 0 o) s (nI k) I2 J := by
  intro L
  induction L with
  | nil =>
    intro k s o I2 hk hc hm ho h1 h h'
    simp at hk
    subst hk
    show wb_X9_fewestMoved_31 _ Q _ _ _ _ _ _ _ I2 J
    unfold wb_X9_fewestMoved_31
    rw [sw_if_f (nI_nlt (Nat.le_refl _) (by omega))]
    cases o with
    | none =>
      rw [sw_if_t (show (10 : Int32) < fwN none by decide)]
      exact h I2 h1 rfl
    | some b =>
      have hb := pcN_le b 10
      rw [sw_if_f (show ¬ (10 : Int32) < fwN (some b) from nI_nlt (a := 10) hb (by decide))]
      refine t_clear (fun I3 x3 t3 => t_tell (by decide) t3 (fun I4 J4 x4 j4 t4 => ?_))
      exact h' I4 J4 b (((h1.mono (by decide)).tr (x3.mono (by decide))).tr (x4.mono (by decide))) j4 rfl t4
  | cons j L ih =>
    intro k s o I2 hk hc hm ho h1 h h'
    rw [List.length_cons] at hk
    obtain ⟨rfl, hc2⟩ := hc
    have hj := hm j List.mem_cons_self
    show wb_X9_fewestMoved_31 _ Q _ _ _ _ _ _ _ I2 J
    unfold wb_X9_fewestMoved_31
    rw [sw_if_t (nI_lt (by omega) (by omega))]
    refine s_J6_bitCount ?_
    rw [bc10 j hj]
    have nxt : ∀ I3, eqx nsC I I3 → wB_X9_fewestMoved_84 (wl_X9_fewestMoved_31 Q (L.length + 1)) Q f (nI M) (nI T) (fwN (fwS w μ f j o)) (fwV 0 (fwS w μ f j o)) (nI j) (nI k) I3 J := by
      intro I3 x3
      unfold wB_X9_fewestMoved_84 wp_X9_nextSet
      intro y hy
      rw [hy, nI_1]
      exact ih (k + 1) _ _ I3 (by omega) hc2 (fun i hi => hm i (List.mem_cons_of_mem _ hi)) (fwK_s hj ho) x3 h h'
    by_cases c1 : nI (pcN j 10) < fwN o
    · rw [sw_if_t c1]
      have e3 : I2 13 3 = oI μ := by rw [h1.at (by decide)]; exact hE.2.1
      rw [e3]
      refine c_stopM (by decide) (isW_of (h1.eqm (C := nsC) (F := []) (fun _ q => q) (by decide)) (by decide) (by decide) hW) (moE_cong (fun c c1 c2 => h1 c (by simp; omega)) hE) (fun I3 x3 => ?_)
      have x3' := h1.tr (x3.mono (by decide))
      have n3 := nxt I3 x3'
      by_cases c2 : stM w μ (oI μ ^^^ nI j) = f
      · rw [sw_if_t c2]
        unfold fwS at n3
        rw [if_pos ⟨fw_lt.mp c1, c2⟩] at n3
        exact n3
      · rw [sw_if_f c2]
        unfold fwS at n3
        rw [if_neg (fun q => c2 q.2)] at n3
        exact n3
    · rw [sw_if_f c1]
      have n3 := nxt I2 h1
      unfold fwS at n3
      rw [if_neg (fun q => c1 (fw_lt.mpr q.1))] at n3
      exact n3
theorem m_fewest_loop {w : Wd} {μ : Mo} {M : Nat} {f : Int32} (hM : M < 2 ^ wn w) {I : sw_I} {J : sw_J} {Q : Int32 → sw_I → sw_J → Prop} (hW : isW I w) (hR : relM w μ (I 144)) :
    ∀ (d j : Nat) (o : Option Nat) (I2 : sw_I), j + d = 2 ^ wn w → fwK o → eqm mnsC maF I I2 →
    (∀ I3, eqm mnsC maF I I3 → fwM w μ f (rmL M d j) o = none → Q (-2) I3 J) → (∀ I3 J3 b, eqm mnsC (1 :: maF) I I3 → eqj [141] J J3 → fwM w μ f (rmL M d j) o = some b → tlM I3 J3 [(nI b).toInt64] → Q (nI (pcN b 10)) I3 J3) → wl_X10_fewestOf_5 Q (d + 1) (nI M) f (fwV (-1) o) (nI j) I2 J := by
  have hn := hW.1.2.2.1
  have hp : 2 ^ wn w ≤ 2 ^ 10 := Nat.pow_le_pow_right (by decide) hn
  have ff : ∀ I2, eqm mnsC maF I I2 → (1 : Int32) <<< (I2 140 4 &&& 31) = nI (2 ^ wn w) := fun I2 e => by rw [e.2 _ (by decide), hW.1.2.2.2.2.2.2.1]; exact shl_1 _ hn
  intro d
  induction d with
  | zero =>
    intro j o I2 hk ho h1 h h'
    obtain rfl : j = 2 ^ wn w := by omega
    show wb_X10_fewestOf_5 _ Q _ _ _ _ I2 J
    unfold wb_X10_fewestOf_5
    rw [sw_if_f (by rw [ff I2 h1]; exact nI_nlt (Nat.le_refl _) (by omega))]
    cases o with
    | none =>
      rw [sw_if_t (show fwV (-1) none < 0 by decide)]
      exact h I2 h1 rfl
    | some b =>
      have hb := ho b rfl
      rw [sw_if_f (show ¬ fwV (-1) (some b) < 0 from nI_pos (by omega))]
      intro I3 e3
      refine t_enters (by decide) (tlM_0 e3) (fun I4 J4 x4 j4 t4 => s_J6_bitCount ?_)
      show Q (bcF (nI b)) I4 J4
      rw [bc10 b hb]
      refine h' I4 J4 b ?_ j4 rfl t4
      have q3 : eqm mnsC (1 :: maF) I I3 := by rw [e3]; exact (h1.mono (by decide) (by decide)).upF (by decide) _
      exact q3.tr (x4.mono (by decide) (by decide))
  | succ d ih =>
    intro j o I2 hk ho h1 h h'
    show wb_X10_fewestOf_5 _ Q _ _ _ _ I2 J
    unfold wb_X10_fewestOf_5
    rw [sw_if_t (by rw [ff I2 h1]; exact nI_lt (by omega) (by omega))]
    rw [rmL_s] at h h'
    have keep : ∀ I3, eqm mnsC maF I I3 → (∀ I3, eqm mnsC maF I I3 → fwM w μ f (rmL M d (j + 1)) o = none → Q (-2) I3 J) → (∀ I3 J3 b, eqm mnsC (1 :: maF) I I3 → eqj [141] J J3 → fwM w μ f (rmL M d (j + 1)) o = some b → tlM I3 J3 [(nI b).toInt64] → Q (nI (pcN b 10)) I3 J3) → wB_X10_fewestOf_80 (wl_X10_fewestOf_5 Q (d + 1)) Q (nI M) f (fwV (-1) o) (nI j) I3 J := by
      intro I3 x3 g g' y hy
      rw [hy, nI_1]
      exact ih (j + 1) o I3 (by omega) ho x3 g g'
    have no : ∀ I3, eqm mnsC maF I I3 → (∀ I3, eqm mnsC maF I I3 → fwM w μ f (rmL M d (j + 1)) o = none → Q (-2) I3 J) → (∀ I3 J3 b, eqm mnsC (1 :: maF) I I3 → eqj [141] J J3 → fwM w μ f (rmL M d (j + 1)) o = some b → tlM I3 J3 [(nI b).toInt64] → Q (nI (pcN b 10)) I3 J3) → wB_X10_fewestOf_45 (wl_X10_fewestOf_5 Q (d + 1)) Q (nI M) f (fwV (-1) o) (nI j) I3 J := by
      intro I3 x3 g g'
      unfold wB_X10_fewestOf_45 wB_X10_fewestOf_46
      rw [sw_if_t rfl]
      exact keep I3 x3 g g'
    by_cases cs : sbB M j = true
    · rw [sw_if_t ((sub_iff (by omega) hM hn).mpr cs)]
      rw [if_pos cs] at h h'
      have hj : j < 1024 := by omega
      have yes : fwB o j = true → ∀ I3, eqm mnsC maF I I3 → wB_X10_fewestOf_41 (wl_X10_fewestOf_5 Q (d + 1)) Q (nI M) f (fwV (-1) o) (nI j) I3 J := by
        intro hb I3 x3
        unfold wB_X10_fewestOf_41 wB_X10_fewestOf_46
        rw [sw_if_f (by decide)]
        have e30 : I3 144 (30 : Int32).toNatClampNeg = oI μ := by rw [x3.1 _ (by decide) (by decide)]; exact hR.1.2.1.symm
        rw [e30]
        refine m_stopM (by decide) (by decide) (isW_of x3 (by decide) (by decide) hW) (by rw [x3.1 _ (by decide) (by decide)]; exact hR) (fun I4 x4 => ?_)
        have x4' := x3.tr (x4.mono (by decide) (by decide))
        unfold fwM at h h'
        by_cases c2 : stM w μ (oI μ ^^^ nI j) = f
        · rw [sw_if_t c2]
          unfold fwS at h h'
          rw [if_pos ⟨hb, c2⟩] at h h'
          intro y hy
          rw [hy, nI_1]
          exact ih (j + 1) (some j) I4 (by omega) (fun b hb => by obtain rfl := Option.some.inj hb; exact hj) x4' h h'
        · rw [sw_if_f c2]
          unfold fwS at h h'
          rw [if_neg (fun q => c2 q.2)] at h h'
          exact keep I4 x4' h h'
      cases o with
      | none =>
        rw [sw_if_t (show fwV (-1) none < 0 by decide)]
        exact yes rfl I2 h1
      | some b =>
        have hb := ho b rfl
        have e1 : bcF (fwV (-1) (some b)) = fwN (some b) := bc10 b hb
        rw [sw_if_f (show ¬ fwV (-1) (some b) < 0 from nI_pos (by omega))]
        refine s_J6_bitCount (s_J6_bitCount ?_)
        rw [bc10 j hj, e1]
        by_cases c1 : nI (pcN j 10) < fwN (some b)
        · rw [sw_if_t c1]
          exact yes (fw_lt.mp c1) I2 h1
        · rw [sw_if_f c1]
          unfold fwM fwS at h h'
          rw [if_neg (fun q => c1 (fw_lt.mpr q.1))] at h h'
          exact no I2 h1 h h'
    · rw [sw_if_f (fun q => cs ((sub_iff (by omega) hM hn).mp q))]
      rw [if_neg cs] at h h'
      exact no I2 h1 h h'
theorem fewest_both {c : Nat} {I : sw_I} {J : sw_J} {n fl m q p r t s z M : Nat} {x : Int32} (hw : wR c I J n fl m q p r t s z) (hM : M < 2 ^ n) {Q : Int32 → Int32 → sw_I → sw_J → Prop} (hQ : ∀ v I2 J2, wW c I2 J2 → I2 140 0 = 0 → Q v v I2 J2)
    {mw : (Int32 → sw_I → sw_J → Prop) → sw_I → sw_J → Prop} (hm0 : (x < 0 ∨ nI fl ≤ x) → ∀ Q2 I2 J2, eqm (0 :: scrC) (1 :: scrF) I I2 → (∀ I3, I3 = sw_up I2 140 0 0 → Q2 (-1) I3 J2) → mw Q2 I2 J2) (hm1 : (∃ k, k < fl ∧ x = nI k) → ∀ Q2 I2 J2, eqm (0 :: scrC) (1 :: scrF) I I2 → (∀ I3, I3 = sw_up I2 140 0 0 → wp_X10_fewestOf (nI M) x I3 J2 Q2) → mw Q2 I2 J2) :
    wp_X9_fewestMoved x (nI M) I J (fun r I1 J1 => mw (fun r2 I2 J2 => Q r r2 I2 J2) I1 J1) := by
  obtain ⟨h0, h1, h2, h3, h4, h5, h6, h7, h8⟩ := id hw
  have hn := h1.2.2.1
  have hp : 2 ^ n ≤ 2 ^ 10 := Nat.pow_le_pow_right (by decide) hn
  have hW := isW_O h1 h2
  generalize hμ : moC I 13 = μ
  have hE : moE I 13 μ := by rw [← hμ]; exact moE_C _ _
  have hR : relM (wdO I m n fl) μ (I 144) := by rw [← hμ]; exact h3
  unfold wp_X9_fewestMoved
  refine s_X1_hasFloor h1.2.1 h1.2.2.2.1 (fun co => ?_) (fun k hk ek => ?_)
  · rw [sw_if_t rfl]
    exact hm0 co _ I J eqm.rf (fun I3 e3 => hQ _ I3 J (th_of hw e3).1 (th_of hw e3).2)
  · rw [sw_if_f (by decide)]
    refine s_X9_setsOf hM hn ⟨(SL M n).length + 1, ?_⟩
    refine s_fewest_loop (w := wdO I m n fl) (SL_len_le hn) hW hE (SL M n) 0 0 none I (by omega) (SL_chn hM hn) (fun j hj => by have := (SL_mem hn j hj).1; omega) (fun b hb => by cases hb) eqx.rf (fun I3 x3 e3 => ?_) (fun I3 J3 b x3 j3 e3 t3 => ?_)
    · have s3 : eqm scrC scrF I I3 := x3.eqm (by decide) (by decide)
      refine hm1 ⟨k, hk, ek⟩ _ I3 J (s3.mono (by decide) (by decide)) (fun I4 e4 => ?_)
      have s4 : eqm scrC scrF I I4 := by rw [e4]; exact s3.upF (by decide) _
      have n4 : I4 144 = I 144 := s4.1 _ (by decide) (by decide)
      refine ⟨2 ^ n + 1, m_fewest_loop (w := wdO I m n fl) (μ := μ) hM (isW_of s4 (by decide) (by decide) hW) (by rw [n4]; exact hR) (2 ^ n) 0 none I4 (Nat.zero_add _) (fun b hb => by cases hb) eqm.rf (fun I5 x5 e5 => ?_) (fun I5 J5 b x5 j5 e5 t5 => ?_)⟩
      · exact hQ _ I5 J ⟨n, fl, m, q, p, r, t, s, z, wR_scr hw (s4.tr (x5.mono (by decide) (by decide))) rfl rfl⟩ (by rw [x5.2 _ (by decide), e4, sw_up_same])
      · exact absurd (e3.symm.trans e5) (by simp)
    · have s3 : eqm (0 :: scrC) (1 :: scrF) I I3 := x3.eqm (by decide) (by decide)
      refine hm1 ⟨k, hk, ek⟩ _ I3 J3 s3 (fun I4 e4 => ?_)
      have s4 : eqm (0 :: scrC) (1 :: scrF) I I4 := by rw [e4]; exact s3.upF (by decide) _
      have n4 : I4 144 = I 144 := s4.1 _ (by decide) (by decide)
      refine ⟨2 ^ n + 1, m_fewest_loop (w := wdO I m n fl) (μ := μ) hM (isW_of s4 (by decide) (by decide) hW) (by rw [n4]; exact hR) (2 ^ n) 0 none I4 (Nat.zero_add _) (fun b hb => by cases hb) eqm.rf (fun I5 x5 e5 => ?_) (fun I5 J5 b2 x5 j5 e5 t5 => ?_)⟩
      · exact absurd (e3.symm.trans e5) (by simp)
      · have eb : b2 = b := (Option.some.inj (e3.symm.trans e5)).symm
        subst eb
        refine hQ _ I5 J5 (told_fin (L := [(nI b2).toInt64]) hw (s4.tr (x5.mono (by decide) (by decide))) (by simp) (tlC_of t3 ?_ (j5 _ (by decide))) t5) ?_
        · rw [x5.1 _ (by decide) (by decide), e4, sw_up_row _ _ _ (by decide)]
        · rw [x5.2 _ (by decide), e4, sw_up_same]
theorem p_along {c : Nat} {x1 : Int32} {I : sw_I} {J : sw_J} {Q : Int32 → Int32 → sw_I → sw_J → Prop} (h : wW c I J) (hQ : ∀ v I2 J2, wW c I2 J2 → I2 140 0 = 0 → Q v v I2 J2) :
    wp_X9_along x1 I J (fun r I1 J1 => wp_X10_along x1 I1 J1 (fun r2 I2 J2 => Q r r2 I2 J2)) := by
  obtain ⟨n, fl, m, q, p, r, t, s, z, hw⟩ := h
  obtain ⟨h0, h1, h2, h3, h4, h5, h6, h7, h8⟩ := id hw
  have hn := h1.2.2.1
  have hr := h1.2.2.2.2.2.2.1
  have ht : bs (fun i => decide (I (13 + 1) i = I 13 4)) 10 = bs (fun i => decide (I 144 i = I 144 31)) n := on_rel hn h1.2.1 h3.1 h3.2
  have e30 : I 144 30 = I 13 3 := h3.1.2.1.symm
  obtain ⟨M, hM, eM⟩ := bN_ix hn (bN_and (y := I 13 3 ^^^ (-1)) (bN_bs (fun i => decide (I 144 i = I 144 31)) (n := n) (by omega)))
  unfold wp_X9_along
  refine s_X3_onFloor ?_
  rw [ht, eM]
  refine fewest_both (mw := fun Q2 I2 J2 => wp_X10_along x1 I2 J2 Q2) hw hM hQ (fun co Q2 I2 J2 s2 h I3 e3 => ?_) (fun ok Q2 I2 J2 s2 h I3 e3 => ?_)
  · have f3 : I3 140 3 = nI fl := by rw [e3, sw_up_slot _ _ _ _ (by decide), s2.2 _ (by decide)]; exact h1.2.2.2.2.1
    refine s_X10_isFloor (n := fl) (by have := h1.2.1; omega) f3 (fun _ => ?_) (fun k hk ek => absurd co (fun w => ix_out (by have := h1.2.1; omega) hk ek w))
    rw [sw_if_t rfl]; exact h I3 e3
  · have f3 : I3 140 3 = nI fl := by rw [e3, sw_up_slot _ _ _ _ (by decide), s2.2 _ (by decide)]; exact h1.2.2.2.2.1
    have s3 : eqm (0 :: scrC) (1 :: scrF) I I3 := by rw [e3]; exact s2.upF (by decide) _
    have n3 : I3 144 = I 144 := s3.1 _ (by decide) (by decide)
    obtain ⟨k0, hk0, ek0⟩ := ok
    refine s_X10_isFloor (n := fl) (by have := h1.2.1; omega) f3 (fun co => absurd co (fun w => ix_out (by have := h1.2.1; omega) hk0 ek0 w)) (fun k hk ek => ?_)
    rw [sw_if_f (by decide)]
    refine s_X10_there hn (by decide) (by decide) (by rw [s3.2 _ (by decide)]; exact hr) ?_
    have e30' : I3 144 (30 : Int32).toNatClampNeg = I 13 3 := by rw [n3]; exact e30
    rw [e30', n3, eM]
    exact h I3 e3
theorem p_without {c : Nat} {x1 : Int32} {I : sw_I} {J : sw_J} {Q : Int32 → Int32 → sw_I → sw_J → Prop} (h : wW c I J) (hQ : ∀ v I2 J2, wW c I2 J2 → I2 140 0 = 0 → Q v v I2 J2) :
    wp_X9_without x1 I J (fun r I1 J1 => wp_X10_without x1 I1 J1 (fun r2 I2 J2 => Q r r2 I2 J2)) := by
  obtain ⟨n, fl, m, q, p, r, t, s, z, hw⟩ := h
  obtain ⟨h0, h1, h2, h3, h4, h5, h6, h7, h8⟩ := id hw
  have hn := h1.2.2.1
  have hr := h1.2.2.2.2.2.2.1
  have e30 : I 144 30 = I 13 3 := h3.1.2.1.symm
  obtain ⟨M, hM, eM⟩ := bN_ix (x := I 13 3) hn (fun k hk hb => (h3.2.2.2.2 k hk hb).1)
  unfold wp_X9_without
  rw [eM]
  refine fewest_both (mw := fun Q2 I2 J2 => wp_X10_without x1 I2 J2 Q2) hw hM hQ (fun co Q2 I2 J2 s2 h I3 e3 => ?_) (fun ok Q2 I2 J2 s2 h I3 e3 => ?_)
  · have f3 : I3 140 3 = nI fl := by rw [e3, sw_up_slot _ _ _ _ (by decide), s2.2 _ (by decide)]; exact h1.2.2.2.2.1
    refine s_X10_isFloor (n := fl) (by have := h1.2.1; omega) f3 (fun _ => ?_) (fun k hk ek => absurd co (fun w => ix_out (by have := h1.2.1; omega) hk ek w))
    rw [sw_if_t rfl]; exact h I3 e3
  · have f3 : I3 140 3 = nI fl := by rw [e3, sw_up_slot _ _ _ _ (by decide), s2.2 _ (by decide)]; exact h1.2.2.2.2.1
    have s3 : eqm (0 :: scrC) (1 :: scrF) I I3 := by rw [e3]; exact s2.upF (by decide) _
    have n3 : I3 144 = I 144 := s3.1 _ (by decide) (by decide)
    obtain ⟨k0, hk0, ek0⟩ := ok
    refine s_X10_isFloor (n := fl) (by have := h1.2.1; omega) f3 (fun co => absurd co (fun w => ix_out (by have := h1.2.1; omega) hk0 ek0 w)) (fun k hk ek => ?_)
    rw [sw_if_f (by decide)]
    have e30' : I3 144 (30 : Int32).toNatClampNeg = nI M := by rw [n3, ← eM]; exact e30
    rw [e30']
    exact h I3 e3
