/-! promises: all, one, gather -/
theorem rb_R {c : Nat} (hc : c ≤ 100000) {I : sw_I} (h : rbR c I) : ∃ R, R < 2 ^ 31 ∧ I 13 5 = nI R := by
  obtain ⟨R, hR, eR⟩ := h.1 13 mv_now
  exact ⟨R, by omega, eR⟩
theorem c_till {w : Wd} {μ : Mo} {row : Nat → Int32} {R : Nat} {T : Int32} {I : sw_I} {J : sw_J} {Q : Int32 → sw_I → sw_J → Prop} (hW : isW I w) (hE : moE I 13 μ) (hM : relM w μ row) (hR : oR μ = nI R) (hR2 : R < 2 ^ 31) (hask : I 6 5 = 0)
    (h0 : (skE w μ.2.1 (k0M μ) (wtB 1 T 0) 3000).1 = none → ∀ I2 J2, eqx skC I I2 → eqj [125] J J2 → Q (if (skE w μ.2.1 (k0M μ) (wtB 1 T 0) 3000).2.2 = true then -3 else -2) I2 J2)
    (h1 : ∀ g, (skE w μ.2.1 (k0M μ) (wtB 1 T 0) 3000).1 = some g → ∀ I2 J2, eqx (0 :: skC) I I2 → eqj [125, 118] J J2 → tlC I2 J2 (wyL (skE w μ.2.1 (k0M μ) (wtB 1 T 0) 3000).2.1 g (fE (skE w μ.2.1 (k0M μ) (wtB 1 T 0) 3000).2.1 g) (min (fE (skE w μ.2.1 (k0M μ) (wtB 1 T 0) 3000).2.1 g) 10)) → Q (nI (fE (skE w μ.2.1 (k0M μ) (wtB 1 T 0) 3000).2.1 g)) I2 J2) : wp_X9_ridesTillHome T I J Q := by
  have kv := k0_v hW.1.2.2.1 hW.1.2.1 hM
  unfold wp_X9_ridesTillHome
  rw [show I 6 5 = 0 from hask, sw_if_t rfl]
  intro I1 e1 I3 e3
  have x3 : eqx skC I I3 := by rw [e3, e1]; exact (eqx.rf.up (by decide) _ _).up (by decide) _ _
  have W3 : isW I3 w := isW_of (x3.eqm (C := skC) (F := []) (fun _ q => q) (by decide)) (by decide) (by decide) hW
  have E3 : moE I3 13 μ := moE_cong (fun c c1 c2 => x3 c (by simp; omega)) hE
  have wt3 : wtC I3 1 T 0 := ⟨by decide, by rw [e3, sw_up_slot _ _ _ _ (by decide), e1]; exact sw_up_same _ _ _ _, fun _ => by rw [e3]; exact sw_up_same _ _ _ _, fun q => by cases q⟩
  show wp_X6_seek 13 (nI 3000) I3 J _
  refine c_seek (w := w) (μ := μ) (row := row) (a := 1) (T := T) (f := 0) (deep := 3000) (by omega) W3 E3 hM hR hR2 wt3 (fun I4 J4 x4 j4 c4 r4 => ?_)
  obtain ⟨⟨k2, wf⟩, glt⟩ := skE_wf hW (wi := μ.2.1) (want := wtB 1 T 0) (deep := 3000) kv
  generalize skE w μ.2.1 (k0M μ) (wtB 1 T 0) 3000 = S at h0 h1 c4 r4 wf glt ⊢
  cases hg : S.1 with
  | none =>
    have := h0 hg I4 J4 (x3.tr x4) j4
    rw [sw_if_t (show goV none < 0 by decide), show I4 120 6 = bI S.2.2 from c4.2.1]
    cases hb : S.2.2
    · rw [hb] at this; rw [sw_if_t (by rfl)]; exact this
    · rw [hb] at this; rw [sw_if_f (by decide)]; exact this
  | some g =>
    have gl := glt g hg
    have := wf.2.1
    rw [sw_if_f (show ¬ goV (some g) < 0 from nI_pos (by omega))]
    refine c_tellPlan wf gl rfl c4 (r4 g hg) (fun I5 J5 x5 j5 t5 => ?_)
    rw [show I5 120 5 = nI (fE S.2.1 g) by rw [x5 _ (by decide)]; exact r4 g hg]
    exact h1 g hg I5 J5 ((x3.mono (by decide)).tr ((x4.mono (by decide)).tr (x5.mono (by decide)))) ((j4.mono (by decide)).tr (j5.mono (by decide))) t5
theorem p_till {c : Nat} (hc : c ≤ 100000) {T x : Int32} {I : sw_I} {J : sw_J} {n fl m q p r t s z : Nat} {Q : Int32 → Int32 → sw_I → sw_J → Prop} {Qc : Int32 → sw_I → sw_J → Prop} (hw : wR c I J n fl m q p r t s z) (hQ : ∀ v I2 J2, wW c I2 J2 → I2 140 0 = 0 → Q v v I2 J2)
    (hpost : ∀ r I1 J1, I1 140 = I 140 → (∀ I3, eqm [] [0, 51] I1 I3 → I3 140 0 = 0 → (∀ I5, eqm [] [50] I3 I5 → I5 140 50 = x → amR n I5 1 T 0) → wp_X10_seeks x I3 J1 (fun r3 I4 J5 => wp_X10_tellsWay r3 I4 J5 (fun r6 I7 J8 => Q r r6 I7 J8))) → Qc r I1 J1) : wp_X9_ridesTillHome T I J Qc := by
  obtain ⟨h0, h1, h2, h3, h4, h5, h6, h7, h8⟩ := id hw
  have hW := isW_O h1 h2
  obtain ⟨R, hR2, hR⟩ := rb_R hc h0.2
  have neg : ∀ v : Int32, v < 0 → ∀ I4 J4, Q v v I4 J4 → wp_X10_tellsWay v I4 J4 (fun r6 I7 J8 => Q v r6 I7 J8) := fun v hv I4 J4 hq => by
    unfold wp_X10_tellsWay
    rw [sw_if_t hv]; exact hq
  by_cases ha : I 6 5 = 0
  · generalize hμ : moC I 13 = μ
    have hE : moE I 13 μ := by rw [← hμ]; exact moE_C _ _
    have hM : relM (wdO I m n fl) μ (I 144) := by rw [← hμ]; exact h3
    have hoR : oR μ = nI R := by rw [← hμ]; exact hR
    have kv := k0_v hW.1.2.2.1 hW.1.2.1 hM
    obtain ⟨⟨k2, wf⟩, glt⟩ := skE_wf hW (wi := μ.2.1) (want := wtB 1 T 0) (deep := 3000) kv
    refine c_till hW hE hM hoR hR2 ha (fun hN I2 J2 x2 j2 => hpost _ I2 J2 (x2 _ (by decide)) (fun I3 e3 t3 am3 => ?_)) (fun g hg I2 J2 x2 j2 t2 => hpost _ I2 J2 (x2 _ (by decide)) (fun I3 e3 t3 am3 => ?_))
    · have q3 : eqm scrC scrF I I3 := (x2.eqm (by decide) (by decide)).tr (e3.mono (by decide) (by decide))
      have W3 : isW I3 (wdO I m n fl) := isW_of q3 (by decide) (by decide) hW
      refine m_seeks (w := wdO I m n fl) (μ := μ) (a := 1) (T := T) (f := 0) W3 (by rw [q3.1 _ (by decide) (by decide)]; exact hM) hoR hR2 (by rw [q3.1 _ (by decide) (by decide)]; exact ha) am3 (fun _ I4 J4 x4 j4 => ?_) (fun g hg => by rw [hN] at hg; cases hg)
      refine neg _ ?_ I4 J4 (hQ _ I4 J4 ⟨n, fl, m, q, p, r, t, s, z, wR_scr hw (q3.tr (x4.mono (by decide) (by decide))) ?_ ?_⟩ ?_)
      · split <;> decide
      · rw [j4 _ (by decide), j2 _ (by decide)]
      · rw [j4 _ (by decide), j2 _ (by decide)]
      · rw [x4.2 _ (by decide)]; exact t3
    · have q3 : eqm (0 :: scrC) scrF I I3 := (x2.eqm (by decide) (by decide)).tr (e3.mono (by decide) (by decide))
      have W3 : isW I3 (wdO I m n fl) := isW_of q3 (by decide) (by decide) hW
      refine m_seeks (w := wdO I m n fl) (μ := μ) (a := 1) (T := T) (f := 0) W3 (by rw [q3.1 _ (by decide) (by decide)]; exact hM) hoR hR2 (by rw [q3.1 _ (by decide) (by decide)]; exact ha) am3 (fun hN => by rw [hg] at hN; cases hN) (fun g2 hg2 T9 m9 I4 J4 x4 j4 c4 => ?_)
      have eg : g = g2 := by rw [hg] at hg2; injection hg2
      subst eg
      refine m_tellsWay wf (glt g hg) rfl c4 (fun I5 J5 x5 j5 t5 => ?_)
      have e5 : eqm (0 :: scrC) (1 :: scrF) I I5 := ((q3.mono (by decide) (by decide)).tr (x4.mono (by decide) (by decide))).tr (x5.mono (by decide) (by decide))
      refine hQ _ I5 J5 (told_fin hw e5 ?_ (tlC_of t2 ?_ ?_) t5) ?_
      · rw [wyL_len]; omega
      · rw [x5.1 _ (by decide) (by decide), x4.1 _ (by decide) (by decide), e3.1 _ (by decide) (by decide)]
      · rw [j5 _ (by decide), j4 _ (by decide)]
      · rw [x5.2 _ (by decide), x4.2 _ (by decide)]; exact t3
  · unfold wp_X9_ridesTillHome
    rw [sw_if_f (show ¬ I 6 5 = 0 from ha)]
    refine hpost _ I J rfl (fun I3 e3 t3 am3 => ?_)
    have q3 : eqm scrC scrF I I3 := e3.mono (by decide) (by decide)
    have W3 : isW I3 (wdO I m n fl) := isW_of q3 (by decide) (by decide) hW
    unfold wp_X10_seeks
    refine m_counts W3.2.1 ?_
    rw [sw_if_f (by rw [q3.1 _ (by decide) (by decide)]; exact ha)]
    exact neg _ (by decide) I3 J (hQ _ I3 J ⟨n, fl, m, q, p, r, t, s, z, wR_scr hw q3 rfl rfl⟩ t3)
theorem far_at {n g : Nat} {L T9 : List En} {m : Bool} {I : sw_I} {J : sw_J} (h : mlS n I J (L ++ T9) m) (hg : g < L.length) : I 164 g = nI (fE L g) := by
  have := (h.2.2.1 g (by rw [List.length_append]; omega)).2.2.2
  rw [this]; unfold fE; rw [geE_app hg]
theorem far_fin {g : Nat} (hg : g < 3000) {v : Int32} {I : sw_I} {J : sw_J} {Q : Int32 → sw_I → sw_J → Prop} (e : I 164 g = v) (h : Q v I J) : sw_if (nI g < 0) (Q (nI g) I J) (vp_in (nI g) 3000 ∧ Q (I 164 (nI g).toNatClampNeg) I J) := by
  rw [sw_if_f (nI_pos (by omega)), nI_clamp (by omega), e]
  exact ⟨vp0 hg (by decide), h⟩
theorem p_all {c : Nat} (hc : c ≤ 100000) {I : sw_I} {J : sw_J} {Q : Int32 → Int32 → sw_I → sw_J → Prop} (h : wW c I J) (hQ : ∀ v I2 J2, wW c I2 J2 → I2 140 0 = 0 → Q v v I2 J2) :
    wp_X9_all I J (fun r I1 J1 => wp_X10_all I1 J1 (fun r2 I2 J2 => Q r r2 I2 J2)) := by
  obtain ⟨n, fl, m, q, p, r, t, s, z, hw⟩ := h
  unfold wp_X9_all
  refine s_X1_everybody (n := n) hw.2.1.2.2.2.2.2.1 ?_
  refine p_till (x := 0) hc hw hQ (fun r I1 J1 _ hp => ?_)
  intro I3 e3
  refine hp I3 (by rw [e3]; exact eqm.rf.upF (by decide) _) (by rw [e3]; exact sw_up_same _ _ _ _) (fun I5 e5 a5 => Or.inl ⟨a5, rfl, rfl⟩)
theorem p_one {c : Nat} (hc : c ≤ 100000) {x1 : Int32} {I : sw_I} {J : sw_J} {Q : Int32 → Int32 → sw_I → sw_J → Prop} (h : wW c I J) (hQ : ∀ v I2 J2, wW c I2 J2 → I2 140 0 = 0 → Q v v I2 J2) :
    wp_X9_one x1 I J (fun r I1 J1 => wp_X10_one x1 I1 J1 (fun r2 I2 J2 => Q r r2 I2 J2)) := by
  obtain ⟨n, fl, m, q, p, r, t, s, z, hw⟩ := h
  have hn := hw.2.1.2.2.1
  have hr := hw.2.1.2.2.2.2.2.2.1
  unfold wp_X9_one
  refine s_X1_hasRider hn hw.2.1.2.2.2.2.2.1 (fun co => ?_) (fun k hk ek => ?_)
  · rw [sw_if_t rfl]
    intro I3 e3
    refine s_X10_isRider hn (by rw [e3, sw_up_slot _ _ _ _ (by decide)]; exact hr) (fun _ => ?_) (fun k2 hk2 ek2 => (ix_out (n := n) (by omega) hk2 ek2 co).elim)
    rw [sw_if_t rfl]
    exact hQ _ I3 J (th_of hw e3).1 (th_of hw e3).2
  · rw [sw_if_f (by decide)]
    refine p_till (x := 1) hc hw hQ (fun r9 I1 J1 m1 hp => ?_)
    intro I3 e3
    refine s_X10_isRider hn (by rw [e3, sw_up_slot _ _ _ _ (by decide), m1]; exact hr) (fun co => (ix_out (n := n) (by omega) hk ek co).elim) (fun _ _ _ => ?_)
    rw [sw_if_f (by decide)]
    intro I7 e7
    refine hp I7 (by rw [e7, e3]; exact (eqm.rf.upF (by decide) _).upF (by decide) _) (by rw [e7, sw_up_slot _ _ _ _ (by decide), e3]; exact sw_up_same _ _ _ _) (fun I5 e5 a5 => Or.inr (Or.inl ⟨a5, rfl, k, hk, ?_, by rw [ek]⟩))
    rw [e5.2 _ (by decide), e7]
    exact (sw_up_same _ _ _ _).trans ek
theorem p_gather {c : Nat} (hc : c ≤ 100000) {x1 x2 : Int32} {I : sw_I} {J : sw_J} {Q : Int32 → Int32 → sw_I → sw_J → Prop} (h : wW c I J) (hQ : ∀ v I2 J2, wW c I2 J2 → I2 140 0 = 0 → Q v v I2 J2) :
    wp_X9_gather x1 x2 I J (fun r I1 J1 => wp_X10_gather x1 x2 I1 J1 (fun r2 I2 J2 => Q r r2 I2 J2)) := by
  obtain ⟨n, fl, m, q, p, r, t, s, z, hw⟩ := h
  obtain ⟨h0, h1, h2, h3, h4, h5, h6, h7, h8⟩ := id hw
  have hn := h1.2.2.1
  have h9 := h1.2.1
  have hr := h1.2.2.2.2.2.2.1
  have hf := h1.2.2.2.2.1
  have hW := isW_O h1 h2
  obtain ⟨R, hR2, hR⟩ := rb_R hc h0.2
  unfold wp_X9_gather
  refine s_X1_hasFloor h9 h1.2.2.2.1 (fun co => ?_) (fun k hk ek => ?_)
  · rw [sw_if_t rfl]
    intro I3 e3
    refine s_X10_isFloor (n := fl) (by omega) (by rw [e3, sw_up_slot _ _ _ _ (by decide)]; exact hf) (fun _ => ?_) (fun k2 hk2 ek2 => (ix_out (by omega) hk2 ek2 co).elim)
    rw [sw_if_t rfl]
    exact hQ _ I3 J (th_of hw e3).1 (th_of hw e3).2
  rw [sw_if_f (by decide)]
  refine s_X1_everybody (n := n) h1.2.2.2.2.2.1 ?_
  by_cases cs : x2 &&& ((((1 : Int32) <<< (nI n &&& 31)) - 1) ^^^ (-1)) = 0
  · rw [sw_if_t cs]
    obtain ⟨js, hjs, ejs⟩ := set_ix hn cs
    -- the reference's way to its search
    have ref : ∀ (v : Int32) (I1 : sw_I) (J1 : sw_J), I1 140 = I 140 → (∀ I3, eqm [] [0, 51, 52] I1 I3 → I3 140 0 = 0 → (∀ I5, eqm [] [50] I3 I5 → I5 140 50 = 2 → amR n I5 2 x2 x1) → wp_X10_seeks 2 I3 J1 (fun r_15 I_16 J_17 => sw_if (r_15 < 0) (Q v r_15 I_16 J_17) (vp_in r_15 3000 ∧ Q v (I_16 164 r_15.toNatClampNeg) I_16 J_17))) → wp_X10_gather x1 x2 I1 J1 (fun r2 I2 J2 => Q v r2 I2 J2) := by
      intro v I1 J1 m1 hp
      intro I3 e3
      refine s_X10_isFloor (n := fl) (by omega) (by rw [e3, sw_up_slot _ _ _ _ (by decide), m1]; exact hf) (fun co => (ix_out (by omega) hk ek co).elim) (fun _ _ _ => ?_)
      rw [sw_if_f (by decide), show I3 140 4 = nI n by rw [e3, sw_up_slot _ _ _ _ (by decide), m1]; exact hr]
      refine s_X10_inSet (n := n) hn rfl (fun co => absurd ⟨js, hjs, ejs⟩ co) (fun _ _ _ => ?_)
      rw [sw_if_f (by decide)]
      intro I11 e11 I13 e13
      refine hp I13 (by rw [e13, e11, e3]; exact ((eqm.rf.upF (by decide) _).upF (by decide) _).upF (by decide) _) (by rw [e13, sw_up_slot _ _ _ _ (by decide), e11, sw_up_slot _ _ _ _ (by decide), e3]; exact sw_up_same _ _ _ _) (fun I5 e5 a5 => Or.inr (Or.inr ⟨a5, rfl, ?_, ?_⟩))
      · rw [e5.2 _ (by decide), e13, sw_up_slot _ _ _ _ (by decide), e11]; exact sw_up_same _ _ _ _
      · rw [e5.2 _ (by decide), e13]; exact sw_up_same _ _ _ _
    by_cases ha : I 6 5 = 0
    · rw [show I 6 5 = 0 from ha, sw_if_t rfl]
      generalize hμ : moC I 13 = μ
      have hE : moE I 13 μ := by rw [← hμ]; exact moE_C _ _
      have hM : relM (wdO I m n fl) μ (I 144) := by rw [← hμ]; exact h3
      have hoR : oR μ = nI R := by rw [← hμ]; exact hR
      have kv := k0_v hW.1.2.2.1 hW.1.2.1 hM
      obtain ⟨⟨k2, wf⟩, glt⟩ := skE_wf hW (wi := μ.2.1) (want := wtB 2 x2 x1) (deep := 3000) kv
      intro I1 e1 I3 e3 I5 e5
      have x5 : eqx skC I I5 := by rw [e5, e3, e1]; exact ((eqx.rf.up (by decide) _ _).up (by decide) _ _).up (by decide) _ _
      have W5 : isW I5 (wdO I m n fl) := isW_of (x5.eqm (C := skC) (F := []) (fun _ q => q) (by decide)) (by decide) (by decide) hW
      have E5 : moE I5 13 μ := moE_cong (fun c c1 c2 => x5 c (by simp; omega)) hE
      have wt5 : wtC I5 2 x2 x1 := ⟨by decide, by rw [e5, sw_up_slot _ _ _ _ (by decide), e3, sw_up_slot _ _ _ _ (by decide), e1]; exact sw_up_same _ _ _ _, fun _ => by rw [e5]; exact sw_up_same _ _ _ _, fun _ => by rw [e5, sw_up_slot _ _ _ _ (by decide), e3]; exact sw_up_same _ _ _ _⟩
      show wp_X6_seek 13 (nI 3000) I5 J _
      refine c_seek (w := wdO I m n fl) (μ := μ) (row := I 144) (a := 2) (T := x2) (f := x1) (deep := 3000) (by omega) W5 E5 hM hoR hR2 wt5 (fun I6 J6 x6 j6 c6 r6 => ?_)
      have e6 : eqx skC I I6 := x5.tr x6
      generalize hS : skE (wdO I m n fl) μ.2.1 (k0M μ) (wtB 2 x2 x1) 3000 = S at c6 r6 wf glt ⊢
      have rest : ∀ v : Int32, (S.1 = none → v = if S.2.2 = true then -3 else -2) → (∀ g, S.1 = some g → v = nI (fE S.2.1 g)) → wp_X10_gather x1 x2 I6 J6 (fun r2 I2 J2 => Q v r2 I2 J2) := by
        intro v v0 v1
        refine ref v I6 J6 (e6 _ (by decide)) (fun I7 e7 t7 am7 => ?_)
        have q7 : eqm scrC scrF I I7 := (e6.eqm (by decide) (by decide)).tr (e7.mono (by decide) (by decide))
        have W7 : isW I7 (wdO I m n fl) := isW_of q7 (by decide) (by decide) hW
        have fin : ∀ I8 J8, eqm msC (50 :: msF) I7 I8 → eqj [161] J6 J8 → Q v v I8 J8 := fun I8 J8 x8 j8 => by
          refine hQ _ I8 J8 ⟨n, fl, m, q, p, r, t, s, z, wR_scr hw (q7.tr (x8.mono (by decide) (by decide))) ?_ ?_⟩ ?_
          · rw [j8 _ (by decide), j6 _ (by decide)]
          · rw [j8 _ (by decide), j6 _ (by decide)]
          · rw [x8.2 _ (by decide)]; exact t7
        refine m_seeks (w := wdO I m n fl) (μ := μ) (a := 2) (T := x2) (f := x1) W7 (by rw [q7.1 _ (by decide) (by decide)]; exact hM) hoR hR2 (by rw [q7.1 _ (by decide) (by decide)]; exact ha) am7 (fun hN I8 J8 x8 j8 => ?_) (fun g hg T9 m9 I8 J8 x8 j8 c8 => ?_)
        · rw [hS] at hN ⊢
          rw [← v0 hN]
          have hneg : v < 0 := by rw [v0 hN]; split <;> decide
          rw [sw_if_t hneg]; exact fin I8 J8 x8 j8
        · rw [hS] at hg c8
          have gl := glt g hg
          have l3 := wf.2.1
          have ef := far_at c8 gl
          rw [← v1 g hg] at ef
          exact far_fin (by omega) ef (fin I8 J8 x8 j8)
      cases hg : S.1 with
      | none =>
        rw [sw_if_t (show goV none < 0 by decide), show I6 120 6 = bI S.2.2 from c6.2.1]
        cases hb : S.2.2
        · rw [sw_if_t (by rfl)]; exact rest _ (fun _ => by rw [hb]; rfl) (fun g hg2 => by rw [hg] at hg2; cases hg2)
        · rw [sw_if_f (by decide)]; exact rest _ (fun _ => by rw [hb]; rfl) (fun g hg2 => by rw [hg] at hg2; cases hg2)
      | some g =>
        have gl := glt g hg
        have := wf.2.1
        rw [sw_if_f (show ¬ goV (some g) < 0 from nI_pos (by omega)), show I6 120 5 = nI (fE S.2.1 g) from r6 g hg]
        refine rest _ (fun hN => by rw [hg] at hN; cases hN) (fun g2 hg2 => ?_)
        have eg : g = g2 := by rw [hg] at hg2; injection hg2
        rw [eg]
    · rw [sw_if_f (show ¬ I 6 5 = 0 from ha)]
      refine ref _ I J rfl (fun I3 e3 t3 am3 => ?_)
      have q3 : eqm scrC scrF I I3 := e3.mono (by decide) (by decide)
      have W3 : isW I3 (wdO I m n fl) := isW_of q3 (by decide) (by decide) hW
      unfold wp_X10_seeks
      refine m_counts W3.2.1 ?_
      rw [sw_if_f (by rw [q3.1 _ (by decide) (by decide)]; exact ha)]
      dsimp only
      rw [sw_if_t (by decide)]
      exact hQ _ I3 J ⟨n, fl, m, q, p, r, t, s, z, wR_scr hw q3 rfl rfl⟩ t3
  · rw [sw_if_f cs]
    intro I3 e3
    refine s_X10_isFloor (n := fl) (by omega) (by rw [e3, sw_up_slot _ _ _ _ (by decide)]; exact hf) (fun co => (ix_out (by omega) hk ek co).elim) (fun _ _ _ => ?_)
    rw [sw_if_f (by decide), show I3 140 4 = nI n by rw [e3, sw_up_slot _ _ _ _ (by decide)]; exact hr]
    refine s_X10_inSet (n := n) hn rfl (fun co => ?_) (fun j hj ej => absurd (by rw [ej]; exact ix_set hn hj) cs)
    rw [sw_if_t rfl]
    exact hQ _ I3 J (th_of hw e3).1 (th_of hw e3).2
