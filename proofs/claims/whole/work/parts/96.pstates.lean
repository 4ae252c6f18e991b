/-! promises: states, stuck -/
theorem wtB_0 (T f : Int32) : wtB 0 T f = noW := by funext K; rfl
def ehF (L : List En) : Nat → Int32
  | 0 => 0
  | k + 1 => ehF L k ||| onK (kE L k) (-1)
def esF (L : List En) : Nat → Int32
  | 0 => 0
  | k + 1 => esF L k ||| ((1 : Int32) <<< (nI (lfK (kE L k)) &&& 31))
theorem c_everHome {L : List En} {m : Bool} (hL : L.length ≤ 3000) (hk : ∀ i, i < L.length → kE L i < 2 ^ 47) {I : sw_I} {J : sw_J} {Q : Int32 → sw_I → sw_J → Prop} (hcl : clS I J L m) (h : Q (ehF L L.length) I J) : wp_X6_everHome I J Q := by
  have loop : ∀ d k, k + d = L.length → wl_X6_everHome_4 Q (d + 1) (ehF L k) (nI k) I J := by
    intro d
    induction d with
    | zero =>
      intro k hkd
      obtain rfl : k = L.length := by omega
      show wb_X6_everHome_4 _ Q _ _ I J
      unfold wb_X6_everHome_4
      rw [show I 120 4 = nI L.length from hcl.1, sw_if_f (nI_nlt (Nat.le_refl _) (by omega))]
      exact h
    | succ d ih =>
      intro k hkd
      show wb_X6_everHome_4 _ Q _ _ I J
      unfold wb_X6_everHome_4
      rw [show I 120 4 = nI L.length from hcl.1, sw_if_t (nI_lt (by omega) (by omega)), nI_clamp (by omega), (hcl.2.2.1 k (by omega)).1]
      refine ⟨vp0 (by omega) (by decide), s_onFloorK (hk k (by omega)) ?_⟩
      intro y hy y2 hy2
      rw [hy, hy2, nI_1]
      exact ih (k + 1) (by omega)
  exact ⟨L.length + 1, loop L.length 0 (by omega)⟩
theorem c_everStopped {L : List En} {m : Bool} (hL : L.length ≤ 3000) (hk : ∀ i, i < L.length → kE L i < 2 ^ 47) {I : sw_I} {J : sw_J} {Q : Int32 → sw_I → sw_J → Prop} (hcl : clS I J L m) (h : Q (esF L L.length) I J) : wp_X6_everStopped I J Q := by
  have loop : ∀ d k, k + d = L.length → wl_X6_everStopped_4 Q (d + 1) (esF L k) (nI k) I J := by
    intro d
    induction d with
    | zero =>
      intro k hkd
      obtain rfl : k = L.length := by omega
      show wb_X6_everStopped_4 _ Q _ _ I J
      unfold wb_X6_everStopped_4
      rw [show I 120 4 = nI L.length from hcl.1, sw_if_f (nI_nlt (Nat.le_refl _) (by omega))]
      exact h
    | succ d ih =>
      intro k hkd
      show wb_X6_everStopped_4 _ Q _ _ I J
      unfold wb_X6_everStopped_4
      rw [show I 120 4 = nI L.length from hcl.1, sw_if_t (nI_lt (by omega) (by omega)), nI_clamp (by omega), (hcl.2.2.1 k (by omega)).1]
      refine ⟨vp0 (by omega) (by decide), s_liftOf (hk k (by omega)) ?_⟩
      intro y hy y2 hy2
      rw [hy, hy2, nI_1]
      exact ih (k + 1) (by omega)
  exact ⟨L.length + 1, loop L.length 0 (by omega)⟩
theorem home_n {n fl K : Nat} {row : Nat → Int32} (hn : n ≤ 10) (h9 : fl ≤ 9) (hK : vK n fl K) (h1 : ∀ i, i < n → row i = nI (plN K i)) : bs (fun i => decide (row i = 9)) n = onK K (-1) &&& (((1 : Int32) <<< (nI n &&& 31)) - 1) := by
  refine inB_ext (fun i hi => ?_)
  unfold onK
  rw [inB_and _ _ hi, inB_bs _ n (by omega) i hi, inB_bs _ 10 (by omega) i hi, ev_bit n hn i hi]
  by_cases c : i < n
  · rw [decide_eq_true c, decide_eq_true (show i < 10 by omega), Bool.true_and, Bool.true_and, Bool.and_true, h1 i c]
    exact decide_eq_decide.mpr (home_b h9 hn hK c)
  · rw [decide_eq_false c]; simp
theorem and_or (x y e : Int32) : (x &&& e) ||| (y &&& e) = (x ||| y) &&& e := by
  refine inB_ext (fun i hi => ?_)
  rw [inB_or _ _ hi, inB_and _ _ hi, inB_and _ _ hi, inB_and _ _ hi, inB_or _ _ hi]
  cases inB x i <;> cases inB y i <;> cases inB e i <;> rfl
theorem and_nn (x e : Int32) : e &&& ((x &&& e) ^^^ (-1)) = e &&& (x ^^^ (-1)) := by
  refine inB_ext (fun i hi => ?_)
  rw [inB_and _ _ hi, inB_not _ hi, inB_and _ _ hi, inB_and _ _ hi, inB_not _ hi]
  cases inB x i <;> cases inB e i <;> rfl
/-- the reference's loops over what was found -/
theorem m_states_loop {n fl : Nat} {L : List En} {m : Bool} (hn : n ≤ 10) (h9 : fl ≤ 9) (hL : L.length ≤ 3000) (hk : ∀ i, i < L.length → vK n fl (kE L i)) {x2 : Int32} {I : sw_I} {J : sw_J} {Q : Int32 → sw_I → sw_J → Prop} (hr : I 140 4 = nI n) (hcl : mlS n I J L m)
    (h : ∀ I2 J2, eqm [145] [1] I I2 → eqj [141] J J2 → tlM I2 J2 [(ehF L L.length &&& (((1 : Int32) <<< (nI n &&& 31)) - 1)).toInt64, (esF L L.length).toInt64] → Q x2 I2 J2) :
    ∀ d k I2, k + d = L.length → eqx [145] I I2 → wl_X10_states_39 Q (d + 1) x2 (ehF L k &&& (((1 : Int32) <<< (nI n &&& 31)) - 1)) (esF L k) (nI k) I2 J := by
  intro d
  induction d with
  | zero =>
    intro k I2 hkd x2'
    obtain rfl : k = L.length := by omega
    show wb_X10_states_39 _ Q _ _ _ _ I2 J
    unfold wb_X10_states_39
    rw [show I2 140 48 = nI L.length by rw [x2' _ (by decide)]; exact hcl.1, sw_if_f (nI_nlt (Nat.le_refl _) (by omega))]
    intro I3 e3
    refine t_enters (by decide) (tlM_0 e3) (fun I4 J4 x4 j4 t4 => t_enters (by simp) t4 (fun I5 J5 x5 j5 t5 => ?_))
    refine h I5 J5 ?_ (j4.tr j5) t5
    have : eqm [145] [1] I I3 := by rw [e3]; exact (x2'.eqm (by decide) (by decide)).upF (by decide) _
    exact (this.tr (x4.mono (by decide) (by decide))).tr (x5.mono (by decide) (by decide))
  | succ d ih =>
    intro k I2 hkd x2'
    have r2 : I2 140 4 = nI n := by rw [x2' _ (by decide)]; exact hr
    show wb_X10_states_39 _ Q _ _ _ _ I2 J
    unfold wb_X10_states_39
    rw [show I2 140 48 = nI L.length by rw [x2' _ (by decide)]; exact hcl.1, sw_if_t (nI_lt (by omega) (by omega))]
    refine s_unpacks hn h9 (hk k (by omega)) (by omega) r2 (hcl.2.2.1 k (by omega)).1 (fun I3 x3 u1 u2 u3 u4 u5 => ?_)
    refine s_X10_homeBits hn (by decide) (by decide) (by rw [x3 _ (by decide)]; exact r2) ?_
    rw [home_n hn h9 (hk k (by omega)) u1]
    intro y hy y2 hy2 y3 hy3
    rw [show I3 145 (31 : Int32).toNatClampNeg = nI (lfK (kE L k)) from u4] at hy2
    rw [hy, hy2, hy3, nI_1, and_or]
    exact ih (k + 1) I3 (by omega) (x2'.tr x3)
theorem m_stuck_loop {n fl : Nat} {L : List En} {m : Bool} (hn : n ≤ 10) (h9 : fl ≤ 9) (hL : L.length ≤ 3000) (hk : ∀ i, i < L.length → vK n fl (kE L i)) {I : sw_I} {J : sw_J} {Q : Int32 → sw_I → sw_J → Prop} (hr : I 140 4 = nI n) (hcl : mlS n I J L m)
    (h : ∀ I2, eqx [145] I I2 → Q ((((1 : Int32) <<< (nI n &&& 31)) - 1) &&& (ehF L L.length ^^^ (-1))) I2 J) :
    ∀ d k I2, k + d = L.length → eqx [145] I I2 → wl_X10_stuck_23 Q (d + 1) (ehF L k &&& (((1 : Int32) <<< (nI n &&& 31)) - 1)) (nI k) I2 J := by
  intro d
  induction d with
  | zero =>
    intro k I2 hkd x2'
    obtain rfl : k = L.length := by omega
    show wb_X10_stuck_23 _ Q _ _ I2 J
    unfold wb_X10_stuck_23
    rw [show I2 140 48 = nI L.length by rw [x2' _ (by decide)]; exact hcl.1, sw_if_f (nI_nlt (Nat.le_refl _) (by omega)), show I2 140 4 = nI n by rw [x2' _ (by decide)]; exact hr, and_nn]
    exact h I2 x2'
  | succ d ih =>
    intro k I2 hkd x2'
    have r2 : I2 140 4 = nI n := by rw [x2' _ (by decide)]; exact hr
    show wb_X10_stuck_23 _ Q _ _ I2 J
    unfold wb_X10_stuck_23
    rw [show I2 140 48 = nI L.length by rw [x2' _ (by decide)]; exact hcl.1, sw_if_t (nI_lt (by omega) (by omega))]
    refine s_unpacks hn h9 (hk k (by omega)) (by omega) r2 (hcl.2.2.1 k (by omega)).1 (fun I3 x3 u1 u2 u3 u4 u5 => ?_)
    refine s_X10_homeBits hn (by decide) (by decide) (by rw [x3 _ (by decide)]; exact r2) ?_
    rw [home_n hn h9 (hk k (by omega)) u1]
    intro y hy y2 hy2
    rw [hy, hy2, nI_1, and_or]
    exact ih (k + 1) I3 (by omega) (x2'.tr x3)
/-- both searches without an aim -/
theorem c_seek0 {w : Wd} {μ : Mo} {row : Nat → Int32} {deep R : Nat} (hdeep : deep ≤ 3000) {I : sw_I} {J : sw_J} {Q : Int32 → sw_I → sw_J → Prop} (hW : isW I w) (hE : moE I 13 μ) (hM : relM w μ row) (hR : oR μ = nI R) (hR2 : R < 2 ^ 31)
    (h : ∀ I3 J3, eqx skC I I3 → eqj [125] J J3 → clS I3 J3 (skE w μ.2.1 (k0M μ) noW deep).2.1 (skE w μ.2.1 (k0M μ) noW deep).2.2 → ∀ v, Q v I3 J3) : wp_X6_wantNothing I J (fun I5 J6 => wp_X6_seek 13 (nI deep) I5 J6 Q) := by
  intro I1 e1
  have x1 : eqx skC I I1 := by rw [e1]; exact eqx.rf.up (by decide) _ _
  have W1 : isW I1 w := isW_of (x1.eqm (C := skC) (F := []) (fun _ q => q) (by decide)) (by decide) (by decide) hW
  have E1 : moE I1 13 μ := moE_cong (fun c c1 c2 => x1 c (by simp; omega)) hE
  have wt1 : wtC I1 0 0 0 := ⟨by decide, by rw [e1]; exact sw_up_same _ _ _ _, fun q => absurd rfl q, fun q => by cases q⟩
  refine c_seek (w := w) (μ := μ) (row := row) (a := 0) (T := 0) (f := 0) hdeep W1 E1 hM hR hR2 wt1 (fun I4 J4 x4 j4 c4 _ => ?_)
  rw [wtB_0] at c4
  exact h I4 J4 (x1.tr x4) j4 c4 _
theorem m_findsAll {w : Wd} {μ : Mo} {deep R : Nat} {x1 : Int32} {I : sw_I} {J : sw_J} {Q : Int32 → sw_I → sw_J → Prop} (hW : isW I w) (hM : relM w μ (I 144)) (hR : oR μ = nI R) (hR2 : R < 2 ^ 31) (hask : I 6 5 = 0) (hx : ∀ v, v < 3000 → (nI v < x1 ↔ v < deep))
    (h : ∀ I3 J3, eqm msC msF I I3 → eqj [161] J J3 → mlS (wn w) I3 J3 (skE w μ.2.1 (k0M μ) noW deep).2.1 (skE w μ.2.1 (k0M μ) noW deep).2.2 → Q (if (skE w μ.2.1 (k0M μ) noW deep).2.2 = true then -3 else nI (skE w μ.2.1 (k0M μ) noW deep).2.1.length) I3 J3) : wp_X10_findsAll x1 I J Q := by
  have hn := hW.1.2.2.1
  have h9 := hW.1.2.1
  have kv := k0_v hn h9 hM
  unfold wp_X10_findsAll
  refine m_counts hW.2.1 ?_
  rw [hask, sw_if_t rfl]
  refine m_findsFirst (w := w) (μ := μ) hW hM hR hR2 (fun I6 J6 x6 j6 ws6 c6 => ?_)
  have W6 : isW I6 w := isW_of x6 (by decide) (by decide) hW
  have hv : ∀ i, i < wn w → fw (wf w) (μ.2.1 i) := fun i hi => (hM.2.1 i hi).2
  unfold skE at h
  rw [if_neg Bool.false_ne_true] at h
  exact ⟨3001, m_all_loop (w := w) (wi := μ.2.1) (deep := deep) W6 hv hx 3000 0 (L0 (k0M μ)) false I6 J6 (by omega) (L0_wf kv) eqm.rf eqj.rf ws6 c6 (fun I3 J3 x3 j3 c3 => h I3 J3 (x6.tr x3) (j6.tr j3) c3)⟩
theorem p_states {c : Nat} (hc : c ≤ 100000) {x1 : Int32} {I : sw_I} {J : sw_J} {Q : Int32 → Int32 → sw_I → sw_J → Prop} (h : wW c I J) (hQ : ∀ v I2 J2, wW c I2 J2 → I2 140 0 = 0 → Q v v I2 J2) :
    wp_X9_states x1 I J (fun r I1 J1 => wp_X10_states x1 I1 J1 (fun r2 I2 J2 => Q r r2 I2 J2)) := by
  obtain ⟨n, fl, m, q, p, r, t, s, z, hw⟩ := h
  obtain ⟨h0, h1, h2, h3, h4, h5, h6, h7, h8⟩ := id hw
  have hn := h1.2.2.1
  have h9 := h1.2.1
  have hr := h1.2.2.2.2.2.2.1
  have hW := isW_O h1 h2
  obtain ⟨R, hR2, hR⟩ := rb_R hc h0.2
  unfold wp_X9_states
  refine if_N (N := 6) (by decide) rfl (fun hno => ?_) (fun N hN eN => ?_)
  · intro I2 e2
    refine in_N (N := 6) (by decide) rfl (fun _ => ?_) (fun i hi ei => absurd ⟨i, hi, ei⟩ hno)
    rw [sw_if_t rfl]; exact hQ _ I2 J (th_of hw e2).1 (th_of hw e2).2
  have ref : ∀ (v : Int32) (I1 : sw_I) (J1 : sw_J), (∀ I3, eqm [] [0] I1 I3 → I3 140 0 = 0 → wp_X10_findsAll x1 I3 J1 (fun r_7 I_8 J_9 => sw_if (r_7 < 0) (Q v r_7 I_8 J_9) (∃ n_11 : Nat, wl_X10_states_39 (fun r2 I2 J2 => Q v r2 I2 J2) n_11 r_7 0 0 0 I_8 J_9))) → wp_X10_states x1 I1 J1 (fun r2 I2 J2 => Q v r2 I2 J2) := by
    intro v I1 J1 hp I3 e3
    refine in_N (N := 6) (by decide) rfl (fun hno => absurd ⟨N, hN, eN⟩ hno) (fun _ _ _ => ?_)
    rw [sw_if_f (by decide)]
    exact hp I3 (by rw [e3]; exact eqm.rf.upF (by decide) _) (by rw [e3]; exact sw_up_same _ _ _ _)
  by_cases ha : I 6 5 = 0
  · rw [show I 6 5 = 0 from ha, sw_if_t rfl, eN]
    rw [eN] at ref
    generalize hμ : moC I 13 = μ
    have hE : moE I 13 μ := by rw [← hμ]; exact moE_C _ _
    have hM : relM (wdO I m n fl) μ (I 144) := by rw [← hμ]; exact h3
    have hoR : oR μ = nI R := by rw [← hμ]; exact hR
    have kv := k0_v hW.1.2.2.1 hW.1.2.1 hM
    obtain ⟨⟨k2, wf⟩, -⟩ := skE_wf hW (wi := μ.2.1) (want := noW) (deep := N) kv
    refine c_seek0 (w := wdO I m n fl) (μ := μ) (row := I 144) (deep := N) (by omega) hW hE hM hoR hR2 (fun I3 J3 x3 j3 c3 v => ?_)
    generalize hS : skE (wdO I m n fl) μ.2.1 (k0M μ) noW N = S at c3 wf ⊢
    have hL := wf.2.1
    have kv2 : ∀ i, i < S.2.1.length → vK n fl (kE S.2.1 i) := fun i hi => (wf.2.2.1 i hi).1
    have kl : ∀ i, i < S.2.1.length → kE S.2.1 i < 2 ^ 47 := fun i hi => vK_lt h9 (kv2 i hi)
    rw [show I3 120 6 = bI S.2.2 from c3.2.1]
    cases hb : S.2.2
    · rw [sw_if_t (by rfl)]
      refine t_clear (fun I4 x4 t4 => ?_)
      have c4 : clS I4 J3 S.2.1 S.2.2 := clS_x c3 x4 rfl (by decide)
      refine c_everHome hL kl c4 (s_X1_everybody (n := n) (by rw [x4 _ (by decide), x3 _ (by decide)]; exact h1.2.2.2.2.2.1) ?_)
      refine t_tell (by decide) t4 (fun I5 J5 x5 j5 t5 => ?_)
      have c5 : clS I5 J5 S.2.1 S.2.2 := clS_x c4 x5 (j5 _ (by decide)) (by decide)
      refine c_everStopped hL kl c5 ?_
      refine t_tell (by simp) t5 (fun I6 J6 x6 j6 t6 => ?_)
      rw [show I6 120 4 = nI S.2.1.length by rw [x6 _ (by decide)]; exact c5.1]
      have e6 : eqm (0 :: scrC) (1 :: scrF) I I6 := ((x3.eqm (by decide) (by decide)).tr (x4.eqm (by decide) (by decide))).tr ((x5.eqm (by decide) (by decide)).tr (x6.eqm (by decide) (by decide)))
      refine ref _ I6 J6 (fun I7 e7 t7 => ?_)
      have q7 : eqm (0 :: scrC) (1 :: scrF) I I7 := e6.tr (e7.mono (by decide) (by decide))
      have W7 : isW I7 (wdO I m n fl) := isW_of q7 (by decide) (by decide) hW
      refine m_findsAll (w := wdO I m n fl) (μ := μ) (deep := N) W7 (by rw [q7.1 _ (by decide) (by decide)]; exact hM) hoR hR2 (by rw [q7.1 _ (by decide) (by decide)]; exact ha) (fun v hv => nI_ltJ (by omega) (by omega)) (fun I8 J8 x8 j8 c8 => ?_)
      rw [hS] at c8 ⊢
      rw [hb, if_neg (by decide), sw_if_f (nI_pos (by omega))]
      have q8 : eqm (0 :: scrC) (1 :: scrF) I I8 := q7.tr (x8.mono (by decide) (by decide))
      have loop := m_states_loop (x2 := nI S.2.1.length) (Q := fun r2 I2 J2 => Q (nI S.2.1.length) r2 I2 J2) hn h9 hL kv2 (by rw [q8.2 _ (by decide)]; exact hr) c8 (fun I9 J9 x9 j9 t9 => ?_) S.2.1.length 0 I8 (by omega) eqx.rf
      · have z0 : ehF S.2.1 0 &&& (((1 : Int32) <<< (nI n &&& 31)) - 1) = 0 := by show (0 : Int32) &&& _ = 0; simp
        rw [z0] at loop
        exact ⟨_, loop⟩
      · refine hQ _ I9 J9 (told_fin hw (q8.tr (x9.mono (by decide) (by decide))) (by simp) (tlC_of t6 ?_ ?_) t9) ?_
        · rw [x9.1 _ (by decide) (by decide), x8.1 _ (by decide) (by decide), e7.1 _ (by decide) (by decide)]
        · rw [j9 _ (by decide), j8 _ (by decide)]
        · rw [x9.2 _ (by decide), x8.2 _ (by decide)]; exact t7
    · rw [sw_if_f (by decide)]
      refine ref _ I3 J3 (fun I7 e7 t7 => ?_)
      have q7 : eqm scrC scrF I I7 := (x3.eqm (by decide) (by decide)).tr (e7.mono (by decide) (by decide))
      have W7 : isW I7 (wdO I m n fl) := isW_of q7 (by decide) (by decide) hW
      refine m_findsAll (w := wdO I m n fl) (μ := μ) (deep := N) W7 (by rw [q7.1 _ (by decide) (by decide)]; exact hM) hoR hR2 (by rw [q7.1 _ (by decide) (by decide)]; exact ha) (fun v hv => nI_ltJ (by omega) (by omega)) (fun I8 J8 x8 j8 c8 => ?_)
      rw [hS] at c8 ⊢
      rw [hb, if_pos rfl, sw_if_t (by decide)]
      refine hQ _ I8 J8 ⟨n, fl, m, q, p, r, t, s, z, wR_scr hw (q7.tr (x8.mono (by decide) (by decide))) ?_ ?_⟩ ?_
      · rw [j8 _ (by decide), j3 _ (by decide)]
      · rw [j8 _ (by decide), j3 _ (by decide)]
      · rw [x8.2 _ (by decide)]; exact t7
  · rw [sw_if_f (show ¬ I 6 5 = 0 from ha)]
    refine ref _ I J (fun I3 e3 t3 => ?_)
    have q3 : eqm scrC scrF I I3 := e3.mono (by decide) (by decide)
    have W3 : isW I3 (wdO I m n fl) := isW_of q3 (by decide) (by decide) hW
    unfold wp_X10_findsAll
    refine m_counts W3.2.1 ?_
    rw [sw_if_f (by rw [q3.1 _ (by decide) (by decide)]; exact ha)]
    dsimp only
    rw [sw_if_t (by decide)]
    exact hQ _ I3 J ⟨n, fl, m, q, p, r, t, s, z, wR_scr hw q3 rfl rfl⟩ t3
theorem p_stuck {c : Nat} (hc : c ≤ 100000) {I : sw_I} {J : sw_J} {Q : Int32 → Int32 → sw_I → sw_J → Prop} (h : wW c I J) (hQ : ∀ v I2 J2, wW c I2 J2 → I2 140 0 = 0 → Q v v I2 J2) :
    wp_X9_stuck I J (fun r I1 J1 => wp_X10_stuck I1 J1 (fun r2 I2 J2 => Q r r2 I2 J2)) := by
  obtain ⟨n, fl, m, q, p, r, t, s, z, hw⟩ := h
  obtain ⟨h0, h1, h2, h3, h4, h5, h6, h7, h8⟩ := id hw
  have hn := h1.2.2.1
  have h9 := h1.2.1
  have hr := h1.2.2.2.2.2.2.1
  have hW := isW_O h1 h2
  obtain ⟨R, hR2, hR⟩ := rb_R hc h0.2
  have big : ∀ v, v < 3000 → (nI v < (2147483647 : Int32) ↔ v < 3000) := fun v hv => ⟨fun _ => hv, fun _ => nI_lt (b := 2147483647) (by omega) (by decide)⟩
  unfold wp_X9_stuck
  by_cases ha : I 6 5 = 0
  · rw [show I 6 5 = 0 from ha, sw_if_t rfl]
    generalize hμ : moC I 13 = μ
    have hE : moE I 13 μ := by rw [← hμ]; exact moE_C _ _
    have hM : relM (wdO I m n fl) μ (I 144) := by rw [← hμ]; exact h3
    have hoR : oR μ = nI R := by rw [← hμ]; exact hR
    have kv := k0_v hW.1.2.2.1 hW.1.2.1 hM
    obtain ⟨⟨k2, wf⟩, -⟩ := skE_wf hW (wi := μ.2.1) (want := noW) (deep := 3000) kv
    show wp_X6_wantNothing I J (fun I5 J6 => wp_X6_seek 13 (nI 3000) I5 J6 _)
    refine c_seek0 (w := wdO I m n fl) (μ := μ) (row := I 144) (deep := 3000) (by omega) hW hE hM hoR hR2 (fun I3 J3 x3 j3 c3 v => ?_)
    generalize hS : skE (wdO I m n fl) μ.2.1 (k0M μ) noW 3000 = S at c3 wf ⊢
    have hL := wf.2.1
    have kv2 : ∀ i, i < S.2.1.length → vK n fl (kE S.2.1 i) := fun i hi => (wf.2.2.1 i hi).1
    have kl : ∀ i, i < S.2.1.length → kE S.2.1 i < 2 ^ 47 := fun i hi => vK_lt h9 (kv2 i hi)
    have fin : ∀ (v : Int32) (I8 : sw_I) (J8 : sw_J), eqm scrC scrF I I8 → eqj [125, 161] J J8 → I8 140 0 = 0 → Q v v I8 J8 := fun v I8 J8 e8 j8 t8 => by
      refine hQ _ I8 J8 ⟨n, fl, m, q, p, r, t, s, z, wR_scr hw e8 (j8 _ (by decide)) (j8 _ (by decide))⟩ t8
    rw [show I3 120 6 = bI S.2.2 from c3.2.1]
    cases hb : S.2.2
    · rw [sw_if_t (by rfl)]
      refine s_X1_everybody (n := n) (by rw [x3 _ (by decide)]; exact h1.2.2.2.2.2.1) (c_everHome hL kl c3 ?_)
      intro I7 e7
      have q7 : eqm scrC scrF I I7 := (x3.eqm (by decide) (by decide)).tr (by rw [e7]; exact eqm.rf.upF (by decide) _)
      have t7 : I7 140 0 = 0 := by rw [e7]; exact sw_up_same _ _ _ _
      have W7 : isW I7 (wdO I m n fl) := isW_of q7 (by decide) (by decide) hW
      refine m_findsAll (w := wdO I m n fl) (μ := μ) (deep := 3000) W7 (by rw [q7.1 _ (by decide) (by decide)]; exact hM) hoR hR2 (by rw [q7.1 _ (by decide) (by decide)]; exact ha) big (fun I8 J8 x8 j8 c8 => ?_)
      rw [hS] at c8 ⊢
      rw [hb, if_neg (by decide), sw_if_f (nI_pos (by omega))]
      have q8 : eqm scrC scrF I I8 := q7.tr (x8.mono (by decide) (by decide))
      have loop := m_stuck_loop (Q := fun r2 I2 J2 => Q ((((1 : Int32) <<< (nI n &&& 31)) - 1) &&& (ehF S.2.1 S.2.1.length ^^^ (-1))) r2 I2 J2) hn h9 hL kv2 (by rw [q8.2 _ (by decide)]; exact hr) c8 (fun I9 x9 => ?_) S.2.1.length 0 I8 (by omega) eqx.rf
      · have z0 : ehF S.2.1 0 &&& (((1 : Int32) <<< (nI n &&& 31)) - 1) = 0 := by show (0 : Int32) &&& _ = 0; simp
        rw [z0] at loop
        exact ⟨_, loop⟩
      · refine fin _ I9 J8 (q8.tr (x9.eqm (by decide) (by decide))) ((j3.mono (by decide)).tr (j8.mono (by decide))) ?_
        rw [x9 _ (by decide), x8.2 _ (by decide)]; exact t7
    · rw [sw_if_f (by decide)]
      intro I7 e7
      have q7 : eqm scrC scrF I I7 := (x3.eqm (by decide) (by decide)).tr (by rw [e7]; exact eqm.rf.upF (by decide) _)
      have t7 : I7 140 0 = 0 := by rw [e7]; exact sw_up_same _ _ _ _
      have W7 : isW I7 (wdO I m n fl) := isW_of q7 (by decide) (by decide) hW
      refine m_findsAll (w := wdO I m n fl) (μ := μ) (deep := 3000) W7 (by rw [q7.1 _ (by decide) (by decide)]; exact hM) hoR hR2 (by rw [q7.1 _ (by decide) (by decide)]; exact ha) big (fun I8 J8 x8 j8 c8 => ?_)
      rw [hS] at c8 ⊢
      rw [hb, if_pos rfl, sw_if_t (by decide)]
      refine fin _ I8 J8 (q7.tr (x8.mono (by decide) (by decide))) ((j3.mono (by decide)).tr (j8.mono (by decide))) ?_
      rw [x8.2 _ (by decide)]; exact t7
  · rw [sw_if_f (show ¬ I 6 5 = 0 from ha)]
    intro I3 e3
    have q3 : eqm scrC scrF I I3 := by rw [e3]; exact eqm.rf.upF (by decide) _
    have W3 : isW I3 (wdO I m n fl) := isW_of q3 (by decide) (by decide) hW
    unfold wp_X10_findsAll
    refine m_counts W3.2.1 ?_
    rw [sw_if_f (by rw [q3.1 _ (by decide) (by decide)]; exact ha)]
    dsimp only
    rw [sw_if_t (by decide)]
    exact hQ _ I3 J ⟨n, fl, m, q, p, r, t, s, z, wR_scr hw q3 rfl rfl⟩ (by rw [e3]; exact sw_up_same _ _ _ _)
