/-! promise: can -/
theorem nJ_int {c : Nat} (h : c < 2 ^ 63) : (Int64.ofNat c).toInt = c := Int64.toInt_ofNat_of_lt h
theorem nI_64 {c : Nat} (h : c < 2 ^ 31) : (nI c).toInt64 = Int64.ofNat c := by
  apply Int64.toInt_inj.mp
  rw [Int32.toInt_toInt64, nI_toInt h, nJ_int (by omega)]
theorem nJ_pos {c : Nat} (h : c < 2 ^ 63) : ((0 : Int64) < Int64.ofNat c) ↔ 0 < c := by
  rw [Int64.lt_iff_toInt_lt, nJ_int h]
  show (0 : Int) < _ ↔ _
  omega
theorem nJ_add (a b : Nat) : Int64.ofNat a + Int64.ofNat b = Int64.ofNat (a + b) := (Int64.ofNat_add a b).symm
theorem s_fillL_loop {b n : Nat} (hn : n < 2 ^ 31) {v : Int64} {I : sw_I} {J : sw_J} {Q : sw_I → sw_J → Prop} (h : ∀ J2, eqj [b] J J2 → (∀ j, j < n → J2 b j = v) → Q I J2) :
    ∀ (d k : Nat) (J2 : sw_J), k + d = n → eqj [b] J J2 → (∀ j, j < k → J2 b j = v) → wl_J7_fill_d0a16_6 b n Q (d + 1) v (nI k) (nI n) I J2 := by
  intro d
  induction d with
  | zero =>
    intro k J2 hk he hv
    obtain rfl : k = n := by omega
    show wb_J7_fill_d0a16_6 b k _ Q _ _ _ I J2
    unfold wb_J7_fill_d0a16_6
    rw [sw_if_f (nI_nlt (Nat.le_refl _) hn)]
    exact h J2 he hv
  | succ d ih =>
    intro k J2 hk he hv
    show wb_J7_fill_d0a16_6 b n _ Q _ _ _ I J2
    unfold wb_J7_fill_d0a16_6
    rw [sw_if_t (nI_lt (by omega) hn), nI_clamp (by omega)]
    refine ⟨vp0 (by omega) hn, fun J3 h3 y hy => ?_⟩
    rw [hy, nI_1]
    refine ih (k + 1) J3 (by omega) (by rw [h3]; exact he.up (by simp) _ _) (fun j hj => ?_)
    rw [h3]
    by_cases e : j = k
    · subst e; rw [sw_up_same]
    · rw [sw_up_slot _ _ _ _ e]; exact hv j (by omega)
theorem s_J7_fillL {b n : Nat} (hn : n < 2 ^ 31) {v : Int64} {I : sw_I} {J : sw_J} {Q : sw_I → sw_J → Prop} (h : ∀ J2, eqj [b] J J2 → (∀ j, j < n → J2 b j = v) → Q I J2) : wp_J7_fill_d0a16 b n v I J Q := by
  intro y hy
  subst hy
  exact ⟨n + 1, s_fillL_loop hn h n 0 J (by omega) eqj.rf (fun j hj => absurd hj (Nat.not_lt_zero j))⟩
/-- how often each floor is the stop, over a list of sets -/
def cnA (w : Wd) (μ : Mo) : List Nat → (Nat → Nat) → Nat → Nat
  | [], c => c
  | j :: L, c => cnA w μ L (fun f => c f + if stM w μ (nI j) = nI f then 1 else 0)
theorem cnA_le (w : Wd) (μ : Mo) : ∀ (L : List Nat) (c : Nat → Nat) (f : Nat), cnA w μ L c f ≤ c f + L.length
  | [], c, f => Nat.le_refl _
  | j :: L, c, f => by
    have := cnA_le w μ L (fun f => c f + if stM w μ (nI j) = nI f then 1 else 0) f
    unfold cnA
    rw [List.length_cons]
    split at this <;> omega
theorem SL_len_le {M n : Nat} (hn : n ≤ 10) : (SL M n).length ≤ 1024 := by
  unfold SL
  rw [rmL_len]
  exact Nat.le_trans (Nat.pow_le_pow_right (by decide) (Nat.le_trans (pcN_le M n) hn)) (by decide)
abbrev chC : List Nat := [0, 10, 11, 12, 9]
theorem s_X9_addChance {k : Nat} (hk : k < 9) {v : Int64} {I : sw_I} {J : sw_J} {Q : sw_I → sw_J → Prop} (h : Q I (sw_up J 117 k (J 117 k + v))) : wp_X9_addChance (nI k) v I J Q := by
  unfold wp_X9_addChance
  rw [sw_if_f (nI_pos (by omega)), sw_if_t (show nI k < (9 : Int32) from nI_lt (b := 9) hk (by decide)), nI_clamp (by omega)]
  exact ⟨vp0 hk (by decide), vp0 hk (by decide), fun J5 e5 => by rw [e5]; exact h⟩
theorem s_can_loop {w : Wd} {μ : Mo} {M T : Nat} (hT : T ≤ 1024) {I : sw_I} {J : sw_J} {Q : Int32 → sw_I → sw_J → Prop} (hW : isW I w) (hE : moE I 13 μ) :
    ∀ (L : List Nat) (k : Nat) (s : Int32) (c : Nat → Nat) (I2 : sw_I) (J2 : sw_J), k + L.length = T → chn (nI M) L s → eqx chC I I2 → eqj [117] J J2 → (∀ f, f < 9 → J2 117 f = Int64.ofNat (c f)) →
    (∀ I3 J3, eqx chC I I3 → eqj [117] J J3 → (∀ f, f < 9 → J3 117 f = Int64.ofNat (cnA w μ L c f)) → wp_X9_clearRow I3 J3 (fun I4 J4 => ∃ n5 : Nat, wl_X9_can_78 Q n5 0 0 I4 J4)) → wl_X9_can_33 Q (L.length + 1) (nI M) (nI T) s (nI k) I2 J2 := by
  have h9 := hW.1.2.1
  intro L
  induction L with
  | nil =>
    intro k s c I2 J2 hk hc h1 h2 h3 h
    simp at hk
    subst hk
    show wb_X9_can_33 _ Q _ _ _ _ I2 J2
    unfold wb_X9_can_33
    rw [sw_if_f (nI_nlt (Nat.le_refl _) (by omega))]
    exact h I2 J2 h1 h2 h3
  | cons j L ih =>
    intro k s c I2 J2 hk hc h1 h2 h3 h
    rw [List.length_cons] at hk
    obtain ⟨rfl, hc2⟩ := hc
    show wb_X9_can_33 _ Q _ _ _ _ I2 J2
    unfold wb_X9_can_33
    rw [sw_if_t (nI_lt (by omega) (by omega))]
    refine c_stopM (by decide) (isW_of (h1.eqm (C := chC) (F := []) (fun _ q => q) (by decide)) (by decide) (by decide) hW) (moE_cong (fun c c1 c2 => h1 c (by simp; omega)) hE) (fun I3 x3 => ?_)
    obtain ⟨z, hz, ez, -⟩ := stM_rng hW μ (nI j)
    unfold cnA at h
    rw [ez] at h ⊢
    refine s_X9_addChance (by omega) ?_
    unfold wp_X9_nextSet
    intro y hy
    rw [hy, nI_1]
    refine ih (k + 1) _ _ I3 _ (by omega) hc2 (h1.tr (x3.mono (by decide))) (h2.up (by decide) _ _) (fun f hf => ?_) h
    by_cases e : f = z
    · subst e
      rw [sw_up_same, h3 f hf, if_pos rfl, ← nJ_add]; rfl
    · rw [sw_up_slot _ _ _ _ e, h3 f hf, if_neg (fun q => e ((nI_eq (by omega) (by omega)).mp q).symm)]; rfl
def cnL (c : Nat → Nat) (k : Nat) : List Int64 := (List.range k).map (fun f => Int64.ofNat (c f))
theorem cnL_s (c : Nat → Nat) (k : Nat) : cnL c (k + 1) = cnL c k ++ [Int64.ofNat (c k)] := by
  unfold cnL; rw [List.range_succ, List.map_append]; rfl
theorem cnL_len (c : Nat → Nat) (k : Nat) : (cnL c k).length = k := by unfold cnL; simp
theorem s_can2_loop {w : Wd} {c : Nat → Nat} (hc : ∀ f, c f < 2 ^ 31) {I : sw_I} {J : sw_J} {Q : Int32 → sw_I → sw_J → Prop} (hW : isW I w) (hch : ∀ f, f < 9 → J 117 f = Int64.ofNat (c f))
    (h : ∀ I3 J3, eqx [0] I I3 → eqj [118] J J3 → tlC I3 J3 (cnL c (wf w)) → Q (bs (fun f => decide (0 < c f)) (wf w)) I3 J3) : ∀ (d k : Nat) (I2 : sw_I) (J2 : sw_J), k + d = wf w → eqx [0] I I2 → eqj [118] J J2 → tlC I2 J2 (cnL c k) → wl_X9_can_78 Q (d + 1) (bs (fun f => decide (0 < c f)) k) (nI k) I2 J2 := by
  have h9 := hW.1.2.1
  have ff : ∀ I2, eqx [0] I I2 → I2 3 0 = nI (wf w) := fun I2 e => by rw [e.at (by decide)]; exact hW.1.2.2.2.1
  intro d
  induction d with
  | zero =>
    intro k I2 J2 hk h2 h3 h4
    obtain rfl : k = wf w := by omega
    show wb_X9_can_78 _ Q _ _ I2 J2
    unfold wb_X9_can_78
    rw [sw_if_f (by rw [ff I2 h2]; exact nI_nlt (Nat.le_refl _) (by omega))]
    exact h I2 J2 h2 h3 h4
  | succ d ih =>
    intro k I2 J2 hk h2 h3 h4
    show wb_X9_can_78 _ Q _ _ I2 J2
    unfold wb_X9_can_78
    have ec : J2 117 k = Int64.ofNat (c k) := by rw [h3 _ (by decide)]; exact hch k (by omega)
    rw [sw_if_t (by rw [ff I2 h2]; exact nI_lt (by omega) (by omega)), nI_clamp (by omega), ec]
    have nxt : ∀ t, bs (fun f => decide (0 < c f)) k ||| t = bs (fun f => decide (0 < c f)) (k + 1) → wB_X9_can_112 (wl_X9_can_78 Q (d + 1)) Q (nI k) (bs (fun f => decide (0 < c f)) k) t I2 J2 := by
      intro t ht y hy
      rw [nI_clamp (by omega), ec]
      refine ⟨vp0 (by omega) (by decide), t_tell (by rw [cnL_len]; omega) h4 (fun I4 J4 x4 j4 t4 => ?_)⟩
      intro y2 hy2
      rw [hy2, nI_1, hy, ht]
      exact ih (k + 1) I4 J4 (by omega) (h2.tr x4) (h3.tr j4) (by rw [cnL_s]; exact t4)
    refine ⟨vp0 (by omega) (by decide), fun cc => nxt _ ?_, fun cc => nxt _ ?_⟩
    · have := (nJ_pos (by have := hc k; omega)).mp ((lg_cmp_gt _ _).mp cc)
      show _ = bs _ k ||| _; simp [this]
    · have : ¬ 0 < c k := fun q => cc ((lg_cmp_gt _ _).mpr ((nJ_pos (by have := hc k; omega)).mpr q))
      show _ = bs _ k ||| _; simp [this]
theorem m_can0_loop {I : sw_I} {J : sw_J} {Q : Int32 → sw_I → sw_J → Prop} (h : ∀ I2, eqx [160] I I2 → (∀ j, j < 9 → I2 160 j = 0) → wp_X10_there 144 33 I2 J (fun r2 I3 J4 => ∃ n5 : Nat, wl_X10_can_37 Q n5 r2 0 I3 J4)) :
    ∀ (d k : Nat) (I2 : sw_I), k + d = 9 → eqx [160] I I2 → (∀ j, j < k → I2 160 j = 0) → wl_X10_can_7 Q (d + 1) (nI k) I2 J := by
  intro d
  induction d with
  | zero =>
    intro k I2 hk h1 h2
    obtain rfl : k = 9 := by omega
    show wb_X10_can_7 _ Q _ I2 J
    unfold wb_X10_can_7
    rw [sw_if_f (show ¬ nI 9 < (9 : Int32) by decide)]
    exact h I2 h1 h2
  | succ d ih =>
    intro k I2 hk h1 h2
    show wb_X10_can_7 _ Q _ I2 J
    unfold wb_X10_can_7
    rw [sw_if_t (show nI k < (9 : Int32) from nI_lt (b := 9) (by omega) (by decide)), nI_clamp (by omega)]
    refine ⟨vp0 (by omega) (by decide), fun I3 e3 y hy => ?_⟩
    rw [hy, nI_1]
    refine ih (k + 1) I3 (by omega) (by rw [e3]; exact h1.up (by decide) _ _) (fun j hj => ?_)
    rw [e3]
    by_cases e : j = k
    · subst e; rw [sw_up_same]
    · rw [sw_up_slot _ _ _ _ e]; exact h2 j (by omega)
abbrev cmC : List Nat := 160 :: mnsC
theorem m_can_loop {w : Wd} {μ : Mo} {M : Nat} (hM : M < 2 ^ wn w) {I : sw_I} {J : sw_J} {Q : Int32 → sw_I → sw_J → Prop} (hW : isW I w) (hR : relM w μ (I 144)) :
    ∀ (d j : Nat) (c : Nat → Nat) (I2 : sw_I), j + d = 2 ^ wn w → eqm cmC maF I I2 → (∀ f, f < 9 → I2 160 f = nI (c f)) →
    (∀ I3, eqm cmC maF I I3 → (∀ f, f < 9 → I3 160 f = nI (cnA w μ (rmL M d j) c f)) → ∀ I4 : sw_I, I4 = sw_up I3 140 1 0 → ∃ n4 : Nat, wl_X10_can_88 Q n4 0 0 I4 J) → wl_X10_can_37 Q (d + 1) (nI M) (nI j) I2 J := by
  have h9 := hW.1.2.1
  have hn := hW.1.2.2.1
  have hp : 2 ^ wn w ≤ 2 ^ 10 := Nat.pow_le_pow_right (by decide) hn
  have ff : ∀ I2, eqm cmC maF I I2 → (1 : Int32) <<< (I2 140 4 &&& 31) = nI (2 ^ wn w) := fun I2 e => by rw [e.2 _ (by decide), hW.1.2.2.2.2.2.2.1]; exact shl_1 _ hn
  intro d
  induction d with
  | zero =>
    intro j c I2 hk h1 h2 h
    obtain rfl : j = 2 ^ wn w := by omega
    show wb_X10_can_37 _ Q _ _ I2 J
    unfold wb_X10_can_37
    rw [sw_if_f (by rw [ff I2 h1]; exact nI_nlt (Nat.le_refl _) (by omega))]
    exact h I2 h1 h2
  | succ d ih =>
    intro j c I2 hk h1 h2 h
    show wb_X10_can_37 _ Q _ _ I2 J
    unfold wb_X10_can_37
    rw [sw_if_t (by rw [ff I2 h1]; exact nI_lt (by omega) (by omega))]
    rw [rmL_s] at h
    by_cases cs : sbB M j = true
    · rw [sw_if_t ((sub_iff (by omega) hM hn).mpr cs)]
      rw [if_pos cs] at h
      refine m_stopM (by decide) (by decide) (isW_of h1 (by decide) (by decide) hW) (by rw [h1.1 _ (by decide) (by decide)]; exact hR) (fun I3 x3 => ?_)
      obtain ⟨z, hz, ez, -⟩ := stM_rng hW μ (nI j)
      unfold cnA at h
      rw [ez] at h ⊢
      rw [nI_clamp (by omega)]
      refine ⟨vp0 (by omega) (by decide), vp0 (by omega) (by decide), fun I4 e4 => ?_⟩
      intro y hy
      rw [hy, nI_1]
      refine ih (j + 1) _ I4 (by omega) (by rw [e4]; exact (h1.tr (x3.mono (by decide) (by decide))).upC (by decide) (by decide) _ _) (fun f hf => ?_) h
      have w3 : I3 160 = I2 160 := x3.1 _ (by decide) (by decide)
      rw [e4]
      by_cases e : f = z
      · subst e
        rw [sw_up_same, w3, h2 f hf, if_pos rfl]; exact nI_1 _
      · rw [sw_up_slot _ _ _ _ e, w3, h2 f hf, if_neg (fun q => e ((nI_eq (by omega) (by omega)).mp q).symm)]; rfl
    · rw [sw_if_f (fun q => cs ((sub_iff (by omega) hM hn).mp q))]
      rw [if_neg cs] at h
      intro y hy
      rw [hy, nI_1]
      exact ih (j + 1) c I2 (by omega) h1 h2 h
theorem m_can2_loop {w : Wd} {c : Nat → Nat} (hc : ∀ f, c f < 2 ^ 31) {I : sw_I} {J : sw_J} {Q : Int32 → sw_I → sw_J → Prop} (hW : isW I w) (hch : ∀ f, f < 9 → I 160 f = nI (c f))
    (h : ∀ I3 J3, eqm [] [1] I I3 → eqj [141] J J3 → tlM I3 J3 (cnL c (wf w)) → Q (bs (fun f => decide (0 < c f)) (wf w)) I3 J3) : ∀ (d k : Nat) (I2 : sw_I) (J2 : sw_J), k + d = wf w → eqm [] [1] I I2 → eqj [141] J J2 → tlM I2 J2 (cnL c k) → wl_X10_can_88 Q (d + 1) (bs (fun f => decide (0 < c f)) k) (nI k) I2 J2 := by
  have h9 := hW.1.2.1
  have ff : ∀ I2, eqm [] [1] I I2 → I2 140 3 = nI (wf w) := fun I2 e => by rw [e.2 _ (by decide)]; exact hW.1.2.2.2.2.1
  intro d
  induction d with
  | zero =>
    intro k I2 J2 hk h2 h3 h4
    obtain rfl : k = wf w := by omega
    show wb_X10_can_88 _ Q _ _ I2 J2
    unfold wb_X10_can_88
    rw [sw_if_f (by rw [ff I2 h2]; exact nI_nlt (Nat.le_refl _) (by omega))]
    exact h I2 J2 h2 h3 h4
  | succ d ih =>
    intro k I2 J2 hk h2 h3 h4
    show wb_X10_can_88 _ Q _ _ I2 J2
    unfold wb_X10_can_88
    have ec : I2 160 k = nI (c k) := by rw [h2.1 _ (by decide) (by decide)]; exact hch k (by omega)
    rw [sw_if_t (by rw [ff I2 h2]; exact nI_lt (by omega) (by omega)), nI_clamp (by omega), ec, nI_64 (hc k)]
    refine ⟨vp0 (by omega) (by decide), t_enters (by rw [cnL_len]; omega) h4 (fun I4 J4 x4 j4 t4 => ⟨vp0 (by omega) (by decide), ?_⟩)⟩
    have ec4 : I4 160 k = nI (c k) := by rw [x4.1 _ (by decide) (by decide), ec]
    rw [ec4]
    have nxt : ∀ t, bs (fun f => decide (0 < c f)) k ||| t = bs (fun f => decide (0 < c f)) (k + 1) → wB_X10_can_124 (wl_X10_can_88 Q (d + 1)) Q (nI k) (bs (fun f => decide (0 < c f)) k) t I4 J4 := by
      intro t ht y hy y2 hy2
      rw [hy2, nI_1, hy, ht]
      exact ih (k + 1) I4 J4 (by omega) (h2.tr x4) (h3.tr j4) (by rw [cnL_s]; exact t4)
    refine ⟨fun cc => nxt _ ?_, fun cc => nxt _ ?_⟩
    · have : 0 < c k := Nat.pos_of_ne_zero (fun q => by rw [q] at cc; exact Int32.lt_irrefl cc)
      show _ = bs _ k ||| _; simp [this]
    · have : ¬ 0 < c k := fun q => cc (nI_lt (a := 0) q (hc k))
      show _ = bs _ k ||| _; simp [this]
theorem p_can {c : Nat} {I : sw_I} {J : sw_J} {Q : Int32 → Int32 → sw_I → sw_J → Prop} (h : wW c I J) (hQ : ∀ v I2 J2, wW c I2 J2 → I2 140 0 = 0 → Q v v I2 J2) :
    wp_X9_can  I J (fun r I1 J1 => wp_X10_can  I1 J1 (fun r2 I2 J2 => Q r r2 I2 J2)) := by
  obtain ⟨n, fl, m, q, p, r, t, s, z, hw⟩ := h
  obtain ⟨h0, h1, h2, h3, h4, h5, h6, h7, h8⟩ := id hw
  have hn := h1.2.2.1
  have hW := isW_O h1 h2
  generalize hμ : moC I 13 = μ
  have hE : moE I 13 μ := by rw [← hμ]; exact moE_C _ _
  have hR : relM (wdO I m n fl) μ (I 144) := by rw [← hμ]; exact h3
  have hr := h1.2.2.2.2.2.2.1
  have h9 := h1.2.1
  have ht : bs (fun i => decide (I (13 + 1) i = I 13 4)) 10 = bs (fun i => decide (I 144 i = I 144 31)) n := on_rel hn h1.2.1 h3.1 h3.2
  obtain ⟨M, hM, eM⟩ := bN_ix hn (bN_bs (fun i => decide (I 144 i = I 144 31)) (n := n) (by omega))
  have hc : ∀ f, cnA (wdO I m n fl) μ (SL M n) (fun _ => 0) f < 2 ^ 31 := fun f => by
    have a := cnA_le (wdO I m n fl) μ (SL M n) (fun _ => 0) f
    have b := SL_len_le (M := M) hn
    omega
  unfold wp_X9_can
  refine s_J7_fillL (by decide) (fun J1 j1 v1 => s_X3_onFloor ?_)
  rw [ht, eM]
  refine s_X9_setsOf hM hn ⟨(SL M n).length + 1, ?_⟩
  refine s_can_loop (w := wdO I m n fl) (SL_len_le hn) hW hE (SL M n) 0 0 (fun _ => 0) I J1 (by omega) (SL_chn hM hn) eqx.rf (J := J) (j1.mono (by decide)) (fun f hf => v1 f hf) (fun I2 J2 x2 j2 c2 => t_clear (fun I3 x3 t3 => ⟨fl + 1, ?_⟩))
  generalize hcc : cnA (wdO I m n fl) μ (SL M n) (fun _ => 0) = cc at hc c2
  have hW3 : isW I3 (wdO I m n fl) := isW_of ((x2.tr (x3.mono (by decide))).eqm (C := chC) (F := []) (fun _ q => q) (by decide)) (by decide) (by decide) hW
  refine s_can2_loop (w := wdO I m n fl) hc hW3 c2 (fun I4 J4 x4 j4 t4 => ?_) fl 0 I3 J2 (Nat.zero_add _) eqx.rf eqj.rf t3
  intro I5 e5
  have s4 : eqm (0 :: scrC) (1 :: scrF) I I4 := (x2.eqm (by decide) (by decide)).tr ((x3.eqm (by decide) (by decide)).tr (x4.eqm (by decide) (by decide)))
  have s5 : eqm (0 :: scrC) (1 :: scrF) I I5 := by rw [e5]; exact s4.upF (by decide) _
  refine ⟨10, m_can0_loop (fun I6 x6 z6 => ?_) 9 0 I5 (by omega) eqx.rf (fun j hj => absurd hj (Nat.not_lt_zero j))⟩
  have s6 : eqm (0 :: scrC) (1 :: scrF) I I6 := s5.tr (x6.eqm (by decide) (by decide))
  have n6 : I6 144 = I 144 := s6.1 _ (by decide) (by decide)
  refine s_X10_there hn (by decide) (by decide) (by rw [s6.2 _ (by decide)]; exact hr) ?_
  rw [n6, eM]
  have hW6 := isW_of s6 (by decide) (by decide) hW
  refine ⟨2 ^ n + 1, m_can_loop (w := wdO I m n fl) (μ := μ) hM hW6 (by rw [n6]; exact hR) (2 ^ n) 0 (fun _ => 0) I6 (Nat.zero_add _) eqm.rf (fun f hf => z6 f hf) (fun I7 x7 c7 => ?_)⟩
  intro I8 e8
  have c7' : ∀ f, f < 9 → I7 160 f = nI (cc f) := fun f hf => by rw [← hcc]; exact c7 f hf
  have s7 : eqm (0 :: scrC) (1 :: scrF) I I7 := s6.tr (x7.mono (by decide) (by decide))
  have s8 : eqm (0 :: scrC) (1 :: scrF) I I8 := by rw [e8]; exact s7.upF (by decide) _
  have hW8 := isW_of s8 (by decide) (by decide) hW
  refine ⟨fl + 1, m_can2_loop (w := wdO I m n fl) hc hW8 (fun f hf => by rw [e8, sw_up_cell _ _ _ _ (by decide)]; exact c7' f hf) (fun I9 J9 x9 j9 t9 => ?_) fl 0 I8 J4 (Nat.zero_add _) eqm.rf eqj.rf (tlM_0 e8)⟩
  refine hQ _ I9 J9 (told_fin (L := cnL cc fl) hw (s8.tr (x9.mono (by decide) (by decide))) (by rw [cnL_len]; omega) (tlC_of t4 ?_ (j9 _ (by decide))) t9) ?_
  · rw [x9.1 _ (by decide) (by decide), e8, sw_up_row _ _ _ (by decide), x7.1 _ (by decide) (by decide), x6 _ (by decide), e5, sw_up_row _ _ _ (by decide)]
  · rw [x9.2 _ (by decide), e8, sw_up_slot _ _ _ _ (by decide), x7.2 _ (by decide), x6 _ (by decide), e5, sw_up_same]
