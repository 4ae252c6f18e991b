/-! promises: then, goes -/
def bN (n : Nat) (x : Int32) : Prop := ∀ k, k < 32 → inB x k = true → k < n
theorem bN_ix {n : Nat} (hn : n ≤ 10) {x : Int32} (h : bN n x) : ∃ j, j < 2 ^ n ∧ x = nI j := by
  refine set_ix hn (inB_ext (fun k hk => ?_))
  rw [inB_and _ _ hk, inB_not _ hk, ev_bit n hn k hk, inB_0 hk]
  cases hb : inB x k
  · rfl
  · rw [decide_eq_true (h k hk hb)]; rfl
theorem bN_bs (p : Nat → Bool) {n : Nat} (hn : n ≤ 32) : bN n (bs p n) := fun k hk hb => by
  rw [inB_bs p n hn k hk] at hb
  simp at hb; exact hb.1
theorem bN_and {n : Nat} {x y : Int32} (h : bN n x) : bN n (x &&& y) := fun k hk hb => by
  rw [inB_and _ _ hk, Bool.and_eq_true] at hb
  exact h k hk hb.1
theorem pcN_or {a b : Nat} (h : ∀ i, ¬ (a.testBit i = true ∧ b.testBit i = true)) : ∀ n, pcN (a ||| b) n = pcN a n + pcN b n
  | 0 => rfl
  | n + 1 => by
    rw [pcN_s, pcN_s, pcN_s, pcN_or h n, Nat.testBit_or]
    have := h n
    cases h1 : a.testBit n <;> cases h2 : b.testBit n <;> simp_all <;> omega
theorem nI_or (a b : Nat) : nI a ||| nI b = nI (a ||| b) := by
  apply Int32.toBitVec_inj.mp
  rw [Int32.toBitVec_or]
  show BitVec.ofNat 32 a ||| BitVec.ofNat 32 b = BitVec.ofNat 32 (a ||| b)
  apply BitVec.eq_of_getLsbD_eq
  intro i hi
  rw [BitVec.getLsbD_or, BitVec.getLsbD_ofNat, BitVec.getLsbD_ofNat, BitVec.getLsbD_ofNat, Nat.testBit_or, decide_eq_true hi]
  simp
theorem bc_or {n : Nat} (hn : n ≤ 10) {x y : Int32} (hx : bN n x) (hy : bN n y) (h : ∀ k, k < 32 → inB x k = true → inB y k = false) : bcF (x ||| y) = bcF x + bcF y := by
  have hp : 2 ^ n ≤ 2 ^ 10 := Nat.pow_le_pow_right (by decide) hn
  obtain ⟨a, ha, rfl⟩ := bN_ix hn hx
  obtain ⟨b, hb, rfl⟩ := bN_ix hn hy
  have hab : a ||| b < 2 ^ n := Nat.or_lt_two_pow ha hb
  rw [nI_or, bc10 _ (by omega), bc10 a (by omega), bc10 b (by omega), nI_add, pcN_or (fun i w => ?_)]
  by_cases c : i < 32
  · have := h i c (by rw [nI_bit (by omega) c]; exact w.1)
    rw [nI_bit (by omega) c, w.2] at this
    cases this
  · have := w.1
    rw [Nat.testBit_lt_two_pow (Nat.lt_of_lt_of_le ha (Nat.pow_le_pow_right (by decide) (by omega)))] at this
    cases this
theorem cm_bit (w : Wd) (hn : wn w ≤ 32) (μ : Mo) {k : Nat} (hk : k < 32) : inB (cmM w μ) k = (decide (k < wn w) && (inB (oI μ) k && decide (w.2.2.1 k = stM w μ (oI μ)))) := by
  unfold cmM cmF
  rw [inB_bs _ _ hn k hk]
def thL (w : Wd) : Nat → Mo → List Int64
  | 0, _ => []
  | d + 1, μ => (oL (rdM w μ)).toInt64 :: thL w d (rdM w μ)
theorem thL_len (w : Wd) : ∀ d μ, (thL w d μ).length = d
  | 0, _ => rfl
  | d + 1, μ => by unfold thL; rw [List.length_cons, thL_len w d]
def thC (w : Wd) : Nat → Int32 → Mo → Int32
  | 0, c, _ => c
  | d + 1, c, μ => thC w d (c ||| cmM w μ) (rdM w μ)
def thS (w : Wd) : Nat → Int32 → Mo → Int32
  | 0, c, _ => c
  | d + 1, c, μ => thS w d (c + bcF (cmM w μ)) (rdM w μ)
theorem th_eq {w : Wd} (hn : wn w ≤ 10) : ∀ d c μ, bN (wn w) c → (∀ k, k < 32 → inB c k = true → inB (oI μ) k = false) → bcF (thC w d c μ) = thS w d (bcF c) μ
  | 0, _, _, _, _ => rfl
  | d + 1, c, μ, h1, h2 => by
    have hb : bN (wn w) (cmM w μ) := fun k hk hb => by rw [cm_bit w (by omega) μ hk] at hb; simp at hb; exact hb.1
    unfold thC thS
    rw [← bc_or hn h1 hb (fun k hk hc => by rw [cm_bit w (by omega) μ hk, h2 k hk hc]; simp)]
    refine th_eq hn d _ _ (fun k hk hc => ?_) (fun k hk hc => ?_)
    · rw [inB_or _ _ hk, Bool.or_eq_true] at hc
      exact hc.elim (h1 k hk) (hb k hk)
    · show inB (oI μ &&& (cmM w μ ^^^ (-1))) k = false
      rw [inB_and _ _ hk, inB_not _ hk]
      rw [inB_or _ _ hk, Bool.or_eq_true] at hc
      rcases hc with q | q
      · rw [h2 k hk q]; rfl
      · rw [q]; simp
abbrev trC : List Nat := [0, 17, 17 + 1, 17 + 2, 17 + 3, 10, 11, 12, 9]
theorem s_then_loop {w : Wd} {N : Nat} (hN : N ≤ 12) {I : sw_I} {J : sw_J} {Q : Int32 → sw_I → sw_J → Prop} (hW : isW I w) :
    ∀ (d k : Nat) (c : Int32) (μ : Mo) (L : List Int64) (I2 : sw_I) (J2 : sw_J), k + d = N → L.length = k → eqx trC I I2 → eqj [118] J J2 → moE I2 17 μ → tlC I2 J2 L → (∀ I3 J3, eqx trC I I3 → eqj [118] J J3 → tlC I3 J3 (L ++ thL w d μ) → Q (bcF (thC w d c μ)) I3 J3) → wl_X9_then_31 Q (d + 1) (nI N) c (nI k) I2 J2 := by
  intro d
  induction d with
  | zero =>
    intro k c μ L I2 J2 hk hl h1 hj h2 h3 h
    obtain rfl : k = N := by omega
    show wb_X9_then_31 _ Q _ _ _ I2 J2
    unfold wb_X9_then_31
    rw [sw_if_f (nI_nlt (Nat.le_refl _) (by omega))]
    refine s_J6_bitCount (h I2 J2 h1 hj ?_)
    show tlC I2 J2 (L ++ []); rw [List.append_nil]; exact h3
  | succ d ih =>
    intro k c μ L I2 J2 hk hl h1 hj h2 h3 h
    show wb_X9_then_31 _ Q _ _ _ I2 J2
    unfold wb_X9_then_31
    rw [sw_if_t (nI_lt (by omega) (by omega))]
    refine c_rideM (by decide) (isW_of (h1.eqm (C := trC) (F := []) (fun _ q => q) (by decide)) (by decide) (by decide) hW) h2 (fun I3 x3 e3 => ?_)
    intro y hy
    rw [hy, e3.2.2.1]
    refine t_tell (by omega) (tlC_of h3 (x3 _ (by decide)) rfl) (fun I4 J4 x4 j4 t4 => ?_)
    intro y2 hy2
    rw [hy2, nI_1]
    refine ih (k + 1) _ (rdM w μ) _ I4 J4 (by omega) (by simp [hl]) ((h1.tr (x3.mono (by decide))).tr (x4.mono (by decide))) (hj.tr j4) (moE_cong (fun c c1 c2 => x4 c (by simp; omega)) e3) t4 (fun I5 J5 x5 j5 t5 => ?_)
    refine h I5 J5 x5 j5 ?_
    rw [List.append_assoc] at t5; exact t5
theorem m_then_loop {w : Wd} {N : Nat} (hN : N ≤ 12) {I : sw_I} {J : sw_J} {Q : Int32 → sw_I → sw_J → Prop} (hW : isW I w) :
    ∀ (d k : Nat) (c : Int32) (μ : Mo) (L : List Int64) (I2 : sw_I) (J2 : sw_J), k + d = N → L.length = k → eqm (145 :: mnsC) (1 :: maF) I I2 → eqj [141] J J2 → relM w μ (I2 145) → tlM I2 J2 L → (∀ I3 J3, eqm (145 :: mnsC) (1 :: maF) I I3 → eqj [141] J J3 → tlM I3 J3 (L ++ thL w d μ) → Q (thS w d c μ) I3 J3) → wl_X10_then_39 Q (d + 1) (nI N) c (nI k) I2 J2 := by
  intro d
  induction d with
  | zero =>
    intro k c μ L I2 J2 hk hl h1 hj h2 h3 h
    obtain rfl : k = N := by omega
    show wb_X10_then_39 _ Q _ _ _ I2 J2
    unfold wb_X10_then_39
    rw [sw_if_f (nI_nlt (Nat.le_refl _) (by omega))]
    refine h I2 J2 h1 hj ?_
    show tlM I2 J2 (L ++ []); rw [List.append_nil]; exact h3
  | succ d ih =>
    intro k c μ L I2 J2 hk hl h1 hj h2 h3 h
    show wb_X10_then_39 _ Q _ _ _ I2 J2
    unfold wb_X10_then_39
    have e30 : I2 145 (30 : Int32).toNatClampNeg = oI μ := h2.1.2.1.symm
    rw [sw_if_t (nI_lt (by omega) (by omega)), e30]
    refine m_rideM (by decide) (by decide) (by decide) rfl (isW_of h1 (by decide) (by decide) hW) h2 (fun I3 x3 e3 => s_J6_bitCount ?_)
    intro y hy
    have e31 : I3 145 (31 : Int32).toNatClampNeg = oL (rdM w μ) := e3.1.2.2.1.symm
    rw [hy, e31]
    refine t_enters (by omega) (tlM_of h3 (x3.2 _ (by decide)) rfl) (fun I4 J4 x4 j4 t4 => ?_)
    intro y2 hy2
    rw [hy2, nI_1]
    refine ih (k + 1) _ (rdM w μ) _ I4 J4 (by omega) (by simp [hl]) ((h1.tr (x3.mono (by decide) (by decide))).tr (x4.mono (by decide) (by decide))) (hj.tr j4) (by rw [x4.1 _ (by decide) (by decide)]; exact e3) t4 (fun I5 J5 x5 j5 t5 => ?_)
    refine h I5 J5 x5 j5 ?_
    rw [List.append_assoc] at t5; exact t5
theorem p_then {c : Nat} {x1 : Int32} {I : sw_I} {J : sw_J} {Q : Int32 → Int32 → sw_I → sw_J → Prop} (h : wW c I J) (hQ : ∀ v I2 J2, wW c I2 J2 → I2 140 0 = 0 → Q v v I2 J2) :
    wp_X9_then x1 I J (fun r I1 J1 => wp_X10_then x1 I1 J1 (fun r2 I2 J2 => Q r r2 I2 J2)) := by
  obtain ⟨n, fl, m, q, p, r, t, s, z, hw⟩ := h
  obtain ⟨h0, h1, h2, h3, h4, h5, h6, h7, h8⟩ := id hw
  have hn := h1.2.2.1
  unfold wp_X9_then
  refine if_N (N := 12) (by decide) rfl (fun hno => ?_) (fun N hN eN => ?_)
  · intro I2 e2
    refine in_N (N := 12) (by decide) rfl (fun _ => ?_) (fun i hi ei => absurd ⟨i, hi, ei⟩ hno)
    rw [sw_if_t rfl]; exact hQ _ I2 J (th_of hw e2).1 (th_of hw e2).2
  · have hW := isW_O h1 h2
    generalize hμ : moC I 13 = μ
    have hE : moE I 13 μ := by rw [← hμ]; exact moE_C _ _
    have hR : relM (wdO I m n fl) μ (I 144) := by rw [← hμ]; exact h3
    refine s_X3_copy (by decide) (fun I1 k1 => t_clear (fun I2 x2 t2 => ⟨N + 1, ?_⟩))
    rw [eN]
    have q1 : eqx trC I I1 := fun c hc => k1.1 c (by simp at hc; omega)
    have q2 : eqx trC I I2 := q1.tr (x2.mono (by decide))
    refine s_then_loop (w := wdO I m n fl) hN hW N 0 0 μ [] I2 J (by omega) rfl q2 eqj.rf (moE_cong (fun c c1 c2 => x2 c (by simp; omega)) (moE_copy k1 hE)) t2 (fun I3 J3 x3 j3 t3 => ?_)
    intro I4 e4
    refine in_N (N := 12) (by decide) rfl (fun hno => absurd ⟨N, hN, rfl⟩ hno) (fun _ _ _ => ?_)
    rw [sw_if_f (by decide)]
    have s3 : eqm (0 :: scrC) (1 :: scrF) I I3 := x3.eqm (by decide) (by decide)
    have s4 : eqm (0 :: scrC) (1 :: scrF) I I4 := by rw [e4]; exact s3.upF (by decide) _
    refine s_X10_puts (by decide) (fun I5 x5 r5 => ?_)
    intro I6 e6
    have s5 : eqm (0 :: scrC) (1 :: scrF) I I5 := s4.tr (x5.eqm (by decide) (by decide))
    have s6 : eqm (0 :: scrC) (1 :: scrF) I I6 := by rw [e6]; exact s5.upF (by decide) _
    have hW6 : isW I6 (wdO I m n fl) := isW_of s6 (by decide) (by decide) hW
    have hR6 : relM (wdO I m n fl) μ (I6 145) := relM_cong hn (fun j hj => by rw [e6, sw_up_row _ _ _ (by decide), r5 j hj, s4.1 _ (by decide) (by decide)]) hR
    refine ⟨N + 1, m_then_loop (w := wdO I m n fl) hN hW6 N 0 0 μ [] I6 J3 (by omega) rfl eqm.rf eqj.rf hR6 (tlM_0 e6) (fun I7 J7 x7 j7 t7 => ?_)⟩
    have ev : bcF (thC (wdO I m n fl) N 0 μ) = thS (wdO I m n fl) N 0 μ := by
      have := th_eq (w := wdO I m n fl) hn N 0 μ (fun k hk hb => by rw [inB_0 hk] at hb; cases hb) (fun k hk hb => by rw [inB_0 hk] at hb; cases hb)
      rw [this]; congr 1
    rw [ev]
    rw [List.nil_append] at t3 t7
    refine hQ _ I7 J7 (told_fin (L := thL (wdO I m n fl) N μ) hw (s6.tr (x7.mono (by decide) (by decide))) (by rw [thL_len]; exact hN) (tlC_of t3 ?_ (j7 _ (by decide))) t7) ?_
    · rw [x7.1 _ (by decide) (by decide), e6, sw_up_row _ _ _ (by decide), x5 _ (by decide), e4, sw_up_row _ _ _ (by decide)]
    · rw [x7.2 _ (by decide), e6, sw_up_slot _ _ _ _ (by decide), x5 _ (by decide), e4, sw_up_same]
