/-! promises: odds, likely, both sides -/
def chF (w : Wd) (μ : Mo) (M : Nat) (t : Nat → Nat) (f : Nat) : Nat := sumL (gW w μ M t f) (SL M (wn w))
theorem sumL_mul (g : Nat → Nat) (c : Nat) : ∀ L, sumL (fun x => g x * c) L = sumL g L * c
  | [] => by show 0 = 0 * c; rw [Nat.zero_mul]
  | j :: L => by show g j * c + sumL _ L = (g j + sumL g L) * c; rw [sumL_mul g c L, Nat.add_mul]
theorem chF_all {w : Wd} {M : Nat} {t : Nat → Nat} (ht : ∀ i, t i ≤ 10) : sumL (fun x => wpF M t x (wn w)) (SL M (wn w)) = 10 ^ pcN M (wn w) := by
  rw [sum_SL, ts_w ht (wn w) 0 0 (Nat.zero_add _) (by decide)]
  show 1 * 10 ^ (pcN M (wn w) - 0) = _
  rw [Nat.one_mul, Nat.sub_zero]
theorem chF_le {w : Wd} {μ : Mo} {M : Nat} {t : Nat → Nat} (ht : ∀ i, t i ≤ 10) (f : Nat) : chF w μ M t f ≤ 10 ^ pcN M (wn w) := by
  rw [← chF_all (w := w) (M := M) ht]
  exact sumL_le (fun j => by unfold gW; split <;> omega) _
theorem c_weigh {w : Wd} {μ : Mo} {M : Nat} {t : Nat → Nat} (hM : M < 2 ^ wn w) {I : sw_I} {J : sw_J} {Q : Int64 → sw_I → sw_J → Prop} (hW : isW I w) (hT : tOK I w t) (hE : moE I 13 μ) (hin : oI μ = nI M) (h : ∀ I2 J2, eqx tr4 I I2 → eqj [117] J J2 → (∀ f, f < 9 → J2 117 f = Int64.ofNat (chF w μ M t f)) → Q (Int64.ofNat (10 ^ pcN M (wn w))) I2 J2) : wp_X9_weighStops I J Q := by
  have hn := hW.1.2.2.1
  unfold wp_X9_weighStops
  refine s_J7_fillL (by decide) (fun J1 j1 v1 => s_X3_copy (by decide) (fun I1 k1 => ?_))
  have q1 : eqx tr4 I I1 := fun c hc => k1.1 c (by simp at hc; omega)
  have ein : I1 13 3 = nI M := by rw [q1.at (by decide), ← hin]; exact hE.2.1
  rw [ein]
  refine s_X9_setsOf hM hn ⟨(SL M (wn w)).length + 1, ?_⟩
  have E1 := moE_copy k1 hE
  have := s_weigh_loop (w := w) (μ := μ) (M := M) (t := t) (I := I1) (J := J) (Q := Q) hM (SL_len_le (M := M) hn) (isW_of (q1.eqm (C := tr4) (F := []) (fun _ q => q) (by decide)) (by decide) (by decide) hW) ⟨hT.1, fun i hi => by rw [q1.at (by decide), q1.at (by decide)]; exact hT.2 i hi⟩ ein (fun i hi => by rw [q1.at (by decide)]; exact (hE.1 i hi).2.1) E1 (SL M (wn w)) 0 0 0 (fun _ => 0) I1 J1 (by omega) (SL_chn hM hn) (fun j hj => (SL_mem hn j hj).1) eqx.rf (fun i hi _ => (E1.1 i hi).2.1) (j1.mono (by decide)) (fun f hf => v1 f hf) (fun I3 J3 x3 j3 c3 => by
    rw [Nat.zero_add, chF_all hT.1]
    exact h I3 J3 (q1.tr (x3.mono (by decide))) j3 (fun f hf => by rw [c3 f hf, Nat.zero_add]; rfl))
  exact this
theorem m_betsAll {w : Wd} {μ : Mo} {M : Nat} {t : Nat → Nat} (hM : M < 2 ^ wn w) {I : sw_I} {J : sw_J} {Q : sw_I → sw_J → Prop} (hW : isW I w) (hT : tOK I w t) (hR : relM w μ (I 144)) (hin : oI μ = nI M) (h : ∀ I2 J2, eqm btC maF I I2 → eqj [170] J J2 → (∀ f, f < 9 → J2 170 f = Int64.ofNat (chF w μ M t f * 10 ^ (10 - pcN M (wn w)))) → Q I2 J2) : wp_X10_betsAll I J Q := by
  have hn := hW.1.2.2.1
  have loop : ∀ (d k : Nat) (J2 : sw_J), k + d = 9 → eqj [170] J J2 → (∀ j, j < k → J2 170 j = 0) → wl_X10_betsAll_2 Q (d + 1) (nI k) I J2 := by
    intro d
    induction d with
    | zero =>
      intro k J2 hk h1 h2
      obtain rfl : k = 9 := by omega
      show wb_X10_betsAll_2 _ Q _ I J2
      unfold wb_X10_betsAll_2
      rw [sw_if_f (show ¬ nI 9 < (9 : Int32) by decide)]
      refine s_X10_puts (by decide) (fun I1 x1 r1 => ?_)
      have q1 : eqm btC maF I I1 := x1.eqm (by decide) (by decide)
      have e0 : (10000000000 : Int64) = Int64.ofNat (wpF M t 0 0 * 10 ^ (10 - pcN M 0)) := by show (10000000000 : Int64) = Int64.ofNat (1 * 10 ^ (10 - 0)); decide
      rw [show (0 : Int32) = nI 0 from rfl, e0]
      refine m_bets (w := w) (μ := μ) (M := M) (t := t) (I0 := I) hM hW hT hR hin 12 0 0 I1 J2 (fun _ => 0) Q (by omega) (by omega) (by decide) q1 (fun j hj _ => r1 j hj) (fun i hi => by rw [if_neg (by omega), r1 _ (by omega)]; exact (hR.1.1 i hi).2.1.symm) (fun f hf => h2 f hf) (fun I2 J3 a1 a2 a3 a4 a5 => ?_)
      refine h I2 J3 a1 (h1.tr a4) (fun f hf => ?_)
      rw [a5 f hf, Nat.zero_add, Nat.sub_zero, ← sum_SL]
      unfold chF
      rw [← sumL_mul]; rfl
    | succ d ih =>
      intro k J2 hk h1 h2
      show wb_X10_betsAll_2 _ Q _ I J2
      unfold wb_X10_betsAll_2
      rw [sw_if_t (show nI k < (9 : Int32) from nI_lt (b := 9) (by omega) (by decide)), nI_clamp (by omega)]
      refine ⟨vp0 (by omega) (by decide), fun J3 e3 y hy => ?_⟩
      rw [hy, nI_1]
      refine ih (k + 1) J3 (by omega) (by rw [e3]; exact h1.up (by decide) _ _) (fun j hj => ?_)
      rw [e3]
      by_cases c : j = k
      · rw [c, sw_up_same]
      · rw [sw_up_slot _ _ _ _ c]; exact h2 j (by omega)
  exact ⟨10, loop 9 0 J (by omega) eqj.rf (fun j hj => absurd hj (Nat.not_lt_zero j))⟩
def frL (u l : Nat) : List Int64 := [Int64.ofNat (u / Nat.gcd u l), Int64.ofNat (l / Nat.gcd u l)]
theorem t_of {I : sw_I} {m n fl : Nat} (h1 : hsR I n fl) : ∃ t, tOK I (wdO I m n fl) t := by
  refine ⟨fun i => if i < n then (I 5 i).toNatClampNeg else 0, fun i => ?_, fun i hi => ?_⟩
  · show (if i < n then (I 5 i).toNatClampNeg else 0) ≤ 10
    by_cases c : i < n
    · rw [if_pos c]
      obtain ⟨j, hj, ej⟩ := (h1.2.2.2.2.2.2.2.2.2.2 i c).2
      rw [ej, nI_clamp (by omega)]; exact hj
    · rw [if_neg c]; omega
  · have hi' : i < n := hi
    show _ = nI (if i < n then (I 5 i).toNatClampNeg else 0) ∧ _ = nI (if i < n then (I 5 i).toNatClampNeg else 0)
    rw [if_pos hi']
    obtain ⟨e1, j, hj, ej⟩ := h1.2.2.2.2.2.2.2.2.2.2 i hi'
    rw [← e1, ej, nI_clamp (by omega)]; exact ⟨rfl, rfl⟩
theorem tOK_of {I I2 : sw_I} {w : Wd} {t : Nat → Nat} (h : tOK I w t) (e1 : I2 5 = I 5) (e2 : I2 143 = I 143) : tOK I2 w t := by
  unfold tOK; rw [e1, e2]; exact h
theorem ten_le {k : Nat} (h : k ≤ 10) : 10 ^ k ≤ 10000000000 ∧ 0 < 10 ^ k ∧ 10 ^ k * 10 ^ (10 - k) = 10000000000 := by
  refine ⟨?_, Nat.pow_pos (by decide), ?_⟩
  · have := Nat.pow_le_pow_right (show 0 < 10 by decide) h
    have e : (10 : Nat) ^ 10 = 10000000000 := by decide
    omega
  · rw [← Nat.pow_add, show k + (10 - k) = 10 by omega]
theorem p_odds {c : Nat} {x1 : Int32} {I : sw_I} {J : sw_J} {Q : Int32 → Int32 → sw_I → sw_J → Prop} (h : wW c I J) (hQ : ∀ v I2 J2, wW c I2 J2 → I2 140 0 = 0 → Q v v I2 J2) :
    wp_X9_odds x1 I J (fun r I1 J1 => wp_X10_odds x1 I1 J1 (fun r2 I2 J2 => Q r r2 I2 J2)) := by
  obtain ⟨n, fl, m, q, p, r, t, s, z, hw⟩ := h
  obtain ⟨h0, h1, h2, h3, h4, h5, h6, h7, h8⟩ := id hw
  have hn := h1.2.2.1
  have hW := isW_O h1 h2
  generalize hμ : moC I 13 = μ
  have hE : moE I 13 μ := by rw [← hμ]; exact moE_C _ _
  have hR : relM (wdO I m n fl) μ (I 144) := by rw [← hμ]; exact h3
  have h9 := h1.2.1
  obtain ⟨t9, hT⟩ := t_of (m := m) h1
  obtain ⟨M, hM, eM⟩ := bN_ix (x := I 13 3) hn (fun k hk hb => (h3.2.2.2.2 k hk hb).1)
  have hin : oI μ = nI M := by rw [← hμ]; exact eM
  have hpk := Nat.le_trans (pcN_le M n) hn
  obtain ⟨k1, k2, k3⟩ := ten_le hpk
  unfold wp_X9_odds
  refine s_X1_hasFloor h9 h1.2.2.2.1 (fun co => ?_) (fun k hk ek => ?_)
  · rw [sw_if_t rfl]
    intro I2 e2
    refine s_X10_isFloor (n := fl) (by omega) (by rw [e2, sw_up_slot _ _ _ _ (by decide)]; exact h1.2.2.2.2.1) (fun _ => ?_) (fun k hk ek => absurd co (fun w => ix_out (by omega) hk ek w))
    rw [sw_if_t rfl]; exact hQ _ I2 J (th_of hw e2).1 (th_of hw e2).2
  · rw [sw_if_f (by decide), ek]
    refine c_weigh (w := wdO I m n fl) hM hW hT hE hin (fun I1 J1 q1 j1 c1 => t_clear (fun I2 x2 t2 => ?_))
    have hle := chF_le (w := wdO I m n fl) (μ := μ) (M := M) hT.1 k
    have hle' : chF (wdO I m n fl) μ M t9 k ≤ 10 ^ pcN M n := hle
    rw [nI_clamp (by omega), c1 k (by omega)]
    refine ⟨vp0 (by omega) (by decide), c_frac (by omega) k1 k2 t2 (fun I3 J3 x3 j3 t3 => ?_)⟩
    have s3 : eqm (0 :: scrC) (1 :: scrF) I I3 := (q1.eqm (by decide) (by decide)).tr ((x2.eqm (by decide) (by decide)).tr (x3.eqm (by decide) (by decide)))
    intro I4 e4
    have s4 : eqm (0 :: scrC) (1 :: scrF) I I4 := by rw [e4]; exact s3.upF (by decide) _
    refine s_X10_isFloor (n := fl) (by omega) (by rw [s4.2 _ (by decide)]; exact h1.2.2.2.2.1) (fun co => absurd co (fun w => ix_out (by omega) hk rfl w)) (fun _ _ _ => ?_)
    rw [sw_if_f (by decide)]
    refine m_betsAll (w := wdO I m n fl) (μ := μ) (t := t9) hM (isW_of s4 (by decide) (by decide) hW) (tOK_of hT (s4.1 _ (by decide) (by decide)) (s4.1 _ (by decide) (by decide))) (by rw [s4.1 _ (by decide) (by decide)]; exact hR) hin (fun I5 J5 x5 j5 c5 => ?_)
    intro I6 e6
    have s6 : eqm (0 :: scrC) (1 :: scrF) I I6 := by rw [e6]; exact (s4.tr (x5.mono (by decide) (by decide))).upF (by decide) _
    have c5 : ∀ f, f < 9 → J5 170 f = Int64.ofNat (chF (wdO I m n fl) μ M t9 f * 10 ^ (10 - pcN M n)) := c5
    rw [nI_clamp (by omega), c5 k (by omega)]
    have fs := frac_same (u := chF (wdO I m n fl) μ M t9 k) (l := 10 ^ pcN M n) (e := 10 ^ (10 - pcN M n)) (Nat.pow_pos (by decide))
    rw [k3] at fs
    have hu : chF (wdO I m n fl) μ M t9 k * 10 ^ (10 - pcN M n) ≤ 10000000000 := by rw [← k3]; exact Nat.mul_le_mul_right _ hle'
    refine ⟨vp0 (by omega) (by decide), m_frac (u := chF (wdO I m n fl) μ M t9 k * 10 ^ (10 - pcN M n)) (l := 10000000000) hu (Nat.le_refl _) (by decide) (tlM_0 e6) (fun I7 J7 x7 j7 t7 => ?_)⟩
    rw [fs.1, fs.2] at t7
    refine hQ _ I7 J7 (told_fin (L := frL (chF (wdO I m n fl) μ M t9 k) (10 ^ pcN M n)) hw (s6.tr (x7.mono (by decide) (by decide))) (by unfold frL; simp) (tlC_of (I := I3) (J := J3) t3 ?_ ?_) t7) ?_
    · rw [x7.1 _ (by decide) (by decide), e6, sw_up_row _ _ _ (by decide), x5.1 _ (by decide) (by decide), e4, sw_up_row _ _ _ (by decide)]
    · rw [j7 _ (by decide), j5 _ (by decide)]
    · rw [x7.2 _ (by decide), e6, sw_up_slot _ _ _ _ (by decide), x5.2 _ (by decide), e4, sw_up_same]
/-- the likeliest floor -/
def lkM (c : Nat → Nat) : Nat → Nat → Nat → Nat
  | 0, _, b => b
  | d + 1, f, b => lkM c d (f + 1) (if c b < c f then f else b)
theorem lkM_mul (c : Nat → Nat) {e : Nat} (he : 0 < e) : ∀ d f b, lkM (fun x => c x * e) d f b = lkM c d f b
  | 0, _, _ => rfl
  | d + 1, f, b => by
    unfold lkM
    rw [lkM_mul c he d]
    congr 1
    by_cases h : c b < c f
    · rw [if_pos h, if_pos (Nat.mul_lt_mul_of_pos_right h he)]
    · rw [if_neg h, if_neg (fun q => h (Nat.lt_of_mul_lt_mul_right q))]
theorem lkM_lt (c : Nat → Nat) {F : Nat} : ∀ d f b, f + d ≤ F → b < F → lkM c d f b < F
  | 0, _, _, _, h => h
  | d + 1, f, b, hf, h => by
    unfold lkM
    refine lkM_lt c d (f + 1) _ (by omega) ?_
    split <;> omega
theorem nJ_lt {a b : Nat} (ha : a < 2 ^ 63) (hb : b < 2 ^ 63) : (Int64.ofNat a < Int64.ofNat b) ↔ a < b := by
  rw [Int64.lt_iff_toInt_lt, nJ_int ha, nJ_int hb]; omega
theorem p_likely {c : Nat} {I : sw_I} {J : sw_J} {Q : Int32 → Int32 → sw_I → sw_J → Prop} (h : wW c I J) (hQ : ∀ v I2 J2, wW c I2 J2 → I2 140 0 = 0 → Q v v I2 J2) :
    wp_X9_likely  I J (fun r I1 J1 => wp_X10_likely  I1 J1 (fun r2 I2 J2 => Q r r2 I2 J2)) := by
  obtain ⟨n, fl, m, q, p, r, t, s, z, hw⟩ := h
  obtain ⟨h0, h1, h2, h3, h4, h5, h6, h7, h8⟩ := id hw
  have hn := h1.2.2.1
  have hW := isW_O h1 h2
  generalize hμ : moC I 13 = μ
  have hE : moE I 13 μ := by rw [← hμ]; exact moE_C _ _
  have hR : relM (wdO I m n fl) μ (I 144) := by rw [← hμ]; exact h3
  have h9 := h1.2.1
  have hfl2 := h1.1
  obtain ⟨t9, hT⟩ := t_of (m := m) h1
  obtain ⟨M, hM, eM⟩ := bN_ix (x := I 13 3) hn (fun k hk hb => (h3.2.2.2.2 k hk hb).1)
  have hin : oI μ = nI M := by rw [← hμ]; exact eM
  have hpk := Nat.le_trans (pcN_le M n) hn
  obtain ⟨k1, k2, k3⟩ := ten_le hpk
  have hle : ∀ f, chF (wdO I m n fl) μ M t9 f ≤ 10 ^ pcN M n := fun f => chF_le (w := wdO I m n fl) (μ := μ) (M := M) hT.1 f
  generalize hC : chF (wdO I m n fl) μ M t9 = C at hle
  unfold wp_X9_likely
  refine c_weigh (w := wdO I m n fl) hM hW hT hE hin (fun I1 J1 q1 j1 c1 => ?_)
  rw [hC] at c1
  -- the reference
  have ref : ∀ b I3 J3, b = lkM C (fl - 1) 1 0 → eqx (0 :: tr4) I I3 → tlC I3 J3 (frL (C b) (10 ^ pcN M n)) → wp_X10_likely I3 J3 (fun r2 I2 J2 => Q (nI b) r2 I2 J2) := by
    intro b I3 J3 eb q3 t3
    have s3 : eqm (0 :: scrC) (1 :: scrF) I I3 := q3.eqm (by decide) (by decide)
    intro I4 e4
    have s4 : eqm (0 :: scrC) (1 :: scrF) I I4 := by rw [e4]; exact s3.upF (by decide) _
    refine m_betsAll (w := wdO I m n fl) (μ := μ) (t := t9) hM (isW_of s4 (by decide) (by decide) hW) (tOK_of hT (s4.1 _ (by decide) (by decide)) (s4.1 _ (by decide) (by decide))) (by rw [s4.1 _ (by decide) (by decide)]; exact hR) hin (fun I5 J5 x5 j5 c5 => ?_)
    rw [hC] at c5
    have c5 : ∀ f, f < 9 → J5 170 f = Int64.ofNat (C f * 10 ^ (10 - pcN M n)) := c5
    have e0 : 0 < 10 ^ (10 - pcN M n) := Nat.pow_pos (by decide)
    have hu : ∀ f, C f * 10 ^ (10 - pcN M n) ≤ 10000000000 := fun f => by rw [← k3]; exact Nat.mul_le_mul_right _ (hle f)
    have loop : ∀ (d f g : Nat), f + d = fl → g < fl → lkM (fun x => C x * 10 ^ (10 - pcN M n)) d f g = b → wl_X10_likely_13 (fun r2 I2 J2 => Q (nI b) r2 I2 J2) (d + 1) (nI g) (nI f) I5 J5 := by
      intro d
      induction d with
      | zero =>
        intro f g hf hg hlk
        have hgb : g = b := hlk
        show wb_X10_likely_13 _ _ _ _ I5 J5
        unfold wb_X10_likely_13
        rw [sw_if_f (by rw [x5.2 _ (by decide), s4.2 _ (by decide), h1.2.2.2.2.1]; exact nI_nlt (by omega) (by omega))]
        intro I6 e6
        have s6 : eqm (0 :: scrC) (1 :: scrF) I I6 := by rw [e6]; exact (s4.tr (x5.mono (by decide) (by decide))).upF (by decide) _
        rw [nI_clamp (by omega), c5 g (by omega)]
        have fs := frac_same (u := C g) (l := 10 ^ pcN M n) (e := 10 ^ (10 - pcN M n)) e0
        rw [k3] at fs
        refine ⟨vp0 (by omega) (by decide), m_frac (u := C g * 10 ^ (10 - pcN M n)) (l := 10000000000) (hu g) (Nat.le_refl _) (by decide) (tlM_0 e6) (fun I7 J7 x7 j7 t7 => ?_)⟩
        rw [fs.1, fs.2] at t7
        rw [hgb] at t7 ⊢
        refine hQ _ I7 J7 (told_fin (L := frL (C b) (10 ^ pcN M n)) hw (s6.tr (x7.mono (by decide) (by decide))) (by unfold frL; simp) (tlC_of (I := I3) (J := J3) t3 ?_ ?_) t7) ?_
        · rw [x7.1 _ (by decide) (by decide), e6, sw_up_row _ _ _ (by decide), x5.1 _ (by decide) (by decide), e4, sw_up_row _ _ _ (by decide)]
        · rw [j7 _ (by decide), j5 _ (by decide)]
        · rw [x7.2 _ (by decide), e6, sw_up_slot _ _ _ _ (by decide), x5.2 _ (by decide), e4, sw_up_same]
      | succ d ih =>
        intro f g hf hg hlk
        show wb_X10_likely_13 _ _ _ _ I5 J5
        unfold wb_X10_likely_13
        rw [sw_if_t (by rw [x5.2 _ (by decide), s4.2 _ (by decide), h1.2.2.2.2.1]; exact nI_lt (by omega) (by omega)), nI_clamp (by omega), nI_clamp (by omega), c5 f (by omega), c5 g (by omega)]
        unfold lkM at hlk
        have u1 := hu f
        have u2 := hu g
        refine ⟨vp0 (by omega) (by decide), vp0 (by omega) (by decide), fun cc => ?_, fun cc => ?_⟩
        · have := (nJ_lt (by omega) (by omega)).mp ((lg_cmp_gt _ _).mp cc)
          rw [if_pos this] at hlk
          intro y hy
          rw [hy, nI_1]
          exact ih (f + 1) f (by omega) (by omega) hlk
        · rw [if_neg (fun q => cc ((lg_cmp_gt _ _).mpr ((nJ_lt (by omega) (by omega)).mpr q)))] at hlk
          intro y hy
          rw [hy, nI_1]
          exact ih (f + 1) g (by omega) hg hlk
    refine ⟨fl - 1 + 1, loop (fl - 1) 1 0 (by omega) (by omega) ?_⟩
    rw [lkM_mul C e0, eb]
  obtain ⟨B, hB⟩ : ∃ B, B = lkM C (fl - 1) 1 0 := ⟨_, rfl⟩
  have loop : ∀ (d f g : Nat), f + d = fl → g < fl → lkM C d f g = B → wl_X9_likely_10 (fun r I1 J1 => wp_X10_likely I1 J1 (fun r2 I2 J2 => Q r r2 I2 J2)) (d + 1) (Int64.ofNat (10 ^ pcN M n)) (nI g) (nI f) I1 J1 := by
    intro d
    induction d with
    | zero =>
      intro f g hf hg hlk
      have hgb : g = lkM C (fl - 1) 1 0 := Eq.trans (show g = B from hlk) hB
      show wb_X9_likely_10 _ _ _ _ _ I1 J1
      unfold wb_X9_likely_10
      rw [sw_if_f (by rw [q1.at (by decide), h1.2.2.2.1]; exact nI_nlt (by omega) (by omega))]
      refine t_clear (fun I2 x2 t2 => ?_)
      have lg := hle g
      rw [nI_clamp (by omega), c1 g (by omega)]
      refine ⟨vp0 (by omega) (by decide), c_frac (by omega) k1 k2 t2 (fun I3 J3 x3 j3 t3 => ?_)⟩
      exact ref g I3 J3 hgb (((q1.mono (by decide)).tr (x2.mono (by decide))).tr (x3.mono (by decide))) t3
    | succ d ih =>
      intro f g hf hg hlk
      show wb_X9_likely_10 _ _ _ _ _ I1 J1
      unfold wb_X9_likely_10
      rw [sw_if_t (by rw [q1.at (by decide), h1.2.2.2.1]; exact nI_lt (by omega) (by omega)), nI_clamp (by omega), nI_clamp (by omega), c1 f (by omega), c1 g (by omega)]
      unfold lkM at hlk
      have u1 := hle f
      have u2 := hle g
      refine ⟨vp0 (by omega) (by decide), vp0 (by omega) (by decide), fun cc => ?_, fun cc => ?_⟩
      · have := (nJ_lt (by omega) (by omega)).mp ((lg_cmp_gt _ _).mp cc)
        rw [if_pos this] at hlk
        intro y hy
        rw [hy, nI_1]
        exact ih (f + 1) f (by omega) (by omega) hlk
      · rw [if_neg (fun q => cc ((lg_cmp_gt _ _).mpr ((nJ_lt (by omega) (by omega)).mpr q)))] at hlk
        intro y hy
        rw [hy, nI_1]
        exact ih (f + 1) g (by omega) hg hlk
  exact ⟨fl - 1 + 1, loop (fl - 1) 1 0 (by omega) (by omega) hB.symm⟩
