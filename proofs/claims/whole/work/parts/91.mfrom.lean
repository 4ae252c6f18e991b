/-! the reference's search goes on from a state -/
abbrev msC : List Nat := [145, 153, 154, 152, 162, 163, 164, 165]
abbrev msF : List Nat := [48, 49, 28, 29, 30]
def wsN (n : Nat) (wi : Nat → Int32) (I : sw_I) : Prop := ∀ i, i < n → I 145 (10 + i) = wi i
theorem mlS_m {n : Nat} {I I2 : sw_I} {J J2 : sw_J} {C F : List Nat} {L : List En} {m : Bool} (h : mlS n I J L m) (e : eqm C F I I2) (hj : J2 161 = J 161) (hC : ∀ c, c ∈ mfC → c ∉ C) (hF : ∀ c, c ∈ mfF → c ∉ F) : mlS n I2 J2 L m := by
  unfold mlS
  rw [e.2 _ (hF _ (by decide)), e.2 _ (hF _ (by decide)), e.1 _ (hC _ (by decide)) (by decide), e.1 _ (hC _ (by decide)) (by decide), e.1 _ (hC _ (by decide)) (by decide), e.1 _ (hC _ (by decide)) (by decide), hj]; exact h
/-- the row 'next' behind unpacks tells a state's moment -/
theorem nx_rel {w : Wd} {wi : Nat → Int32} {K : Nat} {row : Nat → Int32} (hn : wn w ≤ 10) (h9 : wf w ≤ 9) (hK : vK (wn w) (wf w) K) (h1 : ∀ i, i < wn w → row i = nI (plN K i)) (h2 : ∀ i, i < wn w → row (10 + i) = wi i) (hv : ∀ i, i < wn w → fw (wf w) (wi i)) (h30 : row 30 = 0) (h31 : row 31 = nI (lfK K)) (h32 : row 32 = nI (rrK K)) : relM w (dcM wi (fun i => row (20 + i)) 0 K) row := by
  refine ⟨⟨fun i hi => ⟨?_, (h2 i hi).symm, rfl⟩, h30.symm, h31.symm, h32.symm⟩, fun i hi => ⟨?_, hv i hi⟩, fun i a b => ?_, ⟨lfK K, hK.2.2.1, rfl⟩, fun i hi hb => ?_⟩
  · rw [h1 i hi]
    have hc := hK.1 i (by omega)
    unfold plN
    by_cases c : cdK K i = 0
    · rw [if_pos c]
      refine Or.inl ⟨?_, rfl⟩
      show nI (cdK K i) - 1 = -1
      rw [c]; decide
    · rw [if_neg c]
      obtain ⟨j, hj⟩ : ∃ j, cdK K i = j + 1 := ⟨cdK K i - 1, by omega⟩
      refine Or.inr ⟨?_, j, by omega, ?_⟩
      · show nI (cdK K i) - 1 = nI (cdK K i - 1)
        rw [hj, nI_pred, Nat.add_sub_cancel]
      · show nI (cdK K i) - 1 = nI j
        rw [hj, nI_pred]
  · show fw (wf w) (nI (cdK K i) - 1)
    have hc := hK.1 i (by omega)
    by_cases c : cdK K i = 0
    · left; rw [c]; decide
    · right
      obtain ⟨j, hj⟩ : ∃ j, cdK K i = j + 1 := ⟨cdK K i - 1, by omega⟩
      exact ⟨j, by omega, by rw [hj, nI_pred]⟩
  · show nI (cdK K i) - 1 = -1
    rw [hK.2.1 i a b]; decide
  · exact absurd (show inB 0 i = true from hb) (by rw [inB_0 hi]; decide)
theorem thk_eq {n fl K : Nat} {row : Nat → Int32} (hn : n ≤ 10) (h9 : fl ≤ 9) (hK : vK n fl K) (h1 : ∀ i, i < n → row i = nI (plN K i)) (h31 : row 31 = nI (lfK K)) : bs (fun i => decide (row i = row 31)) n = nI (thK K) := by
  rw [← (thK_e hn h9 hK).1]
  have h3 := hK.2.2.1
  refine inB_ext (fun i hi => ?_)
  unfold onK
  rw [inB_bs _ n (by omega) i hi, inB_bs _ 10 (by omega) i hi]
  by_cases c : i < n
  · have hc := hK.1 i (by omega)
    rw [decide_eq_true c, decide_eq_true (show i < 10 by omega), Bool.true_and, Bool.true_and, h1 i c, h31]
    refine decide_eq_decide.mpr ?_
    unfold plN
    by_cases c0 : cdK K i = 0
    · rw [if_pos c0, c0]
      constructor
      · intro q; have := (nI_eq (a := 9) (by omega) (by omega)).mp q; omega
      · intro q
        exact absurd (show nI (lfK K) < 0 by rw [← q]; decide) (nI_pos (by omega))
    · rw [if_neg c0]
      obtain ⟨j, hj⟩ : ∃ j, cdK K i = j + 1 := ⟨cdK K i - 1, by omega⟩
      rw [hj, nI_pred, Nat.add_sub_cancel]
  · rw [decide_eq_false c, Bool.false_and]
    by_cases c10 : i < 10
    · rw [decide_eq_true c10, Bool.true_and, hK.2.1 i (by omega) c10]
      refine (decide_eq_false (fun q => ?_)).symm
      exact absurd (show nI (lfK K) < 0 by rw [← q]; decide) (nI_pos (by omega))
    · rw [decide_eq_false c10, Bool.false_and]
theorem m_findsFrom {w : Wd} {wi : Nat → Int32} {k : Nat} {L : List En} {m : Bool} {I : sw_I} {J : sw_J} {Q : sw_I → sw_J → Prop} (hW : isW I w) (hwf : wfL (wn w) (wf w) k L) (hk : k < L.length) (hcl : mlS (wn w) I J L m) (hws : wsN (wn w) wi I) (hv : ∀ i, i < wn w → fw (wf w) (wi i))
    (h : ∀ I3 J3, eqm msC msF I I3 → eqj [161] J J3 → wsN (wn w) wi I3 → mlS (wn w) I3 J3 (goE (nxS w wi (kE L k)) noW k (fE L k + 1) (SL (thK (kE L k)) (wn w)) L m).2.1 (goE (nxS w wi (kE L k)) noW k (fE L k + 1) (SL (thK (kE L k)) (wn w)) L m).2.2 → Q I3 J3) : wp_X10_findsFrom (nI k) I J Q := by
  have hn := hW.1.2.2.1
  have h9 := hW.1.2.1
  have hr := hW.1.2.2.2.2.2.2.1
  have hK := (hwf.2.2.1 k hk).1
  have hL := hwf.2.1
  obtain ⟨et, ht⟩ := thK_e hn h9 hK
  have hp10 : 2 ^ wn w ≤ 2 ^ 10 := Nat.pow_le_pow_right (by decide) hn
  unfold wp_X10_findsFrom
  refine s_unpacks hn h9 hK (by omega) hr (hcl.2.2.1 k hk).1 (fun I2 x2 u1 u2 u3 u4 u5 => ?_)
  have q2 : eqm msC msF I I2 := x2.eqm (by decide) (by decide)
  refine s_X10_there hn (by decide) (by decide) (by rw [q2.2 _ (by decide)]; exact hr) ?_
  rw [thk_eq hn h9 hK u1 u4]
  have loop : ∀ (d j : Nat) (L2 : List En) (m2 : Bool) (I3 : sw_I) (J3 : sw_J), j + d = 2 ^ wn w → wfL (wn w) (wf w) k L2 → k < L2.length → kE L2 k = kE L k → fE L2 k = fE L k → eqm msC msF I I3 → eqj [161] J J3 → wsN (wn w) wi I3 → mlS (wn w) I3 J3 L2 m2 →
      (∀ I4 J4, eqm msC msF I I4 → eqj [161] J J4 → wsN (wn w) wi I4 → mlS (wn w) I4 J4 (goE (nxS w wi (kE L k)) noW k (fE L k + 1) (rmL (thK (kE L k)) d j) L2 m2).2.1 (goE (nxS w wi (kE L k)) noW k (fE L k + 1) (rmL (thK (kE L k)) d j) L2 m2).2.2 → Q I4 J4) →
      wl_X10_findsFrom_16 Q (d + 1) (nI k) (nI (thK (kE L k))) (nI j) I3 J3 := by
    intro d
    induction d with
    | zero =>
      intro j L2 m2 I3 J3 hj b1 b2 b3 b4 e ej ws cl h
      obtain rfl : j = 2 ^ wn w := by omega
      show wb_X10_findsFrom_16 _ Q _ _ _ I3 J3
      unfold wb_X10_findsFrom_16
      have e4 : I3 140 4 = nI (wn w) := by rw [e.2 _ (by decide)]; exact hr
      rw [e4, shl_1 _ hn, sw_if_f (nI_nlt (Nat.le_refl _) (by omega))]
      exact h I3 J3 e ej ws cl
    | succ d ih =>
      intro j L2 m2 I3 J3 hj b1 b2 b3 b4 e ej ws cl h
      show wb_X10_findsFrom_16 _ Q _ _ _ I3 J3
      unfold wb_X10_findsFrom_16
      have e4 : I3 140 4 = nI (wn w) := by rw [e.2 _ (by decide)]; exact hr
      rw [e4, shl_1 _ hn, sw_if_t (nI_lt (by omega) (by omega)), show I3 140 49 = bI m2 from cl.2.1]
      cases m2 with
      | true =>
        rw [sw_if_f (by decide)]
        rw [goE_m] at h
        exact h I3 J3 e ej ws cl
      | false =>
        rw [sw_if_t (by rfl)]
        rw [rmL_s] at h
        by_cases cs : sbB (thK (kE L k)) j = true
        · rw [sw_if_t ((sub_iff (by omega) ht hn).mpr cs)]
          rw [if_pos cs, goE_f] at h
          have hcl3 := (cl.2.2.1 k b2).1
          rw [b3] at hcl3
          refine s_unpacks hn h9 hK (by omega) (by rw [e.2 _ (by decide)]; exact hr) hcl3 (fun I5 x5 v1 v2 v3 v4 v5 => ?_)
          have ws5 : wsN (wn w) wi I5 := fun i hi => by rw [v2 (10 + i) (by omega) (by omega)]; exact ws i hi
          have q5 : eqm msC msF I I5 := e.tr (x5.eqm (by decide) (by decide))
          have W5 : isW I5 w := isW_of q5 (by decide) (by decide) hW
          have R5 := nx_rel hn h9 hK v1 ws5 hv v3 v4 v5
          refine m_rideG (b := 145) (by decide) (by decide) (by decide) W5.1 W5.2.1 R5.1 R5.2 (fun I6 r6 => ?_)
          have est : nsF (I5 7) w.2.1 (dcM wi (fun i => I5 145 (20 + i)) 0 (kE L k)).1 (dcM wi (fun i => I5 145 (20 + i)) 0 (kE L k)).2.1 (wn w) (wf w) (I5 140 5) (nI j) (oL (dcM wi (fun i => I5 145 (20 + i)) 0 (kE L k))) (oR (dcM wi (fun i => I5 145 (20 + i)) 0 (kE L k))) = nI (stK w wi (kE L k) j) := by
            rw [W5.2.2.1, W5.2.2.2.2]
            exact (stK_e hW (wi := wi) (rd := fun i => I5 145 (20 + i)) (ins := 0) (kE L k) j).1
          rw [est] at r6
          obtain ⟨s1, s2, s3⟩ := r6
          have hst := (stK_e hW (wi := wi) (rd := fun _ => 0) (ins := 0) (kE L k) j).2
          have q56 : eqm msC msF I5 I6 := ⟨fun c c1 c2 => s1 c (fun z => c1 ((show ∀ c, c ∈ mnsC → c ∈ msC by decide) c z)) (fun z => c1 (by rw [z]; decide)) c2, fun c c1 => s2 c (fun z => c1 ((show ∀ c, c ∈ maF → c ∈ msF by decide) c z))⟩
          have q6 : eqm msC msF I I6 := q5.tr q56
          have hh : ∀ i, i < wn w → I5 142 i = w.2.2.1 i := fun i hi => by rw [← W5.2.2.2.1]; exact (W5.1.2.2.2.2.2.2.2.2.2.1 i hi).1.symm
          have c16 : ∀ i, i < 10 → ncK w wi (kE L k) j i < 16 := fun i hi => by have := ncK_le hW (wi := wi) (s := j) hK hi; omega
          have hbit : ∀ i, i < 32 → inB (nI j) i = j.testBit i := fun i hi => bit_M hn (show j < 2 ^ wn w by omega) hi
          have nr : nxR (wn w) (nxS w wi (kE L k) j) (rrK (kE L k) + 1) (I6 145) := by
            refine ⟨fun i hi => ?_, ?_, ?_, ?_, by have := hK.2.2.2; omega⟩
            · rw [s3]
              show (if i = 32 then _ else if i = 31 then _ else if i = 30 then _ else mrF (I5 142) (I5 145) (nI j) (nI (stK w wi (kE L k) j)) (wn w) i) = _
              rw [if_neg (by omega), if_neg (by omega), if_neg (by omega)]
              unfold mrF
              rw [hbit i (by omega), hh i hi, v1 i hi]
              have ecd : cdK (nxS w wi (kE L k) j) i = ncK w wi (kE L k) j i := cd_en c16 (by omega)
              by_cases cb : j.testBit i = true
              · rw [if_pos ⟨hi, cb⟩]
                by_cases ch : w.2.2.1 i = nI (stK w wi (kE L k) j)
                · have e0 : ncK w wi (kE L k) j i = 0 := by unfold ncK; rw [if_pos ⟨hi, cb⟩, if_pos ch]
                  rw [if_pos ch]; unfold plN; rw [ecd, e0, if_pos rfl]; rfl
                · have e0 : ncK w wi (kE L k) j i = stK w wi (kE L k) j + 1 := by unfold ncK; rw [if_pos ⟨hi, cb⟩, if_neg ch]
                  rw [if_neg ch]; unfold plN; rw [ecd, e0, if_neg (by omega), Nat.add_sub_cancel]
              · have e0 : ncK w wi (kE L k) j i = cdK (kE L k) i := by unfold ncK; rw [if_neg (fun z => cb z.2)]
                rw [if_neg (fun z => cb z.2), if_neg (fun z => by have := z.1; omega)]; unfold plN; rw [ecd, e0]
            · rw [s3]
              show (if (31 : Nat) = 32 then _ else if (31 : Nat) = 31 then _ else _) = _
              rw [if_neg (by decide), if_pos rfl, show lfK (nxS w wi (kE L k) j) = stK w wi (kE L k) j from lf_en c16 (by omega)]
            · rw [s3]
              show (if (32 : Nat) = 32 then I5 145 32 + 1 else _) = _
              rw [if_pos rfl, v5, nI_1]
            · exact (rr_en c16 (by omega)).symm
          have ws6 : wsN (wn w) wi I6 := fun i hi => by
            rw [s3]
            show (if 10 + i = 32 then _ else if 10 + i = 31 then _ else if 10 + i = 30 then _ else mrF _ _ _ _ _ (10 + i)) = _
            rw [if_neg (by omega), if_neg (by omega), if_neg (by omega)]
            unfold mrF
            rw [if_neg (fun z => by have := z.1; omega), if_neg (fun z => by have := z.1; omega)]; exact ws5 i hi
          have cl6 : mlS (wn w) I6 J3 L2 false := by
            have a5 : mlS (wn w) I5 J3 L2 false := mlS_m (C := [145]) (F := []) cl (x5.eqm (by decide) (by decide)) rfl (by decide) (by decide)
            refine mlS_m (C := 145 :: mnsC) (F := maF) a5 ⟨fun c c1 c2 => ?_, s2⟩ rfl (by decide) (by decide)
            simp only [List.mem_cons, not_or] at c1
            exact s1 c (by simpa using c1.2) c1.1 c2
          have nv := nxS_v hW (wi := wi) (s := j) hK
          have kl : ∀ i, i < L2.length → vK (wn w) (wf w) (kE L2 i) := fun i hi => (b1.2.2.1 i hi).1
          have hfk : fE L2 k < 3000 := by have := b1.2.2.2.2.2.2.2 k b2; have := b1.2.1; omega
          refine m_finds (K := nxS w wi (kE L k) j) (par := k) (s := j) (far := fE L k + 1) (L := L2) (m := false) hn h9 b1.2.1 kl nv (by rw [q6.2 _ (by decide)]; exact hr) nr (Or.inr ⟨rfl, b2, by rw [b4], hfk⟩) cl6 (fun g1 => ?_) (fun g1 g2 I7 x7 c7 => ?_) (fun g1 g2 I7 J7 x7 j7 c7 => ?_)
          · rw [if_pos g1] at h
            intro y hy
            rw [hy, nI_1]
            exact ih (j + 1) L2 false I6 J3 (by omega) b1 b2 b3 b4 q6 ej ws6 cl6 h
          · rw [if_neg g1, if_pos g2] at h
            intro y hy
            rw [hy, nI_1]
            exact ih (j + 1) L2 true I7 J3 (by omega) b1 b2 b3 b4 (q6.tr (x7.mono (by decide) (by decide))) ej (fun i hi => by rw [x7.1 _ (by decide) (by decide)]; exact ws6 i hi) c7 h
          · rw [if_neg g1, if_neg g2, if_neg Bool.false_ne_true] at h
            intro y hy
            rw [hy, nI_1]
            have hlen : (L2 ++ [(nxS w wi (kE L k) j, k, j, fE L k + 1)]).length = L2.length + 1 := by rw [List.length_append]; rfl
            have wf7 : wfL (wn w) (wf w) k (L2 ++ [(nxS w wi (kE L k) j, k, j, fE L k + 1)]) := by rw [← b4]; exact wfL_app b1 b2 (by omega) nv (by omega)
            exact ih (j + 1) _ false I7 J7 (by omega) wf7 (by omega) (by unfold kE; rw [geE_app b2]; exact b3) (by unfold fE; rw [geE_app b2]; exact b4) (q6.tr (x7.mono (by decide) (by decide))) (ej.tr j7) (fun i hi => by rw [x7.1 _ (by decide) (by decide)]; exact ws6 i hi) c7 h
        · rw [sw_if_f (fun q => cs ((sub_iff (by omega) ht hn).mp q))]
          rw [if_neg cs] at h
          intro y hy
          rw [hy, nI_1]
          exact ih (j + 1) L2 false I3 J3 (by omega) b1 b2 b3 b4 e ej ws cl h
  refine ⟨2 ^ wn w + 1, loop (2 ^ wn w) 0 L m I2 J (by omega) hwf hk rfl rfl q2 eqj.rf (fun i hi => by rw [u2 (10 + i) (by omega) (by omega)]; exact hws i hi) (mlS_m (C := [145]) (F := []) hcl (x2.eqm (by decide) (by decide)) rfl (by decide) (by decide)) h⟩
/-- the first state -/
theorem m_findsFirst {w : Wd} {μ : Mo} {R : Nat} {I : sw_I} {J : sw_J} {Q : sw_I → sw_J → Prop} (hW : isW I w) (hM : relM w μ (I 144)) (hR : oR μ = nI R) (hR2 : R < 2 ^ 31)
    (h : ∀ I3 J3, eqm msC msF I I3 → eqj [161] J J3 → wsN (wn w) μ.2.1 I3 → mlS (wn w) I3 J3 (L0 (k0M μ)) false → Q I3 J3) : wp_X10_findsFirst I J Q := by
  have hn := hW.1.2.2.1
  have h9 := hW.1.2.1
  have hr := hW.1.2.2.2.2.2.2.1
  have kv := k0_v hn h9 hM
  obtain ⟨k1, k2, k3⟩ := k0_f hn h9 hM
  have loop : ∀ d k I2, k + d = 16384 → eqx [165] I I2 → (∀ j, j < k → I2 165 j = -1) → wl_X10_findsFirst_2 Q (d + 1) (nI k) I2 J := by
    intro d
    induction d with
    | zero =>
      intro k I2 hk x2 hv
      obtain rfl : k = 16384 := by omega
      show wb_X10_findsFirst_2 _ Q _ I2 J
      unfold wb_X10_findsFirst_2
      rw [sw_if_f (by decide)]
      intro I3 e3 I4 e4
      refine s_X10_puts (by decide) (fun I5 x5 v5 => ?_)
      have q4 : eqm msC msF I I4 := by rw [e4, e3]; exact ((x2.eqm (by decide) (by decide)).upF (by decide) _).upF (by decide) _
      have q5 : eqm msC msF I I5 := q4.tr (x5.eqm (by decide) (by decide))
      have n5 : ∀ i, i < 33 → I5 145 i = I 144 i := fun i hi => by rw [v5 i hi, q4.1 _ (by decide) (by decide)]
      have s5 : I5 165 = I2 165 := by rw [x5 _ (by decide), e4, sw_up_row _ _ _ (by decide), e3, sw_up_row _ _ _ (by decide)]
      have c5 : mlS (wn w) I5 J [] false := by
        refine ⟨?_, ?_, fun i hi => absurd hi (Nat.not_lt_zero _), ?_, ?_⟩
        · rw [x5 _ (by decide), e4, sw_up_slot _ _ _ _ (by decide), e3, sw_up_same]; rfl
        · rw [x5 _ (by decide), e4, sw_up_same]; rfl
        · refine hs_0 (fun s hs => ocM_0.mpr ?_)
          rw [s5, hv s hs]; decide
        · intro s hs
          left; rw [s5, hv s hs]; decide
      obtain ⟨⟨m1, m2, m3, m4⟩, v1, v2, v3, v4⟩ := id hM
      have c16 : ∀ i, i < 10 → (μ.1 i + 1).toNatClampNeg < 16 := fun i hi => by have := (k1 i hi).2.1; omega
      have nr : nxR (wn w) (k0M μ) R (I5 145) := by
        refine ⟨fun i hi => ?_, ?_, ?_, ?_, hR2⟩
        · rw [n5 i (by omega)]
          unfold plN
          rw [show cdK (k0M μ) i = (μ.1 i + 1).toNatClampNeg from cd_en c16 (by omega)]
          rcases (m1 i hi).1 with ⟨a1, a2⟩ | ⟨a1, j, hj, ej⟩
          · rw [a1, a2, if_pos (by decide)]; rfl
          · rw [ej, nI_1, nI_clamp (by omega), if_neg (by omega), Nat.add_sub_cancel, ← a1, ej]
        · rw [n5 31 (by omega), ← m3, show lfK (k0M μ) = (oL μ).toNatClampNeg from lf_en c16 (by omega), ← k2]
        · rw [n5 32 (by omega), ← m4, hR]
        · rw [show rrK (k0M μ) = (oR μ).toNatClampNeg % 7 from rr_en c16 (by omega), hR, nI_clamp (by omega)]
      have ws5 : wsN (wn w) μ.2.1 I5 := fun i hi => by rw [n5 (10 + i) (by omega)]; exact (m1 i hi).2.1.symm
      refine m_finds (K := k0M μ) (par := 0) (s := 0) (far := 0) (L := []) (m := false) hn h9 (by decide) (fun i hi => absurd hi (Nat.not_lt_zero _)) kv (by rw [q5.2 _ (by decide)]; exact hr) nr (Or.inl ⟨rfl, rfl, rfl, rfl⟩) c5 (fun g1 => by cases g1) (fun g1 g2 => absurd g2 (by decide)) (fun g1 g2 I7 J7 x7 j7 c7 => ?_)
      exact h I7 J7 (q5.tr (x7.mono (by decide) (by decide))) j7 (fun i hi => by rw [x7.1 _ (by decide) (by decide)]; exact ws5 i hi) c7
    | succ d ih =>
      intro k I2 hk x2 hv
      show wb_X10_findsFirst_2 _ Q _ I2 J
      unfold wb_X10_findsFirst_2
      rw [sw_if_t (show nI k < (16384 : Int32) from nI_lt (b := 16384) (by omega) (by decide)), nI_clamp (by omega)]
      refine ⟨vp0 (by omega) (by decide), fun I3 e3 y hy => ?_⟩
      rw [hy, nI_1]
      refine ih (k + 1) I3 (by omega) (by rw [e3]; exact x2.up (by decide) _ _) (fun j hj => ?_)
      rw [e3]
      by_cases c : j = k
      · rw [c, sw_up_same]
      · rw [sw_up_slot _ _ _ _ c]; exact hv j (by omega)
  exact ⟨16385, loop 16384 0 I (by omega) eqx.rf (fun j hj => absurd hj (Nat.not_lt_zero _))⟩
/-- what the reference aims at -/
def amR (n : Nat) (I : sw_I) (a : Nat) (T f : Int32) : Prop := (I 140 50 = 0 ∧ a = 1 ∧ T = ((1 : Int32) <<< (nI n &&& 31)) - 1) ∨ (I 140 50 = 1 ∧ a = 1 ∧ ∃ r, r < n ∧ I 140 51 = nI r ∧ T = (1 : Int32) <<< (nI r &&& 31)) ∨ (I 140 50 = 2 ∧ a = 2 ∧ I 140 52 = f ∧ I 140 51 = T)
theorem home_b {n fl K i : Nat} (hfl : fl ≤ 9) (hn : n ≤ 10) (hK : vK n fl K) (hi : i < n) : (nI (plN K i) = 9) ↔ (nI (cdK K i) - 1 = -1) := by
  have hc := hK.1 i (by omega)
  unfold plN
  by_cases c : cdK K i = 0
  · rw [if_pos c, c]; exact ⟨fun _ => by decide, fun _ => rfl⟩
  · rw [if_neg c]
    obtain ⟨j, hj⟩ : ∃ j, cdK K i = j + 1 := ⟨cdK K i - 1, by omega⟩
    rw [hj, nI_pred, Nat.add_sub_cancel]
    constructor
    · intro q; have := (nI_eq (b := 9) (by omega) (by omega)).mp q; omega
    · intro q; exact absurd (show nI j < 0 by rw [q]; decide) (nI_pos (by omega))
theorem m_isAim {w : Wd} {wi : Nat → Int32} {k a : Nat} {T f : Int32} {L : List En} {m : Bool} {I : sw_I} {J : sw_J} {Q : Int32 → sw_I → sw_J → Prop} (hW : isW I w) (hL : L.length ≤ 3000) (hK : vK (wn w) (wf w) (kE L k)) (hk : k < L.length) (hcl : mlS (wn w) I J L m) (hws : wsN (wn w) wi I) (ham : amR (wn w) I a T f)
    (h : ∀ I3, eqx [145] I I3 → wsN (wn w) wi I3 → Q (bI (wtB a T f (kE L k))) I3 J) : wp_X10_isAim (nI k) I J Q := by
  have hn := hW.1.2.2.1
  have h9 := hW.1.2.1
  have hr := hW.1.2.2.2.2.2.2.1
  have h3 := hK.2.2.1
  unfold wp_X10_isAim
  refine s_unpacks hn h9 hK (by omega) hr (hcl.2.2.1 k hk).1 (fun I2 x2 u1 u2 u3 u4 u5 => ?_)
  have ws2 : wsN (wn w) wi I2 := fun i hi => by rw [u2 (10 + i) (by omega) (by omega)]; exact hws i hi
  have fin := h I2 x2 ws2
  have m2 : I2 140 = I 140 := x2 _ (by decide)
  have r2 : I2 140 4 = nI (wn w) := by rw [m2]; exact hr
  have two : ∀ b : Bool, ∀ P : Prop, (P ↔ b = true) → Q (bI b) I2 J → sw_if P (Q 1 I2 J) (Q 0 I2 J) := fun b P hP hq => by
    cases b
    · exact ⟨(fun q => by have := hP.mp q; cases this), fun _ => hq⟩
    · exact ⟨fun _ => hq, fun q => absurd (hP.mpr rfl) q⟩
  rcases ham with ⟨a1, a2, a3⟩ | ⟨a1, a2, r, hrn, a3, a4⟩ | ⟨a1, a2, a3, a4⟩
  · rw [show I2 140 50 = 0 by rw [m2]; exact a1, sw_if_f (by decide), sw_if_t rfl]
    refine s_X10_homeBits hn (by decide) (by decide) r2 ?_
    rw [show I2 140 4 = nI (wn w) from r2]
    refine two _ _ ?_ fin
    unfold wtB
    rw [if_pos a2, decide_eq_true_iff, a3]
    have bt1 : ∀ i, i < 32 → inB (bs (fun i => decide (I2 145 i = 9)) (wn w)) i = (decide (i < wn w) && decide (I2 145 i = 9)) := fun i hi => inB_bs _ _ (by omega) i hi
    have bt2 : ∀ i, i < 32 → inB (onK (kE L k) (-1)) i = (decide (i < 10) && decide (nI (cdK (kE L k) i) - 1 = -1)) := fun i hi => inB_bs _ 10 (by omega) i hi
    constructor
    · intro q
      refine inB_ext (fun i hi => ?_)
      rw [inB_and _ _ hi, inB_not _ hi, ev_bit _ hn i hi, inB_0 hi, bt2 i hi]
      by_cases c : i < wn w
      · have := bt1 i hi
        rw [q, ev_bit _ hn i hi, decide_eq_true c, Bool.true_and] at this
        have h1 := of_decide_eq_true this.symm
        rw [u1 i c] at h1
        rw [decide_eq_true c, decide_eq_true (show i < 10 by omega), decide_eq_true ((home_b h9 hn hK c).mp h1)]; rfl
      · rw [decide_eq_false c]; rfl
    · intro q
      refine inB_ext (fun i hi => ?_)
      rw [bt1 i hi, ev_bit _ hn i hi]
      by_cases c : i < wn w
      · have e0 : inB ((((1 : Int32) <<< (nI (wn w) &&& 31)) - 1) &&& (onK (kE L k) (-1) ^^^ (-1))) i = false := by rw [q, inB_0 hi]
        rw [inB_and _ _ hi, inB_not _ hi, ev_bit _ hn i hi, bt2 i hi, decide_eq_true c, decide_eq_true (show i < 10 by omega)] at e0
        simp only [Bool.true_and, Bool.not_eq_false'] at e0
        rw [decide_eq_true c, Bool.true_and, u1 i c]
        exact decide_eq_true ((home_b h9 hn hK c).mpr (of_decide_eq_true e0))
      · rw [decide_eq_false c]; rfl
  · rw [show I2 140 50 = 1 by rw [m2]; exact a1, sw_if_f (by decide), sw_if_f (by decide), show I2 140 51 = nI r by rw [m2]; exact a3, nI_clamp (by omega), u1 r hrn]
    refine ⟨vp0 (by omega) (by decide), two _ _ ?_ fin⟩
    unfold wtB
    rw [if_pos a2, decide_eq_true_iff, a4, home_b h9 hn hK hrn]
    have bt2 : ∀ i, i < 32 → inB (onK (kE L k) (-1)) i = (decide (i < 10) && decide (nI (cdK (kE L k) i) - 1 = -1)) := fun i hi => inB_bs _ 10 (by omega) i hi
    constructor
    · intro q
      refine inB_ext (fun i hi => ?_)
      rw [inB_and _ _ hi, inB_not _ hi, inB_one r (by omega) i hi, inB_0 hi, bt2 i hi]
      by_cases c : i = r
      · rw [c, decide_eq_true q, decide_eq_true (show r < 10 by omega)]; simp
      · rw [decide_eq_false c]; rfl
    · intro q
      have e0 : inB (((1 : Int32) <<< (nI r &&& 31)) &&& (onK (kE L k) (-1) ^^^ (-1))) r = false := by rw [q, inB_0 (by omega)]
      rw [inB_and _ _ (by omega), inB_not _ (by omega), inB_one r (by omega) r (by omega), bt2 r (by omega), decide_eq_true rfl, decide_eq_true (show r < 10 by omega)] at e0
      simp only [Bool.true_and, Bool.not_eq_false'] at e0
      exact of_decide_eq_true e0
  · rw [show I2 140 50 = 2 by rw [m2]; exact a1, sw_if_t rfl, show I2 145 (31 : Int32).toNatClampNeg = nI (lfK (kE L k)) from u4, show I2 140 52 = f by rw [m2]; exact a3]
    unfold wtB at fin
    rw [if_neg (by omega), if_pos a2] at fin
    by_cases cf : nI (lfK (kE L k)) = f
    · rw [sw_if_t cf]
      rw [decide_eq_true cf, Bool.true_and] at fin
      refine s_X10_there hn (by decide) (by decide) r2 ?_
      rw [thk_eq hn h9 hK u1 u4, show I2 140 51 = T by rw [m2]; exact a4, ← (thK_e hn h9 hK).1, cf]
      exact two _ _ (by rw [decide_eq_true_iff]) fin
    · rw [sw_if_f cf]
      rw [decide_eq_false cf, Bool.false_and] at fin
      exact fin
