/-! what is told of a way -/
def ancE (L : List En) (g : Nat) : Nat → Nat
  | 0 => g
  | t + 1 => pE L (ancE L g t)
theorem anc_f {n fl k g : Nat} {L : List En} (h : wfL n fl k L) (hg : g < L.length) : ∀ t, t ≤ fE L g → ancE L g t < L.length ∧ fE L (ancE L g t) + t = fE L g
  | 0, _ => ⟨hg, rfl⟩
  | t + 1, ht => by
    obtain ⟨i1, i2⟩ := anc_f h hg t (by omega)
    have h0 : 0 < ancE L g t := by
      rcases Nat.eq_zero_or_pos (ancE L g t) with q | q
      · rw [q, h.2.2.2.1] at i2; omega
      · exact q
    obtain ⟨p1, p2⟩ := (h.2.2.1 _ i1).2.2 h0
    show pE L (ancE L g t) < L.length ∧ fE L (pE L (ancE L g t)) + (t + 1) = fE L g
    omega
def wyV (L : List En) (g N i : Nat) : Int64 := (nI (sE L (ancE L g (N - 1 - i)))).toInt64
def wyL (L : List En) (g N k : Nat) : List Int64 := (List.range k).map (wyV L g N)
theorem wyL_len (L : List En) (g N k : Nat) : (wyL L g N k).length = k := by unfold wyL; rw [List.length_map, List.length_range]
theorem wyL_s (L : List En) (g N k : Nat) : wyL L g N (k + 1) = wyL L g N k ++ [wyV L g N k] := by unfold wyL; rw [List.range_succ, List.map_append]; rfl
theorem wyL_at {L : List En} {g N k i : Nat} (h : i < k) : (wyL L g N k).getD i 0 = wyV L g N i := by
  unfold wyL
  simp [List.getD, List.getElem?_map, List.getElem?_range h]
theorem c_tellPlan {n fl k g N : Nat} {L : List En} {m : Bool} (hwf : wfL n fl k L) (hg : g < L.length) (hN : fE L g = N) {I : sw_I} {J : sw_J} {Q : sw_I → sw_J → Prop} (hcl : clS I J L m) (hR : I 120 rdS6 = nI N) (h : ∀ I2 J2, eqx [0] I I2 → eqj [118] J J2 → tlC I2 J2 (wyL L g N (min N 10)) → Q I2 J2) : wp_X9_tellPlan (nI g) I J Q := by
  have hL := hwf.2.1
  have hN3 : N < 3000 := by have := hwf.2.2.2.2.2.2.2 g hg; omega
  have loop : ∀ d J2, d ≤ N → eqj [118] J J2 → (∀ i, d ≤ i → i < N → i < 10 → J2 118 i = wyV L g N i) → wl_X9_tellPlan_12 Q (d + 1) (nI (ancE L g (N - d))) (dn d) I J2 := by
    intro d
    induction d with
    | zero =>
      intro J2 _ j2 hv
      show wb_X9_tellPlan_12 _ Q _ _ I J2
      unfold wb_X9_tellPlan_12
      rw [sw_if_t dn_0]
      intro I2 e2
      rw [show I 120 5 = nI N from hR] at e2
      have em : (if (10 : Int32) < nI N then (10 : Int32) else nI N) = nI (min N 10) := by
        by_cases c : 10 < N
        · rw [if_pos (show (10 : Int32) < nI N from nI_lt (a := 10) c (by omega)), show min N 10 = 10 by omega]; rfl
        · rw [if_neg (show ¬ (10 : Int32) < nI N from nI_nlt (a := 10) (by omega) (by decide)), show min N 10 = N by omega]
      rw [em] at e2
      refine h I2 J2 (by rw [e2]; exact eqx.rf.up (by decide) _ _) j2 ⟨?_, fun i hi => ?_⟩
      · rw [e2, wyL_len]; exact sw_up_same _ _ _ _
      · rw [wyL_len] at hi
        rw [wyL_at hi]; exact hv i (by omega) (by omega) (by omega)
    | succ d ih =>
      intro J2 hd j2 hv
      obtain ⟨a1, a2⟩ := anc_f hwf hg (N - (d + 1)) (by omega)
      have hst : sE L (ancE L g (N - (d + 1))) < 1024 := (hwf.2.2.1 _ a1).2.1
      have h0 : 0 < ancE L g (N - (d + 1)) := by
        rcases Nat.eq_zero_or_pos (ancE L g (N - (d + 1))) with q | q
        · rw [q, hwf.2.2.2.1] at a2; omega
        · exact q
      have hpl := ((hwf.2.2.1 _ a1).2.2 h0).1
      have nxt : ancE L g (N - d) = pE L (ancE L g (N - (d + 1))) := by rw [show N - d = (N - (d + 1)) + 1 by omega]; rfl
      generalize ha : ancE L g (N - (d + 1)) = st at a1 a2 hst h0 hpl nxt
      have cl : ∀ J3, eqj [118] J J3 → clS I J3 L m := fun J3 j3 => clS_x (S := []) hcl eqx.rf (j3 _ (by decide)) (by decide)
      have stp := (hcl.2.2.1 st a1).2
      show wb_X9_tellPlan_12 _ Q _ _ I J2
      unfold wb_X9_tellPlan_12
      rw [dn_s, sw_if_f (nI_pos (by omega))]
      have go : ∀ J3, eqj [118] J J3 → (∀ i, d ≤ i → i < N → i < 10 → J3 118 i = wyV L g N i) → wB_X9_tellPlan_37 (wl_X9_tellPlan_12 Q (d + 1)) Q (nI st) (nI d) I J3 := by
        intro J3 j3 hv3
        unfold wB_X9_tellPlan_37 wp_X6_cameFrom
        refine s_isState a1 hL (cl J3 j3) ?_
        rw [sw_if_f (by decide), nI_clamp (by omega), stp, i_shr (by omega)]
        refine ⟨vp0 (by omega) (by decide), fun y hy => ?_⟩
        rw [hy, dn_m]
        have := ih J3 (by omega) j3 hv3
        rw [nxt] at this
        rw [show (pE L st * 1024 + sE L st) / 1024 = pE L st by omega]
        exact this
      by_cases c10 : d < 10
      · rw [sw_if_t (show nI d < (10 : Int32) from nI_lt (b := 10) c10 (by decide))]
        unfold wp_X6_taken
        refine s_isState a1 hL (cl J2 j2) ?_
        rw [sw_if_f (by decide), nI_clamp (show d < 2 ^ 31 by omega), nI_clamp (show st < 2 ^ 31 by omega), stp, i_low, show (pE L st * 1024 + sE L st) % 1024 = sE L st by omega]
        refine ⟨vp0 (by omega) (by decide), vp0 (by omega) (by decide), fun J3 e3 => go J3 (by rw [e3]; exact j2.up (by decide) _ _) (fun i i1 i2 i3 => ?_)⟩
        rw [e3]
        by_cases ci : i = d
        · rw [ci, sw_up_same]
          unfold wyV
          rw [show N - 1 - d = N - (d + 1) by omega, ha]
        · rw [sw_up_slot _ _ _ _ ci]; exact hv i (by omega) i2 i3
      · rw [sw_if_f (show ¬ nI d < (10 : Int32) from nI_nlt (b := 10) (by omega) (by omega))]
        exact go J2 j2 (fun i i1 i2 i3 => by omega)
  intro y hy
  rw [show I 120 5 = nI N from hR] at hy
  rw [hy]
  have := loop N J (Nat.le_refl _) eqj.rf (fun i i1 i2 _ => by omega)
  rw [Nat.sub_self] at this
  exact ⟨N + 1, this⟩
theorem m_tellsWay {n fl k g N : Nat} {L T9 : List En} {m : Bool} (hwf : wfL n fl k L) (hg : g < L.length) (hN : fE L g = N) {I : sw_I} {J : sw_J} {Q : Int32 → sw_I → sw_J → Prop} (hcl : mlS n I J (L ++ T9) m) (h : ∀ I2 J2, eqm [166] [1] I I2 → eqj [141] J J2 → tlM I2 J2 (wyL L g N (min N 10)) → Q (nI N) I2 J2) : wp_X10_tellsWay (nI g) I J Q := by
  have hL := hwf.2.1
  have hN3 : N < 3000 := by have := hwf.2.2.2.2.2.2.2 g hg; omega
  have cell : ∀ i, i < L.length → (0 < i → I 162 i = nI (pE L i)) ∧ I 163 i = nI (sE L i) ∧ I 164 i = nI (fE L i) := fun i hi => by
    have := (hcl.2.2.1 i (by rw [List.length_append]; omega)).2
    unfold pE sE fE at this ⊢
    rw [geE_app hi] at this; exact this
  unfold wp_X10_tellsWay
  rw [sw_if_f (nI_pos (by omega)), nI_clamp (by omega), (cell g hg).2.2, hN]
  refine ⟨vp0 (by omega) (by decide), fun y hy y5 hy5 => ?_⟩
  have loop : ∀ d I2, d ≤ N → eqx [166] I I2 → (∀ i, d ≤ i → i < N → (I2 166 i).toInt64 = wyV L g N i) → wl_X10_tellsWay_20 Q (d + 1) (nI N) (nI (ancE L g (N - d))) (dn d) I2 J := by
    intro d
    induction d with
    | zero =>
      intro I2 _ x2 hv
      show wb_X10_tellsWay_20 _ Q _ _ _ I2 J
      unfold wb_X10_tellsWay_20
      rw [sw_if_t dn_0]
      intro I3 e3
      have loop2 : ∀ e k I4 J4, k + e = min N 10 → eqm [] [1] I3 I4 → eqj [141] J J4 → tlM I4 J4 (wyL L g N k) → wl_X10_tellsWay_59 Q (e + 1) (nI N) (nI k) I4 J4 := by
        intro e
        induction e with
        | zero =>
          intro k I4 J4 hk q4 j4 t4
          obtain rfl : k = min N 10 := by omega
          have fin : Q (nI N) I4 J4 := by
            refine h I4 J4 ?_ j4 t4
            have : eqm [166] [1] I I3 := by rw [e3]; exact (x2.eqm (by decide) (by decide)).upF (by decide) _
            exact this.tr (q4.mono (by decide) (by decide))
          show wb_X10_tellsWay_59 _ Q _ _ I4 J4
          unfold wb_X10_tellsWay_59
          by_cases c : N ≤ 10
          · rw [show min N 10 = N by omega, sw_if_f (nI_nlt (Nat.le_refl _) (by omega))]; exact fin
          · rw [show min N 10 = 10 by omega, sw_if_t (nI_lt (by omega) (by omega)), sw_if_f (by decide)]; exact fin
        | succ e ih =>
          intro k I4 J4 hk q4 j4 t4
          show wb_X10_tellsWay_59 _ Q _ _ I4 J4
          unfold wb_X10_tellsWay_59
          rw [sw_if_t (nI_lt (by omega) (by omega)), sw_if_t (show nI k < (10 : Int32) from nI_lt (b := 10) (by omega) (by decide)), nI_clamp (by omega)]
          have ew : (I4 166 k).toInt64 = wyV L g N k := by
            rw [q4.1 _ (by decide) (by decide), e3, sw_up_cell _ _ _ _ (by decide)]; exact hv k (by omega) (by omega)
          rw [ew]
          refine ⟨vp0 (by omega) (by decide), t_enters (by rw [wyL_len]; omega) t4 (fun I5 J5 x5 j5 t5 => ?_)⟩
          intro y hy
          rw [hy, nI_1]
          exact ih (k + 1) I5 J5 (by omega) (q4.tr x5) (j4.tr j5) (by rw [wyL_s]; exact t5)
      exact ⟨min N 10 + 1, loop2 (min N 10) 0 I3 J (by omega) eqm.rf eqj.rf (tlM_0 e3)⟩
    | succ d ih =>
      intro I2 hd x2 hv
      obtain ⟨a1, a2⟩ := anc_f hwf hg (N - (d + 1)) (by omega)
      have h0 : 0 < ancE L g (N - (d + 1)) := by
        rcases Nat.eq_zero_or_pos (ancE L g (N - (d + 1))) with q | q
        · rw [q, hwf.2.2.2.1] at a2; omega
        · exact q
      have nxt : ancE L g (N - d) = pE L (ancE L g (N - (d + 1))) := by rw [show N - d = (N - (d + 1)) + 1 by omega]; rfl
      generalize ha : ancE L g (N - (d + 1)) = st at a1 a2 h0 nxt
      obtain ⟨c1, c2, -⟩ := cell st a1
      show wb_X10_tellsWay_20 _ Q _ _ _ I2 J
      unfold wb_X10_tellsWay_20
      rw [dn_s, sw_if_f (nI_pos (by omega)), nI_clamp (by omega), nI_clamp (by omega), show I2 163 st = nI (sE L st) by rw [x2 _ (by decide)]; exact c2]
      refine ⟨vp0 (by omega) (by decide), vp0 (by omega) (by decide), fun I7 e7 => ⟨vp0 (by omega) (by decide), fun y10 e10 y12 e12 => ?_⟩⟩
      rw [e7, sw_up_cell _ _ _ _ (by decide), x2 _ (by decide), c1 h0] at e10
      rw [e10, e12, dn_m, ← nxt]
      refine ih I7 (by omega) (by rw [e7]; exact x2.up (by decide) _ _) (fun i i1 i2 => ?_)
      rw [e7]
      by_cases ci : i = d
      · rw [ci, sw_up_same]
        unfold wyV
        rw [show N - 1 - d = N - (d + 1) by omega, ha]
      · rw [sw_up_slot _ _ _ _ ci]; exact hv i (by omega) i2
  rw [hy5, hy]
  have := loop N I (Nat.le_refl _) eqx.rf (fun i i1 i2 => by omega)
  rw [Nat.sub_self] at this
  exact ⟨N + 1, this⟩
theorem skE_wf {w : Wd} {I0 : sw_I} (hW : isW I0 w) {wi : Nat → Int32} {K0 deep : Nat} {want : Nat → Bool} (hK : vK (wn w) (wf w) K0) : (∃ k2, wfL (wn w) (wf w) k2 (skE w wi K0 want deep).2.1) ∧ ∀ g, (skE w wi K0 want deep).1 = some g → g < (skE w wi K0 want deep).2.1.length := by
  unfold skE
  by_cases c : want K0 = true
  · rw [if_pos c]
    exact ⟨⟨0, L0_wf hK⟩, fun g hg => by injection hg with hg; subst hg; exact Nat.zero_lt_one⟩
  · rw [if_neg c]; exact srE_wf hW 3000 0 (L0 K0) false (L0_wf hK)
/-- the reference's search for an aim -/
theorem m_seeks {w : Wd} {μ : Mo} {a R : Nat} {T f x : Int32} {I : sw_I} {J : sw_J} {Q : Int32 → sw_I → sw_J → Prop} (hW : isW I w) (hM : relM w μ (I 144)) (hR : oR μ = nI R) (hR2 : R < 2 ^ 31) (hask : I 6 5 = 0) (ham : ∀ I5, eqm [] [50] I I5 → I5 140 50 = x → amR (wn w) I5 a T f)
    (h0 : (skE w μ.2.1 (k0M μ) (wtB a T f) 3000).1 = none → ∀ I3 J3, eqm msC (50 :: msF) I I3 → eqj [161] J J3 → Q (if (skE w μ.2.1 (k0M μ) (wtB a T f) 3000).2.2 = true then -3 else -2) I3 J3)
    (h1 : ∀ g, (skE w μ.2.1 (k0M μ) (wtB a T f) 3000).1 = some g → ∀ T9 m9 I3 J3, eqm msC (50 :: msF) I I3 → eqj [161] J J3 → mlS (wn w) I3 J3 ((skE w μ.2.1 (k0M μ) (wtB a T f) 3000).2.1 ++ T9) m9 → Q (nI g) I3 J3) : wp_X10_seeks x I J Q := by
  have hn := hW.1.2.2.1
  have h9 := hW.1.2.1
  have kv := k0_v hn h9 hM
  unfold wp_X10_seeks
  refine m_counts hW.2.1 ?_
  rw [hask, sw_if_t rfl]
  intro I5 e5
  have q5 : eqm [] [50] I I5 := by rw [e5]; exact eqm.rf.upF (by decide) _
  have am5 := ham I5 q5 (by rw [e5]; exact sw_up_same _ _ _ _)
  have W5 : isW I5 w := isW_of q5 (by decide) (by decide) hW
  refine m_findsFirst (w := w) (μ := μ) W5 (by rw [q5.1 _ (by decide) (by decide)]; exact hM) hR hR2 (fun I6 J6 x6 j6 ws6 c6 => ?_)
  have W6 : isW I6 w := isW_of x6 (by decide) (by decide) W5
  have am6 : amR (wn w) I6 a T f := by
    unfold amR
    rw [x6.2 _ (by decide), x6.2 _ (by decide), x6.2 _ (by decide)]; exact am5
  have e6 : eqm msC (50 :: msF) I I6 := (q5.mono (by decide) (by decide)).tr (x6.mono (by decide) (by decide))
  have hv : ∀ i, i < wn w → fw (wf w) (μ.2.1 i) := fun i hi => (hM.2.1 i hi).2
  unfold skE at h0 h1
  cases hw0 : wtB a T f (k0M μ)
  · rw [hw0, if_neg (by decide)] at h0 h1
    refine ⟨3001, m_seek_loop (w := w) (wi := μ.2.1) (a := a) (T := T) (f := f) W6 hv am6 3000 0 0 (L0 (k0M μ)) false I6 J6 (by omega) (L0_wf kv) (Nat.le_refl _) (Nat.zero_le _) (fun i hi => ?_) eqm.rf eqj.rf ws6 c6 (fun hN I3 J3 x3 j3 => h0 hN I3 J3 (e6.tr (x3.mono (by decide) (by decide))) (j6.tr j3)) (fun g hg T9 m9 I3 J3 x3 j3 c3 => h1 g hg T9 m9 I3 J3 (e6.tr (x3.mono (by decide) (by decide))) (j6.tr j3) c3)⟩
    have hi0 : i = 0 := by have : i < 1 := hi; omega
    rw [hi0]; exact hw0
  · rw [hw0, if_pos rfl] at h0 h1
    refine ⟨1, ?_⟩
    show wb_X10_seeks_23 _ Q _ _ I6 J6
    unfold wb_X10_seeks_23
    have f6 : I6 140 48 = nI 1 := c6.1
    rw [f6, sw_if_t (by decide)]
    refine ⟨1, ?_⟩
    show wb_X10_seeks_31 _ _ Q _ _ I6 J6
    unfold wb_X10_seeks_31
    rw [f6, sw_if_t (by decide)]
    refine m_isAim (w := w) (wi := μ.2.1) (k := 0) (a := a) (T := T) (f := f) (L := L0 (k0M μ)) (m := false) W6 (show 1 ≤ 3000 by omega) kv (show 0 < 1 by omega) c6 ws6 am6 (fun I7 x7 ws7 => ?_)
    have kE0 : kE (L0 (k0M μ)) 0 = k0M μ := rfl
    rw [kE0, hw0, sw_if_f (by decide)]
    have q7 : eqm [145] [] I6 I7 := x7.eqm (by decide) (by decide)
    refine h1 0 rfl [] false I7 J6 (e6.tr (q7.mono (by decide) (by decide))) j6 ?_
    rw [List.append_nil]
    exact mlS_m c6 q7 rfl (by decide) (by decide)
