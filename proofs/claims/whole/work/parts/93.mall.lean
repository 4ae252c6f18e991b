/-! the reference's search without an aim; what is told of a way -/
section SA
variable {w : Wd} {wi : Nat → Int32}
theorem m_all_skip {L : List En} {deep k0 : Nat} {x1 : Int32} {I : sw_I} {J : sw_J} {Q : Int32 → sw_I → sw_J → Prop} (hL : L.length ≤ 3000) (hcl : mlS (wn w) I J L false) (hf : ∀ i, k0 ≤ i → i < L.length → deep ≤ fE L i ∧ fE L i < 3000) (hx : ∀ v, v < 3000 → (nI v < x1 ↔ v < deep)) (h : Q (nI L.length) I J) (F : Nat) : ∀ d k, k0 ≤ k → k + d = L.length → wl_X10_findsAll_16 Q (F + d + 1) x1 (nI k) I J := by
  intro d
  induction d with
  | zero =>
    intro k _ hk
    obtain rfl : k = L.length := by omega
    show wb_X10_findsAll_16 _ Q _ _ I J
    unfold wb_X10_findsAll_16 wB_X10_findsAll_52
    rw [show I 140 48 = nI L.length from hcl.1, sw_if_f (nI_nlt (Nat.le_refl _) (by omega)), show I 140 49 = bI false from hcl.2.1, sw_if_t (by rfl)]
    exact h
  | succ d ih =>
    intro k hk0 hk
    show wb_X10_findsAll_16 _ Q _ _ I J
    unfold wb_X10_findsAll_16
    have hfk := hf k hk0 (by omega)
    rw [show I 140 48 = nI L.length from hcl.1, sw_if_t (nI_lt (by omega) (by omega)), show I 140 49 = bI false from hcl.2.1, sw_if_t (by rfl), nI_clamp (by omega), (hcl.2.2.1 k (by omega)).2.2.2]
    refine ⟨vp0 (by omega) (by decide), ?_⟩
    rw [sw_if_f (fun q => by have := (hx _ hfk.2).mp q; omega)]
    intro y hy
    rw [hy, nI_1]
    exact ih (k + 1) (by omega) (by omega)
theorem m_all_loop {deep : Nat} {x1 : Int32} {I : sw_I} {J : sw_J} {Q : Int32 → sw_I → sw_J → Prop} (hW : isW I w) (hv : ∀ i, i < wn w → fw (wf w) (wi i)) (hx : ∀ v, v < 3000 → (nI v < x1 ↔ v < deep)) :
    ∀ (d k : Nat) (L : List En) (m : Bool) (I2 : sw_I) (J2 : sw_J), k + d = 3000 → wfL (wn w) (wf w) k L → eqm msC msF I I2 → eqj [161] J J2 → wsN (wn w) wi I2 → mlS (wn w) I2 J2 L m →
      (∀ I3 J3, eqm msC msF I I3 → eqj [161] J J3 → mlS (wn w) I3 J3 (srE (nxS w wi) (fun K => SL (thK K) (wn w)) noW deep d k L m).2.1 (srE (nxS w wi) (fun K => SL (thK K) (wn w)) noW deep d k L m).2.2 → Q (if (srE (nxS w wi) (fun K => SL (thK K) (wn w)) noW deep d k L m).2.2 = true then -3 else nI (srE (nxS w wi) (fun K => SL (thK K) (wn w)) noW deep d k L m).2.1.length) I3 J3) →
      wl_X10_findsAll_16 Q (d + 1) x1 (nI k) I2 J2 := by
  have hn := hW.1.2.2.1
  intro d
  induction d with
  | zero =>
    intro k L m I2 J2 hk hwf e ej ws cl h
    have hL := hwf.2.1
    show wb_X10_findsAll_16 _ Q _ _ I2 J2
    unfold wb_X10_findsAll_16 wB_X10_findsAll_52
    rw [show I2 140 48 = nI L.length from cl.1, sw_if_f (nI_nlt (by omega) (by omega)), show I2 140 49 = bI m from cl.2.1]
    have := h I2 J2 e ej cl
    cases m
    · rw [sw_if_t (by rfl)]; exact this
    · rw [sw_if_f (by decide)]; exact this
  | succ d ih =>
    intro k L m I2 J2 hk hwf e ej ws cl h
    have hL := hwf.2.1
    have W2 : isW I2 w := isW_of e (by decide) (by decide) hW
    unfold srE at h
    have stop : ¬ (k < L.length ∧ m = false ∧ fE L k < deep) → wB_X10_findsAll_52 Q I2 J2 := fun hno => by
      rw [if_neg hno] at h
      have := h I2 J2 e ej cl
      unfold wB_X10_findsAll_52
      rw [show I2 140 48 = nI L.length from cl.1, show I2 140 49 = bI m from cl.2.1]
      cases m
      · rw [sw_if_t (by rfl)]; exact this
      · rw [sw_if_f (by decide)]; exact this
    by_cases c1 : k < L.length
    · have hf3 : fE L k < 3000 := by have := hwf.2.2.2.2.2.2.2 k c1; omega
      cases hm : m with
      | true =>
        show wb_X10_findsAll_16 _ Q _ _ I2 J2
        unfold wb_X10_findsAll_16
        rw [show I2 140 48 = nI L.length from cl.1, sw_if_t (nI_lt c1 (by omega)), show I2 140 49 = bI m from cl.2.1, hm, sw_if_f (by decide)]
        exact stop (fun q => by rw [hm] at q; cases q.2.1)
      | false =>
        rw [hm] at h cl stop
        by_cases c2 : fE L k < deep
        · show wb_X10_findsAll_16 _ Q _ _ I2 J2
          unfold wb_X10_findsAll_16
          rw [show I2 140 48 = nI L.length from cl.1, sw_if_t (nI_lt c1 (by omega)), show I2 140 49 = bI false from cl.2.1, sw_if_t (by rfl), nI_clamp (by omega), (cl.2.2.1 k c1).2.2.2]
          refine ⟨vp0 (by omega) (by decide), ?_⟩
          rw [sw_if_t ((hx _ hf3).mpr c2)]
          have hcond : k < L.length ∧ false = false ∧ fE L k < deep := ⟨c1, rfl, c2⟩
          rw [if_pos hcond, if_pos (goE_noW _ _ _ _ _ _)] at h
          refine m_findsFrom (w := w) (wi := wi) W2 hwf c1 cl ws hv (fun I4 J4 x4 j4 ws4 c4 => ?_)
          intro y hy
          rw [hy, nI_1]
          have hp10 : 2 ^ wn w ≤ 2 ^ 10 := Nat.pow_le_pow_right (by decide) hn
          obtain ⟨wf4, -⟩ := goE_wf (n := wn w) (fl := wf w) (k := k) (nx := nxS w wi (kE L k)) (want := noW) (fun s _ => nxS_v hW (hwf.2.2.1 k c1).1) (S := SL (thK (kE L k)) (wn w)) (L := L) (m := false) (fun s hs => by have := (SL_mem hn s hs).1; omega) c1 hwf (fE L k + 1) rfl
          obtain ⟨⟨T4, hT4⟩, -, -⟩ := goE_M (nxS w wi (kE L k)) noW k (fE L k + 1) (SL (thK (kE L k)) (wn w)) L false
          refine ih (k + 1) _ _ I4 J4 (by omega) (wfL_next wf4 ?_) (e.tr x4) (ej.tr j4) ws4 c4 h
          rw [hT4, List.length_append]; omega
        · have hno : ¬ (k < L.length ∧ false = false ∧ fE L k < deep) := fun q => c2 q.2.2
          rw [if_neg hno] at h
          have base := m_all_skip (w := w) (deep := deep) (k0 := k) (x1 := x1) hL cl (fun i i1 i2 => ⟨by have := hwf.2.2.2.2.2.1 k i i1 i2; omega, by have := hwf.2.2.2.2.2.2.2 i i2; omega⟩) hx (h I2 J2 e ej cl) (d + 1 - (L.length - k)) (L.length - k) k (Nat.le_refl _) (by omega)
          rw [show d + 1 - (L.length - k) + (L.length - k) + 1 = d + 1 + 1 by omega] at base
          exact base
    · show wb_X10_findsAll_16 _ Q _ _ I2 J2
      unfold wb_X10_findsAll_16
      rw [show I2 140 48 = nI L.length from cl.1, sw_if_f (nI_nlt (by omega) (by omega))]
      exact stop (fun q => c1 q.1)
end SA
