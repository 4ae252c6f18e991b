/-! the reference's search: all of it -/
section SK
variable {w : Wd} {wi : Nat → Int32} {a : Nat} {T f : Int32}
theorem srE_wf {I0 : sw_I} (hW : isW I0 w) {want : Nat → Bool} {deep : Nat} : ∀ d k L m, wfL (wn w) (wf w) k L → (∃ k2, wfL (wn w) (wf w) k2 (srE (nxS w wi) (fun K => SL (thK K) (wn w)) want deep d k L m).2.1) ∧ ∀ g, (srE (nxS w wi) (fun K => SL (thK K) (wn w)) want deep d k L m).1 = some g → g < (srE (nxS w wi) (fun K => SL (thK K) (wn w)) want deep d k L m).2.1.length
  | 0, k, L, m, h => ⟨⟨k, h⟩, fun g hg => by cases hg⟩
  | d + 1, k, L, m, h => by
    have hn := hW.1.2.2.1
    unfold srE
    by_cases c : k < L.length ∧ m = false ∧ fE L k < deep
    · rw [if_pos c]
      have hp10 : 2 ^ wn w ≤ 2 ^ 10 := Nat.pow_le_pow_right (by decide) hn
      obtain ⟨wf4, -⟩ := goE_wf (n := wn w) (fl := wf w) (k := k) (nx := nxS w wi (kE L k)) (want := want) (fun s _ => nxS_v hW (h.2.2.1 k c.1).1) (S := SL (thK (kE L k)) (wn w)) (L := L) (m := m) (fun s hs => by have := (SL_mem hn s hs).1; omega) c.1 h (fE L k + 1) rfl
      obtain ⟨⟨T4, hT4⟩, -, gs⟩ := goE_M (nxS w wi (kE L k)) want k (fE L k + 1) (SL (thK (kE L k)) (wn w)) L m
      by_cases cg : (goE (nxS w wi (kE L k)) want k (fE L k + 1) (SL (thK (kE L k)) (wn w)) L m).1 = none
      · rw [if_pos cg]
        refine srE_wf hW d (k + 1) _ _ (wfL_next wf4 ?_)
        rw [hT4, List.length_append]; have := c.1; omega
      · rw [if_neg cg]
        refine ⟨⟨k, wf4⟩, fun g hg => ?_⟩
        have := (gs g hg).2.2.2.1
        omega
    · rw [if_neg c]
      exact ⟨⟨k, h⟩, fun g hg => by cases hg⟩
theorem m_scan {k p : Nat} {L : List En} {m : Bool} {I : sw_I} {J : sw_J} {Q : Int32 → sw_I → sw_J → Prop} {K23 : Int32 → Int32 → sw_I → sw_J → Prop} (hW : isW I w) (hL : L.length ≤ 3000) (hp : p ≤ L.length) (hv : ∀ i, i < L.length → vK (wn w) (wf w) (kE L i)) (hcl : mlS (wn w) I J L m) (ham : amR (wn w) I a T f) (h : ∀ I3, eqx [145] I I3 → wsN (wn w) wi I3 → ∀ K31, wb_X10_seeks_31 K23 K31 Q (nI p) (nI k) I3 J) :
    ∀ e done I2, done + e = p → eqx [145] I I2 → wsN (wn w) wi I2 → (∀ i, done ≤ i → i < p → wtB a T f (kE L i) = false) → wl_X10_seeks_31 K23 Q (e + 1) (nI done) (nI k) I2 J := by
  intro e
  induction e with
  | zero =>
    intro done I2 hd x2 ws hno
    obtain rfl : done = p := by omega
    exact h I2 x2 ws _
  | succ e ih =>
    intro done I2 hd x2 ws hno
    have q2 : eqm [145] [] I I2 := x2.eqm (by decide) (by decide)
    have W2 : isW I2 w := isW_of q2 (by decide) (by decide) hW
    have cl2 : mlS (wn w) I2 J L m := mlS_m hcl q2 rfl (by decide) (by decide)
    have am2 : amR (wn w) I2 a T f := by unfold amR; rw [x2 _ (by decide)]; exact ham
    show wb_X10_seeks_31 _ _ Q _ _ I2 J
    unfold wb_X10_seeks_31
    rw [show I2 140 48 = nI L.length from cl2.1, sw_if_t (nI_lt (by omega) (by omega))]
    refine m_isAim (wi := wi) (a := a) (T := T) (f := f) W2 hL (hv done (by omega)) (by omega) cl2 ws am2 (fun I3 x3 ws3 => ?_)
    rw [hno done (Nat.le_refl _) (by omega), sw_if_t (by rfl)]
    intro y hy
    rw [hy, nI_1]
    exact ih (done + 1) I3 (by omega) (x2.tr x3) ws3 (fun i h1 h2 => hno i (by omega) h2)
theorem m_seek_full {L : List En} {I : sw_I} {J : sw_J} {Q : Int32 → sw_I → sw_J → Prop} (hL : L.length ≤ 3000) (hcl : mlS (wn w) I J L true) (h : Q (-3) I J) (F : Nat) : ∀ d k, k + d = L.length → wl_X10_seeks_23 Q (F + d + 1) (nI L.length) (nI k) I J := by
  intro d
  induction d with
  | zero =>
    intro k hk
    obtain rfl : k = L.length := by omega
    show wb_X10_seeks_23 _ Q _ _ I J
    unfold wb_X10_seeks_23
    rw [show I 140 48 = nI L.length from hcl.1, sw_if_f (nI_nlt (Nat.le_refl _) (by omega)), show I 140 49 = bI true from hcl.2.1, sw_if_f (by decide)]
    exact h
  | succ d ih =>
    intro k hk
    show wb_X10_seeks_23 _ Q _ _ I J
    unfold wb_X10_seeks_23
    rw [show I 140 48 = nI L.length from hcl.1, sw_if_t (nI_lt (by omega) (by omega))]
    refine ⟨1, ?_⟩
    show wb_X10_seeks_31 _ _ Q _ _ I J
    unfold wb_X10_seeks_31
    rw [show I 140 48 = nI L.length from hcl.1, sw_if_f (nI_nlt (Nat.le_refl _) (by omega)), show I 140 49 = bI true from hcl.2.1, sw_if_f (by decide)]
    intro y hy
    rw [hy, nI_1]
    exact ih (k + 1) (by omega)
theorem m_seek_loop {I : sw_I} {J : sw_J} {Q : Int32 → sw_I → sw_J → Prop} (hW : isW I w) (hv : ∀ i, i < wn w → fw (wf w) (wi i)) (ham : amR (wn w) I a T f) :
    ∀ (d k done : Nat) (L : List En) (m : Bool) (I2 : sw_I) (J2 : sw_J), k + d = 3000 → wfL (wn w) (wf w) k L → k ≤ done → done ≤ L.length → (∀ i, i < L.length → wtB a T f (kE L i) = false) → eqm msC msF I I2 → eqj [161] J J2 → wsN (wn w) wi I2 → mlS (wn w) I2 J2 L m →
      ((srE (nxS w wi) (fun K => SL (thK K) (wn w)) (wtB a T f) 3000 d k L m).1 = none → ∀ I3 J3, eqm msC msF I I3 → eqj [161] J J3 → Q (if (srE (nxS w wi) (fun K => SL (thK K) (wn w)) (wtB a T f) 3000 d k L m).2.2 = true then -3 else -2) I3 J3) →
      (∀ g, (srE (nxS w wi) (fun K => SL (thK K) (wn w)) (wtB a T f) 3000 d k L m).1 = some g → ∀ T9 m9 I3 J3, eqm msC msF I I3 → eqj [161] J J3 → mlS (wn w) I3 J3 ((srE (nxS w wi) (fun K => SL (thK K) (wn w)) (wtB a T f) 3000 d k L m).2.1 ++ T9) m9 → Q (nI g) I3 J3) →
      wl_X10_seeks_23 Q (d + 1) (nI done) (nI k) I2 J2 := by
  have hn := hW.1.2.2.1
  have h9 := hW.1.2.1
  intro d
  induction d with
  | zero =>
    intro k done L m I2 J2 hk hwf h1 h2 hno e ej ws cl hN hS
    have hL := hwf.2.1
    show wb_X10_seeks_23 _ Q _ _ I2 J2
    unfold wb_X10_seeks_23
    rw [show I2 140 48 = nI L.length from cl.1, sw_if_f (nI_nlt (by omega) (by omega)), show I2 140 49 = bI m from cl.2.1]
    have := hN rfl I2 J2 e ej
    cases m
    · rw [sw_if_t (by rfl)]; exact this
    · rw [sw_if_f (by decide)]; exact this
  | succ d ih =>
    intro k done L m I2 J2 hk hwf h1 h2 hno e ej ws cl hN hS
    have hL := hwf.2.1
    have W2 : isW I2 w := isW_of e (by decide) (by decide) hW
    have am2 : amR (wn w) I2 a T f := by
      unfold amR
      rw [e.2 _ (by decide), e.2 _ (by decide), e.2 _ (by decide)]; exact ham
    have kv : ∀ i, i < L.length → vK (wn w) (wf w) (kE L i) := fun i hi => (hwf.2.2.1 i hi).1
    show wb_X10_seeks_23 _ Q _ _ I2 J2
    unfold wb_X10_seeks_23
    rw [show I2 140 48 = nI L.length from cl.1]
    unfold srE at hN hS
    by_cases c1 : k < L.length
    · rw [sw_if_t (nI_lt c1 (by omega))]
      refine ⟨L.length - done + 1, m_scan (w := w) (wi := wi) (a := a) (T := T) (f := f) (p := L.length) W2 hL (Nat.le_refl _) kv cl am2 (fun I3 x3 ws3 K31 => ?_) (L.length - done) done I2 (by omega) eqx.rf ws (fun i _ hi => hno i hi)⟩
      have q3 : eqm [145] [] I2 I3 := x3.eqm (by decide) (by decide)
      have e3 : eqm msC msF I I3 := e.tr (q3.mono (by decide) (by decide))
      have cl3 : mlS (wn w) I3 J2 L m := mlS_m cl q3 rfl (by decide) (by decide)
      unfold wb_X10_seeks_31
      rw [show I3 140 48 = nI L.length from cl3.1, sw_if_f (nI_nlt (Nat.le_refl _) (by omega)), show I3 140 49 = bI m from cl3.2.1]
      have hf3 : fE L k < 3000 := by have := hwf.2.2.2.2.2.2.2 k c1; omega
      cases hm : m with
      | true =>
        rw [sw_if_f (by decide)]
        rw [hm] at hN cl3
        have hno2 : ¬ (k < L.length ∧ true = false ∧ fE L k < 3000) := fun q => by cases q.2.1
        rw [if_neg hno2] at hN
        intro y hy
        rw [hy, nI_1]
        have base := m_seek_full (w := w) hL cl3 (hN rfl I3 J2 e3 ej) (d - (L.length - (k + 1))) (L.length - (k + 1)) (k + 1) (by omega)
        rw [show d - (L.length - (k + 1)) + (L.length - (k + 1)) + 1 = d + 1 by omega] at base
        exact base
      | false =>
        rw [sw_if_t (by rfl)]
        rw [hm] at hN hS cl3
        rw [if_pos ⟨c1, rfl, hf3⟩] at hN hS
        have W3 : isW I3 w := isW_of e3 (by decide) (by decide) hW
        refine m_findsFrom (w := w) (wi := wi) W3 hwf c1 cl3 ws3 hv (fun I4 J4 x4 j4 ws4 c4 => ?_)
        intro y hy
        rw [hy, nI_1]
        have hsets : ∀ s, s ∈ SL (thK (kE L k)) (wn w) → s < 1024 := fun s hs => by
          have := (SL_mem hn s hs).1
          have hp10 : 2 ^ wn w ≤ 2 ^ 10 := Nat.pow_le_pow_right (by decide) hn
          omega
        obtain ⟨wf4, -⟩ := goE_wf (n := wn w) (fl := wf w) (k := k) (nx := nxS w wi (kE L k)) (want := wtB a T f) (fun s _ => nxS_v hW (kv k c1)) (S := SL (thK (kE L k)) (wn w)) (L := L) (m := false) hsets c1 hwf (fE L k + 1) rfl
        obtain ⟨wfr, -⟩ := goE_wf (n := wn w) (fl := wf w) (k := k) (nx := nxS w wi (kE L k)) (want := noW) (fun s _ => nxS_v hW (kv k c1)) (S := SL (thK (kE L k)) (wn w)) (L := L) (m := false) hsets c1 hwf (fE L k + 1) rfl
        obtain ⟨⟨T4, hT4⟩, gn, gs⟩ := goE_M (nxS w wi (kE L k)) (wtB a T f) k (fE L k + 1) (SL (thK (kE L k)) (wn w)) L false
        generalize hG : goE (nxS w wi (kE L k)) (wtB a T f) k (fE L k + 1) (SL (thK (kE L k)) (wn w)) L false = G at hN hS wf4 hT4 gn gs
        generalize hGr : goE (nxS w wi (kE L k)) noW k (fE L k + 1) (SL (thK (kE L k)) (wn w)) L false = Gr at c4 wfr gn gs
        have hlen : L.length ≤ G.2.1.length := by rw [hT4, List.length_append]; omega
        have oldk : ∀ i, i < L.length → kE G.2.1 i = kE L i := fun i hi => by unfold kE; rw [hT4, geE_app hi]
        have e4 : eqm msC msF I I4 := e3.tr x4
        cases hg : G.1 with
        | none =>
          obtain ⟨g1, g2⟩ := gn hg
          rw [g1] at c4
          rw [if_pos hg] at hN hS
          refine ih (k + 1) L.length G.2.1 G.2.2 I4 J4 (by omega) (wfL_next wf4 (by omega)) (by omega) hlen (fun i hi => ?_) e4 (ej.tr j4) ws4 c4 hN hS
          by_cases ci : i < L.length
          · rw [oldk i ci]; exact hno i ci
          · exact g2 i (by omega) hi
        | some g =>
          obtain ⟨g1, ⟨T9, hT9⟩, g3, g4, g5, g6⟩ := gs g hg
          rw [if_neg (by rw [hg]; intro q; cases q)] at hS
          have lr := wfr.2.1
          have hlr : G.2.1.length ≤ Gr.2.1.length := by rw [hT9, List.length_append]; omega
          have kr : ∀ i, i < G.2.1.length → kE Gr.2.1 i = kE G.2.1 i := fun i hi => by unfold kE; rw [hT9, geE_app hi]
          have W4 : isW I4 w := isW_of e4 (by decide) (by decide) hW
          have am4 : amR (wn w) I4 a T f := by
            unfold amR
            rw [e4.2 _ (by decide), e4.2 _ (by decide), e4.2 _ (by decide)]; exact ham
          show wb_X10_seeks_23 _ Q _ _ I4 J4
          unfold wb_X10_seeks_23
          rw [show I4 140 48 = nI Gr.2.1.length from c4.1, sw_if_t (nI_lt (by omega) (by omega))]
          have kvr : ∀ i, i < Gr.2.1.length → vK (wn w) (wf w) (kE Gr.2.1 i) := fun i hi => (wfr.2.2.1 i hi).1
          refine ⟨g - L.length + 1, m_scan (w := w) (wi := wi) (a := a) (T := T) (f := f) (p := g) W4 lr (by omega) kvr c4 am4 (fun I5 x5 ws5 K31 => ?_) (g - L.length) L.length I4 (by omega) eqx.rf ws4 (fun i i1 i2 => by rw [kr i (by omega)]; exact g6 i i1 i2)⟩
          have q5 : eqm [145] [] I4 I5 := x5.eqm (by decide) (by decide)
          have W5 : isW I5 w := isW_of q5 (by decide) (by decide) W4
          have c5 : mlS (wn w) I5 J4 Gr.2.1 Gr.2.2 := mlS_m c4 q5 rfl (by decide) (by decide)
          unfold wb_X10_seeks_31
          rw [show I5 140 48 = nI Gr.2.1.length from c5.1, sw_if_t (nI_lt (by omega) (by omega))]
          refine m_isAim (wi := wi) (a := a) (T := T) (f := f) W5 lr (kvr g (by omega)) (by omega) c5 ws5 (by unfold amR; rw [x5 _ (by decide)]; exact am4) (fun I6 x6 ws6 => ?_)
          rw [kr g (by omega), g5, sw_if_f (by decide)]
          have q6 : eqm [145] [] I5 I6 := x6.eqm (by decide) (by decide)
          refine hS g hg T9 Gr.2.2 I6 J4 ((e4.tr (q5.mono (by decide) (by decide))).tr (q6.mono (by decide) (by decide))) (ej.tr j4) ?_
          rw [← hT9]
          exact mlS_m c5 q6 rfl (by decide) (by decide)
    · rw [sw_if_f (nI_nlt (by omega) (by omega)), show I2 140 49 = bI m from cl.2.1]
      rw [if_neg (fun q => c1 q.1)] at hN
      have := hN rfl I2 J2 e ej
      cases m
      · rw [sw_if_t (by rfl)]; exact this
      · rw [sw_if_f (by decide)]; exact this
end SK
