/-! promise: lies, the reference's side and both -/
/-- the reference's inner search: the other's wish -/
def tiM (w : Wd) (D : Sd) (wi : Nat → Int32) (s a b : Nat) (v : Int32) : Nat → Nat → Option Nat
  | 0, _ => none
  | d + 1, k => if ¬ v = wi a ∧ ¬ nI k - 1 = wi b ∧ (a = b → v = nI k - 1) ∧ asA w D (updW (updW wi a v) b (nI k - 1)) s = true then some k else tiM w D wi s a b v d (k + 1)
def toM (w : Wd) (D : Sd) (wi : Nat → Int32) (s a b : Nat) : Nat → Nat → Option (Nat × Nat)
  | 0, _ => none
  | d + 1, k => match tiM w D wi s a b (nI k - 1) (wf w + 1) 0 with
    | some j => some (k, j)
    | none => toM w D wi s a b d (k + 1)
theorem ti_none {w : Wd} {D : Sd} {wi : Nat → Int32} {s a b : Nat} {v : Int32} (h : v = wi a) : ∀ d k, tiM w D wi s a b v d k = none
  | 0, _ => rfl
  | d + 1, k => by unfold tiM; rw [if_neg (fun q => q.1 h)]; exact ti_none h d (k + 1)
theorem ti_ow {w : Wd} {D : Sd} {wi : Nat → Int32} {s a b : Nat} {v : Int32} (hne : a ≠ b) (h : ¬ v = wi a) : ∀ d k, tiM w D wi s a b v d k = owM w D wi a v b s d k
  | 0, _ => rfl
  | d + 1, k => by
    unfold tiM owM
    rw [ti_ow hne h d (k + 1)]
    by_cases c : ¬ nI k - 1 = wi b ∧ asA w D (updW (updW wi a v) b (nI k - 1)) s = true
    · rw [if_pos ⟨h, c.1, fun q => absurd q hne, c.2⟩, if_pos c]
    · rw [if_neg (fun q => c ⟨q.2.1, q.2.2.2⟩), if_neg c]
theorem to_pr {w : Wd} {D : Sd} {wi : Nat → Int32} {s a b : Nat} (hne : a ≠ b) : ∀ d k, toM w D wi s a b d k = prM w D wi s a b d k
  | 0, _ => rfl
  | d + 1, k => by
    unfold toM prM
    by_cases c : nI k - 1 = wi a
    · rw [ti_none c, if_pos c]; exact to_pr hne d (k + 1)
    · rw [ti_ow hne c, if_neg c, to_pr hne d (k + 1)]
      cases owM w D wi a (nI k - 1) b s (wf w + 1) 0 <;> rfl
theorem ti_same {w : Wd} {D : Sd} {wi : Nat → Int32} {s r k0 : Nat} (hk0 : k0 < 2 ^ 31) : ∀ d k, k + d < 2 ^ 31 → tiM w D wi s r r (nI k0 - 1) d k = if (¬ nI k0 - 1 = wi r ∧ asA w D (updW wi r (nI k0 - 1)) s = true) ∧ k ≤ k0 ∧ k0 < k + d then some k0 else none
  | 0, k, _ => by unfold tiM; rw [if_neg (fun q => by omega)]
  | d + 1, k, hk => by
    have ih := ti_same (w := w) (D := D) (wi := wi) (s := s) (r := r) hk0 d (k + 1) (by omega)
    unfold tiM
    rw [ih]
    have inj : nI k0 - 1 = nI k - 1 ↔ k0 = k := by
      constructor
      · intro e
        have e2 : nI k0 - 1 + 1 = nI k - 1 + 1 := by rw [e]
        rw [Int32.sub_add_cancel, Int32.sub_add_cancel] at e2
        exact (nI_eq hk0 (by omega)).mp e2
      · intro e; rw [e]
    by_cases c : k0 = k
    · subst c
      by_cases c2 : ¬ nI k0 - 1 = wi r ∧ asA w D (updW wi r (nI k0 - 1)) s = true
      · rw [if_pos ⟨c2.1, c2.1, fun _ => rfl, by rw [updW_upd]; exact c2.2⟩, if_pos ⟨c2, by omega, by omega⟩]
      · rw [if_neg (fun q => c2 ⟨q.1, by have := q.2.2.2; rw [updW_upd] at this; exact this⟩), if_neg (fun q => c2 q.1), if_neg (fun q => c2 q.1)]
    · rw [if_neg (fun q => c (inj.mp (q.2.2.1 rfl)))]
      by_cases c2 : (¬ nI k0 - 1 = wi r ∧ asA w D (updW wi r (nI k0 - 1)) s = true) ∧ k + 1 ≤ k0 ∧ k0 < k + 1 + d
      · rw [if_pos c2, if_pos ⟨c2.1, by omega, by omega⟩]
      · rw [if_neg c2, if_neg (fun q => c2 ⟨q.1, by omega, by omega⟩)]
theorem to_sg {w : Wd} (h9 : wf w ≤ 9) {D : Sd} {wi : Nat → Int32} {s r : Nat} : ∀ d k, k + d ≤ wf w + 1 → toM w D wi s r r d k = (sgM w D wi s r d k).map (fun k => (k, k))
  | 0, _, _ => rfl
  | d + 1, k, hk => by
    unfold toM sgM
    rw [ti_same (by omega) _ _ (by omega), to_sg h9 d (k + 1) (by omega)]
    by_cases c : ¬ nI k - 1 = wi r ∧ asA w D (updW wi r (nI k - 1)) s = true
    · rw [if_pos ⟨c, by omega, by omega⟩, if_pos c]; rfl
    · rw [if_neg (fun q => c q.1), if_neg c]
def toL (a b : Nat) (k : Nat × Nat) : List Int64 := if a = b then [(((1 : Int32) <<< (nI a &&& 31)) ||| ((1 : Int32) <<< (nI b &&& 31))).toInt64, (nI k.1 - 1).toInt64] else [(((1 : Int32) <<< (nI a &&& 31)) ||| ((1 : Int32) <<< (nI b &&& 31))).toInt64, (nI k.1 - 1).toInt64, (nI k.2 - 1).toInt64]
abbrev nxF : List Nat := 1 :: maF
theorem m_ti_loop {w : Wd} {D : Sd} {μ : Mo} {s a b k1 : Nat} (hs : s ≤ 8) (ha : a < wn w) (hb : b < wn w) (hk1 : k1 ≤ wf w) {I : sw_I} {J : sw_J} {Q : Int32 → sw_I → sw_J → Prop} {K : Int32 → Int32 → Int32 → sw_I → sw_J → Prop} (hW : isW I w) (hD : mdO I D s) (hf : ∀ k, k < s → ∃ j, j < wf w ∧ D.1 k = nI j) (hR : relM w μ (I 144)) :
    ∀ (d k : Nat) (u1 u2 : Int32) (I2 : sw_I), k + d = wf w + 1 → eqm nxC maF I I2 → nxO I2 w (updW (updW μ.2.1 a u1) b u2) → (tiM w D μ.2.1 s a b (nI k1 - 1) d k = none → ∀ I3 u1 u2, eqm nxC maF I I3 → nxO I3 w (updW (updW μ.2.1 a u1) b u2) → K (nI a) (nI b) (nI (k1 + 1) - 1) I3 J) → (∀ j, tiM w D μ.2.1 s a b (nI k1 - 1) d k = some j → ∀ I3 J3, eqm nxC nxF I I3 → eqj [141] J J3 → tlM I3 J3 (toL a b (k1, j)) → Q 1 I3 J3) → wl_X10_tellsLies_13 K Q (d + 1) (nI a) (nI b) (nI k1 - 1) (nI k - 1) I2 J := by
  have h9 := hW.1.2.1
  have hn := hW.1.2.2.1
  have ff : ∀ I2, eqm nxC maF I I2 → I2 140 3 = nI (wf w) := fun I2 e => by rw [e.2 _ (by decide)]; exact hW.1.2.2.2.2.1
  have e10 : ∀ i, (10 : Int32) + nI i = nI (10 + i) := fun i => nI_add 10 i
  have now : ∀ I2, eqm nxC maF I I2 → ∀ i, i < wn w → I2 144 (10 + i) = μ.2.1 i := fun I2 e i hi => by rw [e.1 _ (by decide) (by decide)]; exact (hR.1.1 i hi).2.1.symm
  intro d
  induction d with
  | zero =>
    intro k u1 u2 I2 hk h1 h2 g0 g1
    show wb_X10_tellsLies_13 _ _ Q _ _ _ _ I2 J
    unfold wb_X10_tellsLies_13
    rw [sw_if_f (by rw [ff I2 h1, wk_lt (by omega) (by omega)]; omega)]
    intro y hy
    rw [hy, wk_1]
    exact g0 rfl I2 u1 u2 h1 h2
  | succ d ih =>
    intro k u1 u2 I2 hk h1 h2 g0 g1
    show wb_X10_tellsLies_13 _ _ Q _ _ _ _ I2 J
    unfold wb_X10_tellsLies_13
    rw [sw_if_t (by rw [ff I2 h1, wk_lt (by omega) (by omega)]; omega), e10, e10, nI_clamp (by omega), nI_clamp (by omega), now I2 h1 a ha, now I2 h1 b hb]
    unfold tiM at g0 g1
    have on : ∀ I4 u1 u2, eqm nxC maF I I4 → nxO I4 w (updW (updW μ.2.1 a u1) b u2) → _ → _ → wB_X10_tellsLies_128 (wl_X10_tellsLies_13 K Q (d + 1)) Q (nI a) (nI b) (nI k1 - 1) (nI k - 1) I4 J := fun I4 u1 u2 x4 X4 p q y hy => by
      rw [hy, wk_1]; exact ih (k + 1) u1 u2 I4 (by omega) x4 X4 p q
    have no : ¬ (¬ nI k1 - 1 = μ.2.1 a ∧ ¬ nI k - 1 = μ.2.1 b ∧ (a = b → nI k1 - 1 = nI k - 1) ∧ asA w D (updW (updW μ.2.1 a (nI k1 - 1)) b (nI k - 1)) s = true) → wB_X10_tellsLies_128 (wl_X10_tellsLies_13 K Q (d + 1)) Q (nI a) (nI b) (nI k1 - 1) (nI k - 1) I2 J := fun q => by
      rw [if_neg q] at g0 g1; exact on I2 u1 u2 h1 h2 g0 g1
    have tryit : ¬ nI k1 - 1 = μ.2.1 a → ¬ nI k - 1 = μ.2.1 b → (a = b → nI k1 - 1 = nI k - 1) → wB_X10_tellsLies_63 (wl_X10_tellsLies_13 K Q (d + 1)) Q (nI a) (nI b) (nI k1 - 1) (nI k - 1) I2 J := by
      intro z1 z2 z3
      unfold wB_X10_tellsLies_63
      rw [e10, e10, nI_clamp (by omega), nI_clamp (by omega)]
      refine ⟨vp0 (by omega) (by decide), fun I3 e3 => ⟨vp0 (by omega) (by decide), fun I5 e5 => ?_⟩⟩
      have q3 : eqm nxC maF I I3 := by rw [e3]; exact h1.upC (by decide) (by decide) _ _
      have q5 : eqm nxC maF I I5 := by rw [e5]; exact q3.upC (by decide) (by decide) _ _
      have X5 : nxO I5 w (updW (updW μ.2.1 a (nI k1 - 1)) b (nI k - 1)) := by
        intro j hj
        unfold updW
        rw [e5]
        by_cases c : j = b
        · rw [if_pos c, c, sw_up_same]; exact ⟨rfl, wk_fw (by omega)⟩
        · rw [if_neg c, sw_up_slot _ _ _ _ (by omega), e3]
          by_cases c2 : j = a
          · rw [if_pos c2, c2, sw_up_same]; exact ⟨rfl, wk_fw hk1⟩
          · rw [if_neg c2, sw_up_slot _ _ _ _ (by omega)]
            have := h2 j hj
            unfold updW at this
            rw [if_neg c, if_neg c2] at this; exact this
      refine m_areSo hs (isW_of q5 (by decide) (by decide) hW) (mdO_kept hD q5 (by decide) (by decide)) X5 hf (fun I6 x6 k6 => ?_)
      have q6 := q5.tr x6
      cases hA : asA w D (updW (updW μ.2.1 a (nI k1 - 1)) b (nI k - 1)) s
      · rw [sw_if_t (by rfl)]
        rw [if_neg (fun q => by have := q.2.2.2; rw [hA] at this; cases this)] at g0 g1
        exact on I6 _ _ q6 (nxO_kept hn X5 k6) g0 g1
      · rw [sw_if_f (by decide)]
        rw [if_pos ⟨z1, z2, z3, hA⟩] at g1
        intro I7 e7
        have q7 : eqm nxC nxF I I7 := by rw [e7]; exact (q6.mono (by decide) (by decide)).upF (by decide) _
        refine t_enters (by decide) (tlM_0 e7) (fun I8 J8 x8 j8 t8 => t_enters (by simp) t8 (fun I9 J9 x9 j9 t9 => ?_))
        have q9 : eqm nxC nxF I I9 := (q7.tr (x8.mono (by decide) (by decide))).tr (x9.mono (by decide) (by decide))
        unfold toL at g1
        by_cases cab : a = b
        · rw [sw_if_t (by rw [cab])]
          have g := g1 k rfl
          rw [if_pos cab] at g
          exact g I9 J9 q9 (j8.tr j9) t9
        · rw [sw_if_f (fun q => cab ((nI_eq (by omega) (by omega)).mp q))]
          have g := g1 k rfl
          rw [if_neg cab] at g
          refine t_enters (by simp) t9 (fun I10 J10 x10 j10 t10 => ?_)
          exact g I10 J10 (q9.tr (x10.mono (by decide) (by decide))) ((j8.tr j9).tr j10) t10
    refine ⟨vp0 (by omega) (by decide), fun c1 => no (fun q => q.1 c1), fun c1 => ⟨vp0 (by omega) (by decide), fun c2 => no (fun q => q.2.1 c2), fun c2 => ⟨fun c3 => ⟨fun c4 => ?_, fun c4 => ?_⟩, fun c3 => ?_⟩⟩⟩
    · exact tryit c1 c2 (fun _ => c4)
    · exact no (fun q => c4 (q.2.2.1 ((nI_eq (by omega) (by omega)).mp c3)))
    · exact tryit c1 c2 (fun q => absurd (by rw [q]) c3)
theorem m_tells {w : Wd} {D : Sd} {μ : Mo} {s a b : Nat} (hs : s ≤ 8) (ha : a < wn w) (hb : b < wn w) {I : sw_I} {J : sw_J} {Q : Int32 → sw_I → sw_J → Prop} (hW : isW I w) (hD : mdO I D s) (hf : ∀ k, k < s → ∃ j, j < wf w ∧ D.1 k = nI j) (hR : relM w μ (I 144)) (hX : nxO I w μ.2.1) (g0 : toM w D μ.2.1 s a b (wf w + 1) 0 = none → ∀ I3, eqm nxC maF I I3 → nxO I3 w μ.2.1 → Q 0 I3 J) (g1 : ∀ k, toM w D μ.2.1 s a b (wf w + 1) 0 = some k → ∀ I3 J3, eqm nxC nxF I I3 → eqj [141] J J3 → tlM I3 J3 (toL a b k) → Q 1 I3 J3) : wp_X10_tellsLies (nI a) (nI b) I J Q := by
  have h9 := hW.1.2.1
  have hn := hW.1.2.2.1
  have e10 : ∀ i, (10 : Int32) + nI i = nI (10 + i) := fun i => nI_add 10 i
  have loop : ∀ (d k : Nat) (u1 u2 : Int32) (I2 : sw_I), k + d = wf w + 1 → eqm nxC maF I I2 → nxO I2 w (updW (updW μ.2.1 a u1) b u2) → (toM w D μ.2.1 s a b d k = none → ∀ I3, eqm nxC maF I I3 → nxO I3 w μ.2.1 → Q 0 I3 J) → (∀ t, toM w D μ.2.1 s a b d k = some t → ∀ I3 J3, eqm nxC nxF I I3 → eqj [141] J J3 → tlM I3 J3 (toL a b t) → Q 1 I3 J3) → wl_X10_tellsLies_2 Q (d + 1) (nI a) (nI b) (nI k - 1) I2 J := by
    intro d
    induction d with
    | zero =>
      intro k u1 u2 I2 hk h1 h2 g0 g1
      show wb_X10_tellsLies_2 _ Q _ _ _ I2 J
      unfold wb_X10_tellsLies_2
      have na : I2 144 (10 + a) = μ.2.1 a := by rw [h1.1 _ (by decide) (by decide)]; exact (hR.1.1 a ha).2.1.symm
      rw [sw_if_f (by rw [h1.2 _ (by decide), hW.1.2.2.2.2.1, wk_lt (by omega) (by omega)]; omega), e10, e10, nI_clamp (by omega), nI_clamp (by omega), na]
      refine ⟨vp0 (by omega) (by decide), vp0 (by omega) (by decide), fun I4 e4 => ⟨vp0 (by omega) (by decide), vp0 (by omega) (by decide), fun I8 e8 => ?_⟩⟩
      have nb : I4 144 (10 + b) = μ.2.1 b := by rw [e4, sw_up_cell _ _ _ _ (by decide), h1.1 _ (by decide) (by decide)]; exact (hR.1.1 b hb).2.1.symm
      rw [nb] at e8
      have q4 : eqm nxC maF I I4 := by rw [e4]; exact h1.upC (by decide) (by decide) _ _
      refine g0 rfl I8 (by rw [e8]; exact q4.upC (by decide) (by decide) _ _) (fun j hj => ?_)
      rw [e8]
      by_cases c : j = b
      · rw [c, sw_up_same]; exact ⟨rfl, (hR.2.1 b hb).2⟩
      · rw [sw_up_slot _ _ _ _ (by omega), e4]
        by_cases c2 : j = a
        · rw [c2, sw_up_same]; exact ⟨rfl, (hR.2.1 a ha).2⟩
        · rw [sw_up_slot _ _ _ _ (by omega)]
          have := h2 j hj
          unfold updW at this
          rw [if_neg c, if_neg c2] at this; exact this
    | succ d ih =>
      intro k u1 u2 I2 hk h1 h2 g0 g1
      show wb_X10_tellsLies_2 _ Q _ _ _ I2 J
      unfold wb_X10_tellsLies_2
      rw [sw_if_t (by rw [h1.2 _ (by decide), hW.1.2.2.2.2.1, wk_lt (by omega) (by omega)]; omega)]
      unfold toM at g0 g1
      have := m_ti_loop (w := w) (D := D) (μ := μ) (K := wl_X10_tellsLies_2 Q (d + 1)) (J := J) (Q := Q) hs ha hb (show k ≤ wf w by omega) hW hD hf hR (wf w + 1) 0 u1 u2 I2 (Nat.zero_add _) h1 h2 (fun hnone I3 v1 v2 x3 X3 => ?_) (fun j hsome I3 J3 x3 j3 t3 => ?_)
      · exact ⟨wf w + 2, this⟩
      · rw [hnone] at g0 g1
        exact ih (k + 1) v1 v2 I3 (by omega) x3 X3 g0 g1
      · rw [hsome] at g1
        exact g1 (k, j) rfl I3 J3 x3 j3 t3
  refine ⟨wf w + 2, loop (wf w + 1) 0 (μ.2.1 a) (μ.2.1 b) I (Nat.zero_add _) eqm.rf ?_ g0 g1⟩
  have e1 : updW (updW μ.2.1 a (μ.2.1 a)) b (μ.2.1 b) = μ.2.1 := by rw [updW_id, updW_id]
  rw [e1]; exact hX
/-- one pair after another -/
theorem m_lies2_loop {w : Wd} {D : Sd} {μ : Mo} {s b : Nat} (hs : s ≤ 8) (hb : b < wn w) {I : sw_I} {J : sw_J} {Q : Int32 → sw_I → sw_J → Prop} {K : Int32 → sw_I → sw_J → Prop} (hW : isW I w) (hD : mdO I D s) (hf : ∀ k, k < s → ∃ j, j < wf w ∧ D.1 k = nI j) (hR : relM w μ (I 144)) :
    ∀ (d a : Nat) (I2 : sw_I), a + d = b → eqm nxC maF I I2 → nxO I2 w μ.2.1 → (((List.range' a d).map (fun a => 2 ^ a + 2 ^ b)).findSome? (e2W w D μ.2.1 s) = none → ∀ I3, eqm nxC maF I I3 → nxO I3 w μ.2.1 → K (nI (b + 1)) I3 J) → (∀ R, ((List.range' a d).map (fun a => 2 ^ a + 2 ^ b)).findSome? (e2W w D μ.2.1 s) = some R → ∀ I3 J3, eqm nxC nxF I I3 → eqj [141] J J3 → tlM I3 J3 R → Q 2 I3 J3) → wl_X10_lies_74 K Q (d + 1) (nI b) (nI a) I2 J := by
  have hn := hW.1.2.2.1
  intro d
  induction d with
  | zero =>
    intro a I2 hk h1 h2 g0 g1
    obtain rfl : a = b := by omega
    show wb_X10_lies_74 _ _ Q _ _ I2 J
    unfold wb_X10_lies_74
    rw [sw_if_f (nI_nlt (Nat.le_refl _) (by omega))]
    intro y hy
    rw [hy, nI_1]
    exact g0 rfl I2 h1 h2
  | succ d ih =>
    intro a I2 hk h1 h2 g0 g1
    show wb_X10_lies_74 _ _ Q _ _ I2 J
    unfold wb_X10_lies_74
    rw [sw_if_t (nI_lt (by omega) (by omega))]
    rw [List.range'_succ, List.map_cons, List.findSome?_cons] at g0 g1
    have lr := (lg2 b (by omega)).2 a (by omega)
    have eq : e2W w D μ.2.1 s (2 ^ a + 2 ^ b) = (toM w D μ.2.1 s a b (wf w + 1) 0).map (toL a b) := by
      unfold e2W
      rw [lr.1, lr.2, to_pr (by omega)]
      congr 1
      funext k
      unfold toL
      rw [if_neg (by omega), (nt2 b (by omega) a (by omega)).2.2.2]
    rw [eq] at g0 g1
    refine m_tells (w := w) (D := D) (μ := μ) hs (by omega) hb (isW_of h1 (by decide) (by decide) hW) (mdO_kept hD h1 (by decide) (by decide)) hf (by rw [h1.1 _ (by decide) (by decide)]; exact hR) h2 (fun hnone I3 x3 X3 => ?_) (fun k hsome I3 J3 x3 j3 t3 => ?_)
    · rw [sw_if_t rfl]
      rw [hnone] at g0 g1
      intro y hy
      rw [hy, nI_1]
      exact ih (a + 1) I3 (by omega) (h1.tr x3) X3 g0 g1
    · rw [sw_if_f (by decide)]
      rw [hsome] at g1
      exact g1 _ rfl I3 J3 ((h1.mono (by decide) (by decide)).tr x3) j3 t3
theorem m_lies3_loop {w : Wd} {D : Sd} {μ : Mo} {s : Nat} (hs : s ≤ 8) {I : sw_I} {J : sw_J} {Q : Int32 → sw_I → sw_J → Prop} (hW : isW I w) (hD : mdO I D s) (hf : ∀ k, k < s → ∃ j, j < wf w ∧ D.1 k = nI j) (hR : relM w μ (I 144)) :
    ∀ (d b : Nat) (I2 : sw_I), b + d = wn w → eqm nxC maF I I2 → nxO I2 w μ.2.1 → (((List.range' b d).flatMap (fun b => (List.range b).map (fun a => 2 ^ a + 2 ^ b))).findSome? (e2W w D μ.2.1 s) = none → ∀ I3, eqm nxC maF I I3 → Q (-2) I3 J) → (∀ R, ((List.range' b d).flatMap (fun b => (List.range b).map (fun a => 2 ^ a + 2 ^ b))).findSome? (e2W w D μ.2.1 s) = some R → ∀ I3 J3, eqm nxC nxF I I3 → eqj [141] J J3 → tlM I3 J3 R → Q 2 I3 J3) → wl_X10_lies_64 Q (d + 1) (nI b) I2 J := by
  have hn := hW.1.2.2.1
  intro d
  induction d with
  | zero =>
    intro b I2 hk h1 h2 g0 g1
    obtain rfl : b = wn w := by omega
    show wb_X10_lies_64 _ Q _ I2 J
    unfold wb_X10_lies_64
    rw [sw_if_f (by rw [h1.2 _ (by decide), hW.1.2.2.2.2.2.2.1]; exact nI_nlt (Nat.le_refl _) (by omega))]
    exact g0 rfl I2 h1
  | succ d ih =>
    intro b I2 hk h1 h2 g0 g1
    show wb_X10_lies_64 _ Q _ I2 J
    unfold wb_X10_lies_64
    rw [sw_if_t (by rw [h1.2 _ (by decide), hW.1.2.2.2.2.2.2.1]; exact nI_lt (by omega) (by omega))]
    rw [List.range'_succ, List.flatMap_cons, List.findSome?_append] at g0 g1
    have := m_lies2_loop (w := w) (D := D) (μ := μ) (b := b) (K := wl_X10_lies_64 Q (d + 1)) (J := J) (Q := Q) hs (by omega) hW hD hf hR b 0 I2 (Nat.zero_add _) h1 h2 (fun hnone I3 x3 X3 => ?_) (fun R hsome I3 J3 x3 j3 t3 => ?_)
    · exact ⟨b + 1, this⟩
    · rw [← List.range_eq_range'] at hnone
      rw [hnone] at g0 g1
      exact ih (b + 1) I3 (by omega) x3 X3 g0 g1
    · rw [← List.range_eq_range'] at hsome
      rw [hsome] at g1
      exact g1 R rfl I3 J3 x3 j3 t3
theorem m_lies1_loop {w : Wd} {D : Sd} {μ : Mo} {s : Nat} (hs : s ≤ 8) {I : sw_I} {J : sw_J} {Q : Int32 → sw_I → sw_J → Prop} (hW : isW I w) (hD : mdO I D s) (hf : ∀ k, k < s → ∃ j, j < wf w ∧ D.1 k = nI j) (hR : relM w μ (I 144)) :
    ∀ (d r : Nat) (I2 : sw_I), r + d = wn w → eqm nxC maF I I2 → nxO I2 w μ.2.1 → (((List.range' r d).map (fun r => 2 ^ r)).findSome? (e1W w D μ.2.1 s) = none → ∀ I3, eqm nxC maF I I3 → nxO I3 w μ.2.1 → ∃ n2 : Nat, wl_X10_lies_64 Q n2 0 I3 J) → (∀ R, ((List.range' r d).map (fun r => 2 ^ r)).findSome? (e1W w D μ.2.1 s) = some R → ∀ I3 J3, eqm nxC nxF I I3 → eqj [141] J J3 → tlM I3 J3 R → Q 1 I3 J3) → wl_X10_lies_37 Q (d + 1) (nI r) I2 J := by
  have hn := hW.1.2.2.1
  have h9 := hW.1.2.1
  intro d
  induction d with
  | zero =>
    intro r I2 hk h1 h2 g0 g1
    obtain rfl : r = wn w := by omega
    show wb_X10_lies_37 _ Q _ I2 J
    unfold wb_X10_lies_37
    rw [sw_if_f (by rw [h1.2 _ (by decide), hW.1.2.2.2.2.2.2.1]; exact nI_nlt (Nat.le_refl _) (by omega))]
    exact g0 rfl I2 h1 h2
  | succ d ih =>
    intro r I2 hk h1 h2 g0 g1
    show wb_X10_lies_37 _ Q _ I2 J
    unfold wb_X10_lies_37
    rw [sw_if_t (by rw [h1.2 _ (by decide), hW.1.2.2.2.2.2.2.1]; exact nI_lt (by omega) (by omega))]
    rw [List.range'_succ, List.map_cons, List.findSome?_cons] at g0 g1
    have lr := (lg2 r (by omega)).1
    have eq : e1W w D μ.2.1 s (2 ^ r) = (toM w D μ.2.1 s r r (wf w + 1) 0).map (toL r r) := by
      unfold e1W
      rw [lr, to_sg h9 _ _ (by omega), Option.map_map]
      congr 1
      funext k
      unfold toL
      show _ = if r = r then _ else _
      rw [if_pos rfl, (nt1 r (by omega)).2.2.2]
    rw [eq] at g0 g1
    refine m_tells (w := w) (D := D) (μ := μ) hs (by omega) (by omega) (isW_of h1 (by decide) (by decide) hW) (mdO_kept hD h1 (by decide) (by decide)) hf (by rw [h1.1 _ (by decide) (by decide)]; exact hR) h2 (fun hnone I3 x3 X3 => ?_) (fun k hsome I3 J3 x3 j3 t3 => ?_)
    · rw [sw_if_t rfl]
      rw [hnone] at g0 g1
      intro y hy
      rw [hy, nI_1]
      exact ih (r + 1) I3 (by omega) (h1.tr x3) X3 g0 g1
    · rw [sw_if_f (by decide)]
      rw [hsome] at g1
      exact g1 _ rfl I3 J3 ((h1.mono (by decide) (by decide)).tr x3) j3 t3
/-- what lies() answers and tells -/
def lsV (w : Wd) (D : Sd) (wi : Nat → Int32) (s : Nat) : Int32 × Option (List Int64) :=
  if asA w D wi s = true then (0, some [0]) else
  match ((List.range (wn w)).map (fun r => 2 ^ r)).findSome? (e1W w D wi s) with
  | some R => (1, some R)
  | none => match ((List.range (wn w)).flatMap (fun b => (List.range b).map (fun a => 2 ^ a + 2 ^ b))).findSome? (e2W w D wi s) with
    | some R => (2, some R)
    | none => (-2, none)
theorem c_lies {w : Wd} {D : Sd} {s : Nat} (hs : s ≤ 8) {I : sw_I} {J : sw_J} {Q : Int32 → sw_I → sw_J → Prop} (hW : isW I w) (hA0 : (∀ i, i < 10 → I (113 + 1) i = -1) ∧ I 113 5 = 0) (hD : sdO I D s)
    (h0 : (lsV w D (I 15) s).2 = none → ∀ I3, eqx alW I I3 → I3 113 5 = 0 → Q (lsV w D (I 15) s).1 I3 J) (h1 : ∀ R, (lsV w D (I 15) s).2 = some R → ∀ I3 J3, eqx (0 :: alW) I I3 → eqj [118] J J3 → I3 113 5 = 0 → tlC I3 J3 R → Q (lsV w D (I 15) s).1 I3 J3) : wp_X9_lies I J Q := by
  have hn := hW.1.2.2.1
  unfold wp_X9_lies
  refine c_believe hA0 (fun I1 x1 A1 => ?_)
  have q1 : eqx alW I I1 := x1.mono (by decide)
  have hW1 := isW_of (x1.eqm (C := [115]) (F := []) (fun _ q => q) (by decide)) (by decide) (by decide) hW
  have D1 := sdO_kept hD x1 (by decide)
  refine c_allSo hs hW1 A1 D1 (fun I2 x2 r2 => ?_)
  have q2 : eqx alW I I2 := q1.tr (x2.mono (by decide))
  unfold lsV at h0 h1
  cases ha : asA w D (I 15) s
  · rw [sw_if_t (by rfl)]
    rw [ha] at h0 h1
    simp only [Bool.false_eq_true, if_false] at h0 h1
    refine s_X1_everybody (n := wn w) (by rw [x2.at (by decide)]; exact hW1.1.2.2.2.2.2.1) ?_
    rw [ev_eq _ hn]
    have hwi : ∀ i, i < 10 → I1 15 i = I 15 i := fun i _ => by rw [x1.at (by decide)]
    have hp0 : 0 < 2 ^ wn w := Nat.two_pow_pos _
    have pass1 := s_lies_loop (w := w) (D := D) (wi := I 15) (s := s) (n := wn w) (L := 1) (I := I1) (J := J) (Q := Q) (K := wl_X9_lies_49 Q 2) (ex := e1W w D (I 15) s) hn (Or.inl rfl) (2 ^ wn w - 1) 1 I2 (by omega) (fun who hw => by
      rw [ls1 _ hn] at hw
      obtain ⟨r, hr, rfl⟩ := List.mem_map.mp hw
      exact c_ex1 hs (by have := List.mem_range.mp hr; omega) hW1 A1 D1 hwi) x2 r2 (fun hnone I3 x3 r3 => by
      rw [ls1 _ hn] at hnone
      rw [hnone] at h0 h1
      show wb_X9_lies_49 _ Q _ _ I3 J
      unfold wb_X9_lies_49
      rw [sw_if_f (by decide)]
      refine ⟨2 ^ wn w - 1 + 1, s_lies_loop (w := w) (D := D) (wi := I 15) (s := s) (n := wn w) (L := 2) (I := I1) (K := wl_X9_lies_49 Q 1) (ex := e2W w D (I 15) s) hn (Or.inr rfl) (2 ^ wn w - 1) 1 I3 (by omega) (fun who hw => ?_) x3 r3 (fun hnone2 I4 x4 r4 => ?_) (fun R hsome I4 J4 x4 j4 r4 t4 => ?_)⟩
      · rw [ls2 _ hn] at hw
        obtain ⟨b, hb, hw⟩ := List.mem_flatMap.mp hw
        obtain ⟨a, ha2, rfl⟩ := List.mem_map.mp hw
        exact c_ex2 hs (by have := List.mem_range.mp hb; omega) (List.mem_range.mp ha2) hW1 A1 D1 hwi
      · rw [ls2 _ hn] at hnone2
        rw [hnone2] at h0
        show wb_X9_lies_49 _ Q _ _ I4 J
        unfold wb_X9_lies_49
        rw [sw_if_t (by decide)]
        exact h0 rfl I4 (q1.tr (x4.mono (by decide))) r4
      · rw [ls2 _ hn] at hsome
        rw [hsome] at h1
        exact h1 R rfl I4 J4 ((q1.mono (by decide)).tr (x4.mono (by decide))) j4 r4 t4) (fun R hsome I3 J3 x3 j3 r3 t3 => by
      rw [ls1 _ hn] at hsome
      rw [hsome] at h1
      exact h1 R rfl I3 J3 ((q1.mono (by decide)).tr (x3.mono (by decide))) j3 r3 t3)
    refine ⟨3, ?_⟩
    show wb_X9_lies_49 _ Q _ _ I2 J
    unfold wb_X9_lies_49
    rw [sw_if_f (by decide)]
    exact ⟨2 ^ wn w - 1 + 1, pass1⟩
  · rw [sw_if_f (by decide)]
    rw [ha] at h1
    simp only [if_true] at h1
    refine t_clear (fun I3 x3 t3 => t_tell (by decide) t3 (fun I4 J4 x4 j4 t4 => ?_))
    exact h1 _ rfl I4 J4 (((q2.mono (by decide)).tr (x3.mono (by decide))).tr (x4.mono (by decide))) j4 (by rw [x4.at (by decide), x3.at (by decide)]; exact r2) t4
theorem m_lies {w : Wd} {D : Sd} {μ : Mo} {s : Nat} (hs : s ≤ 8) {I : sw_I} {J : sw_J} {Q : Int32 → sw_I → sw_J → Prop} (hW : isW I w) (hD : mdO I D s) (hf : ∀ k, k < s → ∃ j, j < wf w ∧ D.1 k = nI j) (hR : relM w μ (I 144))
    (h0 : (lsV w D μ.2.1 s).2 = none → ∀ I3, eqm nxC (0 :: maF) I I3 → I3 140 0 = 0 → Q (lsV w D μ.2.1 s).1 I3 J) (h1 : ∀ R, (lsV w D μ.2.1 s).2 = some R → ∀ I3 J3, eqm nxC (0 :: nxF) I I3 → eqj [141] J J3 → I3 140 0 = 0 → tlM I3 J3 R → Q (lsV w D μ.2.1 s).1 I3 J3) : wp_X10_lies I J Q := by
  have hn := hW.1.2.2.1
  intro I1 e1
  have q1 : eqm nxC (0 :: maF) I I1 := by rw [e1]; exact eqm.rf.upF (by decide) _
  have t1 : I1 140 0 = 0 := by rw [e1, sw_up_same]
  refine s_X10_puts (by decide) (fun I2 x2 r2 => ?_)
  have q2 : eqm nxC (0 :: maF) I I2 := q1.tr (x2.eqm (by decide) (by decide))
  have t2 : I2 140 0 = 0 := by rw [x2 _ (by decide)]; exact t1
  have hW2 := isW_of q2 (by decide) (by decide) hW
  have D2 := mdO_kept hD q2 (by decide) (by decide)
  have R2 : relM w μ (I2 144) := by rw [q2.1 _ (by decide) (by decide)]; exact hR
  have X2 : nxO I2 w μ.2.1 := nx_puts (I := I1) hn (by rw [q1.1 _ (by decide) (by decide)]; exact hR) r2
  refine m_areSo hs hW2 D2 X2 hf (fun I3 x3 k3 => ?_)
  have X3 := nxO_kept hn X2 k3
  unfold lsV at h0 h1
  cases ha : asA w D μ.2.1 s
  · rw [sw_if_t (by rfl)]
    rw [ha] at h0 h1
    simp only [Bool.false_eq_true, if_false] at h0 h1
    refine ⟨wn w + 1, m_lies1_loop (w := w) (D := D) (μ := μ) hs hW2 D2 hf R2 (wn w) 0 I3 (Nat.zero_add _) x3 X3 (fun hnone I4 x4 X4 => ?_) (fun R hsome I4 J4 x4 j4 t4 => ?_)⟩
    · rw [← List.range_eq_range'] at hnone
      rw [hnone] at h0 h1
      refine ⟨wn w + 1, m_lies3_loop (w := w) (D := D) (μ := μ) hs hW2 D2 hf R2 (wn w) 0 I4 (Nat.zero_add _) x4 X4 (fun hnone2 I5 x5 => ?_) (fun R hsome I5 J5 x5 j5 t5 => ?_)⟩
      · rw [← List.range_eq_range'] at hnone2
        rw [hnone2] at h0
        exact h0 rfl I5 (q2.tr (x5.mono (by decide) (by decide))) (by rw [x5.2 _ (by decide)]; exact t2)
      · rw [← List.range_eq_range'] at hsome
        rw [hsome] at h1
        exact h1 R rfl I5 J5 ((q2.mono (by decide) (by decide)).tr (x5.mono (by decide) (by decide))) j5 (by rw [x5.2 _ (by decide)]; exact t2) t5
    · rw [← List.range_eq_range'] at hsome
      rw [hsome] at h1
      exact h1 R rfl I4 J4 ((q2.mono (by decide) (by decide)).tr (x4.mono (by decide) (by decide))) j4 (by rw [x4.2 _ (by decide)]; exact t2) t4
  · rw [sw_if_f (by decide)]
    rw [ha] at h1
    simp only [if_true] at h1
    intro I4 e4
    have q4 : eqm nxC (0 :: nxF) I I4 := by rw [e4]; exact ((q2.mono (by decide) (by decide)).tr (x3.mono (by decide) (by decide))).upF (by decide) _
    refine t_enters (by decide) (tlM_0 e4) (fun I5 J5 x5 j5 t5 => ?_)
    exact h1 _ rfl I5 J5 (q4.tr (x5.mono (by decide) (by decide))) j5 (by rw [x5.2 _ (by decide), e4, sw_up_slot _ _ _ _ (by decide), x3.2 _ (by decide)]; exact t2) t5
theorem lsV_len {w : Wd} {D : Sd} {wi : Nat → Int32} {s : Nat} {R : List Int64} (h : (lsV w D wi s).2 = some R) : R.length ≤ 12 := by
  have f1 : ∀ L R, List.findSome? (e1W w D wi s) L = some R → R.length ≤ 12 := by
    intro L R h
    obtain ⟨x, -, hx⟩ := List.exists_of_findSome?_eq_some h
    unfold e1W at hx
    obtain ⟨k, -, rfl⟩ := Option.map_eq_some_iff.mp hx
    simp
  have f2 : ∀ L R, List.findSome? (e2W w D wi s) L = some R → R.length ≤ 12 := by
    intro L R h
    obtain ⟨x, -, hx⟩ := List.exists_of_findSome?_eq_some h
    unfold e2W at hx
    obtain ⟨k, -, rfl⟩ := Option.map_eq_some_iff.mp hx
    simp
  unfold lsV at h
  split at h
  · obtain rfl := Option.some.inj h; simp
  · split at h
    · rename_i R' hR'
      obtain rfl := Option.some.inj h
      exact f1 _ _ hR'
    · split at h
      · rename_i R' hR'
        obtain rfl := Option.some.inj h
        exact f2 _ _ hR'
      · cases h
theorem p_lies {c : Nat} {I : sw_I} {J : sw_J} {Q : Int32 → Int32 → sw_I → sw_J → Prop} (h : wW c I J) (hQ : ∀ v I2 J2, wW c I2 J2 → I2 140 0 = 0 → Q v v I2 J2) :
    wp_X9_lies  I J (fun r I1 J1 => wp_X10_lies  I1 J1 (fun r2 I2 J2 => Q r r2 I2 J2)) := by
  obtain ⟨n, fl, m, q, p, r, t, s, z, hw⟩ := h
  obtain ⟨h0, h1, h2, h3, h4, h5, h6, h7, h8⟩ := id hw
  have hn := h1.2.2.1
  have hW := isW_O h1 h2
  have hR : relM (wdO I m n fl) (moC I 13) (I 144) := h3
  obtain ⟨D1, D2, D3⟩ := sn_both h7
  generalize sdC I = D at D1 D2 D3
  have hs := h7.1
  refine c_lies (w := wdO I m n fl) hs hW h0.2.2 D1 (fun hnone I3 x3 r3 => ?_) (fun R hsome I3 J3 x3 j3 r3 t3 => ?_)
  · have s3 : eqm (113 :: scrC) scrF I I3 := x3.eqm (by decide) (by decide)
    refine m_lies (w := wdO I m n fl) (D := D) (μ := moC I 13) hs (isW_of s3 (by decide) (by decide) hW) (mdO_kept D2 s3 (by decide) (by decide)) D3 (by rw [s3.1 _ (by decide) (by decide)]; exact hR) (fun _ I4 x4 t4 => ?_) (fun R hsome => ?_)
    · exact hQ _ I4 J (seen_fin0 hw (s3.tr (x4.mono (by decide) (by decide))) (by rw [x4.1 _ (by decide) (by decide)]; exact r3) rfl rfl) t4
    · have e2 : (lsV (wdO I m n fl) D (moC I 13).2.1 s).2 = none := hnone
      rw [e2] at hsome; cases hsome
  · have s3 : eqm (0 :: 113 :: scrC) (1 :: scrF) I I3 := x3.eqm (by decide) (by decide)
    refine m_lies (w := wdO I m n fl) (D := D) (μ := moC I 13) hs (isW_of s3 (by decide) (by decide) hW) (mdO_kept D2 s3 (by decide) (by decide)) D3 (by rw [s3.1 _ (by decide) (by decide)]; exact hR) (fun hnone => ?_) (fun R2 hsome2 I4 J4 x4 j4 t4 l4 => ?_)
    · have e2 : (lsV (wdO I m n fl) D (moC I 13).2.1 s).2 = some R := hsome
      rw [e2] at hnone; cases hnone
    · have e2 : (lsV (wdO I m n fl) D (moC I 13).2.1 s).2 = some R := hsome
      rw [e2] at hsome2
      obtain rfl := Option.some.inj hsome2
      exact hQ _ I4 J4 (seen_fin hw (s3.tr (x4.mono (by decide) (by decide))) (by rw [x4.1 _ (by decide) (by decide)]; exact r3) (lsV_len hsome) (tlC_of t3 (x4.1 _ (by decide) (by decide)) (j4 _ (by decide))) l4) t4
