/-! what is undone: the reference's rows -/
theorem nI_mul (a b : Nat) : nI a * nI b = nI (a * b) := (Int32.ofNat_mul a b).symm
theorem nI_33 (p k : Nat) : (33 : Int32) * nI p + nI k = nI (33 * p + k) := by
  show nI 33 * nI p + nI k = _
  rw [nI_mul, nI_add]
def puF (u row : Nat → Int32) (p k : Nat) : Nat → Int32 := fun j => if 33 * p ≤ j ∧ j < 33 * p + k then row (j - 33 * p) else u j
theorem s_putsBy_loop {p : Nat} (hp : p ≤ 20) {I : sw_I} {J : sw_J} {Q : sw_I → sw_J → Prop} (hu : I 140 32 = nI p) (h : ∀ I2, eqx [155] I I2 → I2 155 = puF (I 155) (I 144) p 33 → Q I2 J) :
    ∀ (d k : Nat) (I2 : sw_I), k + d = 33 → eqx [155] I I2 → I2 155 = puF (I 155) (I 144) p k → wl_X10_putsBy_2 Q (d + 1) (nI k) I2 J := by
  intro d
  induction d with
  | zero =>
    intro k I2 hk h1 h2
    obtain rfl : k = 33 := by omega
    show wb_X10_putsBy_2 _ Q _ I2 J
    unfold wb_X10_putsBy_2
    rw [sw_if_f (show ¬ nI 33 < (33 : Int32) by decide)]
    exact h I2 h1 h2
  | succ d ih =>
    intro k I2 hk h1 h2
    show wb_X10_putsBy_2 _ Q _ I2 J
    unfold wb_X10_putsBy_2
    rw [sw_if_t (show nI k < (33 : Int32) from nI_lt (b := 33) (by omega) (by decide)), h1.at (by decide), hu, nI_33, nI_clamp (by omega), nI_clamp (by omega)]
    refine ⟨vp0 (by omega) (by decide), vp0 (by omega) (by decide), fun I3 e3 y hy => ?_⟩
    rw [hy, nI_1]
    refine ih (k + 1) I3 (by omega) (by rw [e3]; exact h1.up (by decide) _ _) ?_
    rw [e3, sw_up_rowf, h1.at (by decide), h2]
    funext j
    unfold puF
    by_cases c : j = 33 * p + k
    · rw [if_pos c, if_pos (by omega), c, Nat.add_sub_cancel_left]
    · rw [if_neg c]
      by_cases c2 : 33 * p ≤ j ∧ j < 33 * p + k
      · rw [if_pos c2, if_pos (by omega)]
      · rw [if_neg c2, if_neg (by omega)]
theorem s_X10_putsBy {p : Nat} (hp : p ≤ 20) {I : sw_I} {J : sw_J} {Q : sw_I → sw_J → Prop} (hu : I 140 32 = nI p) (h : ∀ I2, eqx [155] I I2 → I2 155 = puF (I 155) (I 144) p 33 → Q I2 J) : wp_X10_putsBy I J Q :=
  ⟨34, s_putsBy_loop hp hu h 33 0 I (by omega) eqx.rf (by funext j; unfold puF; rw [if_neg (by omega)])⟩
def shF (u : Nat → Int32) (k : Nat) : Nat → Int32 := fun j => if j < k then u (j + 33) else u j
theorem s_adds_loop {I : sw_I} {J : sw_J} {Q : sw_I → sw_J → Prop} (h : ∀ I2, eqx [155] I I2 → I2 155 = shF (I 155) 660 → Q (sw_up I2 140 32 (I 140 32 - 1)) J) :
    ∀ (d k : Nat) (I2 : sw_I), k + d = 660 → eqx [155] I I2 → I2 155 = shF (I 155) k → wl_X10_adds_21 Q (d + 1) (nI k) I2 J := by
  intro d
  induction d with
  | zero =>
    intro k I2 hk h1 h2
    obtain rfl : k = 660 := by omega
    show wb_X10_adds_21 _ Q _ I2 J
    unfold wb_X10_adds_21
    rw [sw_if_f (show ¬ nI 660 < (660 : Int32) by decide)]
    intro I3 e3
    rw [e3, h1.at (by decide)]
    exact h I2 h1 h2
  | succ d ih =>
    intro k I2 hk h1 h2
    show wb_X10_adds_21 _ Q _ I2 J
    unfold wb_X10_adds_21
    rw [sw_if_t (show nI k < (660 : Int32) from nI_lt (b := 660) (by omega) (by decide)), show nI k + (33 : Int32) = nI (k + 33) from nI_add k 33, nI_clamp (by omega), nI_clamp (by omega)]
    refine ⟨vp0 (by omega) (by decide), vp0 (by omega) (by decide), fun I3 e3 y hy => ?_⟩
    rw [hy, nI_1]
    refine ih (k + 1) I3 (by omega) (by rw [e3]; exact h1.up (by decide) _ _) ?_
    rw [e3, sw_up_rowf, h2]
    funext j
    unfold shF
    by_cases c : j = k
    · rw [if_pos c, if_neg (by omega), if_pos (by omega), c]
    · rw [if_neg c]
      by_cases c2 : j < k
      · rw [if_pos c2, if_pos (by omega)]
      · rw [if_neg c2, if_neg (by omega)]
/-- the rows behind adds -/
def adF (u : Nat → Int32) (p : Nat) : Nat → Int32 := if p = 20 then shF u 660 else u
def adN (p : Nat) : Nat := if p = 20 then 20 else p + 1
theorem s_X10_adds {p : Nat} (hp : p ≤ 20) {I : sw_I} {J : sw_J} {Q : sw_I → sw_J → Prop} (hu : I 140 32 = nI p) (h : ∀ I2, eqm [155] [32] I I2 → I2 155 = adF (I 155) p → I2 140 32 = nI (adN p) → Q I2 J) : wp_X10_adds I J Q := by
  intro I1 e1
  have e1u : I1 140 32 = nI (p + 1) := by rw [e1, sw_up_same, hu]; exact nI_1 p
  have e1m : eqm [155] [32] I I1 := by rw [e1]; exact eqm.rf.upF (by decide) _
  have e1r : I1 155 = I 155 := by rw [e1]; exact sw_up_row _ _ _ (by decide)
  rw [e1u]
  by_cases c : p = 20
  · rw [sw_if_t (show (20 : Int32) < nI (p + 1) by rw [c]; decide)]
    refine ⟨661, s_adds_loop (I := I1) (fun I2 h1 h2 => ?_) 660 0 I1 (by omega) eqx.rf (by funext j; unfold shF; rw [if_neg (by omega)])⟩
    refine h _ (e1m.tr ((h1.eqm (fun _ q => q) (by decide)).upF (by decide) _)) ?_ ?_
    · rw [sw_up_row _ _ _ (by decide), h2, e1r]; unfold adF; rw [if_pos c]
    · rw [sw_up_same, e1u, nI_pred]; unfold adN; rw [if_pos c, c]
  · rw [sw_if_f (show ¬ (20 : Int32) < nI (p + 1) from nI_nlt (a := 20) (by omega) (by decide))]
    refine h I1 e1m ?_ ?_
    · rw [e1r]; unfold adF; rw [if_neg c]
    · rw [e1u]; unfold adN; rw [if_neg c]
def unF (row u : Nat → Int32) (p k : Nat) : Nat → Int32 := fun j => if j < k then u (33 * p + j) else row j
theorem s_undo_loop {p : Nat} (hp : p ≤ 20) {I : sw_I} {J : sw_J} {Q : Int32 → sw_I → sw_J → Prop} (hu : I 140 32 = nI p) (h : ∀ I2, eqx [144] I I2 → I2 144 = unF (I 144) (I 155) p 33 → Q (nI p) I2 J) :
    ∀ (d k : Nat) (I2 : sw_I), k + d = 33 → eqx [144] I I2 → I2 144 = unF (I 144) (I 155) p k → wl_X10_undo_26 Q (d + 1) (nI k) I2 J := by
  intro d
  induction d with
  | zero =>
    intro k I2 hk h1 h2
    obtain rfl : k = 33 := by omega
    show wb_X10_undo_26 _ Q _ I2 J
    unfold wb_X10_undo_26
    rw [sw_if_f (show ¬ nI 33 < (33 : Int32) by decide), h1.at (by decide), hu]
    exact h I2 h1 h2
  | succ d ih =>
    intro k I2 hk h1 h2
    show wb_X10_undo_26 _ Q _ I2 J
    unfold wb_X10_undo_26
    rw [sw_if_t (show nI k < (33 : Int32) from nI_lt (b := 33) (by omega) (by decide)), h1.at (by decide) 32, hu, nI_33, nI_clamp (by omega), nI_clamp (by omega)]
    refine ⟨vp0 (by omega) (by decide), vp0 (by omega) (by decide), fun I3 e3 y hy => ?_⟩
    rw [hy, nI_1]
    refine ih (k + 1) I3 (by omega) (by rw [e3]; exact h1.up (by decide) _ _) ?_
    rw [e3, sw_up_rowf, h1.at (by decide), h2]
    funext j
    unfold unF
    by_cases c : j = k
    · rw [if_pos c, if_pos (by omega), c]
    · rw [if_neg c]
      by_cases c2 : j < k
      · rw [if_pos c2, if_pos (by omega)]
      · rw [if_neg c2, if_neg (by omega)]
theorem s_X10_undo {p : Nat} (hp : p ≤ 20) {I : sw_I} {J : sw_J} {Q : Int32 → sw_I → sw_J → Prop} (hu : I 140 32 = nI p) (h0 : p = 0 → Q (-1) (sw_up I 140 0 0) J) (h : 0 < p → ∀ I2, eqm [144] [0, 32] I I2 → I2 144 = unF (I 144) (I 155) (p - 1) 33 → I2 140 0 = 0 → I2 140 32 = nI (p - 1) → Q (nI (p - 1)) I2 J) : wp_X10_undo I J Q := by
  intro I1 e1
  have e1u : I1 140 32 = nI p := by rw [e1, sw_up_slot _ _ _ _ (by decide), hu]
  rw [e1u]
  rcases Nat.eq_zero_or_pos p with c | c
  · rw [sw_if_t (by rw [c]; rfl), e1]; exact h0 c
  · rw [sw_if_f (nI_ne0 c (by omega))]
    intro I4 e4
    rw [nI_sub1 c] at e4
    have r4 : ∀ a, a ≠ 140 → I4 a = I a := fun a ha => by rw [e4, sw_up_row _ _ _ ha, e1, sw_up_row _ _ _ ha]
    have m4 : eqm [144] [0, 32] I I4 := by rw [e4, e1]; exact (eqm.rf.upF (by decide) _).upF (by decide) _
    have t4 : I4 140 0 = 0 := by rw [e4, sw_up_slot _ _ _ _ (by decide), e1, sw_up_same]
    have u4 : I4 140 32 = nI (p - 1) := by rw [e4, sw_up_same]
    refine ⟨34, s_undo_loop (p := p - 1) (by omega) u4 (fun I2 h1 h2 => ?_) 33 0 I4 (by omega) eqx.rf (by funext j; unfold unF; rw [if_neg (by omega)])⟩
    refine h c I2 (m4.tr (h1.eqm (fun _ q => q) (by decide))) ?_ ?_ ?_
    · rw [h2, r4 _ (by decide), r4 _ (by decide)]
    · rw [h1.at (by decide), t4]
    · rw [h1.at (by decide), u4]
