/-! what a law can ask: counts of wishes and of those who stand -/
theorem s_fill_loop {b n : Nat} (hn : n < 2 ^ 31) {v : Int32} {I : sw_I} {J : sw_J} {Q : sw_I → sw_J → Prop} (h : ∀ I2, eqx [b] I I2 → (∀ j, j < n → I2 b j = v) → Q I2 J) :
    ∀ (d k : Nat) (I2 : sw_I), k + d = n → eqx [b] I I2 → (∀ j, j < k → I2 b j = v) → wl_J7_fill_53178_5 b n Q (d + 1) v (nI k) (nI n) I2 J := by
  intro d
  induction d with
  | zero =>
    intro k I2 hk he hv
    obtain rfl : k = n := by omega
    show wb_J7_fill_53178_5 b k _ Q _ _ _ I2 J
    unfold wb_J7_fill_53178_5
    rw [sw_if_f (nI_nlt (Nat.le_refl _) hn)]
    exact h I2 he hv
  | succ d ih =>
    intro k I2 hk he hv
    show wb_J7_fill_53178_5 b n _ Q _ _ _ I2 J
    unfold wb_J7_fill_53178_5
    rw [sw_if_t (nI_lt (by omega) hn), nI_clamp (by omega)]
    refine ⟨vp0 (by omega) hn, fun I3 h3 y hy => ?_⟩
    rw [hy, nI_1]
    refine ih (k + 1) I3 (by omega) (by rw [h3]; exact he.up (by simp) _ _) (fun j hj => ?_)
    rw [h3]
    by_cases e : j = k
    · subst e; rw [sw_up_same]
    · rw [sw_up_slot _ _ _ _ e]; exact hv j (by omega)
theorem s_J7_fill {b n : Nat} (hn : n < 2 ^ 31) {v : Int32} {I : sw_I} {J : sw_J} {Q : sw_I → sw_J → Prop} (h : ∀ I2, eqx [b] I I2 → (∀ j, j < n → I2 b j = v) → Q I2 J) : wp_J7_fill_53178 b n v I J Q := by
  intro y hy
  subst hy
  exact ⟨n + 1, s_fill_loop hn h n 0 I (by omega) eqx.rf (fun j hj => absurd hj (Nat.not_lt_zero j))⟩
/-- how many bits, as the JDK reckons it -/
def bcF (x0 : Int32) : Int32 :=
  let y1 := x0 - (((x0.toUInt32 >>> ((1 : Int32).toUInt32 &&& Int32.toUInt32 31)).toInt32) &&& (1431655765 : Int32))
  let y3 := (y1 &&& (858993459 : Int32)) + (((y1.toUInt32 >>> ((2 : Int32).toUInt32 &&& Int32.toUInt32 31)).toInt32) &&& (858993459 : Int32))
  let y5 := (y3 + ((y3.toUInt32 >>> ((4 : Int32).toUInt32 &&& Int32.toUInt32 31)).toInt32)) &&& (252645135 : Int32)
  let y7 := y5 + ((y5.toUInt32 >>> ((8 : Int32).toUInt32 &&& Int32.toUInt32 31)).toInt32)
  let y9 := y7 + ((y7.toUInt32 >>> ((16 : Int32).toUInt32 &&& Int32.toUInt32 31)).toInt32)
  y9 &&& (63 : Int32)
theorem s_J6_bitCount {x : Int32} {I : sw_I} {J : sw_J} {Q : Int32 → sw_I → sw_J → Prop} (h : Q (bcF x) I J) : wp_J6_bitCount_0f7a4 x I J Q := by
  intro y1 h1 y3 h3 y5 h5 y7 h7 y9 h9
  subst h1; subst h3; subst h5; subst h7; subst h9
  exact h
def ct (p : Nat → Bool) : Nat → Int32
  | 0 => 0
  | k + 1 => ct p k + (if p k then 1 else 0)
def inB (s : Int32) (i : Nat) : Bool := decide (¬ ((s >>> (nI i &&& 31)) &&& 1) = 0)
theorem s_X1_addAt {b : Nat} {x : Int32} {I : sw_I} {J : sw_J} {Q : sw_I → sw_J → Prop} (h : ∀ I2, eqx [b] I I2 → (∀ f, f < 9 → I2 b f = I b f + (if x = nI f then 1 else 0)) → Q I2 J) : wp_X1_addAt b 9 x I J Q := by
  unfold wp_X1_addAt
  have hno : ∀ f, f < 9 → (x < 0 ∨ nI 9 ≤ x) → ¬ x = nI f := by
    intro f hf hx e
    subst e
    rcases hx with hx | hx
    · exact nI_pos (by omega) hx
    · exact nI_ge hf (by decide) hx
  rcases pk_ix x (n := 9) (by decide) with hx | hx | ⟨j, hj, hx⟩
  · rw [sw_if_t hx]
    exact h I eqx.rf (fun f hf => by rw [if_neg (hno f hf (Or.inl hx))]; simp)
  · have h1 : ¬ x < 0 := fun q => by
      have := Int32.lt_of_lt_of_le q (Int32.le_trans (nI_pos' (n := 9) (by decide)) hx)
      exact Int32.lt_irrefl this
    rw [sw_if_f h1, sw_if_f (show ¬ x < Int32.ofNat 9 from Int32.not_lt.mpr hx)]
    exact h I eqx.rf (fun f hf => by rw [if_neg (hno f hf (Or.inr hx))]; simp)
  · subst hx
    rw [sw_if_f (nI_pos (by omega)), sw_if_t (show nI j < Int32.ofNat 9 from nI_lt hj (by decide)), nI_clamp (by omega)]
    refine ⟨vp0 hj (by decide), vp0 hj (by decide), fun I2 h2 => ?_⟩
    refine h I2 (by rw [h2]; exact eqx.rf.up (by simp) _ _) (fun f hf => ?_)
    rw [h2]
    by_cases e : f = j
    · subst e; rw [sw_up_same, if_pos rfl]
    · rw [sw_up_slot _ _ _ _ e, if_neg (fun q => e ((nI_eq (by omega) (by omega)).mp q.symm))]; simp
/-- the scene, as it is to be -/
def scOK (a : Nat) (s : Int32) (n : Nat) (I I2 : sw_I) : Prop := I2 10 2 = bcF s ∧ I2 10 3 = I a 4 ∧ I2 10 4 = I a 5 ∧ (∀ f, f < 9 → I2 11 f = ct (fun i => inB s i && decide (I (a + 2) i = nI f)) n) ∧ ∀ f, f < 9 → I2 12 f = ct (fun i => !inB s i && decide (I (a + 1) i = nI f)) n
abbrev scC : List Nat := [10, 11, 12]
theorem s_look_loop {a n : Nat} (hn : n ≤ 10) (h1 : a ∉ scC) (h2 : a + 1 ∉ scC) (h3 : a + 2 ∉ scC) {s : Int32} {I : sw_I} {J : sw_J} {Q : sw_I → sw_J → Prop} (hr : I 3 2 = nI n) (h : ∀ I2, eqx scC I I2 → scOK a s n I I2 → Q I2 J) :
    ∀ (d k : Nat) (I2 : sw_I), k + d = n → eqx scC I I2 → scOK a s k I I2 → wl_X1_look_57 a Q (d + 1) s (nI k) I2 J := by
  intro d
  induction d with
  | zero =>
    intro k I2 hk he hv
    obtain rfl : k = n := by omega
    show wb_X1_look_57 a _ Q _ _ I2 J
    unfold wb_X1_look_57
    rw [sw_if_f (by rw [he.at (by decide), hr]; exact nI_nlt (Nat.le_refl _) (by omega))]
    exact h I2 he hv
  | succ d ih =>
    intro k I2 hk he hv
    show wb_X1_look_57 a _ Q _ _ I2 J
    unfold wb_X1_look_57
    rw [sw_if_t (by rw [he.at (by decide), hr]; exact nI_lt (by omega) (by omega)), nI_clamp (by omega), he.at h2, he.at h3]
    obtain ⟨v1, v2, v3, v4, v5⟩ := hv
    have nxt : ∀ I3, eqx scC I I3 → scOK a s (k + 1) I I3 → wB_X1_look_108 a (wl_X1_look_57 a Q (d + 1)) Q s (nI k) I3 J := by
      intro I3 e3 o3 y hy
      rw [hy, nI_1]
      exact ih (k + 1) I3 (by omega) e3 o3
    by_cases c : ((s >>> (nI k &&& 31)) &&& (1 : Int32)) = 0
    · rw [sw_if_t c]
      have cb : inB s k = false := by unfold inB; simp [c]
      refine ⟨vp0 (by omega) (by decide), s_X1_addAt (fun I3 e3 o3 => nxt I3 (he.tr (e3.mono (by decide))) ⟨?_, ?_, ?_, ?_, ?_⟩)⟩
      · rw [e3.at (by decide)]; exact v1
      · rw [e3.at (by decide)]; exact v2
      · rw [e3.at (by decide)]; exact v3
      · intro f hf; rw [e3.at (by decide), v4 f hf]; show _ = ct _ k + _; simp [cb]
      · intro f hf; rw [o3 f hf, v5 f hf]; show _ = ct _ k + _; simp [cb]
    · rw [sw_if_f c]
      have cb : inB s k = true := by unfold inB; simp [c]
      refine ⟨vp0 (by omega) (by decide), s_X1_addAt (fun I3 e3 o3 => nxt I3 (he.tr (e3.mono (by decide))) ⟨?_, ?_, ?_, ?_, ?_⟩)⟩
      · rw [e3.at (by decide)]; exact v1
      · rw [e3.at (by decide)]; exact v2
      · rw [e3.at (by decide)]; exact v3
      · intro f hf; rw [o3 f hf, v4 f hf]; show _ = ct _ k + _; simp [cb]
      · intro f hf; rw [e3.at (by decide), v5 f hf]; show _ = ct _ k + _; simp [cb]
theorem s_X1_look {a n : Nat} (hn : n ≤ 10) (h1 : a ∉ scC) (h2 : a + 1 ∉ scC) (h3 : a + 2 ∉ scC) {s : Int32} {I : sw_I} {J : sw_J} {Q : sw_I → sw_J → Prop} (hr : I 3 2 = nI n) (h : ∀ I2, eqx scC I I2 → scOK a s n I I2 → Q I2 J) : wp_X1_look a s I J Q := by
  refine s_J7_fill (by decide) (fun I2 e2 z2 => ?_)
  refine s_J7_fill (by decide) (fun I3 e3 z3 => ?_)
  refine s_J6_bitCount ?_
  intro I4 h4 I5 h5 I6 h6
  have q2 : eqx scC I I2 := e2.mono (by decide)
  have q3 : eqx scC I I3 := q2.tr (e3.mono (by decide))
  have q4 : eqx scC I I4 := by rw [h4]; exact q3.up (by decide) _ _
  have q5 : eqx scC I I5 := by rw [h5]; exact q4.up (by decide) _ _
  have q6 : eqx scC I I6 := by rw [h6]; exact q5.up (by decide) _ _
  refine ⟨n + 1, s_look_loop hn h1 h2 h3 hr h n 0 I6 (by omega) q6 ⟨?_, ?_, ?_, ?_, ?_⟩⟩
  · rw [h6, sw_up_slot _ _ _ _ (by decide), h5, sw_up_slot _ _ _ _ (by decide), h4, sw_up_same]
  · rw [h6, sw_up_slot _ _ _ _ (by decide), h5, sw_up_same, q4.at h1]
  · rw [h6, sw_up_same, q5.at h1]
  · intro f hf
    rw [h6, sw_up_cell _ _ _ _ (by decide), h5, sw_up_cell _ _ _ _ (by decide), h4, sw_up_cell _ _ _ _ (by decide), e3.at (by decide), z2 f hf]; rfl
  · intro f hf
    rw [h6, sw_up_cell _ _ _ _ (by decide), h5, sw_up_cell _ _ _ _ (by decide), h4, sw_up_cell _ _ _ _ (by decide), z3 f hf]; rfl
