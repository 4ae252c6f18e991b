/-! copies of a Moment; who stands there -/
theorem mom_dis : ∀ a, a ∈ momL → ∀ b, b ∈ momL → a ≠ b → a + 4 ≤ b ∨ b + 4 ≤ a := by decide +kernel
/-- the world behind a copy of the Moment b into a -/
def copyOK (a b : Nat) (I I2 : sw_I) : Prop :=
  (∀ c, (c < a ∨ a + 4 ≤ c) → I2 c = I c) ∧ (∀ i, i < 10 → I2 (a + 1) i = I (b + 1) i ∧ I2 (a + 2) i = I (b + 2) i ∧ I2 (a + 3) i = I (b + 3) i) ∧ I2 a 3 = I b 3 ∧ I2 a 4 = I b 4 ∧ I2 a 5 = I b 5
theorem sw_cp_row {I : sw_I} {x b sp dp n c : Nat} (h : c ≠ b) : sw_cp I x b sp dp n c = I c := by funext j; simp [sw_cp, h]
theorem sw_cp_at {I : sw_I} {x b n j : Nat} (h : j < n) : sw_cp I x b 0 0 n b j = I x j := by simp [sw_cp, va_cpy, h]
theorem s_X3_copy {a b : Nat} (hab : a + 4 ≤ b ∨ b + 4 ≤ a) {I : sw_I} {J : sw_J} {Q : sw_I → sw_J → Prop} (h : ∀ I2, copyOK a b I I2 → Q I2 J) : wp_X3_copy a b I J Q := by
  intro I2 e2 I5 e5 I8 e8 I10 e10 I12 e12 I14 e14
  have t0 : (0 : Int32).toNatClampNeg = 0 := rfl
  have t10 : (10 : Int32).toNatClampNeg = 10 := rfl
  rw [t0, t10] at e2 e5 e8
  have r2 : ∀ c, c ≠ a + 1 → I2 c = I c := fun c hc => by rw [e2]; exact sw_cp_row hc
  have r5 : ∀ c, c ≠ a + 2 → I5 c = I2 c := fun c hc => by rw [e5]; exact sw_cp_row hc
  have r8 : ∀ c, c ≠ a + 3 → I8 c = I5 c := fun c hc => by rw [e8]; exact sw_cp_row hc
  have r10 : ∀ c, c ≠ a → I10 c = I8 c := fun c hc => by rw [e10]; exact sw_up_row _ _ _ hc
  have r12 : ∀ c, c ≠ a → I12 c = I10 c := fun c hc => by rw [e12]; exact sw_up_row _ _ _ hc
  have r14 : ∀ c, c ≠ a → I14 c = I12 c := fun c hc => by rw [e14]; exact sw_up_row _ _ _ hc
  have rb : I8 b = I b := by rw [r8 b (by omega), r5 b (by omega), r2 b (by omega)]
  have ra : ∀ c, c ≠ a → I14 c = I8 c := fun c hc => by rw [r14 c hc, r12 c hc, r10 c hc]
  refine h I14 ⟨fun c hc => ?_, fun i hi => ⟨?_, ?_, ?_⟩, ?_, ?_, ?_⟩
  · rw [ra c (by omega), r8 c (by omega), r5 c (by omega), r2 c (by omega)]
  · rw [ra _ (by omega), r8 _ (by omega), r5 _ (by omega), e2]; exact sw_cp_at hi
  · rw [ra _ (by omega), r8 _ (by omega), e5, sw_cp_at hi, r2 _ (by omega)]
  · rw [ra _ (by omega), e8, sw_cp_at hi, r5 _ (by omega), r2 _ (by omega)]
  · rw [e14, sw_up_slot _ _ _ _ (by decide), e12, sw_up_slot _ _ _ _ (by decide), e10, sw_up_same, rb]
  · rw [e14, sw_up_slot _ _ _ _ (by decide), e12, sw_up_same, r10 b (by omega), rb]
  · rw [e14, sw_up_same, r12 b (by omega), r10 b (by omega), rb]
/-- who stands there -/
def sdB (pl : Nat → Int32) (ins lift : Int32) (k : Nat) : Bool := decide (pl k = lift) && !inB ins k
theorem s_X3_stands_any {a : Nat} {x : Int32} {I : sw_I} {J : sw_J} {Q : Int32 → sw_I → sw_J → Prop} (h0 : (x < 0 ∨ nI 10 ≤ x) → Q 0 I J) (h1 : ∀ k, k < 10 → x = nI k → Q (if sdB (I (a + 1)) (I a 3) (I a 4) k then 1 else 0) I J) : wp_X3_stands a x I J Q := by
  unfold wp_X3_stands
  rcases pk_ix x (n := 10) (by decide) with hx | hx | ⟨j, hj, hx⟩
  · rw [sw_if_t hx]; exact h0 (Or.inl hx)
  · have h2 : ¬ x < 0 := fun q => by
      have := Int32.lt_of_lt_of_le q (Int32.le_trans (nI_pos' (n := 10) (by decide)) hx)
      exact Int32.lt_irrefl this
    rw [sw_if_f h2, sw_if_f (show ¬ x < (10 : Int32) from Int32.not_lt.mpr hx)]; exact h0 (Or.inr hx)
  · subst hx
    have q := h1 j hj rfl
    rw [sw_if_f (nI_pos (by omega)), sw_if_t (show nI j < (10 : Int32) from nI_lt (b := 10) hj (by decide)), nI_clamp (by omega)]
    refine ⟨vp0 hj (by decide), fun c => ?_, fun c => ?_⟩
    · refine s_X3_isIn hj ?_
      cases hb : inB (I a 3) j
      · simp only [sdB, c, hb] at q
        rw [sw_if_t (by simp)]
        simpa using q
      · simp only [sdB, c, hb] at q
        rw [sw_if_f (by simp)]
        simpa using q
    · simp only [sdB, c] at q
      simpa using q
/-! the reference: who is there, who is at home, a bit -/
theorem s_there_loop {b n N : Nat} (hn : n ≤ 10) (hN : 32 ≤ N) (hN2 : N < 2 ^ 31) {I : sw_I} {J : sw_J} {Q : Int32 → sw_I → sw_J → Prop} (hr : I 140 4 = nI n) (h : Q (bs (fun i => decide (I b i = I b 31)) n) I J) :
    ∀ (d k : Nat), k + d = n → wl_X10_there_4 b N Q (d + 1) (bs (fun i => decide (I b i = I b 31)) k) (nI k) I J := by
  intro d
  induction d with
  | zero =>
    intro k hk
    obtain rfl : k = n := by omega
    show wb_X10_there_4 _ _ _ Q _ _ I J
    unfold wb_X10_there_4
    rw [sw_if_f (by rw [hr]; exact nI_nlt (Nat.le_refl _) (by omega))]
    exact h
  | succ d ih =>
    intro k hk
    show wb_X10_there_4 _ _ _ Q _ _ I J
    unfold wb_X10_there_4
    rw [sw_if_t (by rw [hr]; exact nI_lt (by omega) (by omega)), nI_clamp (by omega)]
    have nxt : ∀ t, bs (fun i => decide (I b i = I b 31)) k ||| t = bs (fun i => decide (I b i = I b 31)) (k + 1) → wB_X10_there_30 b N (wl_X10_there_4 b N Q (d + 1)) Q (nI k) (bs (fun i => decide (I b i = I b 31)) k) t I J := by
      intro t ht y hy y2 hy2
      rw [hy2, nI_1, hy, ht]
      exact ih (k + 1) (by omega)
    refine ⟨vp0 (by omega) hN2, vp0 (i := 31) (by omega) hN2, fun c => nxt _ ?_, fun c => nxt _ ?_⟩
    · have c' : I b k = I b 31 := c
      show _ = bs _ k ||| _; simp [c']
    · have c' : ¬ I b k = I b 31 := c
      show _ = bs _ k ||| _; simp [c']
theorem s_X10_there {b n N : Nat} (hn : n ≤ 10) (hN : 32 ≤ N) (hN2 : N < 2 ^ 31) {I : sw_I} {J : sw_J} {Q : Int32 → sw_I → sw_J → Prop} (hr : I 140 4 = nI n) (h : Q (bs (fun i => decide (I b i = I b 31)) n) I J) : wp_X10_there b N I J Q :=
  ⟨n + 1, s_there_loop hn hN hN2 hr h n 0 (by omega)⟩
theorem s_homeBits_loop {b n N : Nat} (hn : n ≤ 10) (hN : 10 ≤ N) (hN2 : N < 2 ^ 31) {I : sw_I} {J : sw_J} {Q : Int32 → sw_I → sw_J → Prop} (hr : I 140 4 = nI n) (h : Q (bs (fun i => decide (I b i = 9)) n) I J) :
    ∀ (d k : Nat), k + d = n → wl_X10_homeBits_4 b N Q (d + 1) (bs (fun i => decide (I b i = 9)) k) (nI k) I J := by
  intro d
  induction d with
  | zero =>
    intro k hk
    obtain rfl : k = n := by omega
    show wb_X10_homeBits_4 _ _ _ Q _ _ I J
    unfold wb_X10_homeBits_4
    rw [sw_if_f (by rw [hr]; exact nI_nlt (Nat.le_refl _) (by omega))]
    exact h
  | succ d ih =>
    intro k hk
    show wb_X10_homeBits_4 _ _ _ Q _ _ I J
    unfold wb_X10_homeBits_4
    rw [sw_if_t (by rw [hr]; exact nI_lt (by omega) (by omega)), nI_clamp (by omega)]
    have nxt : ∀ t, bs (fun i => decide (I b i = 9)) k ||| t = bs (fun i => decide (I b i = 9)) (k + 1) → wB_X10_homeBits_28 b N (wl_X10_homeBits_4 b N Q (d + 1)) Q (nI k) (bs (fun i => decide (I b i = 9)) k) t I J := by
      intro t ht y hy y2 hy2
      rw [hy2, nI_1, hy, ht]
      exact ih (k + 1) (by omega)
    refine ⟨vp0 (by omega) hN2, fun c => nxt _ ?_, fun c => nxt _ ?_⟩
    · show _ = bs _ k ||| _; simp [c]
    · show _ = bs _ k ||| _; simp [c]
theorem s_X10_homeBits {b n N : Nat} (hn : n ≤ 10) (hN : 10 ≤ N) (hN2 : N < 2 ^ 31) {I : sw_I} {J : sw_J} {Q : Int32 → sw_I → sw_J → Prop} (hr : I 140 4 = nI n) (h : Q (bs (fun i => decide (I b i = 9)) n) I J) : wp_X10_homeBits b N I J Q :=
  ⟨n + 1, s_homeBits_loop hn hN hN2 hr h n 0 (by omega)⟩
theorem wl_lt (a b : Int32) : a.toInt64 < b.toInt64 ↔ a < b := by rw [Int64.lt_iff_toInt_lt, Int32.toInt_toInt64, Int32.toInt_toInt64, Int32.lt_iff_toInt_lt]
theorem s_X10_in {x a b : Int32} {a2 b2 : Int64} (ha : a2 = a.toInt64) (hb : b2 = b.toInt64) {I : sw_I} {J : sw_J} {Q : Int32 → sw_I → sw_J → Prop} (h0 : (x < a ∨ b < x) → Q 0 I J) (h1 : ¬ x < a → ¬ b < x → Q 1 I J) : wp_X10_in x.toInt64 a2 b2 I J Q := by
  unfold wp_X10_in
  rw [ha, hb]
  refine ⟨fun c => h0 (Or.inl ((wl_lt _ _).mp ((lg_cmp_lt _ _).mp c))), fun c => ⟨fun c2 => h0 (Or.inr ((wl_lt _ _).mp ((lg_cmp_gt _ _).mp c2))), fun c2 => h1 (fun q => c ((lg_cmp_lt _ _).mpr ((wl_lt _ _).mpr q))) (fun q => c2 ((lg_cmp_gt _ _).mpr ((wl_lt _ _).mpr q)))⟩⟩
theorem nIp_toInt {n : Nat} (hn : n < 2 ^ 31) : (nI n - 1).toInt = (n : Int) - 1 := by
  cases n with
  | zero => decide
  | succ m => rw [nI_pred, nI_toInt (by omega)]; omega
theorem nIp_lt {n : Nat} {x : Int32} (hn : n < 2 ^ 31) : nI n - 1 < x ↔ nI n ≤ x := by
  rw [Int32.lt_iff_toInt_lt, Int32.le_iff_toInt_le, nIp_toInt hn, nI_toInt hn]; omega
/-- a number that is one of the first n, or none -/
theorem ixN {n : Nat} (hn : n < 2 ^ 31) {x : Int32} (c1 : ¬ x < 0) (c2 : ¬ nI n ≤ x) : ∃ k, k < n ∧ x = nI k := by
  rcases pk_ix x hn with c | c | c
  · exact absurd c c1
  · exact absurd c c2
  · exact c
theorem s_X10_isRider {n : Nat} (hn : n ≤ 10) {x : Int32} {I : sw_I} {J : sw_J} {Q : Int32 → sw_I → sw_J → Prop} (hr : I 140 4 = nI n) (h0 : (x < 0 ∨ nI n ≤ x) → Q 0 I J) (h1 : ∀ k, k < n → x = nI k → Q 1 I J) : wp_X10_isRider x I J Q := by
  unfold wp_X10_isRider
  refine s_X10_in (a := 0) rfl rfl (fun c => ⟨Or.inl rfl, h0 ?_⟩) (fun c1 c2 => ⟨Or.inr rfl, ?_⟩)
  · rw [hr, nIp_lt (by omega)] at c; exact c
  · rw [hr, nIp_lt (by omega)] at c2
    obtain ⟨k, hk, e⟩ := ixN (by omega) c1 c2
    exact h1 k hk e
theorem s_X10_isFloor {n : Nat} (hn : n ≤ 10) {x : Int32} {I : sw_I} {J : sw_J} {Q : Int32 → sw_I → sw_J → Prop} (hr : I 140 3 = nI n) (h0 : (x < 0 ∨ nI n ≤ x) → Q 0 I J) (h1 : ∀ k, k < n → x = nI k → Q 1 I J) : wp_X10_isFloor x I J Q := by
  unfold wp_X10_isFloor
  refine s_X10_in (a := 0) rfl rfl (fun c => ⟨Or.inl rfl, h0 ?_⟩) (fun c1 c2 => ⟨Or.inr rfl, ?_⟩)
  · rw [hr, nIp_lt (by omega)] at c; exact c
  · rw [hr, nIp_lt (by omega)] at c2
    obtain ⟨k, hk, e⟩ := ixN (by omega) c1 c2
    exact h1 k hk e
