/-! sets of riders: all those within M, in rising order -/
theorem lnd2 (a b : Nat) : (a &&& b) / 2 = (a / 2) &&& (b / 2) := Nat.and_div_two
theorem lnm2 (a b : Nat) : (a &&& b) % 2 = (a % 2) * (b % 2) := by
  rcases Nat.mod_two_eq_zero_or_one a with h1 | h1 <;> rcases Nat.mod_two_eq_zero_or_one b with h2 | h2 <;> rw [h1, h2]
  · have := Nat.and_mod_two_eq_one (a := a) (b := b); omega
  · have := Nat.and_mod_two_eq_one (a := a) (b := b); omega
  · have := Nat.and_mod_two_eq_one (a := a) (b := b); omega
  · have := Nat.and_mod_two_eq_one (a := a) (b := b); omega
theorem lnd (a b : Nat) : a &&& b = 2 * ((a / 2) &&& (b / 2)) + (a % 2) * (b % 2) := by
  have h1 := lnd2 a b
  have h2 := lnm2 a b
  omega
theorem sb_half {s M : Nat} (h : s &&& M = s) : (s / 2) &&& (M / 2) = s / 2 ∧ s % 2 ≤ M % 2 := by
  have h1 := lnd2 s M
  have h2 := lnm2 s M
  rw [h] at h1 h2
  refine ⟨h1.symm, ?_⟩
  rcases Nat.mod_two_eq_zero_or_one s with q | q <;> rcases Nat.mod_two_eq_zero_or_one M with q2 | q2 <;> rw [q, q2] at h2 ⊢ <;> omega
theorem sb_A : ∀ (b s M : Nat), s &&& M = s → M < 2 ^ b → (s + 2 ^ b - 1 - M) &&& M = s
  | 0, s, M, h, hM => by
    have : M = 0 := by simpa using hM
    subst this
    rw [Nat.and_zero] at h ⊢; exact h
  | b + 1, s, M, h, hM => by
    obtain ⟨h1, h2⟩ := sb_half h
    have ih := sb_A b (s / 2) (M / 2) h1 (by rw [Nat.pow_succ] at hM; omega)
    rw [lnd]
    rw [Nat.pow_succ] at hM ⊢
    have e : (s + 2 ^ b * 2 - 1 - M) / 2 = s / 2 + 2 ^ b - 1 - M / 2 := by omega
    rw [e, ih]
    rcases Nat.mod_two_eq_zero_or_one s with q | q <;> rcases Nat.mod_two_eq_zero_or_one M with q2 | q2 <;> rw [q, q2] at h2 <;> rw [q2]
    · omega
    · have : (s + 2 ^ b * 2 - 1 - M) % 2 = 0 := by omega
      rw [this]; omega
    · omega
    · have : (s + 2 ^ b * 2 - 1 - M) % 2 = 1 := by omega
      rw [this]; omega
theorem sb_le {s M : Nat} (h : s &&& M = s) : s ≤ M := by rw [← h]; exact Nat.and_le_right
/-- the next set within M -/
theorem sb_B : ∀ (b s M : Nat), s &&& M = s → s ≠ M → M < 2 ^ b → 1 ≤ ((s + 2 ^ b - M) &&& M) ∧ (((s + 2 ^ b - M) &&& M) - 1) &&& M = s
  | 0, s, M, h, hne, hM => by
    have : M = 0 := by simpa using hM
    subst this
    rw [Nat.and_zero] at h; exact absurd h.symm hne
  | b + 1, s, M, h, hne, hM => by
    obtain ⟨h1, h2⟩ := sb_half h
    have hb : M / 2 < 2 ^ b := by rw [Nat.pow_succ] at hM; omega
    have hle := sb_le h
    rw [Nat.pow_succ] at hM ⊢
    rcases Nat.mod_two_eq_zero_or_one s with q | q <;> rcases Nat.mod_two_eq_zero_or_one M with q2 | q2
    · obtain ⟨i1, i2⟩ := sb_B b (s / 2) (M / 2) h1 (by omega) hb
      have e : (s + 2 ^ b * 2 - M) / 2 = s / 2 + 2 ^ b - M / 2 := by omega
      have e2 : (s + 2 ^ b * 2 - M) &&& M = 2 * ((s / 2 + 2 ^ b - M / 2) &&& (M / 2)) := by rw [lnd, e, q2]; omega
      rw [e2]
      generalize ((s / 2 + 2 ^ b - M / 2) &&& (M / 2)) = t at i1 i2
      refine ⟨by omega, ?_⟩
      rw [lnd, show (2 * t - 1) / 2 = t - 1 by omega, i2, q2]; omega
    · have A := sb_A b (s / 2) (M / 2) h1 hb
      have e : (s + 2 ^ b * 2 - M) / 2 = s / 2 + 2 ^ b - 1 - M / 2 := by omega
      have e2 : (s + 2 ^ b * 2 - M) &&& M = s + 1 := by
        rw [lnd, e, A, q2]
        have : (s + 2 ^ b * 2 - M) % 2 = 1 := by omega
        rw [this]; omega
      rw [e2]
      exact ⟨by omega, h⟩
    · rw [q, q2] at h2; omega
    · obtain ⟨i1, i2⟩ := sb_B b (s / 2) (M / 2) h1 (by omega) hb
      have e : (s + 2 ^ b * 2 - M) / 2 = s / 2 + 2 ^ b - M / 2 := by omega
      have e2 : (s + 2 ^ b * 2 - M) &&& M = 2 * ((s / 2 + 2 ^ b - M / 2) &&& (M / 2)) := by
        rw [lnd, e]
        have : (s + 2 ^ b * 2 - M) % 2 = 0 := by omega
        rw [this]; omega
      rw [e2]
      generalize ((s / 2 + 2 ^ b - M / 2) &&& (M / 2)) = t at i1 i2
      refine ⟨by omega, ?_⟩
      have : (2 * t - 1) % 2 = 1 := by omega
      rw [lnd, show (2 * t - 1) / 2 = t - 1 by omega, i2, q2, this]; omega
/-- none lies between -/
theorem sb_C : ∀ (t j M : Nat), t &&& M = t → j &&& M = j → j < t → j ≤ (t - 1) &&& M := by
  intro t
  induction t using Nat.strongRecOn with
  | _ t ih =>
    intro j M ht hj hlt
    obtain ⟨t1, t2⟩ := sb_half ht
    obtain ⟨j1, j2⟩ := sb_half hj
    rcases Nat.mod_two_eq_zero_or_one t with q | q
    · have := ih (t / 2) (by omega) (j / 2) (M / 2) t1 j1 (by omega)
      rw [lnd, show (t - 1) / 2 = t / 2 - 1 by omega]
      have e : (t - 1) % 2 = 1 := by omega
      rw [e]; omega
    · rw [lnd, show (t - 1) / 2 = t / 2 by omega, t1]; omega
def sbB (M j : Nat) : Bool := j &&& M == j
theorem sbB_t {M j : Nat} : sbB M j = true ↔ j &&& M = j := by unfold sbB; simp
/-- of d numbers from j on those that are sets within M -/
def rmL (M : Nat) : Nat → Nat → List Nat
  | 0, _ => []
  | d + 1, j => if sbB M j then j :: rmL M d (j + 1) else rmL M d (j + 1)
theorem rmL_s (M d j : Nat) : rmL M (d + 1) j = if sbB M j then j :: rmL M d (j + 1) else rmL M d (j + 1) := rfl
theorem rmL_skip {M : Nat} : ∀ (e d j : Nat), (∀ i, j ≤ i → i < j + e → sbB M i = false) → rmL M (e + d) j = rmL M d (j + e)
  | 0, d, j, _ => by rw [Nat.zero_add]; rfl
  | e + 1, d, j, h => by
    rw [show e + 1 + d = (e + d) + 1 by omega]
    rw [rmL_s, h j (Nat.le_refl _) (by omega)]
    have := rmL_skip e d (j + 1) (fun i h1 h2 => h i (by omega) (by omega))
    rw [show j + (e + 1) = j + 1 + e by omega]
    simpa using this
theorem rmL_none {M : Nat} (d j : Nat) (h : ∀ i, j ≤ i → i < j + d → sbB M i = false) : rmL M d j = [] := by
  have := rmL_skip d 0 j h
  simpa [rmL] using this
/-- the numbers of the list, one from another as the class finds them -/
def chn (M : Int32) : List Nat → Int32 → Prop
  | [], _ => True
  | a :: L, s => s = nI a ∧ chn M L ((s - M) &&& M)
theorem nI_and (a b : Nat) : nI a &&& nI b = nI (a &&& b) := by
  apply Int32.toBitVec_inj.mp
  rw [Int32.toBitVec_and]
  show BitVec.ofNat 32 a &&& BitVec.ofNat 32 b = BitVec.ofNat 32 (a &&& b)
  apply BitVec.eq_of_getLsbD_eq
  intro i hi
  rw [BitVec.getLsbD_and, BitVec.getLsbD_ofNat, BitVec.getLsbD_ofNat, BitVec.getLsbD_ofNat, Nat.testBit_and, decide_eq_true hi]
  simp
theorem nx_eq {s M : Nat} (hM : M < 2 ^ 32) : (nI s - nI M) &&& nI M = nI ((s + 2 ^ 32 - M) &&& M) := by
  have e : nI (s + 2 ^ 32 - M) + nI M = nI s := by
    rw [nI_add, show s + 2 ^ 32 - M + M = s + 2 ^ 32 by omega, ← nI_add]
    have : nI (2 ^ 32) = 0 := by decide
    rw [this]; simp
  rw [← nI_and, ← e, Int32.add_sub_cancel]
theorem chn_of {M n : Nat} (hM : M < 2 ^ n) (hn : n ≤ 10) : ∀ (d s : Nat), s + d = 2 ^ n → s &&& M = s → chn (nI M) (rmL M d s) (nI s) := by
  have hp : 2 ^ n ≤ 2 ^ 10 := Nat.pow_le_pow_right (by decide) hn
  intro d
  induction d using Nat.strongRecOn with
  | _ d ih =>
    intro s hs hsub
    have hle := sb_le hsub
    obtain ⟨d', rfl⟩ : ∃ d', d = d' + 1 := ⟨d - 1, by omega⟩
    unfold rmL
    rw [sbB_t.mpr hsub]
    refine ⟨rfl, ?_⟩
    by_cases c : s = M
    · rw [rmL_none d' (s + 1) (fun i h1 h2 => by
        cases hb : sbB M i
        · rfl
        · have := sb_le (sbB_t.mp hb); omega)]
      trivial
    · rw [nx_eq (by omega)]
      obtain ⟨b1, b2⟩ := sb_B 32 s M hsub c (by omega)
      generalize ht : (s + 2 ^ 32 - M) &&& M = t at b1 b2
      have tM : t &&& M = t := by rw [← ht, Nat.and_assoc, Nat.and_self]
      have htM := sb_le tM
      have hst : s < t := by
        have : (t - 1) &&& M ≤ t - 1 := Nat.and_le_left
        omega
      obtain ⟨e, he⟩ : ∃ e, t = s + 1 + e := ⟨t - (s + 1), by omega⟩
      rw [show d' = e + (d' - e) by omega, rmL_skip e (d' - e) (s + 1) (fun i h1 h2 => by
        cases hb : sbB M i
        · rfl
        · have := sb_C t i M tM (sbB_t.mp hb) (by omega)
          rw [b2] at this; omega), ← he]
      exact ih (d' - e) (by omega) t (by omega) tM
/-- how many bits below n -/
def pcN (M : Nat) : Nat → Nat
  | 0 => 0
  | n + 1 => pcN M n + (if M.testBit n then 1 else 0)
theorem pcN_s (M n : Nat) : pcN M (n + 1) = pcN M n + (if M.testBit n then 1 else 0) := rfl
theorem pcN_le (M : Nat) : ∀ n, pcN M n ≤ n
  | 0 => Nat.le_refl 0
  | n + 1 => by have := pcN_le M n; unfold pcN; split <;> omega
theorem rmL_app {M : Nat} : ∀ (d e j : Nat), rmL M (d + e) j = rmL M d j ++ rmL M e (j + d)
  | 0, e, j => by rw [Nat.zero_add]; rfl
  | d + 1, e, j => by
    rw [show d + 1 + e = (d + e) + 1 by omega, rmL_s, rmL_s, rmL_app d e (j + 1), show j + 1 + d = j + (d + 1) by omega]
    split <;> rfl
theorem sb_top {M n j : Nat} (hj : j < 2 ^ n) : sbB M (2 ^ n + j) = (M.testBit n && sbB M j) := by
  have key : ((2 ^ n + j) &&& M = 2 ^ n + j) ↔ (M.testBit n = true ∧ j &&& M = j) := by
    have tb : ∀ i, (2 ^ n + j).testBit i = if i = n then true else j.testBit i := by
      intro i
      rcases Nat.lt_trichotomy i n with h | h | h
      · rw [if_neg (by omega), Nat.testBit_two_pow_add_gt h]
      · rw [if_pos h, h, Nat.testBit_two_pow_add_eq, Nat.testBit_lt_two_pow hj]; rfl
      · rw [if_neg (by omega), Nat.testBit_lt_two_pow (Nat.lt_of_lt_of_le (show 2 ^ n + j < 2 ^ (n + 1) by rw [Nat.pow_succ]; omega) (Nat.pow_le_pow_right (by decide) h)), Nat.testBit_lt_two_pow (Nat.lt_of_lt_of_le hj (Nat.pow_le_pow_right (by decide) (by omega)))]
    constructor
    · intro h
      have hi : ∀ i, ((2 ^ n + j) &&& M).testBit i = (2 ^ n + j).testBit i := fun i => by rw [h]
      refine ⟨?_, Nat.eq_of_testBit_eq (fun i => ?_)⟩
      · have := hi n
        rw [Nat.testBit_and, tb n, if_pos rfl] at this
        simpa using this
      · have := hi i
        rw [Nat.testBit_and, tb i] at this
        rw [Nat.testBit_and]
        by_cases c : i = n
        · rw [c, Nat.testBit_lt_two_pow hj]; rfl
        · rw [if_neg c] at this; exact this
    · rintro ⟨h1, h2⟩
      refine Nat.eq_of_testBit_eq (fun i => ?_)
      have hi : (j &&& M).testBit i = j.testBit i := by rw [h2]
      rw [Nat.testBit_and] at hi
      rw [Nat.testBit_and, tb i]
      by_cases c : i = n
      · rw [if_pos c, c, h1]; rfl
      · rw [if_neg c]; exact hi
  cases h1 : M.testBit n <;> cases h2 : sbB M j
  · rw [Bool.false_and]; exact Bool.eq_false_iff.mpr (fun w => by have := (key.mp (sbB_t.mp w)).1; rw [h1] at this; cases this)
  · rw [Bool.false_and]; exact Bool.eq_false_iff.mpr (fun w => by have := (key.mp (sbB_t.mp w)).1; rw [h1] at this; cases this)
  · rw [Bool.and_false]; exact Bool.eq_false_iff.mpr (fun w => by have := sbB_t.mpr (key.mp (sbB_t.mp w)).2; rw [h2] at this; cases this)
  · exact sbB_t.mpr (key.mpr ⟨h1, sbB_t.mp h2⟩)
theorem rmL_len2 {M n : Nat} : ∀ (d j : Nat), j + d ≤ 2 ^ n → (rmL M d (2 ^ n + j)).length = if M.testBit n then (rmL M d j).length else 0
  | 0, _, _ => by unfold rmL; split <;> rfl
  | d + 1, j, h => by
    unfold rmL
    have ih := rmL_len2 (M := M) (n := n) d (j + 1) (by omega)
    rw [sb_top (by omega)]
    rw [show 2 ^ n + j + 1 = 2 ^ n + (j + 1) by omega]
    cases h1 : M.testBit n <;> cases h2 : sbB M j <;> simp [h1] at ih ⊢ <;> exact ih
theorem rmL_len (M : Nat) : ∀ n, (rmL M (2 ^ n) 0).length = 2 ^ pcN M n
  | 0 => by
    show (rmL M 1 0).length = 1
    unfold rmL
    have : sbB M 0 = true := sbB_t.mpr (Nat.zero_and M)
    rw [this]; rfl
  | n + 1 => by
    have ih := rmL_len M n
    rw [show 2 ^ (n + 1) = 2 ^ n + 2 ^ n by rw [Nat.pow_succ]; omega, rmL_app, List.length_append, Nat.zero_add]
    have := rmL_len2 (M := M) (n := n) (2 ^ n) 0 (by omega)
    rw [Nat.add_zero] at this
    rw [this, ih, pcN_s]
    cases M.testBit n
    · simp
    · simp [Nat.pow_succ]; omega
set_option maxRecDepth 100000 in
theorem bc10 : ∀ j, j < 1024 → bcF (nI j) = nI (pcN j 10) := by decide +kernel
theorem pcN_low {M n : Nat} (hM : M < 2 ^ n) : ∀ k, n ≤ k → pcN M k = pcN M n := by
  intro k hk
  induction k with
  | zero => have : n = 0 := by omega
            rw [this]
  | succ k ih =>
    by_cases c : n = k + 1
    · rw [c]
    · rw [pcN_s, Nat.testBit_lt_two_pow (Nat.lt_of_lt_of_le hM (Nat.pow_le_pow_right (by decide) (by omega))), ih (by omega)]; rfl
theorem shl_1 : ∀ k, k ≤ 10 → (1 : Int32) <<< (nI k &&& 31) = nI (2 ^ k) := by decide +kernel
/-- the sets within M, n bits -/
def SL (M n : Nat) : List Nat := rmL M (2 ^ n) 0
theorem SL_chn {M n : Nat} (hM : M < 2 ^ n) (hn : n ≤ 10) : chn (nI M) (SL M n) 0 := chn_of hM hn (2 ^ n) 0 (by omega) (Nat.zero_and M)
theorem SL_len {M n : Nat} (hM : M < 2 ^ n) (hn : n ≤ 10) : (1 : Int32) <<< (bcF (nI M) &&& 31) = nI (SL M n).length := by
  have hp : 2 ^ n ≤ 2 ^ 10 := Nat.pow_le_pow_right (by decide) hn
  rw [bc10 M (by omega), pcN_low hM 10 hn, shl_1 _ (Nat.le_trans (pcN_le M n) hn)]
  unfold SL
  rw [rmL_len]
theorem s_X9_setsOf {M n : Nat} (hM : M < 2 ^ n) (hn : n ≤ 10) {I : sw_I} {J : sw_J} {Q : Int32 → sw_I → sw_J → Prop} (h : Q (nI (SL M n).length) I J) : wp_X9_setsOf (nI M) I J Q := by
  refine s_J6_bitCount ?_
  rw [SL_len hM hn]; exact h
theorem SL_mem {M n : Nat} (hn : n ≤ 10) : ∀ j, j ∈ SL M n → j < 2 ^ n ∧ j &&& M = j := by
  have : ∀ (d k j : Nat), j ∈ rmL M d k → (k ≤ j ∧ j < k + d) ∧ j &&& M = j := by
    intro d
    induction d with
    | zero => intro k j h; simp [rmL] at h
    | succ d ih =>
      intro k j h
      unfold rmL at h
      cases hb : sbB M k
      · rw [hb] at h
        have := ih (k + 1) j (by simpa using h)
        exact ⟨by omega, this.2⟩
      · rw [hb] at h
        simp at h
        rcases h with h | h
        · subst h; exact ⟨by omega, sbB_t.mp hb⟩
        · have := ih (k + 1) j h; exact ⟨by omega, this.2⟩
  intro j hj
  have := this (2 ^ n) 0 j hj
  exact ⟨by omega, this.2⟩
theorem nI_eq0 {j : Nat} (hj : j < 2 ^ 31) : nI j = 0 ↔ j = 0 := nI_eq (b := 0) hj (by decide)
/-- whether j is within M, as the reference asks it -/
theorem sub_iff {j M n : Nat} (hj : j < 2 ^ n) (hM : M < 2 ^ n) (hn : n ≤ 10) : (nI j &&& (nI M ^^^ (-1)) = 0) ↔ sbB M j = true := by
  have hp : 2 ^ n ≤ 2 ^ 10 := Nat.pow_le_pow_right (by decide) hn
  rw [sbB_t]
  constructor
  · intro h
    refine Nat.eq_of_testBit_eq (fun i => ?_)
    rw [Nat.testBit_and]
    by_cases c : i < 32
    · have hb : inB (nI j &&& (nI M ^^^ (-1))) i = false := by rw [h]; exact inB_0 c
      rw [inB_and _ _ c, inB_not _ c, nI_bit (by omega) c, nI_bit (by omega) c] at hb
      cases h1 : j.testBit i <;> cases h2 : M.testBit i <;> simp_all
    · rw [Nat.testBit_lt_two_pow (Nat.lt_of_lt_of_le hj (Nat.pow_le_pow_right (by decide) (by omega)))]; rfl
  · intro h
    refine inB_ext (fun i c => ?_)
    rw [inB_and _ _ c, inB_not _ c, nI_bit (by omega) c, nI_bit (by omega) c, inB_0 c]
    have : (j &&& M).testBit i = j.testBit i := by rw [h]
    rw [Nat.testBit_and] at this
    cases h1 : j.testBit i <;> cases h2 : M.testBit i <;> simp_all
