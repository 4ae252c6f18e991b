/-! promises: odds, likely: the pure side -/
/-- the sum over all sets, bit by bit from r on -/
def tsM (M : Nat) (g : Nat → Nat) : Nat → Nat → Nat → Nat
  | 0, _, h => g h
  | d + 1, r, h => if M.testBit r then tsM M g d (r + 1) (h + 2 ^ r) + tsM M g d (r + 1) h else tsM M g d (r + 1) h
theorem ts_top (M : Nat) (g : Nat → Nat) : ∀ d r h, tsM M g (d + 1) r h = tsM M g d r h + (if M.testBit (r + d) then tsM M g d r (h + 2 ^ (r + d)) else 0)
  | 0, r, h => by
    show (if M.testBit r then g (h + 2 ^ r) + g h else g h) = g h + (if M.testBit (r + 0) then g (h + 2 ^ (r + 0)) else 0)
    rw [Nat.add_zero]
    split <;> omega
  | d + 1, r, h => by
    have a := ts_top M g d (r + 1) (h + 2 ^ r)
    have b := ts_top M g d (r + 1) h
    have e : r + 1 + d = r + (d + 1) := by omega
    rw [e] at a b
    have u1 : ∀ h, tsM M g (d + 1 + 1) r h = if M.testBit r then tsM M g (d + 1) (r + 1) (h + 2 ^ r) + tsM M g (d + 1) (r + 1) h else tsM M g (d + 1) (r + 1) h := fun _ => rfl
    have u2 : ∀ h, tsM M g (d + 1) r h = if M.testBit r then tsM M g d (r + 1) (h + 2 ^ r) + tsM M g d (r + 1) h else tsM M g d (r + 1) h := fun _ => rfl
    rw [u1, u2 h, u2 (h + 2 ^ (r + (d + 1))), a, b, show h + 2 ^ (r + (d + 1)) + 2 ^ r = h + 2 ^ r + 2 ^ (r + (d + 1)) by omega]
    cases M.testBit r <;> cases M.testBit (r + (d + 1)) <;> simp <;> omega
theorem ts_shift (M : Nat) (g : Nat → Nat) (c : Nat) : ∀ d r h, tsM M g d r (c + h) = tsM M (fun x => g (c + x)) d r h
  | 0, _, _ => rfl
  | d + 1, r, h => by
    unfold tsM
    rw [show c + h + 2 ^ r = c + (h + 2 ^ r) by omega, ts_shift M g c d (r + 1) (h + 2 ^ r), ts_shift M g c d (r + 1) h]
def sumL (g : Nat → Nat) : List Nat → Nat
  | [] => 0
  | j :: L => g j + sumL g L
theorem sumL_app (g : Nat → Nat) : ∀ L K, sumL g (L ++ K) = sumL g L + sumL g K
  | [], K => by show sumL g K = 0 + _; omega
  | j :: L, K => by
    show g j + sumL g (L ++ K) = g j + sumL g L + sumL g K
    rw [sumL_app g L K]; omega
theorem sum_top {M n : Nat} (g : Nat → Nat) : ∀ d j, j + d ≤ 2 ^ n → sumL g (rmL M d (2 ^ n + j)) = if M.testBit n then sumL (fun x => g (2 ^ n + x)) (rmL M d j) else 0
  | 0, j, _ => by unfold rmL; split <;> rfl
  | d + 1, j, h => by
    have ih := sum_top (M := M) (n := n) g d (j + 1) (by omega)
    rw [rmL_s, rmL_s, sb_top (by omega), show 2 ^ n + j + 1 = 2 ^ n + (j + 1) by omega]
    cases h1 : M.testBit n <;> cases h2 : sbB M j <;> simp [h1] at ih ⊢
    · exact ih
    · exact ih
    · exact ih
    · show g (2 ^ n + j) + sumL g _ = g (2 ^ n + j) + sumL _ _
      rw [ih]
theorem sum_SL (M : Nat) : ∀ n g, sumL g (SL M n) = tsM M g n 0 0
  | 0, g => by
    unfold SL
    show sumL g (rmL M 1 0) = g 0
    rw [rmL_s, sbB_t.mpr (Nat.zero_and M), if_pos rfl]
    show g 0 + sumL g [] = g 0
    rfl
  | n + 1, g => by
    have ih := sum_SL M n
    unfold SL at ih ⊢
    rw [show 2 ^ (n + 1) = 2 ^ n + 2 ^ n by rw [Nat.pow_succ]; omega, rmL_app, sumL_app, Nat.zero_add, ts_top, Nat.zero_add]
    have st := sum_top (M := M) (n := n) g (2 ^ n) 0 (by omega)
    rw [Nat.add_zero] at st
    rw [st, ih g, ih (fun x => g (2 ^ n + x)), Nat.zero_add, ← ts_shift M g (2 ^ n) n 0 0, Nat.add_zero]
/-- the weight of those who tell the truth, of the first r -/
def wpF (M : Nat) (t : Nat → Nat) (h : Nat) : Nat → Nat
  | 0 => 1
  | r + 1 => if M.testBit r then wpF M t h r * (if h.testBit r then t r else 10 - t r) else wpF M t h r
theorem wp_low {M : Nat} {t : Nat → Nat} {h h2 : Nat} : ∀ r, (∀ i, i < r → h.testBit i = h2.testBit i) → wpF M t h r = wpF M t h2 r
  | 0, _ => rfl
  | r + 1, e => by unfold wpF; rw [wp_low r (fun i hi => e i (by omega)), e r (by omega)]
theorem tb_add {h r : Nat} (hh : h < 2 ^ r) : (h + 2 ^ r).testBit r = true ∧ h.testBit r = false ∧ ∀ i, i < r → (h + 2 ^ r).testBit i = h.testBit i := by
  refine ⟨?_, Nat.testBit_lt_two_pow hh, fun i hi => ?_⟩
  · rw [Nat.add_comm, Nat.testBit_two_pow_add_eq, Nat.testBit_lt_two_pow hh]; rfl
  · rw [Nat.add_comm, Nat.testBit_two_pow_add_gt hi]
theorem ts_w {M : Nat} {t : Nat → Nat} (ht : ∀ i, t i ≤ 10) {N : Nat} : ∀ d r h, r + d = N → h < 2 ^ r → tsM M (fun x => wpF M t x N) d r h = wpF M t h r * 10 ^ (pcN M N - pcN M r)
  | 0, r, h, e, _ => by
    obtain rfl : r = N := by omega
    show wpF M t h r = _
    rw [Nat.sub_self]; simp
  | d + 1, r, h, e, hh => by
    obtain ⟨b1, b2, b3⟩ := tb_add hh
    have i1 := ts_w ht (M := M) (N := N) d (r + 1) (h + 2 ^ r) (by omega) (by rw [Nat.pow_succ]; omega)
    have i2 := ts_w ht (M := M) (N := N) d (r + 1) h (by omega) (by rw [Nat.pow_succ]; omega)
    have mono : pcN M (r + 1) ≤ pcN M N := by
      have : ∀ a b, a ≤ b → pcN M a ≤ pcN M b := fun a b hab => by
        induction b with
        | zero => have : a = 0 := by omega
                  rw [this]; exact Nat.le_refl _
        | succ b ih =>
          by_cases c : a = b + 1
          · rw [c]; exact Nat.le_refl _
          · rw [pcN_s]; have := ih (by omega); omega
      exact this _ _ (by omega)
    have e1 : wpF M t (h + 2 ^ r) r = wpF M t h r := wp_low r (fun i hi => b3 i hi)
    show (if M.testBit r then _ + _ else _) = _
    rw [i1, i2]
    rw [pcN_s] at mono ⊢
    cases hb : M.testBit r
    · rw [hb] at mono
      simp only [wpF, hb, Bool.false_eq_true, if_false, Nat.add_zero]
    · rw [hb] at mono
      simp only [wpF, hb, if_true, b1, b2, e1, Bool.false_eq_true, if_false] at mono ⊢
      have h10 := ht r
      have pe : 10 ^ (pcN M N - pcN M r) = 10 * 10 ^ (pcN M N - (pcN M r + 1)) := by
        rw [show pcN M N - pcN M r = (pcN M N - (pcN M r + 1)) + 1 by omega, Nat.pow_succ]; omega
      rw [pe]
      generalize 10 ^ (pcN M N - (pcN M r + 1)) = X
      generalize wpF M t h r = Y
      have : Y * t r * X + Y * (10 - t r) * X = Y * (t r + (10 - t r)) * X := by rw [Nat.mul_add, Nat.add_mul]
      rw [this, show t r + (10 - t r) = 10 by omega, Nat.mul_assoc]
theorem sumL_le {g k : Nat → Nat} (h : ∀ j, g j ≤ k j) : ∀ L, sumL g L ≤ sumL k L
  | [] => Nat.le_refl 0
  | j :: L => by have := sumL_le h L; have := h j; show g j + _ ≤ k j + _; omega
/-! Euclid's rule ends soon -/
def fbF : Nat → Nat
  | 0 => 0
  | 1 => 1
  | n + 2 => fbF (n + 1) + fbF n
def trm : Nat → Nat → Nat → Prop
  | 0, _, b => b = 0
  | s + 1, a, b => b = 0 ∨ trm s b (a % b)
theorem trm_fib : ∀ s a b, b < fbF (s + 1) → trm s a b
  | 0, a, b, h => by have : fbF (0 + 1) = 1 := rfl
                     show b = 0; omega
  | 1, a, b, h => by
    have : fbF (1 + 1) = 1 := rfl
    exact Or.inl (by omega)
  | s + 2, a, b, h => by
    by_cases c : b = 0
    · exact Or.inl c
    · refine Or.inr ?_
      have hb : 0 < b := Nat.pos_of_ne_zero c
      by_cases c2 : a % b < fbF (s + 2)
      · exact trm_fib (s + 1) b (a % b) c2
      · by_cases c3 : a % b = 0
        · exact Or.inl c3
        · refine Or.inr (trm_fib s (a % b) (b % (a % b)) ?_)
          have hlt := Nat.mod_lt a hb
          have e : fbF (s + 2 + 1) = fbF (s + 2) + fbF (s + 1) := rfl
          have h2 : b % (a % b) ≤ b - a % b := by
            have := Nat.mod_add_div b (a % b)
            have hq : 1 ≤ b / (a % b) := (Nat.one_le_div_iff (Nat.pos_of_ne_zero c3)).mpr (by omega)
            have : a % b * 1 ≤ a % b * (b / (a % b)) := Nat.mul_le_mul_left _ hq
            omega
          omega
theorem fb50 : 10000000000 < fbF 50 := by decide +kernel
theorem nJ_eq0 {c : Nat} (h : c < 2 ^ 63) : Int64.ofNat c = 0 ↔ c = 0 := by
  rw [← Int64.toInt_inj, nJ_int h]
  show (c : Int) = 0 ↔ _
  omega
theorem nJ_rem {a b : Nat} (ha : a < 2 ^ 63) (hb : b < 2 ^ 63) : Int64.ofNat a - Int64.ofNat a / Int64.ofNat b * Int64.ofNat b = Int64.ofNat (a % b) := by
  have e := Nat.mod_add_div a b
  rw [← Int64.ofNat_div ha hb, ← Int64.ofNat_mul, ← Int64.ofNat_sub _ _ (Nat.div_mul_le_self a b)]
  congr 1
  rw [Nat.mul_comm] at e
  omega
theorem nJ_div {a b : Nat} (ha : a < 2 ^ 63) (hb : b < 2 ^ 63) : Int64.ofNat a / Int64.ofNat b = Int64.ofNat (a / b) := (Int64.ofNat_div ha hb).symm
theorem nJ_mul (a b : Nat) : Int64.ofNat a * Int64.ofNat b = Int64.ofNat (a * b) := (Int64.ofNat_mul a b).symm
theorem m_common {I : sw_I} {J : sw_J} {Q : Int64 → sw_I → sw_J → Prop} : ∀ s a b, a < 2 ^ 63 → b < 2 ^ 63 → trm s a b → ∀ d, s < d → Q (Int64.ofNat (Nat.gcd a b)) I J → wp_X10_common d (Int64.ofNat a) (Int64.ofNat b) I J Q
  | s, a, b, ha, hb, ht, 0, hd, h => absurd hd (Nat.not_lt_zero _)
  | s, a, b, ha, hb, ht, d + 1, hd, h => by
    show wpb_X10_common _ _ _ I J Q
    unfold wpb_X10_common
    by_cases c : b = 0
    · subst c
      rw [Nat.gcd_zero_right] at h
      have : lg_cmp (Int64.ofNat 0) 0 = 0 := by decide
      rw [sw_if_t this]; exact h
    · have c2 : ¬ lg_cmp (Int64.ofNat b) (0 : Int64) = 0 := fun q => by
        have hp := (nJ_pos hb).mpr (Nat.pos_of_ne_zero c)
        have := (lg_cmp_gt _ _).mpr hp
        rw [q] at this
        exact Int32.lt_irrefl this
      rw [sw_if_f c2]
      refine ⟨fun q => c ((nJ_eq0 hb).mp q), ?_⟩
      rw [nJ_rem ha hb]
      cases s with
      | zero => exact absurd ht c
      | succ s =>
        refine m_common s b (a % b) hb (Nat.lt_of_lt_of_le (Nat.mod_lt a (Nat.pos_of_ne_zero c)) (by omega)) (by rcases ht with q | q; exact absurd q c; exact q) d (by omega) ?_
        rw [Nat.gcd_comm, ← Nat.gcd_rec, Nat.gcd_comm]
        exact h
theorem s_frac_loop {I : sw_I} {J : sw_J} {Q : sw_I → sw_J → Prop} {u l : Nat} (hu : u < 2 ^ 63) (hl : l < 2 ^ 63) {g : Nat} (hg : 0 < g) (hg63 : g < 2 ^ 63) (h : ∀ I2 J2, eqx [0] I I2 → eqj [118] J J2 → tlC I2 J2 [Int64.ofNat (u / g), Int64.ofNat (l / g)] → Q I2 J2) (ht : tlC I J []) : ∀ s a b k, a < 2 ^ 63 → b < 2 ^ 63 → trm s a b → Nat.gcd a b = g → k + s ≤ 127 → wl_X9_tellFraction_9 Q (s + 1) (Int64.ofNat u) (Int64.ofNat l) (Int64.ofNat a) (Int64.ofNat b) (nI k) I J := by
  have fin : wB_X9_tellFraction_45 Q (Int64.ofNat u) (Int64.ofNat l) (Int64.ofNat g) I J := by
    unfold wB_X9_tellFraction_45
    have g0 : ¬ Int64.ofNat g = 0 := fun q => by have := (nJ_eq0 hg63).mp q; omega
    rw [sw_if_t ((lg_cmp_gt _ _).mpr ((nJ_pos hg63).mpr hg)), nJ_div hu hg63, nJ_div hl hg63]
    refine ⟨g0, t_tell (by decide) ht (fun I2 J2 x2 j2 t2 => ⟨g0, t_tell (by simp) t2 (fun I3 J3 x3 j3 t3 => ?_)⟩)⟩
    exact h I3 J3 (x2.tr x3) (j2.tr j3) t3
  intro s
  induction s with
  | zero =>
    intro a b k ha hb htr hgcd hk
    have hb0 : b = 0 := htr
    subst hb0
    rw [Nat.gcd_zero_right] at hgcd
    show wb_X9_tellFraction_9 _ Q _ _ _ _ _ I J
    unfold wb_X9_tellFraction_9
    rw [sw_if_t (show nI k < (128 : Int32) from nI_lt (b := 128) (by omega) (by decide)), sw_if_f (by decide), hgcd]
    exact fin
  | succ s ih =>
    intro a b k ha hb htr hgcd hk
    show wb_X9_tellFraction_9 _ Q _ _ _ _ _ I J
    unfold wb_X9_tellFraction_9
    rw [sw_if_t (show nI k < (128 : Int32) from nI_lt (b := 128) (by omega) (by decide))]
    by_cases c : b = 0
    · subst c
      rw [Nat.gcd_zero_right] at hgcd
      rw [sw_if_f (by decide), hgcd]
      exact fin
    · rw [sw_if_t ((lg_cmp_gt _ _).mpr ((nJ_pos hb).mpr (Nat.pos_of_ne_zero c)))]
      refine ⟨fun q => c ((nJ_eq0 hb).mp q), fun y hy y2 hy2 => ?_⟩
      rw [nJ_rem ha hb] at hy
      rw [hy2, nI_1, hy]
      refine ih b (a % b) (k + 1) hb (Nat.lt_of_lt_of_le (Nat.mod_lt a (Nat.pos_of_ne_zero c)) (by omega)) (by rcases htr with q | q; exact absurd q c; exact q) ?_ (by omega)
      rw [Nat.gcd_comm, ← Nat.gcd_rec, Nat.gcd_comm]; exact hgcd
theorem c_frac {I : sw_I} {J : sw_J} {Q : sw_I → sw_J → Prop} {u l : Nat} (hu : u ≤ 10000000000) (hl : l ≤ 10000000000) (hl0 : 0 < l) (ht : tlC I J []) (h : ∀ I2 J2, eqx [0] I I2 → eqj [118] J J2 → tlC I2 J2 [Int64.ofNat (u / Nat.gcd u l), Int64.ofNat (l / Nat.gcd u l)] → Q I2 J2) : wp_X9_tellFraction (Int64.ofNat u) (Int64.ofNat l) I J Q := by
  have hg : 0 < Nat.gcd u l := Nat.gcd_pos_of_pos_right u hl0
  have hgl : Nat.gcd u l ≤ l := Nat.gcd_le_right u hl0
  have f50 := fb50
  exact ⟨50, s_frac_loop (by omega) (by omega) hg (by omega) h ht 49 u l 0 (by omega) (by omega) (trm_fib 49 u l (by show l < fbF 50; omega)) rfl (by omega)⟩
theorem m_frac {I : sw_I} {J : sw_J} {Q : sw_I → sw_J → Prop} {u l : Nat} (hu : u ≤ 10000000000) (hl : l ≤ 10000000000) (hl0 : 0 < l) (ht : tlM I J []) (h : ∀ I2 J2, eqm [] [1] I I2 → eqj [141] J J2 → tlM I2 J2 [Int64.ofNat (u / Nat.gcd u l), Int64.ofNat (l / Nat.gcd u l)] → Q I2 J2) : wp_X10_entersFraction (Int64.ofNat u) (Int64.ofNat l) I J Q := by
  have hg : 0 < Nat.gcd u l := Nat.gcd_pos_of_pos_right u hl0
  have hgl : Nat.gcd u l ≤ l := Nat.gcd_le_right u hl0
  have f50 := fb50
  unfold wp_X10_entersFraction
  refine m_common 49 u l (by omega) (by omega) (trm_fib 49 u l (by show l < fbF 50; omega)) 64 (by omega) ?_
  have g0 : ¬ Int64.ofNat (Nat.gcd u l) = 0 := fun q => by have := (nJ_eq0 (by omega)).mp q; omega
  rw [nJ_div (by omega) (by omega), nJ_div (by omega) (by omega)]
  refine ⟨g0, t_enters (by decide) ht (fun I2 J2 x2 j2 t2 => ⟨g0, t_enters (by simp) t2 (fun I3 J3 x3 j3 t3 => ?_)⟩)⟩
  exact h I3 J3 (x2.tr x3) (j2.tr j3) t3
/-- the same fraction, of all and of ten thousand millions -/
theorem frac_same {u l e : Nat} (he : 0 < e) : (u * e) / Nat.gcd (u * e) (l * e) = u / Nat.gcd u l ∧ (l * e) / Nat.gcd (u * e) (l * e) = l / Nat.gcd u l := by
  rw [Nat.gcd_mul_right]
  exact ⟨Nat.mul_div_mul_right u _ he, Nat.mul_div_mul_right l _ he⟩
