/-! keys: where each is, the lift, the rides, in one number -/
def kS (c : Nat → Nat) : Nat → Nat
  | 0 => 0
  | k + 1 => kS c k + c k * 16 ^ k
theorem kS_lt {c : Nat → Nat} : ∀ {k : Nat}, (∀ i, i < k → c i < 16) → kS c k < 16 ^ k
  | 0, _ => by show 0 < 1; omega
  | k + 1, h => by
    have h1 := kS_lt (k := k) (fun i hi => h i (by omega))
    have h2 := h k (by omega)
    have h3 : c k * 16 ^ k ≤ 15 * 16 ^ k := Nat.mul_le_mul_right _ (by omega)
    unfold kS
    rw [Nat.pow_succ]; omega
theorem kS_hi {c : Nat → Nat} {k : Nat} (h : ∀ i, i < k → c i < 16) (x : Nat) : (kS c k + x * 16 ^ k) / 16 ^ k = x := by
  rw [Nat.add_mul_div_right _ _ (Nat.pow_pos (by decide)), Nat.div_eq_of_lt (kS_lt h), Nat.zero_add]
theorem kS_dig {c : Nat → Nat} : ∀ {k : Nat} (x : Nat) {i : Nat}, (∀ i, i < k → c i < 16) → i < k → (kS c k + x * 16 ^ k) / 16 ^ i % 16 = c i
  | 0, _, _, _, hi => absurd hi (Nat.not_lt_zero _)
  | k + 1, x, i, h, hi => by
    have e : kS c (k + 1) + x * 16 ^ (k + 1) = kS c k + (c k + x * 16) * 16 ^ k := by
      show kS c k + c k * 16 ^ k + x * 16 ^ (k + 1) = _
      rw [Nat.pow_succ, Nat.add_mul, Nat.mul_assoc x 16, Nat.mul_comm 16 (16 ^ k), Nat.add_assoc]
    rw [e]
    by_cases c2 : i = k
    · rw [c2, kS_hi (fun i hi => h i (by omega)), Nat.add_mul_mod_self_right, Nat.mod_eq_of_lt (h k (by omega))]
    · exact kS_dig _ (fun i hi => h i (by omega)) (by omega)
theorem kS_ext {c c2 : Nat → Nat} : ∀ {k : Nat}, (∀ i, i < k → c i = c2 i) → kS c k = kS c2 k
  | 0, _ => rfl
  | k + 1, h => by
    unfold kS
    rw [kS_ext (k := k) (fun i hi => h i (by omega)), h k (by omega)]
def cdK (K i : Nat) : Nat := K / 16 ^ i % 16
def lfK (K : Nat) : Nat := K / 16 ^ 10 % 16
def rrK (K : Nat) : Nat := K / 16 ^ 10 / 16
def enK (c : Nat → Nat) (l r : Nat) : Nat := kS c 10 + (l + r * 16) * 16 ^ 10
theorem kS_cd (K : Nat) : ∀ k, kS (cdK K) k = K % 16 ^ k
  | 0 => by show 0 = K % 1; omega
  | k + 1 => by
    unfold kS
    rw [kS_cd K k, Nat.pow_succ, Nat.mod_mul, Nat.mul_comm]; rfl
theorem enK_de (K : Nat) : enK (cdK K) (lfK K) (rrK K) = K := by
  unfold enK lfK rrK
  rw [kS_cd, Nat.mul_comm (K / 16 ^ 10 / 16) 16, Nat.mod_add_div, Nat.mul_comm, Nat.mod_add_div]
theorem cd_en {c : Nat → Nat} {l r i : Nat} (h : ∀ i, i < 10 → c i < 16) (hi : i < 10) : cdK (enK c l r) i = c i := kS_dig _ h hi
theorem lf_en {c : Nat → Nat} {l r : Nat} (h : ∀ i, i < 10 → c i < 16) (hl : l < 16) : lfK (enK c l r) = l := by
  unfold lfK enK
  rw [kS_hi h, Nat.add_mul_mod_self_right, Nat.mod_eq_of_lt hl]
theorem rr_en {c : Nat → Nat} {l r : Nat} (h : ∀ i, i < 10 → c i < 16) (hl : l < 16) : rrK (enK c l r) = r := by
  unfold rrK enK
  rw [kS_hi h, Nat.add_mul_div_right _ _ (by decide), Nat.div_eq_of_lt hl, Nat.zero_add]
theorem en_lt {c : Nat → Nat} {l r : Nat} (h : ∀ i, i < 10 → c i < 16) (hl : l < 16) (hr : r < 7) : enK c l r < 2 ^ 47 := by
  have h1 := kS_lt h
  unfold enK
  have e : (16 : Nat) ^ 10 = 2 ^ 40 := by decide
  rw [e] at h1 ⊢
  have : (l + r * 16) * 2 ^ 40 ≤ 111 * 2 ^ 40 := Nat.mul_le_mul_right _ (by omega)
  omega
/-- fit keys -/
def vK (n fl K : Nat) : Prop := (∀ i, i < 10 → cdK K i ≤ fl) ∧ (∀ i, n ≤ i → i < 10 → cdK K i = 0) ∧ lfK K < fl ∧ rrK K < 7
theorem vK_en {n fl l r : Nat} {c : Nat → Nat} (hfl : fl ≤ 9) (h1 : ∀ i, i < 10 → c i ≤ fl) (h2 : ∀ i, n ≤ i → i < 10 → c i = 0) (hl : l < fl) (hr : r < 7) : vK n fl (enK c l r) := by
  have h16 : ∀ i, i < 10 → c i < 16 := fun i hi => by have := h1 i hi; omega
  refine ⟨fun i hi => by rw [cd_en h16 hi]; exact h1 i hi, fun i hi hi2 => by rw [cd_en h16 hi2]; exact h2 i hi hi2, by rw [lf_en h16 (by omega)]; exact hl, by rw [rr_en h16 (by omega)]; exact hr⟩
theorem vK_lt {n fl K : Nat} (hfl : fl ≤ 9) (h : vK n fl K) : K < 2 ^ 47 := by
  have := en_lt (c := cdK K) (l := lfK K) (r := rrK K) (fun i hi => by have := h.1 i hi; omega) (by have := h.2.2.1; omega) h.2.2.2
  rw [enK_de] at this; exact this
/-- the reference's key -/
def mS (p : Nat → Nat) : Nat → Nat
  | 0 => 0
  | k + 1 => mS p k * 16 + p k
def plN (K i : Nat) : Nat := if cdK K i = 0 then 9 else cdK K i - 1
def mkK (n K : Nat) : Nat := (mS (plN K) n * 16 + lfK K) * 8 + rrK K
theorem mS_lt {p : Nat → Nat} : ∀ {k : Nat}, (∀ i, i < k → p i < 16) → mS p k < 16 ^ k
  | 0, _ => by show 0 < 1; omega
  | k + 1, h => by
    have h1 := mS_lt (k := k) (fun i hi => h i (by omega))
    have h2 := h k (by omega)
    unfold mS
    rw [Nat.pow_succ]; omega
theorem mS_inj {p q : Nat → Nat} : ∀ {k : Nat}, (∀ i, i < k → p i < 16) → (∀ i, i < k → q i < 16) → mS p k = mS q k → ∀ i, i < k → p i = q i
  | 0, _, _, _, i, hi => absurd hi (Nat.not_lt_zero _)
  | k + 1, h1, h2, e, i, hi => by
    have a := h1 k (by omega)
    have b := h2 k (by omega)
    unfold mS at e
    by_cases c : i = k
    · rw [c]; omega
    · exact mS_inj (k := k) (fun i hi => h1 i (by omega)) (fun i hi => h2 i (by omega)) (by omega) i (by omega)
theorem plN_lt {n fl K : Nat} (hfl : fl ≤ 9) (h : vK n fl K) {i : Nat} (hi : i < 10) : plN K i < 10 := by
  have := h.1 i hi
  unfold plN; split <;> omega
theorem mk_lt {n fl K : Nat} (hfl : fl ≤ 9) (hn : n ≤ 10) (h : vK n fl K) : mkK n K < 2 ^ 48 := by
  have h1 := mS_lt (p := plN K) (k := n) (fun i hi => by have := plN_lt hfl h (show i < 10 by omega); omega)
  have h2 : (16 : Nat) ^ n ≤ 16 ^ 10 := Nat.pow_le_pow_right (by decide) hn
  have e : (16 : Nat) ^ 10 = 2 ^ 40 := by decide
  rw [e] at h2
  have h3 := h.2.2.1
  have h4 := h.2.2.2
  unfold mkK; omega
theorem mk_inj {n fl K K2 : Nat} (hfl : fl ≤ 9) (hn : n ≤ 10) (h : vK n fl K) (h2 : vK n fl K2) (e : mkK n K = mkK n K2) : K = K2 := by
  have a1 := h.2.2.1
  have a2 := h2.2.2.1
  have b1 := h.2.2.2
  have b2 := h2.2.2.2
  unfold mkK at e
  have er : rrK K = rrK K2 := by omega
  have el : lfK K = lfK K2 := by omega
  have em : mS (plN K) n = mS (plN K2) n := by omega
  have ed : ∀ i, i < 10 → cdK K i = cdK K2 i := fun i hi => by
    by_cases c : i < n
    · have := mS_inj (fun i hi => by have := plN_lt hfl h (show i < 10 by omega); omega) (fun i hi => by have := plN_lt hfl h2 (show i < 10 by omega); omega) em i c
      have c1 := h.1 i hi
      have c2 := h2.1 i hi
      unfold plN at this
      split at this <;> split at this <;> omega
    · rw [h.2.1 i (by omega) hi, h2.2.1 i (by omega) hi]
  rw [← enK_de K, ← enK_de K2, er, el]
  unfold enK
  rw [kS_ext ed]
/-! longs -/
theorem lN_or {V c : Nat} (hV : V < 2 ^ 59) (hc : c < 16) : (lN V <<< ((4 : Int32).toInt64 &&& 63)) ||| (nI c).toInt64 = lN (V * 16 + c) := by
  rw [show (4 : Int32) = nI 4 from rfl, wb_shl V (by decide), nI_l (by omega), wb_or (by omega) (by omega)]
  have := Nat.two_pow_add_eq_or_of_lt (i := 4) (b := c) (by omega) V
  rw [Nat.mul_comm V (2 ^ 4), ← this, Nat.mul_comm]
theorem lN_or3 {V c : Nat} (hV : V < 2 ^ 59) (hc : c < 8) : (lN V <<< ((3 : Int32).toInt64 &&& 63)) ||| (nI c).toInt64 = lN (V * 8 + c) := by
  rw [show (3 : Int32) = nI 3 from rfl, wb_shl V (by decide), nI_l (by omega), wb_or (by omega) (by omega)]
  have := Nat.two_pow_add_eq_or_of_lt (i := 3) (b := c) (by omega) V
  rw [Nat.mul_comm V (2 ^ 3), ← this, Nat.mul_comm]
theorem lN_ii (n : Nat) : (lN n).toInt32 = nI n := Int64.toInt32_ofNat
theorem lN_15 {n : Nat} (h : n < 2 ^ 64) : lN n &&& 15 = lN (n % 16) := wb_mask (k := 4) h (by decide)
theorem lN_7 {n : Nat} (h : n < 2 ^ 64) : lN n &&& 7 = lN (n % 8) := wb_mask (k := 3) h (by decide)
theorem lN_sshr {n k : Nat} (hn : n < 2 ^ 62) (hk : k < 64) : lN n >>> ((nI k).toInt64 &&& 63) = lN (n / 2 ^ k) := by
  rw [wb_c k hk]
  apply wb_inj
  rw [Int64.toBitVec_shiftRight, wb_tb, wb_tb, wb_tb, wb_sm k hk]
  apply BitVec.eq_of_toNat_eq
  have hm : (BitVec.ofNat 64 n).msb = false := by
    rw [BitVec.msb_eq_false_iff_two_mul_lt, BitVec.toNat_ofNat, Nat.mod_eq_of_lt (by omega)]; omega
  rw [BitVec.sshiftRight_eq', BitVec.sshiftRight_eq_of_msb_false hm, BitVec.toNat_ushiftRight, BitVec.toNat_ofNat, BitVec.toNat_ofNat, BitVec.toNat_ofNat, Nat.mod_eq_of_lt (show k < 2 ^ 64 by omega), Nat.mod_eq_of_lt (show n < 2 ^ 64 by omega), Nat.shiftRight_eq_div_pow, Nat.mod_eq_of_lt (Nat.lt_of_le_of_lt (Nat.div_le_self _ _) (by omega))]
theorem lN_inj {a b : Nat} (ha : a < 2 ^ 63) (hb : b < 2 ^ 63) : lN a = lN b ↔ a = b := ⟨fun h => by
  have h1 : (lN a).toInt = a := nJ_int ha
  have h2 : (lN b).toInt = b := nJ_int hb
  rw [h] at h1; omega, fun h => by rw [h]⟩
