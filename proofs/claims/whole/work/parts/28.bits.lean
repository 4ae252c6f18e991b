def bt (x : Int32) (i : Nat) : Bool := x.toBitVec.getLsbD i
theorem b_ext {x y : Int32} (h : ∀ i, i < 32 → bt x i = bt y i) : x = y := Int32.toBitVec_inj.mp (BitVec.eq_of_getLsbD_eq (fun i hi => h i hi))
theorem b_or (x y : Int32) (i : Nat) : bt (x ||| y) i = (bt x i || bt y i) := by unfold bt; rw [Int32.toBitVec_or, BitVec.getLsbD_or]
theorem b_and (x y : Int32) (i : Nat) : bt (x &&& y) i = (bt x i && bt y i) := by unfold bt; rw [Int32.toBitVec_and, BitVec.getLsbD_and]
theorem b_xor (x y : Int32) (i : Nat) : bt (x ^^^ y) i = (bt x i ^^ bt y i) := by unfold bt; rw [Int32.toBitVec_xor, BitVec.getLsbD_xor]
theorem b_big {x : Int32} {i : Nat} (h : 32 ≤ i) : bt x i = false := BitVec.getLsbD_of_ge _ _ h
theorem b_255 (i : Nat) : bt 255 i = decide (i < 8) := by
  rcases Nat.lt_or_ge i 32 with h | h
  · exact (by decide +kernel : ∀ i, i < 32 → bt 255 i = decide (i < 8)) i h
  · rw [b_big h, decide_eq_false (by omega)]
theorem b_65535 (i : Nat) : bt 65535 i = decide (i < 16) := by
  rcases Nat.lt_or_ge i 32 with h | h
  · exact (by decide +kernel : ∀ i, i < 32 → bt 65535 i = decide (i < 16)) i h
  · rw [b_big h, decide_eq_false (by omega)]
theorem b_m1 : ∀ i, i < 32 → bt (-1) i = true := by decide +kernel
theorem b_0 (i : Nat) : bt 0 i = false := BitVec.getLsbD_zero
theorem s_l : ∀ n, n < 32 → ((nI n &&& 31).toBitVec.smod 32).toNat = n := by decide +kernel
theorem s_u : ∀ n, n < 32 → (((nI n).toUInt32 &&& Int32.toUInt32 31).toBitVec % 32).toNat = n := by decide +kernel
theorem b_shl (n : Nat) (hn : n < 32) (x : Int32) {i : Nat} (hi : i < 32) : bt (x <<< (nI n &&& 31)) i = (decide (n ≤ i) && bt x (i - n)) := by
  unfold bt
  rw [Int32.toBitVec_shiftLeft]
  show (x.toBitVec <<< ((nI n &&& 31).toBitVec.smod 32).toNat).getLsbD i = _
  rw [s_l n hn, BitVec.getLsbD_shiftLeft]
  rcases Nat.lt_or_ge i n with h | h
  · simp [h, Nat.not_le.mpr h]
  · simp [hi, h, Nat.not_lt.mpr h]
theorem b_ushr (n : Nat) (hn : n < 32) (x : Int32) (i : Nat) : bt ((x.toUInt32 >>> ((nI n).toUInt32 &&& Int32.toUInt32 31)).toInt32) i = bt x (n + i) := by
  show (x.toUInt32 >>> ((nI n).toUInt32 &&& Int32.toUInt32 31)).toBitVec.getLsbD i = x.toUInt32.toBitVec.getLsbD (n + i)
  rw [UInt32.toBitVec_shiftRight]
  show (x.toUInt32.toBitVec >>> (((nI n).toUInt32 &&& Int32.toUInt32 31).toBitVec % 32).toNat).getLsbD i = _
  rw [s_u n hn, BitVec.getLsbD_ushiftRight]
theorem b_sshr (n : Nat) (hn : n < 32) (x : Int32) {i : Nat} (hi : i < 32) : bt (x >>> (nI n &&& 31)) i = if n + i < 32 then bt x (n + i) else bt x 31 := by
  unfold bt
  rw [Int32.toBitVec_shiftRight]
  show (x.toBitVec.sshiftRight ((nI n &&& 31).toBitVec.smod 32).toNat).getLsbD i = _
  rw [s_l n hn, BitVec.getLsbD_sshiftRight, BitVec.msb_eq_getLsbD_last]
  simp [hi]

theorem inB_bt (s : Int32) {k : Nat} (hk : k < 32) : inB s k = bt s k := by
  have h1 : bt ((s >>> (nI k &&& 31)) &&& 1) 0 = bt s k := by
    rw [b_and, b_sshr k hk s (by decide)]
    rw [if_pos (by omega)]
    have : bt 1 0 = true := by decide
    rw [this]; simp
  unfold inB
  rcases bit01 (s >>> (nI k &&& 31)) with e | e
  · rw [e] at h1 ⊢
    rw [← h1]; decide
  · rw [e] at h1 ⊢
    rw [← h1]; decide
theorem inB_or (x y : Int32) {k : Nat} (hk : k < 32) : inB (x ||| y) k = (inB x k || inB y k) := by rw [inB_bt _ hk, inB_bt _ hk, inB_bt _ hk, b_or]
theorem inB_and (x y : Int32) {k : Nat} (hk : k < 32) : inB (x &&& y) k = (inB x k && inB y k) := by rw [inB_bt _ hk, inB_bt _ hk, inB_bt _ hk, b_and]
theorem inB_xor (x y : Int32) {k : Nat} (hk : k < 32) : inB (x ^^^ y) k = (inB x k ^^ inB y k) := by rw [inB_bt _ hk, inB_bt _ hk, inB_bt _ hk, b_xor]
theorem inB_not (x : Int32) {k : Nat} (hk : k < 32) : inB (x ^^^ (-1)) k = !inB x k := by rw [inB_xor _ _ hk, inB_bt (-1) hk, b_m1 k hk]; simp
theorem inB_0 {k : Nat} (hk : k < 32) : inB 0 k = false := by rw [inB_bt _ hk, b_0]
theorem inB_one : ∀ j, j < 32 → ∀ k, k < 32 → inB ((1 : Int32) <<< (nI j &&& 31)) k = decide (k = j) := by decide +kernel
theorem inB_ext {x y : Int32} (h : ∀ k, k < 32 → inB x k = inB y k) : x = y := b_ext (fun i hi => by rw [← inB_bt _ hi, ← inB_bt _ hi]; exact h i hi)
theorem inB_bs (p : Nat → Bool) : ∀ n, n ≤ 32 → ∀ k, k < 32 → inB (bs p n) k = (decide (k < n) && p k)
  | 0, _, k, hk => by show inB 0 k = _; rw [inB_0 hk]; simp
  | n + 1, hn, k, hk => by
    show inB (bs p n ||| _) k = _
    rw [inB_or _ _ hk, inB_bs p n (by omega) k hk]
    by_cases e : k = n
    · subst e
      cases hp : p k
      · simp [inB_0 hk]
      · simp [inB_one k hk k hk]
    · have e2 : inB (if p n = true then (1 : Int32) <<< (nI n &&& 31) else 0) k = false := by
        split
        · rw [inB_one n (by omega) k hk]; simp [e]
        · exact inB_0 hk
      rw [e2]
      by_cases h2 : k < n
      · have h3 : k < n + 1 := by omega
        simp [h2, h3]
      · have h3 : ¬ k < n + 1 := by omega
        simp [h2, h3]
