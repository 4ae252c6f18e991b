/-! the pure side: memories that differ on some cells alone; small facts -/
def eqx (S : List Nat) (I I2 : sw_I) : Prop := ∀ a, a ∉ S → I2 a = I a
theorem eqx.rf {S : List Nat} {I : sw_I} : eqx S I I := fun _ _ => rfl
theorem eqx.at {S : List Nat} {I I2 : sw_I} (h : eqx S I I2) {a : Nat} (ha : a ∉ S) (b : Nat) : I2 a b = I a b := by rw [h a ha]
theorem eqx.tr {S : List Nat} {I I2 I3 : sw_I} (h : eqx S I I2) (h2 : eqx S I2 I3) : eqx S I I3 := fun a ha => (h2 a ha).trans (h a ha)
theorem eqx.mono {S S2 : List Nat} {I I2 : sw_I} (h : eqx S I I2) (hs : ∀ a, a ∈ S → a ∈ S2) : eqx S2 I I2 := fun a ha => h a (fun q => ha (hs a q))
theorem eqx.up {S : List Nat} {I I2 : sw_I} (h : eqx S I I2) {c : Nat} (hc : c ∈ S) (k : Nat) (v : Int32) : eqx S I (sw_up I2 c k v) := fun a ha => by
  rw [sw_up_row I2 k v (fun q : a = c => ha (by rw [q]; exact hc))]; exact h a ha
theorem nI_lit (n : Nat) : (OfNat.ofNat n : Int32) = nI n := rfl
theorem nI_sub1 {n : Nat} (h : 0 < n) : nI n - 1 = nI (n - 1) := by
  obtain ⟨m, rfl⟩ : ∃ m, n = m + 1 := ⟨n - 1, by omega⟩
  rw [nI_succ]; show nI m + 1 - 1 = nI (m + 1 - 1); rw [Nat.add_sub_cancel]; exact Int32.add_sub_cancel _ _
theorem nI_addm1 {n : Nat} (h : 0 < n) : nI n + (-1) = nI (n - 1) := by rw [← nI_sub1 h, Int32.sub_eq_add_neg]
theorem vp0 {i n : Nat} (h : i < n) (hn : n < 2 ^ 31) : vp_in (nI i) n := vp_in_nI h hn
