/-! the groups, one by one; forget, dog, end, undo -/
theorem hs_of {I I2 : sw_I} {n fl : Nat} {C F : List Nat} (e : eqm C F I I2) (hc : ∀ c, c ∈ hsC → c ∉ C) (hf : ∀ k, k ∈ hsF → k ∉ F) (h : hsR I n fl) : hsR I2 n fl :=
  hsR_cong h ⟨fun c q => e.1 c (hc c q) (by revert c; decide), fun k q => e.2 k (hf k q)⟩
theorem l_of {I I2 : sw_I} {m : Nat} {C F : List Nat} (e : eqm C F I I2) (hc : ∀ c, c ∈ lC → c ∉ C) (hf : ∀ k, k ∈ lF → k ∉ F) (h : lR I m) : lR I2 m :=
  lR_cong h ⟨fun c q => e.1 c (hc c q) (by revert c; decide), fun k q => e.2 k (hf k q)⟩
theorem tx_of {I I2 : sw_I} {t : Nat} {C F : List Nat} (e : eqm C F I I2) (hc : ∀ c, c ∈ txC → c ∉ C) (hf : 12 ∉ F) (h : txR I t) : txR I2 t :=
  txR_sm h ⟨fun c q => e.1 c (hc c q) (by revert c; decide), fun k q => e.2 k (by rw [List.mem_singleton.mp q]; exact hf)⟩
theorem sn_of {I I2 : sw_I} {n fl s : Nat} {C F : List Nat} (e : eqm C F I I2) (hc : ∀ c, c ∈ snC → c ∉ C) (hf : 54 ∉ F) (h : snR I n fl s) : snR I2 n fl s :=
  snR_sm h ⟨fun c q => e.1 c (hc c q) (by revert c; decide), fun k q => e.2 k (by rw [List.mem_singleton.mp q]; exact hf)⟩
theorem kp_of {I I2 : sw_I} {n fl z : Nat} {C F : List Nat} (e : eqm C F I I2) (hc : ∀ c, c ∈ kpC → c ∉ C) (hf : 6 ∉ F) (hn : n ≤ 10) (h : kpR I n fl z) : kpR I2 n fl z :=
  kpR_sm hn h ⟨fun c q => e.1 c (hc c q) (by revert c; decide), fun k q => e.2 k (by rw [List.mem_singleton.mp q]; exact hf)⟩
abbrev noC : List Nat := [13, 13 + 1, 13 + 2, 13 + 3, 144]
theorem now_of {I I2 : sw_I} {n fl : Nat} {C F : List Nat} (e : eqm C F I I2) (hc : ∀ c, c ∈ noC → c ∉ C) (hn : n ≤ 10) (h : momR I 13 n fl (I 144)) : momR I2 13 n fl (I2 144) := by
  rw [e.1 144 (hc _ (by decide)) (by decide)]
  refine momR_cong (fun c c1 c2 => ?_) (fun _ _ => rfl) hn h
  obtain ⟨d, hd, rfl⟩ : ∃ d, d < 4 ∧ c = 13 + d := ⟨c - 13, by omega, by omega⟩
  exact e.1 _ (hc _ (by revert d; decide)) (by omega)
theorem past_of {I I2 : sw_I} {n fl q p : Nat} {C F : List Nat} (e : eqm C F I I2) (hc : ∀ c, c ∈ C → (c < 21 ∨ 23 + 84 ≤ c) ∧ c ≠ 155) (hf : 32 ∉ F) (hn : n ≤ 10) (h : pastR I n fl q p) : pastR I2 n fl q p :=
  pastR_cong hn h (fun c c1 c2 => e.1 c (fun w => by have := (hc c w).1; omega) (by omega)) (e.2 _ hf) (e.1 _ (fun w => (hc _ w).2 rfl) (by decide))
theorem rw_of {I I2 : sw_I} {J : sw_J} {r : Nat} {C F : List Nat} (e : eqm C F I I2) (hc : 0 ∉ C) (hf : 1 ∉ F) (h : rwR I J r) : rwR I2 J r := by
  unfold rwR
  rw [e.1 0 hc (by decide), e.2 _ hf]
  exact h
/-- promise: forget -/
theorem p_forget {c : Nat} {I : sw_I} {J : sw_J} {Q : Int32 → Int32 → sw_I → sw_J → Prop} (h : wW c I J) (hQ : ∀ v I2 J2, wW c I2 J2 → I2 140 0 = 0 → Q v v I2 J2) :
    wp_X9_forget I J (fun r I1 J1 => wp_X10_forget I1 J1 (fun r2 I2 J2 => Q r r2 I2 J2)) := by
  obtain ⟨n, fl, m, q, p, r, t, s, z, h0, h1, h2, h3, h4, h5, h6, h7, h8⟩ := h
  have hn := h1.2.2.1
  intro y hy I1 e1 I2 e2 y2 hy2 I3 e3
  have v : y2 = y := by rw [hy2, hy, e2, sw_up_slot _ _ _ _ (by decide), e1, sw_up_cell _ _ _ _ (by decide), h7.2.1, h7.2.2.1]
  have e : eqm [109] [0, 54] I I3 := by
    rw [e3, e2, e1]; exact ((eqm.rf.upC (by decide) (by decide) _ _).upF (by decide) _).upF (by decide) _
  rw [v]
  refine hQ y I3 J ⟨n, fl, m, q, p, r, t, 0, z, ⟨h0.1, rb_of e (by decide) h0.2⟩, hs_of e (by decide) (by decide) h1, l_of e (by decide) (by decide) h2, now_of e (by decide) hn h3, past_of e (by decide) (by decide) hn h4, rw_of e (by decide) (by decide) h5, tx_of e (by decide) (by decide) h6, ⟨by omega, ?_, ?_, fun i hi => by omega⟩, kp_of e (by decide) (by decide) hn h8⟩ ?_
  · rw [e3, sw_up_cell _ _ _ _ (by decide), e2, sw_up_cell _ _ _ _ (by decide), e1, sw_up_same]; rfl
  · rw [e3, sw_up_same]; rfl
  · rw [e3, sw_up_slot _ _ _ _ (by decide), e2, sw_up_same]
theorem s_X1_hasFloor {fl : Nat} (hfl : fl ≤ 9) {x : Int32} {I : sw_I} {J : sw_J} {Q : Int32 → sw_I → sw_J → Prop} (hf : I 3 0 = nI fl) (h0 : (x < 0 ∨ nI fl ≤ x) → Q 0 I J) (h1 : ∀ k, k < fl → x = nI k → Q 1 I J) : wp_X1_hasFloor x I J Q := by
  unfold wp_X1_hasFloor
  rw [hf]
  refine ⟨fun c => h0 (Or.inl c), fun c => ⟨fun c2 => ?_, fun c2 => h0 (Or.inr (Int32.not_lt.mp c2))⟩⟩
  obtain ⟨k, hk, e⟩ := ixN (n := fl) (by omega) c (Int32.not_le.mpr c2)
  exact h1 k hk e
theorem s_X1_hasRider {n : Nat} (hn : n ≤ 10) {x : Int32} {I : sw_I} {J : sw_J} {Q : Int32 → sw_I → sw_J → Prop} (hf : I 3 2 = nI n) (h0 : (x < 0 ∨ nI n ≤ x) → Q 0 I J) (h1 : ∀ k, k < n → x = nI k → Q 1 I J) : wp_X1_hasRider x I J Q := by
  unfold wp_X1_hasRider
  rw [hf]
  refine ⟨fun c => h0 (Or.inl c), fun c => ⟨fun c2 => ?_, fun c2 => h0 (Or.inr (Int32.not_lt.mp c2))⟩⟩
  obtain ⟨k, hk, e⟩ := ixN (n := n) (by omega) c (Int32.not_le.mpr c2)
  exact h1 k hk e
/-- none of the first n is out of them -/
theorem ix_out {n k : Nat} {x : Int32} (hn : n < 2 ^ 31) (hk : k < n) (e : x = nI k) (h : x < 0 ∨ nI n ≤ x) : False := by
  rcases h with q | q
  · rw [e] at q; exact nI_pos (by omega) q
  · rw [e] at q; exact nI_ge hk (by omega) q
/-- promise: dog -/
theorem p_dog {c : Nat} {x : Int32} {I : sw_I} {J : sw_J} {Q : Int32 → Int32 → sw_I → sw_J → Prop} (h : wW c I J) (hQ : ∀ v I2 J2, wW c I2 J2 → I2 140 0 = 0 → Q v v I2 J2) :
    wp_X9_dog x I J (fun r I1 J1 => wp_X10_dog x I1 J1 (fun r2 I2 J2 => Q r r2 I2 J2)) := by
  obtain ⟨n, fl, m, q, p, r, t, s, z, h0, h1, h2, h3, h4, h5, h6, h7, h8⟩ := id h
  have hn := h1.2.2.1
  obtain ⟨a1, a2, a3, a4, a5, a6, a7, a8, a9, a10, a11⟩ := id h1
  have fin : fw fl x → ∀ I3, I3 = sw_up (sw_up (sw_up I 3 1 x) 140 0 0) 140 5 x → Q 1 1 I3 J := by
    intro hx I3 e3
    have e : eqm [3] [0, 5] I I3 := by
      rw [e3]; exact ((eqm.rf.upC (by decide) (by decide) _ _).upF (by decide) _).upF (by decide) _
    have b3 : ∀ k, k ≠ 1 → I3 3 k = I 3 k := fun k hk => by rw [e3, sw_up_cell _ _ _ _ (by decide), sw_up_cell _ _ _ _ (by decide), sw_up_slot _ _ _ _ hk]
    have d3 : I3 3 1 = x := by rw [e3, sw_up_cell _ _ _ _ (by decide), sw_up_cell _ _ _ _ (by decide), sw_up_same]
    have d4 : I3 140 5 = x := by rw [e3, sw_up_same]
    refine hQ 1 I3 J ⟨n, fl, m, q, p, r, t, s, z, ⟨h0.1, rb_of e (by decide) h0.2⟩, ⟨a1, a2, a3, ?_, ?_, ?_, ?_, ?_, ?_, ?_, ?_⟩, l_of e (by decide) (by decide) h2, now_of e (by decide) hn h3, past_of e (by decide) (by decide) hn h4, rw_of e (by decide) (by decide) h5, tx_of e (by decide) (by decide) h6, sn_of e (by decide) (by decide) h7, kp_of e (by decide) (by decide) hn h8⟩ ?_
    · rw [b3 _ (by decide)]; exact a4
    · rw [e.2 _ (by decide)]; exact a5
    · rw [b3 _ (by decide)]; exact a6
    · rw [e.2 _ (by decide)]; exact a7
    · rw [d3, d4]
    · rw [d4]; exact hx
    · rw [e.1 4 (by decide) (by decide), e.1 142 (by decide) (by decide)]; exact a10
    · rw [e.1 5 (by decide) (by decide), e.1 143 (by decide) (by decide)]; exact a11
    · rw [e3, sw_up_slot _ _ _ _ (by decide), sw_up_same]
  unfold wp_X9_dog
  by_cases cx : x = -1
  · rw [sw_if_t cx]
    intro I1 e1 I2 e2
    rw [sw_if_t cx]
    intro I3 e3
    exact fin (Or.inl cx) I3 (by rw [e3, e2, e1])
  · rw [sw_if_f cx]
    refine s_X1_hasFloor a2 a4 (fun co => ?_) (fun k hk ek => ?_)
    · rw [sw_if_t rfl]
      intro I2 e2
      rw [sw_if_f cx]
      have e : eqm [] [0] I I2 := by rw [e2]; exact eqm.rf.upF (by decide) _
      refine s_X10_isFloor (n := fl) (by omega) (by rw [e.2 _ (by decide)]; exact a5) (fun _ => ?_) (fun k hk ek => absurd co (fun w => ix_out (by omega) hk ek w))
      rw [sw_if_t rfl]
      exact hQ 0 I2 J ⟨n, fl, m, q, p, r, t, s, z, wR_scr ⟨h0, h1, h2, h3, h4, h5, h6, h7, h8⟩ (e.mono (by decide) (by decide)) rfl rfl⟩ (by rw [e2, sw_up_same])
    · rw [sw_if_f (by decide)]
      intro I1 e1 I2 e2
      rw [sw_if_f cx]
      refine s_X10_isFloor (n := fl) (by omega) (by rw [e2, sw_up_slot _ _ _ _ (by decide), e1, sw_up_cell _ _ _ _ (by decide)]; exact a5) (fun co => absurd co (fun w => ix_out (by omega) hk ek w)) (fun k2 _ _ => ?_)
      rw [sw_if_f (by decide)]
      intro I3 e3
      exact fin (Or.inr ⟨k, hk, ek⟩) I3 (by rw [e3, e2, e1])
