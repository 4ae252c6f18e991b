/-! the reference's STOP -/
def eqm (C F : List Nat) (I I2 : sw_I) : Prop := (∀ a, a ∉ C → a ≠ 140 → I2 a = I a) ∧ ∀ k, k ∉ F → I2 140 k = I 140 k
theorem eqm.rf {C F : List Nat} {I : sw_I} : eqm C F I I := ⟨fun _ _ _ => rfl, fun _ _ => rfl⟩
theorem eqm.tr {C F : List Nat} {I I2 I3 : sw_I} (h : eqm C F I I2) (h2 : eqm C F I2 I3) : eqm C F I I3 := ⟨fun a ha hm => (h2.1 a ha hm).trans (h.1 a ha hm), fun k hk => (h2.2 k hk).trans (h.2 k hk)⟩
theorem eqm.mono {C F C2 F2 : List Nat} {I I2 : sw_I} (h : eqm C F I I2) (hc : ∀ a, a ∈ C → a ∈ C2) (hf : ∀ a, a ∈ F → a ∈ F2) : eqm C2 F2 I I2 := ⟨fun a ha hm => h.1 a (fun q => ha (hc a q)) hm, fun k hk => h.2 k (fun q => hk (hf k q))⟩
theorem eqm.at {C F : List Nat} {I I2 : sw_I} (h : eqm C F I I2) {a : Nat} (ha : a ∉ C) (hm : a ≠ 140) (b : Nat) : I2 a b = I a b := by rw [h.1 a ha hm]
theorem eqm.upC {C F : List Nat} {I I2 : sw_I} (h : eqm C F I I2) {c : Nat} (hc : c ∈ C) (hm : c ≠ 140) (k : Nat) (v : Int32) : eqm C F I (sw_up I2 c k v) := ⟨fun a ha hma => by rw [sw_up_row I2 k v (fun q : a = c => ha (by rw [q]; exact hc))]; exact h.1 a ha hma, fun j hj => by rw [sw_up_cell I2 k j v (Ne.symm hm)]; exact h.2 j hj⟩
theorem eqm.upF {C F : List Nat} {I I2 : sw_I} (h : eqm C F I I2) {k : Nat} (hk : k ∈ F) (v : Int32) : eqm C F I (sw_up I2 140 k v) := ⟨fun a ha hma => by rw [sw_up_row I2 k v hma]; exact h.1 a ha hma, fun j hj => by rw [sw_up_slot I2 140 140 v (fun q : j = k => hj (by rw [q]; exact hk))]; exact h.2 j hj⟩
theorem eqx.eqm {S C F : List Nat} {I I2 : sw_I} (h : eqx S I I2) (hs : ∀ a, a ∈ S → a ∈ C) (hm : 140 ∉ S) : eqm C F I I2 := ⟨fun a ha _ => h a (fun q => ha (hs a q)), fun k _ => h.at hm k⟩
theorem bit01 (x : Int32) : x &&& 1 = 0 ∨ x &&& 1 = 1 := by
  have h := pk_and x (m := 1) 1 (by decide)
  have h2 : x.toBitVec.toNat % 2 ^ 1 = 0 ∨ x.toBitVec.toNat % 2 ^ 1 = 1 := by omega
  rw [h]
  rcases h2 with e | e <;> rw [e]
  · exact Or.inl rfl
  · exact Or.inr rfl
theorem inB_1 (s : Int32) (k : Nat) : inB s k = decide (((s >>> (nI k &&& 31)) &&& 1) = 1) := by
  unfold inB
  rcases bit01 (s >>> (nI k &&& 31)) with e | e <;> rw [e] <;> decide
theorem s_X10_has {s : Int32} {k : Nat} {I : sw_I} {J : sw_J} {Q : Int32 → sw_I → sw_J → Prop} (h : Q (if inB s k then 1 else 0) I J) : wp_X10_has s (nI k) I J Q := by
  rw [inB_1] at h
  refine ⟨fun c => ?_, fun c => ?_⟩
  · simp [c] at h; exact h
  · simp [c] at h; exact h
def mscOK (b : Nat) (s : Int32) (n : Nat) (I I2 : sw_I) : Prop := I2 140 28 = bcF s ∧ I2 140 29 = I b 31 ∧ I2 140 30 = I b 32 ∧ (∀ f, f < 9 → I2 153 f = ct (fun i => inB s i && decide (I b (10 + i) = nI f)) n) ∧ ∀ f, f < 9 → I2 154 f = ct (fun i => !inB s i && decide (I b i = nI f)) n
abbrev mscC : List Nat := [153, 154]
abbrev maF : List Nat := [28, 29, 30]
/-- a row of the reference: places (9: at home), wishes (below 0: none) of n riders -/
def mrow (b n : Nat) (I : sw_I) : Prop := ∀ i, i < n → (I b i = 9 ∨ ∃ j, j < 9 ∧ I b i = nI j) ∧ (I b (10 + i) = -1 ∨ ∃ j, j < 9 ∧ I b (10 + i) = nI j)
theorem add10 (k : Nat) : (10 : Int32) + nI k = nI (10 + k) := nI_add 10 k
theorem ne9 {f : Nat} (hf : f < 9) : ¬ (9 : Int32) = nI f := fun q => by
  have := (nI_eq (a := 9) (b := f) (by decide) (by omega)).mp q
  omega
theorem nem1 {f : Nat} (hf : f < 2 ^ 31) : ¬ (-1 : Int32) = nI f := fun q => nI_pos (n := f) hf (by rw [← q]; decide)
theorem s_looks_loop {b n : Nat} (hn : n ≤ 10) (hb : b ∉ mscC) (hbm : b ≠ 140) {s : Int32} {I : sw_I} {J : sw_J} {Q : sw_I → sw_J → Prop} (hr : I 140 4 = nI n) (hrow : mrow b n I) (h : ∀ I2, eqm mscC maF I I2 → mscOK b s n I I2 → Q I2 J) :
    ∀ (d k : Nat) (I2 : sw_I), k + d = n → eqm mscC maF I I2 → mscOK b s k I I2 → wl_X10_looks_54 b 33 Q (d + 1) s (nI k) I2 J := by
  intro d
  induction d with
  | zero =>
    intro k I2 hk he hv
    obtain rfl : k = n := by omega
    show wb_X10_looks_54 b 33 _ Q _ _ I2 J
    unfold wb_X10_looks_54
    rw [sw_if_f (by rw [he.2 _ (by decide), hr]; exact nI_nlt (Nat.le_refl _) (by omega))]
    exact h I2 he hv
  | succ d ih =>
    intro k I2 hk he hv
    show wb_X10_looks_54 b 33 _ Q _ _ I2 J
    unfold wb_X10_looks_54
    rw [sw_if_t (by rw [he.2 _ (by decide), hr]; exact nI_lt (by omega) (by omega))]
    obtain ⟨v1, v2, v3, v4, v5⟩ := hv
    obtain ⟨r1, r2⟩ := hrow k (by omega)
    refine s_X10_has ?_
    rw [add10, nI_clamp (by omega), nI_clamp (by omega), he.at hb hbm, he.at hb hbm]
    have nxt : ∀ I3, eqm mscC maF I I3 → mscOK b s (k + 1) I I3 → wB_X10_looks_117 b 33 (wl_X10_looks_54 b 33 Q (d + 1)) Q s (nI k) I3 J := by
      intro I3 e3 o3 y hy
      rw [hy, nI_1]
      exact ih (k + 1) I3 (by omega) e3 o3
    cases cb : inB s k with
    | false =>
      rw [sw_if_t (by simp)]
      refine ⟨vp0 (by omega) (by decide), ?_⟩
      rcases r1 with r1 | ⟨j, hj, r1⟩
      · rw [r1, sw_if_t rfl]
        refine nxt I2 he ⟨v1, v2, v3, ?_, ?_⟩
        · intro f hf; rw [v4 f hf]; show _ = ct _ k + _; simp [cb]
        · intro f hf; rw [v5 f hf]; show _ = ct _ k + _; simp [cb, r1, ne9 hf]
      · rw [r1, sw_if_f (fun q => ne9 hj q.symm), nI_clamp (by omega)]
        refine ⟨vp0 (by omega) (by decide), vp0 hj (by decide), vp0 hj (by decide), fun I3 h3 => ?_⟩
        refine nxt I3 (by rw [h3]; exact he.upC (by decide) (by decide) _ _) ⟨?_, ?_, ?_, ?_, ?_⟩
        · rw [h3, sw_up_cell _ _ _ _ (by decide)]; exact v1
        · rw [h3, sw_up_cell _ _ _ _ (by decide)]; exact v2
        · rw [h3, sw_up_cell _ _ _ _ (by decide)]; exact v3
        · intro f hf; rw [h3, sw_up_cell _ _ _ _ (by decide), v4 f hf]; show _ = ct _ k + _; simp [cb]
        · intro f hf
          rw [h3]
          show _ = ct _ k + _
          by_cases e : f = j
          · subst e; rw [sw_up_same, v5 f hf]; simp [cb, r1]
          · rw [sw_up_slot _ _ _ _ e, v5 f hf]
            have : ¬ nI j = nI f := fun q => e ((nI_eq (by omega) (by omega)).mp q).symm
            simp [cb, r1, this]
    | true =>
      rw [sw_if_f (by simp)]
      refine ⟨vp0 (by omega) (by decide), ?_⟩
      rcases r2 with r2 | ⟨j, hj, r2⟩
      · rw [r2, sw_if_t (by decide)]
        refine nxt I2 he ⟨v1, v2, v3, ?_, ?_⟩
        · intro f hf; rw [v4 f hf]; show _ = ct _ k + _; simp [cb, r2, nem1 (show f < 2 ^ 31 by omega)]
        · intro f hf; rw [v5 f hf]; show _ = ct _ k + _; simp [cb]
      · rw [r2, sw_if_f (nI_pos (by omega)), nI_clamp (by omega)]
        refine ⟨vp0 (by omega) (by decide), vp0 hj (by decide), vp0 hj (by decide), fun I3 h3 => ?_⟩
        refine nxt I3 (by rw [h3]; exact he.upC (by decide) (by decide) _ _) ⟨?_, ?_, ?_, ?_, ?_⟩
        · rw [h3, sw_up_cell _ _ _ _ (by decide)]; exact v1
        · rw [h3, sw_up_cell _ _ _ _ (by decide)]; exact v2
        · rw [h3, sw_up_cell _ _ _ _ (by decide)]; exact v3
        · intro f hf
          rw [h3]
          show _ = ct _ k + _
          by_cases e : f = j
          · subst e; rw [sw_up_same, v4 f hf]; simp [cb, r2]
          · rw [sw_up_slot _ _ _ _ e, v4 f hf]
            have : ¬ nI j = nI f := fun q => e ((nI_eq (by omega) (by omega)).mp q).symm
            simp [cb, r2, this]
        · intro f hf; rw [h3, sw_up_cell _ _ _ _ (by decide), v5 f hf]; show _ = ct _ k + _; simp [cb]
theorem s_looks_zero {b n : Nat} (hn : n ≤ 10) (hb : b ∉ mscC) (hbm : b ≠ 140) {s : Int32} {I : sw_I} {J : sw_J} {Q : sw_I → sw_J → Prop} (hr : I 140 4 = nI n) (hrow : mrow b n I) (h : ∀ I2, eqm mscC maF I I2 → mscOK b s n I I2 → Q I2 J) :
    ∀ (d k : Nat) (I2 : sw_I), k + d = 9 → eqm mscC maF I I2 → (I2 140 28 = bcF s ∧ I2 140 29 = I b 31 ∧ I2 140 30 = I b 32) → (∀ f, f < k → I2 153 f = 0 ∧ I2 154 f = 0) → wl_X10_looks_26 b 33 Q (d + 1) s (nI k) I2 J := by
  intro d
  induction d with
  | zero =>
    intro k I2 hk he hv hz
    obtain rfl : k = 9 := by omega
    show wb_X10_looks_26 b 33 _ Q _ _ I2 J
    unfold wb_X10_looks_26
    rw [sw_if_f (show ¬ nI 9 < (9 : Int32) by decide)]
    exact ⟨n + 1, s_looks_loop hn hb hbm hr hrow h n 0 I2 (by omega) he ⟨hv.1, hv.2.1, hv.2.2, fun f hf => (hz f hf).1, fun f hf => (hz f hf).2⟩⟩
  | succ d ih =>
    intro k I2 hk he hv hz
    show wb_X10_looks_26 b 33 _ Q _ _ I2 J
    unfold wb_X10_looks_26
    rw [sw_if_t (show nI k < (9 : Int32) from nI_lt (b := 9) (by omega) (by decide)), nI_clamp (by omega)]
    refine ⟨vp0 (by omega) (by decide), fun I3 h3 => ⟨vp0 (by omega) (by decide), fun I4 h4 y hy => ?_⟩⟩
    rw [hy, nI_1]
    refine ih (k + 1) I4 (by omega) ?_ ⟨?_, ?_, ?_⟩ (fun f hf => ?_)
    · rw [h4, h3]; exact (he.upC (by decide) (by decide) _ _).upC (by decide) (by decide) _ _
    · rw [h4, sw_up_cell _ _ _ _ (by decide), h3, sw_up_cell _ _ _ _ (by decide)]; exact hv.1
    · rw [h4, sw_up_cell _ _ _ _ (by decide), h3, sw_up_cell _ _ _ _ (by decide)]; exact hv.2.1
    · rw [h4, sw_up_cell _ _ _ _ (by decide), h3, sw_up_cell _ _ _ _ (by decide)]; exact hv.2.2
    · rw [h4, sw_up_cell _ _ _ _ (by decide), h3]
      by_cases e : f = k
      · subst e
        rw [sw_up_same, sw_up_same]; exact ⟨rfl, rfl⟩
      · rw [sw_up_slot _ _ _ _ e, sw_up_slot _ _ _ _ e, sw_up_cell _ _ _ _ (by decide)]; exact hz f (by omega)
theorem s_X10_looks {b n : Nat} (hn : n ≤ 10) (hb : b ∉ mscC) (hbm : b ≠ 140) {s : Int32} {I : sw_I} {J : sw_J} {Q : sw_I → sw_J → Prop} (hr : I 140 4 = nI n) (hrow : mrow b n I) (h : ∀ I2, eqm mscC maF I I2 → mscOK b s n I I2 → Q I2 J) : wp_X10_looks b 33 s I J Q := by
  refine s_J6_bitCount ?_
  intro I2 h2
  refine ⟨by unfold vp_in; decide, fun I3 h3 => ⟨by unfold vp_in; decide, fun I4 h4 => ?_⟩⟩
  have q2 : eqm mscC maF I I2 := by rw [h2]; exact eqm.rf.upF (by decide) _
  have q3 : eqm mscC maF I I3 := by rw [h3]; exact q2.upF (by decide) _
  have q4 : eqm mscC maF I I4 := by rw [h4]; exact q3.upF (by decide) _
  refine ⟨10, s_looks_zero hn hb hbm hr hrow h 9 0 I4 (by omega) q4 ⟨?_, ?_, ?_⟩ (fun f hf => absurd hf (Nat.not_lt_zero f))⟩
  · rw [h4, sw_up_slot _ _ _ _ (by decide), h3, sw_up_slot _ _ _ _ (by decide), h2, sw_up_same]
  · rw [h4, sw_up_slot _ _ _ _ (by decide), h3, sw_up_same, q2.at hb hbm]; rfl
  · rw [h4, sw_up_same, q3.at hb hbm]; rfl
