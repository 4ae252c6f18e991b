/-! the relation where the Moment and its past change -/
def cpV (a b : Nat) (I I2 : sw_I) : Prop := (∀ i, i < 10 → I2 (a + 1) i = I (b + 1) i ∧ I2 (a + 2) i = I (b + 2) i ∧ I2 (a + 3) i = I (b + 3) i) ∧ I2 a 3 = I b 3 ∧ I2 a 4 = I b 4 ∧ I2 a 5 = I b 5
theorem pastR_push {I If : sw_I} {n fl q p a : Nat} (hn : n ≤ 10) (h : pastR I n fl q p) (hm : momR I a n fl (I 144)) (hr : ∀ c, 21 < c → c < 23 + 84 → (c < 23 + 4 * q ∨ 23 + 4 * q + 4 ≤ c) → If c = I c) (hc : cpV (23 + 4 * q) a I If)
    (h1 : If 21 1 = nI ((q + 1) % 21)) (h2 : If 21 2 = nI (adN p)) (h3 : If 140 32 = nI (adN p)) (h4 : If 155 = adF (puF (I 155) (I 144) p 33) p) : pastR If n fl ((q + 1) % 21) (adN p) := by
  have hq := h.1
  let I2 : sw_I := fun c => if 23 + 4 * q ≤ c ∧ c < 23 + 4 * q + 4 then If c else I c
  let I3 : sw_I := fun c => if c = 155 then puF (I 155) (I 144) p 33 else I2 c
  have e2 : ∀ c, 23 + 4 * q ≤ c → c < 23 + 4 * q + 4 → I2 c = If c := fun c c1 c2 => if_pos ⟨c1, c2⟩
  have e2n : ∀ c, (c < 23 + 4 * q ∨ 23 + 4 * q + 4 ≤ c) → I2 c = I c := fun c c1 => if_neg (by omega)
  have k2 : copyOK (23 + 4 * q) a I I2 := by
    refine ⟨e2n, fun i hi => ?_, ?_, ?_, ?_⟩
    · rw [e2 _ (by omega) (by omega), e2 _ (by omega) (by omega), e2 _ (by omega) (by omega)]; exact hc.1 i hi
    · rw [e2 _ (by omega) (by omega)]; exact hc.2.1
    · rw [e2 _ (by omega) (by omega)]; exact hc.2.2.1
    · rw [e2 _ (by omega) (by omega)]; exact hc.2.2.2
  have x3 : eqx [155] I2 I3 := fun c hcc => if_neg (by simpa using hcc)
  have u3 : I3 155 = puF (I 155) (I 144) p 33 := if_pos rfl
  obtain ⟨g1, g2⟩ := pastR_prep hn h hm k2 x3 u3
  refine pastR_commit hn g1 g2 (fun c c1 c2 => ?_) h1 h2 h3 (by rw [h4, u3])
  rw [x3 c (by simp; omega)]
  by_cases cc : c < 23 + 4 * q ∨ 23 + 4 * q + 4 ≤ c
  · rw [e2n c cc]; exact hr c c1 c2 cc
  · rw [e2 c (by omega) (by omega)]
abbrev txC : List Nat := [1, 2, 146]
theorem txR_sm {I I2 : sw_I} {t : Nat} (h : txR I t) (e : sm txC [12] I I2) : txR I2 t := by
  unfold txR
  rw [e.1 1 (by decide), e.1 2 (by decide), e.1 146 (by decide), e.2 12 (by decide)]
  exact h
abbrev snC : List Nat := [109, 110, 111, 112, 167, 168, 169]
theorem snR_sm {I I2 : sw_I} {n fl s : Nat} (h : snR I n fl s) (e : sm snC [54] I I2) : snR I2 n fl s := by
  unfold snR
  rw [e.1 109 (by decide), e.1 110 (by decide), e.1 111 (by decide), e.1 112 (by decide), e.1 167 (by decide), e.1 168 (by decide), e.1 169 (by decide), e.2 54 (by decide)]
  exact h
abbrev kpC : List Nat := [108, 171, 172, 173, 128, 128 + 1, 128 + 2, 128 + 3, 128 + 4, 128 + 5, 128 + 6, 128 + 7, 128 + 8, 128 + 9, 128 + 10, 128 + 11]
theorem kept_in : ∀ k, k < 12 → 128 + k ∈ kpC := by decide +kernel
theorem kpR_sm {I I2 : sw_I} {n fl z : Nat} (hn : n ≤ 10) (h : kpR I n fl z) (e : sm kpC [6] I I2) : kpR I2 n fl z := by
  unfold kpR
  rw [e.1 108 (by decide), e.1 171 (by decide), e.1 172 (by decide), e.1 173 (by decide), e.2 6 (by decide)]
  refine ⟨h.1, fun k hk => ?_⟩
  rcases h.2 k hk with q | ⟨q1, q2, q3, q4⟩
  · exact Or.inl q
  · refine Or.inr ⟨q1, q2, q3, momR_cong (fun c c1 c2 => ?_) (fun _ _ => rfl) hn q4⟩
    obtain ⟨d, hd, rfl⟩ : ∃ d, d < 12 ∧ c = 128 + d := ⟨c - 128, by omega, by omega⟩
    exact e.1 _ (kept_in d hd)
/-- all cells and slots of house, law, text, what was seen, what is kept -/
abbrev stC : List Nat := hsC ++ lC ++ txC ++ snC ++ kpC
abbrev stS : List Nat := hsF ++ lF ++ [12, 54, 6]
theorem wR_moved {c c2 : Nat} {I If : sw_I} {J Jf : sw_J} {n fl m q p r t s z q2 p2 r2 : Nat} (h : wR c I J n fl m q p r t s z) (e : sm stC stS I If) (hm : momR If 13 n fl (If 144)) (hp : pastR If n fl q2 p2) (hr : rwR If Jf r2) (hc2 : c ≤ c2) (hb : rbR c2 If) : wR c2 If Jf n fl m q2 p2 r2 t s z := by
  obtain ⟨h0, h1, h2, h3, h4, h5, h6, h7, h8⟩ := h
  exact ⟨⟨Nat.le_trans h0.1 hc2, hb⟩, hsR_cong h1 (e.mono (by decide) (by decide)), lR_cong h2 (e.mono (by decide) (by decide)), hm, hp, hr, txR_sm h6 (e.mono (by decide) (by decide)), snR_sm h7 (e.mono (by decide) (by decide)), kpR_sm h1.2.2.1 h8 (e.mono (by decide) (by decide))⟩
theorem eqx.sm {S C F : List Nat} {I I2 : sw_I} (h : eqx S I I2) (hs : ∀ a, a ∈ C → a ∉ S) (hm : 140 ∉ S) : sm C F I I2 := ⟨fun c hc => h c (hs c hc), fun k _ => h.at hm k⟩
theorem eqm.sm {C F C2 F2 : List Nat} {I I2 : sw_I} (h : eqm C F I I2) (hc : ∀ a, a ∈ C2 → a ∉ C ∧ a ≠ 140) (hf : ∀ k, k ∈ F2 → k ∉ F) : sm C2 F2 I I2 := ⟨fun c q => h.1 c (hc c q).1 (hc c q).2, fun k q => h.2 k (hf k q)⟩
theorem copyOK.sm {a b : Nat} {I I2 : sw_I} (h : copyOK a b I I2) {C F : List Nat} (hc : ∀ c, c ∈ C → c < a ∨ a + 4 ≤ c) (hm : 140 < a ∨ a + 4 ≤ 140) : sm C F I I2 := ⟨fun c q => h.1 c (hc c q), fun k _ => by rw [h.1 _ hm]⟩
theorem stC_ring : ∀ c, c ∈ stC → c < 21 ∨ 23 + 84 ≤ c := by decide +kernel
