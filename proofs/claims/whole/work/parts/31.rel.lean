/-! a Moment of the class and a row of the reference tell the same -/
def plR (fl : Nat) (x y : Int32) : Prop := (x = -1 ∧ y = 9) ∨ (x = y ∧ ∃ j, j < fl ∧ x = nI j)
def relF (pl wi rd : Nat → Int32) (ins lift rides : Int32) (row : Nat → Int32) (n fl : Nat) : Prop := (∀ i, i < n → plR fl (pl i) (row i) ∧ wi i = row (10 + i) ∧ rd i = row (20 + i)) ∧ ins = row 30 ∧ lift = row 31 ∧ rides = row 32
def fw (fl : Nat) (x : Int32) : Prop := x = -1 ∨ ∃ j, j < fl ∧ x = nI j
def valF (pl wi : Nat → Int32) (ins lift : Int32) (n fl : Nat) : Prop := (∀ i, i < n → fw fl (pl i) ∧ fw fl (wi i)) ∧ (∀ i, n ≤ i → i < 10 → pl i = -1) ∧ (∃ l, l < fl ∧ lift = nI l) ∧ ∀ i, i < 32 → inB ins i = true → i < n ∧ pl i = lift
theorem ct_cong {p q : Nat → Bool} : ∀ {n : Nat}, (∀ k, k < n → p k = q k) → ct p n = ct q n
  | 0, _ => rfl
  | n + 1, h => by unfold ct; rw [ct_cong (fun k hk => h k (by omega)), h n (by omega)]
theorem plR_at {fl f : Nat} {x y : Int32} (h : plR fl x y) (hf : f < 9) : decide (x = nI f) = decide (y = nI f) := by
  rcases h with ⟨rfl, rfl⟩ | ⟨rfl, -⟩
  · rw [decide_eq_false (nem1 (by omega)), decide_eq_false (ne9 hf)]
  · rfl
theorem nmF_cong {w w2 s s2 : Nat → Int32} {n lift r : Int32} {k : Nat} (hk : k < 2 ^ 31) (hw : w k = w2 k) (hs : s k = s2 k) : nmF w s n lift r (nI k) = nmF w2 s2 n lift r (nI k) := by
  funext c
  unfold nmF
  rw [nI_clamp hk, hw, hs]
theorem woF_rel {cd : Nat → Int32} {m n fl k : Nat} {pl wi rd row : Nat → Int32} {ins lift rides s l9 r9 : Int32} (h : relF pl wi rd ins lift rides row n fl) (hk : k < 9) : woF cd m pl wi n s l9 r9 k = woF cd m row (fun i => row (10 + i)) n s l9 r9 k := by
  unfold woF
  rw [nmF_cong (k := k) (by omega)]
  · exact ct_cong (fun i hi => by rw [(h.1 i hi).2.1])
  · exact ct_cong (fun i hi => by rw [plR_at (h.1 i hi).1 hk])
theorem nsF_rel {cd : Nat → Int32} {m n fl : Nat} {pl wi rd row : Nat → Int32} {ins lift rides dog s : Int32} (h : relF pl wi rd ins lift rides row n fl) (hfl : fl ≤ 9) : nsF cd m pl wi n fl dog s lift rides = nsF cd m row (fun i => row (10 + i)) n fl dog s (row 31) (row 32) := by
  obtain ⟨-, -, h3, h4⟩ := id h
  rw [← h3, ← h4]
  unfold nsF
  rw [stF_cong (fun j hj => (woF_rel h (by omega)).symm)]
theorem stF_some {lift : Int32} {wv : Nat → Int32} : ∀ {k : Nat}, (∃ j, j < k ∧ ¬ nI j = lift) → k < 2 ^ 31 → ∃ j, j < k ∧ (stF lift wv k).1 = nI j ∧ ¬ nI j = lift
  | 0, h, _ => by obtain ⟨j, hj, -⟩ := h; omega
  | k + 1, h, hk => by
    unfold stF
    by_cases c : nI k = lift
    · rw [if_pos c]
      obtain ⟨j, hj, hne⟩ := h
      have hj2 : j < k := by
        rcases Nat.lt_or_ge j k with q | q
        · exact q
        · have e : j = k := by omega
          subst e; exact absurd c hne
      obtain ⟨j2, a1, a2, a3⟩ := stF_some (wv := wv) (k := k) ⟨j, hj2, hne⟩ (by omega)
      exact ⟨j2, by omega, a2, a3⟩
    · rw [if_neg c]
      split
      · exact ⟨k, by omega, rfl, c⟩
      · rename_i q
        rcases stF_rng lift wv k with z | ⟨j, hj, z⟩
        · exact absurd (Or.inl z) q
        · have hex : ∃ j, j < k ∧ ¬ nI j = lift := by
            apply Classical.byContradiction
            intro hno
            have hall : ∀ j, j < k → nI j = lift := fun j hj => Classical.byContradiction (fun w => hno ⟨j, hj, w⟩)
            have : ∀ i, i ≤ k → (stF lift wv i).1 = -1 := by
              intro i
              induction i with
              | zero => intro _; rfl
              | succ i ih =>
                intro hi
                unfold stF
                rw [if_pos (hall i (by omega))]
                exact ih (by omega)
            have z2 := this k (Nat.le_refl _)
            rw [z] at z2
            exact nem1 (by omega) z2.symm
          obtain ⟨j2, a1, a2, a3⟩ := stF_some (wv := wv) (k := k) hex (by omega)
          exact ⟨j2, by omega, a2, a3⟩
theorem nsF_rng {cd : Nat → Int32} {m n fl : Nat} {pl wi : Nat → Int32} {dog s lift rides : Int32} (hfl : 2 ≤ fl) (hf9 : fl ≤ 9) (hdog : fw fl dog) : ∃ j, j < fl ∧ nsF cd m pl wi n fl dog s lift rides = nI j ∧ ¬ nI j = lift := by
  unfold nsF
  by_cases c : (rides + 1) - (rides + 1) / 7 * 7 = 0 ∧ ¬ dog = -1 ∧ ¬ dog = lift
  · rw [if_pos c]
    rcases hdog with q | ⟨j, hj, q⟩
    · exact absurd q c.2.1
    · exact ⟨j, hj, q, by rw [← q]; exact c.2.2⟩
  · rw [if_neg c]
    refine stF_some ?_ (by omega)
    by_cases c0 : nI 0 = lift
    · exact ⟨1, by omega, fun q => by
        have := (nI_eq (a := 0) (b := 1) (by decide) (by decide)).mp (c0.trans q.symm)
        omega⟩
    · exact ⟨0, by omega, c0⟩
/-- behind a RIDE they still tell the same -/
theorem relF_ride {pl wi rd home row : Nat → Int32} {ins lift rides stop : Int32} {n fl : Nat} (hn : n ≤ 10) (h : relF pl wi rd ins lift rides row n fl) (hs : ∃ j, j < fl ∧ stop = nI j) :
    relF (plF home pl ins stop n) wi (rdF rd ins n) (ins &&& (cmF home ins stop n ^^^ (-1))) stop (rides + 1) (fun j => if j = 32 then row 32 + 1 else if j = 31 then stop else if j = 30 then ins &&& (cmF home ins stop n ^^^ (-1)) else mrF home row ins stop n j) n fl := by
  obtain ⟨h1, h2, h3, h4⟩ := h
  refine ⟨fun i hi => ?_, by simp, by simp, by simp [h4]⟩
  obtain ⟨a1, a2, a3⟩ := h1 i hi
  have e1 : ¬ i = 32 := by omega
  have e2 : ¬ i = 31 := by omega
  have e3 : ¬ i = 30 := by omega
  have f1 : ¬ 10 + i = 32 := by omega
  have f2 : ¬ 10 + i = 31 := by omega
  have f3 : ¬ 10 + i = 30 := by omega
  have g1 : ¬ 20 + i = 32 := by omega
  have g2 : ¬ 20 + i = 31 := by omega
  have g3 : ¬ 20 + i = 30 := by omega
  simp only [e1, e2, e3, f1, f2, f3, g1, g2, g3, if_false]
  have m1 : mrF home row ins stop n (10 + i) = row (10 + i) := by
    unfold mrF
    rw [if_neg (by omega), if_neg (by omega)]
  have m2 : mrF home row ins stop n (20 + i) = if inB ins i = true then row (20 + i) + 1 else row (20 + i) := by
    unfold mrF
    rw [if_neg (by omega)]
    by_cases c : inB ins i = true
    · rw [if_pos ⟨by omega, by omega, by rw [Nat.add_sub_cancel_left]; exact c⟩, if_pos c]
    · rw [if_neg (fun q => c (by have := q.2.2; rw [Nat.add_sub_cancel_left] at this; exact this)), if_neg c]
  rw [m1, m2]
  refine ⟨?_, a2, ?_⟩
  · unfold plF mrF
    by_cases c : inB ins i = true
    · have hc : i < n ∧ inB ins i = true := ⟨hi, c⟩
      by_cases c2 : home i = stop
      · simp only [hc, c2, and_self, if_true]; exact Or.inl ⟨rfl, rfl⟩
      · simp only [hc, c2, and_self, if_true, if_false]; exact Or.inr ⟨rfl, hs⟩
    · rw [if_neg (fun q => c q.2), if_neg (fun q => c q.2), if_neg (by omega)]; exact a1
  · unfold rdF
    by_cases c : inB ins i = true
    · rw [if_pos ⟨hi, c⟩, if_pos c, a3]
    · rw [if_neg (fun q => c q.2), if_neg c, a3]
theorem valF_ride {pl wi home : Nat → Int32} {ins lift stop : Int32} {n fl : Nat} (hn : n ≤ 10) (h : valF pl wi ins lift n fl) (hs : ∃ j, j < fl ∧ stop = nI j) : valF (plF home pl ins stop n) wi (ins &&& (cmF home ins stop n ^^^ (-1))) stop n fl := by
  obtain ⟨h1, h2, h3, h4⟩ := h
  refine ⟨fun i hi => ⟨?_, (h1 i hi).2⟩, fun i hi hi2 => ?_, hs, fun i hi hb => ?_⟩
  · unfold plF
    split
    · split
      · exact Or.inl rfl
      · exact Or.inr hs
    · exact (h1 i hi).1
  · unfold plF
    rw [if_neg (by omega)]
    exact h2 i hi hi2
  · rw [inB_and _ _ hi, inB_not _ hi, Bool.and_eq_true] at hb
    obtain ⟨b1, b2⟩ := hb
    obtain ⟨c1, c2⟩ := h4 i hi b1
    refine ⟨c1, ?_⟩
    unfold cmF at b2
    rw [inB_bs _ n (by omega) i hi] at b2
    unfold plF
    rw [if_pos ⟨c1, b1⟩]
    by_cases c : home i = stop
    · simp [c1, b1, c] at b2
    · rw [if_neg c]
