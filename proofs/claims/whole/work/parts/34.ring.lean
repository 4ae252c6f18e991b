/-! what is undone: the class's ring of Moments, and both together -/
def momR (I : sw_I) (a n fl : Nat) (row : Nat → Int32) : Prop :=
  relF (I (a + 1)) (I (a + 2)) (I (a + 3)) (I a 3) (I a 4) (I a 5) row n fl ∧ valF (I (a + 1)) (I (a + 2)) (I a 3) (I a 4) n fl
theorem momR_cong {I I2 : sw_I} {a n fl : Nat} {row row2 : Nat → Int32} (hc : ∀ c, a ≤ c → c < a + 4 → I2 c = I c) (hr : ∀ j, j < 33 → row2 j = row j) (hn : n ≤ 10) (h : momR I a n fl row) : momR I2 a n fl row2 := by
  unfold momR
  rw [hc a (by omega) (by omega), hc (a + 1) (by omega) (by omega), hc (a + 2) (by omega) (by omega), hc (a + 3) (by omega) (by omega)]
  refine ⟨?_, h.2⟩
  obtain ⟨h1, h2, h3, h4⟩ := h.1
  refine ⟨fun i hi => ?_, ?_, ?_, ?_⟩
  · rw [hr i (by omega), hr (10 + i) (by omega), hr (20 + i) (by omega)]; exact h1 i hi
  · rw [hr 30 (by omega)]; exact h2
  · rw [hr 31 (by omega)]; exact h3
  · rw [hr 32 (by omega)]; exact h4
theorem momR_copy {I I2 : sw_I} {a b n fl : Nat} {row : Nat → Int32} (hc : copyOK a b I I2) (hn : n ≤ 10) (h : momR I b n fl row) : momR I2 a n fl row := by
  obtain ⟨-, c2, c3, c4, c5⟩ := hc
  unfold momR
  rw [c3, c4, c5]
  obtain ⟨⟨h1, h2, h3, h4⟩, g1, g2, g3, g4⟩ := h
  refine ⟨⟨fun i hi => ?_, h2, h3, h4⟩, fun i hi => ?_, fun i hi hi2 => ?_, g3, fun i hi hb => ?_⟩
  · rw [(c2 i (by omega)).1, (c2 i (by omega)).2.1, (c2 i (by omega)).2.2]; exact h1 i hi
  · rw [(c2 i (by omega)).1, (c2 i (by omega)).2.1]; exact g1 i hi
  · rw [(c2 i (by omega)).1]; exact g2 i hi hi2
  · obtain ⟨q1, q2⟩ := g4 i hi hb
    refine ⟨q1, ?_⟩
    rw [(c2 i (by omega)).1]; exact q2
/-- the ring's cell of the k-th of p -/
def rgA (q p k : Nat) : Nat := 23 + 4 * ((q + 21 - p + k) % 21)
def pastR (I : sw_I) (n fl q p : Nat) : Prop :=
  q < 21 ∧ p ≤ 20 ∧ I 21 1 = nI q ∧ I 21 2 = nI p ∧ I 140 32 = nI p ∧ ∀ k, k < p → momR I (rgA q p k) n fl (fun j => I 155 (33 * k + j))
theorem s_X4_prepare {a q : Nat} (ha : a + 4 ≤ 23 ∨ 23 + 84 ≤ a) (hq : q < 21) {I : sw_I} {J : sw_J} {Q : sw_I → sw_J → Prop} (h1 : I 21 1 = nI q) (h : ∀ I2, copyOK (23 + 4 * q) a I I2 → Q I2 J) : wp_X4_prepare a I J Q := by
  unfold wp_X4_prepare
  rw [h1, nI_clamp (by omega)]
  exact ⟨vp0 hq (by decide), s_X3_copy (by omega) h⟩
theorem s_X4_commit {q p : Nat} (hq : q < 21) (hp : p ≤ 20) {I : sw_I} {J : sw_J} {Q : sw_I → sw_J → Prop} (h1 : I 21 1 = nI q) (h2 : I 21 2 = nI p) (h : ∀ I2, eqx [21] I I2 → I2 21 1 = nI ((q + 1) % 21) → I2 21 2 = nI (adN p) → Q I2 J) : wp_X4_commit I J Q := by
  have nxt : ∀ v, v = nI ((q + 1) % 21) → wB_X4_commit_22 Q v I J := by
    intro v hv I1 e1 I3 e3
    have s1 : I1 21 2 = nI p := by rw [e1, sw_up_slot _ _ _ _ (by decide), h2]
    refine h I3 (by rw [e3, e1]; exact (eqx.rf.up (by decide) _ _).up (by decide) _ _) ?_ ?_
    · rw [e3, sw_up_slot _ _ _ _ (by decide), e1, sw_up_same, hv]
    · rw [e3, sw_up_same, s1, nI_1]
      unfold adN
      by_cases c : p = 20
      · rw [if_pos c, if_pos (by rw [c]; decide)]; rfl
      · rw [if_neg c, if_neg (show ¬ (20 : Int32) < nI (p + 1) from nI_nlt (a := 20) (by omega) (by decide))]
  unfold wp_X4_commit
  rw [h1, nI_1]
  by_cases c : q = 20
  · rw [sw_if_f (show ¬ nI (q + 1) < (21 : Int32) by rw [c]; decide)]
    exact nxt _ (by rw [c]; rfl)
  · rw [sw_if_t (show nI (q + 1) < (21 : Int32) from nI_lt (b := 21) (by omega) (by decide))]
    exact nxt _ (by rw [Nat.mod_eq_of_lt (by omega)])
theorem s_X4_bringBack {a q p : Nat} (ha : a + 4 ≤ 23 ∨ 23 + 84 ≤ a) (hq : q < 21) (hp : p ≤ 20) {I : sw_I} {J : sw_J} {Q : Int32 → sw_I → sw_J → Prop} (h1 : I 21 1 = nI q) (h2 : I 21 2 = nI p) (h0 : p = 0 → Q 0 I J)
    (h : 0 < p → ∀ I1 I2, eqx [21] I I1 → I1 21 1 = nI ((q + 20) % 21) → I1 21 2 = nI (p - 1) → copyOK a (23 + 4 * ((q + 20) % 21)) I1 I2 → Q 1 I2 J) : wp_X4_bringBack a I J Q := by
  unfold wp_X4_bringBack
  rw [h2]
  rcases Nat.eq_zero_or_pos p with c | c
  · rw [sw_if_t (by rw [c]; rfl)]; exact h0 c
  · rw [sw_if_f (nI_ne0 c (by omega)), h1]
    have nxt : ∀ v, v = nI ((q + 20) % 21) → wB_X4_bringBack_28 a Q v I J := by
      intro v hv I1 e1 I3 e3
      have s1 : I1 21 2 = nI p := by rw [e1, sw_up_slot _ _ _ _ (by decide), h2]
      have n3 : I3 21 1 = nI ((q + 20) % 21) := by rw [e3, sw_up_slot _ _ _ _ (by decide), e1, sw_up_same, hv]
      have z3 : I3 21 2 = nI (p - 1) := by rw [e3, sw_up_same, s1, nI_sub1 c]
      rw [n3, nI_clamp (by omega)]
      exact ⟨vp0 (by omega) (by decide), s_X3_copy (by omega) (fun I2 h2 => h c I3 I2 (by rw [e3, e1]; exact (eqx.rf.up (by decide) _ _).up (by decide) _ _) n3 z3 h2)⟩
    rcases Nat.eq_zero_or_pos q with c2 | c2
    · rw [sw_if_f (by rw [c2]; decide)]
      exact nxt _ (by rw [c2]; rfl)
    · rw [sw_if_t (show (0 : Int32) < nI q from nI_lt (a := 0) c2 (by omega))]
      exact nxt _ (by rw [nI_sub1 c2]; congr 1; omega)
/-- the past is kept where neither its ring nor its rows change -/
theorem pastR_cong {I I2 : sw_I} {n fl q p : Nat} (hn : n ≤ 10) (h : pastR I n fl q p) (hc : ∀ c, 21 ≤ c → c < 23 + 84 → I2 c = I c) (hu : I2 140 32 = I 140 32) (hr : I2 155 = I 155) : pastR I2 n fl q p := by
  obtain ⟨a1, a2, a3, a4, a5, a6⟩ := h
  refine ⟨a1, a2, ?_, ?_, by rw [hu, a5], fun k hk => ?_⟩
  · rw [hc _ (by decide) (by decide)]; exact a3
  · rw [hc _ (by decide) (by decide)]; exact a4
  · exact momR_cong (fun c c1 c2 => hc c (by unfold rgA at c1; omega) (by unfold rgA at c2; omega)) (fun j _ => by rw [hr]) hn (a6 k hk)
/-- behind prepare and putsBy: the past is kept, and the next place of each tells the same -/
theorem pastR_prep {I I2 I3 : sw_I} {n fl q p a : Nat} (hn : n ≤ 10) (h : pastR I n fl q p) (hm : momR I a n fl (I 144)) (hc : copyOK (23 + 4 * q) a I I2) (hx : eqx [155] I2 I3) (hu : I3 155 = puF (I 155) (I 144) p 33) :
    pastR I3 n fl q p ∧ momR I3 (23 + 4 * q) n fl (fun j => I3 155 (33 * p + j)) := by
  obtain ⟨a1, a2, a3, a4, a5, a6⟩ := h
  have e3 : ∀ c, c ≠ 155 → (c < 23 + 4 * q ∨ 23 + 4 * q + 4 ≤ c) → I3 c = I c := fun c c1 c2 => by
    rw [hx c (by simp; exact c1)]; exact hc.1 c c2
  refine ⟨⟨a1, a2, ?_, ?_, ?_, fun k hk => ?_⟩, ?_⟩
  · rw [e3 _ (by decide) (by omega)]; exact a3
  · rw [e3 _ (by decide) (by omega)]; exact a4
  · rw [e3 _ (by decide) (by omega)]; exact a5
  · refine momR_cong (fun c c1 c2 => e3 c (by unfold rgA at c1 c2; omega) ?_) (fun j hj => ?_) hn (a6 k hk)
    · unfold rgA at c1 c2; omega
    · show I3 155 (33 * k + j) = I 155 (33 * k + j)
      rw [hu]; unfold puF; rw [if_neg (by omega)]
  · refine momR_cong (I := I2) (fun c c1 c2 => hx c (by simp; omega)) (fun j hj => ?_) hn (momR_copy hc hn hm)
    show I3 155 (33 * p + j) = I 144 j
    rw [hu]; unfold puF; rw [if_pos (by omega), Nat.add_sub_cancel_left]
/-- behind commit and adds -/
theorem pastR_commit {I I2 : sw_I} {n fl q p : Nat} (hn : n ≤ 10) (h : pastR I n fl q p) (hm : momR I (23 + 4 * q) n fl (fun j => I 155 (33 * p + j))) (hc : ∀ c, 21 < c → c < 23 + 84 → I2 c = I c)
    (h1 : I2 21 1 = nI ((q + 1) % 21)) (h2 : I2 21 2 = nI (adN p)) (h3 : I2 140 32 = nI (adN p)) (h4 : I2 155 = adF (I 155) p) : pastR I2 n fl ((q + 1) % 21) (adN p) := by
  obtain ⟨a1, a2, a3, a4, a5, a6⟩ := h
  have all : ∀ k, k ≤ p → momR I (23 + 4 * ((q + 21 - p + k) % 21)) n fl (fun j => I 155 (33 * k + j)) := by
    intro k hk
    by_cases c : k = p
    · subst c
      have e : (q + 21 - k + k) % 21 = q := by omega
      rw [e]; exact hm
    · exact a6 k (by omega)
  refine ⟨by omega, by unfold adN; split <;> omega, h1, h2, h3, fun k hk => ?_⟩
  by_cases c : p = 20
  · have ea : adN p = 20 := by unfold adN; rw [if_pos c]
    rw [ea] at hk ⊢
    have e : rgA ((q + 1) % 21) 20 k = 23 + 4 * ((q + 21 - p + (k + 1)) % 21) := by unfold rgA; omega
    rw [e]
    refine momR_cong (fun c c1 c2 => hc c (by omega) (by omega)) (fun j hj => ?_) hn (all (k + 1) (by omega))
    show I2 155 (33 * k + j) = I 155 (33 * (k + 1) + j)
    rw [h4]; unfold adF shF; rw [if_pos c, if_pos (by omega)]; congr 1; omega
  · have ea : adN p = p + 1 := by unfold adN; rw [if_neg c]
    rw [ea] at hk ⊢
    have e : rgA ((q + 1) % 21) (p + 1) k = 23 + 4 * ((q + 21 - p + k) % 21) := by unfold rgA; omega
    rw [e]
    refine momR_cong (fun c c1 c2 => hc c (by omega) (by omega)) (fun j hj => ?_) hn (all k (by omega))
    show I2 155 (33 * k + j) = I 155 (33 * k + j)
    rw [h4]; unfold adF; rw [if_neg c]
/-- behind bringBack and undo -/
theorem pastR_back {I I2 : sw_I} {n fl q p : Nat} (hn : n ≤ 10) (h : pastR I n fl q p) (hp : 0 < p) (hc : ∀ c, 21 < c → c < 23 + 84 → I2 c = I c)
    (h1 : I2 21 1 = nI ((q + 20) % 21)) (h2 : I2 21 2 = nI (p - 1)) (h3 : I2 140 32 = nI (p - 1)) (h4 : I2 155 = I 155) : pastR I2 n fl ((q + 20) % 21) (p - 1) ∧ momR I (23 + 4 * ((q + 20) % 21)) n fl (fun j => I 155 (33 * (p - 1) + j)) := by
  obtain ⟨a1, a2, a3, a4, a5, a6⟩ := h
  refine ⟨⟨by omega, by omega, h1, h2, h3, fun k hk => ?_⟩, ?_⟩
  · have e : rgA ((q + 20) % 21) (p - 1) k = rgA q p k := by unfold rgA; omega
    rw [e]
    exact momR_cong (fun c c1 c2 => hc c (by unfold rgA at c1; omega) (by unfold rgA at c2; omega)) (fun j hj => by rw [h4]) hn (a6 k (by omega))
  · have e : rgA q p (p - 1) = 23 + 4 * ((q + 20) % 21) := by unfold rgA; omega
    rw [← e]; exact a6 (p - 1) (by omega)
