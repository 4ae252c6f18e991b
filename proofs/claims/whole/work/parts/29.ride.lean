/-! a RIDE of the class -/
abbrev momL : List Nat := [13, 17, 23, 27, 31, 35, 39, 43, 47, 51, 55, 59, 63, 67, 71, 75, 79, 83, 87, 91, 95, 99, 103, 113, 121, 128, 132, 136]
abbrev bdC : List Nat := [3, 4, 5, 6, 7, 8]
theorem mom_ap : ∀ a, a ∈ momL → (a ∉ nsC ∧ a + 1 ∉ nsC ∧ a + 2 ∉ nsC ∧ a + 3 ∉ nsC) ∧ (a ∉ bdC ∧ a + 1 ∉ bdC ∧ a + 2 ∉ bdC ∧ a + 3 ∉ bdC) := by decide
theorem sw_up_rowf {α : Type} (I : Nat → Nat → α) (a k : Nat) (v : α) : sw_up I a k v a = fun j => if j = k then v else I a j := by
  funext j
  by_cases e : j = k
  · subst e; rw [sw_up_same, if_pos rfl]
  · rw [sw_up_slot _ _ _ _ e, if_neg e]
/-- places and rides behind a RIDE of those in s to a stop, of the first k riders -/
def plF (home pl : Nat → Int32) (s stop : Int32) (k i : Nat) : Int32 := if i < k ∧ inB s i = true then (if home i = stop then -1 else stop) else pl i
def rdF (rd : Nat → Int32) (s : Int32) (k i : Nat) : Int32 := if i < k ∧ inB s i = true then rd i + 1 else rd i
def cmF (home : Nat → Int32) (s stop : Int32) (n : Nat) : Int32 := bs (fun i => inB s i && decide (home i = stop)) n
/-- the world behind a RIDE -/
def rideOK (a n : Nat) (stop : Int32) (I I2 : sw_I) : Prop :=
  (∀ c, c ∉ nsC → c ≠ a → c ≠ a + 1 → c ≠ a + 3 → I2 c = I c) ∧ I2 (a + 1) = plF (I 4) (I (a + 1)) (I a 3) stop n ∧ I2 (a + 3) = rdF (I (a + 3)) (I a 3) n ∧ I2 a 3 = I a 3 &&& (cmF (I 4) (I a 3) stop n ^^^ (-1)) ∧ I2 a 4 = stop ∧ I2 a 5 = I a 5 + 1
theorem s_carry_loop {a n : Nat} (hn : n ≤ 10) (hna : a ∉ nsC ∧ a + 1 ∉ nsC ∧ a + 2 ∉ nsC ∧ a + 3 ∉ nsC) (hba : a ∉ bdC ∧ a + 1 ∉ bdC ∧ a + 2 ∉ bdC ∧ a + 3 ∉ bdC) {stop : Int32} {I : sw_I} {J : sw_J} {Q : Int32 → sw_I → sw_J → Prop} (hr : I 3 2 = nI n)
    (h : ∀ I2, rideOK a n stop I I2 → Q (cmF (I 4) (I a 3) stop n) I2 J) :
    ∀ (d k : Nat) (I2 : sw_I), k + d = n → (∀ c, c ∉ nsC → c ≠ a + 1 → c ≠ a + 3 → I2 c = I c) → I2 (a + 1) = plF (I 4) (I (a + 1)) (I a 3) stop k → I2 (a + 3) = rdF (I (a + 3)) (I a 3) k → wl_X1_carry_23 a Q (d + 1) stop (cmF (I 4) (I a 3) stop n) (nI k) I2 J := by
  have ea : ∀ I2 : sw_I, (∀ c, c ∉ nsC → c ≠ a + 1 → c ≠ a + 3 → I2 c = I c) → I2 a = I a := fun I2 h2 => h2 a hna.1 (by omega) (by omega)
  have eb : ∀ I2 : sw_I, (∀ c, c ∉ nsC → c ≠ a + 1 → c ≠ a + 3 → I2 c = I c) → I2 3 = I 3 := fun I2 h2 => h2 _ (by decide) (fun q => hba.2.1 (by rw [← q]; decide)) (fun q => hba.2.2.2 (by rw [← q]; decide))
  intro d
  induction d with
  | zero =>
    intro k I2 hk h1 h2 h3
    obtain rfl : k = n := by omega
    show wb_X1_carry_23 a _ Q _ _ _ I2 J
    unfold wb_X1_carry_23
    rw [sw_if_f (by rw [eb I2 h1, hr]; exact nI_nlt (Nat.le_refl _) (by omega))]
    intro I3 e3 I4 e4 I5 e5
    have r3 : ∀ c, c ≠ a → I3 c = I2 c := fun c hc => by rw [e3]; exact sw_up_row _ _ _ hc
    have r4 : ∀ c, c ≠ a → I4 c = I2 c := fun c hc => by rw [e4, sw_up_row _ _ _ hc]; exact r3 c hc
    have r5 : ∀ c, c ≠ a → I5 c = I2 c := fun c hc => by rw [e5, sw_up_row _ _ _ hc]; exact r4 c hc
    refine h I5 ⟨fun c c1 c2 c3 c4 => (r5 c c2).trans (h1 c c1 c3 c4), (r5 _ (by omega)).trans h2, (r5 _ (by omega)).trans h3, ?_, ?_, ?_⟩
    · rw [e5, sw_up_slot _ _ _ _ (by decide), e4, sw_up_slot _ _ _ _ (by decide), e3, sw_up_same, ea I2 h1]
    · rw [e5, sw_up_slot _ _ _ _ (by decide), e4, sw_up_same]
    · rw [e5, sw_up_same, e4, sw_up_slot _ _ _ _ (by decide), e3, sw_up_slot _ _ _ _ (by decide), ea I2 h1]
  | succ d ih =>
    intro k I2 hk h1 h2 h3
    show wb_X1_carry_23 a _ Q _ _ _ I2 J
    unfold wb_X1_carry_23
    rw [sw_if_t (by rw [eb I2 h1, hr]; exact nI_lt (by omega) (by omega))]
    refine s_X3_isIn (by omega) ?_
    rw [ea I2 h1, nI_clamp (by omega)]
    have nxt : ∀ I3 : sw_I, (∀ c, c ∉ nsC → c ≠ a + 1 → c ≠ a + 3 → I3 c = I c) → I3 (a + 1) = plF (I 4) (I (a + 1)) (I a 3) stop (k + 1) → I3 (a + 3) = rdF (I (a + 3)) (I a 3) (k + 1) → wB_X1_carry_73 a (wl_X1_carry_23 a Q (d + 1)) Q stop (cmF (I 4) (I a 3) stop n) (nI k) I3 J := by
      intro I3 g1 g2 g3 y hy
      rw [hy, nI_1]
      exact ih (k + 1) I3 (by omega) g1 g2 g3
    cases cb : inB (I a 3) k with
    | false =>
      rw [sw_if_t (by simp)]
      refine nxt I2 h1 (h2.trans ?_) (h3.trans ?_)
      · funext i
        unfold plF
        by_cases e : i = k
        · subst e; simp [cb]
        · have : (i < k ∧ inB (I a 3) i = true) ↔ (i < k + 1 ∧ inB (I a 3) i = true) := ⟨fun q => ⟨by omega, q.2⟩, fun q => ⟨by omega, q.2⟩⟩
          simp only [this]
      · funext i
        unfold rdF
        by_cases e : i = k
        · subst e; simp [cb]
        · have : (i < k ∧ inB (I a 3) i = true) ↔ (i < k + 1 ∧ inB (I a 3) i = true) := ⟨fun q => ⟨by omega, q.2⟩, fun q => ⟨by omega, q.2⟩⟩
          simp only [this]
    | true =>
      rw [sw_if_f (by simp)]
      refine ⟨vp0 (by omega) (by decide), vp0 (by omega) (by decide), fun I3 e3 => ?_⟩
      have q1 : ∀ c, c ≠ a + 3 → I3 c = I2 c := fun c hc => by rw [e3]; exact sw_up_row _ _ _ hc
      have q3 : I3 (a + 3) = rdF (I (a + 3)) (I a 3) (k + 1) := by
        rw [e3, sw_up_rowf, h3]
        funext i
        unfold rdF
        by_cases e : i = k
        · subst e; simp [cb]
        · have : (i < k ∧ inB (I a 3) i = true) ↔ (i < k + 1 ∧ inB (I a 3) i = true) := ⟨fun q => ⟨by omega, q.2⟩, fun q => ⟨by omega, q.2⟩⟩
          simp only [if_neg e, this]
      have put : ∀ v, v = (if I 4 k = stop then (-1 : Int32) else stop) → wB_X1_carry_72 a (wl_X1_carry_23 a Q (d + 1)) Q stop (cmF (I 4) (I a 3) stop n) (nI k) (nI k) v I3 J := by
        intro v hv
        refine ⟨vp0 (by omega) (by decide), fun I4 e4 => ?_⟩
        rw [nI_clamp (by omega)] at e4
        have q4 : ∀ c, c ≠ a + 1 → I4 c = I3 c := fun c hc => by rw [e4]; exact sw_up_row _ _ _ hc
        refine nxt I4 (fun c c1 c2 c3 => (q4 c c2).trans ((q1 c c3).trans (h1 c c1 c2 c3))) ?_ ((q4 _ (by omega)).trans q3)
        rw [e4, sw_up_rowf, q1 _ (by omega), h2]
        funext i
        unfold plF
        by_cases e : i = k
        · subst e; simp [cb, hv]
        · have : (i < k ∧ inB (I a 3) i = true) ↔ (i < k + 1 ∧ inB (I a 3) i = true) := ⟨fun q => ⟨by omega, q.2⟩, fun q => ⟨by omega, q.2⟩⟩
          simp only [if_neg e, this]
      have hbit : inB (cmF (I 4) (I a 3) stop n) k = decide (I 4 k = stop) := by
        unfold cmF
        rw [inB_bs _ n (by omega) k (by omega)]
        have : k < n := by omega
        simp [this, cb]
      refine ⟨fun c => put _ ?_, fun c => put _ ?_⟩
      · have : inB (cmF (I 4) (I a 3) stop n) k = false := by unfold inB; simp [c]
        rw [hbit] at this
        simp at this
        simp [this]
      · have : inB (cmF (I 4) (I a 3) stop n) k = true := by unfold inB; simp [c]
        rw [hbit] at this
        simp at this
        simp [this]
theorem s_X1_carry {a n m fl : Nat} (hn : n ≤ 10) (ha : a ∈ momL) (hfl : fl ≤ 9) {I : sw_I} {J : sw_J} {Q : Int32 → sw_I → sw_J → Prop} (hr : I 3 2 = nI n) (hm : I 6 3 = nI m) (hw : lwW (I 7) m) (hf : I 3 0 = nI fl)
    (h : ∀ I2, rideOK a n (nsF (I 7) m (I (a + 1)) (I (a + 2)) n fl (I 3 1) (I a 3) (I a 4) (I a 5)) I I2 → Q (cmF (I 4) (I a 3) (nsF (I 7) m (I (a + 1)) (I (a + 2)) n fl (I 3 1) (I a 3) (I a 4) (I a 5)) n) I2 J) : wp_X1_carry a I J Q := by
  obtain ⟨hna, hba⟩ := mom_ap a ha
  refine s_X1_nextStop hn hna.1 hna.2.1 hna.2.2.1 hfl hr hm hw hf (fun I1 e1 => ?_)
  generalize nsF (I 7) m (I (a + 1)) (I (a + 2)) n fl (I 3 1) (I a 3) (I a 4) (I a 5) = stop at h ⊢
  refine s_X1_homeAt (n := n) hn (by rw [e1.at (by decide)]; exact hr) ?_
  have eh : I1 4 = I 4 := e1 _ (by decide)
  have ea : I1 a = I a := e1 _ hna.1
  have e11 : I1 (a + 1) = I (a + 1) := e1 _ hna.2.1
  have e13 : I1 (a + 3) = I (a + 3) := e1 _ hna.2.2.2
  have := s_carry_loop (stop := stop) (J := J) (Q := Q) hn hna hba (I := I1) (by rw [e1.at (by decide)]; exact hr) (fun I2 o2 => by
    have := h I2 ?_
    · rw [eh, ea]; exact this
    · obtain ⟨o1, o3, o4, o5, o6, o7⟩ := o2
      rw [eh, ea, e11] at o3
      rw [ea, e13] at o4
      rw [eh, ea] at o5
      rw [ea] at o7
      exact ⟨fun c c1 c2 c3 c4 => (o1 c c1 c2 c3 c4).trans (e1 c c1), o3, o4, o5, o6, o7⟩) n 0 I1 (by omega) (fun c _ _ _ => rfl) (by funext i; unfold plF; simp) (by funext i; unfold rdF; simp)
  unfold cmF at this
  exact ⟨n + 1, this⟩
