/-! day: the acts are done, one by one -/
def flM (μ : Mo) (r : Nat) : Mo := setI μ (oI μ ^^^ ((1 : Int32) <<< (nI r &&& 31)))
def paO (w : Wd) (κ : Nat) (vb : Bool) (μ : Mo) (r : Nat) : Bool := if κ = 0 then sdB μ.1 (oI μ) (oL μ) r else if κ = 1 then inB (oI μ) r else decide (r < wn w) && vb
def paS (κ : Nat) (v : Int32) (μ : Mo) (r : Nat) : Mo := if κ = 2 then setW μ r v else flM μ r
def paM (w : Wd) (κ : Nat) (vb : Bool) (v : Int32) : List Nat → Mo → Bool × Mo × Nat
  | [], μ => (true, μ, 0)
  | r :: L, μ => if paO w κ vb μ r = true then ((paM w κ vb v L (paS κ v μ r)).1, (paM w κ vb v L (paS κ v μ r)).2.1, (paM w κ vb v L (paS κ v μ r)).2.2 + 1) else (false, μ, 0)
def acB (U : Nat → Nat) (fl p : Nat) : Bool := decide (U (p + 2) = 45 ∨ U (p + 2) - 48 < fl)
/-- an act: whether all of it could be done, the moment behind it, its rides, its deeds as the reference counts them -/
def acM (w : Wd) (U : Nat → Nat) (to p : Nat) (μ : Mo) : Bool × Mo × Nat × Nat :=
  if kd U p = 3 then (true, itM w (acN U to p) μ, acN U to p, 1)
  else ((paM w (kd U p) (acB U (wf w) p) (acW U p) (acL U to p) μ).1, (paM w (kd U p) (acB U (wf w) p) (acW U p) (acL U to p) μ).2.1, 0, (paM w (kd U p) (acB U (wf w) p) (acW U p) (acL U to p) μ).2.2)
def acC (U : Nat → Nat) (to p D : Nat) : Nat := if kd U p = 3 then acN U to p else D
/-- all acts: all done, how many, the moment, rides, deeds of the class, deeds of the reference -/
def dyR (w : Wd) (U : Nat → Nat) (to : Nat) : List Nat → Mo → Bool × Nat × Mo × Nat × Nat × Nat
  | [], μ => (true, 0, μ, 0, 0, 0)
  | p :: S, μ => if (acM w U to p μ).1 = true then ((dyR w U to S (acM w U to p μ).2.1).1, (dyR w U to S (acM w U to p μ).2.1).2.1 + 1, (dyR w U to S (acM w U to p μ).2.1).2.2.1, (acM w U to p μ).2.2.1 + (dyR w U to S (acM w U to p μ).2.1).2.2.2.1, acC U to p (acM w U to p μ).2.2.2 + (dyR w U to S (acM w U to p μ).2.1).2.2.2.2.1, (acM w U to p μ).2.2.2 + (dyR w U to S (acM w U to p μ).2.1).2.2.2.2.2)
    else (false, 0, (acM w U to p μ).2.1, (acM w U to p μ).2.2.1, acC U to p (acM w U to p μ).2.2.2, (acM w U to p μ).2.2.2)
theorem paM_len (w : Wd) (κ : Nat) (vb : Bool) (v : Int32) : ∀ L μ, (paM w κ vb v L μ).2.2 ≤ L.length
  | [], μ => Nat.le_refl _
  | r :: L, μ => by
    unfold paM
    split
    · have := paM_len w κ vb v L (paS κ v μ r); show _ + 1 ≤ L.length + 1; omega
    · exact Nat.zero_le _
theorem paM_R (w : Wd) (κ : Nat) (vb : Bool) (v : Int32) : ∀ L μ, oR (paM w κ vb v L μ).2.1 = oR μ
  | [], μ => rfl
  | r :: L, μ => by
    unfold paM
    split
    · have := paM_R w κ vb v L (paS κ v μ r)
      show oR (paM w κ vb v L (paS κ v μ r)).2.1 = _
      rw [this]; unfold paS; split <;> rfl
    · rfl
theorem lsR_len (U : Nat → Nat) : ∀ k p, (lsR U k p).length = k
  | 0, _ => rfl
  | k + 1, p => by show (lsR U k (p + 1)).length + 1 = _; rw [lsR_len U k (p + 1)]
theorem acN_rng {U : Nat → Nat} {to p : Nat} : 1 ≤ acN U to p ∧ acN U to p ≤ 9 := by
  unfold acN; split <;> omega
theorem kd_3 {U : Nat → Nat} {to p : Nat} (h : dyE U to p = none) : kd U p = 3 ↔ U p = 114 := by
  have := dyE_none h
  unfold kd
  constructor
  · intro q; repeat' split at q
    all_goals omega
  · intro q; rw [q]; rfl
theorem acM_rd {w : Wd} {U : Nat → Nat} {to p : Nat} {μ : Mo} (h : dyE U to p = none) : (acM w U to p μ).2.2.1 ≤ 3 * (dyQ U to p + 1 - p) := by
  unfold acM
  split
  · rename_i k
    have k2 := (kd_3 h).mp k
    show acN U to p ≤ _
    unfold acN dyQ
    rw [if_pos k2]
    by_cases c : p + 1 < to ∧ 49 ≤ U (p + 1) ∧ U (p + 1) ≤ 57
    · rw [if_pos c, if_pos c]; omega
    · rw [if_neg c, if_neg c]; omega
  · exact Nat.zero_le _
theorem acM_R {w : Wd} {U : Nat → Nat} {to p : Nat} {μ : Mo} : oR (acM w U to p μ).2.1 = oR μ + nI (acM w U to p μ).2.2.1 := by
  unfold acM
  split
  · show oR (itM w (acN U to p) μ) = oR μ + nI (acN U to p)
    have : ∀ k μ, oR (itM w k μ) = oR μ + nI k := fun k => by
      induction k with
      | zero => intro μ; show oR μ = oR μ + (0 : Int32); simp
      | succ k ih => intro μ; rw [itM_s]; show oR (itM w k μ) + 1 = _; rw [ih, Int32.add_assoc, nI_1]
    exact this _ _
  · show oR (paM w (kd U p) (acB U (wf w) p) (acW U p) (acL U to p) μ).2.1 = oR μ + (0 : Int32)
    rw [paM_R]; simp
theorem dyR_R (w : Wd) (U : Nat → Nat) (to : Nat) : ∀ S μ, oR (dyR w U to S μ).2.2.1 = oR μ + nI (dyR w U to S μ).2.2.2.1
  | [], μ => by show oR μ = oR μ + (0 : Int32); simp
  | p :: S, μ => by
    unfold dyR
    split
    · show oR (dyR w U to S (acM w U to p μ).2.1).2.2.1 = oR μ + nI ((acM w U to p μ).2.2.1 + (dyR w U to S (acM w U to p μ).2.1).2.2.2.1)
      rw [dyR_R w U to S, acM_R, Int32.add_assoc, nI_add]
    · exact acM_R
theorem dyP_s {U : Nat → Nat} {to d p : Nat} : dyP U to (d + 1) p = (match dyE U to p with
      | some e => (false, e, [])
      | none => if dyQ U to p < to ∧ U (dyQ U to p) = 59 then ((dyP U to d (dyQ U to p + 1)).1, (dyP U to d (dyQ U to p + 1)).2.1, p :: (dyP U to d (dyQ U to p + 1)).2.2) else (true, dyQ U to p, [p])) := rfl
theorem dyR_rd (w : Wd) (U : Nat → Nat) (to : Nat) : ∀ d p μ, (dyR w U to (dyP U to d p).2.2 μ).2.2.2.1 ≤ 3 * (to + 1 - p) ∧ (dyR w U to (dyP U to d p).2.2 μ).2.2.2.2.1 ≤ 80 * (to + 1 - p) ∧ (dyR w U to (dyP U to d p).2.2 μ).2.2.2.2.2 ≤ 80 * (to + 1 - p) ∧ (dyP U to d p).2.2.length ≤ to + 1 - p
  | 0, p, μ => ⟨Nat.zero_le _, Nat.zero_le _, Nat.zero_le _, Nat.zero_le _⟩
  | d + 1, p, μ => by
    rw [dyP_s]
    cases hE : dyE U to p with
    | some e => exact ⟨Nat.zero_le _, Nat.zero_le _, Nat.zero_le _, Nat.zero_le _⟩
    | none =>
      have hr := dyQ_rng hE
      have h1 := acM_rd (w := w) (μ := μ) hE
      have h2 : (acM w U to p μ).2.2.2 ≤ 80 * (dyQ U to p + 1 - p) := by
        unfold acM
        split
        · show 1 ≤ _; omega
        · rename_i k
          show (paM w (kd U p) (acB U (wf w) p) (acW U p) (acL U to p) μ).2.2 ≤ _
          have := paM_len w (kd U p) (acB U (wf w) p) (acW U p) (acL U to p) μ
          have l2 : (acL U to p).length ≤ dyQ U to p + 1 - p := by
            unfold acL
            split
            · rw [lsR_len]; omega
            · rw [lsR_len]; omega
          omega
      have h3 : acC U to p (acM w U to p μ).2.2.2 ≤ 80 * (dyQ U to p + 1 - p) := by
        unfold acC
        split
        · have := acN_rng (U := U) (to := to) (p := p); omega
        · exact h2
      dsimp only
      by_cases c : dyQ U to p < to ∧ U (dyQ U to p) = 59
      · rw [if_pos c]
        obtain ⟨i1, i2, i3, i4⟩ := dyR_rd w U to d (dyQ U to p + 1) (acM w U to p μ).2.1
        show (dyR w U to (p :: (dyP U to d (dyQ U to p + 1)).2.2) μ).2.2.2.1 ≤ _ ∧ (dyR w U to (p :: (dyP U to d (dyQ U to p + 1)).2.2) μ).2.2.2.2.1 ≤ _ ∧ (dyR w U to (p :: (dyP U to d (dyQ U to p + 1)).2.2) μ).2.2.2.2.2 ≤ _ ∧ (dyP U to d (dyQ U to p + 1)).2.2.length + 1 ≤ _
        unfold dyR
        split
        · dsimp only
          refine ⟨?_, ?_, ?_, ?_⟩ <;> omega
        · dsimp only
          refine ⟨?_, ?_, ?_, ?_⟩ <;> omega
      · rw [if_neg c]
        show (dyR w U to [p] μ).2.2.2.1 ≤ _ ∧ (dyR w U to [p] μ).2.2.2.2.1 ≤ _ ∧ (dyR w U to [p] μ).2.2.2.2.2 ≤ _ ∧ 1 ≤ _
        have e : ∀ ν, dyR w U to [] ν = (true, 0, ν, 0, 0, 0) := fun _ => rfl
        unfold dyR
        split
        · rw [e]; dsimp only
          refine ⟨?_, ?_, ?_, ?_⟩ <;> omega
        · dsimp only
          refine ⟨?_, ?_, ?_, ?_⟩ <;> omega
theorem dyP_mem (U : Nat → Nat) (to : Nat) : ∀ d p x, x ∈ (dyP U to d p).2.2 → dyE U to x = none
  | 0, p, x, h => absurd h (by show ¬ x ∈ []; simp)
  | d + 1, p, x, h => by
    rw [dyP_s] at h
    cases hE : dyE U to p with
    | some e => rw [hE] at h; exact absurd h (by show ¬ x ∈ []; simp)
    | none =>
      rw [hE] at h
      dsimp only at h
      by_cases c : dyQ U to p < to ∧ U (dyQ U to p) = 59
      · rw [if_pos c] at h
        rcases List.mem_cons.mp h with q | q
        · rw [q]; exact hE
        · exact dyP_mem U to d _ x q
      · rw [if_neg c] at h
        rcases List.mem_cons.mp h with q | q
        · rw [q]; exact hE
        · exact absurd q (by simp)
/-- the class counts deeds just where the reference does -/
theorem dyR_z (w : Wd) (U : Nat → Nat) (to : Nat) : ∀ S μ, (dyR w U to S μ).2.2.2.2.1 = 0 ↔ (dyR w U to S μ).2.2.2.2.2 = 0
  | [], μ => Iff.rfl
  | p :: S, μ => by
    have ha : acC U to p (acM w U to p μ).2.2.2 = 0 ↔ (acM w U to p μ).2.2.2 = 0 := by
      unfold acC
      by_cases c : kd U p = 3
      · rw [if_pos c]
        have e : (acM w U to p μ).2.2.2 = 1 := by unfold acM; rw [if_pos c]
        have := acN_rng (U := U) (to := to) (p := p)
        rw [e]; omega
      · rw [if_neg c]
    have hi := dyR_z w U to S (acM w U to p μ).2.1
    unfold dyR
    split
    · dsimp only; omega
    · exact ha
/-- the order of letters -/
def asc : Nat → List Nat → Prop
  | _, [] => True
  | k, r :: L => k ≤ r ∧ r < 10 ∧ asc (r + 1) L
theorem asc_mono : ∀ {k k2 : Nat} {L : List Nat}, k2 ≤ k → asc k L → asc k2 L
  | _, _, [], _, _ => trivial
  | _, _, _ :: _, h, ha => ⟨by have := ha.1; omega, ha.2.1, ha.2.2⟩
theorem asc_ge : ∀ {k : Nat} {L : List Nat} {x : Nat}, asc k L → x ∈ L → k ≤ x ∧ x < 10
  | _, [], _, _, h => absurd h (by simp)
  | k, r :: L, x, ha, h => by
    rcases List.mem_cons.mp h with q | q
    · rw [q]; exact ⟨ha.1, ha.2.1⟩
    · have := asc_ge ha.2.2 q; have := ha.1; omega
theorem lsR_asc (U : Nat → Nat) (to : Nat) : ∀ d l q, q + d = to → 96 ≤ l → asc (l + 1 - 97) (lsR U (ltQ U to d l q - q) q)
  | 0, l, q, _, _ => by
    have : ltQ U to 0 l q = q := rfl
    rw [this, Nat.sub_self]; exact trivial
  | d + 1, l, q, h, hl => by
    by_cases c : q < to ∧ 97 ≤ U q ∧ U q ≤ 106 ∧ l < U q
    · have e : ltQ U to (d + 1) l q = ltQ U to d (U q) (q + 1) := by show (if _ then _ else _) = _; rw [if_pos c]
      have hle := (ltQ_le U to d (U q) (q + 1) (by omega)).1
      rw [e, lsR_s U (show q < ltQ U to d (U q) (q + 1) by omega)]
      refine ⟨by omega, by omega, ?_⟩
      have := lsR_asc U to d (U q) (q + 1) (by omega) (by omega)
      rw [show U q - 97 + 1 = U q + 1 - 97 by omega]; exact this
    · have e : ltQ U to (d + 1) l q = q := by show (if _ then _ else _) = _; rw [if_neg c]
      rw [e, Nat.sub_self]; exact trivial
theorem ltQ_let (U : Nat → Nat) (to : Nat) : ∀ d l q j, q + d = to → q ≤ j → j < ltQ U to d l q → 97 ≤ U j ∧ U j ≤ 106
  | 0, l, q, j, _, h1, h2 => by
    have : j < q := h2
    omega
  | d + 1, l, q, j, h, h1, h2 => by
    by_cases c : q < to ∧ 97 ≤ U q ∧ U q ≤ 106 ∧ l < U q
    · have e : ltQ U to (d + 1) l q = ltQ U to d (U q) (q + 1) := by show (if _ then _ else _) = _; rw [if_pos c]
      rw [e] at h2
      by_cases cj : j = q
      · rw [cj]; exact ⟨c.2.1, c.2.2.1⟩
      · exact ltQ_let U to d (U q) (q + 1) j (by omega) (by omega) h2
    · have e : ltQ U to (d + 1) l q = q := by show (if _ then _ else _) = _; rw [if_neg c]
      rw [e] at h2; omega
theorem dyQ_lt {U : Nat → Nat} {to p : Nat} (hp : p < to) (h1 : ¬ U p = 114) (h2 : ¬ U p = 119) : dyQ U to p = ltQ U to (to - (p + 1)) 96 (p + 1) := by
  unfold dyQ; rw [if_neg h1, if_neg h2, ltQ_fuel to (to - (p + 1)) to 96 (p + 1) (by omega) (by omega)]
theorem acL_asc {U : Nat → Nat} {to p : Nat} (h : dyE U to p = none) (h3 : ¬ U p = 114) : asc 0 (acL U to p) := by
  have h0 := dyE_none h
  unfold acL
  split
  · rename_i k
    refine ⟨by omega, ?_, trivial⟩
    have : 97 ≤ U (p + 1) ∧ U (p + 1) ≤ 106 := by omega
    omega
  · rename_i k
    rw [dyQ_lt h0.1 h3 k]
    have := lsR_asc U to (to - (p + 1)) 96 (p + 1) (by omega) (by omega)
    exact this
/-- no sign of an act is a semicolon -/
theorem dyQ_in {U : Nat → Nat} {to p j : Nat} (h : dyE U to p = none) (h1 : p ≤ j) (h2 : j < dyQ U to p) : ¬ U j = 59 := by
  obtain ⟨hp, h0⟩ := dyE_none h
  by_cases cj : j = p
  · rw [cj]; omega
  by_cases c1 : U p = 114
  · unfold dyQ at h2
    rw [if_pos c1] at h2
    by_cases c : p + 1 < to ∧ 49 ≤ U (p + 1) ∧ U (p + 1) ≤ 57
    · rw [if_pos c] at h2
      have : j = p + 1 := by omega
      rw [this]; omega
    · rw [if_neg c] at h2; omega
  · by_cases c2 : U p = 119
    · unfold dyQ at h2
      rw [if_neg c1, if_pos c2] at h2
      have : j = p + 1 ∨ j = p + 2 := by omega
      rcases this with q | q <;> rw [q] <;> omega
    · rw [dyQ_lt hp c1 c2] at h2
      have := ltQ_let U to _ 96 (p + 1) j (by omega) (by omega) h2
      omega
