/-! day: the text of acts -/
theorem nI_ltJ {a b : Nat} (ha : a < 2 ^ 31) (hb : b < 2 ^ 31) : nI a < nI b ↔ a < b := ⟨fun h => by
  rcases Nat.lt_or_ge a b with q | q
  · exact q
  · exact absurd h (nI_nlt q ha), fun h => nI_lt h hb⟩
def dyN (place c b : Nat) : Option Nat :=
  if place = 0 then (if c = 105 ∨ c = 111 then some 1 else if c = 119 then some 3 else if c = 114 then some 5 else none)
  else if place = 1 then (if 97 ≤ c ∧ c ≤ 106 then some 2 else none)
  else if place = 2 then (if 97 ≤ c ∧ c ≤ 106 ∧ b < c then some 2 else if c = 59 then some 0 else none)
  else if place = 3 then (if 97 ≤ c ∧ c ≤ 106 then some 4 else none)
  else if place = 4 then (if c = 45 ∨ 48 ≤ c ∧ c ≤ 57 then some 6 else none)
  else if place = 5 then (if 49 ≤ c ∧ c ≤ 57 then some 6 else if c = 59 then some 0 else none)
  else (if c = 59 then some 0 else none)
theorem dy_rng {place c b r : Nat} (h : dyN place c b = some r) : r ≤ 6 := by
  unfold dyN at h
  repeat' split at h
  all_goals first | cases h; omega | (obtain rfl := Option.some.inj h; omega) | (cases h)
theorem s_X0_isLetter {c : Nat} (hc : c < 256) {I : sw_I} {J : sw_J} {Q : Int32 → sw_I → sw_J → Prop} (h : Q (bI (decide (97 ≤ c ∧ c ≤ 106))) I J) : wp_X0_isLetter (nI c) I J Q := by
  unfold wp_X0_isLetter
  refine ⟨fun q => ?_, fun q => ⟨fun q2 => ?_, fun q2 => ?_⟩⟩
  · have := (nI_ltJ (a := c) (b := 97) (by omega) (by omega)).mp q
    rw [decide_eq_false (by omega)] at h; exact h
  · have := (nI_ltJ (a := 106) (b := c) (by omega) (by omega)).mp q2
    rw [decide_eq_false (by omega)] at h; exact h
  · have a1 : ¬ c < 97 := fun w => q ((nI_ltJ (a := c) (b := 97) (by omega) (by omega)).mpr w)
    have a2 : ¬ 106 < c := fun w => q2 ((nI_ltJ (a := 106) (b := c) (by omega) (by omega)).mpr w)
    rw [decide_eq_true (by omega)] at h; exact h
theorem s_X0_nextPlace {place c b : Nat} {bb : Int32} (hp : place ≤ 6) (hc : c < 256) (hb : b < 256) (hbb : place = 2 → bb = nI b) {I : sw_I} {J : sw_J} {Q : Int32 → sw_I → sw_J → Prop} (h : Q (npV (dyN place c b)) I J) : wp_X0_nextPlace (nI place) (nI c) bb I J Q := by
  have eqc : ∀ k, k < 256 → (nI c = nI k ↔ c = k) := fun k hk => nI_eq (by omega) (by omega)
  have ltc : ∀ k, k < 256 → (nI c < nI k ↔ c < k) := fun k hk => nI_ltJ (by omega) (by omega)
  have gtc : ∀ k, k < 256 → (nI k < nI c ↔ k < c) := fun k hk => nI_ltJ (by omega) (by omega)
  unfold wp_X0_nextPlace
  have semi : ∀ x : Int32, x = nI c → (Q (npV (if c = 59 then some 0 else none)) I J) → sw_if (x = (59 : Int32)) (Q (0 : Int32) I J) (Q (-1 : Int32) I J) := fun x hx h => by
    rw [hx]
    refine ⟨fun q => ?_, fun q => ?_⟩
    · rw [if_pos ((eqc 59 (by omega)).mp q)] at h; exact h
    · rw [if_neg (fun w => q ((eqc 59 (by omega)).mpr w))] at h; exact h
  rcases (by omega : place = 0 ∨ place = 1 ∨ place = 2 ∨ place = 3 ∨ place = 4 ∨ place = 5 ∨ place = 6) with rfl | rfl | rfl | rfl | rfl | rfl | rfl
  · rw [sw_if_t (by rfl)]
    replace h : Q (npV (if c = 105 ∨ c = 111 then some 1 else if c = 119 then some 3 else if c = 114 then some 5 else none)) I J := h
    unfold wp_X0_placeBehind
    refine ⟨fun q => ?_, fun q => ⟨fun q2 => ?_, fun q2 => ⟨fun q3 => ?_, fun q3 => ⟨fun q4 => ?_, fun q4 => ?_⟩⟩⟩⟩
    · have := (eqc 105 (by omega)).mp q
      rw [if_pos (by omega)] at h; exact h
    · have := (eqc 111 (by omega)).mp q2
      rw [if_pos (by omega)] at h; exact h
    · have := (eqc 119 (by omega)).mp q3
      rw [if_neg (by omega), if_pos this] at h; exact h
    · have := (eqc 114 (by omega)).mp q4
      rw [if_neg (by omega), if_neg (by omega), if_pos this] at h; exact h
    · have a1 : ¬ c = 105 := fun w => q ((eqc 105 (by omega)).mpr w)
      have a2 : ¬ c = 111 := fun w => q2 ((eqc 111 (by omega)).mpr w)
      have a3 : ¬ c = 119 := fun w => q3 ((eqc 119 (by omega)).mpr w)
      have a4 : ¬ c = 114 := fun w => q4 ((eqc 114 (by omega)).mpr w)
      rw [if_neg (by omega), if_neg a3, if_neg a4] at h; exact h
  · rw [sw_if_f (by decide), sw_if_t (by rfl)]
    replace h : Q (npV (if 97 ≤ c ∧ c ≤ 106 then some 2 else none)) I J := h
    refine s_X0_isLetter hc ?_
    by_cases w : 97 ≤ c ∧ c ≤ 106
    · rw [decide_eq_true w, sw_if_f (by decide)]; rw [if_pos w] at h; exact h
    · rw [decide_eq_false w, sw_if_t (by rfl)]; rw [if_neg w] at h; exact h
  · rw [sw_if_f (by decide), sw_if_f (by decide), sw_if_t (by rfl)]
    replace h : Q (npV (if 97 ≤ c ∧ c ≤ 106 ∧ b < c then some 2 else if c = 59 then some 0 else none)) I J := h
    refine s_X0_isLetter hc ?_
    unfold wB_X0_nextPlace_72
    by_cases w : 97 ≤ c ∧ c ≤ 106
    · rw [decide_eq_true w, sw_if_f (by decide), hbb rfl]
      by_cases w2 : b < c
      · rw [sw_if_t (nI_lt w2 (by omega))]; rw [if_pos (by omega)] at h; exact h
      · rw [sw_if_f (nI_nlt (by omega) (by omega))]; rw [if_neg (by omega)] at h; exact semi _ rfl h
    · rw [decide_eq_false w, sw_if_t (by rfl)]; rw [if_neg (by omega)] at h; exact semi _ rfl h
  · rw [sw_if_f (by decide), sw_if_f (by decide), sw_if_f (by decide), sw_if_t (by rfl)]
    replace h : Q (npV (if 97 ≤ c ∧ c ≤ 106 then some 4 else none)) I J := h
    refine s_X0_isLetter hc ?_
    by_cases w : 97 ≤ c ∧ c ≤ 106
    · rw [decide_eq_true w, sw_if_f (by decide)]; rw [if_pos w] at h; exact h
    · rw [decide_eq_false w, sw_if_t (by rfl)]; rw [if_neg w] at h; exact h
  · rw [sw_if_f (by decide), sw_if_f (by decide), sw_if_f (by decide), sw_if_f (by decide), sw_if_t (by rfl)]
    replace h : Q (npV (if c = 45 ∨ 48 ≤ c ∧ c ≤ 57 then some 6 else none)) I J := h
    refine ⟨fun q => ?_, fun q => ⟨fun q2 => ?_, fun q2 => ⟨fun q3 => ?_, fun q3 => ?_⟩⟩⟩
    · have := (eqc 45 (by omega)).mp q
      rw [if_pos (by omega)] at h; exact h
    · have := (ltc 48 (by omega)).mp q2
      have a1 : ¬ c = 45 := fun w => q ((eqc 45 (by omega)).mpr w)
      rw [if_neg (by omega)] at h; exact h
    · have := (gtc 57 (by omega)).mp q3
      rw [if_neg (by omega)] at h; exact h
    · have a2 : ¬ c < 48 := fun w => q2 ((ltc 48 (by omega)).mpr w)
      have a3 : ¬ 57 < c := fun w => q3 ((gtc 57 (by omega)).mpr w)
      rw [if_pos (by omega)] at h; exact h
  · rw [sw_if_f (by decide), sw_if_f (by decide), sw_if_f (by decide), sw_if_f (by decide), sw_if_f (by decide), sw_if_t (by rfl)]
    replace h : Q (npV (if 49 ≤ c ∧ c ≤ 57 then some 6 else if c = 59 then some 0 else none)) I J := h
    unfold wB_X0_nextPlace_137
    refine ⟨fun q2 => ?_, fun q2 => ⟨fun q3 => ?_, fun q3 => ?_⟩⟩
    · have := (ltc 49 (by omega)).mp q2
      rw [if_neg (by omega)] at h; exact semi _ rfl h
    · have := (gtc 57 (by omega)).mp q3
      rw [if_neg (by omega)] at h; exact semi _ rfl h
    · have a2 : ¬ c < 49 := fun w => q2 ((ltc 49 (by omega)).mpr w)
      have a3 : ¬ 57 < c := fun w => q3 ((gtc 57 (by omega)).mpr w)
      rw [if_pos (by omega)] at h; exact h
  · rw [sw_if_f (by decide), sw_if_f (by decide), sw_if_f (by decide), sw_if_f (by decide), sw_if_f (by decide), sw_if_f (by decide)]
    exact semi _ rfl h
def auD (U : Nat → Nat) : Nat → Nat → Nat → Option Nat × Nat
  | 0, place, _ => (none, if place = 2 ∨ 5 ≤ place then 1 else 0)
  | d + 1, place, p => match dyN place (U p) (U (p - 1)) with
    | none => (some p, 0)
    | some r => auD U d r (p + 1)
def txU (T : Nat → Int32) (U : Nat → Nat) (t : Nat) : Prop := ∀ i, i < t → T i = nI (U i) ∧ U i < 256
theorem s_dflaw_loop {t : Nat} (ht : t ≤ 80) {T : Nat → Int32} {U : Nat → Nat} (hU : txU T U t) {I : sw_I} {J : sw_J} {Q : Int32 → sw_I → sw_J → Prop} (hs : I 1 1 = nI t) (hT : I 2 = T) :
    ∀ (d place p : Nat), p + d = min t 60 → place ≤ 6 → (p = 0 → place = 0) → Q (auV t 60 (auD U d place p)) I J → wl_X0_flawOf_23 Q (d + 1) (nI (min t 60)) (nI place) (nI p) I J := by
  intro d
  induction d with
  | zero =>
    intro place p hp hpl _ h
    show wb_X0_flawOf_23 _ Q _ _ _ I J
    unfold wb_X0_flawOf_23
    rw [sw_if_f (nI_nlt (by omega) (by omega))]
    unfold auD auV at h
    have fin : ∀ b : Bool, b = decide (place = 2 ∨ 5 ≤ place) → wB_X0_flawOf_75 Q 60 (bI b) I J := by
      intro b hb
      unfold wB_X0_flawOf_75 wp_X8_flawAtEnd
      rw [hs]
      dsimp only at h
      refine ⟨fun c => ?_, fun c => ⟨fun c2 => ?_, fun c2 => ?_⟩⟩
      · have := (nI_ltJ (a := 60) (b := t) (by omega) (by omega)).mp c
        rw [if_pos this] at h; exact h
      · have : ¬ 60 < t := fun q => c (nI_lt (a := 60) q (by omega))
        rw [if_neg this] at h
        have h5 : ¬ (place = 2 ∨ 5 ≤ place) := fun q => by rw [decide_eq_true q] at hb; rw [hb] at c2; exact absurd c2 (by decide)
        rw [if_neg (by rw [if_neg h5]; decide)] at h; exact h
      · have : ¬ 60 < t := fun q => c (nI_lt (a := 60) q (by omega))
        rw [if_neg this] at h
        have h5 : place = 2 ∨ 5 ≤ place := by
          by_cases q : place = 2 ∨ 5 ≤ place
          · exact q
          · rw [decide_eq_false q] at hb; rw [hb] at c2; exact absurd rfl c2
        rw [if_pos (by rw [if_pos h5])] at h; exact h
    unfold wB_X0_flawOf_70
    refine ⟨fun c => ?_, fun c => ⟨fun c2 => ?_, fun c2 => ?_⟩⟩
    · have := (nI_eq (a := place) (b := 2) (by omega) (by omega)).mp c
      exact fin true (decide_eq_true (by omega)).symm
    · have := (nI_ltJ (a := place) (b := 5) (by omega) (by omega)).mp c2
      have a1 : ¬ place = 2 := fun w => c ((nI_eq (a := place) (b := 2) (by omega) (by omega)).mpr w)
      exact fin false (decide_eq_false (by omega)).symm
    · have a1 : ¬ place < 5 := fun w => c2 ((nI_ltJ (a := place) (b := 5) (by omega) (by omega)).mpr w)
      exact fin true (decide_eq_true (by omega)).symm
  | succ d ih =>
    intro place p hp hpl h0 h
    show wb_X0_flawOf_23 _ Q _ _ _ I J
    unfold wb_X0_flawOf_23
    rw [sw_if_t (nI_lt (by omega) (by omega))]
    refine s_X8_at ht hs hT (by omega) ?_
    rw [if_pos (by omega), (hU p (by omega)).1]
    unfold auD at h
    have step : ∀ bb : Int32, (place = 2 → bb = nI (U (p - 1))) → wp_X0_nextPlace (nI place) (nI (U p)) bb I J (fun r I2 J2 => sw_if (r < 0) (Q (nI p) I2 J2) (∀ y : Int32, y = nI p + 1 → wl_X0_flawOf_23 Q (d + 1) (nI (min t 60)) r y I2 J2)) := by
      intro bb hbb
      refine s_X0_nextPlace hpl (hU p (by omega)).2 (hU (p - 1) (by omega)).2 hbb ?_
      cases hr2 : dyN place (U p) (U (p - 1)) with
      | none =>
        rw [hr2] at h
        rw [sw_if_t (by decide)]
        exact h
      | some r =>
        have hr6 := dy_rng hr2
        rw [hr2] at h
        rw [sw_if_f (show ¬ npV (some r) < 0 from nI_pos (by omega))]
        intro y hy
        rw [hy, nI_1]
        exact ih r (p + 1) (by omega) hr6 (by omega) h
    cases p with
    | zero =>
      unfold wp_X8_at
      rw [sw_if_t (by decide)]
      exact step _ (fun w => by have := h0 rfl; omega)
    | succ p =>
      rw [nI_pred]
      refine s_X8_at ht hs hT (by omega) ?_
      rw [if_pos (by omega)]
      exact step _ (fun _ => by rw [Nat.add_sub_cancel]; exact (hU p (by omega)).1)
theorem c_dflaw {t : Nat} (ht : t ≤ 80) {T : Nat → Int32} {U : Nat → Nat} (hU : txU T U t) {I : sw_I} {J : sw_J} {Q : Int32 → sw_I → sw_J → Prop} (hs : I 1 1 = nI t) (hT : I 2 = T) (h : Q (if t = 0 then -1 else auV t 60 (auD U (min t 60) 0 0)) I J) : wp_X0_flawOf I J Q := by
  unfold wp_X0_flawOf
  rw [hs]
  by_cases c : t = 0
  · rw [sw_if_t (by rw [c]; rfl)]; rw [if_pos c] at h; exact h
  · rw [sw_if_f (nI_ne0 (by omega) (by omega))]
    rw [if_neg c] at h
    intro y hy
    have ey : y = nI (min t 60) := by
      rw [hy]
      by_cases c2 : 60 < t
      · rw [if_pos (show (60 : Int32) < nI t from nI_lt (a := 60) c2 (by omega)), show min t 60 = 60 by omega]; rfl
      · rw [if_neg (show ¬ (60 : Int32) < nI t from nI_nlt (a := 60) (by omega) (by decide)), show min t 60 = t by omega]
    rw [ey]
    exact ⟨min t 60 + 1, s_dflaw_loop ht hU hs hT (min t 60) 0 0 (Nat.zero_add _) (by omega) (fun _ => rfl) h⟩
/-! acts, one after another -/
def ltQ (U : Nat → Nat) (to : Nat) : Nat → Nat → Nat → Nat
  | 0, _, p => p
  | d + 1, l, p => if p < to ∧ 97 ≤ U p ∧ U p ≤ 106 ∧ l < U p then ltQ U to d (U p) (p + 1) else p
def dyE (U : Nat → Nat) (to p : Nat) : Option Nat :=
  if ¬ (p < to ∧ (U p = 105 ∨ U p = 111 ∨ U p = 119 ∨ U p = 114)) then some p
  else if U p = 114 then none
  else if ¬ (p + 1 < to ∧ 97 ≤ U (p + 1) ∧ U (p + 1) ≤ 106) then some (p + 1)
  else if U p = 119 then (if p + 2 < to ∧ (U (p + 2) = 45 ∨ 48 ≤ U (p + 2) ∧ U (p + 2) ≤ 57) then none else some (p + 2))
  else none
def dyQ (U : Nat → Nat) (to p : Nat) : Nat :=
  if U p = 114 then (if p + 1 < to ∧ 49 ≤ U (p + 1) ∧ U (p + 1) ≤ 57 then p + 2 else p + 1)
  else if U p = 119 then p + 3
  else ltQ U to to 96 (p + 1)
def dyP (U : Nat → Nat) (to : Nat) : Nat → Nat → Bool × Nat × List Nat
  | 0, p => (false, p, [])
  | d + 1, p => match dyE U to p with
    | some e => (false, e, [])
    | none => if dyQ U to p < to ∧ U (dyQ U to p) = 59 then ((dyP U to d (dyQ U to p + 1)).1, (dyP U to d (dyQ U to p + 1)).2.1, p :: (dyP U to d (dyQ U to p + 1)).2.2) else (true, dyQ U to p, [p])
theorem ltQ_le (U : Nat → Nat) (to : Nat) : ∀ d l p, p ≤ to → p ≤ ltQ U to d l p ∧ ltQ U to d l p ≤ to
  | 0, l, p, h => ⟨Nat.le_refl _, h⟩
  | d + 1, l, p, h => by
    unfold ltQ
    by_cases c : p < to ∧ 97 ≤ U p ∧ U p ≤ 106 ∧ l < U p
    · rw [if_pos c]; have := ltQ_le U to d (U p) (p + 1) (by omega); omega
    · rw [if_neg c]; omega
theorem dyE_none {U : Nat → Nat} {to p : Nat} (h : dyE U to p = none) : p < to ∧ (U p = 114 ∨ (U p = 119 ∧ p + 2 < to ∧ 97 ≤ U (p + 1) ∧ U (p + 1) ≤ 106 ∧ (U (p + 2) = 45 ∨ 48 ≤ U (p + 2) ∧ U (p + 2) ≤ 57)) ∨ ((U p = 105 ∨ U p = 111) ∧ p + 1 < to ∧ 97 ≤ U (p + 1) ∧ U (p + 1) ≤ 106)) := by
  unfold dyE at h
  split at h
  · cases h
  · rename_i k0
    have k0' := Classical.not_not.mp k0
    split at h
    · rename_i k1; exact ⟨k0'.1, Or.inl k1⟩
    · split at h
      · cases h
      · rename_i k1 k2
        have k2' := Classical.not_not.mp k2
        split at h
        · split at h
          · rename_i k3 k4; exact ⟨k0'.1, Or.inr (Or.inl ⟨k3, k4.1, k2'.2.1, k2'.2.2, k4.2⟩)⟩
          · cases h
        · rename_i k3
          exact ⟨k0'.1, Or.inr (Or.inr ⟨by omega, k2'.1, k2'.2.1, k2'.2.2⟩)⟩
theorem dyQ_rng {U : Nat → Nat} {to p : Nat} (h : dyE U to p = none) : p < dyQ U to p ∧ dyQ U to p ≤ to := by
  obtain ⟨h1, h2⟩ := dyE_none h
  unfold dyQ
  by_cases c : U p = 114
  · rw [if_pos c]; split <;> omega
  · rw [if_neg c]
    by_cases c2 : U p = 119
    · rw [if_pos c2]; omega
    · rw [if_neg c2]
      have := ltQ_le U to to 96 (p + 1) (by omega); omega
section AD
variable {U : Nat → Nat} {t : Nat}
theorem ad_s {place p : Nat} (hp : p < min t 60) : auD U (min t 60 - p) place p = match dyN place (U p) (U (p - 1)) with
    | none => (some p, 0)
    | some r => auD U (min t 60 - (p + 1)) r (p + 1) := by
  rw [show min t 60 - p = (min t 60 - (p + 1)) + 1 by omega]
  rfl
theorem ad_e {place p : Nat} (hp : p = min t 60) : auV t 60 (auD U (min t 60 - p) place p) = if place = 2 ∨ 5 ≤ place then hsV t 60 (true, p) else nI p := by
  rw [show min t 60 - p = 0 by omega]
  have e : auD U 0 place p = (none, if place = 2 ∨ 5 ≤ place then 1 else 0) := rfl
  rw [e]
  by_cases c : place = 2 ∨ 5 ≤ place
  · rw [if_pos c, if_pos c]
    unfold hsV
    rw [if_pos ⟨rfl, hp⟩]; rfl
  · rw [if_neg c, if_neg c]
    show (if 60 < t then nI 60 else nI t) = nI p
    rw [hp]
    by_cases c2 : 60 < t
    · rw [if_pos c2]; congr 1; omega
    · rw [if_neg c2]; congr 1; omega
theorem ad_mid {place r p : Nat} (hpl : ¬ (place = 2 ∨ 5 ≤ place)) (hp : p ≤ min t 60) {b : Prop} [Decidable b] (hnp : dyN place (U p) (U (p - 1)) = if b then some r else none) : auV t 60 (auD U (min t 60 - p) place p) = if ¬ (p < min t 60 ∧ b) then nI p else auV t 60 (auD U (min t 60 - (p + 1)) r (p + 1)) := by
  by_cases c : p < min t 60
  · rw [ad_s c, hnp]
    by_cases cb : b
    · rw [if_pos cb, if_neg (show ¬ ¬ (p < min t 60 ∧ b) from fun q => q ⟨c, cb⟩)]
    · rw [if_neg cb, if_pos (show ¬ (p < min t 60 ∧ b) from fun q => cb q.2)]; rfl
  · rw [ad_e (by omega), if_neg hpl, if_pos (show ¬ (p < min t 60 ∧ b) from fun q => c q.1)]
/-- letters, one after another -/
theorem ad_run : ∀ d p, p + d = min t 60 → 0 < p → auD U (min t 60 - p) 2 p = auD U (min t 60 - ltQ U (min t 60) d (U (p - 1)) p) 2 (ltQ U (min t 60) d (U (p - 1)) p) ∧ (ltQ U (min t 60) d (U (p - 1)) p < min t 60 → dyN 2 (U (ltQ U (min t 60) d (U (p - 1)) p)) (U (ltQ U (min t 60) d (U (p - 1)) p - 1)) = if U (ltQ U (min t 60) d (U (p - 1)) p) = 59 then some 0 else none)
  | 0, p, hp, h0 => ⟨rfl, fun h => by
    have : p < min t 60 := h
    omega⟩
  | d + 1, p, hp, h0 => by
    have hq : p < min t 60 := by omega
    by_cases c : p < min t 60 ∧ 97 ≤ U p ∧ U p ≤ 106 ∧ U (p - 1) < U p
    · have e : ltQ U (min t 60) (d + 1) (U (p - 1)) p = ltQ U (min t 60) d (U (p + 1 - 1)) (p + 1) := by
        show (if _ then _ else _) = _
        rw [if_pos c]; rfl
      rw [e]
      have := ad_run d (p + 1) (by omega) (by omega)
      refine ⟨?_, this.2⟩
      rw [← this.1, ad_s hq]
      have e2 : dyN 2 (U p) (U (p - 1)) = some 2 := by
        show (if 97 ≤ U p ∧ U p ≤ 106 ∧ U (p - 1) < U p then some 2 else _) = _
        rw [if_pos c.2]
      rw [e2]
    · have e : ltQ U (min t 60) (d + 1) (U (p - 1)) p = p := by
        show (if _ then _ else _) = _
        rw [if_neg c]
      rw [e]
      refine ⟨rfl, fun _ => ?_⟩
      show (if 97 ≤ U p ∧ U p ≤ 106 ∧ U (p - 1) < U p then some 2 else _) = _
      rw [if_neg (fun w => c ⟨hq, w⟩)]
theorem ltQ_fuel (to : Nat) : ∀ d e l p, p + d = to → d ≤ e → ltQ U to e l p = ltQ U to d l p
  | 0, 0, l, p, _, _ => rfl
  | 0, e + 1, l, p, h, _ => by
    show (if _ then _ else _) = p
    rw [if_neg (by omega)]
  | d + 1, 0, l, p, _, h => by omega
  | d + 1, e + 1, l, p, h, h2 => by
    unfold ltQ
    rw [ltQ_fuel to d e (U p) (p + 1) (by omega) (by omega)]
theorem au_dy : ∀ d p, min t 60 < p + d → p ≤ min t 60 → auV t 60 (auD U (min t 60 - p) 0 p) = hsV t 60 ((dyP U (min t 60) d p).1, (dyP U (min t 60) d p).2.1)
  | 0, p, hd, hp => by omega
  | d + 1, p, hd, hp => by
    have fail : ∀ e, hsV t 60 (false, e) = nI e := fun e => by unfold hsV; rw [if_neg (fun q => by cases q.1)]
    have dyPe : dyP U (min t 60) (d + 1) p = (match dyE U (min t 60) p with
      | some e => (false, e, [])
      | none => if dyQ U (min t 60) p < min t 60 ∧ U (dyQ U (min t 60) p) = 59 then ((dyP U (min t 60) d (dyQ U (min t 60) p + 1)).1, (dyP U (min t 60) d (dyQ U (min t 60) p + 1)).2.1, p :: (dyP U (min t 60) d (dyQ U (min t 60) p + 1)).2.2) else (true, dyQ U (min t 60) p, [p])) := rfl
    -- behind an act
    have semi : ∀ place, (place = 2 ∨ 5 ≤ place) → dyE U (min t 60) p = none → (dyQ U (min t 60) p < min t 60 → dyN place (U (dyQ U (min t 60) p)) (U (dyQ U (min t 60) p - 1)) = if U (dyQ U (min t 60) p) = 59 then some 0 else none) → auV t 60 (auD U (min t 60 - dyQ U (min t 60) p) place (dyQ U (min t 60) p)) = hsV t 60 ((dyP U (min t 60) (d + 1) p).1, (dyP U (min t 60) (d + 1) p).2.1) := by
      intro place h5 hE hnp
      have hr := dyQ_rng hE
      rw [dyPe, hE]
      dsimp only
      generalize dyQ U (min t 60) p = q at hnp hr ⊢
      by_cases c : q < min t 60
      · rw [ad_s c, hnp c]
        by_cases c9 : U q = 59
        · rw [if_pos c9, if_pos (show q < min t 60 ∧ U q = 59 from ⟨c, c9⟩)]
          exact au_dy d (q + 1) (by omega) (by omega)
        · rw [if_neg c9, if_neg (show ¬ (q < min t 60 ∧ U q = 59) from fun z => c9 z.2)]
          show nI q = hsV t 60 (true, q)
          unfold hsV
          rw [if_neg (fun z => by have := z.2; dsimp only at this; omega)]
      · rw [ad_e (by omega), if_pos h5, if_neg (show ¬ (q < min t 60 ∧ U q = 59) from fun z => c z.1)]
    by_cases k0 : p < min t 60 ∧ (U p = 105 ∨ U p = 111 ∨ U p = 119 ∨ U p = 114)
    · obtain ⟨kp, k0⟩ := k0
      by_cases c114 : U p = 114
      · have hE : dyE U (min t 60) p = none := by unfold dyE; rw [if_neg (fun w => w ⟨kp, k0⟩), if_pos c114]
        rw [ad_s kp, show dyN 0 (U p) (U (p - 1)) = some 5 by unfold dyN; rw [if_pos rfl, if_neg (by omega), if_neg (by omega), if_pos c114]]
        dsimp only
        by_cases cd : p + 1 < min t 60 ∧ 49 ≤ U (p + 1) ∧ U (p + 1) ≤ 57
        · have eQ : dyQ U (min t 60) p = p + 2 := by unfold dyQ; rw [if_pos c114, if_pos cd]
          rw [ad_s cd.1, show dyN 5 (U (p + 1)) (U (p + 1 - 1)) = some 6 by show (if 49 ≤ U (p + 1) ∧ U (p + 1) ≤ 57 then some 6 else _) = _; rw [if_pos cd.2]]
          have := semi 6 (by omega) hE (fun _ => rfl)
          rw [eQ] at this; exact this
        · have eQ : dyQ U (min t 60) p = p + 1 := by unfold dyQ; rw [if_pos c114, if_neg cd]
          have := semi 5 (by omega) hE (fun h => by
            rw [eQ] at h ⊢
            show (if 49 ≤ U (p + 1) ∧ U (p + 1) ≤ 57 then some 6 else _) = _
            rw [if_neg (fun w => cd ⟨h, w⟩)])
          rw [eQ] at this; exact this
      · by_cases c119 : U p = 119
        · rw [ad_s kp, show dyN 0 (U p) (U (p - 1)) = some 3 by unfold dyN; rw [if_pos rfl, if_neg (by omega), if_pos c119]]
          dsimp only
          rw [ad_mid (r := 4) (by omega) (by omega) (b := 97 ≤ U (p + 1) ∧ U (p + 1) ≤ 106) rfl]
          by_cases k2 : ¬ (p + 1 < min t 60 ∧ 97 ≤ U (p + 1) ∧ U (p + 1) ≤ 106)
          · have hE : dyE U (min t 60) p = some (p + 1) := by unfold dyE; rw [if_neg (fun w => w ⟨kp, k0⟩), if_neg c114, if_pos k2]
            rw [if_pos k2, dyPe, hE]; exact (fail _).symm
          · rw [if_neg k2, ad_mid (r := 6) (by omega) (by omega) (b := U (p + 1 + 1) = 45 ∨ 48 ≤ U (p + 1 + 1) ∧ U (p + 1 + 1) ≤ 57) rfl]
            by_cases k3 : p + 2 < min t 60 ∧ (U (p + 2) = 45 ∨ 48 ≤ U (p + 2) ∧ U (p + 2) ≤ 57)
            · have hE : dyE U (min t 60) p = none := by unfold dyE; rw [if_neg (fun w => w ⟨kp, k0⟩), if_neg c114, if_neg k2, if_pos c119, if_pos k3]
              have eQ : dyQ U (min t 60) p = p + 3 := by unfold dyQ; rw [if_neg c114, if_pos c119]
              rw [if_neg (fun w => w k3)]
              have := semi 6 (by omega) hE (fun _ => rfl)
              rw [eQ] at this; exact this
            · have hE : dyE U (min t 60) p = some (p + 2) := by unfold dyE; rw [if_neg (fun w => w ⟨kp, k0⟩), if_neg c114, if_neg k2, if_pos c119, if_neg k3]
              rw [if_pos k3, dyPe, hE]; exact (fail _).symm
        · rw [ad_s kp, show dyN 0 (U p) (U (p - 1)) = some 1 by unfold dyN; rw [if_pos rfl, if_pos (by omega)]]
          dsimp only
          rw [ad_mid (r := 2) (by omega) (by omega) (b := 97 ≤ U (p + 1) ∧ U (p + 1) ≤ 106) rfl]
          by_cases k2 : ¬ (p + 1 < min t 60 ∧ 97 ≤ U (p + 1) ∧ U (p + 1) ≤ 106)
          · have hE : dyE U (min t 60) p = some (p + 1) := by unfold dyE; rw [if_neg (fun w => w ⟨kp, k0⟩), if_neg c114, if_pos k2]
            rw [if_pos k2, dyPe, hE]; exact (fail _).symm
          · have hE : dyE U (min t 60) p = none := by unfold dyE; rw [if_neg (fun w => w ⟨kp, k0⟩), if_neg c114, if_neg k2, if_neg c119]
            rw [if_neg k2]
            have k2' := Classical.not_not.mp k2
            have run := ad_run (U := U) (t := t) (min t 60 - (p + 1 + 1)) (p + 1 + 1) (by omega) (by omega)
            have eQ : dyQ U (min t 60) p = ltQ U (min t 60) (min t 60 - (p + 1 + 1)) (U (p + 1 + 1 - 1)) (p + 1 + 1) := by
              unfold dyQ
              rw [if_neg c114, if_neg c119, ltQ_fuel (min t 60) (min t 60 - (p + 1)) (min t 60) 96 (p + 1) (by omega) (by omega), show min t 60 - (p + 1) = (min t 60 - (p + 1 + 1)) + 1 by omega]
              show (if p + 1 < min t 60 ∧ 97 ≤ U (p + 1) ∧ U (p + 1) ≤ 106 ∧ 96 < U (p + 1) then _ else _) = _
              rw [if_pos ⟨k2'.1, k2'.2.1, k2'.2.2, by omega⟩]; rfl
            rw [run.1, ← eQ]
            exact semi 2 (by omega) hE (by rw [eQ]; exact run.2)
    · have hE : dyE U (min t 60) p = some p := by unfold dyE; rw [if_pos k0]
      rw [dyPe, hE]
      show _ = hsV t 60 (false, p)
      rw [fail]
      by_cases c : p < min t 60
      · rw [ad_s c, show dyN 0 (U p) (U (p - 1)) = none by unfold dyN; rw [if_pos rfl, if_neg (by omega), if_neg (by omega), if_neg (by omega)]]
        rfl
      · rw [ad_e (by omega), if_neg (by omega)]
end AD
