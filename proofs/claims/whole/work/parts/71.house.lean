/-! house: the text of lines -/
def flB (fl : Nat) (c : Int32) : Bool := decide (¬ c - 48 < 0 ∧ ¬ nI fl ≤ c - 48)
def npN (fl : Nat) (there : Bool) (place : Nat) (c : Int32) : Option Nat :=
  if place = 0 then (if flB fl c = true then some 1 else none)
  else if place = 1 then (if c = 62 then some 2 else none)
  else if place = 2 then (if c = 45 ∨ flB fl c = true then some 3 else none)
  else if place = 3 then (if c = 64 then some 4 else none)
  else if place = 4 then (if flB fl c = true then some 5 else none)
  else if place = 5 then (if c = 33 ∧ there = true then some 6 else if c = 59 then some 0 else none)
  else (if c = 59 then some 0 else none)
theorem np_rng {fl : Nat} {there : Bool} {place : Nat} {c : Int32} {r : Nat} (h : npN fl there place c = some r) : r ≤ 6 := by
  unfold npN at h
  repeat' split at h
  all_goals first | cases h; omega | (obtain rfl := Option.some.inj h; omega) | (cases h)
def npV (r : Option Nat) : Int32 := match r with | none => -1 | some k => nI k
theorem s_flB {fl : Nat} (hfl : fl ≤ 9) {c : Int32} {I : sw_I} {J : sw_J} {Q : Int32 → sw_I → sw_J → Prop} (hf : I 3 0 = nI fl) (h : Q (bI (flB fl c)) I J) : wp_X1_hasFloor (c - 48) I J Q := by
  refine s_X1_hasFloor hfl hf (fun co => ?_) (fun k hk ek => ?_)
  · have : flB fl c = false := by unfold flB; exact decide_eq_false (fun q => by rcases co with z | z; exact q.1 z; exact q.2 z)
    rw [this] at h; exact h
  · have : flB fl c = true := by unfold flB; exact decide_eq_true ⟨by rw [ek]; exact nI_pos (by omega), by rw [ek]; exact nI_ge hk (by omega)⟩
    rw [this] at h; exact h
theorem s_X1_nextPlace {fl place : Nat} (hfl : fl ≤ 9) (hp : place ≤ 6) {there : Bool} {c : Int32} {I : sw_I} {J : sw_J} {Q : Int32 → sw_I → sw_J → Prop} (hf : I 3 0 = nI fl) (h : Q (npV (npN fl there place c)) I J) : wp_X1_nextPlace (nI place) c (bI there) I J Q := by
  unfold wp_X1_nextPlace
  unfold npN at h
  have ne : ∀ k, place ≠ k → k ≤ 6 → ¬ nI place = nI k := fun k hk h6 q => hk ((nI_eq (by omega) (by omega)).mp q)
  by_cases c0 : place = 0
  · rw [sw_if_t (by rw [c0]; rfl)]
    rw [if_pos c0] at h
    refine s_flB hfl hf ?_
    cases hb : flB fl c
    · rw [sw_if_t (by rfl)]; rw [hb] at h; exact h
    · rw [sw_if_f (by decide)]; rw [hb] at h; exact h
  rw [sw_if_f (show ¬ nI place = (0 : Int32) from ne 0 c0 (by omega))]
  rw [if_neg c0] at h
  by_cases c1 : place = 1
  · rw [sw_if_t (by rw [c1]; rfl)]
    rw [if_pos c1] at h
    refine ⟨fun q => ?_, fun q => ?_⟩
    · rw [if_pos q] at h; exact h
    · rw [if_neg q] at h; exact h
  rw [sw_if_f (show ¬ nI place = (1 : Int32) from ne 1 c1 (by omega))]
  rw [if_neg c1] at h
  by_cases c2 : place = 2
  · rw [sw_if_t (by rw [c2]; rfl)]
    rw [if_pos c2] at h
    refine ⟨fun q => ?_, fun q => s_flB hfl hf ?_⟩
    · rw [if_pos (Or.inl q)] at h; exact h
    · cases hb : flB fl c
      · rw [sw_if_t (by rfl)]; rw [if_neg (fun z => by rcases z with z | z; exact q z; rw [hb] at z; cases z)] at h; exact h
      · rw [sw_if_f (by decide)]; rw [if_pos (Or.inr hb)] at h; exact h
  rw [sw_if_f (show ¬ nI place = (2 : Int32) from ne 2 c2 (by omega))]
  rw [if_neg c2] at h
  by_cases c3 : place = 3
  · rw [sw_if_t (by rw [c3]; rfl)]
    rw [if_pos c3] at h
    refine ⟨fun q => ?_, fun q => ?_⟩
    · rw [if_pos q] at h; exact h
    · rw [if_neg q] at h; exact h
  rw [sw_if_f (show ¬ nI place = (3 : Int32) from ne 3 c3 (by omega))]
  rw [if_neg c3] at h
  by_cases c4 : place = 4
  · rw [sw_if_t (by rw [c4]; rfl)]
    rw [if_pos c4] at h
    refine s_flB hfl hf ?_
    cases hb : flB fl c
    · rw [sw_if_t (by rfl)]; rw [hb] at h; exact h
    · rw [sw_if_f (by decide)]; rw [hb] at h; exact h
  rw [sw_if_f (show ¬ nI place = (4 : Int32) from ne 4 c4 (by omega))]
  rw [if_neg c4] at h
  by_cases c5 : place = 5
  · rw [sw_if_t (by rw [c5]; rfl)]
    rw [if_pos c5] at h
    have semi : (¬ (c = 33 ∧ there = true)) → wB_X1_nextPlace_134 Q c I J := fun q => by
      rw [if_neg q] at h
      refine ⟨fun z => ?_, fun z => ?_⟩
      · rw [if_pos z] at h; exact h
      · rw [if_neg z] at h; exact h
    refine ⟨fun q => ⟨fun z => semi (fun y => ?_), fun z => ?_⟩, fun q => semi (fun y => q y.1)⟩
    · rw [y.2] at z; exact absurd z (by decide)
    · have ht : there = true := by cases there; exact absurd rfl z; rfl
      rw [if_pos ⟨q, ht⟩] at h; exact h
  rw [sw_if_f (show ¬ nI place = (5 : Int32) from ne 5 c5 (by omega))]
  rw [if_neg c5] at h
  refine ⟨fun q => ?_, fun q => ?_⟩
  · rw [if_pos q] at h; exact h
  · rw [if_neg q] at h; exact h
theorem s_X8_at {t p : Nat} (ht : t ≤ 80) {T : Nat → Int32} {I : sw_I} {J : sw_J} {Q : Int32 → sw_I → sw_J → Prop} (hs : I 1 1 = nI t) (hT : I 2 = T) (hp : p < 2 ^ 30) (h : Q (if p < t then T p else -1) I J) : wp_X8_at (nI p) I J Q := by
  unfold wp_X8_at
  rw [sw_if_f (nI_pos (by omega)), hs]
  by_cases c : p < t
  · rw [sw_if_t (nI_lt c (by omega)), nI_clamp (by omega), hT]
    rw [if_pos c] at h
    exact ⟨vp0 (by omega) (by decide), h⟩
  · rw [sw_if_f (nI_nlt (by omega) (by omega))]
    rw [if_neg c] at h; exact h
/-- the sign ahead of p -/
def pvS (T : Nat → Int32) (p : Nat) : Int32 := if p = 0 then -1 else T (p - 1)
def auM (T : Nat → Int32) (fl n : Nat) (lift : Int32) : Nat → Nat → Nat → Nat → Option Nat × Nat
  | 0, place, _, p => (none, if 5 ≤ place then 1 else 0)
  | d + 1, place, l, p => if place = 0 ∧ 10 < n + (l + 1) then (some p, 0) else
    match npN fl (decide (pvS T p - 48 = lift)) place (T p) with
    | none => (some p, 0)
    | some r => auM T fl n lift d r (if place = 0 then l + 1 else l) (p + 1)
/-- the flaw that is told: a place, or none at all -/
def auV (t lim : Nat) (r : Option Nat × Nat) : Int32 := match r.1 with
  | some p => nI p
  | none => if lim < t then nI lim else if r.2 = 1 then -1 else nI t
theorem s_flaw_loop {fl n t : Nat} (hfl : fl ≤ 9) (hn : n ≤ 10) (ht : t ≤ 80) {T : Nat → Int32} {lift : Int32} {I : sw_I} {J : sw_J} {Q : Int32 → sw_I → sw_J → Prop} (hf : I 3 0 = nI fl) (hr : I 3 2 = nI n) (hs : I 1 1 = nI t) (hT : I 2 = T) :
    ∀ (d place l p : Nat), p + d = min t 76 → place ≤ 6 → l ≤ p → Q (auV t 76 (auM T fl n lift d place l p)) I J → wl_X1_flawOfLines_28 Q (d + 1) lift (nI (min t 76)) (nI place) (nI l) (nI p) I J := by
  intro d
  induction d with
  | zero =>
    intro place l p hp hpl hlp h
    show wb_X1_flawOfLines_28 _ Q _ _ _ _ _ I J
    unfold wb_X1_flawOfLines_28
    rw [sw_if_f (nI_nlt (by omega) (by omega))]
    unfold auM auV at h
    have fin : ∀ b : Bool, b = decide (5 ≤ place) → wB_X1_flawOfLines_127 Q 76 (bI b) I J := by
      intro b hb
      unfold wB_X1_flawOfLines_127 wp_X8_flawAtEnd
      rw [hs]
      dsimp only at h
      refine ⟨fun c => ?_, fun c => ⟨fun c2 => ?_, fun c2 => ?_⟩⟩
      · have : 76 < t := by
          rcases Nat.lt_or_ge 76 t with q | q
          · exact q
          · exact absurd c (nI_nlt (a := 76) q (by decide))
        rw [if_pos this] at h; exact h
      · have : ¬ 76 < t := fun q => c (nI_lt (a := 76) q (by omega))
        rw [if_neg this] at h
        have h5 : ¬ 5 ≤ place := fun q => by rw [decide_eq_true q] at hb; rw [hb] at c2; exact absurd c2 (by decide)
        rw [if_neg (by rw [if_neg h5]; decide)] at h; exact h
      · have : ¬ 76 < t := fun q => c (nI_lt (a := 76) q (by omega))
        rw [if_neg this] at h
        have h5 : 5 ≤ place := by
          rcases Nat.lt_or_ge place 5 with q | q
          · rw [decide_eq_false (by omega)] at hb; rw [hb] at c2; exact absurd rfl c2
          · exact q
        rw [if_pos (by rw [if_pos h5])] at h; exact h
    refine ⟨fun c => ?_, fun c => ?_⟩
    · refine fin false (decide_eq_false (fun q => nI_nlt (a := 5) (b := place) ?_ (by omega) ?_)).symm
      · exact absurd c (nI_nlt (b := 5) (a := place) q (by omega))
      · exact absurd c (nI_nlt (b := 5) (a := place) q (by omega))
    · refine fin true (decide_eq_true ?_).symm
      rcases Nat.lt_or_ge place 5 with q | q
      · exact absurd (nI_lt (b := 5) q (by decide)) c
      · exact q
  | succ d ih =>
    intro place l p hp hpl hlp h
    show wb_X1_flawOfLines_28 _ Q _ _ _ _ _ I J
    unfold wb_X1_flawOfLines_28
    rw [sw_if_t (nI_lt (by omega) (by omega))]
    refine s_X8_at ht hs hT (by omega) ?_
    rw [if_pos (by omega)]
    unfold auM at h
    have go : ¬ (place = 0 ∧ 10 < n + (l + 1)) → wB_X1_flawOfLines_65 (wl_X1_flawOfLines_28 Q (d + 1)) Q lift (nI (min t 76)) (nI place) (nI (if place = 0 then l + 1 else l)) (nI p) (T p) I J := by
      intro hno
      rw [if_neg hno] at h
      unfold wB_X1_flawOfLines_65
      have step : ∀ b : Bool, b = decide (pvS T p - 48 = lift) → wB_X1_flawOfLines_85 (wl_X1_flawOfLines_28 Q (d + 1)) Q lift (nI (min t 76)) (nI place) (nI (if place = 0 then l + 1 else l)) (nI p) (T p) (bI b) I J := by
        intro b hb
        unfold wB_X1_flawOfLines_85
        refine s_X1_nextPlace hfl hpl hf ?_
        rw [hb]
        cases hr2 : npN fl (decide (pvS T p - 48 = lift)) place (T p) with
        | none =>
          rw [hr2] at h
          rw [sw_if_t (by decide)]
          exact h
        | some r =>
          have hr6 := np_rng hr2
          rw [hr2] at h
          rw [sw_if_f (show ¬ npV (some r) < 0 from nI_pos (by omega))]
          intro y hy
          rw [hy, nI_1]
          exact ih r _ (p + 1) (by omega) hr6 (by split <;> omega) h
      have prev : wp_X8_at (nI p - 1) I J (fun r1 I2 J3 => sw_if ((r1 - 48) = lift) (wB_X1_flawOfLines_85 (wl_X1_flawOfLines_28 Q (d + 1)) Q lift (nI (min t 76)) (nI place) (nI (if place = 0 then l + 1 else l)) (nI p) (T p) 1 I2 J3) (wB_X1_flawOfLines_85 (wl_X1_flawOfLines_28 Q (d + 1)) Q lift (nI (min t 76)) (nI place) (nI (if place = 0 then l + 1 else l)) (nI p) (T p) 0 I2 J3)) := by
        have val : ∀ v, v = pvS T p → sw_if ((v - 48) = lift) (wB_X1_flawOfLines_85 (wl_X1_flawOfLines_28 Q (d + 1)) Q lift (nI (min t 76)) (nI place) (nI (if place = 0 then l + 1 else l)) (nI p) (T p) 1 I J) (wB_X1_flawOfLines_85 (wl_X1_flawOfLines_28 Q (d + 1)) Q lift (nI (min t 76)) (nI place) (nI (if place = 0 then l + 1 else l)) (nI p) (T p) 0 I J) := by
          intro v hv
          rw [hv]
          refine ⟨fun c => ?_, fun c => ?_⟩
          · exact step true (decide_eq_true c).symm
          · exact step false (decide_eq_false c).symm
        cases p with
        | zero =>
          unfold wp_X8_at
          rw [sw_if_t (by decide)]
          exact val _ rfl
        | succ p =>
          rw [nI_pred]
          refine s_X8_at ht hs hT (by omega) ?_
          rw [if_pos (by omega)]
          exact val _ (by unfold pvS; rw [if_neg (by omega), Nat.add_sub_cancel])
      exact prev
    by_cases c0 : place = 0
    · rw [sw_if_t (by rw [c0]; rfl), hr]
      intro y hy
      rw [nI_1] at hy
      rw [hy, nI_add]
      rw [if_pos c0] at go
      by_cases c1 : 10 < n + (l + 1)
      · rw [sw_if_t (show (10 : Int32) < nI (n + (l + 1)) from nI_lt (a := 10) c1 (by omega))]
        rw [if_pos ⟨c0, c1⟩] at h; exact h
      · rw [sw_if_f (show ¬ (10 : Int32) < nI (n + (l + 1)) from nI_nlt (a := 10) (by omega) (by decide))]
        exact go (fun q => c1 q.2)
    · rw [sw_if_f (show ¬ nI place = (0 : Int32) from fun q => c0 ((nI_eq (b := 0) (by omega) (by decide)).mp q))]
      rw [if_neg c0] at go
      exact go (fun q => c0 q.1)
theorem c_flaw {fl n t : Nat} (hfl : fl ≤ 9) (hn : n ≤ 10) (ht : t ≤ 80) {T : Nat → Int32} {lift : Int32} {I : sw_I} {J : sw_J} {Q : Int32 → sw_I → sw_J → Prop} (hf : I 3 0 = nI fl) (hr : I 3 2 = nI n) (hs : I 1 1 = nI t) (hT : I 2 = T) (h : Q (if t = 0 then -1 else auV t 76 (auM T fl n lift (min t 76) 0 0 0)) I J) : wp_X1_flawOfLines lift I J Q := by
  unfold wp_X1_flawOfLines
  rw [hs]
  by_cases c : t = 0
  · rw [sw_if_t (by rw [c]; rfl)]; rw [if_pos c] at h; exact h
  · rw [sw_if_f (nI_ne0 (by omega) (by omega))]
    rw [if_neg c] at h
    intro y hy
    have ey : y = nI (min t 76) := by
      rw [hy]
      by_cases c2 : 76 < t
      · rw [if_pos (show (76 : Int32) < nI t from nI_lt (a := 76) c2 (by omega)), show min t 76 = 76 by omega]; rfl
      · rw [if_neg (show ¬ (76 : Int32) < nI t from nI_nlt (a := 76) (by omega) (by decide)), show min t 76 = t by omega]
    rw [ey]
    exact ⟨min t 76 + 1, s_flaw_loop hfl hn ht hf hr hs hT (min t 76) 0 0 0 (Nat.zero_add _) (by omega) (by omega) h⟩
