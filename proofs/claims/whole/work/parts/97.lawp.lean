/-! law: signs and single steps of the class -/
theorem ifc {c : Nat} (k : Nat) (hc : c < 256) (hk : k < 256) {A B : Prop} (h1 : c = k → A) (h0 : ¬ c = k → B) : sw_if (nI c = nI k) A B :=
  ⟨fun q => h1 ((nI_eq (by omega) (by omega)).mp q), fun q => h0 (fun e => q (by rw [e]))⟩
def dgN (c : Nat) : Bool := decide (48 ≤ c ∧ c ≤ 57)
def nmN (c : Nat) : Bool := decide (c = 102 ∨ c = 119 ∨ c = 100 ∨ c = 115 ∨ c = 110 ∨ c = 114 ∨ c = 108)
def cpN (c : Nat) : Bool := decide (c = 60 ∨ c = 62 ∨ c = 61)
def arN (c : Nat) : Bool := decide (c = 43 ∨ c = 45 ∨ c = 42 ∨ c = 47)
def sgN (c : Nat) : Nat := if c = 126 then 4 else if c = 42 then 3 else if c = 47 then 3 else if c = 43 then 2 else if c = 45 then 2 else if cpN c = true then 1 else 0
theorem s_lDigit {c : Nat} (hc : c < 256) {I : sw_I} {J : sw_J} {Q : Int32 → sw_I → sw_J → Prop} (h : Q (bI (dgN c)) I J) : wp_X2_isDigit (nI c) I J Q := by
  unfold wp_X2_isDigit
  unfold dgN at h
  refine ⟨fun q => ?_, fun q => ⟨fun q2 => ?_, fun q2 => ?_⟩⟩
  · have := (nI_ltJ (a := c) (b := 48) (by omega) (by omega)).mp q
    rw [decide_eq_false (by omega)] at h; exact h
  · have := (nI_ltJ (a := 57) (b := c) (by omega) (by omega)).mp q2
    rw [decide_eq_false (by omega)] at h; exact h
  · have a1 : ¬ c < 48 := fun w => q ((nI_ltJ (a := c) (b := 48) (by omega) (by omega)).mpr w)
    have a2 : ¬ 57 < c := fun w => q2 ((nI_ltJ (a := 57) (b := c) (by omega) (by omega)).mpr w)
    rw [decide_eq_true (by omega)] at h; exact h
theorem s_lName {c : Nat} (hc : c < 256) {I : sw_I} {J : sw_J} {Q : Int32 → sw_I → sw_J → Prop} (h : Q (bI (nmN c)) I J) : wp_X2_isName (nI c) I J Q := by
  have yes : nmN c = true → wB_X2_isName_42 Q I J := fun e => by rw [e] at h; exact h
  refine ifc 102 hc (by omega) (fun e => yes (by rw [e]; rfl)) (fun e1 => ifc 119 hc (by omega) (fun e => yes (by rw [e]; rfl)) (fun e2 => ifc 100 hc (by omega) (fun e => yes (by rw [e]; rfl)) (fun e3 => ifc 115 hc (by omega) (fun e => yes (by rw [e]; rfl)) (fun e4 => ifc 110 hc (by omega) (fun e => yes (by rw [e]; rfl)) (fun e5 => ifc 114 hc (by omega) (fun e => yes (by rw [e]; rfl)) (fun e6 => ifc 108 hc (by omega) (fun e => yes (by rw [e]; rfl)) (fun e7 => ?_)))))))
  have : nmN c = false := decide_eq_false (by omega)
  rw [this] at h; exact h
theorem s_lCmp {c : Nat} (hc : c < 256) {I : sw_I} {J : sw_J} {Q : Int32 → sw_I → sw_J → Prop} (h : Q (bI (cpN c)) I J) : wp_X2_compares (nI c) I J Q := by
  have yes : cpN c = true → wB_X2_compares_18 Q I J := fun e => by rw [e] at h; exact h
  refine ifc 60 hc (by omega) (fun e => yes (by rw [e]; rfl)) (fun e1 => ifc 62 hc (by omega) (fun e => yes (by rw [e]; rfl)) (fun e2 => ifc 61 hc (by omega) (fun e => yes (by rw [e]; rfl)) (fun e3 => ?_)))
  have : cpN c = false := decide_eq_false (by omega)
  rw [this] at h; exact h
theorem s_lJoin {c : Nat} (hc : c < 256) {I : sw_I} {J : sw_J} {Q : Int32 → sw_I → sw_J → Prop} (h : Q (bI (arN c || cpN c)) I J) : wp_X2_joinsTwo (nI c) I J Q := by
  have yes : (arN c || cpN c) = true → wB_X2_joinsTwo_31 Q I J := fun e => by rw [e] at h; exact h
  refine ifc 43 hc (by omega) (fun e => yes (by rw [e]; rfl)) (fun e1 => ifc 45 hc (by omega) (fun e => yes (by rw [e]; rfl)) (fun e2 => ifc 42 hc (by omega) (fun e => yes (by rw [e]; rfl)) (fun e3 => ifc 47 hc (by omega) (fun e => yes (by rw [e]; rfl)) (fun e4 => s_lCmp hc ?_))))
  have ar : arN c = false := decide_eq_false (by omega)
  rw [ar, Bool.false_or] at h yes
  cases hb : cpN c
  · rw [sw_if_t (by rfl)]; rw [hb] at h; exact h
  · rw [sw_if_f (by decide)]; exact yes hb
theorem s_lStr {c : Nat} (hc : c < 256) {I : sw_I} {J : sw_J} {Q : Int32 → sw_I → sw_J → Prop} (h : Q (nI (sgN c)) I J) : wp_X2_strength (nI c) I J Q := by
  refine ifc 126 hc (by omega) (fun e => by rw [e] at h; exact h) (fun e1 => ifc 42 hc (by omega) (fun e => by rw [e] at h; exact h) (fun e2 => ifc 47 hc (by omega) (fun e => by rw [e] at h; exact h) (fun e3 => ifc 43 hc (by omega) (fun e => by rw [e] at h; exact h) (fun e4 => ifc 45 hc (by omega) (fun e => by rw [e] at h; exact h) (fun e5 => s_lCmp hc ?_)))))
  unfold sgN at h
  rw [if_neg e1, if_neg e2, if_neg e3, if_neg e4, if_neg e5] at h
  cases hb : cpN c
  · rw [sw_if_t (by rfl)]; rw [hb, if_neg (by decide)] at h; exact h
  · rw [sw_if_f (by decide)]; rw [hb, if_pos rfl] at h; exact h
/-! the flaw: a step -/
theorem bitE (c5 : Int32) (o : Nat) : ((c5 >>> (nI o &&& 31)) &&& 1 = 0) ↔ inB c5 o = false := by
  have : inB c5 o = true ↔ ¬ ((c5 >>> (nI o &&& 31)) &&& 1 = 0) := by unfold inB; simp
  cases hb : inB c5 o
  · exact ⟨fun _ => rfl, fun _ => Classical.byContradiction (fun q => by have := this.mpr q; rw [hb] at this; cases this)⟩
  · exact ⟨fun q => absurd q (this.mp hb), fun q => by cases q⟩
section LW
variable {T : Nat → Int32} {U : Nat → Nat} {t to : Nat}
theorem flw_w {p o F : Nat} (ht : t ≤ 80) (hto : to ≤ 40) (hle : to ≤ t) (hU : txU T U t) (hp : p < to) (ho : o ≤ 4) {c5 : Int32} {I : sw_I} {J : sw_J} {Q : Int32 → sw_I → sw_J → Prop} (hs : I 1 1 = nI t) (hT : I 2 = T)
    (h1 : U p = 40 → o < 4 → wl_X2_flawOf_33 Q F (nI to) 1 (nI (o + 1)) (c5 &&& (((1 : Int32) <<< (nI (o + 1) &&& 31)) ^^^ (-1))) 0 (nI (p + 1)) I J)
    (h2 : dgN (U p) = true → wl_X2_flawOf_33 Q F (nI to) 0 (nI o) c5 (nI 1) (nI (p + 1)) I J)
    (h3 : nmN (U p) = true → wl_X2_flawOf_33 Q F (nI to) 0 (nI o) c5 (nI 0) (nI (p + 1)) I J)
    (h4 : U p = 45 → wl_X2_flawOf_33 Q F (nI to) 1 (nI o) c5 0 (nI (p + 1)) I J)
    (h5 : ¬ (U p = 40 ∧ o < 4) → dgN (U p) = false → nmN (U p) = false → ¬ U p = 45 → Q (nI p) I J) : wl_X2_flawOf_33 Q (F + 1) (nI to) 1 (nI o) c5 0 (nI p) I J := by
  have hu := hU p (by omega)
  show wb_X2_flawOf_33 _ Q _ _ _ _ _ _ I J
  unfold wb_X2_flawOf_33
  rw [sw_if_t (nI_lt hp (by omega))]
  refine s_X8_at ht hs hT (by omega) ?_
  rw [if_pos (by omega), hu.1]
  refine s_lDigit hu.2 ?_
  have at99 : ∀ g, (¬ (U p = 40 ∧ o < 4)) → (dgN (U p) = true → g = nI 1) → (dgN (U p) = false → g = 0) → wB_X2_flawOf_99 (wl_X2_flawOf_33 Q F) Q (nI to) 1 (nI o) c5 g (nI p) (nI (U p)) I J := by
    intro g hno hg1 hg0
    unfold wB_X2_flawOf_99
    refine s_lDigit hu.2 ?_
    cases hd : dgN (U p)
    · rw [sw_if_t (by rfl), hg0 hd]
      refine s_lName hu.2 ?_
      cases hn : nmN (U p)
      · rw [sw_if_t (by rfl)]
        refine ifc 45 hu.2 (by omega) (fun e => ?_) (fun e => h5 hno hd hn e)
        intro y hy; rw [hy, nI_1]; exact h4 e
      · rw [sw_if_f (by decide)]
        intro y hy; rw [hy, nI_1]; exact h3 hn
    · rw [sw_if_f (by decide), hg1 hd]
      intro y hy; rw [hy, nI_1]; exact h2 hd
  have at63 : ∀ g, (dgN (U p) = true → g = nI 1) → (dgN (U p) = false → g = 0) → wB_X2_flawOf_63 (wl_X2_flawOf_33 Q F) Q (nI to) 1 (nI o) c5 (nI p) (nI (U p)) g I J := by
    intro g hg1 hg0
    unfold wB_X2_flawOf_63
    rw [sw_if_f (by decide)]
    refine ifc 40 hu.2 (by omega) (fun e => ?_) (fun e => at99 g (fun q => e q.1) hg1 hg0)
    have hd : dgN (U p) = false := by rw [e]; rfl
    by_cases c4 : o < 4
    · rw [sw_if_t (show nI o < (4 : Int32) from nI_lt (b := 4) c4 (by decide))]
      intro y hy y2 hy2 y3 hy3
      rw [hy3, hy2, hy, nI_1, nI_1, hg0 hd]; exact h1 e c4
    · rw [sw_if_f (show ¬ nI o < (4 : Int32) from nI_nlt (b := 4) (by omega) (by omega))]
      exact at99 g (fun q => c4 q.2) hg1 hg0
  cases hd : dgN (U p)
  · rw [sw_if_t (by rfl)]; exact at63 0 (fun q => by rw [hd] at q; cases q) (fun _ => rfl)
  · rw [sw_if_f (by decide)]; exact at63 _ (fun _ => by decide) (fun q => by rw [hd] at q; cases q)
theorem flw_n {p o F g : Nat} (ht : t ≤ 80) (hto : to ≤ 40) (hle : to ≤ t) (hU : txU T U t) (hp : p < to) (ho : o ≤ 4) (hg : g ≤ 3) {c5 : Int32} {I : sw_I} {J : sw_J} {Q : Int32 → sw_I → sw_J → Prop} (hs : I 1 1 = nI t) (hT : I 2 = T)
    (h1 : arN (U p) = true → wl_X2_flawOf_33 Q F (nI to) 1 (nI o) c5 0 (nI (p + 1)) I J)
    (h2 : cpN (U p) = true → inB c5 o = false → wl_X2_flawOf_33 Q F (nI to) 1 (nI o) (c5 ||| ((1 : Int32) <<< (nI o &&& 31))) 0 (nI (p + 1)) I J)
    (h3 : cpN (U p) = true → inB c5 o = true → Q (nI p) I J)
    (h4 : U p = 41 → 0 < o → wl_X2_flawOf_33 Q F (nI to) 0 (nI (o - 1)) c5 (nI 0) (nI (p + 1)) I J)
    (h5 : dgN (U p) = true → g = 1 ∨ g = 2 → wl_X2_flawOf_33 Q F (nI to) 0 (nI o) c5 (nI (g + 1)) (nI (p + 1)) I J)
    (h6 : dgN (U p) = true → g = 0 ∨ g = 3 → Q (nI p) I J)
    (h7 : arN (U p) = false → cpN (U p) = false → ¬ (U p = 41 ∧ 0 < o) → dgN (U p) = false → Q (nI p) I J) : wl_X2_flawOf_33 Q (F + 1) (nI to) 0 (nI o) c5 (nI g) (nI p) I J := by
  have hu := hU p (by omega)
  show wb_X2_flawOf_33 _ Q _ _ _ _ _ _ I J
  unfold wb_X2_flawOf_33
  rw [sw_if_t (nI_lt hp (by omega))]
  refine s_X8_at ht hs hT (by omega) ?_
  rw [if_pos (by omega), hu.1]
  refine s_lDigit hu.2 ?_
  have dig : dgN (U p) = true → arN (U p) = false ∧ cpN (U p) = false ∧ ¬ U p = 41 := fun q => by
    have := of_decide_eq_true q
    exact ⟨decide_eq_false (by omega), decide_eq_false (by omega), by omega⟩
  have at191 : ∀ k : Nat, (dgN (U p) = true → k = g + 1) → (dgN (U p) = false → k = 0) → arN (U p) = false → cpN (U p) = false → ¬ (U p = 41 ∧ 0 < o) → wB_X2_flawOf_191 (wl_X2_flawOf_33 Q F) Q (nI to) 0 (nI o) c5 (nI k) (nI p) I J := by
    intro k k1 k0 a1 a2 a3
    unfold wB_X2_flawOf_191
    cases hd : dgN (U p)
    · rw [k0 hd, sw_if_t (by decide)]; exact h7 a1 a2 a3 hd
    · rw [k1 hd]
      by_cases c1 : g = 0
      · rw [sw_if_t (show nI (g + 1) < (2 : Int32) from nI_lt (b := 2) (by omega) (by decide))]; exact h6 hd (Or.inl c1)
      · rw [sw_if_f (show ¬ nI (g + 1) < (2 : Int32) from nI_nlt (b := 2) (by omega) (by omega))]
        by_cases c2 : g = 3
        · rw [sw_if_t (show (3 : Int32) < nI (g + 1) from nI_lt (a := 3) (by omega) (by omega))]; exact h6 hd (Or.inr c2)
        · rw [sw_if_f (show ¬ (3 : Int32) < nI (g + 1) from nI_nlt (a := 3) (by omega) (by omega))]
          intro y hy; rw [hy, nI_1]; exact h5 hd (by omega)
  have at63 : ∀ k : Nat, (dgN (U p) = true → k = g + 1) → (dgN (U p) = false → k = 0) → wB_X2_flawOf_63 (wl_X2_flawOf_33 Q F) Q (nI to) 0 (nI o) c5 (nI p) (nI (U p)) (nI k) I J := by
    intro k k1 k0
    unfold wB_X2_flawOf_63
    rw [sw_if_t rfl]
    refine s_lJoin hu.2 ?_
    cases ha : arN (U p)
    · rw [Bool.false_or]
      cases hcp : cpN (U p)
      · rw [sw_if_t (by rfl)]
        refine ifc 41 hu.2 (by omega) (fun e => ?_) (fun e => at191 k k1 k0 ha hcp (fun q => e q.1))
        have hd : dgN (U p) = false := by rw [e]; rfl
        by_cases co : 0 < o
        · rw [sw_if_t (show (0 : Int32) < nI o from nI_lt (a := 0) co (by omega))]
          intro y hy y2 hy2
          rw [hy2, hy, nI_1, nI_addm1 co, k0 hd]; exact h4 e co
        · rw [sw_if_f (show ¬ (0 : Int32) < nI o from nI_nlt (a := 0) (by omega) (by decide))]
          exact at191 k k1 k0 ha hcp (fun q => co q.2)
      · rw [sw_if_f (by decide)]
        have hd : dgN (U p) = false := by
          cases hd : dgN (U p)
          · rfl
          · rw [(dig hd).2.1] at hcp; cases hcp
        refine s_lCmp hu.2 ?_
        rw [hcp, sw_if_f (by decide)]
        cases hb : inB c5 o
        · rw [sw_if_t ((bitE c5 o).mpr hb)]
          intro y hy y2 hy2
          rw [hy2, hy, nI_1, k0 hd]; exact h2 hcp hb
        · rw [sw_if_f (fun q => by rw [(bitE c5 o).mp q] at hb; cases hb)]; exact h3 hcp hb
    · rw [Bool.true_or, sw_if_f (by decide)]
      have hd : dgN (U p) = false := by
        cases hd : dgN (U p)
        · rfl
        · rw [(dig hd).1] at ha; cases ha
      have hcp : cpN (U p) = false := by
        have := of_decide_eq_true ha
        exact decide_eq_false (by omega)
      refine s_lCmp hu.2 ?_
      rw [hcp, sw_if_t (by rfl)]
      intro y hy; rw [hy, nI_1, k0 hd]; exact h1 ha
  cases hd : dgN (U p)
  · rw [sw_if_t (by rfl)]; exact at63 0 (fun q => by rw [hd] at q; cases q) (fun _ => rfl)
  · rw [sw_if_f (by decide), nI_1]; exact at63 _ (fun _ => rfl) (fun q => by rw [hd] at q; cases q)
/-- at the end of the signs -/
theorem flw_e {o F : Nat} {wt : Bool} (ht : t ≤ 80) (hto : to = min t 40) (ho : o ≤ 4) {c5 g : Int32} {I : sw_I} {J : sw_J} {Q : Int32 → sw_I → sw_J → Prop} (hs : I 1 1 = nI t) (h0 : (wt = true ∨ 0 < o) → Q (nI to) I J) (h1 : wt = false → o = 0 → Q (if 40 < t then nI 40 else -1) I J) : wl_X2_flawOf_33 Q (F + 1) (nI to) (bI wt) (nI o) c5 g (nI to) I J := by
  have no : (wt = true ∨ 0 < o) → wB_X2_flawOf_228 Q 40 I J := fun q => by
    have := h0 q
    unfold wB_X2_flawOf_228 wB_X2_flawOf_229 wp_X8_flawAtEnd
    rw [hs]
    by_cases c : 40 < t
    · rw [sw_if_t (show (40 : Int32) < nI t from nI_lt (a := 40) c (by omega))]
      rw [hto, show min t 40 = 40 by omega] at this; exact this
    · rw [sw_if_f (show ¬ (40 : Int32) < nI t from nI_nlt (a := 40) (by omega) (by decide)), sw_if_t rfl]
      rw [hto, show min t 40 = t by omega] at this; exact this
  show wb_X2_flawOf_33 _ Q _ _ _ _ _ _ I J
  unfold wb_X2_flawOf_33
  rw [sw_if_f (nI_nlt (Nat.le_refl _) (by omega))]
  cases hw : wt
  · rw [sw_if_t (by rfl)]
    by_cases c : o = 0
    · rw [c, sw_if_t (by rfl)]
      have := h1 hw c
      unfold wB_X2_flawOf_229 wp_X8_flawAtEnd
      rw [hs]
      by_cases c : 40 < t
      · rw [sw_if_t (show (40 : Int32) < nI t from nI_lt (a := 40) c (by omega))]
        rw [if_pos c] at this; exact this
      · rw [sw_if_f (show ¬ (40 : Int32) < nI t from nI_nlt (a := 40) (by omega) (by decide)), sw_if_f (by decide)]
        rw [if_neg c] at this; exact this
    · rw [sw_if_f (nI_ne0 (by omega) (by omega))]; exact no (Or.inr (by omega))
  · rw [sw_if_f (by decide)]; exact no (Or.inl hw)
/-! take: what the row and the waiting signs hold -/
def syS (I : sw_I) (K : List Int32) (W : List Nat) (a : Bool) : Prop := I 6 3 = nI K.length ∧ (∀ i, i < K.length → I 7 i = K.getD i 0) ∧ I 6 4 = nI W.length ∧ (∀ i, i < W.length → I 8 i = nI (W.getD i 0)) ∧ I 6 5 = bI a
abbrev tkC : List Nat := [6, 7, 8]
theorem gI_app {L : List Int32} {v : Int32} {i : Nat} (h : i < L.length) : (L ++ [v]).getD i 0 = L.getD i 0 := by simp [List.getD, List.getElem?_append_left h]
theorem gI_end {L : List Int32} {v : Int32} : (L ++ [v]).getD L.length 0 = v := by simp [List.getD]
theorem s_put {K : List Int32} {W : List Nat} {a : Bool} {x : Int32} (hK : K.length < 40) {I : sw_I} {J : sw_J} {Q : sw_I → sw_J → Prop} (h : syS I K W a) (hq : ∀ I2, eqx tkC I I2 → syS I2 (K ++ [x]) W a → Q I2 J) : wp_X2_put x I J Q := by
  obtain ⟨h1, h2, h3, h4, h5⟩ := h
  unfold wp_X2_put
  rw [show I 6 3 = nI K.length from h1, sw_if_t (show nI K.length < (40 : Int32) from nI_lt (b := 40) hK (by decide)), nI_clamp (by omega)]
  refine ⟨vp0 hK (by decide), fun I3 e3 I5 e5 => ?_⟩
  have s3 : I3 6 3 = nI K.length := by rw [e3, sw_up_cell _ _ _ _ (by decide)]; exact h1
  rw [s3, nI_1] at e5
  refine hq I5 (by rw [e5, e3]; exact (eqx.rf.up (by decide) _ _).up (by decide) _ _) ⟨?_, fun i hi => ?_, ?_, fun i hi => ?_, ?_⟩
  · rw [e5, List.length_append]; exact sw_up_same _ _ _ _
  · rw [List.length_append] at hi
    rw [e5, sw_up_cell _ _ _ _ (by decide), e3]
    by_cases c : i = K.length
    · rw [c, sw_up_same, gI_end]
    · have hi2 : i < K.length := by simp at hi; omega
      rw [sw_up_slot _ _ _ _ c, gI_app hi2]; exact h2 i hi2
  · rw [e5, sw_up_slot _ _ _ _ (by decide), e3, sw_up_cell _ _ _ _ (by decide)]; exact h3
  · rw [e5, sw_up_cell _ _ _ _ (by decide), e3, sw_up_cell _ _ _ _ (by decide)]; exact h4 i hi
  · rw [e5, sw_up_slot _ _ _ _ (by decide), e3, sw_up_cell _ _ _ _ (by decide)]; exact h5
theorem s_await {K : List Int32} {W : List Nat} {a : Bool} {x : Nat} (hW : W.length < 40) {I : sw_I} {J : sw_J} {Q : sw_I → sw_J → Prop} (h : syS I K W a) (hq : ∀ I2, eqx tkC I I2 → syS I2 K (W ++ [x]) a → Q I2 J) : wp_X2_await (nI x) I J Q := by
  obtain ⟨h1, h2, h3, h4, h5⟩ := h
  unfold wp_X2_await
  rw [show I 6 4 = nI W.length from h3, sw_if_t (show nI W.length < (40 : Int32) from nI_lt (b := 40) hW (by decide)), nI_clamp (by omega)]
  refine ⟨vp0 hW (by decide), fun I3 e3 I5 e5 => ?_⟩
  have s3 : I3 6 4 = nI W.length := by rw [e3, sw_up_cell _ _ _ _ (by decide)]; exact h3
  rw [s3, nI_1] at e5
  refine hq I5 (by rw [e5, e3]; exact (eqx.rf.up (by decide) _ _).up (by decide) _ _) ⟨?_, fun i hi => ?_, ?_, fun i hi => ?_, ?_⟩
  · rw [e5, sw_up_slot _ _ _ _ (by decide), e3, sw_up_cell _ _ _ _ (by decide)]; exact h1
  · rw [e5, sw_up_cell _ _ _ _ (by decide), e3, sw_up_cell _ _ _ _ (by decide)]; exact h2 i hi
  · rw [e5, List.length_append]; exact sw_up_same _ _ _ _
  · rw [List.length_append] at hi
    rw [e5, sw_up_cell _ _ _ _ (by decide), e3]
    by_cases c : i = W.length
    · rw [c, sw_up_same, getN_end]
    · have hi2 : i < W.length := by simp at hi; omega
      rw [sw_up_slot _ _ _ _ c, getN_app hi2]; exact h4 i hi2
  · rw [e5, sw_up_slot _ _ _ _ (by decide), e3, sw_up_cell _ _ _ _ (by decide)]; exact h5
def cdO (x : Nat) : Int32 := -(nI x)
/-- the signs that wait, as they are put: the last one first -/
def rvC (Q : List Nat) : List Int32 := Q.reverse.map cdO
theorem rvC_app (A B : List Nat) : rvC (A ++ B) = rvC B ++ rvC A := by unfold rvC; rw [List.reverse_append, List.map_append]
theorem rvC_len (A : List Nat) : (rvC A).length = A.length := by unfold rvC; rw [List.length_map, List.length_reverse]
def topL (S : List Nat) (s : Nat) : Prop := ∀ S2 q, S = S2 ++ [q] → sgN q < s
theorem syS_drop {I I2 : sw_I} {K : List Int32} {W : List Nat} {q : Nat} {a : Bool} (h : syS I K (W ++ [q]) a) (e2 : I2 = sw_up I 6 4 (nI W.length)) : syS I2 K W a := by
  obtain ⟨h1, h2, h3, h4, h5⟩ := h
  refine ⟨?_, fun i hi => ?_, ?_, fun i hi => ?_, ?_⟩
  · rw [e2, sw_up_slot _ _ _ _ (by decide)]; exact h1
  · rw [e2, sw_up_cell _ _ _ _ (by decide)]; exact h2 i hi
  · rw [e2]; exact sw_up_same _ _ _ _
  · rw [e2, sw_up_cell _ _ _ _ (by decide), h4 i (by rw [List.length_append]; omega), getN_app hi]
  · rw [e2, sw_up_slot _ _ _ _ (by decide)]; exact h5
theorem s_release {S : List Nat} {s : Nat} {a : Bool} (hs4 : s ≤ 4) {J : sw_J} {Q : sw_I → sw_J → Prop} (hS : topL S s) (hS6 : ∀ x, x ∈ S → x < 256) : ∀ (n : Nat) (K : List Int32) (P : List Nat) (I : sw_I), P.length = n → (∀ x, x ∈ P → s ≤ sgN x ∧ x < 256) → K.length + (S ++ P).length ≤ 40 → syS I K (S ++ P) a → (∀ I2, eqx tkC I I2 → syS I2 (K ++ rvC P) S a → Q I2 J) → wl_X2_release_0 Q (n + 1) (nI s) I J := by
  intro n
  induction n with
  | zero =>
    intro K P I hP hq hlen h hk
    obtain rfl : P = [] := List.length_eq_zero_iff.mp hP
    rw [List.append_nil] at h hlen
    have fin : Q I J := hk I eqx.rf (by show syS I (K ++ []) S a; rw [List.append_nil]; exact h)
    show wb_X2_release_0 _ Q _ I J
    unfold wb_X2_release_0
    rw [show I 6 4 = nI S.length from h.2.2.1]
    rcases List.eq_nil_or_concat S with e | ⟨S2, q, e⟩
    · rw [e, sw_if_f (by decide)]; exact fin
    · have e' : S = S2 ++ [q] := by rw [e, List.concat_eq_append]
      have hl : S.length = S2.length + 1 := by rw [e', List.length_append]; rfl
      rw [hl, sw_if_t (show (0 : Int32) < nI (S2.length + 1) from nI_lt (a := 0) (by omega) (by omega)), nI_pred, nI_clamp (by omega), show I 8 S2.length = nI q by rw [h.2.2.2.1 S2.length (by omega), e', getN_end]]
      refine ⟨vp0 (by omega) (by decide), s_lStr (hS6 q (by rw [e']; simp)) ?_⟩
      rw [sw_if_t (nI_lt (hS S2 q e') (by omega))]; exact fin
  | succ n ih =>
    intro K P I hP hq hlen h hk
    rcases List.eq_nil_or_concat P with e | ⟨P2, q, e⟩
    · rw [e] at hP; cases hP
    · have e' : P = P2 ++ [q] := by rw [e, List.concat_eq_append]
      rw [e', ← List.append_assoc] at h hlen
      rw [e', List.length_append] at hP
      have hP2 : P2.length = n := by simpa using hP
      have hl : (S ++ P2 ++ [q]).length = (S ++ P2).length + 1 := by rw [List.length_append]; rfl
      have hqq := hq q (by rw [e']; simp)
      show wb_X2_release_0 _ Q _ I J
      unfold wb_X2_release_0
      rw [show I 6 4 = nI ((S ++ P2).length + 1) by rw [← hl]; exact h.2.2.1, sw_if_t (show (0 : Int32) < nI ((S ++ P2).length + 1) from nI_lt (a := 0) (by omega) (by omega)), nI_pred, nI_clamp (by omega), show I 8 (S ++ P2).length = nI q by rw [h.2.2.2.1 (S ++ P2).length (by omega), getN_end]]
      refine ⟨vp0 (by omega) (by decide), s_lStr hqq.2 ?_⟩
      rw [sw_if_f (nI_nlt hqq.1 (by unfold sgN; repeat' split
                                    all_goals omega))]
      intro I7 e7
      rw [show I 6 4 = nI ((S ++ P2).length + 1) by rw [← hl]; exact h.2.2.1, nI_pred] at e7
      have w7 : I7 6 4 = nI (S ++ P2).length := by rw [e7]; exact sw_up_same _ _ _ _
      have s7 : syS I7 K (S ++ P2) a := syS_drop h e7
      rw [w7, nI_clamp (by omega), show I7 8 (S ++ P2).length = nI q by rw [e7, sw_up_cell _ _ _ _ (by decide), h.2.2.2.1 (S ++ P2).length (by omega), getN_end]]
      refine ⟨vp0 (by omega) (by decide), s_put (by omega) s7 (fun I9 x9 s9 => ?_)⟩
      refine ih (K ++ [cdO q]) P2 I9 hP2 (fun x hx => hq x (by rw [e']; simp [hx])) (by rw [List.length_append]; simp only [List.length_append, List.length_cons, List.length_nil] at hlen ⊢; omega) s9 (fun I2 x2 s2 => ?_)
      refine hk I2 ((show eqx tkC I I7 by rw [e7]; exact eqx.rf.up (by decide) _ _).tr (x9.tr x2)) ?_
      have er : rvC P = [cdO q] ++ rvC P2 := by rw [e', rvC_app]; rfl
      rw [er, ← List.append_assoc]; exact s2
end LW
