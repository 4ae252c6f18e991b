/-! day: the reference reads acts -/
theorem s_among_loop {i len : Nat} (hl : sw_sl.getD i 0 = len) (hlen : len ≤ 20) {T : Nat → Int32} {p to : Nat} {I : sw_I} {J : sw_J} {Q : Int32 → sw_I → sw_J → Prop} (hs : tpS I T p to) (h0 : (p < to → ∀ k, k < len → ¬ T p = sw_ch i k) → Q (-1) I J) (h1 : ∀ k, k < len → p < to → T p = sw_ch i k → (∀ j, j < k → ¬ T p = sw_ch i j) → Q (nI k) I J) :
    ∀ d k, k + d = len → (∀ j, j < k → ¬ T p = sw_ch i j) → wl_X10_among_2 i Q (d + 1) (nI k) I J := by
  obtain ⟨a1, a2, a3, a4, a5⟩ := id hs
  intro d
  induction d with
  | zero =>
    intro k hk hno
    show wb_X10_among_2 i _ Q _ I J
    unfold wb_X10_among_2
    rw [hl, sw_if_f (nI_nlt (by omega) (by omega))]
    exact h0 (fun _ j hj => hno j (by omega))
  | succ d ih =>
    intro k hk hno
    show wb_X10_among_2 i _ Q _ I J
    unfold wb_X10_among_2
    rw [hl, sw_if_t (nI_lt (by omega) (by omega)), a1, a2]
    by_cases c : p < to
    · rw [sw_if_t (nI_lt c (by omega)), nI_clamp (by omega), (a5 p c).1]
      refine ⟨k, by omega, rfl, vp0 (by omega) (by decide), fun q => ?_, fun q => ?_⟩
      · exact h1 k (by omega) c q.symm hno
      · intro y hy
        rw [hy, nI_1]
        exact ih (k + 1) (by omega) (fun j hj => by
          by_cases cj : j = k
          · rw [cj]; exact fun w => q w.symm
          · exact hno j (by omega))
    · rw [sw_if_f (nI_nlt (by omega) (by omega))]
      exact h0 (fun w => absurd w c)
theorem s_among {i len : Nat} (hl : sw_sl.getD i 0 = len) (hlen : len ≤ 20) {T : Nat → Int32} {p to : Nat} {I : sw_I} {J : sw_J} {Q : Int32 → sw_I → sw_J → Prop} (hs : tpS I T p to) (h0 : (p < to → ∀ k, k < len → ¬ T p = sw_ch i k) → Q (-1) I J) (h1 : ∀ k, k < len → p < to → T p = sw_ch i k → (∀ j, j < k → ¬ T p = sw_ch i j) → Q (nI k) I J) : wp_X10_among i I J Q :=
  ⟨len + 1, s_among_loop hl hlen hs h0 h1 len 0 (by omega) (fun j hj => by omega)⟩
def kd (U : Nat → Nat) (p : Nat) : Nat := if U p = 105 then 0 else if U p = 111 then 1 else if U p = 119 then 2 else 3
def lsR (U : Nat → Nat) : Nat → Nat → List Nat
  | 0, _ => []
  | k + 1, p => (U p - 97) :: lsR U k (p + 1)
def acL (U : Nat → Nat) (to p : Nat) : List Nat := if U p = 119 then lsR U 1 (p + 1) else lsR U (dyQ U to p - (p + 1)) (p + 1)
def acN (U : Nat → Nat) (to p : Nat) : Nat := if p + 1 < to ∧ 49 ≤ U (p + 1) ∧ U (p + 1) ≤ 57 then U (p + 1) - 48 else 1
def acW (U : Nat → Nat) (p : Nat) : Int32 := if U (p + 2) = 45 then -1 else nI (U (p + 2) - 48)
def bsL (L : List Nat) (b : Int32) : Prop := ∀ r, r < 32 → inB b r = decide (r ∈ L)
def acV (U : Nat → Nat) (to : Nat) (I : sw_I) (a p : Nat) : Prop := I 156 a = nI (kd U p) ∧ (kd U p = 3 → I 159 a = nI (acN U to p)) ∧ (kd U p ≠ 3 → bsL (acL U to p) (I 157 a)) ∧ (kd U p = 2 → I 158 a = acW U p)
abbrev acA : List Nat := [156, 157, 158, 159]
theorem in_let : ∀ l, l < 11 → ∀ u, u < 256 → ((nI u - 97 < nI (l + 96) - 97 + 1) ↔ u ≤ l + 96) := by decide +kernel
theorem in_let9 : ∀ u, u < 256 → (((9 : Int32) < nI u - 97) ↔ 106 < u) := by decide +kernel
theorem nI_sub {a b : Nat} (h : b ≤ a) : nI a - nI b = nI (a - b) := by
  have : nI (a - b) + nI b = nI a := by rw [nI_add, Nat.sub_add_cancel h]
  rw [← this, Int32.add_sub_cancel]
/-- whether the next letter goes on -/
theorem s_letin {l u : Nat} (h1 : 96 ≤ l) (h2 : l ≤ 106) (hu : u < 256) {I : sw_I} {J : sw_J} {Q : Int32 → sw_I → sw_J → Prop} (h0 : ¬ (97 ≤ u ∧ u ≤ 106 ∧ l < u) → Q 0 I J) (hy : (97 ≤ u ∧ u ≤ 106 ∧ l < u) → Q 1 I J) : wp_X10_in ((nI u - 97).toInt64) ((nI l - 97 + 1).toInt64) 9 I J Q := by
  obtain ⟨k, hk, rfl⟩ : ∃ k, k < 11 ∧ l = k + 96 := ⟨l - 96, by omega, by omega⟩
  refine s_X10_in (b := 9) rfl rfl (fun c => h0 (fun w => ?_)) (fun c1 c2 => hy ?_)
  · rcases c with q | q
    · have := (in_let k hk u hu).mp q; omega
    · have := (in_let9 u hu).mp q; omega
  · have a1 : ¬ u ≤ k + 96 := fun w => c1 ((in_let k hk u hu).mpr w)
    have a2 : ¬ 106 < u := fun w => c2 ((in_let9 u hu).mpr w)
    omega
theorem bsL_app {L : List Nat} {b : Int32} {u : Nat} (h1 : 97 ≤ u) (h2 : u ≤ 106) (h : bsL L b) : bsL (L ++ [u - 97]) (b ||| ((1 : Int32) <<< ((nI u - 97) &&& 31))) := by
  intro r hr
  rw [show nI u - (97 : Int32) = nI (u - 97) from nI_sub h1, inB_or _ _ hr, h r hr, inB_one (u - 97) (by omega) r hr, ← Bool.decide_or]
  exact decide_eq_decide.mpr (by rw [List.mem_append, List.mem_singleton])
theorem bsL_ne {L : List Nat} {b : Int32} {u : Nat} (hu : u < 32) (hm : u ∈ L) (h : bsL L b) : ¬ b = 0 := fun w => by
  have := h u hu
  rw [w, inB_0 hu, decide_eq_true hm] at this; cases this
theorem lsR_s (U : Nat → Nat) {q q2 : Nat} (h : q < q2) : lsR U (q2 - q) q = (U q - 97) :: lsR U (q2 - (q + 1)) (q + 1) := by
  rw [show q2 - q = (q2 - (q + 1)) + 1 by omega]; rfl
theorem m_let_loop {T : Nat → Int32} {U : Nat → Nat} {to : Nat} (hU : txU T U to) {x1 : Int32} (hx : x1 < 2) {I : sw_I} {J : sw_J} {Q : Int32 → sw_I → sw_J → Prop} :
    ∀ (d l q : Nat) (b : Int32) (L : List Nat) (I2 : sw_I), q + d = to → 96 ≤ l → l ≤ 106 → bsL L b → tpS I2 T q to → eqm [] [13] I I2 → (∀ I3 b3, eqm [] [13] I I3 → tpS I3 T (ltQ U to d l q) to → bsL (L ++ lsR U (ltQ U to d l q - q) q) b3 → wB_X10_readsAct_195 Q x1 b3 I3 J) → wl_X10_readsAct_117 Q (d + 1) x1 (nI l - 97) b I2 J := by
  intro d
  induction d with
  | zero =>
    intro l q b L I2 hd h1 h2 hb hs he h
    obtain ⟨a1, a2, a3, a4, a5⟩ := id hs
    show wb_X10_readsAct_117 _ Q _ _ _ I2 J
    unfold wb_X10_readsAct_117
    rw [a1, a2, sw_if_f (nI_nlt (by omega) (by omega))]
    refine h I2 b he hs ?_
    have : ltQ U to 0 l q = q := rfl
    rw [this, Nat.sub_self]; show bsL (L ++ []) b; rw [List.append_nil]; exact hb
  | succ d ih =>
    intro l q b L I2 hd h1 h2 hb hs he h
    obtain ⟨a1, a2, a3, a4, a5⟩ := id hs
    have hu := hU q (by omega)
    show wb_X10_readsAct_117 _ Q _ _ _ I2 J
    unfold wb_X10_readsAct_117
    rw [a1, a2, sw_if_t (nI_lt (by omega) (by omega)), nI_clamp (by omega), (a5 q (by omega)).1, hu.1]
    refine ⟨vp0 (by omega) (by decide), s_letin h1 h2 hu.2 (fun c => ?_) (fun c => ?_)⟩
    · rw [sw_if_t rfl]
      have e : ltQ U to (d + 1) l q = q := by show (if _ then _ else _) = _; rw [if_neg (fun w => c w.2)]
      refine h I2 b he (by rw [e]; exact hs) ?_
      rw [e, Nat.sub_self]; show bsL (L ++ []) b; rw [List.append_nil]; exact hb
    · rw [sw_if_f (by decide), sw_if_t hx]
      have e : ltQ U to (d + 1) l q = ltQ U to d (U q) (q + 1) := by show (if _ then _ else _) = _; rw [if_pos ⟨by omega, c⟩]
      unfold wB_X10_readsAct_163
      rw [a1, nI_clamp (by omega), (a5 q (by omega)).1, hu.1]
      refine ⟨vp0 (by omega) (by decide), fun y hy y2 hy2 I6 e6 => ?_⟩
      rw [nI_1] at e6
      rw [hy2, hy]
      have E6 : eqm [] [13] I2 I6 := by rw [e6]; exact eqm.rf.upF (by decide) _
      refine ih (U q) (q + 1) _ (L ++ [U q - 97]) I6 (by omega) (by omega) (by omega) (bsL_app (by omega) (by omega) hb) (tpS_of hs E6 (by decide) (by decide) (by rw [e6, sw_up_same]) (by omega)) (he.tr E6) (fun I3 b3 e3 s3 B3 => ?_)
      refine h I3 b3 e3 (by rw [e]; exact s3) ?_
      have hle := (ltQ_le U to d (U q) (q + 1) (by omega)).1
      rw [e, lsR_s U (show q < ltQ U to d (U q) (q + 1) by omega)]
      rw [List.append_assoc] at B3; exact B3
/-- the four signs of an act -/
theorem ch4 : sw_ch 4 0 = nI 105 ∧ sw_ch 4 1 = nI 111 ∧ sw_ch 4 2 = nI 119 ∧ sw_ch 4 3 = nI 114 := by decide +kernel
theorem s_readsAct {T : Nat → Int32} {U : Nat → Nat} {p to a : Nat} (hto : to ≤ 60) (ha : a ≤ p) (hU : txU T U to) {I : sw_I} {J : sw_J} {Q : Int32 → sw_I → sw_J → Prop} (hs : tpS I T p to) (hact : I 140 38 = nI a)
    (h0 : ∀ e, dyE U to p = some e → ∀ I2, eqm acA [13, 38] I I2 → tpS I2 T e to → Q 0 I2 J)
    (h1 : dyE U to p = none → ∀ I2, eqm acA [13, 38] I I2 → tpS I2 T (dyQ U to p) to → I2 140 38 = nI (a + 1) → (∀ c, c ∈ acA → ∀ j, j ≠ a → I2 c j = I c j) → acV U to I2 a p → Q 1 I2 J) : wp_X10_readsAct I J Q := by
  obtain ⟨a1, a2, a3, a4, a5⟩ := id hs
  obtain ⟨c0, c1, c2, c3⟩ := ch4
  unfold wp_X10_readsAct
  refine s_among (i := 4) (len := 4) rfl (by decide) hs (fun hno => ?_) (fun k hk hp hT hj => ?_)
  · rw [sw_if_t (by decide)]
    refine h0 p ?_ I eqm.rf hs
    unfold dyE
    rw [if_pos (fun w => ?_)]
    have hu := (hU p w.1).1
    have n0 := hno w.1 0 (by omega)
    have n1 := hno w.1 1 (by omega)
    have n2 := hno w.1 2 (by omega)
    have n3 := hno w.1 3 (by omega)
    rw [hu, c0] at n0; rw [hu, c1] at n1; rw [hu, c2] at n2; rw [hu, c3] at n3
    rcases w.2 with z | z | z | z
    · exact n0 (by rw [z])
    · exact n1 (by rw [z])
    · exact n2 (by rw [z])
    · exact n3 (by rw [z])
  have hu := hU p hp
  have cs : (k = 0 ∧ U p = 105) ∨ (k = 1 ∧ U p = 111) ∨ (k = 2 ∧ U p = 119) ∨ (k = 3 ∧ U p = 114) := by
    rw [hu.1] at hT
    rcases (by omega : k = 0 ∨ k = 1 ∨ k = 2 ∨ k = 3) with rfl | rfl | rfl | rfl
    · rw [c0] at hT; exact Or.inl ⟨rfl, (nI_eq (by omega) (by omega)).mp hT⟩
    · rw [c1] at hT; exact Or.inr (Or.inl ⟨rfl, (nI_eq (by omega) (by omega)).mp hT⟩)
    · rw [c2] at hT; exact Or.inr (Or.inr (Or.inl ⟨rfl, (nI_eq (by omega) (by omega)).mp hT⟩))
    · rw [c3] at hT; exact Or.inr (Or.inr (Or.inr ⟨rfl, (nI_eq (by omega) (by omega)).mp hT⟩))
  have hkd : kd U p = k := by
    unfold kd
    rcases cs with ⟨rfl, z⟩ | ⟨rfl, z⟩ | ⟨rfl, z⟩ | ⟨rfl, z⟩
    · rw [if_pos z]
    · rw [if_neg (by omega), if_pos z]
    · rw [if_neg (by omega), if_neg (by omega), if_pos z]
    · rw [if_neg (by omega), if_neg (by omega), if_neg (by omega)]
  have k0 : p < to ∧ (U p = 105 ∨ U p = 111 ∨ U p = 119 ∨ U p = 114) := ⟨hp, by omega⟩
  rw [sw_if_f (nI_pos (by omega))]
  intro I5 e5
  rw [a1, nI_1] at e5
  have ac5 : I5 140 38 = nI a := by rw [e5, sw_up_slot _ _ _ _ (by decide)]; exact hact
  have E5 : eqm [] [13] I I5 := by rw [e5]; exact eqm.rf.upF (by decide) _
  have s5 : tpS I5 T (p + 1) to := tpS_of hs E5 (by decide) (by decide) (by rw [e5, sw_up_same]) (by omega)
  rw [ac5, nI_clamp (by omega)]
  refine ⟨vp0 (by omega) (by decide), fun I8 e8 => ?_⟩
  have E8 : eqm [156] [13] I I8 := by rw [e8]; exact (E5.mono (by decide) (by decide)).upC (by decide) (by decide) _ _
  have s8 : tpS I8 T (p + 1) to := tpS_of s5 (C := [156]) (F := []) (by rw [e8]; exact eqm.rf.upC (by decide) (by decide) _ _) (by decide) (by decide) (by rw [e8, sw_up_cell _ _ _ _ (by decide)]; exact s5.1) (by omega)
  have ac8 : I8 140 38 = nI a := by rw [e8, sw_up_cell _ _ _ _ (by decide)]; exact ac5
  have sg8 : I8 156 a = nI (kd U p) := by rw [e8, sw_up_same, hkd]
  have sj8 : ∀ c, c ∈ acA → ∀ j, j ≠ a → I8 c j = I c j := fun c hc j hj => by
    rw [e8, sw_up_slot _ _ _ _ hj, E5.1 c (by simp) (by revert c; decide)]
  -- an act's end
  have fin : ∀ I9, eqm acA [13] I8 I9 → tpS I9 T (dyQ U to p) to → (∀ c, c ∈ acA → ∀ j, j ≠ a → I9 c j = I8 c j) → dyE U to p = none → acV U to I9 a p → ∀ I1 : sw_I, I1 = sw_up I9 140 38 (I9 140 38 + 1) → Q 1 I1 J := by
    intro I9 q9 s9 j9 hE v9 I1 e1
    rw [q9.2 _ (by decide), ac8, nI_1] at e1
    have q1 : eqm [] [38] I9 I1 := by rw [e1]; exact eqm.rf.upF (by decide) _
    refine h1 hE I1 (((E8.mono (by decide) (by decide)).tr (q9.mono (by decide) (by decide))).tr (q1.mono (by decide) (by decide))) (tpS_of s9 q1 (by decide) (by decide) (by rw [q1.2 _ (by decide)]; exact s9.1) s9.2.2.1) (by rw [e1, sw_up_same]) (fun c hc j hj => ?_) ?_
    · rw [q1.1 c (by simp) (by revert c; decide), j9 c hc j hj, sj8 c hc j hj]
    · unfold acV
      rw [q1.1 _ (by decide) (by decide), q1.1 _ (by decide) (by decide), q1.1 _ (by decide) (by decide), q1.1 _ (by decide) (by decide)]; exact v9
  by_cases k3 : k = 3
  · -- rides
    have u3 : U p = 114 := by omega
    have hE : dyE U to p = none := by unfold dyE; rw [if_neg (fun w => w k0), if_pos u3]
    rw [sw_if_t (by rw [k3]; rfl), ac8, nI_clamp (by omega)]
    refine ⟨vp0 (by omega) (by decide), fun I13 e13 => ?_⟩
    have E13 : eqm acA [13] I8 I13 := by rw [e13]; exact eqm.rf.upC (by decide) (by decide) _ _
    have s13 : tpS I13 T (p + 1) to := tpS_of s8 E13 (by decide) (by decide) (by rw [e13, sw_up_cell _ _ _ _ (by decide)]; exact s8.1) (by omega)
    have j13 : ∀ c, c ∈ acA → ∀ j, j ≠ a → I13 c j = I8 c j := fun c hc j hj => by rw [e13, sw_up_slot _ _ _ _ hj]
    have g13 : I13 156 a = nI (kd U p) := by rw [e13, sw_up_row _ _ _ (by decide)]; exact sg8
    have ac13 : I13 140 38 = nI a := by rw [E13.2 _ (by decide)]; exact ac8
    -- one ride alone
    have one : ¬ (p + 1 < to ∧ 49 ≤ U (p + 1) ∧ U (p + 1) ≤ 57) → ∀ I1 : sw_I, I1 = sw_up I13 140 38 (I13 140 38 + 1) → Q 1 I1 J := by
      intro hno
      refine fin I13 E13 ?_ j13 hE ⟨g13, fun _ => ?_, fun w => absurd hkd (by omega), fun w => by omega⟩
      · unfold dyQ; rw [if_pos u3, if_neg hno]; exact s13
      · unfold acN; rw [if_neg hno, e13, sw_up_same]; rfl
    refine s_isDigit s13 (fun hno => ?_) (fun d1 d2 d3 => ?_)
    · rw [sw_if_t rfl]
      refine one (fun w => hno ⟨w.1, ?_⟩)
      rw [(hU (p + 1) w.1).1]
      exact ⟨fun z => by have := (nI_ltJ (a := U (p + 1)) (b := 48) (by omega) (by omega)).mp z; omega, fun z => by have := (nI_ltJ (a := 57) (b := U (p + 1)) (by omega) (by omega)).mp z; omega⟩
    · have hu1 := hU (p + 1) d1
      rw [hu1.1] at d2 d3
      have d2' : ¬ U (p + 1) < 48 := fun w => d2 ((nI_ltJ (a := U (p + 1)) (b := 48) (by omega) (by omega)).mpr w)
      have d3' : ¬ 57 < U (p + 1) := fun w => d3 ((nI_ltJ (a := 57) (b := U (p + 1)) (by omega) (by omega)).mpr w)
      rw [sw_if_f (by decide), s13.1, nI_clamp (by omega), (s13.2.2.2.2 (p + 1) d1).1, hu1.1]
      refine ⟨vp0 (by omega) (by decide), fun q => ?_, fun q => ?_⟩
      · have := (nI_eq (a := U (p + 1)) (b := 48) (by omega) (by omega)).mp q
        exact one (by omega)
      · have n48 : ¬ U (p + 1) = 48 := fun w => q (by rw [w]; rfl)
        rw [ac13, nI_clamp (by omega)]
        refine ⟨vp0 (by omega) (by decide), vp0 (by omega) (by decide), fun I23 e23 I25 e25 => ?_⟩
        have hd : p + 1 < to ∧ 49 ≤ U (p + 1) ∧ U (p + 1) ≤ 57 := ⟨d1, by omega, by omega⟩
        have at23 : I23 140 13 = nI (p + 1) := by rw [e23, sw_up_cell _ _ _ _ (by decide)]; exact s13.1
        rw [at23, nI_1] at e25
        have E25 : eqm acA [13] I13 I25 := by rw [e25, e23]; exact (eqm.rf.upC (by decide) (by decide) _ _).upF (by decide) _
        refine fin I25 (E13.tr E25) ?_ (fun c hc j hj => ?_) hE ⟨?_, fun _ => ?_, fun w => absurd hkd (by omega), fun w => by omega⟩
        · unfold dyQ; rw [if_pos u3, if_pos hd]
          exact tpS_of s13 E25 (by decide) (by decide) (by rw [e25, sw_up_same]) (by omega)
        · rw [e25, sw_up_row _ _ _ (by revert c; decide), e23, sw_up_slot _ _ _ _ hj, j13 c hc j hj]
        · rw [e25, sw_up_row _ _ _ (by decide), e23, sw_up_row _ _ _ (by decide)]; exact g13
        · unfold acN; rw [if_pos hd, e25, sw_up_row _ _ _ (by decide), e23, sw_up_same]
          exact nI_sub (b := 48) (by omega)
  · -- letters
    have u3 : ¬ U p = 114 := by omega
    rw [sw_if_f (show ¬ nI k = (3 : Int32) from fun w => k3 ((nI_eq (b := 3) (by omega) (by decide)).mp w))]
    -- behind the letters
    have behind : ∀ I9 b9, eqm [] [13] I8 I9 → (if p + 1 < to ∧ 97 ≤ U (p + 1) ∧ U (p + 1) ≤ 106 then bsL (acL U to p) b9 ∧ tpS I9 T (if U p = 119 then p + 2 else dyQ U to p) to else b9 = 0 ∧ tpS I9 T (p + 1) to) → wB_X10_readsAct_195 Q (nI k) b9 I9 J := by
      intro I9 b9 q9 hb
      have ac9 : I9 140 38 = nI a := by rw [q9.2 _ (by decide)]; exact ac8
      unfold wB_X10_readsAct_195
      rw [ac9, nI_clamp (by omega)]
      refine ⟨vp0 (by omega) (by decide), fun I2 e2 => ?_⟩
      have E2 : eqm acA [13] I9 I2 := by rw [e2]; exact eqm.rf.upC (by decide) (by decide) _ _
      have E82 : eqm acA [13] I8 I2 := (q9.mono (by decide) (by decide)).tr E2
      have j2 : ∀ c, c ∈ acA → ∀ j, j ≠ a → I2 c j = I8 c j := fun c hc j hj => by rw [e2, sw_up_slot _ _ _ _ hj, q9.1 c (by simp) (by revert c; decide)]
      have g2 : I2 156 a = nI (kd U p) := by rw [e2, sw_up_row _ _ _ (by decide), q9.1 _ (by decide) (by decide)]; exact sg8
      have b2 : I2 157 a = b9 := by rw [e2, sw_up_same]
      have ac2 : I2 140 38 = nI a := by rw [E2.2 _ (by decide)]; exact ac9
      by_cases kl : p + 1 < to ∧ 97 ≤ U (p + 1) ∧ U (p + 1) ≤ 106
      · rw [if_pos kl] at hb
        obtain ⟨hb, s9⟩ := hb
        have mem : U (p + 1) - 97 ∈ acL U to p := by
          unfold acL
          by_cases c9 : U p = 119
          · rw [if_pos c9]; exact List.mem_cons_self
          · rw [if_neg c9]
            have hE : dyE U to p = none := by unfold dyE; rw [if_neg (fun w => w k0), if_neg u3, if_neg (fun w => w kl), if_neg c9]
            have : p + 1 < dyQ U to p := by
              unfold dyQ
              rw [if_neg u3, if_neg c9, show to = (to - 1) + 1 by omega]
              show p + 1 < (if _ then _ else _)
              rw [if_pos ⟨by omega, kl.2.1, kl.2.2, by omega⟩]
              have := ltQ_le U (to - 1 + 1) (to - 1) (U (p + 1)) (p + 1 + 1) (by omega); omega
            rw [lsR_s U this]; exact List.mem_cons_self
        rw [sw_if_f (bsL_ne (by omega) mem hb)]
        have s2 : tpS I2 T (if U p = 119 then p + 2 else dyQ U to p) to := tpS_of s9 E2 (by decide) (by decide) (by rw [e2, sw_up_cell _ _ _ _ (by decide)]; exact s9.1) s9.2.2.1
        by_cases c9 : U p = 119
        · have k2 : k = 2 := by omega
          rw [if_pos c9] at s2
          rw [sw_if_t (by rw [k2]; rfl), ac2, nI_clamp (by omega)]
          refine ⟨vp0 (by omega) (by decide), fun I7 e7 => ?_⟩
          have E7 : eqm acA [13] I2 I7 := by rw [e7]; exact eqm.rf.upC (by decide) (by decide) _ _
          have s7 : tpS I7 T (p + 2) to := tpS_of s2 E7 (by decide) (by decide) (by rw [e7, sw_up_cell _ _ _ _ (by decide)]; exact s2.1) s2.2.2.1
          have j7 : ∀ c, c ∈ acA → ∀ j, j ≠ a → I7 c j = I8 c j := fun c hc j hj => by rw [e7, sw_up_slot _ _ _ _ hj, j2 c hc j hj]
          have g7 : I7 156 a = nI (kd U p) := by rw [e7, sw_up_row _ _ _ (by decide)]; exact g2
          have b7 : I7 157 a = b9 := by rw [e7, sw_up_row _ _ _ (by decide)]; exact b2
          have ac7 : I7 140 38 = nI a := by rw [E7.2 _ (by decide)]; exact ac2
          have eQ : dyQ U to p = p + 3 := by unfold dyQ; rw [if_neg u3, if_pos c9]
          refine s_takes s7 (fun hno I10 q10 s10 => ?_) (fun t1 t2 I10 q10 s10 => ?_)
          · rw [sw_if_t rfl]
            have ac10 : I10 140 38 = nI a := by rw [q10.2 _ (by decide)]; exact ac7
            refine s_isDigit s10 (fun hd => ?_) (fun d1 d2 d3 => ?_)
            · rw [sw_if_t rfl]
              refine h0 (p + 2) ?_ I10 (((E8.mono (by decide) (by decide)).tr (E82.mono (by decide) (by decide))).tr ((E7.mono (by decide) (by decide)).tr (q10.mono (by decide) (by decide)))) s10
              unfold dyE
              rw [if_neg (fun w => w k0), if_neg u3, if_neg (fun w => w kl), if_pos c9, if_neg (fun w => ?_)]
              have hu2 := (hU (p + 2) w.1).1
              rw [hu2] at hno hd
              rcases w.2 with z | z
              · exact hno ⟨w.1, by rw [z]; rfl⟩
              · exact hd ⟨w.1, fun y => by have := (nI_ltJ (a := U (p + 2)) (b := 48) (by omega) (by omega)).mp y; omega, fun y => by have := (nI_ltJ (a := 57) (b := U (p + 2)) (by omega) (by omega)).mp y; omega⟩
            · have hu2 := hU (p + 2) d1
              rw [hu2.1] at d2 d3
              have d2' : ¬ U (p + 2) < 48 := fun w => d2 ((nI_ltJ (a := U (p + 2)) (b := 48) (by omega) (by omega)).mpr w)
              have d3' : ¬ 57 < U (p + 2) := fun w => d3 ((nI_ltJ (a := 57) (b := U (p + 2)) (by omega) (by omega)).mpr w)
              rw [sw_if_f (by decide), s10.1, nI_clamp (by omega), (s10.2.2.2.2 (p + 2) d1).1, hu2.1, ac10, nI_clamp (by omega)]
              refine ⟨vp0 (by omega) (by decide), vp0 (by omega) (by decide), fun I19 e19 I21 e21 => ?_⟩
              have at19 : I19 140 13 = nI (p + 2) := by rw [e19, sw_up_cell _ _ _ _ (by decide)]; exact s10.1
              rw [at19, nI_1] at e21
              have E21 : eqm acA [13] I10 I21 := by rw [e21, e19]; exact (eqm.rf.upC (by decide) (by decide) _ _).upF (by decide) _
              have hE : dyE U to p = none := by unfold dyE; rw [if_neg (fun w => w k0), if_neg u3, if_neg (fun w => w kl), if_pos c9, if_pos ⟨d1, Or.inr ⟨by omega, by omega⟩⟩]
              have n45 : ¬ U (p + 2) = 45 := by omega
              refine fin I21 ((E82.tr E7).tr ((q10.mono (by decide) (by decide)).tr E21)) ?_ (fun c hc j hj => ?_) hE ⟨?_, fun w => by omega, fun _ => ?_, fun _ => ?_⟩
              · rw [eQ]; exact tpS_of s10 E21 (by decide) (by decide) (by rw [e21, sw_up_same]) (by omega)
              · rw [e21, sw_up_row _ _ _ (by revert c; decide), e19, sw_up_slot _ _ _ _ hj, q10.1 c (by simp) (by revert c; decide), j7 c hc j hj]
              · rw [e21, sw_up_row _ _ _ (by decide), e19, sw_up_row _ _ _ (by decide), q10.1 _ (by decide) (by decide)]; exact g7
              · rw [e21, sw_up_row _ _ _ (by decide), e19, sw_up_row _ _ _ (by decide), q10.1 _ (by decide) (by decide), b7]; exact hb
              · unfold acW; rw [if_neg n45, e21, sw_up_row _ _ _ (by decide), e19, sw_up_same]
                exact nI_sub (b := 48) (by omega)
          · rw [sw_if_f (by decide)]
            have hu2 := hU (p + 2) t1
            rw [hu2.1] at t2
            have t45 := (nI_eq (a := U (p + 2)) (b := 45) (by omega) (by omega)).mp t2
            have hE : dyE U to p = none := by unfold dyE; rw [if_neg (fun w => w k0), if_neg u3, if_neg (fun w => w kl), if_pos c9, if_pos ⟨t1, Or.inl t45⟩]
            refine fin I10 ((E82.tr E7).tr (q10.mono (by decide) (by decide))) (by rw [eQ]; exact s10) (fun c hc j hj => ?_) hE ⟨?_, fun w => by omega, fun _ => ?_, fun _ => ?_⟩
            · rw [q10.1 c (by simp) (by revert c; decide), j7 c hc j hj]
            · rw [q10.1 _ (by decide) (by decide)]; exact g7
            · rw [q10.1 _ (by decide) (by decide), b7]; exact hb
            · unfold acW; rw [if_pos t45, q10.1 _ (by decide) (by decide), e7, sw_up_same]
        · rw [if_neg c9] at s2
          have hE : dyE U to p = none := by unfold dyE; rw [if_neg (fun w => w k0), if_neg u3, if_neg (fun w => w kl), if_neg c9]
          rw [sw_if_f (show ¬ nI k = (2 : Int32) from fun w => by have := (nI_eq (b := 2) (by omega) (by decide)).mp w; omega)]
          refine fin I2 E82 s2 j2 hE ⟨g2, fun w => by omega, fun _ => by rw [b2]; exact hb, fun w => by omega⟩
      · rw [if_neg kl] at hb
        obtain ⟨hb, s9⟩ := hb
        rw [sw_if_t hb]
        refine h0 (p + 1) ?_ I2 ((E8.mono (by decide) (by decide)).tr (E82.mono (by decide) (by decide))) (tpS_of s9 E2 (by decide) (by decide) (by rw [e2, sw_up_cell _ _ _ _ (by decide)]; exact s9.1) s9.2.2.1)
        unfold dyE
        rw [if_neg (fun w => w k0), if_neg u3, if_pos kl]
    have B0 : bsL [] 0 := fun r hr => by rw [inB_0 hr]; rfl
    by_cases c9 : U p = 119
    · have k2 : k = 2 := by omega
      refine ⟨2, ?_⟩
      show wb_X10_readsAct_117 _ Q _ _ _ I8 J
      unfold wb_X10_readsAct_117
      rw [s8.1, s8.2.1]
      by_cases cp : p + 1 < to
      · have hu1 := hU (p + 1) cp
        rw [sw_if_t (nI_lt cp (by omega)), nI_clamp (by omega), (s8.2.2.2.2 (p + 1) cp).1, hu1.1, show (-1 : Int32) = nI 96 - 97 by decide]
        refine ⟨vp0 (by omega) (by decide), s_letin (l := 96) (by omega) (by omega) hu1.2 (fun c => ?_) (fun c => ?_)⟩
        · rw [sw_if_t rfl]
          exact behind I8 0 eqm.rf (by rw [if_neg (by omega)]; exact ⟨rfl, s8⟩)
        · rw [sw_if_f (by decide), k2, sw_if_f (by decide), sw_if_t rfl]
          unfold wB_X10_readsAct_163
          rw [s8.1, nI_clamp (by omega), (s8.2.2.2.2 (p + 1) cp).1, hu1.1]
          refine ⟨vp0 (by omega) (by decide), fun y hy y2 hy2 I6 e6 => ?_⟩
          rw [nI_1] at e6
          rw [hy2, hy]
          have E6 : eqm [] [13] I8 I6 := by rw [e6]; exact eqm.rf.upF (by decide) _
          have s6 : tpS I6 T (p + 2) to := tpS_of s8 E6 (by decide) (by decide) (by rw [e6, sw_up_same]) (by omega)
          have B6 := bsL_app (u := U (p + 1)) (by omega) (by omega) B0
          have nx := behind I6 _ E6 (by rw [if_pos ⟨cp, c.1, c.2.1⟩, if_pos c9]; exact ⟨by unfold acL; rw [if_pos c9]; exact B6, s6⟩)
          rw [k2] at nx
          show wb_X10_readsAct_117 _ Q _ _ _ I6 J
          unfold wb_X10_readsAct_117
          rw [s6.1, s6.2.1]
          by_cases cq : p + 2 < to
          · have hu2 := hU (p + 2) cq
            rw [sw_if_t (nI_lt cq (by omega)), nI_clamp (by omega), (s6.2.2.2.2 (p + 2) cq).1, hu2.1]
            refine ⟨vp0 (by omega) (by decide), s_letin (l := U (p + 1)) (by omega) (by omega) hu2.2 (fun _ => ?_) (fun _ => ?_)⟩
            · rw [sw_if_t rfl]; exact nx
            · rw [sw_if_f (by decide), sw_if_f (by decide), sw_if_f (bsL_ne (u := U (p + 1) - 97) (by omega) (by simp) B6)]; exact nx
          · rw [sw_if_f (nI_nlt (by omega) (by omega))]; exact nx
      · rw [sw_if_f (nI_nlt (by omega) (by omega))]
        exact behind I8 0 eqm.rf (by rw [if_neg (by omega)]; exact ⟨rfl, s8⟩)
    · refine ⟨to - (p + 1) + 1, ?_⟩
      rw [show (-1 : Int32) = nI 96 - 97 by decide]
      have hx : nI k < 2 := nI_lt (b := 2) (by omega) (by decide)
      refine m_let_loop hU hx (to - (p + 1)) 96 (p + 1) 0 [] I8 (by omega) (by omega) (by omega) B0 s8 eqm.rf (fun I3 b3 e3 s3 B3 => behind I3 b3 e3 ?_)
      have eQ : ltQ U to (to - (p + 1)) 96 (p + 1) = dyQ U to p := by
        unfold dyQ; rw [if_neg u3, if_neg c9, ltQ_fuel to (to - (p + 1)) to 96 (p + 1) (by omega) (by omega)]
      rw [eQ] at s3 B3
      by_cases kl : p + 1 < to ∧ 97 ≤ U (p + 1) ∧ U (p + 1) ≤ 106
      · rw [if_pos kl, if_neg c9]
        refine ⟨?_, s3⟩
        unfold acL; rw [if_neg c9]; exact B3
      · rw [if_neg kl]
        have e1 : dyQ U to p = p + 1 := by
          rw [← eQ]
          generalize to - (p + 1) = d
          cases d with
          | zero => rfl
          | succ d => show (if _ then _ else _) = _; rw [if_neg (fun w => kl ⟨w.1, w.2.1, w.2.2.1⟩)]
        rw [e1] at s3 B3
        rw [Nat.sub_self] at B3
        exact ⟨inB_ext (fun r hr => by rw [B3 r hr, inB_0 hr]; rfl), s3⟩
