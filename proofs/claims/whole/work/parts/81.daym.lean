/-! day: the reference does the acts -/
theorem relM_flip {w : Wd} {μ : Mo} {κ r : Nat} {vb : Bool} {row row2 : Nat → Int32} (hn : wn w ≤ 10) (hκ : κ ≤ 1) (h : relM w μ row) (hr : r < wn w) (ho : paO w κ vb μ r = true) (hrow : ∀ j, j < 33 → row2 j = if j = 30 then oI μ ^^^ ((1 : Int32) <<< (nI r &&& 31)) else row j) : relM w (flM μ r) row2 := by
  obtain ⟨⟨h1, h2, h3, h4⟩, v1, v2, v3, v4⟩ := h
  refine ⟨⟨fun i hi => ?_, ?_, ?_, ?_⟩, v1, v2, v3, fun i hi hb => ?_⟩
  · rw [hrow i (by omega), hrow (10 + i) (by omega), hrow (20 + i) (by omega), if_neg (by omega), if_neg (by omega), if_neg (by omega)]; exact h1 i hi
  · rw [hrow 30 (by omega), if_pos rfl]; rfl
  · rw [hrow 31 (by omega), if_neg (by omega)]; exact h3
  · rw [hrow 32 (by omega), if_neg (by omega)]; exact h4
  · have hb2 : (inB (oI μ) i ^^ decide (i = r)) = true := by
      rw [← inB_one r (by omega) i hi, ← inB_xor _ _ hi]; exact hb
    by_cases c : i = r
    · rw [decide_eq_true c] at hb2
      have hin : inB (oI μ) i = false := by cases hq : inB (oI μ) i; rfl; rw [hq] at hb2; exact absurd hb2 (by decide)
      have c0 : κ = 0 := by
        rcases Nat.eq_zero_or_pos κ with z | z
        · exact z
        · have e1 : κ = 1 := by omega
          unfold paO at ho
          rw [e1, if_neg (by decide), if_pos rfl, ← c, hin] at ho; cases ho
      unfold paO sdB at ho
      rw [if_pos c0, Bool.and_eq_true] at ho
      refine ⟨by rw [c]; exact hr, ?_⟩
      rw [c]; exact of_decide_eq_true ho.1
    · rw [decide_eq_false c, Bool.xor_false] at hb2
      exact v4 i hi hb2
theorem bit_or {x : Int32} {r : Nat} (hr : r < 32) (h : inB x r = false) : x ||| ((1 : Int32) <<< (nI r &&& 31)) = x ^^^ ((1 : Int32) <<< (nI r &&& 31)) :=
  inB_ext (fun k hk => by
    rw [inB_or _ _ hk, inB_xor _ _ hk, inB_one r hr k hk]
    by_cases c : k = r
    · rw [c, h]; simp
    · rw [decide_eq_false c]; simp)
theorem bit_and {x : Int32} {r : Nat} (hr : r < 32) (h : inB x r = true) : x &&& (((1 : Int32) <<< (nI r &&& 31)) ^^^ (-1)) = x ^^^ ((1 : Int32) <<< (nI r &&& 31)) :=
  inB_ext (fun k hk => by
    rw [inB_and _ _ hk, inB_not _ hk, inB_xor _ _ hk, inB_one r hr k hk]
    by_cases c : k = r
    · rw [c, h]; simp
    · rw [decide_eq_false c]; simp)
/-- what one does of an act of letters -/
theorem m_act_loop {w : Wd} {a κ : Nat} (ha : a < 60) (hκ : κ ≤ 2) {vb : Bool} {v b : Int32} (hvb : κ = 2 → (fw (wf w) v ↔ vb = true)) (hneg : κ = 2 → v < 0 → fw (wf w) v) {I : sw_I} {J : sw_J} {Q : Int32 → sw_I → sw_J → Prop} (hW : isW I w) (hk : I 156 a = nI κ) (hb : I 157 a = b) (hv : κ = 2 → I 158 a = v) :
    ∀ (d k : Nat) (L : List Nat) (D : Nat) (μ : Mo) (I2 : sw_I), k + d = 10 → asc k L → (∀ r, k ≤ r → r < 10 → inB b r = decide (r ∈ L)) → eqm [144] [39] I I2 → relM w μ (I2 144) → I2 140 39 = nI D →
      (∀ I3, eqm [144] [39] I I3 → relM w (paM w κ vb v L μ).2.1 (I3 144) → I3 140 39 = nI (D + (paM w κ vb v L μ).2.2) → Q (bI (paM w κ vb v L μ).1) I3 J) → wl_X10_does_73 Q (d + 1) (nI a) (nI k) I2 J := by
  have hn := hW.1.2.2.1
  have hfl := hW.1.2.1
  intro d
  induction d with
  | zero =>
    intro k L D μ I2 hd hL hbL e hR hD h
    show wb_X10_does_73 _ Q _ _ I2 J
    unfold wb_X10_does_73
    rw [sw_if_f (show ¬ nI k < (10 : Int32) from nI_nlt (b := 10) (by omega) (by omega))]
    cases L with
    | nil => exact h I2 e hR hD
    | cons r L => have := hL.1; have := hL.2.1; omega
  | succ d ih =>
    intro k L D μ I2 hd hL hbL e hR hD h
    show wb_X10_does_73 _ Q _ _ I2 J
    unfold wb_X10_does_73
    have vpa : vp_in (nI a) 60 := vp0 ha (by decide)
    have k2 : I2 156 a = nI κ := by rw [e.1 _ (by decide) (by decide)]; exact hk
    have b2 : I2 157 a = b := by rw [e.1 _ (by decide) (by decide)]; exact hb
    rw [sw_if_t (show nI k < (10 : Int32) from nI_lt (b := 10) (by omega) (by decide)), nI_clamp (by omega), b2]
    refine ⟨vpa, s_X10_has ?_⟩
    have hin := hbL k (Nat.le_refl _) (by omega)
    by_cases hm : k ∈ L
    · rw [hin, decide_eq_true hm, sw_if_f (by simp)]
      obtain ⟨L2, rfl⟩ : ∃ L2, L = k :: L2 := by
        cases L with
        | nil => exact absurd hm (by simp)
        | cons r L =>
          rcases List.mem_cons.mp hm with q | q
          · exact ⟨L, by rw [q]⟩
          · have := asc_ge hL.2.2 q; have := hL.1; omega
      have hL2 := hL.2.2
      have hbL2 : ∀ r, k + 1 ≤ r → r < 10 → inB b r = decide (r ∈ L2) := fun r h1 h2 => by
        rw [hbL r (by omega) h2]
        exact decide_eq_decide.mpr ⟨fun z => by rcases List.mem_cons.mp z with q | q; omega; exact q, fun z => List.mem_cons_of_mem _ z⟩
      have no : paO w κ vb μ k = false → Q 0 I2 J := fun hno => by
        have ee : paM w κ vb v (k :: L2) μ = (false, μ, 0) := by show (if _ then _ else _) = _; rw [if_neg (by rw [hno]; decide)]
        rw [ee] at h
        exact h I2 e hR hD
      have goOn : paO w κ vb μ k = true → ∀ I5, eqm [144] [39] I2 I5 → relM w (paS κ v μ k) (I5 144) → I5 140 39 = nI (D + 1) → wB_X10_does_282 (wl_X10_does_73 Q (d + 1)) Q (nI a) (nI k) I5 J := by
        intro hyes I5 e5 R5 D5
        have ee : paM w κ vb v (k :: L2) μ = ((paM w κ vb v L2 (paS κ v μ k)).1, (paM w κ vb v L2 (paS κ v μ k)).2.1, (paM w κ vb v L2 (paS κ v μ k)).2.2 + 1) := by show (if _ then _ else _) = _; rw [if_pos hyes]
        rw [ee] at h
        intro y hy
        rw [hy, nI_1]
        refine ih (k + 1) L2 (D + 1) _ I5 (by omega) hL2 hbL2 (e.tr e5) R5 D5 (fun I6 z1 z2 z3 => h I6 z1 z2 ?_)
        rw [z3]; congr 1; dsimp only; omega
      -- behind the question whether it can be
      have can : ∀ s0, s0 = bI (paO w κ vb μ k) → (paO w κ vb μ k = true → k < wn w) → wB_X10_does_165 (wl_X10_does_73 Q (d + 1)) Q (nI a) (nI k) s0 I2 J := by
        intro s0 e0 hkn
        unfold wB_X10_does_165
        cases ho : paO w κ vb μ k
        · rw [e0, ho, sw_if_t (by rfl)]; exact no ho
        · have hkw := hkn ho
          rw [e0, ho, sw_if_f (by decide), nI_clamp (by omega), k2]
          have e30 : I2 144 (30 : Int32).toNatClampNeg = oI μ := hR.1.2.1.symm
          have a10 : (10 : Int32) + nI k = nI (10 + k) := nI_add 10 k
          refine ⟨vpa, ?_⟩
          have put : κ ≤ 1 → ∀ s2, s2 = oI μ ^^^ ((1 : Int32) <<< (nI k &&& 31)) → wB_X10_does_234 (wl_X10_does_73 Q (d + 1)) Q (nI a) (nI k) 30 s2 I2 J := by
            intro hκ1 s2 es
            refine ⟨vp0 (i := 30) (by omega) (by decide), fun I3 e3 => ?_⟩
            have t30 : (30 : Int32).toNatClampNeg = 30 := rfl
            rw [t30] at e3
            have k3 : I3 156 a = nI κ := by rw [e3, sw_up_cell _ _ _ _ (by decide)]; exact k2
            rw [nI_clamp (by omega), k3, a10, nI_clamp (by omega)]
            refine ⟨vpa, ?_⟩
            rw [sw_if_f (show ¬ nI κ = (2 : Int32) from fun z => by have := (nI_eq (b := 2) (by omega) (by omega)).mp z; omega)]
            refine ⟨vp0 (by omega) (by decide), ⟨vp0 (by omega) (by decide), fun I4 e4 I5 e5 => ?_⟩⟩
            rw [nI_clamp (by omega)] at e4
            have n4 : I4 144 = fun j => if j = 30 then s2 else I2 144 j := by
              rw [e4]
              funext j
              by_cases cj : j = 10 + k
              · rw [cj, sw_up_same, e3, sw_up_rowf]
              · rw [sw_up_slot _ _ _ _ cj, e3, sw_up_rowf]
            refine goOn ho I5 ?_ ?_ ?_
            · rw [e5, e4, e3]; exact ((eqm.rf.upC (by decide) (by decide) _ _).upC (by decide) (by decide) _ _).upF (by decide) _
            · rw [e5, sw_up_row _ _ _ (by decide), n4]
              have : paS κ v μ k = flM μ k := by unfold paS; rw [if_neg (by omega)]
              rw [this]
              exact relM_flip hn hκ1 hR hkw ho (fun j hj => by rw [es])
            · rw [e5, sw_up_same, e4, sw_up_cell _ _ _ _ (by decide), e3, sw_up_cell _ _ _ _ (by decide), hD, nI_1]
          by_cases c0 : κ = 0
          · rw [sw_if_t (by rw [c0]; rfl), e30]
            refine put (by omega) _ ?_
            have : inB (oI μ) k = false := by
              unfold paO sdB at ho
              rw [if_pos c0, Bool.and_eq_true] at ho
              simpa using ho.2
            exact bit_or (by omega) this
          · rw [sw_if_f (show ¬ nI κ = (0 : Int32) from fun z => c0 ((nI_eq (b := 0) (by omega) (by omega)).mp z))]
            refine ⟨vpa, ?_⟩
            by_cases c1 : κ = 1
            · rw [sw_if_t (by rw [c1]; rfl), e30]
              refine put (by omega) _ ?_
              have : inB (oI μ) k = true := by unfold paO at ho; rw [if_neg c0, if_pos c1] at ho; exact ho
              exact bit_and (by omega) this
            · have c2 : κ = 2 := by omega
              rw [sw_if_f (show ¬ nI κ = (1 : Int32) from fun z => c1 ((nI_eq (b := 1) (by omega) (by omega)).mp z)), e30]
              refine ⟨vp0 (i := 30) (by omega) (by decide), fun I3 e3 => ?_⟩
              have t30 : (30 : Int32).toNatClampNeg = 30 := rfl
              rw [t30] at e3
              have k3 : I3 156 a = nI κ := by rw [e3, sw_up_cell _ _ _ _ (by decide)]; exact k2
              have v3 : I3 158 a = v := by rw [e3, sw_up_cell _ _ _ _ (by decide), e.1 _ (by decide) (by decide)]; exact hv c2
              rw [nI_clamp (by omega), k3, a10, v3]
              refine ⟨vpa, ?_⟩
              rw [sw_if_t (by rw [c2]; rfl)]
              refine ⟨vpa, ⟨vp0 (by omega) (by decide), fun I4 e4 I5 e5 => ?_⟩⟩
              rw [nI_clamp (by omega)] at e4
              have r30 : oI μ = I2 144 30 := hR.1.2.1
              have n4 : ∀ j, j < 33 → I4 144 j = if j = 10 + k then v else I2 144 j := by
                intro j hj
                rw [e4]
                by_cases cj : j = 10 + k
                · rw [cj, sw_up_same, if_pos rfl]
                · rw [sw_up_slot _ _ _ _ cj, e3, if_neg cj]
                  by_cases c30 : j = 30
                  · rw [c30, sw_up_same]; exact r30
                  · rw [sw_up_slot _ _ _ _ c30]
              refine goOn ho I5 ?_ ?_ ?_
              · rw [e5, e4, e3]; exact ((eqm.rf.upC (by decide) (by decide) _ _).upC (by decide) (by decide) _ _).upF (by decide) _
              · rw [e5, sw_up_row _ _ _ (by decide)]
                have : paS κ v μ k = setW μ k v := by unfold paS; rw [if_pos c2]
                rw [this]
                have hvb2 : vb = true := by
                  unfold paO at ho
                  rw [if_neg c0, if_neg c1, Bool.and_eq_true] at ho; exact ho.2
                exact relM_setW hn hR hkw ((hvb c2).mpr hvb2) n4
              · rw [e5, sw_up_same, e4, sw_up_cell _ _ _ _ (by decide), e3, sw_up_cell _ _ _ _ (by decide), hD, nI_1]
      have W2 : isW I2 w := isW_of e (by decide) (by decide) hW
      have riders := W2.1.2.2.2.2.2.2.1
      have floors := W2.1.2.2.2.2.1
      rw [k2]
      refine ⟨vpa, ?_⟩
      obtain ⟨q1, q2, ⟨l, hl, el⟩, q4⟩ := id hR.2
      by_cases c0 : κ = 0
      · rw [sw_if_t (by rw [c0]; rfl)]
        have po : paO w κ vb μ k = sdB μ.1 (oI μ) (oL μ) k := by unfold paO; rw [if_pos c0]
        refine s_X10_canEnter hn hfl riders hR.1 hR.2 (fun co => ?_) (fun k9 hk9 ek9 => ?_)
        · have hge : wn w ≤ k := by
            rcases Nat.lt_or_ge k (wn w) with z | z
            · exact (ix_out (n := wn w) (by omega) z rfl co).elim
            · exact z
          have hf : paO w κ vb μ k = false := by
            rw [po]; unfold sdB
            rw [q2 k hge (by omega), el, decide_eq_false (fun z => nI_pos (n := l) (by omega) (by rw [← z]; decide))]; rfl
          refine can 0 (by rw [hf]; rfl) (fun z => by rw [hf] at z; cases z)
        · have := (nI_eq (by omega) (by omega)).mp ek9
          rw [← this, ← po]
          refine can _ rfl (fun _ => by omega)
      · rw [sw_if_f (show ¬ nI κ = (0 : Int32) from fun z => c0 ((nI_eq (b := 0) (by omega) (by omega)).mp z))]
        refine ⟨vpa, ?_⟩
        by_cases c1 : κ = 1
        · rw [sw_if_t (by rw [c1]; rfl)]
          have po : paO w κ vb μ k = inB (oI μ) k := by unfold paO; rw [if_neg c0, if_pos c1]
          have r30 : I2 144 30 = oI μ := hR.1.2.1.symm
          refine s_X10_canLeave hn riders (fun co => ?_) (fun k9 hk9 ek9 => ?_)
          · have hge : wn w ≤ k := by
              rcases Nat.lt_or_ge k (wn w) with z | z
              · exact (ix_out (n := wn w) (by omega) z rfl co).elim
              · exact z
            have hf : paO w κ vb μ k = false := by
              rw [po]
              cases hz : inB (oI μ) k
              · rfl
              · have := (q4 k (by omega) hz).1; omega
            refine can 0 (by rw [hf]; rfl) (fun z => by rw [hf] at z; cases z)
          · have := (nI_eq (by omega) (by omega)).mp ek9
            rw [← this, r30, ← po]
            refine can _ rfl (fun _ => by omega)
        · have c2 : κ = 2 := by omega
          rw [sw_if_f (show ¬ nI κ = (1 : Int32) from fun z => c1 ((nI_eq (b := 1) (by omega) (by omega)).mp z))]
          have v2 : I2 158 a = v := by rw [e.1 _ (by decide) (by decide)]; exact hv c2
          have po : paO w κ vb μ k = (decide (k < wn w) && vb) := by unfold paO; rw [if_neg c0, if_neg c1]
          refine s_X10_isRider hn riders (fun co => ?_) (fun k9 hk9 ek9 => ?_)
          · rw [sw_if_t rfl]
            unfold wB_X10_does_164
            have hge : ¬ k < wn w := fun z => ix_out (n := wn w) (by omega) z rfl co
            have hf : paO w κ vb μ k = false := by rw [po, decide_eq_false hge]; rfl
            exact can 0 (by rw [hf]; rfl) (fun z => by rw [hf] at z; cases z)
          · have hkk := (nI_eq (by omega) (by omega)).mp ek9
            rw [sw_if_f (by decide), v2]
            refine ⟨vpa, ?_⟩
            have yes : fw (wf w) v → wB_X10_does_160 (wl_X10_does_73 Q (d + 1)) Q (nI a) (nI k) I2 J := fun hf => by
              unfold wB_X10_does_160
              have ht : paO w κ vb μ k = true := by rw [po, decide_eq_true (by omega), (hvb c2).mp hf]; rfl
              exact can 1 (by rw [ht]; rfl) (fun _ => by omega)
            have nay : ¬ fw (wf w) v → wB_X10_does_164 (wl_X10_does_73 Q (d + 1)) Q (nI a) (nI k) I2 J := fun hf => by
              unfold wB_X10_does_164
              have hff : paO w κ vb μ k = false := by
                rw [po]
                cases hz : vb
                · simp
                · exact absurd ((hvb c2).mpr hz) hf
              exact can 0 (by rw [hff]; rfl) (fun z => by rw [hff] at z; cases z)
            by_cases cv : v < 0
            · rw [sw_if_t cv]
              exact yes (hneg c2 cv)
            · rw [sw_if_f cv]
              refine ⟨vpa, s_X10_isFloor (by omega) floors (fun co => ?_) (fun j hj ej => ?_)⟩
              · rw [sw_if_t rfl]
                refine nay (fun z => ?_)
                rcases z with z | ⟨j, hj, ej⟩
                · rw [z] at cv; exact cv (by decide)
                · exact ix_out (by omega) hj ej co
              · rw [sw_if_f (by decide)]
                exact yes (Or.inr ⟨j, hj, ej⟩)
    · rw [hin, decide_eq_false hm, sw_if_t (by simp)]
      intro y hy
      rw [hy, nI_1]
      refine ih (k + 1) L D μ I2 (by omega) ?_ (fun r h1 h2 => hbL r (by omega) h2) e hR hD h
      cases L with
      | nil => exact trivial
      | cons r L =>
        refine ⟨?_, hL.2.1, hL.2.2⟩
        have h1 := hL.1
        have : ¬ k = r := fun z => hm (by rw [z]; exact List.mem_cons_self)
        omega
theorem m_act_rides {w : Wd} {N a : Nat} (ha : a < 60) (hN : N ≤ 9) {I : sw_I} {J : sw_J} {Q : Int32 → sw_I → sw_J → Prop} (hW : isW I w) (hm : I 159 a = nI N) {R D : Nat} (hR : I 140 40 = nI R) (hD : I 140 39 = nI D) :
    ∀ (d k : Nat) (μ : Mo) (I2 : sw_I), k + d = N → eqm (144 :: mnsC) maF I I2 → relM w μ (I2 144) → (∀ I3, eqm (144 :: mnsC) (40 :: 39 :: maF) I I3 → relM w (itM w d μ) (I3 144) → I3 140 40 = nI (R + N) → I3 140 39 = nI (D + 1) → Q 1 I3 J) → wl_X10_does_12 Q (d + 1) (nI a) (nI k) I2 J := by
  have vpa : vp_in (nI a) 60 := vp0 ha (by decide)
  intro d
  induction d with
  | zero =>
    intro k μ I2 hk e hM h
    obtain rfl : k = N := by omega
    show wb_X10_does_12 _ Q _ _ I2 J
    unfold wb_X10_does_12
    have m2 : I2 159 a = nI k := by rw [e.1 _ (by decide) (by decide)]; exact hm
    rw [nI_clamp (by omega), m2, sw_if_f (nI_nlt (Nat.le_refl _) (by omega))]
    refine ⟨vpa, vpa, fun I4 e4 I6 e6 => ?_⟩
    have r2 : I2 140 40 = nI R := by rw [e.2 _ (by decide)]; exact hR
    have d2 : I2 140 39 = nI D := by rw [e.2 _ (by decide)]; exact hD
    refine h I6 ?_ ?_ ?_ ?_
    · rw [e6, e4]; exact ((e.mono (by decide) (by decide)).upF (by decide) _).upF (by decide) _
    · rw [e6, sw_up_row _ _ _ (by decide), e4, sw_up_row _ _ _ (by decide)]; exact hM
    · rw [e6, sw_up_slot _ _ _ _ (by decide), e4, sw_up_same, r2, nI_add]
    · rw [e6, sw_up_same, e4, sw_up_slot _ _ _ _ (by decide), d2, nI_1]
  | succ d ih =>
    intro k μ I2 hk e hM h
    show wb_X10_does_12 _ Q _ _ I2 J
    unfold wb_X10_does_12
    have m2 : I2 159 a = nI N := by rw [e.1 _ (by decide) (by decide)]; exact hm
    have e30 : I2 144 (30 : Int32).toNatClampNeg = oI μ := hM.1.2.1.symm
    rw [nI_clamp (by omega), m2, sw_if_t (nI_lt (by omega) (by omega)), e30]
    refine ⟨vpa, m_rideM (by decide) (by decide) (by decide) rfl (isW_of e (by decide) (by decide) hW) hM (fun I3 x3 e3 => ?_)⟩
    intro y hy
    rw [hy, nI_1]
    exact ih (k + 1) (rdM w μ) I3 (by omega) (e.tr x3) e3 h
abbrev dsF : List Nat := 40 :: 39 :: maF
theorem m_does {w : Wd} {U : Nat → Nat} {to p a R D : Nat} {μ : Mo} (hto : to ≤ 60) (ha : a < 60) (hp : dyE U to p = none) {I : sw_I} {J : sw_J} {Q : Int32 → sw_I → sw_J → Prop} (hW : isW I w) (hV : acV U to I a p) (hM : relM w μ (I 144)) (hR : I 140 40 = nI R) (hD : I 140 39 = nI D)
    (h : ∀ I3, eqm (144 :: mnsC) dsF I I3 → relM w (acM w U to p μ).2.1 (I3 144) → I3 140 40 = nI (R + (acM w U to p μ).2.2.1) → I3 140 39 = nI (D + (acM w U to p μ).2.2.2) → Q (bI (acM w U to p μ).1) I3 J) : wp_X10_does (nI a) I J Q := by
  obtain ⟨v1, v2, v3, v4⟩ := hV
  obtain ⟨hlt, hk⟩ := dyE_none hp
  have hkd : kd U p ≤ 3 := by unfold kd; repeat' split
                              all_goals omega
  have vpa : vp_in (nI a) 60 := vp0 ha (by decide)
  unfold wp_X10_does
  rw [nI_clamp (by omega), v1]
  refine ⟨vpa, ?_⟩
  by_cases c : kd U p = 3
  · rw [sw_if_t (by rw [c]; rfl)]
    have hm : acM w U to p μ = (true, itM w (acN U to p) μ, acN U to p, 1) := by unfold acM; rw [if_pos c]
    rw [hm] at h
    exact ⟨acN U to p + 1, m_act_rides ha acN_rng.2 hW (v2 c) hR hD _ 0 μ I (by omega) eqm.rf hM (fun I3 z1 z2 z3 z4 => h I3 z1 z2 z3 z4)⟩
  · rw [sw_if_f (show ¬ nI (kd U p) = (3 : Int32) from fun z => c ((nI_eq (b := 3) (by omega) (by omega)).mp z))]
    have hm : acM w U to p μ = ((paM w (kd U p) (acB U (wf w) p) (acW U p) (acL U to p) μ).1, (paM w (kd U p) (acB U (wf w) p) (acW U p) (acL U to p) μ).2.1, 0, (paM w (kd U p) (acB U (wf w) p) (acW U p) (acL U to p) μ).2.2) := by unfold acM; rw [if_neg c]
    rw [hm] at h
    have n114 : ¬ U p = 114 := fun z => c ((kd_3 hp).mpr z)
    have c2w : kd U p = 2 → U p = 119 := fun z => by unfold kd at z; repeat' split at z
                                                     all_goals omega
    have hfl := hW.1.2.1
    refine ⟨11, m_act_loop (w := w) (κ := kd U p) (vb := acB U (wf w) p) (v := acW U p) (b := I 157 a) ha (by omega) (fun z => ?_) (fun z hneg => ?_) hW v1 rfl v4 10 0 (acL U to p) D μ I (by omega) (acL_asc hp n114) (fun r _ hr => v3 c r (by omega)) eqm.rf hM hD (fun I3 z1 z2 z3 => h I3 (z1.mono (by decide) (by decide)) z2 (by rw [z1.2 _ (by decide), hR]; rfl) z3)⟩
    · have c119 := c2w z
      have hx : U (p + 2) = 45 ∨ 48 ≤ U (p + 2) ∧ U (p + 2) ≤ 57 := by omega
      unfold fw acB acW
      rw [decide_eq_true_iff]
      by_cases c45 : U (p + 2) = 45
      · rw [if_pos c45]; exact ⟨fun _ => Or.inl c45, fun _ => Or.inl rfl⟩
      · rw [if_neg c45]
        constructor
        · intro z
          rcases z with z | ⟨j, hj, ej⟩
          · exact absurd (show nI (U (p + 2) - 48) < 0 by rw [z]; decide) (nI_pos (by omega))
          · right; have := (nI_eq (by omega) (by omega)).mp ej; omega
        · intro z
          right; exact ⟨U (p + 2) - 48, by omega, rfl⟩
    · have c119 := c2w z
      have hx : U (p + 2) = 45 ∨ 48 ≤ U (p + 2) ∧ U (p + 2) ≤ 57 := by omega
      unfold acW at hneg ⊢
      by_cases c45 : U (p + 2) = 45
      · rw [if_pos c45]; exact Or.inl rfl
      · rw [if_neg c45] at hneg; exact absurd hneg (nI_pos (by omega))
theorem acV_of {U : Nat → Nat} {to a p : Nat} {I I2 : sw_I} (h : acV U to I a p) (e : ∀ c, c ∈ acA → I2 c a = I c a) : acV U to I2 a p := by
  unfold acV
  rw [e _ (by decide), e _ (by decide), e _ (by decide), e _ (by decide)]; exact h
/-- all acts -/
theorem m_does_loop {w : Wd} {U : Nat → Nat} {to L : Nat} (hto : to ≤ 60) (hL : L ≤ 60) {I : sw_I} {J : sw_J} {Q : Int32 → sw_I → sw_J → Prop} (hW : isW I w) (hA : I 140 38 = nI L) :
    ∀ (S : List Nat) (k R D : Nat) (μ : Mo) (I2 : sw_I), k + S.length = L → (∀ i, i < S.length → acV U to I (k + i) (S.getD i 0)) → (∀ x, x ∈ S → dyE U to x = none) → eqm (144 :: mnsC) dsF I I2 → relM w μ (I2 144) → I2 140 40 = nI R → I2 140 39 = nI D →
      (∀ I3, eqm (144 :: mnsC) dsF I I3 → relM w (dyR w U to S μ).2.2.1 (I3 144) → I3 140 40 = nI (R + (dyR w U to S μ).2.2.2.1) → I3 140 39 = nI (D + (dyR w U to S μ).2.2.2.2.2) → k + (dyR w U to S μ).2.1 ≤ L → ((dyR w U to S μ).1 = true ↔ k + (dyR w U to S μ).2.1 = L) → wB_X10_day_119 Q (nI (k + (dyR w U to S μ).2.1)) I3 J) → wl_X10_day_95 Q (S.length + 1) (nI k) I2 J := by
  intro S
  induction S with
  | nil =>
    intro k R D μ I2 hk hV hE e hM hR hD h
    obtain rfl : k = L := by simpa using hk
    show wb_X10_day_95 _ Q _ I2 J
    unfold wb_X10_day_95
    rw [e.2 _ (by decide), hA, sw_if_f (nI_nlt (Nat.le_refl _) (by omega))]
    exact h I2 e hM hR hD (by show k + 0 ≤ k; omega) ⟨fun _ => rfl, fun _ => rfl⟩
  | cons p S ih =>
    intro k R D μ I2 hk hV hE e hM hR hD h
    rw [List.length_cons] at hk hV
    show wb_X10_day_95 _ Q _ I2 J
    unfold wb_X10_day_95
    rw [e.2 _ (by decide), hA, sw_if_t (nI_lt (by omega) (by omega))]
    have W2 : isW I2 w := isW_of e (by decide) (by decide) hW
    have V2 : acV U to I2 k p := acV_of (hV 0 (by omega)) (fun c hc => by rw [e.1 c (by revert c; decide) (by revert c; decide)])
    have dyRe : dyR w U to (p :: S) μ = if (acM w U to p μ).1 = true then ((dyR w U to S (acM w U to p μ).2.1).1, (dyR w U to S (acM w U to p μ).2.1).2.1 + 1, (dyR w U to S (acM w U to p μ).2.1).2.2.1, (acM w U to p μ).2.2.1 + (dyR w U to S (acM w U to p μ).2.1).2.2.2.1, acC U to p (acM w U to p μ).2.2.2 + (dyR w U to S (acM w U to p μ).2.1).2.2.2.2.1, (acM w U to p μ).2.2.2 + (dyR w U to S (acM w U to p μ).2.1).2.2.2.2.2) else (false, 0, (acM w U to p μ).2.1, (acM w U to p μ).2.2.1, acC U to p (acM w U to p μ).2.2.2, (acM w U to p μ).2.2.2) := rfl
    refine m_does (w := w) (U := U) (to := to) (p := p) (μ := μ) hto (by omega) (hE p List.mem_cons_self) W2 V2 hM hR hD (fun I3 e3 M3 R3 D3 => ?_)
    cases hok : (acM w U to p μ).1
    · rw [sw_if_t (by rfl)]
      rw [dyRe, if_neg (by rw [hok]; decide)] at h
      exact h I3 (e.tr e3) M3 R3 D3 (by show k + 0 ≤ L; omega) ⟨fun z => (by cases z), fun z => by have : k + 0 = L := z; omega⟩
    · rw [sw_if_f (by decide)]
      rw [dyRe, if_pos hok] at h
      dsimp only at h
      intro y hy
      rw [hy, nI_1]
      refine ih (k + 1) _ _ _ I3 (by omega) (fun i hi => ?_) (fun x hx => hE x (List.mem_cons_of_mem _ hx)) (e.tr e3) M3 R3 D3 (fun I4 z1 z2 z3 z4 z5 z6 => ?_)
      · have := hV (i + 1) (by omega)
        rw [show k + 1 + i = k + (i + 1) by omega]; exact this
      · have := h I4 z1 z2 (by rw [z3]; congr 1; omega) (by rw [z4]; congr 1; omega) (by omega) (by rw [z6]; omega)
        rw [show k + 1 + (dyR w U to S (acM w U to p μ).2.1).2.1 = k + ((dyR w U to S (acM w U to p μ).2.1).2.1 + 1) by omega]; exact this
/-- all acts are read -/
def dyS (I0 : sw_I) (U : Nat → Nat) (to : Nat) (S : List Nat) (I : sw_I) : Prop := eqm acA [13, 38] I0 I ∧ I 140 38 = nI S.length ∧ ∀ i, i < S.length → acV U to I i (S.getD i 0)
theorem m_dy_loop {T : Nat → Int32} {U : Nat → Nat} {t : Nat} (ht : t ≤ 80) (hU : txU T U (min t 60)) {I0 : sw_I} {J : sw_J} {Q : Int32 → sw_I → sw_J → Prop} :
    ∀ (d : Nat) (S : List Nat) (p : Nat) (g : Int32) (I : sw_I), min t 60 < p + d → S.length ≤ p → dyS I0 U (min t 60) S I → tpS I T p (min t 60) → (∀ I3, eqm acA [13, 38] I0 I3 → tpS I3 T (dyP U (min t 60) d p).2.1 (min t 60) → ((dyP U (min t 60) d p).1 = true → dyS I0 U (min t 60) (S ++ (dyP U (min t 60) d p).2.2) I3) → ∀ f, wl_X10_day_29 Q (f + 1) (nI t) (bI (dyP U (min t 60) d p).1) 0 I3 J) → wl_X10_day_29 Q (d + 1) (nI t) g 1 I J := by
  intro d
  induction d with
  | zero => intro S p g I hd hl hS hs h; have := hs.2.2.1; omega
  | succ d ih =>
    intro S p g I hd hl hS hs h
    obtain ⟨q, many, vals⟩ := id hS
    show wb_X10_day_29 _ Q _ _ _ I J
    unfold wb_X10_day_29
    rw [sw_if_f (by decide)]
    rw [dyP_s] at h
    refine s_readsAct (a := S.length) (by omega) hl hU hs many (fun e he I2 q2 s2 => ?_) (fun he I2 q2 s2 m2 k2 v2 => ?_)
    · rw [sw_if_t rfl]
      rw [he] at h
      exact h I2 (q.tr q2) s2 (fun z => by cases z) d
    · rw [sw_if_f (by decide)]
      rw [he] at h
      dsimp only at h
      have hr := dyQ_rng he
      have S2 : dyS I0 U (min t 60) (S ++ [p]) I2 := by
        refine ⟨q.tr q2, by rw [m2, List.length_append]; rfl, fun i hi => ?_⟩
        rw [List.length_append] at hi
        by_cases c : i = S.length
        · rw [c, getN_end]; exact v2
        · have hi2 : i < S.length := by simp at hi; omega
          rw [getN_app hi2]
          exact acV_of (vals i hi2) (fun c' hc => k2 c' hc i c)
      have keep : ∀ I3, eqm [] [13] I2 I3 → dyS I0 U (min t 60) (S ++ [p]) I3 := fun I3 q3 => by
        obtain ⟨z1, z2, z3⟩ := S2
        exact ⟨z1.tr (q3.mono (by decide) (by decide)), by rw [q3.2 _ (by decide)]; exact z2, fun i hi => acV_of (z3 i hi) (fun c hc => by rw [q3.1 c (by simp) (by revert c; decide)])⟩
      refine s_takes s2 (fun k5 I3 q3 s3 => ?_) (fun p5 b5 I3 q3 s3 => ?_)
      · rw [sw_if_t rfl]
        have hno : ¬ (dyQ U (min t 60) p < min t 60 ∧ U (dyQ U (min t 60) p) = 59) := fun z => k5 ⟨z.1, by rw [(hU _ z.1).1, z.2]; rfl⟩
        rw [if_neg hno] at h
        exact h I3 (keep I3 q3).1 s3 (fun _ => keep I3 q3) d
      · rw [sw_if_f (by decide)]
        have hy : dyQ U (min t 60) p < min t 60 ∧ U (dyQ U (min t 60) p) = 59 := ⟨p5, by
          have u := hU _ p5
          rw [u.1] at b5; exact (nI_eq (b := 59) (by omega) (by omega)).mp b5⟩
        rw [if_pos hy] at h
        dsimp only at h
        refine ih (S ++ [p]) _ 1 I3 (by omega) (by rw [List.length_append]; simp; omega) (keep I3 q3) s3 (fun I4 q4 s4 hS4 f => ?_)
        exact h I4 q4 s4 (fun z => by have := hS4 z; rw [List.append_assoc] at this; exact this) f
def dyZ (U : Nat → Nat) (t : Nat) : Bool × Nat × List Nat := if t = 0 then (true, 0, []) else dyP U (min t 60) (min t 60 + 1) 0
theorem hsG_neg {t lim : Nat} {r : Bool × Nat} (hr : r.2 ≤ 80) (h : hsV t lim r < 0) (hl : lim ≤ 80) : r.1 = true ∧ r.2 = t ∧ t ≤ lim ∧ hsV t lim r = -1 := by
  unfold hsV at h ⊢
  by_cases c : r.1 = true ∧ r.2 = min t lim
  · rw [if_pos c] at h ⊢
    by_cases c2 : lim < t
    · rw [if_pos c2] at h; exact absurd h (nI_pos (by omega))
    · rw [if_neg c2]; exact ⟨c.1, by rw [c.2]; omega, by omega, rfl⟩
  · rw [if_neg c] at h
    exact absurd h (nI_pos (by omega))
theorem hsG_pos {t lim : Nat} {r : Bool × Nat} (hr : r.2 ≤ 80) (hl : lim ≤ 80) (h : ¬ hsV t lim r < 0) : ∃ k, k ≤ 80 ∧ hsV t lim r = nI k := by
  unfold hsV at h ⊢
  by_cases c : r.1 = true ∧ r.2 = min t lim
  · rw [if_pos c] at h ⊢
    by_cases c2 : lim < t
    · rw [if_pos c2]; exact ⟨lim, hl, rfl⟩
    · rw [if_neg c2] at h; exact absurd (by decide) h
  · rw [if_neg c]; exact ⟨r.2, hr, rfl⟩
abbrev dgF : List Nat := [0, 12, 13, 15, 14, 38]
/-- the reference's day up to its acts -/
theorem m_day {t : Nat} {T : Nat → Int32} {U : Nat → Nat} (ht : t ≤ 80) (hU : txU T U t) {I : sw_I} {J : sw_J} {Q : Int32 → sw_I → sw_J → Prop} (htp : I 140 12 = nI t) (hT : ∀ i, i < t → I 146 i = T i ∧ ∃ j, j < 256 ∧ T i = nI j)
    (hbad : ¬ hsV t 60 ((dyZ U t).1, (dyZ U t).2.1) < 0 → ∀ I3, eqm acA dgF I I3 → I3 140 12 = 0 → I3 140 0 = 0 → Q (-1 - hsV t 60 ((dyZ U t).1, (dyZ U t).2.1)) I3 J)
    (hok : hsV t 60 ((dyZ U t).1, (dyZ U t).2.1) < 0 → ∀ I3, eqm acA dgF I I3 → I3 140 12 = 0 → I3 140 0 = 0 → (∃ I0, dyS I0 U (min t 60) (dyZ U t).2.2 I3) → wp_X10_putsBy I3 J (fun I7 J8 => ∀ I9 : sw_I, I9 = sw_up I7 140 39 (0 : Int32) → ∀ I11 : sw_I, I11 = sw_up I9 140 40 (0 : Int32) → ∃ n13 : Nat, wl_X10_day_95 Q n13 0 I11 J8)) : wp_X10_day I J Q := by
  intro I1 e1
  refine s_begins (t := t) (lim := 60) (T := T) ht (by decide) (by rw [e1, sw_up_slot _ _ _ _ (by decide)]; exact htp) (fun i hi => by rw [e1, sw_up_row _ _ _ (by decide)]; exact hT i hi) (fun I4 q4 s4 t4 n4 => ?_)
  intro I8 e8
  have q8 : eqm [] [38] I4 I8 := by rw [e8]; exact eqm.rf.upF (by decide) _
  have qI : eqm acA dgF I I8 := by
    have a : eqm acA dgF I I1 := by rw [e1]; exact eqm.rf.upF (by decide) _
    exact (a.tr (q4.mono (by decide) (by decide))).tr (q8.mono (by decide) (by decide))
  have s8 : tpS I8 T 0 (min t 60) := tpS_of s4 q8 (by decide) (by decide) (by rw [q8.2 _ (by decide)]; exact s4.1) (Nat.zero_le _)
  have S8 : dyS I8 U (min t 60) [] I8 := ⟨eqm.rf, by rw [e8, sw_up_same]; rfl, fun i hi => absurd hi (Nat.not_lt_zero _)⟩
  have fin : ∀ K I3, eqm acA [13, 38] I8 I3 → tpS I3 T (dyZ U t).2.1 (min t 60) → ((dyZ U t).1 = true → dyS I8 U (min t 60) (dyZ U t).2.2 I3) → wb_X10_day_29 K Q (nI t) (bI (dyZ U t).1) 0 I3 J := by
    intro K I3 q3 s3 hS
    have q : eqm acA dgF I I3 := qI.tr (q3.mono (by decide) (by decide))
    have t3 : I3 140 12 = 0 := by rw [q3.2 _ (by decide), q8.2 _ (by decide)]; exact t4
    have h3 : I3 140 0 = 0 := by rw [q3.2 _ (by decide), q8.2 _ (by decide), q4.2 _ (by decide), e1, sw_up_same]
    unfold wb_X10_day_29
    rw [sw_if_t rfl]
    refine s_faultOf (lim := 60) ht (by decide) s3 ?_
    have hle : ((dyZ U t).1, (dyZ U t).2.1).2 ≤ 80 := by have := s3.2.2.1; have := s3.2.2.2.1; dsimp only; omega
    by_cases c : hsV t 60 ((dyZ U t).1, (dyZ U t).2.1) < 0
    · rw [if_pos c, sw_if_f (by decide)]
      exact hok c I3 q t3 h3 ⟨I8, hS (hsG_neg hle c (by decide)).1⟩
    · obtain ⟨k, hk, ek⟩ := hsG_pos hle (by decide) c
      rw [if_neg c, sw_if_t (by rw [ek]; exact m1_neg k hk)]
      exact hbad c I3 q t3 h3
  by_cases c0 : t = 0
  · have eX : dyZ U t = (true, 0, []) := by unfold dyZ; rw [if_pos c0]
    rw [sw_if_f (by rw [c0]; decide)]
    refine ⟨1, ?_⟩
    have := fin (wl_X10_day_29 Q 0) I8 eqm.rf (by rw [eX]; exact s8) (fun _ => by rw [eX]; exact S8)
    rw [eX] at this
    exact this
  · have eX : dyZ U t = dyP U (min t 60) (min t 60 + 1) 0 := by unfold dyZ; rw [if_neg c0]
    rw [sw_if_t (show (0 : Int32) < nI t from nI_lt (a := 0) (by omega) (by omega))]
    refine ⟨min t 60 + 1 + 1, m_dy_loop ht (fun i hi => hU i (by omega)) (min t 60 + 1) [] 0 1 I8 (by omega) (Nat.zero_le _) S8 s8 (fun I3 q3 s3 hS f => ?_)⟩
    rw [← eX] at s3 hS ⊢
    exact fin _ I3 q3 s3 (fun z => by have := hS z; rw [List.nil_append] at this; exact this)
