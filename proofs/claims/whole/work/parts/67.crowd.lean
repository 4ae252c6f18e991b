/-! promise: crowd -/
def drF (seed : Int32) : Nat → Int32
  | 0 => seed
  | t + 1 => drF seed t * 1103515245 + 12345
def flV (fl : Nat) (d : Int32) : Int32 := ush d 16 - ush d 16 / nI fl * nI fl
theorem ush16 (d : Int32) : ∃ j, j < 2 ^ 16 ∧ ush d 16 = nI j := by
  obtain ⟨j, hj, ej⟩ := and_lt (ush d 16) (b := 16) (by decide)
  refine ⟨j, hj, ?_⟩
  rw [← ej]
  refine b_ext (fun i hi => ?_)
  have e : nI (2 ^ 16 - 1) = (65535 : Int32) := by decide
  have e2 : bt (ush d 16) i = bt d (16 + i) := b_ushr 16 (by decide) d i
  rw [b_and, e, b_65535, e2]
  by_cases c : i < 16
  · rw [decide_eq_true c, Bool.and_true]
  · rw [decide_eq_false c, Bool.and_false, b_big (by omega)]
theorem dr_rng {fl : Nat} (h1 : 0 < fl) (h2 : fl ≤ 9) (d : Int32) : ∃ j, j < fl ∧ flV fl d = nI j := by
  obtain ⟨q, hq, eq⟩ := ush16 d
  refine ⟨q % fl, Nat.mod_lt _ h1, ?_⟩
  unfold flV
  rw [eq, ← Int32.toInt_inj, rem_toInt, nI_toInt (by omega), nI_toInt (by omega), nI_toInt (by have := Nat.mod_lt q h1; omega), Int.tmod_eq_emod_of_nonneg (by omega)]
  omega
def crU (row val : Nat → Int32) (n t : Nat) : Nat → Int32 := fun j => if n ≤ j ∧ j < n + t then val (j - n) else row j
theorem crU_0 (row val : Nat → Int32) (n : Nat) : crU row val n 0 = row := by funext j; unfold crU; rw [if_neg (by omega)]
theorem crU_in {row val : Nat → Int32} {n t j : Nat} (h : n ≤ j ∧ j < n + t) : crU row val n t j = val (j - n) := by unfold crU; rw [if_pos h]
theorem crU_out {row val : Nat → Int32} {n t j : Nat} (h : ¬ (n ≤ j ∧ j < n + t)) : crU row val n t j = row j := by unfold crU; rw [if_neg h]
theorem crU_s (row val : Nat → Int32) (n t : Nat) : (fun j => if j = n + t then val t else crU row val n t j) = crU row val n (t + 1) := by
  funext j; unfold crU
  by_cases c : j = n + t
  · rw [if_pos c, if_pos (by omega), c, Nat.add_sub_cancel_left]
  · rw [if_neg c]
    by_cases c2 : n ≤ j ∧ j < n + t
    · rw [if_pos c2, if_pos (by omega)]
    · rw [if_neg c2, if_neg (by omega)]
abbrev hV (fl : Nat) (seed : Int32) (t : Nat) : Int32 := flV fl (drF seed (3 * t + 1))
abbrev wV (fl : Nat) (seed : Int32) (t : Nat) : Int32 := flV fl (drF seed (3 * t + 2))
abbrev pV (fl : Nat) (seed : Int32) (t : Nat) : Int32 := flV fl (drF seed (3 * t + 3))
abbrev crX : List Nat := [3, 4, 5, 14, 15, 16]
def crC (I : sw_I) (fl n : Nat) (seed : Int32) (t : Nat) (I2 : sw_I) : Prop := eqx crX I I2 ∧ I2 3 2 = nI (n + t) ∧ I2 3 0 = nI fl ∧ I2 3 1 = I 3 1 ∧ I2 4 = crU (I 4) (hV fl seed) n t ∧ I2 5 = crU (I 5) (fun _ => 10) n t ∧ I2 14 = crU (I 14) (pV fl seed) n t ∧ I2 15 = crU (I 15) (wV fl seed) n t ∧ I2 16 = crU (I 16) (fun _ => 0) n t
theorem s_ofFloors {fl : Nat} (h1 : 0 < fl) (h2 : fl ≤ 9) {d : Int32} {I : sw_I} {J : sw_J} {Q : Int32 → sw_I → sw_J → Prop} (hf : I 3 0 = nI fl) (h : Q (flV fl d) I J) : wp_X9_ofFloors d I J Q := by
  intro y hy
  rw [hf] at hy
  rw [hy, sw_if_t (show (0 : Int32) < nI fl from nI_lt (a := 0) h1 (by omega))]
  exact ⟨nI_ne0 h1 (by omega), h⟩
theorem s_crowd_loop {fl n N : Nat} {seed : Int32} (h1 : 0 < fl) (h2 : fl ≤ 9) (hn : n ≤ 10) (hN : N ≤ 10) {I : sw_I} {J : sw_J} {Q : Int32 → sw_I → sw_J → Prop} (h : ∀ I2, crC I fl n seed (N - n) I2 → ∀ y2 : Int32, y2 = I2 3 2 - nI n → sw_if (0 < y2) (wp_X9_forgetWhatWas I2 J (fun I6 J7 => Q y2 I6 J7)) (Q y2 I2 J)) :
    ∀ (d t : Nat) (I2 : sw_I), (n + t + d = N ∨ (N < n + t ∧ d = 0)) → t ≤ N - n → crC I fl n seed t I2 → wl_X9_crowd_26 Q (d + 1) (nI N) (nI n) (drF seed (3 * t)) (nI (n + t)) I2 J := by
  intro d
  induction d with
  | zero =>
    intro t I2 hk ht hc
    have et : t = N - n := by omega
    show wb_X9_crowd_26 _ Q _ _ _ _ I2 J
    unfold wb_X9_crowd_26
    rw [sw_if_f (nI_nlt (by omega) (by omega))]
    rw [et] at hc
    exact h I2 hc
  | succ d ih =>
    intro t I2 hk ht hc
    obtain ⟨c1, c2, c3, c4, c5, c6, c7, c8, c9⟩ := hc
    show wb_X9_crowd_26 _ Q _ _ _ _ I2 J
    unfold wb_X9_crowd_26
    rw [sw_if_t (nI_lt (by omega) (by omega))]
    unfold wp_X9_nextDrawn
    refine s_ofFloors h1 h2 c3 (s_ofFloors h1 h2 c3 (s_ofFloors h1 h2 c3 ?_))
    intro y hy
    rw [c2] at hy
    rw [hy, sw_if_t (show nI (n + t) < (10 : Int32) from nI_lt (b := 10) (by omega) (by decide)), nI_clamp (by omega)]
    have vp : vp_in (nI (n + t)) 10 := vp0 (by omega) (by decide)
    refine ⟨vp, fun I5 e5 => ⟨vp, fun I8 e8 => ?_⟩⟩
    intro I10 e10
    refine ⟨vp, fun I13 e13 => ⟨vp, fun I16 e16 => ⟨vp, fun I19 e19 => ?_⟩⟩⟩
    rw [sw_if_t rfl]
    have b8 : ∀ k, I8 3 k = I2 3 k := fun k => by rw [e8, sw_up_cell _ _ _ _ (by decide), e5, sw_up_cell _ _ _ _ (by decide)]
    rw [b8, c2, nI_1] at e10
    have bb : I19 3 = I10 3 := by rw [e19, sw_up_row _ _ _ (by decide), e16, sw_up_row _ _ _ (by decide), e13, sw_up_row _ _ _ (by decide)]
    intro y2 hy2
    rw [hy2, nI_1]
    refine ih (t + 1) I19 (by omega) (by omega) ⟨?_, ?_, ?_, ?_, ?_, ?_, ?_, ?_, ?_⟩
    · rw [e19, e16, e13, e10, e8, e5]; exact (((((c1.up (by decide) _ _).up (by decide) _ _).up (by decide) _ _).up (by decide) _ _).up (by decide) _ _).up (by decide) _ _
    · rw [bb, e10, sw_up_same]; rfl
    · rw [bb, e10, sw_up_slot _ _ _ _ (by decide), b8]; exact c3
    · rw [bb, e10, sw_up_slot _ _ _ _ (by decide), b8]; exact c4
    · rw [e19, sw_up_row _ _ _ (by decide), e16, sw_up_row _ _ _ (by decide), e13, sw_up_row _ _ _ (by decide), e10, sw_up_row _ _ _ (by decide), e8, sw_up_row _ _ _ (by decide), e5, sw_up_rowf, c5]; exact crU_s _ (hV fl seed) _ _
    · rw [e19, sw_up_row _ _ _ (by decide), e16, sw_up_row _ _ _ (by decide), e13, sw_up_row _ _ _ (by decide), e10, sw_up_row _ _ _ (by decide), e8, sw_up_rowf, e5, sw_up_row _ _ _ (by decide), c6]; exact crU_s _ (fun _ => 10) _ _
    · rw [e19, sw_up_row _ _ _ (by decide), e16, sw_up_row _ _ _ (by decide), e13, sw_up_rowf, e10, sw_up_row _ _ _ (by decide), e8, sw_up_row _ _ _ (by decide), e5, sw_up_row _ _ _ (by decide), c7]; exact crU_s _ (pV fl seed) _ _
    · rw [e19, sw_up_row _ _ _ (by decide), e16, sw_up_rowf, e13, sw_up_row _ _ _ (by decide), e10, sw_up_row _ _ _ (by decide), e8, sw_up_row _ _ _ (by decide), e5, sw_up_row _ _ _ (by decide), c8]; exact crU_s _ (wV fl seed) _ _
    · rw [e19, sw_up_rowf, e16, sw_up_row _ _ _ (by decide), e13, sw_up_row _ _ _ (by decide), e10, sw_up_row _ _ _ (by decide), e8, sw_up_row _ _ _ (by decide), e5, sw_up_row _ _ _ (by decide), c9]; exact crU_s _ (fun _ => 0) _ _
/-- the reference's row with those who came -/
def crN (row : Nat → Int32) (fl n : Nat) (seed : Int32) (t : Nat) : Nat → Int32 := crU (crU (crU row (pV fl seed) n t) (wV fl seed) (10 + n) t) (fun _ => 0) (20 + n) t
theorem crN_p {row : Nat → Int32} {fl n t i : Nat} {seed : Int32} (hn : n + t ≤ 10) (h : n ≤ i ∧ i < n + t) : crN row fl n seed t i = pV fl seed (i - n) ∧ crN row fl n seed t (10 + i) = wV fl seed (i - n) ∧ crN row fl n seed t (20 + i) = 0 := by
  unfold crN
  refine ⟨?_, ?_, ?_⟩
  · rw [crU_out (n := 20 + n) (by omega), crU_out (n := 10 + n) (by omega), crU_in (n := n) h]
  · rw [crU_out (n := 20 + n) (by omega), crU_in (n := 10 + n) (by omega), show 10 + i - (10 + n) = i - n by omega]
  · rw [crU_in (n := 20 + n) (by omega)]
theorem crN_o {row : Nat → Int32} {fl n t j : Nat} {seed : Int32} (h1 : ¬ (n ≤ j ∧ j < n + t)) (h2 : ¬ (10 + n ≤ j ∧ j < 10 + n + t)) (h3 : ¬ (20 + n ≤ j ∧ j < 20 + n + t)) : crN row fl n seed t j = row j := by
  unfold crN
  rw [crU_out (n := 20 + n) h3, crU_out (n := 10 + n) h2, crU_out (n := n) h1]
theorem crN_s (row : Nat → Int32) (fl : Nat) {n t : Nat} (hn : n + t < 10) (seed : Int32) : (fun j => if j = 20 + (n + t) then (0 : Int32) else if j = 10 + (n + t) then wV fl seed t else if j = n + t then pV fl seed t else crN row fl n seed t j) = crN row fl n seed (t + 1) := by
  funext j
  have P := crN_p (row := row) (fl := fl) (n := n) (t := t + 1) (i := n + t) (seed := seed) (by omega) (by omega)
  rw [Nat.add_sub_cancel_left] at P
  by_cases c1 : j = 20 + (n + t)
  · rw [if_pos c1, c1]; exact P.2.2.symm
  · rw [if_neg c1]
    by_cases c2 : j = 10 + (n + t)
    · rw [if_pos c2, c2]; exact P.2.1.symm
    · rw [if_neg c2]
      by_cases c3 : j = n + t
      · rw [if_pos c3, c3]; exact P.1.symm
      · rw [if_neg c3]
        by_cases d1 : n ≤ j ∧ j < n + t
        · rw [(crN_p (by omega) d1).1, (crN_p (t := t + 1) (by omega) (by omega)).1]
        · by_cases d2 : 10 + n ≤ j ∧ j < 10 + n + t
          · obtain ⟨i, rfl⟩ : ∃ i, j = 10 + i := ⟨j - 10, by omega⟩
            rw [(crN_p (i := i) (by omega) (by omega)).2.1, (crN_p (i := i) (t := t + 1) (by omega) (by omega)).2.1]
          · by_cases d3 : 20 + n ≤ j ∧ j < 20 + n + t
            · obtain ⟨i, rfl⟩ : ∃ i, j = 20 + i := ⟨j - 20, by omega⟩
              rw [(crN_p (i := i) (by omega) (by omega)).2.2, (crN_p (i := i) (t := t + 1) (by omega) (by omega)).2.2]
            · rw [crN_o d1 d2 d3, crN_o (by omega) (by omega) (by omega)]
abbrev crM : List Nat := [142, 143, 144]
def crR (I : sw_I) (fl n : Nat) (seed : Int32) (t : Nat) (I2 : sw_I) : Prop := eqm crM [31, 4] I I2 ∧ I2 140 4 = nI (n + t) ∧ I2 140 31 = drF seed (3 * t) ∧ I2 142 = crU (I 142) (hV fl seed) n t ∧ I2 143 = crU (I 143) (fun _ => 10) n t ∧ I2 144 = crN (I 144) fl n seed t
theorem s_draws {fl : Nat} (h1 : 0 < fl) (h2 : fl ≤ 9) {d : Int32} {I : sw_I} {J : sw_J} {Q : Int32 → sw_I → sw_J → Prop} (hr : I 140 31 = d) (h : Q (flV fl (d * 1103515245 + 12345)) (sw_up I 140 31 (d * 1103515245 + 12345)) J) : wp_X10_draws (nI fl) I J Q := by
  intro I1 e1
  rw [hr] at e1
  have r1 : I1 140 31 = d * 1103515245 + 12345 := by rw [e1, sw_up_same]
  rw [r1, e1]
  exact ⟨nI_ne0 h1 (by omega), h⟩
theorem m_crowd_loop {fl n N : Nat} {seed : Int32} (h1 : 0 < fl) (h2 : fl ≤ 9) (hn : n ≤ 10) (hN : N ≤ 10) {I : sw_I} {J : sw_J} {Q : Int32 → sw_I → sw_J → Prop} (hf : I 140 3 = nI fl) (h : ∀ I2, crR I fl n seed (N - n) I2 → sw_if (0 < nI (N - n)) (∀ I3 : sw_I, I3 = sw_up I2 140 32 0 → ∀ I5 : sw_I, I5 = sw_up I3 140 6 (I3 140 6 + 1) → Q (nI (N - n)) I5 J) (Q (nI (N - n)) I2 J)) :
    ∀ (d t : Nat) (I2 : sw_I), (n + t + d = N ∨ (N < n + t ∧ d = 0)) → t ≤ N - n → crR I fl n seed t I2 → wl_X10_crowd_26 Q (d + 1) (nI N) (nI t) I2 J := by
  intro d
  induction d with
  | zero =>
    intro t I2 hk ht hc
    have et : t = N - n := by omega
    show wb_X10_crowd_26 _ Q _ _ I2 J
    unfold wb_X10_crowd_26
    rw [sw_if_f (by rw [hc.2.1]; exact nI_nlt (by omega) (by omega))]
    rw [et] at hc ⊢
    exact h I2 hc
  | succ d ih =>
    intro t I2 hk ht hc
    obtain ⟨c1, c2, c3, c4, c5, c6⟩ := hc
    have f2 : I2 140 3 = nI fl := by rw [c1.2 _ (by decide)]; exact hf
    show wb_X10_crowd_26 _ Q _ _ I2 J
    unfold wb_X10_crowd_26
    rw [sw_if_t (by rw [c2]; exact nI_lt (by omega) (by omega)), f2]
    refine s_draws h1 h2 c3 ?_
    generalize e3 : sw_up I2 140 31 (drF seed (3 * t) * 1103515245 + 12345) = I3
    rw [show I3 140 3 = nI fl by rw [← e3, sw_up_slot _ _ _ _ (by decide)]; exact f2]
    refine s_draws h1 h2 (d := drF seed (3 * t + 1)) (by rw [← e3, sw_up_same]; rfl) ?_
    generalize e4 : sw_up I3 140 31 (drF seed (3 * t + 1) * 1103515245 + 12345) = I4
    rw [show I4 140 3 = nI fl by rw [← e4, sw_up_slot _ _ _ _ (by decide), ← e3, sw_up_slot _ _ _ _ (by decide)]; exact f2]
    have k4 : I4 140 4 = nI (n + t) := by rw [← e4, sw_up_slot _ _ _ _ (by decide), ← e3, sw_up_slot _ _ _ _ (by decide)]; exact c2
    refine s_draws h1 h2 (d := drF seed (3 * t + 2)) (by rw [← e4, sw_up_same]; rfl) ?_
    generalize e5 : sw_up I4 140 31 (drF seed (3 * t + 2) * 1103515245 + 12345) = I5
    rw [k4]
    have g5 : ∀ c, c ≠ 140 → I5 c = I2 c := fun c hc => by rw [← e5, sw_up_row _ _ _ hc, ← e4, sw_up_row _ _ _ hc, ← e3, sw_up_row _ _ _ hc]
    have q5 : eqm crM [31, 4] I I5 := by rw [← e5, ← e4, ← e3]; exact ((c1.upF (by decide) _).upF (by decide) _).upF (by decide) _
    unfold wp_X10_comes
    rw [show (10 : Int32) + nI (n + t) = nI (10 + (n + t)) from nI_add 10 _, show (20 : Int32) + nI (n + t) = nI (20 + (n + t)) from nI_add 20 _, nI_clamp (by omega), nI_clamp (by omega), nI_clamp (by omega)]
    refine ⟨vp0 (by omega) (by decide), fun A e6 => ⟨vp0 (by omega) (by decide), fun B e7 => ⟨vp0 (by omega) (by decide), fun C e8 => ⟨vp0 (by omega) (by decide), fun D e9 => ⟨vp0 (by omega) (by decide), fun E e10 => ?_⟩⟩⟩⟩⟩
    intro G e11 y hy
    have qE : eqm crM [31, 4] I E := by rw [e10, e9, e8, e7, e6]; exact ((((q5.upC (by decide) (by decide) _ _).upC (by decide) (by decide) _ _).upC (by decide) (by decide) _ _).upC (by decide) (by decide) _ _).upC (by decide) (by decide) _ _
    have mE : E 140 = I5 140 := by rw [e10, sw_up_row _ _ _ (by decide), e9, sw_up_row _ _ _ (by decide), e8, sw_up_row _ _ _ (by decide), e7, sw_up_row _ _ _ (by decide), e6, sw_up_row _ _ _ (by decide)]
    have rE : E 140 4 = nI (n + t) := by rw [mE, ← e5, sw_up_slot _ _ _ _ (by decide)]; exact k4
    rw [rE, nI_1] at e11
    rw [hy, nI_1]
    refine ih (t + 1) G (by omega) (by omega) ⟨?_, ?_, ?_, ?_, ?_, ?_⟩
    · rw [e11]; exact qE.upF (by decide) _
    · rw [e11, sw_up_same]; rfl
    · rw [e11, sw_up_slot _ _ _ _ (by decide), mE, ← e5, sw_up_same]; rfl
    · rw [e11, sw_up_row _ _ _ (by decide), e10, sw_up_row _ _ _ (by decide), e9, sw_up_row _ _ _ (by decide), e8, sw_up_row _ _ _ (by decide), e7, sw_up_row _ _ _ (by decide), e6, sw_up_rowf, g5 _ (by decide), c4]; exact crU_s _ (hV fl seed) _ _
    · rw [e11, sw_up_row _ _ _ (by decide), e10, sw_up_row _ _ _ (by decide), e9, sw_up_row _ _ _ (by decide), e8, sw_up_row _ _ _ (by decide), e7, sw_up_rowf, e6, sw_up_row _ _ _ (by decide), g5 _ (by decide), c5]; exact crU_s _ (fun _ => 10) _ _
    · rw [e11, sw_up_row _ _ _ (by decide), e10, sw_up_rowf, e9, sw_up_rowf, e8, sw_up_rowf, e7, sw_up_row _ _ _ (by decide), e6, sw_up_row _ _ _ (by decide), g5 _ (by decide), c6]
      exact crN_s _ fl (by omega) seed
theorem sn_more {I I2 : sw_I} {n N fl s : Nat} (hN : n ≤ N) (h : snR I n fl s) (e : sm snC [54] I I2) : snR I2 N fl s := by
  have := snR_sm h e
  refine ⟨this.1, this.2.1, this.2.2.1, fun i hi => ?_⟩
  obtain ⟨a1, a2, a3, a4, a5, a6, a7⟩ := this.2.2.2 i hi
  exact ⟨a1, a2, a3, a4, a5, a6, fun b hb q => Nat.lt_of_lt_of_le (a7 b hb q) hN⟩
theorem p_crowd {c : Nat} {x1 x2 : Int32} {I : sw_I} {J : sw_J} {Q : Int32 → Int32 → sw_I → sw_J → Prop} (h : wW c I J) (hQ : ∀ v I2 J2, wW (c + 1) I2 J2 → I2 140 0 = 0 → Q v v I2 J2) :
    wp_X9_crowd x1 x2 I J (fun r I1 J1 => wp_X10_crowd x1 x2 I1 J1 (fun r2 I2 J2 => Q r r2 I2 J2)) := by
  obtain ⟨n, fl, m, q, p, r, t, s, z, hw⟩ := h
  obtain ⟨h0, h1, h2, h3, h4, h5, h6, h7, h8⟩ := id hw
  have hn := h1.2.2.1
  obtain ⟨a1, a2, a3, a4, a5, a6, a7, a8, a9, a10, a11⟩ := id h1
  obtain ⟨p1, p2, p3, p4, p5, p6⟩ := id h4
  unfold wp_X9_crowd
  refine if_N (N := 10) (by decide) rfl (fun hno => ?_) (fun N hN eN => ?_)
  · intro I2 e2
    refine in_N (N := 10) (by decide) rfl (fun _ => ?_) (fun i hi ei => absurd ⟨i, hi, ei⟩ hno)
    rw [sw_if_t rfl]; exact hQ _ I2 J (th_up (th_of hw e2).1) (th_of hw e2).2
  · intro y hy
    rw [a6] at hy
    rw [hy, eN]
    have c0 : crC I fl n x1 0 I := ⟨eqx.rf, a6, a4, rfl, (crU_0 _ _ _).symm, (crU_0 _ _ _).symm, (crU_0 _ _ _).symm, (crU_0 _ _ _).symm, (crU_0 _ _ _).symm⟩
    refine ⟨N - n + 1, s_crowd_loop (fl := fl) (n := n) (N := N) (seed := x1) (by omega) a2 hn hN (fun I1 cc => ?_) (N - n) 0 I (by omega) (by omega) c0⟩
    intro y2 hy2
    have sub1 : ∀ a b, a ≤ b → nI b - nI a = nI (b - a) := fun a b hab => by
      have : nI (b - a) + nI a = nI b := by rw [nI_add, Nat.sub_add_cancel hab]
      rw [← this, Int32.add_sub_cancel]
    obtain ⟨c1, c2, c3, c4, c5, c6, c7, c8, c9⟩ := id cc
    have ey : y2 = nI (N - n) := by rw [hy2, c2, sub1 _ _ (by omega)]; congr 1; omega
    rw [ey]
    -- the reference
    have ref : ∀ I2, eqx (crX ++ [21, 108]) I I2 → (∀ G, crR (sw_up (sw_up I2 140 0 0) 140 31 x1) fl n x1 (N - n) G → sw_if (0 < nI (N - n)) (∀ I3 : sw_I, I3 = sw_up G 140 32 0 → ∀ I5 : sw_I, I5 = sw_up I3 140 6 (I3 140 6 + 1) → Q (nI (N - n)) (nI (N - n)) I5 J) (Q (nI (N - n)) (nI (N - n)) G J)) → wp_X10_crowd x1 (nI N) I2 J (fun r2 I2 J2 => Q (nI (N - n)) r2 I2 J2) := by
      intro I2 x2 g I3 e3
      refine in_N (N := 10) (by decide) rfl (fun hno => absurd ⟨N, hN, rfl⟩ hno) (fun _ _ _ => ?_)
      rw [sw_if_f (by decide)]
      intro I4 e4
      rw [e3] at e4
      have m4 : ∀ k, k ≠ 0 → k ≠ 31 → I4 140 k = I 140 k := fun k k1 k2 => by rw [e4, sw_up_slot _ _ _ _ k2, sw_up_slot _ _ _ _ k1, x2 _ (by decide)]
      refine ⟨N - n + 1, m_crowd_loop (fl := fl) (n := n) (N := N) (seed := x1) (I := I4) (by omega) a2 hn hN (by rw [m4 _ (by decide) (by decide)]; exact a5) (fun G cG => g G (by rw [← e4]; exact cG)) (N - n) 0 I4 (by omega) (by omega) ⟨eqm.rf, by rw [m4 _ (by decide) (by decide)]; exact a7, by rw [e4, sw_up_same]; rfl, (crU_0 _ _ _).symm, (crU_0 _ _ _).symm, ?_⟩⟩
      unfold crN; rw [crU_0, crU_0, crU_0]
    by_cases ct : N ≤ n
    · have e0 : N - n = 0 := by omega
      rw [e0] at ref cc c2 c5 c6 c7 c8 c9 ⊢
      rw [sw_if_f (by decide)]
      have all : ∀ c, I1 c = I c ∨ c = 3 := fun c => by
        by_cases h : c ∈ crX
        · simp only [List.mem_cons, List.not_mem_nil, or_false] at h
          rcases h with h | h | h | h | h | h
          · exact Or.inr h
          · rw [h, c5, crU_0]; exact Or.inl rfl
          · rw [h, c6, crU_0]; exact Or.inl rfl
          · rw [h, c7, crU_0]; exact Or.inl rfl
          · rw [h, c8, crU_0]; exact Or.inl rfl
          · rw [h, c9, crU_0]; exact Or.inl rfl
        · exact Or.inl (c1 c h)
      refine ref I1 (c1.mono (by decide)) (fun G cG => ?_)
      rw [sw_if_f (by decide)]
      obtain ⟨g1, g2, g3, g4, g5, g6⟩ := cG
      rw [crU_0] at g4 g5
      unfold crN at g6
      rw [crU_0, crU_0, crU_0] at g6
      have mG : ∀ k, k ≠ 0 → k ≠ 31 → G 140 k = I 140 k := fun k k1 k2 => by
        by_cases kr : k = 4
        · rw [kr, g2]; exact a7.symm
        · rw [g1.2 k (by simp [k2, kr]), sw_up_slot _ _ _ _ k2, sw_up_slot _ _ _ _ k1, c1 _ (by decide)]
      have fG : ∀ c, c ≠ 140 → c ≠ 3 → G c = I c := fun c k1 k2 => by
        have : G c = I1 c := by
          by_cases h : c ∈ crM
          · simp only [List.mem_cons, List.not_mem_nil, or_false] at h
            rcases h with h | h | h
            · rw [h, g4, sw_up_row _ _ _ (by decide), sw_up_row _ _ _ (by decide)]
            · rw [h, g5, sw_up_row _ _ _ (by decide), sw_up_row _ _ _ (by decide)]
            · rw [h, g6, sw_up_row _ _ _ (by decide), sw_up_row _ _ _ (by decide)]
          · rw [g1.1 c h k1, sw_up_row _ _ _ k1, sw_up_row _ _ _ k1]
        rw [this]
        rcases all c with h | h
        · exact h
        · exact absurd h k2
      have e : eqm [3] [0, 31] I G := ⟨fun c k1 k2 => fG c k2 (by simpa using k1), fun k hk => mG k (fun q => hk (by rw [q]; decide)) (fun q => hk (by rw [q]; decide))⟩
      have bG : G 3 = I1 3 := by rw [g1.1 _ (by decide) (by decide), sw_up_row _ _ _ (by decide), sw_up_row _ _ _ (by decide)]
      refine hQ _ G J (th_up ⟨n, fl, m, q, p, r, t, s, z, ⟨h0.1, rb_of e (by decide) h0.2⟩, ⟨a1, a2, a3, ?_, ?_, ?_, ?_, ?_, ?_, ?_, ?_⟩, l_of e (by decide) (by decide) h2, now_of e (by decide) hn h3, past_of e (by decide) (by decide) hn h4, rw_of e (by decide) (by decide) h5, tx_of e (by decide) (by decide) h6, sn_of e (by decide) (by decide) h7, kp_of e (by decide) (by decide) hn h8⟩) ?_
      · rw [bG]; exact c3
      · rw [mG _ (by decide) (by decide)]; exact a5
      · rw [bG]; exact c2
      · rw [mG _ (by decide) (by decide)]; exact a7
      · rw [bG, c4, mG _ (by decide) (by decide)]; exact a8
      · rw [mG _ (by decide) (by decide)]; exact a9
      · rw [e.1 4 (by decide) (by decide), e.1 142 (by decide) (by decide)]; exact a10
      · rw [e.1 5 (by decide) (by decide), e.1 143 (by decide) (by decide)]; exact a11
      · rw [g1.2 _ (by decide), sw_up_slot _ _ _ _ (by decide), sw_up_same]
    · have hpos : 0 < N - n := by omega
      have eNn : n + (N - n) = N := by omega
      rw [sw_if_t (show (0 : Int32) < nI (N - n) from nI_lt (a := 0) hpos (by omega))]
      refine s_X9_forgetWhatWas (fun I2 x2 k2 z2 y2' => ?_)
      have x2' : eqx (crX ++ [21, 108]) I I2 := (c1.mono (by decide)).tr (x2.mono (by decide))
      refine ref I2 x2' (fun G cG => ?_)
      rw [sw_if_t (show (0 : Int32) < nI (N - n) from nI_lt (a := 0) hpos (by omega))]
      intro I3 e3 I5 e5
      obtain ⟨g1, g2, g3, g4, g5, g6⟩ := cG
      have f2 : ∀ c, c ≠ 21 → c ≠ 108 → I2 c = I1 c := fun c k1 k2 => x2 c (by simp [k1, k2])
      have m2 : I2 140 = I 140 := x2' _ (by decide)
      have r2 : ∀ c, c ∈ crM → I2 c = I c := fun c hc => x2' c (by revert c; decide)
      rw [sw_up_row _ _ _ (by decide), sw_up_row _ _ _ (by decide), r2 _ (by decide)] at g4 g5 g6
      have mG : ∀ k, k ∉ [0, 31, 4] → G 140 k = I 140 k := fun k hk => by
        simp only [List.mem_cons, List.not_mem_nil, or_false, not_or] at hk
        rw [g1.2 k (by simp [hk.2.1, hk.2.2]), sw_up_slot _ _ _ _ hk.2.1, sw_up_slot _ _ _ _ hk.1, m2]
      have m5 : ∀ k, k ∉ [0, 31, 4, 32, 6] → I5 140 k = I 140 k := fun k hk => by
        simp only [List.mem_cons, List.not_mem_nil, or_false, not_or] at hk
        rw [e5, sw_up_slot _ _ _ _ hk.2.2.2.2, e3, sw_up_slot _ _ _ _ hk.2.2.2.1, mG k (by simp [hk.1, hk.2.1, hk.2.2.1])]
      have f5 : ∀ c, c ≠ 140 → I5 c = G c := fun c hc => by rw [e5, sw_up_row _ _ _ hc, e3, sw_up_row _ _ _ hc]
      have fx : ∀ c, c ≠ 140 → c ∉ crM → I5 c = I2 c := fun c k1 k2 => by rw [f5 c k1, g1.1 c k2 k1, sw_up_row _ _ _ k1, sw_up_row _ _ _ k1]
      have e : eqm (crX ++ [21, 108] ++ crM) [0, 31, 4, 32, 6] I I5 := ⟨fun c hc hm => by
        rw [fx c hm (fun w => hc (List.mem_append_right _ w)), x2' c (fun w => hc (List.mem_append_left _ w))], m5⟩
      have b5 : I5 3 = I1 3 := by rw [fx _ (by decide) (by decide), f2 _ (by decide) (by decide)]
      have h5' : I5 4 = crU (I 4) (hV fl x1) n (N - n) := by rw [fx _ (by decide) (by decide), f2 _ (by decide) (by decide), c5]
      have t5' : I5 5 = crU (I 5) (fun _ => 10) n (N - n) := by rw [fx _ (by decide) (by decide), f2 _ (by decide) (by decide), c6]
      have at5 : I5 (13 + 1) = crU (I (13 + 1)) (pV fl x1) n (N - n) := by rw [fx _ (by decide) (by decide), f2 _ (by decide) (by decide)]; exact c7
      have wi5 : I5 (13 + 2) = crU (I (13 + 2)) (wV fl x1) n (N - n) := by rw [fx _ (by decide) (by decide), f2 _ (by decide) (by decide)]; exact c8
      have rd5 : I5 (13 + 3) = crU (I (13 + 3)) (fun _ => 0) n (N - n) := by rw [fx _ (by decide) (by decide), f2 _ (by decide) (by decide)]; exact c9
      have mh5 : I5 142 = crU (I 142) (hV fl x1) n (N - n) := by rw [f5 _ (by decide), g4]
      have mt5 : I5 143 = crU (I 143) (fun _ => 10) n (N - n) := by rw [f5 _ (by decide), g5]
      have mn5 : I5 144 = crN (I 144) fl n x1 (N - n) := by rw [f5 _ (by decide), g6]
      have rng : ∀ d, ∃ j, j < fl ∧ flV fl d = nI j := fun d => dr_rng (by omega) a2 d
      have B : rbR (c + 1) I5 := by
        obtain ⟨b1, b2⟩ := rb_of (c := c) e (by decide) h0.2
        refine ⟨fun a ha => ?_, b2⟩
        obtain ⟨R, hR, eR⟩ := b1 a ha
        exact ⟨R, by omega, eR⟩
      refine hQ _ I5 J ⟨N, fl, m, q, 0, r, t, s, z + 1, ⟨by have := h0.1; omega, B⟩, ⟨a1, a2, hN, ?_, ?_, ?_, ?_, ?_, ?_, fun i hi => ?_, fun i hi => ?_⟩, l_of e (by decide) (by decide) h2, ?_, ⟨p1, by omega, ?_, ?_, ?_, fun k hk => by omega⟩, rw_of e (by decide) (by decide) h5, tx_of e (by decide) (by decide) h6, sn_more (n := n) (by omega) h7 ⟨fun c hc => e.1 c (by revert c; decide) (by revert c; decide), fun k hk => e.2 k (by revert k; decide)⟩, kp_drop h8 ?_ ?_ ?_ ?_⟩ ?_
      · rw [b5]; exact c3
      · rw [m5 _ (by decide)]; exact a5
      · rw [b5, c2, eNn]
      · rw [e5, sw_up_slot _ _ _ _ (by decide), e3, sw_up_slot _ _ _ _ (by decide), g2, eNn]
      · rw [b5, c4, m5 _ (by decide)]; exact a8
      · rw [m5 _ (by decide)]; exact a9
      · rw [h5', mh5]
        unfold crU
        by_cases ci : n ≤ i ∧ i < n + (N - n)
        · rw [if_pos ci, if_pos ci]; exact ⟨rfl, rng _⟩
        · rw [if_neg ci, if_neg ci]; exact a10 i (by omega)
      · rw [t5', mt5]
        unfold crU
        by_cases ci : n ≤ i ∧ i < n + (N - n)
        · rw [if_pos ci, if_pos ci]; exact ⟨rfl, 10, by omega, rfl⟩
        · rw [if_neg ci, if_neg ci]; exact a11 i (by omega)
      · obtain ⟨⟨d1, d2, d3, d4⟩, v1, v2, v3, v4⟩ := h3
        unfold momR
        rw [e.1 13 (by decide) (by decide), at5, wi5, rd5, mn5]
        have hi30 : ∀ j, 30 ≤ j → crN (I 144) fl n x1 (N - n) j = I 144 j := fun j hj => crN_o (by omega) (by omega) (by omega)
        refine ⟨⟨fun i hi => ?_, ?_, ?_, ?_⟩, fun i hi => ?_, fun i hi hi2 => ?_, v3, fun i hi hb => ?_⟩
        · by_cases ci : n ≤ i
          · obtain ⟨u1, u2, u3⟩ := crN_p (row := I 144) (fl := fl) (n := n) (t := N - n) (i := i) (seed := x1) (by omega) (by omega)
            rw [u1, u2, u3, crU_in (by omega), crU_in (by omega), crU_in (by omega)]
            exact ⟨Or.inr ⟨rfl, rng _⟩, rfl, rfl⟩
          · rw [crN_o (by omega) (by omega) (by omega), crN_o (by omega) (by omega) (by omega), crN_o (by omega) (by omega) (by omega), crU_out (by omega), crU_out (by omega), crU_out (by omega)]
            exact d1 i (by omega)
        · rw [hi30 30 (by omega)]; exact d2
        · rw [hi30 31 (by omega)]; exact d3
        · rw [hi30 32 (by omega)]; exact d4
        · by_cases ci : n ≤ i
          · rw [crU_in (by omega), crU_in (by omega)]; exact ⟨Or.inr (rng _), Or.inr (rng _)⟩
          · rw [crU_out (by omega), crU_out (by omega)]; exact v1 i (by omega)
        · rw [crU_out (by omega)]; exact v2 i (by omega) hi2
        · obtain ⟨z1, z2⟩ := v4 i hi hb
          refine ⟨by omega, ?_⟩
          rw [crU_out (by omega)]; exact z2
      · rw [fx _ (by decide) (by decide), y2', c1 _ (by decide)]; exact p3
      · rw [fx _ (by decide) (by decide), z2]; rfl
      · rw [e5, sw_up_slot _ _ _ _ (by decide), e3, sw_up_same]; rfl
      · intro j hj; rw [fx _ (by decide) (by decide)]; exact k2 j hj
      · rw [e.1 _ (by decide) (by decide)]
      · rw [e.1 _ (by decide) (by decide)]
      · rw [e5, sw_up_same, e3, sw_up_slot _ _ _ _ (by decide), mG _ (by decide), h8.1, nI_1]
      · rw [e5, sw_up_slot _ _ _ _ (by decide), e3, sw_up_slot _ _ _ _ (by decide), g1.2 _ (by decide), sw_up_slot _ _ _ _ (by decide), sw_up_same]
