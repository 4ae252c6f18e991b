/-! house: those who come -/
abbrev hvT (T : Nat → Int32) (R : List Nat) (i : Nat) : Int32 := T (R.getD i 0) - 48
abbrev wvT (T : Nat → Int32) (R : List Nat) (i : Nat) : Int32 := wsT T (R.getD i 0)
abbrev pvT (T : Nat → Int32) (R : List Nat) (i : Nat) : Int32 := T (R.getD i 0 + 4) - 48
abbrev bvT (T : Nat → Int32) (to : Nat) (lift : Int32) (R : List Nat) (i : Nat) : Bool := lnI T to lift (R.getD i 0)
theorem lnE_none {T : Nat → Int32} {fl to p : Nat} (h : lnE T fl to p = none) : p + 4 < to ∧ flB fl (T p) = true ∧ flB fl (T (p + 4)) = true := by
  unfold lnE at h
  by_cases k0 : ¬ (p < to ∧ flB fl (T p) = true)
  · rw [if_pos k0] at h; cases h
  rw [if_neg k0] at h
  by_cases k1 : ¬ (p + 1 < to ∧ T (p + 1) = 62)
  · rw [if_pos k1] at h; cases h
  rw [if_neg k1] at h
  by_cases k2 : ¬ (p + 2 < to ∧ (T (p + 2) = 45 ∨ flB fl (T (p + 2)) = true))
  · rw [if_pos k2] at h; cases h
  rw [if_neg k2] at h
  by_cases k3 : ¬ (p + 3 < to ∧ T (p + 3) = 64)
  · rw [if_pos k3] at h; cases h
  rw [if_neg k3] at h
  by_cases k4 : ¬ (p + 4 < to ∧ flB fl (T (p + 4)) = true)
  · rw [if_pos k4] at h; cases h
  have k0' := Classical.not_not.mp k0
  have k4' := Classical.not_not.mp k4
  exact ⟨k4'.1, k0'.2, k4'.2⟩
theorem c_take_loop {fl n t : Nat} (ht : t ≤ 76) {T : Nat → Int32} {lift : Int32} {R : List Nat} {I : sw_I} {J : sw_J} {Q : Int32 → sw_I → sw_J → Prop} (hs : I 1 1 = nI t) (hT : I 2 = T) (h : ∀ I2, cgC I fl n (hvT T R) (wvT T R) (pvT T R) (bvT T t lift R) R.length I2 → sw_if (0 < nI R.length) (wp_X9_forgetWhatWas I2 J (fun I4 J5 => Q (nI R.length) I4 J5)) (Q (nI R.length) I2 J)) :
    ∀ (d l p : Nat) (I2 : sw_I), n + l + d = 10 → (hsP T fl t lift d p).1 = true → (hsP T fl t lift d p).2.1 = t → (∃ S : List Nat, S.length = l ∧ R = S ++ (hsP T fl t lift d p).2.2) → cgC I fl n (hvT T R) (wvT T R) (pvT T R) (bvT T t lift R) l I2 → wl_X9_takeLines_4 Q (d + 1) (nI l) (nI p) I2 J := by
  intro d
  induction d with
  | zero => intro l p I2 _ hg _ _ _; cases hg
  | succ d ih =>
    intro l p I2 hd hg he hS hc
    have hsPe : hsP T fl t lift (d + 1) p = (match lnE T fl t p with
      | some e => (false, e, [])
      | none => if lnQ T t lift p < t ∧ T (lnQ T t lift p) = 59 then ((hsP T fl t lift d (lnQ T t lift p + 1)).1, (hsP T fl t lift d (lnQ T t lift p + 1)).2.1, p :: (hsP T fl t lift d (lnQ T t lift p + 1)).2.2) else (true, lnQ T t lift p, [p])) := rfl
    cases hE : lnE T fl t p with
    | some e => rw [hsPe, hE] at hg; cases hg
    | none =>
      rw [hsPe, hE] at hg he hS
      have hp := (lnE_none hE).1
      have s2 : I2 1 1 = nI t := by rw [hc.1 _ (by decide)]; exact hs
      have T2 : I2 2 = T := by rw [hc.1 _ (by decide)]; exact hT
      -- the start of this line is R's next one
      have eR : R.getD l 0 = p := by
        obtain ⟨S, hl, eS⟩ := hS
        by_cases c : lnQ T t lift p < t ∧ T (lnQ T t lift p) = 59
        · dsimp only at eS; rw [if_pos c] at eS
          rw [eS, ← hl]; simp [List.getD]
        · dsimp only at eS; rw [if_neg c] at eS
          rw [eS, ← hl]; exact getN_end
      have in33 : decide ((if p + 5 < t then T (p + 5) else -1) = 33) = lnI T t lift p := by
        unfold lnI
        refine decide_eq_decide.mpr ⟨fun z => ?_, fun z => ?_⟩
        · by_cases c5 : p + 5 < t
          · rw [if_pos c5] at z
            by_cases cl : lnI T t lift p = true
            · unfold lnI at cl; exact of_decide_eq_true cl
            · exfalso
              have eq : lnQ T t lift p = p + 5 := by unfold lnQ; rw [if_neg cl]
              dsimp only at he
              rw [eq] at he
              by_cases c9 : p + 5 < t ∧ T (p + 5) = 59
              · rw [z] at c9; exact absurd c9.2 (by decide)
              · rw [if_neg c9] at he; dsimp only at he; omega
          · rw [if_neg c5] at z; exact absurd z (by decide)
        · rw [if_pos z.1]; exact z.2.2
      show wb_X9_takeLines_4 _ Q _ _ I2 J
      unfold wb_X9_takeLines_4
      rw [s2, show nI p + (5 : Int32) = nI (p + 5) from nI_add p 5, sw_if_f (nI_nlt (by omega) (by omega))]
      refine s_X8_at (t := t) (by omega) s2 T2 (by omega) ?_
      rw [if_pos (by omega), show nI p + (2 : Int32) = nI (p + 2) from nI_add p 2]
      intro y hy
      refine s_X8_at (t := t) (by omega) s2 T2 (by omega) ?_
      rw [if_pos (by omega)]
      -- behind the wish
      have rest : ∀ w, w = wsT T p → wB_X9_takeLines_61 (wl_X9_takeLines_4 Q (d + 1)) Q (nI l) (nI p) y w I2 J := by
        intro w hw
        unfold wB_X9_takeLines_61
        rw [show nI p + (5 : Int32) = nI (p + 5) from nI_add p 5]
        refine s_X8_at (t := t) (by omega) s2 T2 (by omega) ?_
        have go : ∀ b : Bool, b = lnI T t lift p → wB_X9_takeLines_83 (wl_X9_takeLines_4 Q (d + 1)) Q (nI l) (nI p) y w (bI b) I2 J := by
          intro b hb
          unfold wB_X9_takeLines_83
          rw [show nI p + (4 : Int32) = nI (p + 4) from nI_add p 4]
          refine s_X8_at (t := t) (by omega) s2 T2 (by omega) ?_
          rw [if_pos (by omega), hy, hw, hb]
          have e1 : T p - 48 = hvT T R l := by unfold hvT; rw [eR]
          have e2 : wsT T p = wvT T R l := by unfold wvT; rw [eR]
          have e3 : T (p + 4) - 48 = pvT T R l := by unfold pvT; rw [eR]
          have e4 : lnI T t lift p = bvT T t lift R l := by unfold bvT; rw [eR]
          rw [e1, e2, e3, e4]
          refine s_addRider (by omega) hc (fun I3 hc3 => ?_)
          intro y2 hy2
          rw [nI_1] at hy2
          have nxt : wl_X9_takeLines_4 Q (d + 1) (nI (l + 1)) (nI (lnQ T t lift p + 1)) I3 J := by
            obtain ⟨S, hl, eS⟩ := hS
            by_cases c : lnQ T t lift p < t ∧ T (lnQ T t lift p) = 59
            · dsimp only at hg he eS
              rw [if_pos c] at hg he eS
              exact ih (l + 1) _ I3 (by omega) hg he ⟨S ++ [p], by rw [List.length_append, hl]; rfl, by rw [eS, List.append_assoc]; rfl⟩ hc3
            · dsimp only at hg he eS
              rw [if_neg c] at hg he eS
              dsimp only at he eS
              have hL : R.length = l + 1 := by rw [eS, List.length_append, hl]; rfl
              have s3 : I3 1 1 = nI t := by rw [hc3.1 _ (by decide)]; exact hs
              show wb_X9_takeLines_4 _ Q _ _ I3 J
              unfold wb_X9_takeLines_4
              rw [s3, he, show nI (t + 1) + (5 : Int32) = nI (t + 1 + 5) from nI_add (t + 1) 5, sw_if_t (nI_lt (by omega) (by omega))]
              rw [hL] at h
              exact h I3 hc3
          unfold lnQ at nxt
          rw [← e4, hy2]
          cases hI : lnI T t lift p
          · rw [sw_if_t (by rfl)]
            intro y3 hy3
            rw [hI] at nxt
            rw [hy3, show nI p + (6 : Int32) = nI (p + 6) from nI_add p 6]; exact nxt
          · rw [sw_if_f (by decide)]
            intro y3 hy3
            rw [hI] at nxt
            rw [hy3, show nI p + (7 : Int32) = nI (p + 7) from nI_add p 7]; exact nxt
        refine ⟨fun c => ?_, fun c => ?_⟩
        · exact go true (by rw [← in33]; exact (decide_eq_true c).symm)
        · exact go false (by rw [← in33]; exact (decide_eq_false c).symm)
      refine ⟨fun c => ?_, fun c => s_X8_at (t := t) (by omega) s2 T2 (by omega) ?_⟩
      · exact rest _ (by unfold wsT; rw [if_pos c])
      · rw [if_pos (by omega)]
        exact rest _ (by unfold wsT; rw [if_neg c])
theorem hsP_len {T : Nat → Int32} {fl to : Nat} {lift : Int32} : ∀ d p, (hsP T fl to lift d p).1 = true → 0 < (hsP T fl to lift d p).2.2.length ∧ (hsP T fl to lift d p).2.2.length ≤ d
  | 0, p, h => by cases h
  | d + 1, p, h => by
    have hsPe : hsP T fl to lift (d + 1) p = (match lnE T fl to p with
      | some e => (false, e, [])
      | none => if lnQ T to lift p < to ∧ T (lnQ T to lift p) = 59 then ((hsP T fl to lift d (lnQ T to lift p + 1)).1, (hsP T fl to lift d (lnQ T to lift p + 1)).2.1, p :: (hsP T fl to lift d (lnQ T to lift p + 1)).2.2) else (true, lnQ T to lift p, [p])) := rfl
    cases hE : lnE T fl to p with
    | some e => rw [hsPe, hE] at h; cases h
    | none =>
      rw [hsPe, hE] at h ⊢
      dsimp only at h ⊢
      by_cases c : lnQ T to lift p < to ∧ T (lnQ T to lift p) = 59
      · rw [if_pos c] at h ⊢
        have := hsP_len d _ h
        dsimp only
        rw [List.length_cons]; omega
      · rw [if_neg c] at h ⊢
        simp
/-- the reference's row with those who came -/
def crG (row pv wv : Nat → Int32) (n t : Nat) : Nat → Int32 := crU (crU (crU row pv n t) wv (10 + n) t) (fun _ => 0) (20 + n) t
theorem crG_p {row pv wv : Nat → Int32} {n t i : Nat} (hn : n + t ≤ 10) (h : n ≤ i ∧ i < n + t) : crG row pv wv n t i = pv (i - n) ∧ crG row pv wv n t (10 + i) = wv (i - n) ∧ crG row pv wv n t (20 + i) = 0 := by
  unfold crG
  refine ⟨?_, ?_, ?_⟩
  · rw [crU_out (n := 20 + n) (by omega), crU_out (n := 10 + n) (by omega), crU_in (n := n) h]
  · rw [crU_out (n := 20 + n) (by omega), crU_in (n := 10 + n) (by omega), show 10 + i - (10 + n) = i - n by omega]
  · rw [crU_in (n := 20 + n) (by omega)]
theorem crG_o {row pv wv : Nat → Int32} {n t j : Nat} (h1 : ¬ (n ≤ j ∧ j < n + t)) (h2 : ¬ (10 + n ≤ j ∧ j < 10 + n + t)) (h3 : ¬ (20 + n ≤ j ∧ j < 20 + n + t)) : crG row pv wv n t j = row j := by
  unfold crG
  rw [crU_out (n := 20 + n) h3, crU_out (n := 10 + n) h2, crU_out (n := n) h1]
theorem crG_s (row pv wv : Nat → Int32) {n t : Nat} (hn : n + t < 10) : (fun j => if j = 20 + (n + t) then (0 : Int32) else if j = 10 + (n + t) then wv t else if j = n + t then pv t else crG row pv wv n t j) = crG row pv wv n (t + 1) := by
  funext j
  have P := crG_p (row := row) (pv := pv) (wv := wv) (n := n) (t := t + 1) (i := n + t) (by omega) (by omega)
  rw [Nat.add_sub_cancel_left] at P
  by_cases c1 : j = 20 + (n + t)
  · rw [if_pos c1, c1]; exact P.2.2.symm
  · rw [if_neg c1]
    by_cases c2 : j = 10 + (n + t)
    · rw [if_pos c2, c2]; exact P.2.1.symm
    · rw [if_neg c2]
      by_cases c3 : j = n + t
      · rw [if_pos c3, c3]; exact P.1.symm
      · rw [if_neg c3]
        by_cases d1 : n ≤ j ∧ j < n + t
        · rw [(crG_p (by omega) d1).1, (crG_p (t := t + 1) (by omega) (by omega)).1]
        · by_cases d2 : 10 + n ≤ j ∧ j < 10 + n + t
          · obtain ⟨i, rfl⟩ : ∃ i, j = 10 + i := ⟨j - 10, by omega⟩
            rw [(crG_p (i := i) (by omega) (by omega)).2.1, (crG_p (i := i) (t := t + 1) (by omega) (by omega)).2.1]
          · by_cases d3 : 20 + n ≤ j ∧ j < 20 + n + t
            · obtain ⟨i, rfl⟩ : ∃ i, j = 20 + i := ⟨j - 20, by omega⟩
              rw [(crG_p (i := i) (by omega) (by omega)).2.2, (crG_p (i := i) (t := t + 1) (by omega) (by omega)).2.2]
            · rw [crG_o d1 d2 d3, crG_o (by omega) (by omega) (by omega)]
def cgR (I : sw_I) (n : Nat) (hv wv pv : Nat → Int32) (t : Nat) (I2 : sw_I) : Prop := eqm crM [] I I2 ∧ I2 142 = crU (I 142) hv n t ∧ I2 143 = crU (I 143) (fun _ => 10) n t ∧ I2 144 = crG (I 144) pv wv n t
theorem m_comes_loop {n L : Nat} (hnL : n + L ≤ 10) {hv wv pv : Nat → Int32} {x1 : Int32} {I : sw_I} {J : sw_J} {Q : Int32 → sw_I → sw_J → Prop} (hr : I 140 4 = nI n) (hm : I 140 19 = nI L) (hv0 : ∀ i, i < L → I 147 (n + i) = hv i ∧ I 148 (n + i) = wv i ∧ I 149 (n + i) = pv i)
    (h : ∀ I2, cgR I n hv wv pv L I2 → ∀ I4 : sw_I, I4 = sw_up I2 144 30 ((I2 144 30) ||| (I2 140 20)) → ∀ I6 : sw_I, I6 = sw_up I4 140 4 ((I4 140 4) + (I4 140 19)) → sw_if (0 < x1) (∀ I9 : sw_I, I9 = sw_up I6 140 32 (0 : Int32) → ∀ I11 : sw_I, I11 = sw_up I9 140 6 ((I9 140 6) + (1 : Int32)) → Q (I11 140 19) I11 J) (Q (I6 140 19) I6 J)) :
    ∀ (d t : Nat) (I2 : sw_I), t + d = L → cgR I n hv wv pv t I2 → wl_X10_house_89 Q (d + 1) x1 (nI (n + t)) I2 J := by
  intro d
  induction d with
  | zero =>
    intro t I2 hk hc
    show wb_X10_house_89 _ Q _ _ I2 J
    unfold wb_X10_house_89
    rw [hc.1.2 4 (by decide), hc.1.2 19 (by decide), hr, hm, nI_add, sw_if_f (nI_nlt (by omega) (by omega))]
    rw [show t = L by omega] at hc
    exact h I2 hc
  | succ d ih =>
    intro t I2 hk hc
    obtain ⟨c1, c2, c3, c4⟩ := id hc
    show wb_X10_house_89 _ Q _ _ I2 J
    unfold wb_X10_house_89
    rw [c1.2 4 (by decide), c1.2 19 (by decide), hr, hm, nI_add, sw_if_t (nI_lt (by omega) (by omega))]
    have vp : vp_in (nI (n + t)) 10 := vp0 (by omega) (by decide)
    refine ⟨vp, vp, vp, ?_⟩
    have rd := hv0 t (by omega)
    rw [nI_clamp (by omega), c1.1 147 (by decide) (by decide), c1.1 148 (by decide) (by decide), c1.1 149 (by decide) (by decide), rd.1, rd.2.1, rd.2.2]
    unfold wp_X10_comes
    rw [show (10 : Int32) + nI (n + t) = nI (10 + (n + t)) from nI_add 10 _, show (20 : Int32) + nI (n + t) = nI (20 + (n + t)) from nI_add 20 _, nI_clamp (by omega), nI_clamp (by omega), nI_clamp (by omega)]
    refine ⟨vp0 (by omega) (by decide), fun A e6 => ⟨vp0 (by omega) (by decide), fun B e7 => ⟨vp0 (by omega) (by decide), fun C e8 => ⟨vp0 (by omega) (by decide), fun D e9 => ⟨vp0 (by omega) (by decide), fun E e10 => ?_⟩⟩⟩⟩⟩
    intro y hy
    rw [hy, nI_1]
    refine ih (t + 1) E (by omega) ⟨?_, ?_, ?_, ?_⟩
    · rw [e10, e9, e8, e7, e6]; exact ((((c1.upC (by decide) (by decide) _ _).upC (by decide) (by decide) _ _).upC (by decide) (by decide) _ _).upC (by decide) (by decide) _ _).upC (by decide) (by decide) _ _
    · rw [e10, sw_up_row _ _ _ (by decide), e9, sw_up_row _ _ _ (by decide), e8, sw_up_row _ _ _ (by decide), e7, sw_up_row _ _ _ (by decide), e6, sw_up_rowf, c2]; exact crU_s _ hv _ _
    · rw [e10, sw_up_row _ _ _ (by decide), e9, sw_up_row _ _ _ (by decide), e8, sw_up_row _ _ _ (by decide), e7, sw_up_rowf, e6, sw_up_row _ _ _ (by decide), c3]; exact crU_s _ (fun _ => 10) _ _
    · rw [e10, sw_up_rowf, e9, sw_up_rowf, e8, sw_up_rowf, e7, sw_up_row _ _ _ (by decide), e6, sw_up_row _ _ _ (by decide), c4]
      exact crG_s _ pv wv (by omega)
