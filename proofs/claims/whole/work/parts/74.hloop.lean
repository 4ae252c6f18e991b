/-! house: both read all lines -/
theorem s_faultOf {T : Nat → Int32} {t lim e : Nat} (ht : t ≤ 80) (hlim : lim ≤ 80) {g : Bool} {I : sw_I} {J : sw_J} {Q : Int32 → sw_I → sw_J → Prop} (hs : tpS I T e (min t lim)) (h : Q (if hsV t lim (g, e) < 0 then 0 else -1 - hsV t lim (g, e)) I J) : wp_X10_faultOf (nI t) (nI lim) (bI g) I J Q := by
  obtain ⟨a1, a2, a3, a4, a5⟩ := id hs
  unfold wp_X10_faultOf
  rw [a1, a2]
  have at44 : ∀ b : Bool, b = decide (g = true ∧ e = min t lim) → ¬ lim < t → wB_X10_faultOf_44 Q (bI b) I J := by
    intro b hb hlt
    unfold hsV at h
    unfold wB_X10_faultOf_44
    rw [a1]
    dsimp only at h
    by_cases c : g = true ∧ e = min t lim
    · rw [decide_eq_true c] at hb
      rw [hb, sw_if_f (by decide)]
      rw [if_pos c, if_neg hlt, if_pos (by decide)] at h; exact h
    · rw [decide_eq_false c] at hb
      rw [hb, sw_if_t (by rfl)]
      rw [if_neg c, if_neg (nI_pos (by omega))] at h; exact h
  have at20 : ∀ b : Bool, b = decide (g = true ∧ e = min t lim) → wB_X10_faultOf_20 Q (nI t) (nI lim) (bI b) I J := by
    intro b hb
    unfold wB_X10_faultOf_20
    by_cases c : lim < t
    · rw [sw_if_t (nI_lt c (by omega))]
      have hm : min t lim = lim := by omega
      by_cases c2 : g = true ∧ e = min t lim
      · rw [decide_eq_true c2] at hb
        rw [hb, sw_if_f (by decide)]
        unfold hsV at h
        rw [if_pos c2, if_pos c, if_neg (nI_pos (by omega))] at h; exact h
      · have hb2 := hb
        rw [decide_eq_false c2] at hb2
        rw [hb2, sw_if_t (by rfl), a1]
        unfold hsV at h
        rw [if_neg c2, if_neg (show ¬ nI e < 0 from nI_pos (by omega))] at h
        by_cases c3 : e < lim
        · rw [sw_if_t (nI_lt c3 (by omega))]
          unfold wB_X10_faultOf_44
          rw [sw_if_t (by rfl), a1]; exact h
        · rw [sw_if_f (nI_nlt (by omega) (by omega))]
          have : e = lim := by omega
          rw [← this]; exact h
    · rw [sw_if_f (nI_nlt (by omega) (by omega))]
      exact at44 b hb c
  cases g
  · rw [sw_if_t (by rfl)]
    exact at20 false (decide_eq_false (fun q => by cases q.1)).symm
  · rw [sw_if_f (by decide)]
    refine ⟨fun c => ?_, fun c => ?_⟩
    · exact at20 true (decide_eq_true ⟨rfl, (nI_eq (by omega) (by omega)).mp c⟩).symm
    · exact at20 false (decide_eq_false (fun q => c (by rw [q.2]))).symm
abbrev rdE : List Nat := [13, 19, 20]
def lnV (T : Nat → Int32) (fl : Nat) (I : sw_I) (k p : Nat) : Prop := I 147 k = T p - 48 ∧ I 148 k = wsT T p ∧ I 149 k = T (p + 4) - 48
def lnR (T : Nat → Int32) (fl p : Nat) : Prop := (∃ k, k < fl ∧ T p - 48 = nI k) ∧ fw fl (wsT T p) ∧ ∃ k, k < fl ∧ T (p + 4) - 48 = nI k
def hsS (I0 : sw_I) (T : Nat → Int32) (fl to n : Nat) (lift : Int32) (S : List Nat) (I : sw_I) : Prop := eqm rdA rdE I0 I ∧ I 140 19 = nI S.length ∧ (∀ i, i < S.length → lnV T fl I (n + i) (S.getD i 0) ∧ lnR T fl (S.getD i 0)) ∧ ∀ k, k < 32 → inB (I 140 20) k = decide (n ≤ k ∧ k < n + S.length ∧ lnI T to lift (S.getD (k - n) 0) = true)
theorem getN_app {S : List Nat} {v i : Nat} (h : i < S.length) : (S ++ [v]).getD i 0 = S.getD i 0 := by simp [List.getD, List.getElem?_append_left h]
theorem getN_end {S : List Nat} {v : Nat} : (S ++ [v]).getD S.length 0 = v := by simp [List.getD]
theorem m_hs_loop {T : Nat → Int32} {fl n t : Nat} {lift : Int32} (hfl : fl ≤ 9) (hn : n ≤ 10) (ht : t ≤ 80) {I0 : sw_I} {J : sw_J} {Q : Int32 → sw_I → sw_J → Prop} (hf : I0 140 3 = nI fl) (hr : I0 140 4 = nI n) (hlift : I0 144 31 = lift) :
    ∀ (d : Nat) (S : List Nat) (p : Nat) (g : Int32) (I : sw_I), n + S.length + d = 10 → hsS I0 T fl (min t 76) n lift S I → tpS I T p (min t 76) → (∀ I3, eqm rdA rdE I0 I3 → tpS I3 T (hsP T fl (min t 76) lift d p).2.1 (min t 76) → ((hsP T fl (min t 76) lift d p).1 = true → hsS I0 T fl (min t 76) n lift (S ++ (hsP T fl (min t 76) lift d p).2.2) I3) → ∀ f, wl_X10_house_34 Q (f + 1) (nI t) (bI (hsP T fl (min t 76) lift d p).1) 0 I3 J) → wl_X10_house_34 Q (d + 2) (nI t) g 1 I J := by
  intro d
  induction d with
  | zero =>
    intro S p g I hd hS hs h
    obtain ⟨q, many, vals, bits⟩ := id hS
    show wb_X10_house_34 _ Q _ _ _ I J
    unfold wb_X10_house_34
    rw [sw_if_f (by decide)]
    refine s_readsRider (fl := fl) (n := n) (l := S.length) (lift := lift) hfl (by omega) hs (by rw [q.2 _ (by decide)]; exact hf) (by rw [q.2 _ (by decide)]; exact hr) many (by rw [q.1 _ (by decide) (by decide)]; exact hlift) (fun _ => ?_) (fun hlt => by omega) (fun hlt => by omega)
    rw [sw_if_t rfl]
    exact h I q hs (fun w => by cases w) 0
  | succ d ih =>
    intro S p g I hd hS hs h
    obtain ⟨q, many, vals, bits⟩ := id hS
    show wb_X10_house_34 _ Q _ _ _ I J
    unfold wb_X10_house_34
    rw [sw_if_f (by decide)]
    have hsPe : hsP T fl (min t 76) lift (d + 1) p = (match lnE T fl (min t 76) p with
      | some e => (false, e, [])
      | none => if lnQ T (min t 76) lift p < min t 76 ∧ T (lnQ T (min t 76) lift p) = 59 then ((hsP T fl (min t 76) lift d (lnQ T (min t 76) lift p + 1)).1, (hsP T fl (min t 76) lift d (lnQ T (min t 76) lift p + 1)).2.1, p :: (hsP T fl (min t 76) lift d (lnQ T (min t 76) lift p + 1)).2.2) else (true, lnQ T (min t 76) lift p, [p])) := rfl
    refine s_readsRider (fl := fl) (n := n) (l := S.length) (lift := lift) hfl (by omega) hs (by rw [q.2 _ (by decide)]; exact hf) (by rw [q.2 _ (by decide)]; exact hr) many (by rw [q.1 _ (by decide) (by decide)]; exact hlift) (fun h10 => by omega) (fun _ e he I2 q2 s2 => ?_) (fun _ he I2 q2 s2 m2 r2 kk v1 v2 v3 w1 w2 w3 => ?_)
    · rw [sw_if_t rfl]
      rw [hsPe, he] at h
      exact h I2 (q.tr (q2.mono (by decide) (by decide))) s2 (fun w => by cases w) (d + 1)
    · rw [sw_if_f (by decide)]
      rw [hsPe, he] at h
      have S2 : hsS I0 T fl (min t 76) n lift (S ++ [p]) I2 := by
        refine ⟨q.tr q2, by rw [m2, List.length_append]; rfl, fun i hi => ?_, fun k hk => ?_⟩
        · rw [List.length_append] at hi
          by_cases c : i = S.length
          · rw [c, getN_end]; exact ⟨⟨v1, v2, v3⟩, w1, w2, w3⟩
          · have hi2 : i < S.length := by simp at hi; omega
            rw [getN_app hi2]
            refine ⟨?_, (vals i hi2).2⟩
            unfold lnV
            rw [kk _ (by decide) _ (by omega), kk _ (by decide) _ (by omega), kk _ (by decide) _ (by omega)]
            exact (vals i hi2).1
        · rw [r2]
          have old := bits k hk
          by_cases c : k = n + S.length
          · have e1 : (S ++ [p]).getD (k - n) 0 = p := by rw [c, Nat.add_sub_cancel_left]; exact getN_end
            rw [e1]
            have o2 : inB (I 140 20) k = false := by rw [old]; exact decide_eq_false (fun z => by omega)
            cases hI : lnI T (min t 76) lift p
            · rw [if_neg (by decide), o2]; exact (decide_eq_false (fun z => by cases z.2.2)).symm
            · rw [if_pos rfl, inB_or _ _ hk, o2, inB_one _ (by omega) k hk, decide_eq_true c]
              exact (decide_eq_true ⟨by omega, by rw [List.length_append]; simp; omega, rfl⟩).symm
          · have e2 : inB (if lnI T (min t 76) lift p = true then I 140 20 ||| ((1 : Int32) <<< (nI (n + S.length) &&& 31)) else I 140 20) k = inB (I 140 20) k := by
              split
              · rw [inB_or _ _ hk, inB_one _ (by omega) k hk, decide_eq_false c, Bool.or_false]
              · rfl
            rw [e2, old]
            by_cases c2 : n ≤ k ∧ k < n + S.length
            · rw [getN_app (by omega)]
              exact decide_eq_decide.mpr ⟨fun z => ⟨z.1, by rw [List.length_append]; omega, z.2.2⟩, fun z => ⟨c2.1, c2.2, z.2.2⟩⟩
            · exact decide_eq_decide.mpr ⟨fun z => absurd ⟨z.1, z.2.1⟩ c2, fun z => by
                have z2 := z.2.1
                rw [List.length_append] at z2
                simp at z2
                exact absurd ⟨z.1, by omega⟩ c2⟩
      refine s_takes s2 (fun k5 I3 q3 s3 => ?_) (fun p5 b5 I3 q3 s3 => ?_)
      · rw [sw_if_t rfl]
        rw [if_neg k5] at h
        have S3 : hsS I0 T fl (min t 76) n lift (S ++ [p]) I3 := by
          obtain ⟨z1, z2, z3, z4⟩ := S2
          refine ⟨z1.tr (q3.mono (by decide) (by decide)), by rw [q3.2 _ (by decide)]; exact z2, fun i hi => ?_, fun k hk => by rw [q3.2 _ (by decide)]; exact z4 k hk⟩
          unfold lnV
          rw [q3.1 _ (by decide) (by decide), q3.1 _ (by decide) (by decide), q3.1 _ (by decide) (by decide)]
          exact z3 i hi
        exact h I3 S3.1 s3 (fun _ => S3) (d + 1)
      · rw [sw_if_f (by decide)]
        rw [if_pos ⟨p5, b5⟩] at h
        have S3 : hsS I0 T fl (min t 76) n lift (S ++ [p]) I3 := by
          obtain ⟨z1, z2, z3, z4⟩ := S2
          refine ⟨z1.tr (q3.mono (by decide) (by decide)), by rw [q3.2 _ (by decide)]; exact z2, fun i hi => ?_, fun k hk => by rw [q3.2 _ (by decide)]; exact z4 k hk⟩
          unfold lnV
          rw [q3.1 _ (by decide) (by decide), q3.1 _ (by decide) (by decide), q3.1 _ (by decide) (by decide)]
          exact z3 i hi
        refine ih (S ++ [p]) _ 1 I3 (by rw [List.length_append]; simp; omega) S3 s3 (fun I4 q4 s4 hS4 f => ?_)
        exact h I4 q4 s4 (fun w => by have := hS4 w; rw [List.append_assoc] at this; exact this) f
/-- one rider more, of the class -/
def cgC (I : sw_I) (fl n : Nat) (hv wv pv : Nat → Int32) (bv : Nat → Bool) (t : Nat) (I2 : sw_I) : Prop := eqx (13 :: crX) I I2 ∧ I2 3 2 = nI (n + t) ∧ I2 3 0 = nI fl ∧ I2 3 1 = I 3 1 ∧ I2 4 = crU (I 4) hv n t ∧ I2 5 = crU (I 5) (fun _ => 10) n t ∧ I2 14 = crU (I 14) pv n t ∧ I2 15 = crU (I 15) wv n t ∧ I2 16 = crU (I 16) (fun _ => 0) n t ∧ (∀ k, k < 32 → inB (I2 13 3) k = (inB (I 13 3) k || decide (n ≤ k ∧ k < n + t ∧ bv (k - n) = true))) ∧ I2 13 4 = I 13 4 ∧ I2 13 5 = I 13 5
theorem s_addRider {fl n t : Nat} (hnt : n + t < 10) {I I2 : sw_I} {hv wv pv : Nat → Int32} {bv : Nat → Bool} {J : sw_J} {Q : sw_I → sw_J → Prop} (hc : cgC I fl n hv wv pv bv t I2) (h : ∀ I3, cgC I fl n hv wv pv bv (t + 1) I3 → Q I3 J) : wp_X9_addRider (hv t) (wv t) (pv t) (bI (bv t)) I2 J Q := by
  obtain ⟨c1, c2, c3, c4, c5, c6, c7, c8, c9, c10, c11, c12⟩ := hc
  intro y hy
  rw [c2] at hy
  rw [hy, sw_if_t (show nI (n + t) < (10 : Int32) from nI_lt (b := 10) hnt (by decide)), nI_clamp (by omega)]
  have vp : vp_in (nI (n + t)) 10 := vp0 hnt (by decide)
  refine ⟨vp, fun I5 e5 => ⟨vp, fun I8 e8 => ?_⟩⟩
  intro I10 e10
  refine ⟨vp, fun I13 e13 => ⟨vp, fun I16 e16 => ⟨vp, fun I19 e19 => ?_⟩⟩⟩
  have b8 : ∀ k, I8 3 k = I2 3 k := fun k => by rw [e8, sw_up_cell _ _ _ _ (by decide), e5, sw_up_cell _ _ _ _ (by decide)]
  rw [b8, c2, nI_1] at e10
  have n19 : I19 13 = I2 13 := by rw [e19, sw_up_row _ _ _ (by decide), e16, sw_up_row _ _ _ (by decide), e13, sw_up_row _ _ _ (by decide), e10, sw_up_row _ _ _ (by decide), e8, sw_up_row _ _ _ (by decide), e5, sw_up_row _ _ _ (by decide)]
  have done : ∀ I3, eqx [13] I19 I3 → I3 13 4 = I2 13 4 → I3 13 5 = I2 13 5 → (∀ k, k < 32 → inB (I3 13 3) k = (inB (I2 13 3) k || decide (k = n + t ∧ bv t = true))) → Q I3 J := by
    intro I3 x3 l3 r3 i3
    have bb : I3 3 = I10 3 := by rw [x3 _ (by decide), e19, sw_up_row _ _ _ (by decide), e16, sw_up_row _ _ _ (by decide), e13, sw_up_row _ _ _ (by decide)]
    refine h I3 ⟨?_, ?_, ?_, ?_, ?_, ?_, ?_, ?_, ?_, fun k hk => ?_, by rw [l3]; exact c11, by rw [r3]; exact c12⟩
    · have : eqx (13 :: crX) I I19 := by rw [e19, e16, e13, e10, e8, e5]; exact (((((c1.up (by decide) _ _).up (by decide) _ _).up (by decide) _ _).up (by decide) _ _).up (by decide) _ _).up (by decide) _ _
      exact this.tr (x3.mono (by decide))
    · rw [bb, e10, sw_up_same]; rfl
    · rw [bb, e10, sw_up_slot _ _ _ _ (by decide), b8]; exact c3
    · rw [bb, e10, sw_up_slot _ _ _ _ (by decide), b8]; exact c4
    · rw [x3 _ (by decide), e19, sw_up_row _ _ _ (by decide), e16, sw_up_row _ _ _ (by decide), e13, sw_up_row _ _ _ (by decide), e10, sw_up_row _ _ _ (by decide), e8, sw_up_row _ _ _ (by decide), e5, sw_up_rowf, c5]; exact crU_s _ hv _ _
    · rw [x3 _ (by decide), e19, sw_up_row _ _ _ (by decide), e16, sw_up_row _ _ _ (by decide), e13, sw_up_row _ _ _ (by decide), e10, sw_up_row _ _ _ (by decide), e8, sw_up_rowf, e5, sw_up_row _ _ _ (by decide), c6]; exact crU_s _ (fun _ => 10) _ _
    · rw [x3 _ (by decide), e19, sw_up_row _ _ _ (by decide), e16, sw_up_row _ _ _ (by decide), e13, sw_up_rowf, e10, sw_up_row _ _ _ (by decide), e8, sw_up_row _ _ _ (by decide), e5, sw_up_row _ _ _ (by decide), c7]; exact crU_s _ pv _ _
    · rw [x3 _ (by decide), e19, sw_up_row _ _ _ (by decide), e16, sw_up_rowf, e13, sw_up_row _ _ _ (by decide), e10, sw_up_row _ _ _ (by decide), e8, sw_up_row _ _ _ (by decide), e5, sw_up_row _ _ _ (by decide), c8]; exact crU_s _ wv _ _
    · rw [x3 _ (by decide), e19, sw_up_rowf, e16, sw_up_row _ _ _ (by decide), e13, sw_up_row _ _ _ (by decide), e10, sw_up_row _ _ _ (by decide), e8, sw_up_row _ _ _ (by decide), e5, sw_up_row _ _ _ (by decide), c9]; exact crU_s _ (fun _ => 0) _ _
    · rw [i3 k hk, c10 k hk, Bool.or_assoc]
      congr 1
      rw [← Bool.decide_or]
      refine decide_eq_decide.mpr ⟨fun z => ?_, fun z => ?_⟩
      · rcases z with z | z
        · exact ⟨z.1, by omega, z.2.2⟩
        · refine ⟨by omega, by omega, ?_⟩
          rw [z.1, Nat.add_sub_cancel_left]; exact z.2
      · by_cases ck : k = n + t
        · refine Or.inr ⟨ck, ?_⟩
          have := z.2.2
          rw [ck, Nat.add_sub_cancel_left] at this; exact this
        · exact Or.inl ⟨z.1, by omega, z.2.2⟩
  cases hb : bv t
  · rw [sw_if_t (by rfl)]
    refine done I19 eqx.rf (by rw [n19]) (by rw [n19]) (fun k hk => ?_)
    rw [n19, hb, decide_eq_false (p := k = n + t ∧ false = true) (fun z => by cases z.2), Bool.or_false]
  · rw [sw_if_f (by decide)]
    intro I22 e22
    refine done I22 (by rw [e22]; exact eqx.rf.up (by decide) _ _) (by rw [e22, sw_up_slot _ _ _ _ (by decide), n19]) (by rw [e22, sw_up_slot _ _ _ _ (by decide), n19]) (fun k hk => ?_)
    rw [e22, sw_up_same, n19, inB_or _ _ hk, inB_one _ (by omega) k hk, hb]
    congr 1
    exact decide_eq_decide.mpr ⟨fun z => ⟨z, rfl⟩, fun z => z.1⟩
