/-! law: single steps of take, and of the reference -/
section LT
variable {T : Nat → Int32} {U : Nat → Nat} {t : Nat}
theorem txt_of {I I2 : sw_I} (e : eqx tkC I I2) (hs : I 1 1 = nI t) (hT : I 2 = T) : I2 1 1 = nI t ∧ I2 2 = T := ⟨by rw [e _ (by decide)]; exact hs, by rw [e _ (by decide)]; exact hT⟩
theorem tk_dig {p F : Nat} (ht : t ≤ 40) (hU : txU T U t) (hp : p < t) (hd : dgN (U p) = true) {K : List Int32} {W : List Nat} {a : Bool} (hK : K.length < 40) {I : sw_I} {J : sw_J} {Q : sw_I → sw_J → Prop} (hs : I 1 1 = nI t) (hT : I 2 = T) (h : syS I K W a) (hk : ∀ I2, eqx tkC I I2 → syS I2 (K ++ [nI (U p - 48)]) W a → wl_X2_take_19 Q F 0 (nI (p + 1)) I2 J) : wl_X2_take_19 Q (F + 1) 1 (nI p) I J := by
  have hu := hU p hp
  have hd2 := of_decide_eq_true hd
  show wb_X2_take_19 _ Q _ _ I J
  unfold wb_X2_take_19
  rw [show I 1 1 = nI t from hs, sw_if_t (nI_lt hp (by omega))]
  refine s_X8_at (by omega) hs hT (by omega) ?_
  rw [if_pos hp, hu.1]
  refine s_lDigit hu.2 ?_
  rw [hd, sw_if_f (by decide), sw_if_f (by decide)]
  unfold wB_X2_take_57 wp_X2_putDigit
  rw [sw_if_t rfl, show nI (U p) - (48 : Int32) = nI (U p - 48) from nI_sub (b := 48) (by omega)]
  unfold wB_X2_putDigit_41
  refine s_put hK h (fun I2 x2 s2 => ?_)
  intro y hy
  rw [hy, nI_1]; exact hk I2 x2 s2
theorem tk_dig2 {p F : Nat} (ht : t ≤ 40) (hU : txU T U t) (hp : p < t) (hd : dgN (U p) = true) {K : List Int32} {v : Nat} {W : List Nat} {a : Bool} (hK : K.length < 40) {I : sw_I} {J : sw_J} {Q : sw_I → sw_J → Prop} (hs : I 1 1 = nI t) (hT : I 2 = T) (h : syS I (K ++ [nI v]) W a) (hk : ∀ I2, eqx tkC I I2 → syS I2 (K ++ [nI (10 * v + (U p - 48))]) W a → wl_X2_take_19 Q F 0 (nI (p + 1)) I2 J) : wl_X2_take_19 Q (F + 1) 0 (nI p) I J := by
  have hu := hU p hp
  have hd2 := of_decide_eq_true hd
  obtain ⟨h1, h2, h3, h4, h5⟩ := h
  have hl : (K ++ [nI v]).length = K.length + 1 := by rw [List.length_append]; rfl
  have hl2 : (K ++ [nI (10 * v + (U p - 48))]).length = K.length + 1 := by rw [List.length_append]; rfl
  show wb_X2_take_19 _ Q _ _ I J
  unfold wb_X2_take_19
  rw [show I 1 1 = nI t from hs, sw_if_t (nI_lt hp (by omega))]
  refine s_X8_at (by omega) hs hT (by omega) ?_
  rw [if_pos hp, hu.1]
  refine s_lDigit hu.2 ?_
  rw [hd, sw_if_f (by decide), sw_if_t rfl]
  unfold wB_X2_take_57 wp_X2_putDigit
  rw [sw_if_f (by decide), show nI (U p) - (48 : Int32) = nI (U p - 48) from nI_sub (b := 48) (by omega), show I 6 3 = nI (K.length + 1) by rw [← hl]; exact h1, sw_if_t (show (0 : Int32) < nI (K.length + 1) from nI_lt (a := 0) (by omega) (by omega)), nI_pred, nI_clamp (by omega), show I 7 K.length = nI v by rw [h2 K.length (by omega), gI_end], show nI v * (10 : Int32) + nI (U p - 48) = nI (10 * v + (U p - 48)) by rw [show (10 : Int32) = nI 10 from rfl, nI_mul, nI_add, Nat.mul_comm]]
  refine ⟨vp0 (by omega) (by decide), vp0 (by omega) (by decide), fun I5 e5 => ?_⟩
  intro y hy
  rw [hy, nI_1]
  refine hk I5 (by rw [e5]; exact eqx.rf.up (by decide) _ _) ⟨?_, fun i hi => ?_, ?_, fun i hi => ?_, ?_⟩
  · rw [e5, sw_up_cell _ _ _ _ (by decide), hl2, ← hl]; exact h1
  · rw [hl2] at hi
    rw [e5]
    by_cases c : i = K.length
    · rw [c, sw_up_same, gI_end]
    · rw [sw_up_slot _ _ _ _ c, gI_app (by omega), h2 i (by omega), gI_app (by omega)]
  · rw [e5, sw_up_cell _ _ _ _ (by decide)]; exact h3
  · rw [e5, sw_up_cell _ _ _ _ (by decide)]; exact h4 i hi
  · rw [e5, sw_up_cell _ _ _ _ (by decide)]; exact h5
theorem tk_nam {p F : Nat} {wt : Int32} (ht : t ≤ 40) (hU : txU T U t) (hp : p < t) (hn : nmN (U p) = true) {K : List Int32} {W : List Nat} {a : Bool} (hK : K.length < 40) {I : sw_I} {J : sw_J} {Q : sw_I → sw_J → Prop} (hs : I 1 1 = nI t) (hT : I 2 = T) (h : syS I K W a) (hk : ∀ I2, eqx tkC I I2 → syS I2 (K ++ [cdO (U p)]) W (a || decide (U p = 114)) → wl_X2_take_19 Q F 0 (nI (p + 1)) I2 J) : wl_X2_take_19 Q (F + 1) wt (nI p) I J := by
  have hu := hU p hp
  have hn2 := of_decide_eq_true hn
  have hd : dgN (U p) = false := decide_eq_false (by omega)
  show wb_X2_take_19 _ Q _ _ I J
  unfold wb_X2_take_19
  rw [show I 1 1 = nI t from hs, sw_if_t (nI_lt hp (by omega))]
  refine s_X8_at (by omega) hs hT (by omega) ?_
  rw [if_pos hp, hu.1]
  refine s_lDigit hu.2 ?_
  rw [hd, sw_if_t (by rfl)]
  refine s_lName hu.2 ?_
  rw [hn, sw_if_f (by decide)]
  refine s_put (x := cdO (U p)) hK h (fun I2 x2 s2 => ?_)
  have fin : ∀ s2' : Int32, s2' = bI (decide (U p = 114)) → wB_X2_take_97 (wl_X2_take_19 Q F) Q (nI p) (I2 6 5) s2' I2 J := by
    intro s2' es
    unfold wB_X2_take_97
    have eo : I2 6 5 ||| s2' = bI (a || decide (U p = 114)) := by
      rw [show I2 6 5 = bI a from s2.2.2.2.2, es]
      cases a <;> cases decide (U p = 114) <;> decide
    rw [eo]
    refine ⟨by cases (a || decide (U p = 114)); exact Or.inl rfl; exact Or.inr rfl, fun I3 e3 => ?_⟩
    intro y hy
    rw [hy, nI_1]
    obtain ⟨z1, z2, z3, z4, z5⟩ := s2
    refine hk I3 (x2.tr (by rw [e3]; exact eqx.rf.up (by decide) _ _)) ⟨?_, fun i hi => ?_, ?_, fun i hi => ?_, ?_⟩
    · rw [e3, sw_up_slot _ _ _ _ (by decide)]; exact z1
    · rw [e3, sw_up_cell _ _ _ _ (by decide)]; exact z2 i hi
    · rw [e3, sw_up_slot _ _ _ _ (by decide)]; exact z3
    · rw [e3, sw_up_cell _ _ _ _ (by decide)]; exact z4 i hi
    · rw [e3]; exact sw_up_same _ _ _ _
  exact ifc 114 hu.2 (by omega) (fun e => fin 1 (by rw [decide_eq_true e]; rfl)) (fun e => fin 0 (by rw [decide_eq_false e]; rfl))
theorem tk_opn {p F : Nat} {wt : Int32} (ht : t ≤ 40) (hU : txU T U t) (hp : p < t) (hn : U p = 40) {K : List Int32} {W : List Nat} {a : Bool} (hW : W.length < 40) {I : sw_I} {J : sw_J} {Q : sw_I → sw_J → Prop} (hs : I 1 1 = nI t) (hT : I 2 = T) (h : syS I K W a) (hk : ∀ I2, eqx tkC I I2 → syS I2 K (W ++ [40]) a → wl_X2_take_19 Q F wt (nI (p + 1)) I2 J) : wl_X2_take_19 Q (F + 1) wt (nI p) I J := by
  have hu := hU p hp
  show wb_X2_take_19 _ Q _ _ I J
  unfold wb_X2_take_19
  rw [show I 1 1 = nI t from hs, sw_if_t (nI_lt hp (by omega))]
  refine s_X8_at (by omega) hs hT (by omega) ?_
  rw [if_pos hp, hu.1, hn]
  refine s_lDigit (by omega) ?_
  rw [sw_if_t (by rfl)]
  refine s_lName (by omega) ?_
  rw [sw_if_t (by rfl), sw_if_t (by rfl)]
  refine s_await (x := 40) hW h (fun I2 x2 s2 => ?_)
  intro y hy
  rw [hy, nI_1]; exact hk I2 x2 s2
theorem tk_neg {p F : Nat} (ht : t ≤ 40) (hU : txU T U t) (hp : p < t) (hn : U p = 45) {K : List Int32} {W : List Nat} {a : Bool} (hW : W.length < 40) {I : sw_I} {J : sw_J} {Q : sw_I → sw_J → Prop} (hs : I 1 1 = nI t) (hT : I 2 = T) (h : syS I K W a) (hk : ∀ I2, eqx tkC I I2 → syS I2 K (W ++ [126]) a → wl_X2_take_19 Q F 1 (nI (p + 1)) I2 J) : wl_X2_take_19 Q (F + 1) 1 (nI p) I J := by
  have hu := hU p hp
  show wb_X2_take_19 _ Q _ _ I J
  unfold wb_X2_take_19
  rw [show I 1 1 = nI t from hs, sw_if_t (nI_lt hp (by omega))]
  refine s_X8_at (by omega) hs hT (by omega) ?_
  rw [if_pos hp, hu.1, hn]
  refine s_lDigit (by omega) ?_
  rw [sw_if_t (by rfl)]
  refine s_lName (by omega) ?_
  rw [sw_if_t (by rfl), sw_if_f (by decide), sw_if_f (by decide), sw_if_f (by decide)]
  refine s_await (x := 126) hW h (fun I2 x2 s2 => ?_)
  intro y hy
  rw [hy, nI_1]; exact hk I2 x2 s2
theorem tk_cls {p F : Nat} (ht : t ≤ 40) (hU : txU T U t) (hp : p < t) (hn : U p = 41) {K : List Int32} {S P : List Nat} {a : Bool} (hS6 : ∀ x, x ∈ S → x < 256) (hP : ∀ x, x ∈ P → 1 ≤ sgN x ∧ x < 256) (hl : K.length + (S ++ [40] ++ P).length ≤ 40) {I : sw_I} {J : sw_J} {Q : sw_I → sw_J → Prop} (hs : I 1 1 = nI t) (hT : I 2 = T) (h : syS I K (S ++ [40] ++ P) a) (hk : ∀ I2, eqx tkC I I2 → syS I2 (K ++ rvC P) S a → wl_X2_take_19 Q F 0 (nI (p + 1)) I2 J) : wl_X2_take_19 Q (F + 1) 0 (nI p) I J := by
  have hu := hU p hp
  show wb_X2_take_19 _ Q _ _ I J
  unfold wb_X2_take_19
  rw [show I 1 1 = nI t from hs, sw_if_t (nI_lt hp (by omega))]
  refine s_X8_at (by omega) hs hT (by omega) ?_
  rw [if_pos hp, hu.1, hn]
  refine s_lDigit (by omega) ?_
  rw [sw_if_t (by rfl)]
  refine s_lName (by omega) ?_
  rw [sw_if_t (by rfl), sw_if_f (by decide), sw_if_t (by rfl)]
  refine ⟨P.length + 1, s_release (S := S ++ [40]) (s := 1) (by omega) (fun S2 q e => ?_) (fun x hx => ?_) P.length K P I rfl hP hl h (fun I2 x2 s2 => ?_)⟩
  · have := (List.append_inj' e rfl).2
    injection this with this
    rw [← this]; decide
  · rcases List.mem_append.mp hx with q | q
    · exact hS6 x q
    · simp at q; omega
  · intro I3 e3
    have hw : I2 6 4 = nI (S.length + 1) := by
      have := s2.2.2.1
      rw [List.length_append] at this; exact this
    rw [hw, nI_pred, if_neg (nI_pos (by simp only [List.length_append] at hl; omega))] at e3
    intro y hy
    rw [hy, nI_1]
    exact hk I3 (x2.tr (by rw [e3]; exact eqx.rf.up (by decide) _ _)) (syS_drop s2 e3)
theorem tk_op {p F : Nat} (ht : t ≤ 40) (hU : txU T U t) (hp : p < t) (hn : arN (U p) = true ∨ cpN (U p) = true) {K : List Int32} {S P : List Nat} {a : Bool} (hS : topL S (sgN (U p))) (hS6 : ∀ x, x ∈ S → x < 256) (hP : ∀ x, x ∈ P → sgN (U p) ≤ sgN x ∧ x < 256) (hl : K.length + (S ++ P).length < 40) {I : sw_I} {J : sw_J} {Q : sw_I → sw_J → Prop} (hs : I 1 1 = nI t) (hT : I 2 = T) (h : syS I K (S ++ P) a) (hk : ∀ I2, eqx tkC I I2 → syS I2 (K ++ rvC P) (S ++ [U p]) a → wl_X2_take_19 Q F 1 (nI (p + 1)) I2 J) : wl_X2_take_19 Q (F + 1) 0 (nI p) I J := by
  have hu := hU p hp
  have hc : (U p = 43 ∨ U p = 45 ∨ U p = 42 ∨ U p = 47) ∨ (U p = 60 ∨ U p = 62 ∨ U p = 61) := by
    rcases hn with q | q
    · exact Or.inl (of_decide_eq_true q)
    · exact Or.inr (of_decide_eq_true q)
  have hd : dgN (U p) = false := decide_eq_false (by omega)
  have hm : nmN (U p) = false := decide_eq_false (by omega)
  have hg : sgN (U p) ≤ 4 := by unfold sgN; repeat' split
                                all_goals omega
  show wb_X2_take_19 _ Q _ _ I J
  unfold wb_X2_take_19
  rw [show I 1 1 = nI t from hs, sw_if_t (nI_lt hp (by omega))]
  refine s_X8_at (by omega) hs hT (by omega) ?_
  rw [if_pos hp, hu.1]
  refine s_lDigit hu.2 ?_
  rw [hd, sw_if_t (by rfl)]
  refine s_lName hu.2 ?_
  rw [hm, sw_if_t (by rfl)]
  refine ifc 40 hu.2 (by omega) (fun e => by omega) (fun _ => ifc 41 hu.2 (by omega) (fun e => by omega) (fun _ => ?_))
  rw [sw_if_t rfl]
  refine s_lStr hu.2 ?_
  refine ⟨P.length + 1, s_release (S := S) (s := sgN (U p)) hg hS hS6 P.length K P I rfl hP (by omega) h (fun I2 x2 s2 => ?_)⟩
  refine s_await (x := U p) (by simp only [List.length_append] at hl; omega) s2 (fun I3 x3 s3 => ?_)
  intro y hy
  rw [hy, nI_1]; exact hk I3 (x2.tr x3) s3
end LT
/-! the reference's codes -/
def rfS (I : sw_I) (K : List Int32) : Prop := I 140 24 = nI K.length ∧ ∀ i, i < K.length → I 151 i = encF (K.getD i 0)
abbrev rlF : List Nat := [13, 15, 24]
theorem s_codes {K : List Int32} {c v : Int32} (hK : K.length < 80) (hv : v = encF c) {I : sw_I} {J : sw_J} {Q : sw_I → sw_J → Prop} (h : rfS I K) (hq : ∀ I2, eqm [151] [24] I I2 → rfS I2 (K ++ [c]) → Q I2 J) : wp_X10_codes v I J Q := by
  obtain ⟨h1, h2⟩ := h
  unfold wp_X10_codes
  rw [show I 140 24 = nI K.length from h1, nI_clamp (by omega)]
  refine ⟨vp0 hK (by decide), fun I2 e2 I4 e4 => ?_⟩
  rw [show I2 140 24 = nI K.length by rw [e2, sw_up_cell _ _ _ _ (by decide)]; exact h1, nI_1] at e4
  refine hq I4 (by rw [e4, e2]; exact (eqm.rf.upC (by decide) (by decide) _ _).upF (by decide) _) ⟨?_, fun i hi => ?_⟩
  · rw [e4, List.length_append]; exact sw_up_same _ _ _ _
  · rw [List.length_append] at hi
    rw [e4, sw_up_cell _ _ _ _ (by decide), e2]
    by_cases ci : i = K.length
    · rw [ci, sw_up_same, gI_end, hv]
    · have hi2 : i < K.length := by simp at hi; omega
      rw [sw_up_slot _ _ _ _ ci, gI_app hi2]; exact h2 i hi2
/-- a code more, whatever stands there -/
theorem s_codesN {k : Nat} {v : Int32} (hk : k < 80) {I : sw_I} {J : sw_J} {Q : sw_I → sw_J → Prop} (h : I 140 24 = nI k) (hq : ∀ I2, eqm [151] [24] I I2 → I2 140 24 = nI (k + 1) → Q I2 J) : wp_X10_codes v I J Q := by
  unfold wp_X10_codes
  rw [show I 140 24 = nI k from h, nI_clamp (by omega)]
  refine ⟨vp0 hk (by decide), fun I2 e2 I4 e4 => ?_⟩
  rw [show I2 140 24 = nI k by rw [e2, sw_up_cell _ _ _ _ (by decide)]; exact h, nI_1] at e4
  exact hq I4 (by rw [e4, e2]; exact (eqm.rf.upC (by decide) (by decide) _ _).upF (by decide) _) (by rw [e4]; exact sw_up_same _ _ _ _)
theorem rfS_of {I I2 : sw_I} {K : List Int32} {C F : List Nat} (h : rfS I K) (e : eqm C F I I2) (hc : 151 ∉ C) (hf : 24 ∉ F) : rfS I2 K := by
  unfold rfS
  rw [e.1 _ hc (by decide), e.2 _ hf]; exact h
