/-! law: what is made of others -/
section LH
variable {T : Nat → Int32} {U : Nat → Nat} {t to : Nat} {C1 : sw_I → sw_J → (Int32 → sw_I → sw_J → Prop) → Prop} {C2 : Int32 → sw_I → sw_J → (Int32 → sw_I → sw_J → Prop) → Prop}
theorem hasR_neg : hasR [-126] = false := by decide
theorem pk_neg {o p : Nat} (hto : to ≤ 40) (hle : to ≤ t) (ht : t ≤ 80) (hU : txU T U t) (ho : o ≤ 4) (hp : p < to) (hn : U p = 45) (ih : PK T U t to 3 o (p + 1) C1) : PK T U t to 3 o p (wpb_X10_readsThing C1 C2) := by
  have hu := hU p (by omega)
  obtain ⟨ok, q, C, b1, b2, b3, b4, b5⟩ := ih
  refine ⟨ok, q, C ++ [-126], by omega, b2, fun hok => ?_, ?_, ?_⟩
  · obtain ⟨c1, c2, c3, c4⟩ := b3 hok
    refine ⟨by rw [List.length_append]; show p + (C.length + 1) ≤ q; omega, by omega, gd_neg c3, fun htt => ?_⟩
    intro I J Q K S a hs hT h hl h6 _ hk
    rw [show t - p + 1 = (t - (p + 1) + 1) + 1 by omega]
    refine tk_neg (by omega) hU (by omega) hn (by omega) hs hT h (fun I2 x2 s2 => ?_)
    obtain ⟨hs2, hT2⟩ := txt_of x2 hs hT
    refine c4 htt I2 J Q K (S ++ [126]) a hs2 hT2 s2 (by rw [List.length_append]; show K.length + (S.length + 1) ≤ p + 1; omega) (fun x hx => ?_) (fun q => by omega) (fun I3 K1 P x3 e3 p3 l3 s3 => hk I3 K1 ([126] ++ P) (x2.tr x3) ?_ (fun x hx => ?_) ?_ ?_)
    · rcases List.mem_append.mp hx with z | z
      · exact h6 x z
      · simp at z; omega
    · rw [rvC_app, ← List.append_assoc, e3, List.append_assoc]; rfl
    · rcases List.mem_append.mp hx with z | z
      · have e : x = 126 := by simpa using z
        rw [e]; exact ⟨by decide, by omega⟩
      · exact p3 x z
    · rw [← List.append_assoc]; exact l3
    · rw [hasR_app, hasR_neg, Bool.or_false, ← List.append_assoc]; exact s3
  · intro I J Q c hs hT _ h0 h1
    rw [show to - p + 1 = (to - (p + 1) + 1) + 1 by omega]
    have n1 : dgN (U p) = false := by rw [hn]; rfl
    have n2 : nmN (U p) = false := by rw [hn]; rfl
    exact flw_w ht hto hle hU hp ho hs hT (fun q => by omega) (fun q => by rw [n1] at q; cases q) (fun q => by rw [n2] at q; cases q) (fun _ => b4 I J Q c hs hT (fun q => by cases q) h0 h1) (fun _ _ _ q => absurd hn q)
  · intro I J Q K hs hnn hr hK h
    unfold wpb_X10_readsThing
    refine s_takes hs (fun hno => absurd ⟨hp, by rw [hu.1, hn]; rfl⟩ hno) (fun _ _ I2 q2 s2 => ?_)
    rw [sw_if_f (by decide)]
    refine b5 I2 J _ K s2 (by rw [q2.2 _ (by decide)]; exact hnn) (rfS_of hr q2 (by decide) (by decide)) (by omega) (fun I3 k e3 s3 r3 l3 o3 => ?_)
    have eI : eqm [151] rlF I I3 := (q2.mono (by decide) (by decide)).tr e3
    cases hok : ok
    · refine s_codesN (k := k) (by have := s3.2.2.1; omega) r3 (fun I4 q4 r4 => ⟨Or.inl rfl, ?_⟩)
      have := h I4 (k + 1) (eI.tr (q4.mono (by decide) (by decide))) (tpS_of s3 q4 (by decide) (by decide) (by rw [q4.2 _ (by decide)]; exact s3.1) b2) r4 (by omega) (fun z => by rw [hok] at z; cases z)
      rw [hok] at this; exact this
    · obtain ⟨c1, c2, c3, c4⟩ := b3 hok
      obtain ⟨o4, o5⟩ := o3 hok
      refine s_codes (c := -126) (K := K ++ C) (by rw [List.length_append]; omega) (by decide) o5 (fun I4 q4 r4 => ⟨Or.inr rfl, ?_⟩)
      rw [List.append_assoc] at r4
      have := h I4 (K.length + (C.length + 1)) (eI.tr (q4.mono (by decide) (by decide))) (tpS_of s3 q4 (by decide) (by decide) (by rw [q4.2 _ (by decide)]; exact s3.1) b2) (by have z := r4.1; rw [List.length_append, List.length_append] at z; exact z) (by omega) (fun _ => ⟨by rw [q4.2 _ (by decide)]; exact o4, r4⟩)
      rw [hok] at this; exact this
theorem pk_par {o p : Nat} (hto : to ≤ 40) (htm : to = min t 40) (ht : t ≤ 80) (hU : txU T U t) (ho : o < 4) (hp : p < to) (hn : U p = 40) (ih : PK T U t to 0 (o + 1) (p + 1) (C2 0)) : PK T U t to 3 o p (wpb_X10_readsThing C1 C2) := by
  have hle : to ≤ t := by omega
  have hu := hU p (by omega)
  obtain ⟨ok, q, C, b1, b2, b3, b4, b5⟩ := ih
  -- the flaw up to the end of what is within
  have fl : ∀ (I : sw_I) (J : sw_J) (Q : Int32 → sw_I → sw_J → Prop) (c : Int32), I 1 1 = nI t → I 2 = T → (ok = false → Q (nI q) I J) → (ok = true → ∀ c2 g, g ≤ 3 → edF U to 0 (o + 1) q c2 g → (∀ i, i < o + 1 → inB c2 i = inB c i) → wl_X2_flawOf_33 Q (to - q + 1) (nI to) 0 (nI (o + 1)) c2 (nI g) (nI q) I J) → wl_X2_flawOf_33 Q (to - p + 1) (nI to) 1 (nI o) c 0 (nI p) I J := by
    intro I J Q c hs hT h0 h1
    rw [show to - p + 1 = (to - (p + 1) + 1) + 1 by omega]
    have n1 : dgN (U p) = false := by rw [hn]; rfl
    have n2 : nmN (U p) = false := by rw [hn]; rfl
    have bc : ∀ i, i < 32 → inB (c &&& (((1 : Int32) <<< (nI (o + 1) &&& 31)) ^^^ (-1))) i = (inB c i && !decide (i = o + 1)) := fun i hi => by rw [inB_and _ _ hi, inB_not _ hi, inB_one (o + 1) (by omega) i hi]
    refine flw_w ht hto hle hU hp (by omega) hs hT (fun _ _ => b4 I J Q _ hs hT (fun _ => ?_) h0 (fun hok c2 g hg hed hb _ => h1 hok c2 g hg hed (fun i hi => ?_))) (fun q => by rw [n1] at q; cases q) (fun q => by rw [n2] at q; cases q) (fun q => by omega) (fun z => absurd ⟨hn, ho⟩ z)
    · rw [bc (o + 1) (by omega), decide_eq_true rfl]; simp
    · rw [hb i hi, bc i (by omega), decide_eq_false (by omega)]; simp
  -- the reference up to there
  have rf : ∀ (I : sw_I) (J : sw_J) (Q : Int32 → sw_I → sw_J → Prop) (K : List Int32), tpS I T p to → I 140 15 = nI o → rfS I K → K.length ≤ p → (∀ I2 k, eqm [151] rlF I I2 → tpS I2 T q to → I2 140 24 = nI k → k + p ≤ q + K.length → (ok = true → I2 140 15 = nI (o + 1) ∧ rfS I2 (K ++ C)) → sw_if (bI ok = 0) (Q 0 I2 J) (wp_X10_takes 41 I2 J (fun r_24 I_25 J_26 => sw_if (r_24 = 0) (Q 0 I_25 J_26) (∀ I_28 : sw_I, I_28 = sw_up I_25 140 15 ((I_25 140 15) - (1 : Int32)) → Q 1 I_28 J_26)))) → wpb_X10_readsThing C1 C2 I J Q := by
    intro I J Q K hs hnn hr hK h
    unfold wpb_X10_readsThing
    refine s_takes hs (fun _ I2 q2 s2 => ?_) (fun cp ec => ?_)
    · rw [sw_if_t rfl]
      refine s_isDigit s2 (fun _ => ?_) (fun d1 d2 d3 => ?_)
      · rw [sw_if_t rfl]
        refine s_among (i := 0) (len := 7) rfl (by decide) s2 (fun _ => ?_) (fun k hk cp ec _ => ?_)
        · rw [sw_if_t (by decide), show I2 140 15 = nI o by rw [q2.2 _ (by decide)]; exact hnn, sw_if_f (show ¬ nI o = (4 : Int32) from fun z => by have := (nI_eq (b := 4) (by omega) (by omega)).mp z; omega)]
          refine s_takes s2 (fun hno => absurd ⟨hp, by rw [hu.1, hn]; rfl⟩ hno) (fun _ _ I3 q3 s3 => ?_)
          rw [sw_if_f (by decide)]
          intro I4 e4
          rw [show I3 140 15 = nI o by rw [q3.2 _ (by decide), q2.2 _ (by decide)]; exact hnn, nI_1] at e4
          have q4 : eqm [] [15] I3 I4 := by rw [e4]; exact eqm.rf.upF (by decide) _
          have q14 : eqm [] [13, 15] I I4 := ((q2.mono (by decide) (by decide)).tr (q3.mono (by decide) (by decide))).tr (q4.mono (by decide) (by decide))
          refine b5 I4 J _ K (tpS_of s3 q4 (by decide) (by decide) (by rw [q4.2 _ (by decide)]; exact s3.1) (by omega)) (by rw [e4]; exact sw_up_same _ _ _ _) (rfS_of hr q14 (by decide) (by decide)) (by omega) (fun I5 k e5 s5 r5 l5 o5 => ?_)
          exact h I5 k ((q14.mono (by decide) (by decide)).tr e5) s5 r5 (by omega) o5
        · exfalso
          obtain ⟨c, c1, c2, c3, -⟩ := ch0 k hk
          rw [hu.1, c2] at ec
          have := (nI_eq (by omega) (by omega)).mp ec
          rw [← this, hn] at c3; exact absurd c3 (by decide)
      · exfalso
        rw [hu.1, hn] at d2; exact d2 (by decide)
    · exfalso
      rw [hu.1] at ec
      have := (nI_eq (b := 45) (by omega) (by omega)).mp ec; omega
  by_cases cl : ok = true ∧ q < to ∧ U q = 41
  · obtain ⟨hok, hq, h41⟩ := cl
    have huq := hU q (by omega)
    obtain ⟨c1, c2, c3, c4⟩ := b3 hok
    refine ⟨true, q + 1, C, by omega, by omega, fun _ => ⟨by omega, by omega, c3, fun htt => ?_⟩, ?_, ?_⟩
    · intro I J Q K S a hs hT h hl h6 _ hk
      rw [show t - p + 1 = (t - (p + 1) + 1) + 1 by omega]
      refine tk_opn (by omega) hU (by omega) hn (by omega) hs hT h (fun I2 x2 s2 => ?_)
      obtain ⟨hs2, hT2⟩ := txt_of x2 hs hT
      refine c4 htt I2 J Q K (S ++ [40]) a hs2 hT2 s2 (by rw [List.length_append]; show K.length + (S.length + 1) ≤ p + 1; omega) (fun x hx => ?_) (fun _ S2 z e => ?_) (fun I3 K1 P x3 e3 p3 l3 s3 => ?_)
      · rcases List.mem_append.mp hx with z | z
        · exact h6 x z
        · simp at z; omega
      · have := (List.append_inj' e rfl).2
        injection this with this
        rw [← this]; decide
      · obtain ⟨hs3, hT3⟩ := txt_of x3 hs2 hT2
        rw [show t - q + 1 = (t - (q + 1) + 1) + 1 by omega]
        refine tk_cls (by omega) hU (by omega) h41 h6 (fun x hx => ⟨by have := (p3 x hx).1; omega, (p3 x hx).2⟩) (by omega) hs3 hT3 s3 (fun I4 x4 s4 => hk I4 (K1 ++ rvC P) [] ((x2.tr x3).tr x4) ?_ (fun x hx => absurd hx (by simp)) ?_ ?_)
        · show K1 ++ rvC P ++ [] = _; rw [List.append_nil]; exact e3
        · simp only [List.length_append, rvC_len, List.length_cons, List.length_nil] at l3 ⊢; omega
        · rw [List.append_nil]; exact s4
    · intro I J Q c hs hT _ _ h1
      refine fl I J Q c hs hT (fun z => by rw [hok] at z; cases z) (fun _ c2 g hg hed hb => ?_)
      rw [show to - q + 1 = (to - (q + 1) + 1) + 1 by omega]
      have n1 : arN (U q) = false := by rw [h41]; rfl
      have n2 : cpN (U q) = false := by rw [h41]; rfl
      have n3 : dgN (U q) = false := by rw [h41]; rfl
      refine flw_n ht hto hle hU hq (by omega) hg hs hT (fun z => by rw [n1] at z; cases z) (fun z => by rw [n2] at z; cases z) (fun z => by rw [n2] at z; cases z) (fun _ _ => ?_) (fun z => by rw [n3] at z; cases z) (fun z => by rw [n3] at z; cases z) (fun _ _ z => absurd ⟨h41, by omega⟩ z)
      rw [Nat.add_sub_cancel]
      exact h1 rfl c2 0 (by omega) (fun _ => ⟨fun _ => Or.inl rfl, fun q => by omega, fun q => by omega, fun q => by omega⟩) (fun i hi => hb i (by omega)) (fun _ => hb o (by omega))
    · intro I J Q K hs hnn hr hK h
      refine rf I J Q K hs hnn hr hK (fun I2 k e2 s2 r2 l2 o2 => ?_)
      rw [hok, sw_if_f (by decide)]
      obtain ⟨o3, o4⟩ := o2 hok
      refine s_takes s2 (fun hno => absurd ⟨hq, by rw [huq.1, h41]; rfl⟩ hno) (fun _ _ I3 q3 s3 => ?_)
      rw [sw_if_f (by decide)]
      intro I4 e4
      rw [show I3 140 15 = nI (o + 1) by rw [q3.2 _ (by decide)]; exact o3, nI_pred] at e4
      have q4 : eqm [] [15] I3 I4 := by rw [e4]; exact eqm.rf.upF (by decide) _
      refine h I4 k ((e2.tr (q3.mono (by decide) (by decide))).tr (q4.mono (by decide) (by decide))) (tpS_of s3 q4 (by decide) (by decide) (by rw [q4.2 _ (by decide)]; exact s3.1) (by omega)) (by rw [q4.2 _ (by decide), q3.2 _ (by decide)]; exact r2) (by omega) (fun _ => ⟨by rw [e4]; exact sw_up_same _ _ _ _, rfS_of (rfS_of o4 q3 (by decide) (by decide)) q4 (by decide) (by decide)⟩)
  · refine ⟨false, q, [], by omega, b2, (fun z => by cases z), ?_, ?_⟩
    · intro I J Q c hs hT _ h0 _
      refine fl I J Q c hs hT (fun _ => h0 rfl) (fun hok c2 g hg hed hb => ?_)
      by_cases hq : q < to
      · have n41 : ¬ U q = 41 := fun z => cl ⟨hok, hq, z⟩
        obtain ⟨d1, d2, d3, d4⟩ := hed hq
        have n1 : arN (U q) = false := decide_eq_false (by have := d2 (by omega); have := d3 (by omega); omega)
        rw [show to - q + 1 = (to - (q + 1) + 1) + 1 by omega]
        exact flw_n ht hto hle hU hq (by omega) hg hs hT (fun z => by rw [n1] at z; cases z) (fun z w => by rw [d4 rfl z] at w; cases w) (fun _ _ => h0 rfl) (fun z => absurd z n41) (fun z w => by have := d1 z; omega) (fun _ _ => h0 rfl) (fun _ _ _ _ => h0 rfl)
      · have e : q = to := by omega
        rw [e] at h0 ⊢
        exact flw_e (wt := false) ht htm (by omega) hs (fun _ => h0 rfl) (fun _ z => by omega)
    · intro I J Q K hs hnn hr hK h
      refine rf I J Q K hs hnn hr hK (fun I2 k e2 s2 r2 l2 o2 => ?_)
      cases hok : ok
      · rw [sw_if_t (by rfl)]
        exact h I2 k e2 s2 r2 l2 (fun z => by cases z)
      · rw [sw_if_f (by decide)]
        refine s_takes s2 (fun _ I3 q3 s3 => ?_) (fun cq ec => ?_)
        · rw [sw_if_t rfl]
          exact h I3 k (e2.tr (q3.mono (by decide) (by decide))) s3 (by rw [q3.2 _ (by decide)]; exact r2) l2 (fun z => by cases z)
        · exfalso
          have huq := hU q (by omega)
          rw [huq.1] at ec
          exact cl ⟨hok, cq, (nI_eq (b := 41) (by omega) (by omega)).mp ec⟩
/-! ranks -/
def opR (r c : Nat) : Bool := if r = 0 then cpN c else if r = 1 then decide (c = 43 ∨ c = 45) else decide (c = 42 ∨ c = 47)
theorem opR_f {r c : Nat} (hr : r ≤ 2) (h : opR r c = true) : (arN c = true ∨ cpN c = true) ∧ sgN c = r + 1 ∧ (0 < r → arN c = true) ∧ (r = 0 → cpN c = true ∧ arN c = false) := by
  rcases (by omega : r = 0 ∨ r = 1 ∨ r = 2) with e | e | e
  · rw [e] at h ⊢
    have h' : cpN c = true := h
    have h2 := of_decide_eq_true h'
    refine ⟨Or.inr h', ?_, fun q => by omega, fun _ => ⟨h', decide_eq_false (by omega)⟩⟩
    rcases h2 with z | z | z <;> rw [z] <;> rfl
  · rw [e] at h ⊢
    have h2 : c = 43 ∨ c = 45 := of_decide_eq_true h
    have ha : arN c = true := decide_eq_true (by omega)
    refine ⟨Or.inl ha, ?_, fun _ => ha, fun q => by omega⟩
    rcases h2 with z | z <;> rw [z] <;> rfl
  · rw [e] at h ⊢
    have h2 : c = 42 ∨ c = 47 := of_decide_eq_true h
    have ha : arN c = true := decide_eq_true (by omega)
    refine ⟨Or.inl ha, ?_, fun _ => ha, fun q => by omega⟩
    rcases h2 with z | z <;> rw [z] <;> rfl
theorem rk_step {r o q : Nat} (hr : r ≤ 2) (hto : to ≤ 40) (hle : to ≤ t) (hU : txU T U t) {K24 : Int32 → Int32 → sw_I → sw_J → Prop} {I : sw_I} {J : sw_J} {Q : Int32 → sw_I → sw_J → Prop} (hs : tpS I T q to) (h0 : (q < to → opR r (U q) = false) → Q 1 I J)
    (h1 : q < to → opR r (U q) = true → ∀ I2, eqm [] [13] I I2 → tpS I2 T (q + 1) to → C2 (nI (r + 1)) I2 J (fun r34 I35 J36 => sw_if (r34 = 0) (Q 0 I35 J36) (wp_X10_codes (encF (cdO (U q))) I35 J36 (fun I5 J5 => K24 (nI r) (bI (decide (0 < r))) I5 J5)))) : wb_X10_readsRank_24 C1 C2 K24 Q (nI r) 1 I J := by
  have adv : ∀ I2, I2 = sw_up I 140 13 (I 140 13 + 1) → q < to → eqm [] [13] I I2 ∧ tpS I2 T (q + 1) to := fun I2 e2 hq => by
    rw [hs.1, nI_1] at e2
    have q2 : eqm [] [13] I I2 := by rw [e2]; exact eqm.rf.upF (by decide) _
    exact ⟨q2, tpS_of hs q2 (by decide) (by decide) (by rw [e2]; exact sw_up_same _ _ _ _) (by omega)⟩
  unfold wb_X10_readsRank_24
  rw [sw_if_f (by decide)]
  rcases (by omega : r = 0 ∨ r = 1 ∨ r = 2) with e | e | e
  · subst e
    rw [sw_if_t (by rfl)]
    refine s_among (i := 1) (len := 3) rfl (by decide) hs (fun hno => ?_) (fun k hk cp ec _ => ?_)
    · rw [sw_if_t (by decide)]
      refine h0 (fun hq => ?_)
      have hu := hU q (by omega)
      have a0 := hno hq 0 (by omega); have a1 := hno hq 1 (by omega); have a2 := hno hq 2 (by omega)
      rw [hu.1] at a0 a1 a2
      refine decide_eq_false (fun z => ?_)
      rcases z with z | z | z
      · exact a0 (by rw [z]; decide)
      · exact a1 (by rw [z]; decide)
      · exact a2 (by rw [z]; decide)
    · have hu := hU q (by omega)
      rw [hu.1] at ec
      rw [sw_if_f (nI_pos (by omega))]
      intro I2 e2
      obtain ⟨q2, s2⟩ := adv I2 e2 cp
      have key : ∀ c : Nat, c < 256 → nI (U q) = nI c → cpN c = true → (2000 : Int32) + nI k + 0 = encF (cdO c) → C2 (nI 0 + 1) I2 J (fun r_34 I_35 J_36 => sw_if (r_34 = 0) (Q 0 I_35 J_36) (sw_if (nI 0 = 0) (wB_X10_readsRank_106 C1 C2 K24 Q (nI 0) ((2000 : Int32) + nI k) 0 I_35 J_36) (sw_if (nI 0 = (1 : Int32)) (wB_X10_readsRank_106 C1 C2 K24 Q (nI 0) ((2000 : Int32) + nI k) 3 I_35 J_36) (wB_X10_readsRank_106 C1 C2 K24 Q (nI 0) ((2000 : Int32) + nI k) 5 I_35 J_36)))) := by
        intro c hc e1 hcp he
        have ec2 := (nI_eq (by omega) (by omega)).mp e1
        have := h1 cp (by rw [ec2]; exact hcp) I2 q2 s2
        rw [ec2, ← he] at this
        rw [nI_1]
        have fe : (fun (r34 : Int32) (I35 : sw_I) (J36 : sw_J) => sw_if (r34 = 0) (Q 0 I35 J36) (wp_X10_codes ((2000 : Int32) + nI k + 0) I35 J36 (fun I5 J5 => K24 (nI 0) (bI (decide (0 < 0))) I5 J5))) = (fun r_34 I_35 J_36 => sw_if (r_34 = 0) (Q 0 I_35 J_36) (sw_if (nI 0 = 0) (wB_X10_readsRank_106 C1 C2 K24 Q (nI 0) ((2000 : Int32) + nI k) 0 I_35 J_36) (sw_if (nI 0 = (1 : Int32)) (wB_X10_readsRank_106 C1 C2 K24 Q (nI 0) ((2000 : Int32) + nI k) 3 I_35 J_36) (wB_X10_readsRank_106 C1 C2 K24 Q (nI 0) ((2000 : Int32) + nI k) 5 I_35 J_36)))) := by
          funext a b d
          rw [sw_if_t (show nI 0 = 0 from rfl)]
          unfold wB_X10_readsRank_106 wB_X10_readsRank_119
          have z : ∀ I5 J5, sw_if (0 < nI 0) (K24 (nI 0) 1 I5 J5) (K24 (nI 0) 0 I5 J5) = K24 (nI 0) 0 I5 J5 := fun I5 J5 => sw_if_f (by decide)
          simp only [z]; rfl
        rw [fe] at this; exact this
      rcases (by omega : k = 0 ∨ k = 1 ∨ k = 2) with z | z | z
      · subst z; exact key 60 (by omega) (by rw [ec]; decide) (by decide) (by decide)
      · subst z; exact key 62 (by omega) (by rw [ec]; decide) (by decide) (by decide)
      · subst z; exact key 61 (by omega) (by rw [ec]; decide) (by decide) (by decide)
  · subst e
    rw [sw_if_f (by decide), sw_if_t (by rfl)]
    refine s_among (i := 2) (len := 2) rfl (by decide) hs (fun hno => ?_) (fun k hk cp ec _ => ?_)
    · rw [sw_if_t (by decide)]
      refine h0 (fun hq => ?_)
      have hu := hU q (by omega)
      have a0 := hno hq 0 (by omega); have a1 := hno hq 1 (by omega)
      rw [hu.1] at a0 a1
      refine decide_eq_false (fun z => ?_)
      rcases z with z | z
      · exact a0 (by rw [z]; decide)
      · exact a1 (by rw [z]; decide)
    · have hu := hU q (by omega)
      rw [hu.1] at ec
      rw [sw_if_f (nI_pos (by omega))]
      intro I2 e2
      obtain ⟨q2, s2⟩ := adv I2 e2 cp
      have key : ∀ c : Nat, c < 256 → nI (U q) = nI c → opR 1 c = true → (2000 : Int32) + nI k + 3 = encF (cdO c) → C2 (nI 1 + 1) I2 J (fun r_34 I_35 J_36 => sw_if (r_34 = 0) (Q 0 I_35 J_36) (sw_if (nI 1 = 0) (wB_X10_readsRank_106 C1 C2 K24 Q (nI 1) ((2000 : Int32) + nI k) 0 I_35 J_36) (sw_if (nI 1 = (1 : Int32)) (wB_X10_readsRank_106 C1 C2 K24 Q (nI 1) ((2000 : Int32) + nI k) 3 I_35 J_36) (wB_X10_readsRank_106 C1 C2 K24 Q (nI 1) ((2000 : Int32) + nI k) 5 I_35 J_36)))) := by
        intro c hc e1 hcp he
        have ec2 := (nI_eq (by omega) (by omega)).mp e1
        have := h1 cp (by rw [ec2]; exact hcp) I2 q2 s2
        rw [ec2, ← he] at this
        rw [nI_1]
        have fe : (fun (r34 : Int32) (I35 : sw_I) (J36 : sw_J) => sw_if (r34 = 0) (Q 0 I35 J36) (wp_X10_codes ((2000 : Int32) + nI k + 3) I35 J36 (fun I5 J5 => K24 (nI 1) (bI (decide (0 < 1))) I5 J5))) = (fun r_34 I_35 J_36 => sw_if (r_34 = 0) (Q 0 I_35 J_36) (sw_if (nI 1 = 0) (wB_X10_readsRank_106 C1 C2 K24 Q (nI 1) ((2000 : Int32) + nI k) 0 I_35 J_36) (sw_if (nI 1 = (1 : Int32)) (wB_X10_readsRank_106 C1 C2 K24 Q (nI 1) ((2000 : Int32) + nI k) 3 I_35 J_36) (wB_X10_readsRank_106 C1 C2 K24 Q (nI 1) ((2000 : Int32) + nI k) 5 I_35 J_36)))) := by
          funext a b d
          rw [sw_if_f (show ¬ nI 1 = 0 by decide), sw_if_t (show nI 1 = (1 : Int32) from rfl)]
          unfold wB_X10_readsRank_106 wB_X10_readsRank_119
          have z : ∀ I5 J5, sw_if (0 < nI 1) (K24 (nI 1) 1 I5 J5) (K24 (nI 1) 0 I5 J5) = K24 (nI 1) 1 I5 J5 := fun I5 J5 => sw_if_t (by decide)
          simp only [z]; rfl
        rw [fe] at this; exact this
      rcases (by omega : k = 0 ∨ k = 1) with z | z
      · subst z; exact key 43 (by omega) (by rw [ec]; decide) (by decide) (by decide)
      · subst z; exact key 45 (by omega) (by rw [ec]; decide) (by decide) (by decide)
  · subst e
    rw [sw_if_f (by decide), sw_if_f (by decide)]
    refine s_among (i := 3) (len := 2) rfl (by decide) hs (fun hno => ?_) (fun k hk cp ec _ => ?_)
    · rw [sw_if_t (by decide)]
      refine h0 (fun hq => ?_)
      have hu := hU q (by omega)
      have a0 := hno hq 0 (by omega); have a1 := hno hq 1 (by omega)
      rw [hu.1] at a0 a1
      refine decide_eq_false (fun z => ?_)
      rcases z with z | z
      · exact a0 (by rw [z]; decide)
      · exact a1 (by rw [z]; decide)
    · have hu := hU q (by omega)
      rw [hu.1] at ec
      rw [sw_if_f (nI_pos (by omega))]
      intro I2 e2
      obtain ⟨q2, s2⟩ := adv I2 e2 cp
      have key : ∀ c : Nat, c < 256 → nI (U q) = nI c → opR 2 c = true → (2000 : Int32) + nI k + 5 = encF (cdO c) → C2 (nI 2 + 1) I2 J (fun r_34 I_35 J_36 => sw_if (r_34 = 0) (Q 0 I_35 J_36) (sw_if (nI 2 = 0) (wB_X10_readsRank_106 C1 C2 K24 Q (nI 2) ((2000 : Int32) + nI k) 0 I_35 J_36) (sw_if (nI 2 = (1 : Int32)) (wB_X10_readsRank_106 C1 C2 K24 Q (nI 2) ((2000 : Int32) + nI k) 3 I_35 J_36) (wB_X10_readsRank_106 C1 C2 K24 Q (nI 2) ((2000 : Int32) + nI k) 5 I_35 J_36)))) := by
        intro c hc e1 hcp he
        have ec2 := (nI_eq (by omega) (by omega)).mp e1
        have := h1 cp (by rw [ec2]; exact hcp) I2 q2 s2
        rw [ec2, ← he] at this
        rw [nI_1]
        have fe : (fun (r34 : Int32) (I35 : sw_I) (J36 : sw_J) => sw_if (r34 = 0) (Q 0 I35 J36) (wp_X10_codes ((2000 : Int32) + nI k + 5) I35 J36 (fun I5 J5 => K24 (nI 2) (bI (decide (0 < 2))) I5 J5))) = (fun r_34 I_35 J_36 => sw_if (r_34 = 0) (Q 0 I_35 J_36) (sw_if (nI 2 = 0) (wB_X10_readsRank_106 C1 C2 K24 Q (nI 2) ((2000 : Int32) + nI k) 0 I_35 J_36) (sw_if (nI 2 = (1 : Int32)) (wB_X10_readsRank_106 C1 C2 K24 Q (nI 2) ((2000 : Int32) + nI k) 3 I_35 J_36) (wB_X10_readsRank_106 C1 C2 K24 Q (nI 2) ((2000 : Int32) + nI k) 5 I_35 J_36)))) := by
          funext a b d
          rw [sw_if_f (show ¬ nI 2 = 0 by decide), sw_if_f (show ¬ nI 2 = (1 : Int32) by decide)]
          unfold wB_X10_readsRank_106 wB_X10_readsRank_119
          have z : ∀ I5 J5, sw_if (0 < nI 2) (K24 (nI 2) 1 I5 J5) (K24 (nI 2) 0 I5 J5) = K24 (nI 2) 1 I5 J5 := fun I5 J5 => sw_if_t (by decide)
          simp only [z]; rfl
        rw [fe] at this; exact this
      rcases (by omega : k = 0 ∨ k = 1) with z | z
      · subst z; exact key 42 (by omega) (by rw [ec]; decide) (by decide) (by decide)
      · subst z; exact key 47 (by omega) (by rw [ec]; decide) (by decide) (by decide)
end LH
