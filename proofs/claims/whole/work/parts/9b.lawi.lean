/-! law: the ranks' loops, and all of it -/
def FLl (T : Nat → Int32) (U : Nat → Nat) (t to r o p q : Nat) (ok : Bool) : Prop := ∀ (I : sw_I) (J : sw_J) (Q : Int32 → sw_I → sw_J → Prop) (c : Int32) (g : Nat), I 1 1 = nI t → I 2 = T → g ≤ 3 → edF U to (r + 1) o p c g → (r = 0 → inB c o = false) → (ok = false → Q (nI q) I J) → (ok = true → ∀ c2 g2, g2 ≤ 3 → edF U to r o q c2 g2 → (∀ i, i < o → inB c2 i = inB c i) → (0 < r → inB c2 o = inB c o) → wl_X2_flawOf_33 Q (to - q + 1) (nI to) 0 (nI o) c2 (nI g2) (nI q) I J) → wl_X2_flawOf_33 Q (to - p + 1) (nI to) 0 (nI o) c (nI g) (nI p) I J
def TKl (T : Nat → Int32) (t r p q : Nat) (C : List Int32) : Prop := ∀ (I : sw_I) (J : sw_J) (Q : sw_I → sw_J → Prop) (K1 : List Int32) (S P1 : List Nat) (a : Bool), I 1 1 = nI t → I 2 = T → syS I K1 (S ++ P1) a → K1.length + (S ++ P1).length ≤ p → (∀ x, x ∈ S → x < 256) → topL S (r + 1) → (∀ x, x ∈ P1 → r + 1 ≤ sgN x ∧ x < 256) → (∀ I2 K2 P, eqx tkC I I2 → K2 ++ rvC P = K1 ++ rvC P1 ++ C → (∀ x, x ∈ P → r + 1 ≤ sgN x ∧ x < 256) → K2.length + (S ++ P).length ≤ q → syS I2 K2 (S ++ P) (a || hasR C) → wl_X2_take_19 Q (t - q + 1) 0 (nI q) I2 J) → wl_X2_take_19 Q (t - p + 1) 0 (nI p) I J
def RFl (C1 : sw_I → sw_J → (Int32 → sw_I → sw_J → Prop) → Prop) (C2 : Int32 → sw_I → sw_J → (Int32 → sw_I → sw_J → Prop) → Prop) (T : Nat → Int32) (to r o p q : Nat) (ok : Bool) (C : List Int32) : Prop := ∃ F : Nat, ∀ (I : sw_I) (J : sw_J) (Q : Int32 → sw_I → sw_J → Prop) (K : List Int32), tpS I T p to → I 140 15 = nI o → rfS I K → K.length ≤ p → (∀ I2 k, eqm [151] rlF I I2 → tpS I2 T q to → I2 140 24 = nI k → k + p ≤ q + K.length → (ok = true → I2 140 15 = nI o ∧ rfS I2 (K ++ C)) → Q (bI ok) I2 J) → wl_X10_readsRank_24 C1 C2 Q F (nI r) 1 I J
section LI
variable {T : Nat → Int32} {U : Nat → Nat} {t to : Nat} {C1 : sw_I → sw_J → (Int32 → sw_I → sw_J → Prop) → Prop} {C2 : Int32 → sw_I → sw_J → (Int32 → sw_I → sw_J → Prop) → Prop}
theorem ed_up {r o p g : Nat} {c : Int32} (hr : r ≤ 2) (h : edF U to (r + 1) o p c g) (hno : p < to → opR r (U p) = false) : edF U to r o p c g := by
  intro hp
  obtain ⟨h1, h2, h3, h4⟩ := h hp
  have hn := hno hp
  refine ⟨h1, fun _ => ?_, fun hr1 => ?_, fun hr0 hc => ?_⟩
  · by_cases c2 : r = 2
    · rw [c2] at hn; exact of_decide_eq_false (show decide (U p = 42 ∨ U p = 47) = false from hn)
    · exact h2 (by omega)
  · by_cases c1 : r = 1
    · rw [c1] at hn; exact of_decide_eq_false (show decide (U p = 43 ∨ U p = 45) = false from hn)
    · exact h3 (by omega)
  · rw [hr0] at hn
    have : cpN (U p) = false := hn
    rw [hc] at this; cases this
theorem rk_loop {r o : Nat} (hr : r ≤ 2) (hto : to ≤ 40) (hle : to ≤ t) (ht : t ≤ 80) (hU : txU T U t) (ho : o ≤ 4) {p0 : Nat} (ih : ∀ p, p0 < p → p ≤ to → PK T U t to (r + 1) o p (C2 (nI (r + 1)))) :
    ∀ e p, to - p ≤ e → p0 ≤ p → p ≤ to → ∃ ok q C, p ≤ q ∧ q ≤ to ∧ (ok = true → p + C.length ≤ q ∧ (glC C ∧ vlC C) ∧ (t = to → TKl T t r p q C)) ∧ FLl T U t to r o p q ok ∧ RFl C1 C2 T to r o p q ok C := by
  intro e
  induction e with
  | zero =>
    intro p he h0 hp
    have hpt : p = to := by omega
    have hno : p < to → opR r (U p) = false := fun q => by omega
    refine ⟨true, p, [], Nat.le_refl _, hp, fun _ => ⟨Nat.le_refl _, gl_nil, fun _ => ?_⟩, ?_, ?_⟩
    · intro I J Q K1 S P1 a hs hT h hl h6 ht1 hp1 hk
      exact hk I K1 P1 eqx.rf (by rw [List.append_nil]) hp1 hl (by rw [hasR_nil, Bool.or_false]; exact h)
    · intro I J Q c g hs hT hg hed _ _ h1
      exact h1 rfl c g hg (ed_up hr hed hno) (fun _ _ => rfl) (fun _ => rfl)
    · refine ⟨1, fun I J Q K hs hn hrf hK h => ?_⟩
      refine rk_step (o := o) hr hto hle hU hs (fun _ => ?_) (fun q => by omega)
      exact h I K.length eqm.rf hs hrf.1 (Nat.le_of_eq (Nat.add_comm _ _)) (fun _ => ⟨hn, by rw [List.append_nil]; exact hrf⟩)
  | succ e ihe =>
    intro p he h0 hp
    by_cases cop : p < to ∧ opR r (U p) = true
    · obtain ⟨cp, cop⟩ := cop
      obtain ⟨f1, f2, f3, f4⟩ := opR_f hr cop
      have hu := hU p (by omega)
      obtain ⟨ok1, q1, Co, b1, b2, b3, b4, b5⟩ := ih (p + 1) (by omega) (by omega)
      -- the flaw: the operator, and what stands behind it
      have fl : ∀ (I : sw_I) (J : sw_J) (Q : Int32 → sw_I → sw_J → Prop) (c : Int32) (g : Nat), I 1 1 = nI t → I 2 = T → g ≤ 3 → (r = 0 → inB c o = false) → (ok1 = false → Q (nI q1) I J) → (ok1 = true → ∀ c2 g2, g2 ≤ 3 → edF U to (r + 1) o q1 c2 g2 → (∀ i, i < o → inB c2 i = inB c i) → (0 < r → inB c2 o = inB c o) → (r = 0 → inB c2 o = true) → wl_X2_flawOf_33 Q (to - q1 + 1) (nI to) 0 (nI o) c2 (nI g2) (nI q1) I J) → wl_X2_flawOf_33 Q (to - p + 1) (nI to) 0 (nI o) c (nI g) (nI p) I J := by
        intro I J Q c g hs hT hg hc0 k0 k1
        rw [show to - p + 1 = (to - (p + 1) + 1) + 1 by omega]
        have nd : dgN (U p) = false := by
          have : arN (U p) = true ∨ cpN (U p) = true := f1
          rcases this with z | z
          · have := of_decide_eq_true z; exact decide_eq_false (by omega)
          · have := of_decide_eq_true z; exact decide_eq_false (by omega)
        have n41 : ¬ U p = 41 := fun z => by rw [z] at f1; rcases f1 with y | y <;> exact absurd y (by decide)
        by_cases cr : r = 0
        · obtain ⟨g1, g2⟩ := f4 cr
          have hb0 := hc0 cr
          have bc : ∀ i, i < 32 → inB (c ||| ((1 : Int32) <<< (nI o &&& 31))) i = (inB c i || decide (i = o)) := fun i hi => by rw [inB_or _ _ hi, inB_one o (by omega) i hi]
          refine flw_n ht hto hle hU cp ho hg hs hT (fun z => by rw [g2] at z; cases z) (fun _ _ => b4 I J Q _ hs hT (fun z => by omega) k0 (fun hok c2 gg hgg hed hb hbo => ?_)) (fun _ z => by rw [hb0] at z; cases z) (fun z => absurd z n41) (fun z => by rw [nd] at z; cases z) (fun z => by rw [nd] at z; cases z) (fun _ z => by rw [g1] at z; cases z)
          refine k1 hok c2 gg hgg hed (fun i hi => ?_) (fun z => by omega) (fun _ => ?_)
          · rw [hb i hi, bc i (by omega), decide_eq_false (by omega), Bool.or_false]
          · rw [hbo (by omega), bc o (by omega), decide_eq_true rfl, Bool.or_true]
        · have ha := f3 (by omega)
          have ncp : cpN (U p) = false := by have := of_decide_eq_true ha; exact decide_eq_false (by omega)
          exact flw_n ht hto hle hU cp ho hg hs hT (fun _ => b4 I J Q c hs hT (fun z => by omega) k0 (fun hok c2 gg hgg hed hb hbo => k1 hok c2 gg hgg hed hb (fun _ => hbo (by omega)) (fun z => absurd z cr))) (fun z => by rw [ncp] at z; cases z) (fun z => by rw [ncp] at z; cases z) (fun z => absurd z n41) (fun z => by rw [nd] at z; cases z) (fun z => by rw [nd] at z; cases z) (fun z => by rw [ha] at z; cases z)
      -- what is taken: the operator, and what stands behind it
      have tk : ok1 = true → t = to → ∀ (I : sw_I) (J : sw_J) (Q : sw_I → sw_J → Prop) (K1 : List Int32) (S P1 : List Nat) (a : Bool), I 1 1 = nI t → I 2 = T → syS I K1 (S ++ P1) a → K1.length + (S ++ P1).length ≤ p → (∀ x, x ∈ S → x < 256) → topL S (r + 1) → (∀ x, x ∈ P1 → r + 1 ≤ sgN x ∧ x < 256) → (∀ I2 K2 P, eqx tkC I I2 → K2 ++ rvC P = K1 ++ rvC P1 ++ (Co ++ [cdO (U p)]) → (∀ x, x ∈ P → r + 1 ≤ sgN x ∧ x < 256) → K2.length + (S ++ P).length ≤ q1 → syS I2 K2 (S ++ P) (a || hasR Co) → wl_X2_take_19 Q (t - q1 + 1) 0 (nI q1) I2 J) → wl_X2_take_19 Q (t - p + 1) 0 (nI p) I J := by
        intro hok htt I J Q K1 S P1 a hs hT h hl h6 htop hp1 hk
        obtain ⟨c1, c2, c3, c4⟩ := b3 hok
        rw [show t - p + 1 = (t - (p + 1) + 1) + 1 by omega]
        refine tk_op (by omega) hU (by omega) f1 (by rw [f2]; exact htop) h6 (fun x hx => by rw [f2]; exact hp1 x hx) (by omega) hs hT h (fun I2 x2 s2 => ?_)
        obtain ⟨hs2, hT2⟩ := txt_of x2 hs hT
        refine c4 htt I2 J Q (K1 ++ rvC P1) (S ++ [U p]) a hs2 hT2 s2 (by simp only [List.length_append, rvC_len, List.length_cons, List.length_nil] at hl ⊢; omega) (fun x hx => ?_) (fun _ S2 z ez => ?_) (fun I3 K3 P x3 e3 p3 l3 s3 => hk I3 K3 ([U p] ++ P) (x2.tr x3) ?_ (fun x hx => ?_) ?_ ?_)
        · rcases List.mem_append.mp hx with z | z
          · exact h6 x z
          · have ex : x = U p := by simpa using z
            rw [ex]; exact hu.2
        · have := (List.append_inj' ez rfl).2
          injection this with this
          rw [← this, f2]; omega
        · rw [rvC_app, ← List.append_assoc, e3, List.append_assoc (K1 ++ rvC P1)]; rfl
        · rcases List.mem_append.mp hx with z | z
          · have ex : x = U p := by simpa using z
            rw [ex, f2]; exact ⟨Nat.le_refl _, hu.2⟩
          · exact ⟨by have := (p3 x z).1; omega, (p3 x z).2⟩
        · rw [← List.append_assoc]; exact l3
        · rw [← List.append_assoc]; exact s3
      cases hok1 : ok1
      · -- nothing right stands behind it
        refine ⟨false, q1, [], by omega, b2, (fun z => by cases z), ?_, ?_⟩
        · intro I J Q c g hs hT hg hed hc0 k0 _
          exact fl I J Q c g hs hT hg hc0 (fun _ => k0 rfl) (fun z => by rw [hok1] at z; cases z)
        · refine ⟨1, fun I J Q K hs hn hrf hK h => ?_⟩
          refine rk_step (o := o) hr hto hle hU hs (fun hno => by rw [hno cp] at cop; cases cop) (fun _ _ I2 q2 s2 => ?_)
          refine b5 I2 J _ K s2 (by rw [q2.2 _ (by decide)]; exact hn) (rfS_of hrf q2 (by decide) (by decide)) (by omega) (fun I3 k e3 s3 r3 l3 _ => ?_)
          rw [hok1, sw_if_t (by rfl)]
          exact h I3 k ((q2.mono (by decide) (by decide)).tr e3) s3 r3 (by omega) (fun z => by cases z)
      · obtain ⟨c1, c2, c3, c4⟩ := b3 hok1
        by_cases cr : r = 0
        · -- one comparison, and no more
          refine ⟨true, q1, Co ++ [cdO (U p)], by omega, b2, fun _ => ⟨by rw [List.length_append]; show p + (Co.length + 1) ≤ q1; omega, ?_, fun htt => ?_⟩, ?_, ?_⟩
          · have := gl_op hu.2 f1 c3 gl_nil
            rw [List.append_nil] at this; exact this
          · intro I J Q K1 S P1 a hs hT h hl h6 htop hp1 hk
            refine tk hok1 htt I J Q K1 S P1 a hs hT h hl h6 htop hp1 (fun I2 K2 P x2 e2 p2 l2 s2 => hk I2 K2 P x2 e2 p2 l2 ?_)
            rw [hasR_app, hasR_op hu.2 f1, Bool.or_false]; exact s2
          · intro I J Q c g hs hT hg hed hc0 _ k1
            refine fl I J Q c g hs hT hg hc0 (fun z => by rw [hok1] at z; cases z) (fun _ c2 g2 hg2 hed2 hb hbo hb0 => k1 rfl c2 g2 hg2 (fun hq => ?_) hb hbo)
            obtain ⟨d1, d2, d3, d4⟩ := hed2 hq
            exact ⟨d1, fun _ => d2 (by omega), fun _ => d3 (by omega), fun _ _ => hb0 cr⟩
          · refine ⟨2, fun I J Q K hs hn hrf hK h => ?_⟩
            refine rk_step (o := o) hr hto hle hU hs (fun hno => by rw [hno cp] at cop; cases cop) (fun _ _ I2 q2 s2 => ?_)
            refine b5 I2 J _ K s2 (by rw [q2.2 _ (by decide)]; exact hn) (rfS_of hrf q2 (by decide) (by decide)) (by omega) (fun I3 k e3 s3 r3 l3 o3 => ?_)
            rw [hok1, sw_if_f (by decide)]
            obtain ⟨o4, o5⟩ := o3 hok1
            refine s_codes (c := cdO (U p)) (K := K ++ Co) (by rw [List.length_append]; omega) rfl o5 (fun I4 q4 r4 => ?_)
            rw [List.append_assoc] at r4
            rw [cr]
            show wb_X10_readsRank_24 _ _ _ Q _ _ I4 J
            unfold wb_X10_readsRank_24
            rw [sw_if_t (by rfl)]
            exact h I4 (K.length + (Co.length + 1)) (((q2.mono (by decide) (by decide)).tr e3).tr (q4.mono (by decide) (by decide))) (tpS_of s3 q4 (by decide) (by decide) (by rw [q4.2 _ (by decide)]; exact s3.1) b2) (by have z := r4.1; rw [List.length_append, List.length_append] at z; exact z) (by omega) (fun _ => ⟨by rw [q4.2 _ (by decide)]; exact o4, r4⟩)
        · -- it goes on
          obtain ⟨ok, q, C3, d1, d2, d3, d4, d5⟩ := ihe q1 (by omega) (by omega) b2
          refine ⟨ok, q, Co ++ [cdO (U p)] ++ C3, by omega, d2, fun hok => ?_, ?_, ?_⟩
          · obtain ⟨g1, g2, g3⟩ := d3 hok
            refine ⟨by simp only [List.length_append, List.length_cons, List.length_nil]; omega, gl_op hu.2 f1 c3 g2, fun htt => ?_⟩
            intro I J Q K1 S P1 a hs hT h hl h6 htop hp1 hk
            refine tk hok1 htt I J Q K1 S P1 a hs hT h hl h6 htop hp1 (fun I2 K2 P x2 e2 p2 l2 s2 => ?_)
            obtain ⟨hs2, hT2⟩ := txt_of x2 hs hT
            refine g3 htt I2 J Q K2 S P (a || hasR Co) hs2 hT2 s2 l2 h6 htop p2 (fun I3 K3 P3 x3 e3 p3 l3 s3 => hk I3 K3 P3 (x2.tr x3) ?_ p3 l3 ?_)
            · rw [e3, e2, List.append_assoc]
            · rw [hasR_app, hasR_app, hasR_op hu.2 f1, Bool.or_false, ← Bool.or_assoc]; exact s3
          · intro I J Q c g hs hT hg hed hc0 k0 k1
            refine fl I J Q c g hs hT hg hc0 (fun z => by rw [hok1] at z; cases z) (fun _ c2 g2 hg2 hed2 hb hbo hb0 => d4 I J Q c2 g2 hs hT hg2 hed2 (fun z => absurd z cr) k0 (fun hok c3 g3 hg3 hed3 hb3 hbo3 => k1 hok c3 g3 hg3 hed3 (fun i hi => by rw [hb3 i hi, hb i hi]) (fun z => by rw [hbo3 z, hbo z])))
          · obtain ⟨F5, d5⟩ := d5
            refine ⟨F5 + 1, fun I J Q K hs hn hrf hK h => ?_⟩
            refine rk_step (o := o) hr hto hle hU hs (fun hno => by rw [hno cp] at cop; cases cop) (fun _ _ I2 q2 s2 => ?_)
            refine b5 I2 J _ K s2 (by rw [q2.2 _ (by decide)]; exact hn) (rfS_of hrf q2 (by decide) (by decide)) (by omega) (fun I3 k e3 s3 r3 l3 o3 => ?_)
            rw [hok1, sw_if_f (by decide)]
            obtain ⟨o4, o5⟩ := o3 hok1
            refine s_codes (c := cdO (U p)) (K := K ++ Co) (by rw [List.length_append]; omega) rfl o5 (fun I4 q4 r4 => ?_)
            rw [decide_eq_true (show 0 < r by omega)]
            refine d5 I4 J Q (K ++ Co ++ [cdO (U p)]) (tpS_of s3 q4 (by decide) (by decide) (by rw [q4.2 _ (by decide)]; exact s3.1) b2) (by rw [q4.2 _ (by decide)]; exact o4) r4 (by simp only [List.length_append, List.length_cons, List.length_nil]; omega) (fun I5 k5 e5 s5 r5 l5 o6 => ?_)
            simp only [List.length_append, List.length_cons, List.length_nil] at l5
            refine h I5 k5 ((((q2.mono (by decide) (by decide)).tr e3).tr (q4.mono (by decide) (by decide))).tr e5) s5 r5 (by omega) (fun z => ⟨(o6 z).1, ?_⟩)
            have := (o6 z).2
            rw [List.append_assoc, List.append_assoc] at this
            rw [List.append_assoc]; exact this
    · have hno : p < to → opR r (U p) = false := fun hq => by
        cases hb : opR r (U p)
        · rfl
        · exact absurd ⟨hq, hb⟩ cop
      refine ⟨true, p, [], Nat.le_refl _, hp, fun _ => ⟨Nat.le_refl _, gl_nil, fun _ => ?_⟩, ?_, ?_⟩
      · intro I J Q K1 S P1 a hs hT h hl h6 ht1 hp1 hk
        exact hk I K1 P1 eqx.rf (by rw [List.append_nil]) hp1 hl (by rw [hasR_nil, Bool.or_false]; exact h)
      · intro I J Q c g hs hT hg hed _ _ h1
        exact h1 rfl c g hg (ed_up hr hed hno) (fun _ _ => rfl) (fun _ => rfl)
      · refine ⟨1, fun I J Q K hs hn hrf hK h => ?_⟩
        refine rk_step (o := o) hr hto hle hU hs (fun _ => ?_) (fun hq hz => by rw [hno hq] at hz; cases hz)
        exact h I K.length eqm.rf hs hrf.1 (Nat.le_of_eq (Nat.add_comm _ _)) (fun _ => ⟨hn, by rw [List.append_nil]; exact hrf⟩)
/-- a rank -/
theorem pk_rank {r o p : Nat} (hr : r ≤ 2) (hto : to ≤ 40) (hle : to ≤ t) (ht : t ≤ 80) (hU : txU T U t) (ho : o ≤ 4) (ih0 : PK T U t to (r + 1) o p (C2 (nI (r + 1)))) (ih : ∀ p2, p < p2 → p2 ≤ to → PK T U t to (r + 1) o p2 (C2 (nI (r + 1)))) : PK T U t to r o p (wpb_X10_readsRank C1 C2 (nI r)) := by
  obtain ⟨ok1, q1, Co, b1, b2, b3, b4, b5⟩ := ih0
  have hr3 : ¬ nI r = (3 : Int32) := fun z => by have := (nI_eq (b := 3) (by omega) (by omega)).mp z; omega
  cases hok1 : ok1
  · refine ⟨false, q1, [], b1, b2, (fun z => by cases z), ?_, ?_⟩
    · intro I J Q c hs hT _ h0 _
      exact b4 I J Q c hs hT (fun z => by omega) (fun _ => h0 rfl) (fun z => by rw [hok1] at z; cases z)
    · intro I J Q K hs hn hrf hK h
      unfold wpb_X10_readsRank
      rw [sw_if_f hr3, nI_1]
      refine b5 I J _ K hs hn hrf hK (fun I3 k e3 s3 r3 l3 _ => ?_)
      rw [hok1, sw_if_t (by rfl)]
      exact h I3 k e3 s3 r3 l3 (fun z => by cases z)
  · obtain ⟨c1, c2, c3, c4⟩ := b3 hok1
    obtain ⟨ok, q, C, d1, d2, d3, d4, ⟨F, d5⟩⟩ := rk_loop (C1 := C1) (C2 := C2) (p0 := p) hr hto hle ht hU ho ih (to - q1) q1 (Nat.le_refl _) b1 b2
    refine ⟨ok, q, Co ++ C, by omega, d2, fun hok => ?_, ?_, ?_⟩
    · obtain ⟨g1, g2, g3⟩ := d3 hok
      refine ⟨by rw [List.length_append]; omega, by omega, gd_gl c3 g2, fun htt => ?_⟩
      intro I J Q K S a hs hT h hl h6 htop hk
      have ht1 := htop (by omega)
      refine c4 htt I J Q K S a hs hT h hl h6 (fun _ S2 z ez => by have := ht1 S2 z ez; omega) (fun I2 K1 P x2 e2 p2 l2 s2 => ?_)
      obtain ⟨hs2, hT2⟩ := txt_of x2 hs hT
      refine g3 htt I2 J Q K1 S P (a || hasR Co) hs2 hT2 s2 l2 h6 ht1 (fun x hx => ⟨by have := (p2 x hx).1; omega, (p2 x hx).2⟩) (fun I3 K3 P3 x3 e3 p3 l3 s3 => hk I3 K3 P3 (x2.tr x3) ?_ p3 l3 ?_)
      · rw [e3, e2, List.append_assoc]
      · rw [hasR_app, ← Bool.or_assoc]; exact s3
    · intro I J Q c hs hT hc0 h0 h1
      refine b4 I J Q c hs hT (fun z => by omega) (fun z => by rw [hok1] at z; cases z) (fun _ c2 g2 hg2 hed2 hb hbo => d4 I J Q c2 g2 hs hT hg2 hed2 (fun z => by rw [hbo (by omega)]; exact hc0 z) h0 (fun hok c3 g3 hg3 hed3 hb3 hbo3 => h1 hok c3 g3 hg3 hed3 (fun i hi => by rw [hb3 i hi, hb i hi]) (fun z => by rw [hbo3 z, hbo (by omega)])))
    · intro I J Q K hs hn hrf hK h
      unfold wpb_X10_readsRank
      rw [sw_if_f hr3, nI_1]
      refine b5 I J _ K hs hn hrf hK (fun I3 k e3 s3 r3 l3 o3 => ?_)
      rw [hok1, sw_if_f (by decide)]
      obtain ⟨o4, o5⟩ := o3 hok1
      refine ⟨F, d5 I3 J Q (K ++ Co) s3 o4 o5 (by rw [List.length_append]; omega) (fun I4 k4 e4 s4 r4 l4 o6 => ?_)⟩
      rw [List.length_append] at l4
      refine h I4 k4 (e3.tr e4) s4 r4 (by omega) (fun z => ⟨(o6 z).1, ?_⟩)
      have := (o6 z).2
      rw [List.append_assoc] at this; exact this
end LI
theorem pk_all {T : Nat → Int32} {U : Nat → Nat} {t to : Nat} (htm : to = min t 40) (ht : t ≤ 80) (hU : txU T U t) : ∀ d, (∀ o p, o ≤ 4 → p ≤ to → 5 * (4 - o) + (to - p) + 1 ≤ d → PK T U t to 3 o p (wp_X10_readsThing d)) ∧ (∀ r o p, r ≤ 3 → o ≤ 4 → p ≤ to → 5 * (4 - o) + (to - p) + 1 + (4 - r) ≤ d → PK T U t to r o p (wp_X10_readsRank d (nI r))) := by
  have hto : to ≤ 40 := by omega
  have hle : to ≤ t := by omega
  intro d
  induction d with
  | zero => exact ⟨fun o p _ _ h => by omega, fun r o p _ _ _ h => by omega⟩
  | succ d ih =>
    obtain ⟨ihT, ihR⟩ := ih
    refine ⟨fun o p ho hp hd => ?_, fun r o p hr ho hp hd => ?_⟩
    · show PK T U t to 3 o p (wpb_X10_readsThing (wpg_X10_readsThing d).1 (wpg_X10_readsThing d).2)
      by_cases cp : p < to
      · by_cases c1 : U p = 45
        · exact pk_neg hto hle ht hU ho cp c1 (ihT o (p + 1) ho (by omega) (by omega))
        · cases c2 : dgN (U p)
          · cases c3 : nmN (U p)
            · by_cases c4 : U p = 40 ∧ o < 4
              · exact pk_par hto htm ht hU c4.2 cp c4.1 (ihR 0 (o + 1) (p + 1) (by omega) (by omega) (by omega) (by omega))
              · exact pk_bad hto htm ht hU ho hp (fun _ => ⟨c1, c2, c3, c4⟩)
            · exact pk_nam hto hle ht hU ho cp c3
          · exact pk_num hto hle ht hU ho cp c2
      · exact pk_bad hto htm ht hU ho hp (fun q => absurd q cp)
    · show PK T U t to r o p (wpb_X10_readsRank (wpg_X10_readsThing d).1 (wpg_X10_readsThing d).2 (nI r))
      by_cases c3 : r = 3
      · subst c3
        obtain ⟨ok, q, C, b1, b2, b3, b4, b5⟩ := ihT o p ho hp (by omega)
        refine ⟨ok, q, C, b1, b2, b3, b4, ?_⟩
        intro I J Q K hs hn hrf hK h
        unfold wpb_X10_readsRank
        rw [sw_if_t (by rfl)]
        refine b5 I J _ K hs hn hrf hK (fun I2 k e2 s2 r2 l2 o2 => ⟨?_, h I2 k e2 s2 r2 l2 o2⟩)
        cases ok
        · exact Or.inl rfl
        · exact Or.inr rfl
      · exact pk_rank (by omega) hto hle ht hU ho (ihR (r + 1) o p (by omega) ho hp (by omega)) (fun p2 h1 h2 => ihR (r + 1) o p2 (by omega) ho h2 (by omega))
