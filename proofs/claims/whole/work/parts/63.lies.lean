/-! promise: lies -/
abbrev ush (x : Int32) (k : Int32) : Int32 := (x.toUInt32 >>> (k.toUInt32 &&& Int32.toUInt32 31)).toInt32
def n74 (x0 x1 : Int32) : Int32 := x1 + ush x0 1
def n62 (x0 x1 : Int32) : Int32 := if (4 : Int32) < x0 then n74 (ush x0 2) (x1 + 2) else n74 x0 x1
def n49 (x0 x1 : Int32) : Int32 := if (16 : Int32) < x0 then n62 (ush x0 4) (x1 + 4) else n62 x0 x1
def n34 (x0 x1 : Int32) : Int32 := if (256 : Int32) < x0 then n49 (ush x0 8) (x1 + 8) else n49 x0 x1
def ntF (x : Int32) : Int32 := if 0 < ((x ^^^ (-1)) &&& (x - 1)) then (if (65536 : Int32) < ((x ^^^ (-1)) &&& (x - 1)) then n34 (ush ((x ^^^ (-1)) &&& (x - 1)) 16) (1 + 16) else n34 ((x ^^^ (-1)) &&& (x - 1)) 1) else (((x ^^^ (-1)) &&& (x - 1)) &&& 32)
theorem w62 {x0 x1 : Int32} {I : sw_I} {J : sw_J} {Q : Int32 → sw_I → sw_J → Prop} (h : Q (n62 x0 x1) I J) : wB_J6_numberOfTrailingZeros_0f7a4_62 Q x0 x1 I J := by
  unfold n62 at h
  refine ⟨fun c => ?_, fun c => ?_⟩
  · rw [if_pos c] at h; intro y hy y2 hy2; rw [hy, hy2]; exact h
  · rw [if_neg c] at h; exact h
theorem w49 {x0 x1 : Int32} {I : sw_I} {J : sw_J} {Q : Int32 → sw_I → sw_J → Prop} (h : Q (n49 x0 x1) I J) : wB_J6_numberOfTrailingZeros_0f7a4_49 Q x0 x1 I J := by
  unfold n49 at h
  refine ⟨fun c => ?_, fun c => ?_⟩
  · rw [if_pos c] at h; intro y hy y2 hy2; rw [hy, hy2]; exact w62 h
  · rw [if_neg c] at h; exact w62 h
theorem w34 {x0 x1 : Int32} {I : sw_I} {J : sw_J} {Q : Int32 → sw_I → sw_J → Prop} (h : Q (n34 x0 x1) I J) : wB_J6_numberOfTrailingZeros_0f7a4_34 Q x0 x1 I J := by
  unfold n34 at h
  refine ⟨fun c => ?_, fun c => ?_⟩
  · rw [if_pos c] at h; intro y hy y2 hy2; rw [hy, hy2]; exact w49 h
  · rw [if_neg c] at h; exact w49 h
theorem s_J6_ntz {x : Int32} {I : sw_I} {J : sw_J} {Q : Int32 → sw_I → sw_J → Prop} (h : Q (ntF x) I J) : wp_J6_numberOfTrailingZeros_0f7a4 x I J Q := by
  intro y hy
  rw [hy]
  unfold ntF at h
  refine ⟨fun c => ⟨fun c2 => ?_, fun c2 => ?_⟩, fun c => ?_⟩
  · rw [if_pos c, if_pos c2] at h; intro y hy y2 hy2; rw [hy, hy2]; exact w34 h
  · rw [if_pos c, if_neg c2] at h; exact w34 h
  · rw [if_neg c] at h; exact h
theorem nt1 : ∀ r, r < 10 → ntF (nI (2 ^ r)) = nI r ∧ nI (2 ^ r) &&& (nI (2 ^ r) - 1) = 0 ∧ bcF (nI (2 ^ r)) = 1 ∧ ((1 : Int32) <<< (nI r &&& 31)) ||| ((1 : Int32) <<< (nI r &&& 31)) = nI (2 ^ r) := by decide +kernel
theorem nt2 : ∀ b, b < 10 → ∀ a, a < b → ntF (nI (2 ^ a + 2 ^ b)) = nI a ∧ nI (2 ^ a + 2 ^ b) &&& (nI (2 ^ a + 2 ^ b) - 1) = nI (2 ^ b) ∧ bcF (nI (2 ^ a + 2 ^ b)) = 2 ∧ ((1 : Int32) <<< (nI a &&& 31)) ||| ((1 : Int32) <<< (nI b &&& 31)) = nI (2 ^ a + 2 ^ b) := by decide +kernel
theorem ls1 : ∀ n, n ≤ 10 → (List.range' 1 (2 ^ n - 1)).filter (fun x => pcN x 10 == 1) = (List.range n).map (fun r => 2 ^ r) := by decide +kernel
theorem ls2 : ∀ n, n ≤ 10 → (List.range' 1 (2 ^ n - 1)).filter (fun x => pcN x 10 == 2) = (List.range n).flatMap (fun b => (List.range b).map (fun a => 2 ^ a + 2 ^ b)) := by decide +kernel
theorem lg2 : ∀ b, b < 10 → Nat.log2 (2 ^ b) = b ∧ ∀ a, a < b → Nat.log2 (2 ^ a + 2 ^ b) = b ∧ Nat.log2 (2 ^ a + 2 ^ b - 2 ^ b) = a := by decide +kernel
/-- one who lies: the first wish that explains all -/
def sgM (w : Wd) (D : Sd) (wi : Nat → Int32) (s r : Nat) : Nat → Nat → Option Nat
  | 0, _ => none
  | d + 1, k => if ¬ nI k - 1 = wi r ∧ asA w D (updW wi r (nI k - 1)) s = true then some k else sgM w D wi s r d (k + 1)
/-- two who lie -/
def prM (w : Wd) (D : Sd) (wi : Nat → Int32) (s a b : Nat) : Nat → Nat → Option (Nat × Nat)
  | 0, _ => none
  | d + 1, k => if nI k - 1 = wi a then prM w D wi s a b d (k + 1) else match owM w D wi a (nI k - 1) b s (wf w + 1) 0 with
    | some j => some (k, j)
    | none => prM w D wi s a b d (k + 1)
def e1W (w : Wd) (D : Sd) (wi : Nat → Int32) (s who : Nat) : Option (List Int64) := (sgM w D wi s (Nat.log2 who) (wf w + 1) 0).map (fun k => [(nI who).toInt64, (nI k - 1).toInt64])
def e2W (w : Wd) (D : Sd) (wi : Nat → Int32) (s who : Nat) : Option (List Int64) := (prM w D wi s (Nat.log2 (who - 2 ^ Nat.log2 who)) (Nat.log2 who) (wf w + 1) 0).map (fun k => [(nI who).toInt64, (nI k.1 - 1).toInt64, (nI k.2 - 1).toInt64])
abbrev alX : List Nat := 0 :: alC
/-- what explainedBy does for one set -/
def exOK (w : Wd) (D : Sd) (wi : Nat → Int32) (s : Nat) (I : sw_I) (J : sw_J) (ex : Nat → Option (List Int64)) (who : Nat) : Prop := ∀ (Q : Int32 → sw_I → sw_J → Prop) (I2 : sw_I), eqx alC I I2 → I2 113 5 = 0 → (ex who = none → ∀ I3, eqx alC I I3 → I3 113 5 = 0 → Q 0 I3 J) → (∀ L, ex who = some L → ∀ I3 J3, eqx alX I I3 → eqj [118] J J3 → I3 113 5 = 0 → tlC I3 J3 L → Q 1 I3 J3) → wp_X9_explainedBy (nI who) I2 J Q
theorem c_ex1 {w : Wd} {D : Sd} {wi : Nat → Int32} {s r : Nat} (hs : s ≤ 8) (hr : r < 10) {I : sw_I} {J : sw_J} (hW : isW I w) (hA : alO I wi) (hD : sdO I D s) (hwi : ∀ i, i < 10 → I 15 i = wi i) : exOK w D wi s I J (e1W w D wi s) (2 ^ r) := by
  intro Q I2 x2 r2 h0 h1
  have h9 := hW.1.2.1
  obtain ⟨t1, t2, t3, -⟩ := nt1 r hr
  have lr := (lg2 r hr).1
  unfold e1W at h0 h1
  rw [lr] at h0 h1
  unfold wp_X9_explainedBy
  refine s_J6_ntz ?_
  intro y hy
  rw [t2] at hy
  rw [hy]
  refine s_J6_ntz ⟨wf w + 2, ?_⟩
  rw [t1]
  have loop : ∀ (d k : Nat) (I3 : sw_I), k + d = wf w + 1 → eqx alC I I3 → I3 113 5 = 0 → ((sgM w D wi s r d k).map (fun k => [(nI (2 ^ r)).toInt64, (nI k - 1).toInt64]) = none → ∀ I3, eqx alC I I3 → I3 113 5 = 0 → Q 0 I3 J) → (∀ L, (sgM w D wi s r d k).map (fun k => [(nI (2 ^ r)).toInt64, (nI k - 1).toInt64]) = some L → ∀ I3 J3, eqx alX I I3 → eqj [118] J J3 → I3 113 5 = 0 → tlC I3 J3 L → Q 1 I3 J3) → wl_X9_explainedBy_20 Q (d + 1) (nI (2 ^ r)) (nI r) 0 (ntF 0) (nI k - 1) I3 J := by
    intro d
    induction d with
    | zero =>
      intro k I3 hk x3 r3 g0 g1
      show wb_X9_explainedBy_20 _ Q _ _ _ _ _ I3 J
      unfold wb_X9_explainedBy_20
      rw [sw_if_f (by rw [x3.at (by decide), hW.1.2.2.2.1, wk_lt (by omega) (by omega)]; omega)]
      exact g0 rfl I3 x3 r3
    | succ d ih =>
      intro k I3 hk x3 r3 g0 g1
      show wb_X9_explainedBy_20 _ Q _ _ _ _ _ I3 J
      unfold wb_X9_explainedBy_20
      have en : I3 15 r = wi r := by rw [x3.at (by decide)]; exact hwi r hr
      rw [sw_if_t (by rw [x3.at (by decide), hW.1.2.2.2.1, wk_lt (by omega) (by omega)]; omega), nI_clamp (by omega), en]
      refine ⟨vp0 hr (by decide), ?_⟩
      unfold sgM at g0 g1
      have on : ∀ I4, eqx alC I I4 → I4 113 5 = 0 → _ → _ → wB_X9_explainedBy_120 (wl_X9_explainedBy_20 Q (d + 1)) Q (nI (2 ^ r)) (nI r) 0 (ntF 0) (nI k - 1) I4 J := fun I4 x4 r4 a b y hy => by
        rw [hy, wk_1]; exact ih (k + 1) I4 (by omega) x4 r4 a b
      by_cases c1 : nI k - 1 = wi r
      · rw [sw_if_t c1]
        rw [if_neg (fun q => q.1 c1)] at g0 g1
        exact on I3 x3 r3 g0 g1
      · rw [sw_if_f c1, sw_if_t rfl]
        refine c_allSoIf hs hr (isW_of (x3.eqm (C := alC) (F := []) (fun _ q => q) (by decide)) (by decide) (by decide) hW) (alO_kept hA x3 r3) (sdO_kept hD x3 (by decide)) (fun I4 x4 r4 => ?_)
        unfold wB_X9_explainedBy_104
        cases ha : asA w D (updW wi r (nI k - 1)) s
        · rw [sw_if_t (by rfl)]
          rw [if_neg (fun q => by rw [ha] at q; exact absurd q.2 (by decide))] at g0 g1
          exact on I4 (x3.tr x4) r4 g0 g1
        · rw [sw_if_f (by decide)]
          rw [if_pos ⟨c1, ha⟩] at g1
          unfold wp_X9_tellLiars
          refine t_clear (fun I5 x5 t5 => t_tell (by decide) t5 (fun I6 J6 x6 j6 t6 => t_tell (by simp) t6 (fun I7 J7 x7 j7 t7 => s_J6_bitCount ?_)))
          rw [t3, sw_if_f (by decide)]
          refine g1 _ rfl I7 J7 ?_ (j6.tr j7) ?_ t7
          · exact (((((x3.tr x4).mono (by decide)).tr (x5.mono (by decide))).tr (x6.mono (by decide))).tr (x7.mono (by decide)))
          · rw [x7.at (by decide), x6.at (by decide), x5.at (by decide)]; exact r4
  exact loop (wf w + 1) 0 I2 (Nat.zero_add _) x2 r2 h0 h1
theorem c_ex2 {w : Wd} {D : Sd} {wi : Nat → Int32} {s a b : Nat} (hs : s ≤ 8) (hb : b < 10) (hab : a < b) {I : sw_I} {J : sw_J} (hW : isW I w) (hA : alO I wi) (hD : sdO I D s) (hwi : ∀ i, i < 10 → I 15 i = wi i) : exOK w D wi s I J (e2W w D wi s) (2 ^ a + 2 ^ b) := by
  intro Q I2 x2 r2 h0 h1
  have h9 := hW.1.2.1
  obtain ⟨t1, t2, t3, -⟩ := nt2 b hb a hab
  obtain ⟨u1, u2, -⟩ := nt1 b hb
  have lr := (lg2 b hb).2 a hab
  unfold e2W at h0 h1
  rw [lr.1, lr.2] at h0 h1
  unfold wp_X9_explainedBy
  refine s_J6_ntz ?_
  intro y hy
  rw [t2] at hy
  rw [hy]
  refine s_J6_ntz ⟨wf w + 2, ?_⟩
  rw [t1, u1]
  have hp : 2 ^ b < 2 ^ 31 := Nat.pow_lt_pow_right (by decide) (by omega)
  have hp0 : 0 < 2 ^ b := Nat.two_pow_pos b
  have loop : ∀ (d k : Nat) (I3 : sw_I), k + d = wf w + 1 → eqx alC I I3 → I3 113 5 = 0 → ((prM w D wi s a b d k).map (fun k => [(nI (2 ^ a + 2 ^ b)).toInt64, (nI k.1 - 1).toInt64, (nI k.2 - 1).toInt64]) = none → ∀ I3, eqx alC I I3 → I3 113 5 = 0 → Q 0 I3 J) → (∀ L, (prM w D wi s a b d k).map (fun k => [(nI (2 ^ a + 2 ^ b)).toInt64, (nI k.1 - 1).toInt64, (nI k.2 - 1).toInt64]) = some L → ∀ I3 J3, eqx alX I I3 → eqj [118] J J3 → I3 113 5 = 0 → tlC I3 J3 L → Q 1 I3 J3) → wl_X9_explainedBy_20 Q (d + 1) (nI (2 ^ a + 2 ^ b)) (nI a) (nI (2 ^ b)) (nI b) (nI k - 1) I3 J := by
    intro d
    induction d with
    | zero =>
      intro k I3 hk x3 r3 g0 g1
      show wb_X9_explainedBy_20 _ Q _ _ _ _ _ I3 J
      unfold wb_X9_explainedBy_20
      rw [sw_if_f (by rw [x3.at (by decide), hW.1.2.2.2.1, wk_lt (by omega) (by omega)]; omega)]
      exact g0 rfl I3 x3 r3
    | succ d ih =>
      intro k I3 hk x3 r3 g0 g1
      show wb_X9_explainedBy_20 _ Q _ _ _ _ _ I3 J
      unfold wb_X9_explainedBy_20
      have en : I3 15 a = wi a := by rw [x3.at (by decide)]; exact hwi a (by omega)
      rw [sw_if_t (by rw [x3.at (by decide), hW.1.2.2.2.1, wk_lt (by omega) (by omega)]; omega), nI_clamp (by omega), en]
      refine ⟨vp0 (by omega) (by decide), ?_⟩
      unfold prM at g0 g1
      have on : ∀ I4, eqx alC I I4 → I4 113 5 = 0 → _ → _ → wB_X9_explainedBy_120 (wl_X9_explainedBy_20 Q (d + 1)) Q (nI (2 ^ a + 2 ^ b)) (nI a) (nI (2 ^ b)) (nI b) (nI k - 1) I4 J := fun I4 x4 r4 u v y hy => by
        rw [hy, wk_1]; exact ih (k + 1) I4 (by omega) x4 r4 u v
      by_cases c1 : nI k - 1 = wi a
      · rw [sw_if_t c1]
        rw [if_pos c1] at g0 g1
        exact on I3 x3 r3 g0 g1
      · rw [sw_if_f c1, sw_if_f (nI_ne0 hp0 hp)]
        rw [if_neg c1] at g0 g1
        refine c_other (w := w) (D := D) (wi := wi) hs (by omega) hb (by omega) (isW_of (x3.eqm (C := alC) (F := []) (fun _ q => q) (by decide)) (by decide) (by decide) hW) (alO_kept hA x3 r3) (sdO_kept hD x3 (by decide)) (fun I4 x4 r4 => ?_)
        cases ho : owM w D wi a (nI k - 1) b s (wf w + 1) 0 with
        | none =>
          rw [ho] at g0 g1
          rw [sw_if_t (show owV none = (-2 : Int32) from rfl)]
          unfold wB_X9_explainedBy_102 wB_X9_explainedBy_104
          rw [sw_if_t rfl]
          exact on I4 (x3.tr x4) r4 g0 g1
        | some j =>
          have hj := ow_rng w D wi a _ b s _ _ j ho
          rw [ho] at g1
          rw [sw_if_f (show ¬ owV (some j) = (-2 : Int32) from wk_m2 (by omega))]
          unfold wB_X9_explainedBy_102 wB_X9_explainedBy_104
          rw [sw_if_f (by decide)]
          unfold wp_X9_tellLiars
          refine t_clear (fun I5 x5 t5 => t_tell (by decide) t5 (fun I6 J6 x6 j6 t6 => t_tell (by simp) t6 (fun I7 J7 x7 j7 t7 => s_J6_bitCount ?_)))
          rw [t3, sw_if_t (by decide)]
          refine t_tell (by simp) t7 (fun I8 J8 x8 j8 t8 => ?_)
          refine g1 _ rfl I8 J8 ?_ ((j6.tr j7).tr j8) ?_ t8
          · exact ((((((x3.tr x4).mono (by decide)).tr (x5.mono (by decide))).tr (x6.mono (by decide))).tr (x7.mono (by decide))).tr (x8.mono (by decide)))
          · rw [x8.at (by decide), x7.at (by decide), x6.at (by decide), x5.at (by decide)]; exact r4
  exact loop (wf w + 1) 0 I2 (Nat.zero_add _) x2 r2 h0 h1
/-- the class's inner loop: sets of L bits in rising order -/
theorem s_lies_loop {w : Wd} {D : Sd} {wi : Nat → Int32} {s n L : Nat} (hn : n ≤ 10) {I : sw_I} {J : sw_J} {Q : Int32 → sw_I → sw_J → Prop} {K : Int32 → Int32 → sw_I → sw_J → Prop} {ex : Nat → Option (List Int64)} (hL : L = 1 ∨ L = 2) :
    ∀ (d x : Nat) (I2 : sw_I), x + d = 2 ^ n → (∀ who, who ∈ (List.range' x d).filter (fun y => pcN y 10 == L) → exOK w D wi s I J ex who) → eqx alC I I2 → I2 113 5 = 0 → (((List.range' x d).filter (fun y => pcN y 10 == L)).findSome? ex = none → ∀ I3, eqx alC I I3 → I3 113 5 = 0 → K (nI (2 ^ n - 1)) (nI (L + 1)) I3 J) → (∀ R, ((List.range' x d).filter (fun y => pcN y 10 == L)).findSome? ex = some R → ∀ I3 J3, eqx alX I I3 → eqj [118] J J3 → I3 113 5 = 0 → tlC I3 J3 R → Q (nI L) I3 J3) → wl_X9_lies_56 K Q (d + 1) (nI (2 ^ n - 1)) (nI L) (nI x) I2 J := by
  have hp : 2 ^ n ≤ 2 ^ 10 := Nat.pow_le_pow_right (by decide) hn
  have hp0 : 0 < 2 ^ n := Nat.two_pow_pos n
  intro d
  induction d with
  | zero =>
    intro x I2 hk hE x2 r2 g0 g1
    show wb_X9_lies_56 _ _ Q _ _ _ I2 J
    unfold wb_X9_lies_56
    rw [sw_if_t (nI_lt (by omega) (by omega))]
    intro y hy
    rw [hy, nI_1]
    exact g0 rfl I2 x2 r2
  | succ d ih =>
    intro x I2 hk hE x2 r2 g0 g1
    show wb_X9_lies_56 _ _ Q _ _ _ I2 J
    unfold wb_X9_lies_56
    rw [sw_if_f (nI_nlt (by omega) (by omega))]
    refine s_J6_bitCount ?_
    rw [bc10 x (by omega)]
    have hpc := pcN_le x 10
    rw [List.range'_succ, List.filter_cons] at hE g0 g1
    have on : ∀ I4, eqx alC I I4 → I4 113 5 = 0 → (∀ who, who ∈ (List.range' (x + 1) d).filter (fun y => pcN y 10 == L) → exOK w D wi s I J ex who) → _ → _ → wB_X9_lies_79 (wl_X9_lies_56 K Q (d + 1)) Q (nI (2 ^ n - 1)) (nI L) (nI x) I4 J := fun I4 x4 r4 hE u v y hy => by
      rw [hy, nI_1]; exact ih (x + 1) I4 (by omega) hE x4 r4 u v
    by_cases c1 : pcN x 10 = L
    · rw [sw_if_t (by rw [c1])]
      have cb : (pcN x 10 == L) = true := by simp [c1]
      rw [if_pos cb] at hE g0 g1
      refine hE x List.mem_cons_self _ I2 x2 r2 (fun hnone I3 x3 r3 => ?_) (fun R hsome I3 J3 x3 j3 r3 t3 => ?_)
      · rw [sw_if_t rfl]
        rw [List.findSome?_cons, hnone] at g0 g1
        exact on I3 x3 r3 (fun who hw => hE who (List.mem_cons_of_mem _ hw)) g0 g1
      · rw [sw_if_f (by decide)]
        rw [List.findSome?_cons, hsome] at g1
        exact g1 R rfl I3 J3 x3 j3 r3 t3
    · rw [sw_if_f (fun q => c1 ((nI_eq (by omega) (by omega)).mp q))]
      have cb : ¬ (pcN x 10 == L) = true := by simp [c1]
      rw [if_neg cb] at hE g0 g1
      exact on I2 x2 r2 hE g0 g1
