/-! promise: rides -/
/-- the past is kept where only its free place changes -/
theorem pastR_keep {I If : sw_I} {n fl q p : Nat} (hn : n ≤ 10) (h : pastR I n fl q p) (hr : ∀ c, 21 ≤ c → c < 23 + 84 → (c < 23 + 4 * q ∨ 23 + 4 * q + 4 ≤ c) → If c = I c) (h3 : If 140 32 = nI p) (h4 : ∀ j, j < 33 * p → If 155 j = I 155 j) : pastR If n fl q p := by
  obtain ⟨a1, a2, a3, a4, a5, a6⟩ := h
  refine ⟨a1, a2, ?_, ?_, h3, fun k hk => ?_⟩
  · rw [hr _ (by decide) (by decide) (by omega)]; exact a3
  · rw [hr _ (by decide) (by decide) (by omega)]; exact a4
  · refine momR_cong (fun c c1 c2 => hr c (by unfold rgA at c1; omega) (by unfold rgA at c2; omega) ?_) (fun j hj => h4 _ (by omega)) hn (a6 k hk)
    unfold rgA at c1 c2; omega
def rsM (w : Wd) : Nat → Int32 → Mo → Nat × Int32 × Mo
  | 0, c, μ => (0, c, μ)
  | d + 1, c, μ => if oI μ = 0 then (0, c, μ) else ((rsM w d (c ||| cmM w μ) (rdM w μ)).1 + 1, (rsM w d (c ||| cmM w μ) (rdM w μ)).2)
theorem rsM_le (w : Wd) : ∀ d c μ, (rsM w d c μ).1 ≤ d
  | 0, _, _ => Nat.le_refl 0
  | d + 1, c, μ => by
    unfold rsM
    split
    · exact Nat.zero_le _
    · have := rsM_le w d (c ||| cmM w μ) (rdM w μ); show _ + 1 ≤ _; omega
theorem rsM_0 (w : Wd) : ∀ d c μ, (rsM w d c μ).1 = 0 → (rsM w d c μ).2 = (c, μ)
  | 0, _, _, _ => rfl
  | d + 1, c, μ, h => by
    unfold rsM at h ⊢
    split
    · rfl
    · rename_i g; rw [if_neg g] at h; exact absurd h (by simp)
theorem rsM_R (w : Wd) : ∀ d c μ, oR (rsM w d c μ).2.2 = oR μ + nI (rsM w d c μ).1
  | 0, _, μ => by show oR μ = oR μ + (0 : Int32); simp
  | d + 1, c, μ => by
    unfold rsM
    split
    · show oR μ = oR μ + (0 : Int32); simp
    · have := rsM_R w d (c ||| cmM w μ) (rdM w μ)
      show oR (rsM w d (c ||| cmM w μ) (rdM w μ)).2.2 = oR μ + nI ((rsM w d (c ||| cmM w μ) (rdM w μ)).1 + 1)
      rw [this]
      show oR μ + 1 + nI _ = _
      rw [Int32.add_assoc, show (1 : Int32) + nI (rsM w d (c ||| cmM w μ) (rdM w μ)).1 = nI ((rsM w d (c ||| cmM w μ) (rdM w μ)).1 + 1) by rw [Int32.add_comm]; exact nI_1 _]
theorem s_rides_loop {w : Wd} {N : Nat} (hN : N ≤ 60) {I : sw_I} {J : sw_J} {Q : Int32 → sw_I → sw_J → Prop} (hW : isW I w) :
    ∀ (d k : Nat) (c : Int32) (μ : Mo) (I2 : sw_I), k + d = N → eqx (rdC 13) I I2 → moE I2 13 μ → (∀ I3, eqx (rdC 13) I I3 → moE I3 13 (rsM w d c μ).2.2 → wB_X9_rides_62 Q (rsM w d c μ).2.1 (nI (k + (rsM w d c μ).1)) I3 J) → wl_X9_rides_27 Q (d + 1) (nI N) c (nI k) I2 J := by
  intro d
  induction d with
  | zero =>
    intro k c μ I2 hk h1 h2 h
    obtain rfl : k = N := by omega
    show wb_X9_rides_27 _ Q _ _ _ I2 J
    unfold wb_X9_rides_27
    rw [sw_if_f (nI_nlt (Nat.le_refl _) (by omega))]
    exact h I2 h1 h2
  | succ d ih =>
    intro k c μ I2 hk h1 h2 h
    show wb_X9_rides_27 _ Q _ _ _ I2 J
    unfold wb_X9_rides_27
    rw [sw_if_t (nI_lt (by omega) (by omega)), h2.2.1]
    unfold rsM at h
    by_cases ci : oI μ = 0
    · rw [sw_if_t ci]
      rw [if_pos ci] at h
      exact h I2 h1 h2
    · rw [sw_if_f ci]
      rw [if_neg ci] at h
      refine c_rideM (by decide) (isW_of (h1.eqm (C := rdC 13) (F := []) (fun _ q => q) (by decide)) (by decide) (by decide) hW) h2 (fun I3 x3 e3 => ?_)
      intro y hy y2 hy2
      rw [hy2, nI_1, hy]
      refine ih (k + 1) _ _ I3 (by omega) (h1.tr x3) e3 (fun I4 x4 e4 => ?_)
      have := h I4 x4 e4
      rw [show k + 1 + (rsM w d (c ||| cmM w μ) (rdM w μ)).1 = k + ((rsM w d (c ||| cmM w μ) (rdM w μ)).1 + 1) by omega]
      exact this
theorem m_rides_loop {w : Wd} {N : Nat} (hN : N ≤ 60) {I : sw_I} {J : sw_J} {Q : Int32 → sw_I → sw_J → Prop} (hW : isW I w) :
    ∀ (d k : Nat) (c : Int32) (μ : Mo) (I2 : sw_I), k + d = N → eqm (144 :: mnsC) maF I I2 → relM w μ (I2 144) → (∀ I3, eqm (144 :: mnsC) maF I I3 → relM w (rsM w d c μ).2.2 (I3 144) → wB_X10_rides_66 Q (nI (k + (rsM w d c μ).1)) (rsM w d c μ).2.1 I3 J) → wl_X10_rides_27 Q (d + 1) (nI N) (nI k) c I2 J := by
  intro d
  induction d with
  | zero =>
    intro k c μ I2 hk h1 h2 h
    obtain rfl : k = N := by omega
    show wb_X10_rides_27 _ Q _ _ _ I2 J
    unfold wb_X10_rides_27
    rw [sw_if_f (nI_nlt (Nat.le_refl _) (by omega))]
    exact h I2 h1 h2
  | succ d ih =>
    intro k c μ I2 hk h1 h2 h
    show wb_X10_rides_27 _ Q _ _ _ I2 J
    unfold wb_X10_rides_27
    have e30 : I2 144 (30 : Int32).toNatClampNeg = oI μ := h2.1.2.1.symm
    rw [sw_if_t (nI_lt (by omega) (by omega)), e30]
    unfold rsM at h
    by_cases ci : oI μ = 0
    · rw [sw_if_t ci]
      rw [if_pos ci] at h
      exact h I2 h1 h2
    · rw [sw_if_f ci]
      rw [if_neg ci] at h
      refine m_rideM (by decide) (by decide) (by decide) rfl (isW_of h1 (by decide) (by decide) hW) h2 (fun I3 x3 e3 => ?_)
      intro y hy y2 hy2
      rw [hy2, nI_1, hy]
      refine ih (k + 1) _ _ I3 (by omega) (h1.tr x3) e3 (fun I4 x4 e4 => ?_)
      have := h I4 x4 e4
      rw [show k + 1 + (rsM w d (c ||| cmM w μ) (rdM w μ)).1 = k + ((rsM w d (c ||| cmM w μ) (rdM w μ)).1 + 1) by omega]
      exact this
theorem in_N {N : Nat} (hN : N < 2 ^ 31 - 1) {x : Int32} {w2 : Int64} {I : sw_I} {J : sw_J} {Q : Int32 → sw_I → sw_J → Prop} (hw2 : w2 = (nI N).toInt64) (h0 : (¬ ∃ i, i ≤ N ∧ x = nI i) → Q 0 I J) (h1 : ∀ i, i ≤ N → x = nI i → Q 1 I J) : wp_X10_in x.toInt64 0 w2 I J Q := by
  refine s_X10_in (a := 0) (b := nI N) rfl hw2 (fun c => h0 (fun ⟨i, hi, ei⟩ => ?_)) (fun c1 c2 => ?_)
  · rcases c with w | w
    · rw [ei] at w; exact nI_pos (by omega) w
    · rw [ei] at w; exact nI_nlt hi (by omega) w
  · obtain ⟨i, hi, ei⟩ := ixN (n := N + 1) (by omega) c1 (fun w => c2 (Int32.lt_of_lt_of_le (nI_lt (by omega) (by omega)) w))
    exact h1 i (by omega) ei
theorem if_N {N : Nat} (hN : N < 2 ^ 31 - 1) {x b : Int32} {A B : Prop} (hb : b = nI N) (h0 : (¬ ∃ i, i ≤ N ∧ x = nI i) → A) (h1 : ∀ i, i ≤ N → x = nI i → B) : sw_if (x < 0) A (sw_if (b < x) A B) := by
  rw [hb]
  by_cases c1 : x < 0
  · rw [sw_if_t c1]; exact h0 (fun ⟨i, hi, ei⟩ => by rw [ei] at c1; exact nI_pos (by omega) c1)
  · rw [sw_if_f c1]
    by_cases c2 : nI N < x
    · rw [sw_if_t c2]; exact h0 (fun ⟨i, hi, ei⟩ => by rw [ei] at c2; exact nI_nlt hi (by omega) c2)
    · rw [sw_if_f c2]
      obtain ⟨i, hi, ei⟩ := ixN (n := N + 1) (by omega) c1 (fun w => c2 (Int32.lt_of_lt_of_le (nI_lt (by omega) (by omega)) w))
      exact h1 i (by omega) ei
/-- the class's side of a past that is put by: cells behind it -/
def psC (d q p : Nat) (I I1 : sw_I) : Prop := if d = 0 then I1 21 = I 21 else I1 21 1 = nI ((q + 1) % 21) ∧ I1 21 2 = nI (adN p)
def psM (d p : Nat) (u row : Nat → Int32) (I1 : sw_I) : Prop := if d = 0 then I1 140 32 = nI p ∧ I1 155 = puF u row p 33 else I1 140 32 = nI (adN p) ∧ I1 155 = adF (puF u row p 33) p
/-- both: what is undone, behind acts of which d were done -/
theorem past_ps {I If : sw_I} {n fl q p d : Nat} (hn : n ≤ 10) (h : pastR I n fl q p) (hm : momR I 13 n fl (I 144)) (hr : ∀ c, 21 < c → c < 23 + 84 → (c < 23 + 4 * q ∨ 23 + 4 * q + 4 ≤ c) → If c = I c) (hc : cpV (23 + 4 * q) 13 I If) (h1 : psC d q p I If) (h2 : psM d p (I 155) (I 144) If) : ∃ q2 p2, pastR If n fl q2 p2 := by
  unfold psC at h1
  unfold psM at h2
  by_cases c : d = 0
  · rw [if_pos c] at h1 h2
    refine ⟨q, p, pastR_keep hn h (fun c c1 c2 c3 => ?_) h2.1 (fun j hj => ?_)⟩
    · by_cases e : c = 21
      · rw [e]; exact h1
      · exact hr c (by omega) c2 c3
    · rw [h2.2]; unfold puF; rw [if_neg (by omega)]
  · rw [if_neg c] at h1 h2
    exact ⟨_, _, pastR_push hn h hm hr hc h1.1 h1.2 h2.1 h2.2⟩
theorem psC_0 {d q p : Nat} (hp : p ≤ 20) (hq : q < 21) {I I1 : sw_I} {J : sw_J} {Q : sw_I → sw_J → Prop} (e1 : I 21 1 = nI q) (e2 : I 21 2 = nI p) (e : I1 21 = I 21) {k : Int32} (hk : k = nI d) (hd : d < 2 ^ 31) (h : ∀ I2, eqx [21] I1 I2 → psC d q p I I2 → Q I2 J) : sw_if (0 < k) (wp_X4_commit I1 J Q) (Q I1 J) := by
  rw [hk]
  by_cases c : d = 0
  · rw [sw_if_f (by rw [c]; decide)]
    exact h I1 eqx.rf (by unfold psC; rw [if_pos c]; exact e)
  · rw [sw_if_t (show (0 : Int32) < nI d from nI_lt (a := 0) (by omega) hd)]
    refine s_X4_commit hq hp (by rw [e]; exact e1) (by rw [e]; exact e2) (fun I2 x2 n2 z2 => h I2 x2 ?_)
    unfold psC; rw [if_neg c]; exact ⟨n2, z2⟩
theorem psM_0 {d p : Nat} (hp : p ≤ 20) {u row : Nat → Int32} {I1 : sw_I} {J : sw_J} {Q : sw_I → sw_J → Prop} (e1 : I1 140 32 = nI p) (e2 : I1 155 = puF u row p 33) {k : Int32} (hk : k = nI d) (hd : d < 2 ^ 31) (h : ∀ I2, eqm [155] [32] I1 I2 → psM d p u row I2 → Q I2 J) : sw_if (0 < k) (wp_X10_adds I1 J Q) (Q I1 J) := by
  rw [hk]
  by_cases c : d = 0
  · rw [sw_if_f (by rw [c]; decide)]
    exact h I1 eqm.rf (by unfold psM; rw [if_pos c]; exact ⟨e1, e2⟩)
  · rw [sw_if_t (show (0 : Int32) < nI d from nI_lt (a := 0) (by omega) hd)]
    refine s_X10_adds hp e1 (fun I2 x2 a2 u2 => h I2 x2 ?_)
    unfold psM; rw [if_neg c]; exact ⟨u2, by rw [a2, e2]⟩
abbrev mvX : List Nat := 0 :: 21 :: rdC 13
theorem s_X9_rides {w : Wd} {N q p : Nat} {μ : Mo} (hN : N ≤ 60) (hp : p ≤ 20) (hq : q < 21) {I : sw_I} {J : sw_J} {Q : Int32 → sw_I → sw_J → Prop} (hW : isW I w) (hE : moE I 13 μ) (e1 : I 21 1 = nI q) (e2 : I 21 2 = nI p)
    (h : ∀ I1 J1, (∀ c, c ∉ mvX → (c < 23 + 4 * q ∨ 23 + 4 * q + 4 ≤ c) → I1 c = I c) → cpV (23 + 4 * q) 13 I I1 → moE I1 13 (rsM w N 0 μ).2.2 → psC (rsM w N 0 μ).1 q p I I1 → eqj [118] J J1 → tlC I1 J1 [(rsM w N 0 μ).2.1.toInt64, (oL (rsM w N 0 μ).2.2).toInt64] → Q (nI (rsM w N 0 μ).1) I1 J1) : wp_X4_prepare 13 I J (fun I4 J5 => ∃ n6 : Nat, wl_X9_rides_27 Q n6 (nI N) 0 0 I4 J5) := by
  refine s_X4_prepare (q := q) (by omega) hq e1 (fun I1 k1 => ⟨N + 1, ?_⟩)
  have f1 := k1.1
  have hW1 : isW I1 w := by
    refine isW_of (C := [23 + 4 * q, 23 + 4 * q + 1, 23 + 4 * q + 2, 23 + 4 * q + 3]) (F := []) ⟨fun c hc _ => f1 c (by simp at hc; omega), fun k _ => by rw [f1 _ (by omega)]⟩ (fun c hc => ?_) (by decide) hW
    have : c < 21 ∨ 23 + 84 ≤ c := by revert c; decide +kernel
    simp; omega
  refine s_rides_loop (w := w) hN hW1 N 0 0 μ I1 (by omega) eqx.rf (moE_cong (fun c c1 c2 => f1 c (by omega)) hE) (fun I3 x3 E3 => ?_)
  rw [Nat.zero_add]
  have hle := rsM_le w N 0 μ
  generalize rsM w N 0 μ = R at h hle E3 ⊢
  unfold wB_X9_rides_62
  refine psC_0 hp hq (I := I) e1 e2 (by rw [x3 _ (by decide), f1 _ (by omega)]) rfl (by omega) (fun I4 x4 ps4 => ?_)
  unfold wB_X9_rides_73
  refine t_clear (fun I5 x5 t5 => t_tell (by decide) t5 (fun I6 J6 x6 j6 t6 => t_tell (by simp) t6 (fun I7 J7 x7 j7 t7 => ?_)))
  have g7 : ∀ c, c ≠ 0 → I7 c = I4 c := fun c hc => by rw [x7 c (by simpa using hc), x6 c (by simpa using hc), x5 c (by simpa using hc)]
  have g6 : ∀ c, c ≠ 0 → I6 c = I4 c := fun c hc => by rw [x6 c (by simpa using hc), x5 c (by simpa using hc)]
  have g4 : ∀ c, c ≠ 21 → I4 c = I3 c := fun c hc => x4 c (by simpa using hc)
  have E7 : moE I7 13 R.2.2 := moE_cong (fun c c1 c2 => by rw [g7 c (by omega), g4 c (by omega)]) E3
  have el : I6 13 4 = oL R.2.2 := by rw [g6 _ (by decide), g4 _ (by decide)]; exact E3.2.2.1
  rw [el] at t7
  have fr : ∀ c, c ∉ mvX → I7 c = I1 c := fun c hc => by
    simp only [mvX, List.mem_cons, not_or] at hc
    rw [g7 c hc.1, g4 c hc.2.1, x3 c (by simp only [List.mem_cons, not_or]; exact hc.2.2)]
  refine h I7 J7 (fun c c1 c2 => by rw [fr c c1, f1 c c2]) ⟨fun i hi => ?_, ?_, ?_, ?_⟩ E7 ?_ (j6.tr j7) t7
  · rw [fr _ (by simp; omega), fr _ (by simp; omega), fr _ (by simp; omega)]; exact k1.2.1 i hi
  · rw [fr _ (by simp; omega)]; exact k1.2.2.1
  · rw [fr _ (by simp; omega)]; exact k1.2.2.2.1
  · rw [fr _ (by simp; omega)]; exact k1.2.2.2.2
  · unfold psC at ps4 ⊢
    rw [g7 _ (by decide)]; exact ps4
abbrev mvM : List Nat := 144 :: 155 :: mnsC
abbrev mvF : List Nat := 0 :: 32 :: 1 :: maF
theorem s_X10_rides {w : Wd} {N p : Nat} {μ : Mo} (hN : N ≤ 60) (hp : p ≤ 20) {I : sw_I} {J : sw_J} {Q : Int32 → sw_I → sw_J → Prop} (hW : isW I w) (hR : relM w μ (I 144)) (e1 : I 140 32 = nI p)
    (h : ∀ I1 J1, eqm mvM mvF I I1 → I1 140 0 = 0 → relM w (rsM w N 0 μ).2.2 (I1 144) → psM (rsM w N 0 μ).1 p (I 155) (I 144) I1 → eqj [141] J J1 → tlM I1 J1 [(rsM w N 0 μ).2.1.toInt64, (oL (rsM w N 0 μ).2.2).toInt64] → Q (nI (rsM w N 0 μ).1) I1 J1) : wp_X10_rides (nI N) I J Q := by
  intro I1 a1
  refine in_N (N := 60) (by decide) rfl (fun hno => absurd ⟨N, hN, rfl⟩ hno) (fun _ _ _ => ?_)
  rw [sw_if_f (by decide)]
  have q1 : eqm mvM mvF I I1 := by rw [a1]; exact eqm.rf.upF (by decide) _
  have t1 : I1 140 0 = 0 := by rw [a1, sw_up_same]
  refine s_X10_putsBy hp (by rw [a1, sw_up_slot _ _ _ _ (by decide)]; exact e1) (fun I2 x2 u2 => ⟨N + 1, ?_⟩)
  have q2 : eqm mvM mvF I I2 := q1.tr (x2.eqm (by decide) (by decide))
  have hW2 := isW_of q2 (by decide) (by decide) hW
  have n1 : I1 144 = I 144 := by rw [a1, sw_up_row _ _ _ (by decide)]
  have n2 : I2 144 = I 144 := by rw [x2 _ (by decide), n1]
  refine m_rides_loop (w := w) hN hW2 N 0 0 μ I2 (by omega) eqm.rf (by rw [n2]; exact hR) (fun I3 x3 R3 => ?_)
  rw [Nat.zero_add]
  have hle := rsM_le w N 0 μ
  generalize rsM w N 0 μ = R at h hle R3 ⊢
  unfold wB_X10_rides_66
  have u3 : I3 155 = puF (I 155) (I 144) p 33 := by rw [x3.1 _ (by decide) (by decide), u2, n1]; congr 1; rw [a1, sw_up_row _ _ _ (by decide)]
  have d3 : I3 140 32 = nI p := by rw [x3.2 _ (by decide), x2 _ (by decide), a1, sw_up_slot _ _ _ _ (by decide)]; exact e1
  refine psM_0 hp (u := I 155) (row := I 144) d3 u3 rfl (by omega) (fun I4 x4 ps4 => ?_)
  unfold wB_X10_rides_74
  intro I5 a5
  refine t_enters (by decide) (tlM_0 a5) (fun I6 J6 x6 j6 t6 => t_enters (by simp) t6 (fun I7 J7 x7 j7 t7 => ?_))
  have q5 : eqm mvM mvF I I5 := by rw [a5]; exact ((q2.tr (x3.mono (by decide) (by decide))).tr (x4.mono (by decide) (by decide))).upF (by decide) _
  have q7 : eqm mvM mvF I I7 := (q5.tr (x6.mono (by decide) (by decide))).tr (x7.mono (by decide) (by decide))
  have g7 : ∀ c, c ≠ 140 → I7 c = I4 c := fun c hc => by rw [x7.1 c (by simp) hc, x6.1 c (by simp) hc, a5, sw_up_row _ _ _ hc]
  have g6 : ∀ c, c ≠ 140 → I6 c = I4 c := fun c hc => by rw [x6.1 c (by simp) hc, a5, sw_up_row _ _ _ hc]
  have n4 : I4 144 = I3 144 := x4.1 _ (by decide) (by decide)
  have el : I6 144 (31 : Int32).toNatClampNeg = oL R.2.2 := by rw [g6 _ (by decide), n4]; exact R3.1.2.2.1.symm
  rw [el] at t7
  have m7 : ∀ k, k ≠ 1 → I7 140 k = I4 140 k := fun k hk => by rw [x7.2 k (by simpa using hk), x6.2 k (by simpa using hk), a5, sw_up_slot _ _ _ _ hk]
  refine h I7 J7 q7 ?_ ?_ ?_ (j6.tr j7) t7
  · rw [m7 _ (by decide), x4.2 _ (by decide), x3.2 _ (by decide), x2 _ (by decide)]; exact t1
  · rw [g7 _ (by decide), n4]; exact R3
  · unfold psM at ps4 ⊢
    rw [m7 32 (by decide), g7 155 (by decide)]; exact ps4
theorem moved_fin {c : Nat} {I I1 I2 : sw_I} {J J2 : sw_J} {n fl m q p r t s z d : Nat} {μ : Mo} {L : List Int64} {CX CM FM : List Nat} (hw : wR c I J n fl m q p r t s z)
    (a1 : ∀ c, c ∉ CX → (c < 23 + 4 * q ∨ 23 + 4 * q + 4 ≤ c) → I1 c = I c) (a2 : cpV (23 + 4 * q) 13 I I1) (a3 : moE I1 13 μ) (a4 : psC d q p I I1)
    (b1 : eqm CM FM I1 I2) (b2 : relM (wdO I m n fl) μ (I2 144)) (b3 : psM d p (I 155) (I 144) I2) (hL : L.length ≤ 12) (t1 : tlC I2 J2 L) (t2 : tlM I2 J2 L)
    (d1 : ∀ c, c ∈ stC → c ∉ CX ∧ c ∉ CM ∧ c ≠ 140) (d2 : ∀ k, k ∈ stS → k ∉ FM) (d3 : ∀ c, c ∈ CX ++ CM → c ≤ 21 ∨ 23 + 84 ≤ c) (d4 : ∀ c, c ∈ [21, 13, 13 + 1, 13 + 2, 13 + 3] → c ∉ CM) (d5 : 140 ∉ CX) (d6 : ∀ c, c ∈ 113 :: (113 + 1) :: 128 :: (128 + 4) :: [128 + 8] → c ∉ CX ∧ c ∉ CM) {e : Nat} (he : e ≤ 200) (hrd : oR μ = I 13 5 + nI e) : wW (c + 1) I2 J2 := by
  obtain ⟨h0, h1, h2, h3, h4, h5, h6, h7, h8⟩ := id hw
  have hn := h1.2.2.1
  have hq := h4.1
  have nCX : ∀ c, 21 < c → c < 23 + 84 → c ∉ CX ∧ c ∉ CM := fun c c1 c2 => ⟨fun w => by have := d3 c (List.mem_append_left _ w); omega, fun w => by have := d3 c (List.mem_append_right _ w); omega⟩
  have e : sm stC stS I I2 := ⟨fun c hc => by
    obtain ⟨w1, w2, w3⟩ := d1 c hc
    rw [b1.1 c w2 w3, a1 c w1 (by have := stC_ring c hc; omega)], fun k hk => by
    rw [b1.2 k (d2 k hk), a1 _ d5 (by omega)]⟩
  have hE : moE I2 13 μ := moE_cong (fun c c1 c2 => by
    obtain ⟨d, hd, rfl⟩ : ∃ d, d < 4 ∧ c = 13 + d := ⟨c - 13, by omega, by omega⟩
    exact b1.1 _ (d4 _ (by revert d; decide)) (by omega)) a3
  have M : momR I2 13 n fl (I2 144) := momR_of (w := wdO I m n fl) hn hE b2
  have P : ∃ q2 p2, pastR I2 n fl q2 p2 := by
    refine past_ps hn h4 h3 (fun c c1 c2 c3 => ?_) ⟨fun i hi => ?_, ?_, ?_, ?_⟩ ?_ b3
    · rw [b1.1 c (nCX c c1 c2).2 (by omega), a1 c (nCX c c1 c2).1 c3]
    · rw [b1.1 _ (nCX _ (by omega) (by omega)).2 (by omega), b1.1 _ (nCX _ (by omega) (by omega)).2 (by omega), b1.1 _ (nCX _ (by omega) (by omega)).2 (by omega)]; exact a2.1 i hi
    · rw [b1.1 _ (nCX _ (by omega) (by omega)).2 (by omega)]; exact a2.2.1
    · rw [b1.1 _ (nCX _ (by omega) (by omega)).2 (by omega)]; exact a2.2.2.1
    · rw [b1.1 _ (nCX _ (by omega) (by omega)).2 (by omega)]; exact a2.2.2.2
    · unfold psC at a4 ⊢
      rw [b1.1 _ (d4 _ (by decide)) (by decide)]; exact a4
  obtain ⟨q2, p2, hP⟩ := P
  have kd : ∀ i, i < 3 → 128 + 4 * i ∈ 113 :: (113 + 1) :: 128 :: (128 + 4) :: [128 + 8] := by decide
  have B : rbR (c + 1) I2 := by
    refine rb_mk (d := 200) h0.2 (by omega) ⟨13, mv_now, _, he, ?_⟩ (fun i hi => ?_) (fun i hi => ?_) ?_ ?_
    · rw [hE.2.2.2]; exact hrd
    · have w := nCX (23 + 4 * i) (by omega) (by omega)
      by_cases ci : i = q
      · exact ⟨13, mv_now, by rw [ci, b1.1 _ (by rw [← ci]; exact w.2) (by omega)]; exact a2.2.2.2⟩
      · exact ⟨_, mv_ring i hi, by rw [b1.1 _ w.2 (by omega), a1 _ w.1 (by omega)]⟩
    · have w := d6 _ (kd i hi)
      exact ⟨_, mv_kept i hi, by rw [b1.1 _ w.2 (by omega), a1 _ w.1 (by omega)]⟩
    · have w := d6 (113 + 1) (by decide)
      rw [b1.1 _ w.2 (by decide), a1 _ w.1 (by omega)]
    · have w := d6 113 (by decide)
      rw [b1.1 _ w.2 (by decide), a1 _ w.1 (by omega)]
  exact ⟨n, fl, m, q2, p2, _, t, s, z, wR_moved hw e M hP (rwR_of hL t1 t2) (by omega) B⟩
theorem p_rides {c : Nat} {x1 : Int32} {I : sw_I} {J : sw_J} {Q : Int32 → Int32 → sw_I → sw_J → Prop} (h : wW c I J) (hQ : ∀ v I2 J2, wW (c + 1) I2 J2 → I2 140 0 = 0 → Q v v I2 J2) :
    wp_X9_rides x1 I J (fun r I1 J1 => wp_X10_rides x1 I1 J1 (fun r2 I2 J2 => Q r r2 I2 J2)) := by
  obtain ⟨n, fl, m, q, p, r, t, s, z, hw⟩ := h
  obtain ⟨h0, h1, h2, h3, h4, h5, h6, h7, h8⟩ := id hw
  have hn := h1.2.2.1
  obtain ⟨p1, p2, p3, p4, p5, p6⟩ := id h4
  unfold wp_X9_rides
  refine if_N (N := 60) (by decide) rfl (fun hno => ?_) (fun N hN eN => ?_)
  · intro I2 e2
    refine in_N (N := 60) (by decide) rfl (fun _ => ?_) (fun i hi ei => absurd ⟨i, hi, ei⟩ hno)
    rw [sw_if_t rfl]; exact hQ _ I2 J (th_up (th_of hw e2).1) (th_of hw e2).2
  · rw [eN]
    refine s_X9_rides (w := wdO I m n fl) (μ := moC I 13) hN p2 p1 (isW_O h1 h2) (moE_C _ _) p3 p4 (fun I1 J1 a1 a2 a3 a4 a5 a6 => ?_)
    have ym : ∀ c, c ∈ [140, 144, 155] → I1 c = I c := fun c hc => a1 c (by revert c; decide) (by have : 23 + 84 ≤ c := (by revert c; decide); omega)
    have hW1 : isW I1 (wdO I m n fl) := by
      have e : sm (hsC ++ lC) (hsF ++ lF) I I1 := ⟨fun c hc => a1 c (by revert c; decide) (by have : c < 21 ∨ 23 + 84 ≤ c := (by revert c; decide); omega), fun k _ => by rw [ym _ (by decide)]⟩
      exact ⟨hsR_cong h1 (e.mono (by decide) (by decide)), lR_cong h2 (e.mono (by decide) (by decide)), e.1 _ (by decide), e.1 _ (by decide), e.2 _ (by decide)⟩
    refine s_X10_rides (w := wdO I m n fl) (μ := moC I 13) hN p2 hW1 (by rw [ym _ (by decide)]; exact h3) (by rw [ym _ (by decide)]; exact p5) (fun I2 J2 b1 b2 b3 b4 b5 b6 => ?_)
    rw [ym _ (by decide), ym _ (by decide)] at b4
    refine hQ _ I2 J2 (moved_fin hw a1 a2 a3 a4 b1 b3 b4 (by simp) (tlC_of a6 (b1.1 _ (by decide) (by decide)) (b5 _ (by decide))) b6 (by decide) (by decide) (by decide) (by decide) (by decide) (by decide) (Nat.le_trans (rsM_le _ _ _ _) (by omega)) (rsM_R _ _ _ _)) b2
