/-! promise: split -/
theorem stF_congL {lift : Int32} {wv wv2 : Nat → Int32} : ∀ {k : Nat}, (∀ j, j < k → ¬ nI j = lift → wv2 j = wv j) → stF lift wv2 k = stF lift wv k
  | 0, _ => rfl
  | k + 1, h => by
    have ih := stF_congL (lift := lift) (k := k) (fun j hj => h j (by omega))
    unfold stF
    by_cases c : nI k = lift
    · rw [if_pos c, if_pos c, ih]
    · rw [if_neg c, if_neg c, ih, h k (by omega) c]
/-- those who stand on the lift's floor make no stop -/
theorem ns_home {cd pl pl2 wi : Nat → Int32} {m n fl : Nat} {dog s lift rides : Int32} (hfl : fl ≤ 9) (h : ∀ i, i < n → pl2 i = pl i ∨ (pl i = lift ∧ pl2 i = -1)) : nsF cd m pl2 wi n fl dog s lift rides = nsF cd m pl wi n fl dog s lift rides := by
  unfold nsF
  rw [stF_congL (fun j hj hne => ?_)]
  unfold woF
  rw [nmF_cong (k := j) (by omega)]
  · rfl
  · refine ct_cong (fun i hi => ?_)
    rcases h i hi with e | ⟨e1, e2⟩
    · rw [e]
    · rw [e1, e2, decide_eq_false (p := lift = nI j) (fun q => hne q.symm), decide_eq_false (p := (-1 : Int32) = nI j) (nem1 (by omega))]
theorem m_rideA {I : sw_I} {J : sw_J} {b : Nat} {w : Wd} {μ : Mo} {s : Int32} (hb : b ∉ mnsC) (hbm : b ≠ 140) (hbh : b ≠ 142) {Q : Int32 → sw_I → sw_J → Prop} (hW : isW I w) (hR : relF μ.1 μ.2.1 μ.2.2.1 (oI μ) (oL μ) (oR μ) (I b) (wn w) (wf w)) (hv : ∀ i, i < wn w → fw (wf w) (μ.2.1 i)) (hl : ∃ l, l < wf w ∧ oL μ = nI l)
    (h : ∀ I2, eqm (b :: mnsC) maF I I2 → I2 b 31 = stM w μ s → Q (cmF w.2.2.1 s (stM w μ s) (wn w)) I2 J) : wp_X10_travels b 33 s I J Q := by
  obtain ⟨h1, h2, h3, h4, h5⟩ := hW
  obtain ⟨l9, hl9, e9⟩ := hl
  have h9 := h1.2.1
  have e31 : I b 31 = nI l9 := by rw [← hR.2.2.1]; exact e9
  have hrow : mrow b (wn w) I := fun i hi => by
    obtain ⟨a1, a2, a3⟩ := hR.1 i hi
    refine ⟨?_, by rw [← a2]; exact fw9 h9 (hv i hi)⟩
    rcases a1 with ⟨-, q⟩ | ⟨q, j, hj, q2⟩
    · exact Or.inl q
    · exact Or.inr ⟨j, by omega, by rw [← q]; exact q2⟩
  refine s_X10_travels h1.2.2.1 hb hbm hbh h9 (by omega) h1.2.2.2.2.2.2.1 hrow e31 (fw9 h9 h1.2.2.2.2.2.2.2.2.1) h2.2.1 h2.2.2.1 h2.2.2.2.1 h1.2.2.2.2.1 (fun I2 r2 => ?_)
  have e := nsF_rel (cd := I 7) (m := w.2.1) (dog := I 140 5) (s := s) hR h9
  rw [← e, h3, h5] at r2 ⊢
  have hhm : ∀ i, i < wn w → w.2.2.1 i = I 142 i := fun i hi => by rw [← h4]; exact (h1.2.2.2.2.2.2.2.2.2.1 i hi).1
  rw [← cmF_home hhm]
  obtain ⟨m1, m2, m3⟩ := r2
  refine h I2 ⟨fun c hc hcm => ?_, m2⟩ (by rw [m3]; rfl)
  simp only [List.mem_cons, not_or] at hc
  exact m1 c (by simpa using hc.2) hc.1 hcm
def plA (pl : Nat → Int32) (s : Int32) (k : Nat) : Nat → Int32 := fun i => if i < k ∧ inB s i = true then -1 else pl i
theorem m_alone {w : Wd} {μ : Mo} {I : sw_I} {J : sw_J} {s M : Int32} (hM : ∀ i, i < wn w → inB M i = true → μ.1 i = oL μ) {Q : Int32 → sw_I → sw_J → Prop} (hW : isW I w) (hR : relM w μ (I 144)) (h : ∀ I2, eqm (145 :: mnsC) maF I I2 → I2 145 31 = stM w μ s → Q (bcF (cmF w.2.2.1 s (stM w μ s) (wn w))) I2 J) : wp_X10_rideAlone s M I J Q := by
  have hn := hW.1.2.2.1
  have h9 := hW.1.2.1
  refine s_X10_puts (by decide) (fun I1 x1 r1 => ?_)
  have R1 : relM w μ (I1 145) := relM_cong hn r1 hR
  have loop : ∀ (d k : Nat) (I2 : sw_I), k + d = wn w → eqx [145] I1 I2 → relF (plA μ.1 (M &&& (s ^^^ (-1))) k) μ.2.1 μ.2.2.1 (oI μ) (oL μ) (oR μ) (I2 145) (wn w) (wf w) → wl_X10_rideAlone_13 Q (d + 1) s M (nI k) I2 J := by
    intro d
    induction d with
    | zero =>
      intro k I2 hk x2 R2
      obtain rfl : k = wn w := by omega
      have q2 : eqm (145 :: mnsC) maF I I2 := (x1.eqm (by decide) (by decide)).tr (x2.eqm (by decide) (by decide))
      show wb_X10_rideAlone_13 _ Q _ _ _ I2 J
      unfold wb_X10_rideAlone_13
      rw [sw_if_f (by rw [q2.2 _ (by decide), hW.1.2.2.2.2.2.2.1]; exact nI_nlt (Nat.le_refl _) (by omega))]
      refine m_rideA (w := w) (μ := (plA μ.1 (M &&& (s ^^^ (-1))) (wn w), μ.2)) (by decide) (by decide) (by decide) (isW_of q2 (by decide) (by decide) hW) R2 (fun i hi => (hR.2.1 i hi).2) hR.2.2.2.1 (fun I3 x3 e3 => s_J6_bitCount ?_)
      have es : stM w (plA μ.1 (M &&& (s ^^^ (-1))) (wn w), μ.2) s = stM w μ s := by
        unfold stM
        refine ns_home h9 (fun i hi => ?_)
        show plA μ.1 _ (wn w) i = μ.1 i ∨ _
        unfold plA
        by_cases c : i < wn w ∧ inB (M &&& (s ^^^ (-1))) i = true
        · rw [if_pos c]
          have hb := c.2
          rw [inB_and _ _ (by omega), Bool.and_eq_true] at hb
          exact Or.inr ⟨hM i hi hb.1, by show (if _ then _ else _) = _; rw [if_pos c]⟩
        · rw [if_neg c]; exact Or.inl rfl
      rw [es] at e3 ⊢
      exact h I3 (q2.tr x3) e3
    | succ d ih =>
      intro k I2 hk x2 R2
      have q2 : eqm (145 :: mnsC) maF I I2 := (x1.eqm (by decide) (by decide)).tr (x2.eqm (by decide) (by decide))
      show wb_X10_rideAlone_13 _ Q _ _ _ I2 J
      unfold wb_X10_rideAlone_13
      rw [sw_if_t (by rw [q2.2 _ (by decide), hW.1.2.2.2.2.2.2.1]; exact nI_lt (by omega) (by omega))]
      have go : ∀ v : Int32, (v = 9 ∧ inB (M &&& (s ^^^ (-1))) k = true) ∨ (v = I2 145 k ∧ inB (M &&& (s ^^^ (-1))) k = false) → wB_X10_rideAlone_49 (wl_X10_rideAlone_13 Q (d + 1)) Q s M (nI k) (nI k) v I2 J := by
        intro v hv
        unfold wB_X10_rideAlone_49
        rw [nI_clamp (by omega)]
        refine ⟨vp0 (by omega) (by decide), fun I3 e3 y hy => ?_⟩
        rw [hy, nI_1]
        refine ih (k + 1) I3 (by omega) (by rw [e3]; exact x2.up (by decide) _ _) ?_
        have g3 : I3 145 = fun j => if j = k then v else I2 145 j := by rw [e3, sw_up_rowf]
        obtain ⟨c1, c2, c3, c4⟩ := R2
        rw [g3]
        refine ⟨fun i hi => ?_, ?_, ?_, ?_⟩
        · obtain ⟨d1, d2, d3⟩ := c1 i hi
          have n1 : ¬ 10 + i = k := by omega
          have n2 : ¬ 20 + i = k := by omega
          simp only [n1, n2, if_false]
          refine ⟨?_, d2, d3⟩
          by_cases ck : i = k
          · subst ck
            simp only [if_true]
            unfold plA at d1 ⊢
            rcases hv with ⟨v1, v2⟩ | ⟨v1, v2⟩
            · rw [if_pos ⟨by omega, v2⟩]; exact Or.inl ⟨rfl, v1⟩
            · rw [if_neg (fun q => by rw [v2] at q; exact absurd q.2 (by decide)), v1]
              rw [if_neg (fun q => by omega)] at d1; exact d1
          · simp only [if_neg ck]
            unfold plA at d1 ⊢
            by_cases cc : i < k ∧ inB (M &&& (s ^^^ (-1))) i = true
            · rw [if_pos cc] at d1; rw [if_pos ⟨by omega, cc.2⟩]; exact d1
            · rw [if_neg cc] at d1; rw [if_neg (fun q => cc ⟨by omega, q.2⟩)]; exact d1
        · show _ = if 30 = k then v else _; rw [if_neg (by omega)]; exact c2
        · show _ = if 31 = k then v else _; rw [if_neg (by omega)]; exact c3
        · show _ = if 32 = k then v else _; rw [if_neg (by omega)]; exact c4
      refine s_X10_has ?_
      cases hb : inB (M &&& (s ^^^ (-1))) k
      · rw [sw_if_t (by simp), nI_clamp (by omega)]
        exact ⟨vp0 (by omega) (by decide), go _ (Or.inr ⟨rfl, hb⟩)⟩
      · rw [sw_if_f (by simp)]
        exact go 9 (Or.inl ⟨rfl, hb⟩)
  refine ⟨wn w + 1, loop (wn w) 0 I1 (Nat.zero_add _) eqx.rf ?_⟩
  have : plA μ.1 (M &&& (s ^^^ (-1))) 0 = μ.1 := by funext i; unfold plA; rw [if_neg (fun q => by omega)]
  rw [this]; exact R1.1
/-- who comes home of a set that rides -/
def hmS (w : Wd) (μ : Mo) (s : Int32) : Int32 := cmF w.2.2.1 s (stM w μ s) (wn w)
theorem hmS_bit (w : Wd) (hn : wn w ≤ 32) (μ : Mo) (s : Int32) {k : Nat} (hk : k < 32) : inB (hmS w μ s) k = (decide (k < wn w) && (inB s k && decide (w.2.2.1 k = stM w μ s))) := by
  unfold hmS cmF; rw [inB_bs _ _ hn k hk]
theorem hmS_bN {w : Wd} (hn : wn w ≤ 10) (μ : Mo) (s : Int32) : bN (wn w) (hmS w μ s) := fun k hk hb => by rw [hmS_bit w (by omega) μ s hk] at hb; simp at hb; exact hb.1
def spV (w : Wd) (μ : Mo) (M : Int32) (j : Nat) : Nat := (bcF (hmS w μ (nI j) ||| hmS w μ (M &&& (nI j ^^^ (-1))))).toNatClampNeg
theorem spV_eq {w : Wd} (hn : wn w ≤ 10) (μ : Mo) (M : Int32) (j : Nat) : bcF (hmS w μ (nI j) ||| hmS w μ (M &&& (nI j ^^^ (-1)))) = nI (spV w μ M j) ∧ bcF (hmS w μ (nI j)) + bcF (hmS w μ (M &&& (nI j ^^^ (-1)))) = nI (spV w μ M j) ∧ spV w μ M j ≤ 10 := by
  have hb : bN (wn w) (hmS w μ (nI j) ||| hmS w μ (M &&& (nI j ^^^ (-1)))) := fun k hk hb => by
    rw [inB_or _ _ hk, Bool.or_eq_true] at hb
    exact hb.elim (hmS_bN hn μ _ k hk) (hmS_bN hn μ _ k hk)
  obtain ⟨t, ht, et⟩ := bN_ix hn hb
  have hp : 2 ^ wn w ≤ 2 ^ 10 := Nat.pow_le_pow_right (by decide) hn
  have hpc := pcN_le t 10
  have e1 : bcF (hmS w μ (nI j) ||| hmS w μ (M &&& (nI j ^^^ (-1)))) = nI (spV w μ M j) ∧ spV w μ M j ≤ 10 := by
    unfold spV
    rw [et, bc10 t (by omega), nI_clamp (by omega)]; exact ⟨rfl, hpc⟩
  refine ⟨e1.1, ?_, e1.2⟩
  rw [← bc_or hn (hmS_bN hn μ _) (hmS_bN hn μ _) (fun k hk h => ?_)]
  · exact e1.1
  · rw [hmS_bit w (by omega) μ _ hk] at h ⊢
    simp at h
    rw [inB_and _ _ hk, inB_not _ hk, h.2.1]; simp
def spS (w : Wd) (μ : Mo) (M : Int32) (j : Nat) (o : Option (Nat × Nat)) : Option (Nat × Nat) := if hdT o (spV w μ M j) = true then some (j, spV w μ M j) else o
def spM (w : Wd) (μ : Mo) (M : Int32) : List Nat → Option (Nat × Nat) → Option (Nat × Nat)
  | [], o => o
  | j :: L, o => spM w μ M L (spS w μ M j o)
def spK (o : Option (Nat × Nat)) : Prop := ∀ b, o = some b → b.1 < 1024 ∧ b.2 ≤ 10
theorem spK_s {w : Wd} (hn : wn w ≤ 10) {μ : Mo} {M : Int32} {j : Nat} {o : Option (Nat × Nat)} (hj : j < 1024) (h : spK o) : spK (spS w μ M j o) := by
  intro b hb
  unfold spS at hb
  split at hb
  · obtain rfl := Option.some.inj hb; exact ⟨hj, (spV_eq hn μ M j).2.2⟩
  · exact h b hb
theorem sp_lt {v : Nat} (hv : v ≤ 10) {o : Option (Nat × Nat)} (h : spK o) : (hdN o < nI v) ↔ hdT o v = true := by
  cases o with
  | none =>
    refine ⟨fun _ => rfl, fun _ => ?_⟩
    show (-1 : Int32) < nI _
    rw [Int32.lt_iff_toInt_lt, nI_toInt (by omega)]
    show (-1 : Int) < _; omega
  | some b =>
    have hb := (h b rfl).2
    show (nI b.2 < nI _) ↔ decide (b.2 < _) = true
    rw [decide_eq_true_iff]
    constructor
    · intro q
      rcases Nat.lt_or_ge b.2 v with z | z
      · exact z
      · exact absurd q (nI_nlt z (by omega))
    · intro q; exact nI_lt q (by omega)
theorem spM_some {w : Wd} {μ : Mo} {M : Int32} : ∀ (L : List Nat) (o : Option (Nat × Nat)), o.isSome = true ∨ L ≠ [] → (spM w μ M L o).isSome = true
  | [], o, h => by rcases h with h | h; exact h; exact absurd rfl h
  | j :: L, o, _ => by
    refine spM_some L _ (Or.inl ?_)
    unfold spS
    cases o with
    | none => rfl
    | some b => split <;> rfl
def spB (o : Option (Nat × Nat)) : Int32 := match o with | none => 0 | some b => nI b.1
def spL (w : Wd) (μ : Mo) (M : Int32) (b : Nat × Nat) : List Int64 := [(nI b.1).toInt64, (stM w μ (nI b.1)).toInt64, (stM w μ (M &&& (nI b.1 ^^^ (-1)))).toInt64]
theorem s_split_loop {w : Wd} {μ : Mo} {M T : Nat} (hT : T ≤ 1024) {I : sw_I} {J : sw_J} {Q : Int32 → sw_I → sw_J → Prop} (hW : isW I w) (hE : moE I 13 μ) :
    ∀ (L : List Nat) (k : Nat) (s : Int32) (o : Option (Nat × Nat)) (I2 : sw_I), k + L.length = T → chn (nI M) L s → (∀ j, j ∈ L → j < 1024) → spK o → eqx nsC I I2 → (o.isSome = true ∨ L ≠ []) → (∀ b, spM w μ (nI M) L o = some b → ∀ I3 J3, eqx chC I I3 → eqj [118] J J3 → tlC I3 J3 (spL w μ (nI M) b) → Q (nI b.2) I3 J3) → wl_X9_split_31 Q (L.length + 1) (nI M) (nI T) (hdN o) (spB o) s (nI k) I2 J := by
  have hn := hW.1.2.2.1
  intro L
  induction L with
  | nil =>
    intro k s o I2 hk hc hm ho h1 hne h
    simp at hk
    subst hk
    show wb_X9_split_31 _ Q _ _ _ _ _ _ I2 J
    unfold wb_X9_split_31
    rw [sw_if_f (nI_nlt (Nat.le_refl _) (by omega))]
    have hsome : o.isSome = true := by rcases hne with q | q; exact q; exact absurd rfl q
    obtain ⟨b, rfl⟩ := Option.isSome_iff_exists.mp hsome
    refine t_clear (fun I3 x3 t3 => t_tell (by decide) t3 (fun I4 J4 x4 j4 t4 => ?_))
    have q4 : eqx chC I I4 := ((h1.mono (by decide)).tr (x3.mono (by decide))).tr (x4.mono (by decide))
    refine c_stopM (by decide) (isW_of (q4.eqm (C := chC) (F := []) (fun _ q => q) (by decide)) (by decide) (by decide) hW) (moE_cong (fun c c1 c2 => q4 c (by simp; omega)) hE) (fun I5 x5 => t_tell (by simp) (tlC_of t4 (x5 _ (by decide)) rfl) (fun I6 J6 x6 j6 t6 => ?_))
    have q6 : eqx chC I I6 := (q4.tr (x5.mono (by decide))).tr (x6.mono (by decide))
    refine c_stopM (by decide) (isW_of (q6.eqm (C := chC) (F := []) (fun _ q => q) (by decide)) (by decide) (by decide) hW) (moE_cong (fun c c1 c2 => q6 c (by simp; omega)) hE) (fun I7 x7 => t_tell (by simp) (tlC_of t6 (x7 _ (by decide)) rfl) (fun I8 J8 x8 j8 t8 => ?_))
    exact h b rfl I8 J8 ((q6.tr (x7.mono (by decide))).tr (x8.mono (by decide))) ((j4.tr j6).tr j8) t8
  | cons j L ih =>
    intro k s o I2 hk hc hm ho h1 hne h
    rw [List.length_cons] at hk
    obtain ⟨rfl, hc2⟩ := hc
    have hj := hm j List.mem_cons_self
    show wb_X9_split_31 _ Q _ _ _ _ _ _ I2 J
    unfold wb_X9_split_31
    rw [sw_if_t (nI_lt (by omega) (by omega))]
    have wW : ∀ I4, eqx nsC I I4 → isW I4 w := fun I4 x => isW_of (x.eqm (C := nsC) (F := []) (fun _ q => q) (by decide)) (by decide) (by decide) hW
    have eE : ∀ I4, eqx nsC I I4 → moE I4 13 μ := fun I4 x => moE_cong (fun c c1 c2 => x c (by simp; omega)) hE
    refine c_stopM (by decide) (wW I2 h1) (eE I2 h1) (fun I3 x3 => ?_)
    have q3 := h1.tr x3
    refine s_X1_homeAt (n := wn w) hn (wW I3 q3).1.2.2.2.2.2.1 ?_
    refine c_stopM (by decide) (wW I3 q3) (eE I3 q3) (fun I4 x4 => ?_)
    have q4 := q3.tr x4
    refine s_X1_homeAt (n := wn w) hn (wW I4 q4).1.2.2.2.2.2.1 ?_
    rw [(wW I3 q3).2.2.2.1, (wW I4 q4).2.2.2.1]
    intro y hy
    have ey : y = hmS w μ (nI j) ||| hmS w μ (nI M &&& (nI j ^^^ (-1))) := hy
    obtain ⟨v1, -, v3⟩ := spV_eq hn μ (nI M) j
    refine s_J6_bitCount ?_
    rw [ey, v1]
    have nxt : ∀ I5, eqx nsC I I5 → wB_X9_split_111 (wl_X9_split_31 Q (L.length + 1)) Q (nI M) (nI T) (hdN (spS w μ (nI M) j o)) (spB (spS w μ (nI M) j o)) (nI j) (nI k) I5 J := by
      intro I5 x5
      unfold wB_X9_split_111 wp_X9_nextSet
      intro y hy
      rw [hy, nI_1]
      refine ih (k + 1) _ _ I5 (by omega) hc2 (fun i hi => hm i (List.mem_cons_of_mem _ hi)) (spK_s hn hj ho) x5 (Or.inl ?_) h
      unfold spS
      cases o with
      | none => rfl
      | some b => split <;> rfl
    have n4 := nxt I4 q4
    by_cases c1 : hdN o < nI (spV w μ (nI M) j)
    · rw [sw_if_t c1]
      refine s_J6_bitCount ?_
      rw [v1]
      unfold spS at n4
      rw [if_pos ((sp_lt v3 ho).mp c1)] at n4
      exact n4
    · rw [sw_if_f c1]
      unfold spS at n4
      rw [if_neg (fun q => c1 ((sp_lt v3 ho).mpr q))] at n4
      exact n4
theorem st10 : ∀ a, a < 9 → ∀ b, b < 9 → ((10 : Int32) * nI a + nI b) / 10 = nI a ∧ ((10 : Int32) * nI a + nI b) - ((10 : Int32) * nI a + nI b) / 10 * 10 = nI b := by decide +kernel
def spT (w : Wd) (μ : Mo) (M : Int32) (o : Option (Nat × Nat)) : Int32 := match o with | none => 0 | some b => (10 : Int32) * stM w μ (nI b.1) + stM w μ (M &&& (nI b.1 ^^^ (-1)))
theorem m_split_loop {w : Wd} {μ : Mo} {M : Nat} (hM : M < 2 ^ wn w) {I : sw_I} {J : sw_J} {Q : Int32 → sw_I → sw_J → Prop} (hW : isW I w) (hR : relM w μ (I 144)) (hMl : ∀ i, i < wn w → inB (nI M) i = true → μ.1 i = oL μ) :
    ∀ (d j : Nat) (o : Option (Nat × Nat)) (I2 : sw_I), j + d = 2 ^ wn w → spK o → eqm (145 :: mnsC) maF I I2 → (o.isSome = true ∨ rmL M d j ≠ []) → (∀ b, spM w μ (nI M) (rmL M d j) o = some b → ∀ I3 J3, eqm (145 :: mnsC) (1 :: maF) I I3 → eqj [141] J J3 → tlM I3 J3 (spL w μ (nI M) b) → Q (nI b.2) I3 J3) → wl_X10_split_24 Q (d + 1) (nI M) (hdN o) (spB o) (spT w μ (nI M) o) (nI j) I2 J := by
  have h9 := hW.1.2.1
  have hn := hW.1.2.2.1
  have hp : 2 ^ wn w ≤ 2 ^ 10 := Nat.pow_le_pow_right (by decide) hn
  have ff : ∀ I2, eqm (145 :: mnsC) maF I I2 → (1 : Int32) <<< (I2 140 4 &&& 31) = nI (2 ^ wn w) := fun I2 e => by rw [e.2 _ (by decide), hW.1.2.2.2.2.2.2.1]; exact shl_1 _ hn
  intro d
  induction d with
  | zero =>
    intro j o I2 hk ho h1 hne h
    obtain rfl : j = 2 ^ wn w := by omega
    show wb_X10_split_24 _ Q _ _ _ _ _ I2 J
    unfold wb_X10_split_24
    rw [sw_if_f (by rw [ff I2 h1]; exact nI_nlt (Nat.le_refl _) (by omega))]
    have hsome : o.isSome = true := by rcases hne with q | q; exact q; exact absurd rfl q
    obtain ⟨b, rfl⟩ := Option.isSome_iff_exists.mp hsome
    intro I3 e3
    have q3 : eqm (145 :: mnsC) (1 :: maF) I I3 := by rw [e3]; exact (h1.mono (by decide) (by decide)).upF (by decide) _
    obtain ⟨ja, ha, ea, -⟩ := stM_rng hW μ (nI b.1)
    obtain ⟨jb, hb, eb, -⟩ := stM_rng hW μ (nI M &&& (nI b.1 ^^^ (-1)))
    have et : spT w μ (nI M) (some b) = (10 : Int32) * nI ja + nI jb := by show (10 : Int32) * stM w μ (nI b.1) + stM w μ (nI M &&& (nI b.1 ^^^ (-1))) = _; rw [ea, eb]
    obtain ⟨d1, d2⟩ := st10 ja (by omega) jb (by omega)
    rw [et, d2, d1]
    refine t_enters (by decide) (tlM_0 e3) (fun I4 J4 x4 j4 t4 => t_enters (by simp) t4 (fun I5 J5 x5 j5 t5 => t_enters (by simp) t5 (fun I6 J6 x6 j6 t6 => ?_)))
    refine h b rfl I6 J6 (((q3.tr (x4.mono (by decide) (by decide))).tr (x5.mono (by decide) (by decide))).tr (x6.mono (by decide) (by decide))) ((j4.tr j5).tr j6) ?_
    unfold spL
    rw [ea, eb]; exact t6
  | succ d ih =>
    intro j o I2 hk ho h1 hne h
    show wb_X10_split_24 _ Q _ _ _ _ _ I2 J
    unfold wb_X10_split_24
    rw [sw_if_t (by rw [ff I2 h1]; exact nI_lt (by omega) (by omega))]
    rw [rmL_s] at h hne
    by_cases cs : sbB M j = true
    · rw [sw_if_t ((sub_iff (by omega) hM hn).mpr cs)]
      rw [if_pos cs] at h
      have RR : ∀ I4, eqm (145 :: mnsC) maF I I4 → relM w μ (I4 144) := fun I4 x => by rw [x.1 _ (by decide) (by decide)]; exact hR
      refine m_alone (w := w) (μ := μ) hMl (isW_of h1 (by decide) (by decide) hW) (RR I2 h1) (fun I3 x3 e3 => ?_)
      intro y hy
      have q3 := h1.tr x3
      have ey : y = stM w μ (nI j) := by rw [hy]; exact e3
      refine m_alone (w := w) (μ := μ) hMl (isW_of q3 (by decide) (by decide) hW) (RR I3 q3) (fun I4 x4 e4 => ?_)
      have q4 := q3.tr x4
      intro y2 hy2
      obtain ⟨-, v2, v3⟩ := spV_eq hn μ (nI M) j
      have ey2 : y2 = nI (spV w μ (nI M) j) := by rw [hy2]; exact v2
      rw [ey2]
      unfold spM at h
      have fin : wl_X10_split_24 Q (d + 1) (nI M) (hdN (spS w μ (nI M) j o)) (spB (spS w μ (nI M) j o)) (spT w μ (nI M) (spS w μ (nI M) j o)) (nI (j + 1)) I4 J := by
        refine ih (j + 1) _ I4 (by omega) (spK_s hn (by omega) ho) q4 (Or.inl ?_) h
        unfold spS
        cases o with
        | none => rfl
        | some b => split <;> rfl
      have e31 : I4 145 (31 : Int32).toNatClampNeg = stM w μ (nI M &&& (nI j ^^^ (-1))) := e4
      by_cases c1 : hdN o < nI (spV w μ (nI M) j)
      · rw [sw_if_t c1]
        unfold spS at fin
        rw [if_pos ((sp_lt v3 ho).mp c1)] at fin
        intro y3 hy3 y4 hy4
        rw [hy4, nI_1, hy3, ey, e31]
        exact fin
      · rw [sw_if_f c1]
        unfold spS at fin
        rw [if_neg (fun q => c1 ((sp_lt v3 ho).mpr q))] at fin
        intro y4 hy4
        rw [hy4, nI_1]
        exact fin
    · rw [sw_if_f (fun q => cs ((sub_iff (by omega) hM hn).mp q))]
      rw [if_neg cs] at h hne
      intro y hy
      rw [hy, nI_1]
      exact ih (j + 1) o I2 (by omega) ho h1 hne h
theorem SL_ne {M n : Nat} : rmL M (2 ^ n) 0 ≠ [] := by
  have := rmL_len M n
  intro h
  rw [h] at this
  have hp := Nat.two_pow_pos (pcN M n)
  simp at this; omega
theorem p_split {c : Nat} {I : sw_I} {J : sw_J} {Q : Int32 → Int32 → sw_I → sw_J → Prop} (h : wW c I J) (hQ : ∀ v I2 J2, wW c I2 J2 → I2 140 0 = 0 → Q v v I2 J2) :
    wp_X9_split  I J (fun r I1 J1 => wp_X10_split  I1 J1 (fun r2 I2 J2 => Q r r2 I2 J2)) := by
  obtain ⟨n, fl, m, q, p, r, t, s, z, hw⟩ := h
  obtain ⟨h0, h1, h2, h3, h4, h5, h6, h7, h8⟩ := id hw
  have hn := h1.2.2.1
  have hW := isW_O h1 h2
  generalize hμ : moC I 13 = μ
  have hE : moE I 13 μ := by rw [← hμ]; exact moE_C _ _
  have hR : relM (wdO I m n fl) μ (I 144) := by rw [← hμ]; exact h3
  have hr := h1.2.2.2.2.2.2.1
  have ht : bs (fun i => decide (I (13 + 1) i = I 13 4)) 10 = bs (fun i => decide (I 144 i = I 144 31)) n := on_rel hn h1.2.1 h3.1 h3.2
  obtain ⟨M, hM, eM⟩ := bN_ix hn (bN_bs (fun i => decide (I 144 i = I 144 31)) (n := n) (by omega))
  have hp : 2 ^ n ≤ 2 ^ 10 := Nat.pow_le_pow_right (by decide) hn
  have hMl : ∀ i, i < n → inB (nI M) i = true → μ.1 i = oL μ := fun i hi hb => by
    rw [← eM, ← ht, inB_bs _ 10 (by decide) i (by omega)] at hb
    simp at hb
    rw [← hμ]; exact hb.2
  unfold wp_X9_split
  refine s_X3_onFloor ?_
  rw [ht, eM]
  refine s_X9_setsOf hM hn ⟨(SL M n).length + 1, ?_⟩
  refine s_split_loop (w := wdO I m n fl) (SL_len_le hn) hW hE (SL M n) 0 0 none I (by omega) (SL_chn hM hn) (fun j hj => by have := (SL_mem hn j hj).1; omega) (fun b hb => by cases hb) eqx.rf (Or.inr SL_ne) (fun b eb I3 J3 x3 j3 t3 => ?_)
  intro I4 e4
  have s3 : eqm (0 :: scrC) (1 :: scrF) I I3 := x3.eqm (by decide) (by decide)
  have s4 : eqm (0 :: scrC) (1 :: scrF) I I4 := by rw [e4]; exact s3.upF (by decide) _
  have n4 : I4 144 = I 144 := s4.1 _ (by decide) (by decide)
  refine s_X10_there hn (by decide) (by decide) (by rw [s4.2 _ (by decide)]; exact hr) ?_
  rw [n4, eM]
  refine ⟨2 ^ n + 1, m_split_loop (w := wdO I m n fl) (μ := μ) hM (isW_of s4 (by decide) (by decide) hW) (by rw [n4]; exact hR) hMl (2 ^ n) 0 none I4 (Nat.zero_add _) (fun b hb => by cases hb) eqm.rf (Or.inr SL_ne) (fun b2 eb2 I5 J5 x5 j5 t5 => ?_)⟩
  have e : b2 = b := Option.some.inj (eb2.symm.trans eb)
  subst e
  refine hQ _ I5 J5 (told_fin (L := spL (wdO I m n fl) μ (nI M) b2) hw (s4.tr (x5.mono (by decide) (by decide))) (by unfold spL; simp) (tlC_of t3 ?_ (j5 _ (by decide))) t5) ?_
  · rw [x5.1 _ (by decide) (by decide), e4, sw_up_row _ _ _ (by decide)]
  · rw [x5.2 _ (by decide), e4, sw_up_same]
