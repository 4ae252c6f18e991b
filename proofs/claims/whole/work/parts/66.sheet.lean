/-! promise: sheet -/
def kdF (kind v : Int32) : Int32 := if kind = 0 then v.toInt8.toInt32 else if kind = 1 then v.toInt16.toInt32 else v
def vsF (f step : Int32) : Nat → Int32
  | 0 => f
  | i + 1 => vsF f step i + step
def shB (fl : Nat) (kind x2 f step : Int32) (i : Nat) : Bool := decide (¬ kind = 3) && decide (nI i < x2) && decide (¬ kdF kind (vsF f step i) < 0 ∧ ¬ nI fl ≤ kdF kind (vsF f step i))
def shW (fl : Nat) (kind x2 f step : Int32) (i : Nat) : Int32 := if shB fl kind x2 f step i then kdF kind (vsF f step i) else -1
theorem shW_fw {fl : Nat} (hfl : fl ≤ 9) (kind x2 f step : Int32) (i : Nat) : fw fl (shW fl kind x2 f step i) := by
  unfold shW
  cases h : shB fl kind x2 f step i
  · exact Or.inl rfl
  · unfold shB at h
    simp only [Bool.and_eq_true, decide_eq_true_eq] at h
    obtain ⟨j, hj, e⟩ := ixN (n := fl) (by omega) h.2.1 h.2.2
    exact Or.inr ⟨j, hj, e⟩
theorem s_X9_asKind {kind v : Int32} {I : sw_I} {J : sw_J} {Q : Int32 → sw_I → sw_J → Prop} (h : Q (kdF kind v) I J) : wp_X9_asKind kind v I J Q := by
  unfold kdF at h
  refine ⟨fun c => ?_, fun c => ⟨fun c2 => ?_, fun c2 => ?_⟩⟩
  · rw [if_pos c] at h; exact h
  · rw [if_neg c, if_pos c2] at h; exact h
  · rw [if_neg c, if_neg c2] at h; exact h
theorem s_sheet_loop {n fl : Nat} (hn : n ≤ 10) (hfl : fl ≤ 9) {kind x2 x3 x4 e5 : Int32} (he5 : e5 = if kind = 3 then 0 else x2) {I : sw_I} {J : sw_J} {Q : Int32 → sw_I → sw_J → Prop} (hr : I 3 2 = nI n) (hf : I 3 0 = nI fl) (h : ∀ I2, eqx [15] I I2 → (∀ j, I2 15 j = if j < n then shW fl kind x2 x3 x4 j else I 15 j) → Q (if kind = 3 then -3 else ct (shB fl kind x2 x3 x4) n) I2 J) :
    ∀ (d k : Nat) (I2 : sw_I), k + d = n → eqx [15] I I2 → (∀ j, I2 15 j = if j < k then shW fl kind x2 x3 x4 j else I 15 j) → wl_X9_sheet_50 Q (d + 1) kind x4 e5 (vsF x3 x4 k) (ct (shB fl kind x2 x3 x4) k) (nI k) I2 J := by
  intro d
  induction d with
  | zero =>
    intro k I2 hk h1 h2
    obtain rfl : k = n := by omega
    show wb_X9_sheet_50 _ Q _ _ _ _ _ _ I2 J
    unfold wb_X9_sheet_50
    rw [sw_if_f (by rw [h1.at (by decide), hr]; exact nI_nlt (Nat.le_refl _) (by omega))]
    have := h I2 h1 h2
    refine ⟨fun c => ?_, fun c => ?_⟩
    · rw [if_pos c] at this; exact this
    · rw [if_neg c] at this; exact this
  | succ d ih =>
    intro k I2 hk h1 h2
    show wb_X9_sheet_50 _ Q _ _ _ _ _ _ I2 J
    unfold wb_X9_sheet_50
    rw [sw_if_t (by rw [h1.at (by decide), hr]; exact nI_lt (by omega) (by omega))]
    have vp : vp_in (nI k) 10 := vp0 (by omega) (by decide)
    have put : ∀ v : Int32, v = shW fl kind x2 x3 x4 k → wB_X9_sheet_108 (wl_X9_sheet_50 Q (d + 1)) Q kind x4 e5 (vsF x3 x4 k) (ct (shB fl kind x2 x3 x4) k) (nI k) (nI k) v I2 J := by
      intro v hv
      unfold wB_X9_sheet_108
      rw [nI_clamp (by omega)]
      refine ⟨vp, fun I3 e3 => ⟨vp, ?_⟩⟩
      have g3 : I3 15 k = shW fl kind x2 x3 x4 k := by rw [e3, sw_up_same, hv]
      rw [g3]
      have go : ∀ t, ct (shB fl kind x2 x3 x4) k + t = ct (shB fl kind x2 x3 x4) (k + 1) → wB_X9_sheet_130 (wl_X9_sheet_50 Q (d + 1)) Q kind x4 e5 (vsF x3 x4 k) (nI k) (ct (shB fl kind x2 x3 x4) k) t I3 J := by
        intro t ht y hy y2 hy2 y3 hy3
        rw [hy3, nI_1, hy, ht, hy2]
        refine ih (k + 1) I3 (by omega) (by rw [e3]; exact h1.up (by decide) _ _) (fun j => ?_)
        rw [e3, sw_up_rowf]
        show (if j = k then v else I2 15 j) = _
        by_cases c : j = k
        · rw [if_pos c, if_pos (by omega), hv, c]
        · rw [if_neg c, h2 j]
          by_cases c2 : j < k
          · rw [if_pos c2, if_pos (by omega)]
          · rw [if_neg c2, if_neg (by omega)]
      refine ⟨fun c => go _ ?_, fun c => go _ ?_⟩
      · have : shB fl kind x2 x3 x4 k = false := by
          cases hb : shB fl kind x2 x3 x4 k
          · rfl
          · exfalso
            unfold shW at c
            rw [hb, if_pos rfl] at c
            unfold shB at hb
            simp only [Bool.and_eq_true, decide_eq_true_eq] at hb
            exact hb.2.1 (by rw [c]; decide)
        show _ = ct _ k + (if shB fl kind x2 x3 x4 k then 1 else 0); rw [this]; rfl
      · have : shB fl kind x2 x3 x4 k = true := by
          cases hb : shB fl kind x2 x3 x4 k
          · exfalso; unfold shW at c; rw [hb] at c; exact c rfl
          · rfl
        show _ = ct _ k + (if shB fl kind x2 x3 x4 k then 1 else 0); rw [this]; rfl
    have at79 : ∀ v : Int32, (v = kdF kind (vsF x3 x4 k) ∧ ¬ kind = 3 ∧ nI k < x2) ∨ (v = -1 ∧ (kind = 3 ∨ ¬ nI k < x2)) → wB_X9_sheet_79 (wl_X9_sheet_50 Q (d + 1)) Q kind x4 e5 (vsF x3 x4 k) (ct (shB fl kind x2 x3 x4) k) (nI k) v I2 J := by
      intro v hv
      unfold wB_X9_sheet_79
      refine s_X1_hasFloor hfl (by rw [h1.at (by decide)]; exact hf) (fun co => ?_) (fun j hj ej => ?_)
      · rw [sw_if_t rfl]
        refine put _ ?_
        have : shB fl kind x2 x3 x4 k = false := by
          unfold shB
          rcases hv with ⟨e, a, b⟩ | ⟨e, a⟩
          · rw [← e, decide_eq_false (p := ¬ v < 0 ∧ ¬ nI fl ≤ v) (fun q => by rcases co with z | z; exact q.1 z; exact q.2 z), Bool.and_false]
          · rcases a with a | a
            · rw [decide_eq_false (fun q => q a)]; rfl
            · rw [decide_eq_false a, Bool.and_false]; rfl
        unfold shW; rw [this]; rfl
      · rw [sw_if_f (by decide)]
        refine put _ ?_
        rcases hv with ⟨e, a, b⟩ | ⟨e, a⟩
        · have : shB fl kind x2 x3 x4 k = true := by
            unfold shB
            rw [decide_eq_true a, decide_eq_true b, ← e, decide_eq_true ⟨by rw [ej]; exact nI_pos (by omega), by rw [ej]; exact nI_ge hj (by omega)⟩]; rfl
          unfold shW; rw [this, if_pos rfl, e]
        · rw [e] at ej; exact absurd ej (nem1 (by omega))
    by_cases c3 : kind = 3
    · rw [he5, if_pos c3] at at79 ⊢
      rw [sw_if_f (nI_pos (n := k) (by omega))]
      exact at79 _ (Or.inr ⟨rfl, Or.inl c3⟩)
    · rw [he5, if_neg c3] at at79 ⊢
      by_cases c4 : nI k < x2
      · rw [sw_if_t c4]
        exact s_X9_asKind (at79 _ (Or.inl ⟨rfl, c3, c4⟩))
      · rw [sw_if_f c4]
        exact at79 _ (Or.inr ⟨rfl, Or.inr c4⟩)
theorem m_sheet_loop {n fl : Nat} (hn : n ≤ 10) (hfl : fl ≤ 9) {kind x2 x3 x4 : Int32} {I : sw_I} {J : sw_J} {Q : Int32 → sw_I → sw_J → Prop} (hr : I 140 4 = nI n) (hf : I 140 3 = nI fl) (h : ∀ I2, eqx [144] I I2 → (∀ j, I2 144 j = if 10 ≤ j ∧ j < 10 + n then shW fl kind x2 x3 x4 (j - 10) else I 144 j) → Q (if kind = 3 then -3 else ct (shB fl kind x2 x3 x4) n) I2 J) :
    ∀ (d k : Nat) (I2 : sw_I), k + d = n → eqx [144] I I2 → (∀ j, I2 144 j = if 10 ≤ j ∧ j < 10 + k then shW fl kind x2 x3 x4 (j - 10) else I 144 j) → wl_X10_sheet_46 Q (d + 1) kind x2 x4 (ct (shB fl kind x2 x3 x4) k) (vsF x3 x4 k) (nI k) I2 J := by
  intro d
  induction d with
  | zero =>
    intro k I2 hk h1 h2
    obtain rfl : k = n := by omega
    show wb_X10_sheet_46 _ Q _ _ _ _ _ _ I2 J
    unfold wb_X10_sheet_46
    rw [sw_if_f (by rw [h1.at (by decide), hr]; exact nI_nlt (Nat.le_refl _) (by omega))]
    have := h I2 h1 h2
    refine ⟨fun c => ?_, fun c => ?_⟩
    · rw [if_pos c] at this; exact this
    · rw [if_neg c] at this; exact this
  | succ d ih =>
    intro k I2 hk h1 h2
    show wb_X10_sheet_46 _ Q _ _ _ _ _ _ I2 J
    unfold wb_X10_sheet_46
    rw [sw_if_t (by rw [h1.at (by decide), hr]; exact nI_lt (by omega) (by omega))]
    have e10 : (10 : Int32) + nI k = nI (10 + k) := nI_add 10 k
    have put : ∀ (b : Bool) (v : Int32), b = shB fl kind x2 x3 x4 k → v = shW fl kind x2 x3 x4 k → wB_X10_sheet_127 (wl_X10_sheet_46 Q (d + 1)) Q kind x2 x4 (ct (shB fl kind x2 x3 x4) k) (vsF x3 x4 k) (nI k) (bI b) ((10 : Int32) + nI k) v I2 J := by
      intro b v hb hv
      unfold wB_X10_sheet_127
      rw [e10, nI_clamp (by omega)]
      refine ⟨vp0 (by omega) (by decide), fun I3 e3 => s_X10_flag ?_⟩
      have ef : (if bI b = 0 then (0 : Int32) else 1) = if b then 1 else 0 := by cases b <;> decide
      rw [ef]
      intro y hy y2 hy2 y3 hy3
      rw [hy3, nI_1, hy2, hy, hb]
      refine ih (k + 1) I3 (by omega) (by rw [e3]; exact h1.up (by decide) _ _) (fun j => ?_)
      rw [e3, sw_up_rowf]
      show (if j = 10 + k then v else I2 144 j) = _
      by_cases c : j = 10 + k
      · rw [if_pos c, if_pos (by omega), hv, c, Nat.add_sub_cancel_left]
      · rw [if_neg c, h2 j]
        by_cases c2 : 10 ≤ j ∧ j < 10 + k
        · rw [if_pos c2, if_pos (by omega)]
        · rw [if_neg c2, if_neg (by omega)]
    have at78 : wB_X10_sheet_78 (wl_X10_sheet_46 Q (d + 1)) Q kind x2 x4 (ct (shB fl kind x2 x3 x4) k) (vsF x3 x4 k) (nI k) (kdF kind (vsF x3 x4 k)) I2 J := by
      have no : shB fl kind x2 x3 x4 k = false → wB_X10_sheet_104 (wl_X10_sheet_46 Q (d + 1)) Q kind x2 x4 (ct (shB fl kind x2 x3 x4) k) (vsF x3 x4 k) (nI k) (kdF kind (vsF x3 x4 k)) I2 J := by
        intro hb
        unfold wB_X10_sheet_104 wB_X10_sheet_105
        rw [sw_if_t rfl]
        exact put false _ hb.symm (by unfold shW; rw [hb]; rfl)
      unfold wB_X10_sheet_78
      by_cases c3 : kind = 3
      · rw [sw_if_t c3]
        exact no (by unfold shB; rw [decide_eq_false (fun q => q c3)]; rfl)
      · rw [sw_if_f c3]
        by_cases c4 : nI k < x2
        · rw [sw_if_t c4]
          refine s_X10_isFloor (n := fl) (by omega) (by rw [h1.at (by decide)]; exact hf) (fun co => ?_) (fun j hj ej => ?_)
          · rw [sw_if_t rfl]
            exact no (by unfold shB; rw [decide_eq_false (p := ¬ kdF kind (vsF x3 x4 k) < 0 ∧ ¬ nI fl ≤ kdF kind (vsF x3 x4 k)) (fun q => by rcases co with z | z; exact q.1 z; exact q.2 z), Bool.and_false])
          · rw [sw_if_f (by decide)]
            unfold wB_X10_sheet_105
            rw [sw_if_f (by decide)]
            have : shB fl kind x2 x3 x4 k = true := by
              unfold shB
              rw [decide_eq_true c3, decide_eq_true c4, decide_eq_true ⟨by rw [ej]; exact nI_pos (by omega), by rw [ej]; exact nI_ge hj (by omega)⟩]; rfl
            exact put true _ this.symm (by unfold shW; rw [this]; rfl)
        · rw [sw_if_f c4]
          exact no (by unfold shB; rw [decide_eq_false c4, Bool.and_false]; rfl)
    unfold kdF at at78
    refine ⟨fun c => ?_, fun c => ⟨fun c2 => ?_, fun c2 => ?_⟩⟩
    · rw [if_pos c] at at78; exact at78
    · rw [if_neg c, if_pos c2] at at78; exact at78
    · rw [if_neg c, if_neg c2] at at78; exact at78
theorem p_sheet {c : Nat} {x1 x2 x3 x4 : Int32} {I : sw_I} {J : sw_J} {Q : Int32 → Int32 → sw_I → sw_J → Prop} (h : wW c I J) (hQ : ∀ v I2 J2, wW c I2 J2 → I2 140 0 = 0 → Q v v I2 J2) :
    wp_X9_sheet x1 x2 x3 x4 I J (fun r I1 J1 => wp_X10_sheet x1 x2 x3 x4 I1 J1 (fun r2 I2 J2 => Q r r2 I2 J2)) := by
  obtain ⟨n, fl, m, q, p, r, t, s, z, hw⟩ := h
  obtain ⟨h0, h1, h2, h3, h4, h5, h6, h7, h8⟩ := id hw
  have hn := h1.2.2.1
  obtain ⟨a1, a2, a3, a4, a5, a6, a7, a8, a9, a10, a11⟩ := id h1
  have keep : ∀ v : Int32, ((x1 < 0 ∨ (3 : Int32) < x1 ∨ (10 : Int32) < x2) ∧ v = -1) ∨ (¬ (x1 < 0 ∨ (3 : Int32) < x1 ∨ (10 : Int32) < x2) ∧ ¬ x1 = 3 ∧ x2 < 0 ∧ v = -2) → wp_X10_sheet x1 x2 x3 x4 I J (fun r2 I2 J2 => Q v r2 I2 J2) := by
    intro v hv I2 e2
    have fin : ∀ u : Int32, u = v → Q v u I2 J := fun u hu => by rw [hu]; exact hQ _ I2 J (th_of hw e2).1 (th_of hw e2).2
    refine s_X10_in (a := 0) (b := 3) rfl rfl (fun co => ?_) (fun c1 c2 => ?_)
    · rw [sw_if_t rfl]
      rcases hv with ⟨_, e⟩ | ⟨n1, _⟩
      · exact fin _ e.symm
      · exact absurd (by rcases co with z | z; exact Or.inl z; exact Or.inr (Or.inl z)) n1
    · rw [sw_if_f (by decide)]
      rcases hv with ⟨z, e⟩ | ⟨n1, n2, n3, e⟩
      · have c3 : (10 : Int32) < x2 := by rcases z with z | z | z; exact absurd z c1; exact absurd z c2; exact z
        rw [sw_if_t c3]; exact fin _ e.symm
      · rw [sw_if_f (fun z => n1 (Or.inr (Or.inr z))), sw_if_f n2, sw_if_t n3]; exact fin _ e.symm
  have go : ¬ x1 < 0 → ¬ (3 : Int32) < x1 → ¬ (10 : Int32) < x2 → (x1 = 3 ∨ ¬ x2 < 0) → wB_X9_sheet_29 (fun r I1 J1 => wp_X10_sheet x1 x2 x3 x4 I1 J1 (fun r2 I2 J2 => Q r r2 I2 J2)) x1 x2 x3 x4 I J := by
    intro c1 c2 c3 c4
    have main : ∀ e5, e5 = (if x1 = 3 then 0 else x2) → wB_X9_sheet_39 (fun r I1 J1 => wp_X10_sheet x1 x2 x3 x4 I1 J1 (fun r2 I2 J2 => Q r r2 I2 J2)) x1 x3 x4 e5 I J := by
      intro e5 he5
      refine ⟨n + 1, s_sheet_loop hn a2 he5 a6 a4 (fun I2 q2 g2 => ?_) n 0 I (Nat.zero_add _) eqx.rf (fun j => by rw [if_neg (by omega)])⟩
      intro I3 e3
      have q3 : eqm [15, 144] [0] I I3 := by rw [e3]; exact (q2.eqm (by decide) (by decide)).upF (by decide) _
      refine s_X10_in (a := 0) (b := 3) rfl rfl (fun co => absurd co (fun z => by rcases z with z | z; exact c1 z; exact c2 z)) (fun _ _ => ?_)
      rw [sw_if_f (by decide), sw_if_f c3]
      have n3 : I3 144 = I 144 := by rw [e3, sw_up_row _ _ _ (by decide), q2 _ (by decide)]
      have tail : wB_X10_sheet_37 (fun r2 I2 J2 => Q (if x1 = 3 then -3 else ct (shB fl x1 x2 x3 x4) n) r2 I2 J2) x1 x2 x3 x4 I3 J := by
        refine ⟨n + 1, m_sheet_loop hn a2 (by rw [q3.2 _ (by decide)]; exact a7) (by rw [q3.2 _ (by decide)]; exact a5) (fun I4 q4 g4 => ?_) n 0 I3 (Nat.zero_add _) eqx.rf (fun j => by rw [if_neg (by omega)])⟩
        have e : eqm [15, 144] [0] I I4 := q3.tr (q4.eqm (by decide) (by decide))
        refine hQ _ I4 J ⟨n, fl, m, q, p, r, t, s, z, ⟨h0.1, rb_of e (by decide) h0.2⟩, hs_of e (by decide) (by decide) h1, l_of e (by decide) (by decide) h2, ?_, past_of e (by decide) (by decide) hn h4, rw_of e (by decide) (by decide) h5, tx_of e (by decide) (by decide) h6, sn_of e (by decide) (by decide) h7, kp_of e (by decide) (by decide) hn h8⟩ ?_
        · obtain ⟨⟨b1, b2, b3, b4⟩, v1, v2, v3, v4⟩ := h3
          have w4 : I4 (13 + 2) = I2 (13 + 2) := by rw [q4 _ (by decide), e3, sw_up_row _ _ _ (by decide)]
          unfold momR
          rw [e.1 13 (by decide) (by decide), e.1 (13 + 1) (by decide) (by decide), e.1 (13 + 3) (by decide) (by decide), w4]
          refine ⟨⟨fun i hi => ?_, ?_, ?_, ?_⟩, fun i hi => ⟨(v1 i hi).1, ?_⟩, v2, v3, v4⟩
          · rw [g4 i, g4 (10 + i), g4 (20 + i), if_neg (by omega), if_pos (by omega), if_neg (by omega), n3]
            refine ⟨(b1 i hi).1, ?_, (b1 i hi).2.2⟩
            show I2 15 i = _
            rw [g2 i, if_pos hi, Nat.add_sub_cancel_left]
          · rw [g4 30, if_neg (by omega), n3]; exact b2
          · rw [g4 31, if_neg (by omega), n3]; exact b3
          · rw [g4 32, if_neg (by omega), n3]; exact b4
          · show fw fl (I2 15 i)
            rw [g2 i, if_pos hi]; exact shW_fw a2 _ _ _ _ _
        · rw [q4 _ (by decide), e3, sw_up_same]
      rcases c4 with c4 | c4
      · rw [sw_if_t c4]; exact tail
      · by_cases c5 : x1 = 3
        · rw [sw_if_t c5]; exact tail
        · rw [sw_if_f c5, sw_if_f c4]; exact tail
    unfold wB_X9_sheet_29
    refine ⟨fun c => ?_, fun c => ?_⟩
    · exact main 0 (by rw [if_pos c])
    · exact main x2 (by rw [if_neg c])
  unfold wp_X9_sheet
  by_cases c1 : x1 < 0
  · rw [sw_if_t c1]; exact keep _ (Or.inl ⟨Or.inl c1, rfl⟩)
  rw [sw_if_f c1]
  by_cases c2 : (3 : Int32) < x1
  · rw [sw_if_t c2]; exact keep _ (Or.inl ⟨Or.inr (Or.inl c2), rfl⟩)
  rw [sw_if_f c2]
  by_cases c3 : (10 : Int32) < x2
  · rw [sw_if_t c3]; exact keep _ (Or.inl ⟨Or.inr (Or.inr c3), rfl⟩)
  rw [sw_if_f c3]
  by_cases c4 : x1 = 3
  · rw [sw_if_t c4]; exact go c1 c2 c3 (Or.inl c4)
  rw [sw_if_f c4]
  by_cases c5 : x2 < 0
  · rw [sw_if_t c5]; exact keep _ (Or.inr ⟨fun z => by rcases z with z | z | z; exact c1 z; exact c2 z; exact c3 z, c4, c5, rfl⟩)
  rw [sw_if_f c5]
  exact go c1 c2 c3 (Or.inr c5)
