/-! the whole relation, and what does not touch it -/
def txR (I : sw_I) (t : Nat) : Prop := t ≤ 80 ∧ I 1 1 = nI t ∧ I 140 12 = nI t ∧ ∀ i, i < t → I 2 i = I 146 i ∧ ∃ j, j < 256 ∧ I 2 i = nI j
def snR (I : sw_I) (n fl s : Nat) : Prop := s ≤ 8 ∧ I 109 4 = nI s ∧ I 140 54 = nI s ∧ ∀ i, i < s → I 110 i = I 167 i ∧ I 111 i = I 168 i ∧ I 112 i = I 169 i ∧ (∃ j, j < fl ∧ I 110 i = nI j) ∧ (∃ j, j < fl ∧ I 112 i = nI j) ∧ ¬ I 110 i = I 112 i ∧ ∀ b, b < 32 → inB (I 111 i) b = true → b < n
def kpR (I : sw_I) (n fl z : Nat) : Prop := I 140 6 = nI z ∧ ∀ k, k < 3 → (I 108 k = 0 ∧ (I 171 k = 0 ∨ ∃ y, y < z ∧ I 172 k = nI y)) ∨ (I 108 k = 1 ∧ I 171 k = 1 ∧ I 172 k = nI z ∧ momR I (128 + 4 * k) n fl (fun j => I 173 (33 * k + j)))
abbrev mvL : List Nat := [13, 23, 27, 31, 35, 39, 43, 47, 51, 55, 59, 63, 67, 71, 75, 79, 83, 87, 91, 95, 99, 103, 128, 132, 136]
/-- how many rides a moment has at most; nobody is anywhere in the moment of what was seen -/
def rbR (c : Nat) (I : sw_I) : Prop := (∀ a, a ∈ mvL → ∃ R, R ≤ 200 * c ∧ I a 5 = nI R) ∧ (∀ i, i < 10 → I (113 + 1) i = -1) ∧ I 113 5 = 0
theorem rb_of {c : Nat} {I I2 : sw_I} {C F : List Nat} (e : eqm C F I I2) (hc : ∀ a, a ∈ 113 :: (113 + 1) :: mvL → a ∉ C ∧ a ≠ 140) (h : rbR c I) : rbR c I2 := by
  refine ⟨fun a ha => ?_, ?_, ?_⟩
  · have w := hc a (List.mem_cons_of_mem _ (List.mem_cons_of_mem _ ha))
    rw [e.1 a w.1 w.2]; exact h.1 a ha
  · have w := hc (113 + 1) (by decide)
    rw [e.1 _ w.1 w.2]; exact h.2.1
  · have w := hc 113 (by decide)
    rw [e.1 _ w.1 w.2]; exact h.2.2
theorem mv_cases : ∀ a, a ∈ mvL → a = 13 ∨ (∃ i, i < 21 ∧ a = 23 + 4 * i) ∨ ∃ i, i < 3 ∧ a = 128 + 4 * i := by decide +kernel
theorem mv_ring : ∀ i, i < 21 → 23 + 4 * i ∈ mvL := by decide +kernel
theorem mv_kept : ∀ i, i < 3 → 128 + 4 * i ∈ mvL := by decide +kernel
theorem mv_now : 13 ∈ mvL := by decide
theorem rb_mk {c c2 d : Nat} {I If : sw_I} (h : rbR c I) (hd : 200 * c + d ≤ 200 * c2) (h1 : ∃ b, b ∈ mvL ∧ ∃ e, e ≤ d ∧ If 13 5 = I b 5 + nI e) (h2 : ∀ i, i < 21 → ∃ b, b ∈ mvL ∧ If (23 + 4 * i) 5 = I b 5) (h3 : ∀ i, i < 3 → ∃ b, b ∈ mvL ∧ If (128 + 4 * i) 5 = I b 5) (h4 : If (113 + 1) = I (113 + 1)) (h5 : If 113 = I 113) : rbR c2 If := by
  refine ⟨fun a ha => ?_, by rw [h4]; exact h.2.1, by rw [h5]; exact h.2.2⟩
  rcases mv_cases a ha with rfl | ⟨i, hi, rfl⟩ | ⟨i, hi, rfl⟩
  · obtain ⟨b, hb, e, he, eb⟩ := h1
    obtain ⟨R, hR, eR⟩ := h.1 b hb
    exact ⟨R + e, by omega, by rw [eb, eR, nI_add]⟩
  · obtain ⟨b, hb, eb⟩ := h2 i hi
    obtain ⟨R, hR, eR⟩ := h.1 b hb
    exact ⟨R, by omega, by rw [eb, eR]⟩
  · obtain ⟨b, hb, eb⟩ := h3 i hi
    obtain ⟨R, hR, eR⟩ := h.1 b hb
    exact ⟨R, by omega, by rw [eb, eR]⟩
def wR (c : Nat) (I : sw_I) (J : sw_J) (n fl m q p r t s z : Nat) : Prop := (z ≤ c ∧ rbR c I) ∧ hsR I n fl ∧ lR I m ∧ momR I 13 n fl (I 144) ∧ pastR I n fl q p ∧ rwR I J r ∧ txR I t ∧ snR I n fl s ∧ kpR I n fl z
def wW (c : Nat) (I : sw_I) (J : sw_J) : Prop := ∃ n fl m q p r t s z, wR c I J n fl m q p r t s z
/-- cells and slots that tell nothing between two calls -/
abbrev scrC : List Nat := [10, 11, 12, 9, 8, 17, 18, 19, 20, 119, 120, 121, 122, 123, 124, 125, 126, 127, 117, 115, 116, 153, 154, 152, 145, 147, 148, 149, 151, 156, 157, 158, 159, 160, 161, 162, 163, 164, 165, 166, 170]
abbrev scrF : List Nat := [0, 13, 14, 15, 19, 20, 24, 28, 29, 30, 31, 38, 39, 40, 42, 48, 49, 50, 51, 52]
theorem ring_scr : ∀ c, c < 23 + 84 → 21 ≤ c → c ∉ scrC ∧ c ≠ 140 := by decide +kernel
theorem kept_scr : ∀ k, k < 12 → 128 + k ∉ scrC ∧ 128 + k ≠ 140 := by decide +kernel
theorem now_scr : ∀ k, k < 4 → 13 + k ∉ scrC ∧ 13 + k ≠ 140 := by decide +kernel
theorem txR_cong {I I2 : sw_I} {t : Nat} (h : txR I t) (e : eqm scrC scrF I I2) : txR I2 t := by
  unfold txR
  rw [e.1 1 (by decide) (by decide), e.1 2 (by decide) (by decide), e.1 146 (by decide) (by decide), e.2 12 (by decide)]
  exact h
theorem snR_cong {I I2 : sw_I} {n fl s : Nat} (h : snR I n fl s) (e : eqm scrC scrF I I2) : snR I2 n fl s := by
  unfold snR
  rw [e.1 109 (by decide) (by decide), e.1 110 (by decide) (by decide), e.1 111 (by decide) (by decide), e.1 112 (by decide) (by decide), e.1 167 (by decide) (by decide), e.1 168 (by decide) (by decide), e.1 169 (by decide) (by decide), e.2 54 (by decide)]
  exact h
theorem kpR_cong {I I2 : sw_I} {n fl z : Nat} (hn : n ≤ 10) (h : kpR I n fl z) (e : eqm scrC scrF I I2) : kpR I2 n fl z := by
  unfold kpR
  rw [e.1 108 (by decide) (by decide), e.1 171 (by decide) (by decide), e.1 172 (by decide) (by decide), e.1 173 (by decide) (by decide), e.2 6 (by decide)]
  refine ⟨h.1, fun k hk => ?_⟩
  rcases h.2 k hk with q | ⟨q1, q2, q3, q4⟩
  · exact Or.inl q
  · refine Or.inr ⟨q1, q2, q3, momR_cong (fun c c1 c2 => ?_) (fun _ _ => rfl) hn q4⟩
    obtain ⟨d, hd, rfl⟩ : ∃ d, d < 12 ∧ c = 128 + d := ⟨c - 128, by omega, by omega⟩
    exact e.1 _ (kept_scr d hd).1 (kept_scr d hd).2
theorem nowR_cong {I I2 : sw_I} {n fl : Nat} (hn : n ≤ 10) (h : momR I 13 n fl (I 144)) (e : eqm scrC scrF I I2) : momR I2 13 n fl (I2 144) := by
  rw [e.1 144 (by decide) (by decide)]
  refine momR_cong (fun c c1 c2 => ?_) (fun _ _ => rfl) hn h
  obtain ⟨d, hd, rfl⟩ : ∃ d, d < 4 ∧ c = 13 + d := ⟨c - 13, by omega, by omega⟩
  exact e.1 _ (now_scr d hd).1 (now_scr d hd).2
theorem hsR_scr {I I2 : sw_I} {n fl : Nat} (h : hsR I n fl) (e : eqm scrC scrF I I2) : hsR I2 n fl :=
  hsR_cong h ⟨fun c hc => e.1 c (by revert c; decide) (by revert c; decide), fun k hk => e.2 k (by revert k; decide)⟩
theorem lR_scr {I I2 : sw_I} {m : Nat} (h : lR I m) (e : eqm scrC scrF I I2) : lR I2 m :=
  lR_cong h ⟨fun c hc => e.1 c (by revert c; decide) (by revert c; decide), fun k hk => e.2 k (by revert k; decide)⟩
theorem pastR_scr {I I2 : sw_I} {n fl q p : Nat} (hn : n ≤ 10) (h : pastR I n fl q p) (e : eqm scrC scrF I I2) : pastR I2 n fl q p :=
  pastR_cong hn h (fun c c1 c2 => e.1 c (ring_scr c c2 c1).1 (ring_scr c c2 c1).2) (e.2 _ (by decide)) (e.1 _ (by decide) (by decide))
theorem rwR_scr {I I2 : sw_I} {J J2 : sw_J} {r : Nat} (h : rwR I J r) (e : eqm scrC scrF I I2) (hj : J2 118 = J 118) (hj2 : J2 141 = J 141) : rwR I2 J2 r := by
  unfold rwR
  rw [e.1 0 (by decide) (by decide), e.2 1 (by decide), hj, hj2]
  exact h
theorem wR_scr {c : Nat} {I I2 : sw_I} {J J2 : sw_J} {n fl m q p r t s z : Nat} (h : wR c I J n fl m q p r t s z) (e : eqm scrC scrF I I2) (hj : J2 118 = J 118) (hj2 : J2 141 = J 141) : wR c I2 J2 n fl m q p r t s z := by
  obtain ⟨h0, h1, h2, h3, h4, h5, h6, h7, h8⟩ := h
  have hn := h1.2.2.1
  exact ⟨⟨h0.1, rb_of e (by decide) h0.2⟩, hsR_scr h1 e, lR_scr h2 e, nowR_cong hn h3 e, pastR_scr hn h4 e, rwR_scr h5 e hj hj2, txR_cong h6 e, snR_cong h7 e, kpR_cong hn h8 e⟩
/-- promise: stop -/
theorem p_stop {c : Nat} {I : sw_I} {J : sw_J} {Q : Int32 → Int32 → sw_I → sw_J → Prop} (h : wW c I J) (hQ : ∀ v I2 J2, wW c I2 J2 → I2 140 0 = 0 → Q v v I2 J2) :
    wp_X9_stop I J (fun r I1 J1 => wp_X10_stop I1 J1 (fun r2 I2 J2 => Q r r2 I2 J2)) := by
  obtain ⟨n, fl, m, q, p, r, t, s, z, hw⟩ := h
  obtain ⟨h0, h1, h2, h3, h4, h5, h6, h7, h8⟩ := id hw
  unfold wp_X9_stop
  refine c_stop (by decide) h1 h2 (fun I1 e1 => ?_)
  have s1 : eqm scrC scrF I I1 := e1.eqm (by decide) (by decide)
  intro I2 e2
  have s2 : eqm scrC scrF I I2 := by rw [e2]; exact s1.upF (by decide) _
  have t2 : I2 140 0 = 0 := by rw [e2, sw_up_same]
  have ed : I2 140 5 = I 140 5 := s2.2 _ (by decide)
  have ec : I2 7 = I 7 := s2.1 _ (by decide) (by decide)
  have en : I2 144 = I 144 := s2.1 _ (by decide) (by decide)
  refine m_stopG (pl := I (13 + 1)) (wi := I (13 + 2)) (rd := I (13 + 3)) (by decide) (by decide) (hsR_scr h1 s2) (lR_scr h2 s2) (by rw [en]; exact h3.1) h3.2 (fun I3 e3 => ?_)
  have s3 : eqm scrC scrF I I3 := s2.tr (e3.mono (by decide) (by decide))
  have es : I2 144 (30 : Int32).toNatClampNeg = I 13 3 := by rw [en]; exact h3.1.2.1.symm
  rw [ed, ec, es]
  exact hQ _ I3 J ⟨n, fl, m, q, p, r, t, s, z, wR_scr hw s3 rfl rfl⟩ (by rw [e3.2 _ (by decide)]; exact t2)
