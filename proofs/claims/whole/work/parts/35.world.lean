/-! the class and the reference: the whole relation -/
def hsR (I : sw_I) (n fl : Nat) : Prop :=
  2 ≤ fl ∧ fl ≤ 9 ∧ n ≤ 10 ∧ I 3 0 = nI fl ∧ I 140 3 = nI fl ∧ I 3 2 = nI n ∧ I 140 4 = nI n ∧ I 3 1 = I 140 5 ∧ fw fl (I 140 5) ∧ (∀ i, i < n → I 4 i = I 142 i ∧ ∃ j, j < fl ∧ I 4 i = nI j) ∧ ∀ i, i < n → I 5 i = I 143 i ∧ ∃ j, j ≤ 10 ∧ I 5 i = nI j
abbrev hsC : List Nat := [3, 4, 5, 142, 143]
abbrev hsF : List Nat := [3, 4, 5]
/-- cells C and slots F of the reference's object are as they were -/
def sm (C F : List Nat) (I I2 : sw_I) : Prop := (∀ c, c ∈ C → I2 c = I c) ∧ ∀ k, k ∈ F → I2 140 k = I 140 k
theorem sm.tr {C F : List Nat} {I I2 I3 : sw_I} (h : sm C F I I2) (h2 : sm C F I2 I3) : sm C F I I3 := ⟨fun c hc => (h2.1 c hc).trans (h.1 c hc), fun k hk => (h2.2 k hk).trans (h.2 k hk)⟩
theorem sm.mono {C F C2 F2 : List Nat} {I I2 : sw_I} (h : sm C F I I2) (hc : ∀ a, a ∈ C2 → a ∈ C) (hf : ∀ a, a ∈ F2 → a ∈ F) : sm C2 F2 I I2 := ⟨fun c q => h.1 c (hc c q), fun k q => h.2 k (hf k q)⟩
theorem hsR_cong {I I2 : sw_I} {n fl : Nat} (h : hsR I n fl) (hs : sm hsC hsF I I2) : hsR I2 n fl := by
  unfold hsR
  rw [hs.1 3 (by decide), hs.1 4 (by decide), hs.1 5 (by decide), hs.1 142 (by decide), hs.1 143 (by decide), hs.2 3 (by decide), hs.2 4 (by decide), hs.2 5 (by decide)]
  exact h
def lR (I : sw_I) (m : Nat) : Prop := I 6 3 = nI m ∧ lwW (I 7) m ∧ cdOK (I 7) m ∧ mlOK (I 7) m I ∧ I 6 5 = (if ∃ k, k < m ∧ I 7 k = -114 then 1 else 0)
abbrev lC : List Nat := [6, 7, 150]
abbrev lF : List Nat := [23]
theorem lR_cong {I I2 : sw_I} {m : Nat} (h : lR I m) (hs : sm lC lF I I2) : lR I2 m := by
  unfold lR mlOK
  rw [hs.1 6 (by decide), hs.1 7 (by decide), hs.1 150 (by decide), hs.2 23 (by decide)]
  exact h
def rwR (I : sw_I) (J : sw_J) (r : Nat) : Prop := r ≤ 12 ∧ I 0 10 = nI r ∧ I 140 1 = nI r ∧ ∀ i, i < r → J 118 i = J 141 i
theorem mrF_home {home home2 row : Nat → Int32} {s stop : Int32} {n : Nat} (h : ∀ i, i < n → home i = home2 i) : mrF home row s stop n = mrF home2 row s stop n := by
  funext j
  unfold mrF
  by_cases c : j < n ∧ inB s j = true
  · rw [if_pos c, if_pos c, h j c.1]
  · rw [if_neg c, if_neg c]
theorem cmF_home {home home2 : Nat → Int32} {s stop : Int32} {n : Nat} (h : ∀ i, i < n → home i = home2 i) : cmF home s stop n = cmF home2 s stop n := by
  unfold cmF
  exact bs_cong (fun k hk => by rw [h k hk])
/-- what a Moment and its row need for a STOP -/
theorem mrow_of {I : sw_I} {a b n fl : Nat} (hfl : fl ≤ 9) (h : momR I a n fl (I b)) : mrow b n I := by
  intro i hi
  obtain ⟨a1, a2, a3⟩ := h.1.1 i hi
  obtain ⟨v1, v2⟩ := h.2.1 i hi
  refine ⟨?_, ?_⟩
  · rcases a1 with ⟨-, q⟩ | ⟨q, j, hj, q2⟩
    · exact Or.inl q
    · exact Or.inr ⟨j, by omega, by rw [← q]; exact q2⟩
  · rw [← a2]
    rcases v2 with q | ⟨j, hj, q⟩
    · exact Or.inl q
    · exact Or.inr ⟨j, by omega, q⟩
theorem fw9 {fl : Nat} {x : Int32} (hfl : fl ≤ 9) (h : fw fl x) : x = -1 ∨ ∃ j, j < 9 ∧ x = nI j := by
  rcases h with q | ⟨j, hj, q⟩
  · exact Or.inl q
  · exact Or.inr ⟨j, by omega, q⟩
/-- the next STOP, of both -/
def stW (I : sw_I) (a n fl m : Nat) (s : Int32) : Int32 := nsF (I 7) m (I (a + 1)) (I (a + 2)) n fl (I 140 5) s (I a 4) (I a 5)
theorem c_stop {I : sw_I} {J : sw_J} {a n fl m : Nat} {s : Int32} (ha : a ∈ momL) {Q : Int32 → sw_I → sw_J → Prop} (hh : hsR I n fl) (hl : lR I m) (h : ∀ I2, eqx nsC I I2 → Q (stW I a n fl m s) I2 J) : wp_X1_nextStop a s I J Q := by
  obtain ⟨hna, -⟩ := mom_ap a ha
  refine s_X1_nextStop hh.2.2.1 hna.1 hna.2.1 hna.2.2.1 hh.2.1 hh.2.2.2.2.2.1 hl.1 hl.2.1 hh.2.2.2.1 (fun I2 e2 => ?_)
  rw [hh.2.2.2.2.2.2.2.1]
  exact h I2 e2
theorem m_stop {I : sw_I} {J : sw_J} {a b n fl m : Nat} {s : Int32} (hb : b ∉ mnsC) (hbm : b ≠ 140) {Q : Int32 → sw_I → sw_J → Prop} (hh : hsR I n fl) (hl : lR I m) (hm : momR I a n fl (I b)) (h : ∀ I2, eqm mnsC maF I I2 → Q (stW I a n fl m s) I2 J) : wp_X10_stopOf b 33 s I J Q := by
  obtain ⟨l9, hl9, e9⟩ := hm.2.2.2.1
  have e31 : I b 31 = nI l9 := by rw [← hm.1.2.2.1]; exact e9
  refine s_X10_stopOf hh.2.2.1 hb hbm hh.2.1 (by have := hh.2.1; omega) hh.2.2.2.2.2.2.1 (mrow_of hh.2.1 hm) e31 (fw9 hh.2.1 hh.2.2.2.2.2.2.2.2.1) hl.2.1 hl.2.2.1 hl.2.2.2.1 hh.2.2.2.2.1 (fun I2 e2 => ?_)
  have := nsF_rel (cd := I 7) (m := m) (dog := I 140 5) (s := s) hm.1 hh.2.1
  rw [← this]
  exact h I2 e2
