/-! a STOP and a RIDE, of both -/
theorem mrow_ofG {I : sw_I} {b n fl : Nat} {pl wi rd : Nat → Int32} {ins lift rides : Int32} (hfl : fl ≤ 9) (hr : relF pl wi rd ins lift rides (I b) n fl) (hv : valF pl wi ins lift n fl) : mrow b n I := by
  intro i hi
  obtain ⟨a1, a2, a3⟩ := hr.1 i hi
  obtain ⟨v1, v2⟩ := hv.1 i hi
  refine ⟨?_, ?_⟩
  · rcases a1 with ⟨-, q⟩ | ⟨q, j, hj, q2⟩
    · exact Or.inl q
    · exact Or.inr ⟨j, by omega, by rw [← q]; exact q2⟩
  · rw [← a2]
    exact fw9 hfl v2
theorem m_stopG {I : sw_I} {J : sw_J} {b n fl m : Nat} {s : Int32} {pl wi rd : Nat → Int32} {ins lift rides : Int32} (hb : b ∉ mnsC) (hbm : b ≠ 140) {Q : Int32 → sw_I → sw_J → Prop} (hh : hsR I n fl) (hl : lR I m) (hr : relF pl wi rd ins lift rides (I b) n fl) (hv : valF pl wi ins lift n fl)
    (h : ∀ I2, eqm mnsC maF I I2 → Q (nsF (I 7) m pl wi n fl (I 140 5) s lift rides) I2 J) : wp_X10_stopOf b 33 s I J Q := by
  obtain ⟨l9, hl9, e9⟩ := hv.2.2.1
  have e31 : I b 31 = nI l9 := by rw [← hr.2.2.1]; exact e9
  refine s_X10_stopOf hh.2.2.1 hb hbm hh.2.1 (by have := hh.2.1; omega) hh.2.2.2.2.2.2.1 (mrow_ofG hh.2.1 hr hv) e31 (fw9 hh.2.1 hh.2.2.2.2.2.2.2.2.1) hl.2.1 hl.2.2.1 hl.2.2.2.1 hh.2.2.2.2.1 (fun I2 e2 => ?_)
  have := nsF_rel (cd := I 7) (m := m) (dog := I 140 5) (s := s) hr hh.2.1
  rw [← this]
  exact h I2 e2
theorem m_rideG {I : sw_I} {J : sw_J} {b n fl m : Nat} {s : Int32} {pl wi rd : Nat → Int32} {ins lift rides : Int32} (hb : b ∉ mnsC) (hbm : b ≠ 140) (hbh : b ≠ 142) {Q : Int32 → sw_I → sw_J → Prop} (hh : hsR I n fl) (hl : lR I m) (hr : relF pl wi rd ins lift rides (I b) n fl) (hv : valF pl wi ins lift n fl)
    (h : ∀ I2, mrideOK b n s (nsF (I 7) m pl wi n fl (I 140 5) s lift rides) I I2 → Q (cmF (I 4) s (nsF (I 7) m pl wi n fl (I 140 5) s lift rides) n) I2 J) : wp_X10_travels b 33 s I J Q := by
  obtain ⟨l9, hl9, e9⟩ := hv.2.2.1
  have e31 : I b 31 = nI l9 := by rw [← hr.2.2.1]; exact e9
  refine s_X10_travels hh.2.2.1 hb hbm hbh hh.2.1 (by have := hh.2.1; omega) hh.2.2.2.2.2.2.1 (mrow_ofG hh.2.1 hr hv) e31 (fw9 hh.2.1 hh.2.2.2.2.2.2.2.2.1) hl.2.1 hl.2.2.1 hl.2.2.2.1 hh.2.2.2.2.1 (fun I2 e2 => ?_)
  have := nsF_rel (cd := I 7) (m := m) (dog := I 140 5) (s := s) hr hh.2.1
  rw [← this] at e2 ⊢
  rw [cmF_home (fun i hi => ((hh.2.2.2.2.2.2.2.2.2.1 i hi).1).symm)]
  exact h I2 e2
theorem c_ride {I : sw_I} {J : sw_J} {a n fl m : Nat} (ha : a ∈ momL) {Q : Int32 → sw_I → sw_J → Prop} (hh : hsR I n fl) (hl : lR I m)
    (h : ∀ I2, rideOK a n (stW I a n fl m (I a 3)) I I2 → Q (cmF (I 4) (I a 3) (stW I a n fl m (I a 3)) n) I2 J) : wp_X1_carry a I J Q := by
  refine s_X1_carry hh.2.2.1 ha hh.2.1 hh.2.2.2.2.2.1 hl.1 hl.2.1 hh.2.2.2.1 (fun I2 e2 => ?_)
  rw [hh.2.2.2.2.2.2.2.1] at e2 ⊢
  exact h I2 e2
theorem stW_rng {I : sw_I} {a n fl m : Nat} {s : Int32} (hh : hsR I n fl) : ∃ j, j < fl ∧ stW I a n fl m s = nI j := by
  obtain ⟨j, h1, h2, -⟩ := nsF_rng (cd := I 7) (m := m) (n := n) (pl := I (a + 1)) (wi := I (a + 2)) (s := s) (lift := I a 4) (rides := I a 5) hh.1 hh.2.1 hh.2.2.2.2.2.2.2.2.1
  exact ⟨j, h1, h2⟩
/-- behind a RIDE of both they tell the same -/
theorem momR_ride {Ic I1 Im I2 : sw_I} {a b n fl : Nat} {s stop : Int32} (hn : n ≤ 10) (hna : a + 2 ∉ nsC) (h : momR Ic a n fl (Im b)) (hs : s = Ic a 3) (hst : ∃ j, j < fl ∧ stop = nI j) (hhm : ∀ i, i < n → Ic 4 i = Im 142 i) (h1 : rideOK a n stop Ic I1) (h2 : mrideOK b n s stop Im I2) : momR I1 a n fl (I2 b) := by
  obtain ⟨r1, r2, r3, r4, r5, r6⟩ := h1
  obtain ⟨-, -, m3⟩ := h2
  unfold momR
  rw [r2, r3, r4, r5, r6, m3, r1 (a + 2) hna (by omega) (by omega) (by omega), ← mrF_home hhm, ← cmF_home hhm, hs]
  exact ⟨relF_ride hn h.1 hst, valF_ride hn h.2 hst⟩
