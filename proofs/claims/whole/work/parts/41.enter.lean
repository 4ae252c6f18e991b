/-! promises: enter, leave, undo -/
/-- the class's side of a change of those IN -/
theorem c_ins {I : sw_I} {J : sw_J} {n fl q p : Nat} {f : Int32 → Int32} (h4 : pastR I n fl q p) {K : sw_I → sw_J → Prop}
    (hK : ∀ I2, (∀ c, c ≠ 13 → c ≠ 21 → (c < 23 + 4 * q ∨ 23 + 4 * q + 4 ≤ c) → I2 c = I c) → cpV (23 + 4 * q) 13 I I2 → I2 21 1 = nI ((q + 1) % 21) → I2 21 2 = nI (adN p) → (I2 13 = fun j => if j = 3 then f (I 13 3) else I 13 j) → K I2 J) :
    wp_X4_prepare 13 I J (fun I6 J7 => ∀ I8 : sw_I, I8 = sw_up I6 13 3 (f (I6 13 3)) → wp_X4_commit I8 J7 (fun I11 J12 => K I11 J12)) := by
  obtain ⟨p1, p2, p3, p4, p5, p6⟩ := id h4
  refine s_X4_prepare (q := q) (by omega) p1 p3 (fun I1 k1 => ?_)
  intro I2 e2
  have f2 : ∀ c, c ≠ 13 → I2 c = I1 c := fun c hc => by rw [e2, sw_up_row _ _ _ hc]
  have f1 := k1.1
  refine s_X4_commit p1 p2 (by rw [f2 _ (by decide), f1 _ (by omega)]; exact p3) (by rw [f2 _ (by decide), f1 _ (by omega)]; exact p4) (fun I3 x3 n3 z3 => ?_)
  have f3 : ∀ c, c ≠ 21 → I3 c = I2 c := fun c hc => x3 c (by simpa using hc)
  have g3 : ∀ c, c ≠ 13 → c ≠ 21 → I3 c = I1 c := fun c c1 c2 => by rw [f3 c c2, f2 c c1]
  refine hK I3 (fun c c1 c2 c3 => by rw [g3 c c1 c2, f1 c c3]) ⟨fun i hi => ?_, ?_, ?_, ?_⟩ n3 z3 ?_
  · rw [g3 _ (by omega) (by omega), g3 _ (by omega) (by omega), g3 _ (by omega) (by omega)]; exact k1.2.1 i hi
  · rw [g3 _ (by omega) (by omega)]; exact k1.2.2.1
  · rw [g3 _ (by omega) (by omega)]; exact k1.2.2.2.1
  · rw [g3 _ (by omega) (by omega)]; exact k1.2.2.2.2
  · rw [f3 _ (by decide), e2, sw_up_rowf, f1 13 (by omega)]
/-- the reference's side -/
theorem m_ins {I : sw_I} {J : sw_J} {p : Nat} {f : Int32 → Int32} (p2 : p ≤ 20) (p5 : I 140 32 = nI p) {K : sw_I → sw_J → Prop}
    (hK : ∀ I2, eqm [144, 155] [32] I I2 → (I2 144 = fun j => if j = 30 then f (I 144 30) else I 144 j) → I2 155 = adF (puF (I 155) (I 144) p 33) p → I2 140 32 = nI (adN p) → K I2 J) :
    wp_X10_putsBy I J (fun I8 J9 => ∀ I12 : sw_I, I12 = sw_up I8 144 (30 : Int32).toNatClampNeg (f (I8 144 (30 : Int32).toNatClampNeg)) → wp_X10_adds I12 J9 (fun I15 J16 => K I15 J16)) := by
  refine s_X10_putsBy p2 p5 (fun I1 x1 u1 => ?_)
  intro I2 e2
  have t30 : (30 : Int32).toNatClampNeg = 30 := rfl
  rw [t30] at e2
  have n1 : I1 144 = I 144 := x1 _ (by decide)
  have f2 : ∀ c, c ≠ 144 → I2 c = I1 c := fun c hc => by rw [e2, sw_up_row _ _ _ hc]
  refine s_X10_adds p2 (by rw [f2 _ (by decide), x1 _ (by decide)]; exact p5) (fun I3 x3 a3 u3 => ?_)
  refine hK I3 ?_ ?_ ?_ u3
  · have w1 : eqm [144, 155] [32] I I1 := x1.eqm (by decide) (by decide)
    have w2 : eqm [144, 155] [32] I I2 := by rw [e2]; exact w1.upC (by decide) (by decide) _ _
    exact w2.tr (x3.mono (by decide) (by decide))
  · rw [x3.1 _ (by decide) (by decide), e2, sw_up_rowf, n1]
  · rw [a3, f2 _ (by decide), u1]
/-- both together: the relation behind a change of those IN -/
theorem ins_R {c : Nat} {I I1 Im I2 : sw_I} {J : sw_J} {n fl m q p r t s z : Nat} {v : Int32} (hw : wR c I J n fl m q p r t s z) (hv : ∀ i, i < 32 → inB v i = true → i < n ∧ I (13 + 1) i = I 13 4)
    (c1 : ∀ c, c ≠ 13 → c ≠ 21 → (c < 23 + 4 * q ∨ 23 + 4 * q + 4 ≤ c) → I1 c = I c) (c2 : cpV (23 + 4 * q) 13 I I1) (c3 : I1 21 1 = nI ((q + 1) % 21)) (c4 : I1 21 2 = nI (adN p)) (c5 : I1 13 = fun j => if j = 3 then v else I 13 j)
    (em : eqm [] [0] I1 Im) (m1 : eqm [144, 155] [32] Im I2) (m2 : I2 144 = fun j => if j = 30 then v else Im 144 j) (m3 : I2 155 = adF (puF (Im 155) (Im 144) p 33) p) (m4 : I2 140 32 = nI (adN p)) : wR c I2 J n fl m ((q + 1) % 21) (adN p) r t s z := by
  obtain ⟨h0, h1, h2, h3, h4, h5, h6, h7, h8⟩ := id hw
  obtain ⟨p1, p2, p3, p4, p5, p6⟩ := id h4
  have hn := h1.2.2.1
  have fm : ∀ c, c ≠ 140 → Im c = I1 c := fun c hc => em.1 c (by simp) hc
  have F : ∀ c, c ≠ 140 → c ≠ 144 → c ≠ 155 → I2 c = I1 c := fun c q1 q2 q3 => by rw [m1.1 c (by simp [q2, q3]) q1, fm c q1]
  have S : ∀ k, k ∉ [0, 32] → I2 140 k = I 140 k := fun k hk => by
    rw [m1.2 k (fun w => hk (by simp at w ⊢; exact Or.inr w)), em.2 k (fun w => hk (by simp at w ⊢; exact Or.inl w)), c1 _ (by decide) (by decide) (by omega)]
  have en : Im 144 = I 144 := by rw [fm _ (by decide), c1 _ (by decide) (by decide) (by omega)]
  have eu : Im 155 = I 155 := by rw [fm _ (by decide), c1 _ (by decide) (by decide) (by omega)]
  have e : sm stC stS I I2 := ⟨fun c hc => by
    have w1 : c ≠ 140 ∧ c ≠ 144 ∧ c ≠ 155 ∧ c ≠ 13 ∧ c ≠ 21 := by revert c; decide +kernel
    rw [F c w1.1 w1.2.1 w1.2.2.1, c1 c w1.2.2.2.1 w1.2.2.2.2 (by have := stC_ring c hc; omega)], fun k hk => S k (by revert k; decide)⟩
  rw [en] at m2
  rw [en, eu] at m3
  have B : rbR c I2 := by
    refine rb_mk (d := 0) h0.2 (by omega) ⟨13, mv_now, 0, by omega, ?_⟩ (fun i hi => ?_) (fun i hi => ?_) ?_ ?_
    · rw [F _ (by decide) (by decide) (by decide), c5]
      show (if 5 = 3 then v else I 13 5) = _
      rw [if_neg (by decide)]; show _ = _ + (0 : Int32); simp
    · by_cases ci : i = q
      · exact ⟨13, mv_now, by rw [ci, F _ (by omega) (by omega) (by omega)]; exact c2.2.2.2⟩
      · exact ⟨_, mv_ring i hi, by rw [F _ (by omega) (by omega) (by omega), c1 _ (by omega) (by omega) (by omega)]⟩
    · exact ⟨_, mv_kept i hi, by rw [F _ (by omega) (by omega) (by omega), c1 _ (by omega) (by omega) (by omega)]⟩
    · rw [F _ (by decide) (by decide) (by decide), c1 _ (by decide) (by decide) (by omega)]
    · rw [F _ (by decide) (by decide) (by decide), c1 _ (by decide) (by decide) (by omega)]
  refine wR_moved hw e ?_ ?_ ?_ (Nat.le_refl _) B
  · unfold momR
    rw [F 13 (by decide) (by decide) (by decide), F (13 + 1) (by decide) (by decide) (by decide), F (13 + 2) (by decide) (by decide) (by decide), F (13 + 3) (by decide) (by decide) (by decide), c1 (13 + 1) (by decide) (by decide) (by omega), c1 (13 + 2) (by decide) (by decide) (by omega), c1 (13 + 3) (by decide) (by decide) (by omega), c5, m2]
    obtain ⟨⟨b1, b2, b3, b4⟩, v1, v2, v3, v4⟩ := h3
    refine ⟨⟨fun i hi => ?_, by simp, b3, b4⟩, v1, v2, v3, fun i hi hb => hv i hi hb⟩
    have w1 : ¬ i = 30 := by omega
    have w2 : ¬ 10 + i = 30 := by omega
    have w3 : ¬ 20 + i = 30 := by omega
    simp only [w1, w2, w3, if_false]
    exact b1 i hi
  · refine pastR_push hn h4 h3 (fun c q1 q2 q3 => ?_) ⟨fun i hi => ?_, ?_, ?_, ?_⟩ (by rw [F _ (by decide) (by decide) (by decide)]; exact c3) (by rw [F _ (by decide) (by decide) (by decide)]; exact c4) m4 m3
    · rw [F c (by omega) (by omega) (by omega), c1 c (by omega) (by omega) q3]
    · rw [F _ (by omega) (by omega) (by omega), F _ (by omega) (by omega) (by omega), F _ (by omega) (by omega) (by omega)]; exact c2.1 i hi
    · rw [F _ (by omega) (by omega) (by omega)]; exact c2.2.1
    · rw [F _ (by omega) (by omega) (by omega)]; exact c2.2.2.1
    · rw [F _ (by omega) (by omega) (by omega)]; exact c2.2.2.2
  · unfold rwR
    rw [F 0 (by decide) (by decide) (by decide), c1 0 (by decide) (by decide) (by omega), S _ (by decide)]
    exact h5
