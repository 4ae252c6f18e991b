/-- promise: worthOf -/
theorem p_worthOf {c o : Nat} {x1 : Int32} {I : sw_I} {J : sw_J} {Q : Int32 → Int32 → sw_I → sw_J → Prop} (o1 : ¬ o = 118) (o2 : ¬ o = 141) (h : wW c I J) (hQ : ∀ (k v : Int32) I2 J2, wW c I2 J2 → I2 140 0 = k → (k = 0 → J2 o 0 = v.toInt64) → Q k v I2 J2) :
    wp_L_worthOf x1 o I J (fun k I1 J1 => wp_X10_worthOf x1 I1 J1 (fun r2 I2 J2 => Q k r2 I2 J2)) := by
  obtain ⟨n, fl, m, q, p, r, t, s, z, hw⟩ := h
  obtain ⟨h0, h1, h2, h3, h4, h5, h6, h7, h8⟩ := id hw
  have hn := h1.2.2.1
  have hfl := h1.2.1
  have fin1 : ∀ (v : Int32) I2, I2 = sw_up (sw_up I 140 0 0) 140 0 1 → Q 1 v I2 J := fun v I2 e2 => hQ 1 v I2 J (th1_of hw e2).1 (th1_of hw e2).2 (fun w => absurd w (by decide))
  unfold wp_L_worthOf wp_X9_worthOf
  refine s_X1_hasFloor hfl h1.2.2.2.1 (fun hno => ?_) (fun k hk ek => ?_)
  · rw [sw_if_t rfl]
    unfold wp_X10_worthOf
    intro I1 e1
    refine s_X10_isFloor (n := fl) (by omega) (by rw [e1, sw_up_slot _ _ _ _ (by decide)]; exact h1.2.2.2.2.1) (fun _ => ?_) (fun k hk ek => (ix_out (by omega) hk ek hno).elim)
    rw [sw_if_t rfl]
    unfold wp_X10_refuse
    intro I2 e2
    exact fin1 _ I2 (by rw [e2, e1])
  · subst ek
    rw [sw_if_f (by decide)]
    have hW := isW_O h1 h2
    generalize hμ : moC I 13 = μ
    have hE : moE I 13 μ := by rw [← hμ]; exact moE_C _ _
    have hR : relM (wdO I m n fl) μ (I 144) := by rw [← hμ]; exact h3
    refine s_X1_look hn (by decide) (by decide) (by decide) h1.2.2.2.2.2.1 (fun I1 y1 z1 => ?_)
    refine c_worth (w := wdO I m n fl) (μ := μ) (I0 := I1) (a := 13) (by decide) (by omega) hW hE z1 eqx.rf (y1.mono (by decide)) (fun I2 y2 => ?_)
    have s1 : eqm scrC scrF I I1 := y1.eqm (by decide) (by decide)
    have s2 : eqm scrC scrF I I2 := s1.tr (y2.eqm (by decide) (by decide))
    unfold wp_X10_worthOf
    intro I3 e3
    have s3 : eqm scrC scrF I I3 := by rw [e3]; exact s2.upF (by decide) _
    have hW3 := isW_of s3 (by decide) (by decide) hW
    have r144 : I3 144 = I 144 := s3.1 _ (by decide) (by decide)
    have hR3 : relM (wdO I m n fl) μ (I3 144) := by rw [r144]; exact hR
    refine s_X10_isFloor (n := fl) (by omega) hW3.1.2.2.2.2.1 (fun hno => (ix_out (by omega) hk rfl hno).elim) (fun _ _ _ => ?_)
    rw [sw_if_f (by decide)]
    have e30 : I3 144 (30 : Int32).toNatClampNeg = I 13 3 := by rw [r144]; exact h3.1.2.1.symm
    rw [e30]
    refine s_X10_looks (n := n) hn (by decide) (by decide) hW3.1.2.2.2.2.2.2.1 (mrow_ofG hfl hR3.1 hR3.2) (fun I4 y4 z4 => ?_)
    refine m_worth (I := I3) (b := 144) (w := wdO I m n fl) (μ := μ) (by omega) (isW_of y4 (by decide) (by decide) hW3) hW3.2.2.1 hR3 z4 (fun I5 y5 => ?_)
    have s5 : eqm scrC scrF I I5 := (s3.tr (y4.mono (by decide) (by decide))).tr (y5.eqm (by decide) (by decide))
    exact hQ 0 _ I5 _ (wW_J o1 o2 ⟨n, fl, m, q, p, r, t, s, z, wR_scr hw s5 rfl rfl⟩) (by rw [y5.at (by decide), y4.2 _ (by decide), e3, sw_up_same]) (fun _ => sw_up_same _ _ _ _)
/-- promise: ballast -/
theorem p_ballast {c o : Nat} {x1 x2 : Int32} {I : sw_I} {J : sw_J} {Q : Int32 → Int32 → sw_I → sw_J → Prop} (o1 : ¬ o = 118) (o2 : ¬ o = 141) (h : wW c I J) (hQ : ∀ (k v : Int32) I2 J2, wW c I2 J2 → I2 140 0 = k → (k = 0 → J2 o 0 = v.toInt64) → Q k v I2 J2) :
    wp_L_ballast x1 x2 o I J (fun k I1 J1 => wp_X10_ballast x1 x2 I1 J1 (fun r2 I2 J2 => Q k r2 I2 J2)) := by
  obtain ⟨n, fl, m, q, p, r, t, s, z, hw⟩ := h
  obtain ⟨h0, h1, h2, h3, h4, h5, h6, h7, h8⟩ := id hw
  have hn := h1.2.2.1
  have hfl := h1.2.1
  have fin1 : ∀ (v : Int32) I2, I2 = sw_up (sw_up I 140 0 0) 140 0 1 → Q 1 v I2 J := fun v I2 e2 => hQ 1 v I2 J (th1_of hw e2).1 (th1_of hw e2).2 (fun w => absurd w (by decide))
  have e3 : I 13 3 = I 144 30 := h3.1.2.1
  have mis : (¬ ((∃ k, k < n ∧ x1 = nI k ∧ inB (I 13 3) k = true) ∧ ∃ j, j ≤ 40 ∧ x2 = nI j)) → wp_X10_ballast x1 x2 I J (fun r2 I2 J2 => Q 1 r2 I2 J2) := fun hno => by
    unfold wp_X10_ballast
    intro I1 e1
    have r144 : I1 144 = I 144 := by rw [e1, sw_up_row _ _ _ (by decide)]
    have ref : wB_X10_ballast_25 (fun r2 I2 J2 => Q 1 r2 I2 J2) I1 J := by
      unfold wB_X10_ballast_25 wp_X10_refuse
      intro I2 e2
      exact fin1 _ I2 (by rw [e2, e1])
    refine s_X10_canLeave hn (by rw [e1, sw_up_slot _ _ _ _ (by decide)]; exact h1.2.2.2.2.2.2.1) (fun _ => by rw [sw_if_t rfl]; exact ref) (fun k hk ek => ?_)
    rw [r144, ← e3]
    cases hb : inB (I 13 3) k
    · rw [sw_if_t (by simp)]; exact ref
    · rw [sw_if_f (by simp)]
      refine in_N (N := 40) (by decide) rfl (fun _ => by rw [sw_if_t rfl]; exact ref) (fun j hj ej => absurd ⟨⟨k, hk, ek, hb⟩, j, hj, ej⟩ hno)
  unfold wp_L_ballast wp_X9_ballast
  refine s_X3_isIn_any (fun hno => ?_) (fun k hk ek => ?_)
  · rw [sw_if_t rfl]
    exact mis (fun w => by obtain ⟨⟨k, hk, ek, -⟩, -⟩ := w; exact ix_out (n := 10) (k := k) (by omega) (by omega) ek hno)
  · cases hb : inB (I 13 3) k
    · rw [sw_if_t (by simp)]
      exact mis (fun w => by
        obtain ⟨⟨k2, hk2, ek2, hb2⟩, -⟩ := w
        have := (nI_eq (by omega) (by omega)).mp (ek.symm.trans ek2)
        rw [← this, hb] at hb2; cases hb2)
    · rw [sw_if_f (by simp)]
      refine if_N (N := 40) (by decide) rfl (fun hno => mis (fun w => hno w.2)) (fun N hN eN => ?_)
      have hk2 : k < n := (h3.2.2.2.2 k (by omega) hb).1
      subst ek
      subst eN
      have hW := isW_O h1 h2
      generalize hμ : moC I 13 = μ
      have hE : moE I 13 μ := by rw [← hμ]; exact moE_C _ _
      have hR : relM (wdO I m n fl) μ (I 144) := by rw [← hμ]; exact h3
      have eo : I 13 3 = oI μ := hE.2.1
      intro y ey
      refine c_home (w := wdO I m n fl) hN hW hE (fun I1 y1 => ?_)
      intro y2 ey2
      have s1 : eqm scrC scrF I I1 := y1.eqm (by decide) (by decide)
      refine c_home (w := wdO I m n fl) (μ := μ) hN (isW_of s1 (by decide) (by decide) hW) (moE_cong (fun c c1 c2 => y1 c (by simp; omega)) hE) (fun I2 y3 => s_J6_bitCount (s_J6_bitCount ?_))
      have s2 : eqm scrC scrF I I2 := s1.tr (y3.eqm (by decide) (by decide))
      unfold wp_X10_ballast
      intro I3 e4
      have s3 : eqm scrC scrF I I3 := by rw [e4]; exact s2.upF (by decide) _
      have hW3 := isW_of s3 (by decide) (by decide) hW
      have r144 : I3 144 = I 144 := s3.1 _ (by decide) (by decide)
      have hR3 : relM (wdO I m n fl) μ (I3 144) := by rw [r144]; exact hR
      have t30 : ∀ I9 : sw_I, I9 144 = I 144 → I9 144 (30 : Int32).toNatClampNeg = I 13 3 := fun I9 e9 => by rw [e9]; exact e3.symm
      refine s_X10_canLeave hn hW3.1.2.2.2.2.2.2.1 (fun hno => (ix_out (by omega) hk2 rfl hno).elim) (fun k2 hk3 ek3 => ?_)
      have ekk : k2 = k := (nI_eq (by omega) (by omega)).mp ek3.symm
      rw [ekk, r144, ← e3, hb, sw_if_f (by simp)]
      refine in_N (N := 40) (by decide) rfl (fun hno => absurd ⟨N, hN, rfl⟩ hno) (fun _ _ _ => ?_)
      rw [sw_if_f (by decide), t30 I3 r144]
      refine m_home (w := wdO I m n fl) (μ := μ) hN hW3 hR3 (fun k9 _ h9 => by rw [← eo]; exact h9) (fun I4 y4 => ?_)
      intro y5 ey5
      have s4 : eqm scrC scrF I I4 := s3.tr (y4.mono (by decide) (by decide))
      have r4 : I4 144 = I 144 := s4.1 _ (by decide) (by decide)
      refine s_J6_bitCount ?_
      rw [t30 I4 r4]
      have sub : ∀ k9, k9 < 32 → inB (I 13 3 &&& (((1 : Int32) <<< (nI k &&& 31)) ^^^ (-1 : Int32))) k9 = true → inB (oI μ) k9 = true := fun k9 hk9 h9 => by
        rw [inB_and _ _ hk9, Bool.and_eq_true] at h9
        rw [← eo]; exact h9.1
      refine m_home (w := wdO I m n fl) (μ := μ) hN (isW_of s4 (by decide) (by decide) hW) (by rw [r4]; exact hR) sub (fun I5 y6 => s_J6_bitCount ?_)
      have s5 : eqm scrC scrF I I5 := s4.tr (y6.mono (by decide) (by decide))
      have v1 : I1 13 3 = I 13 3 := by rw [s1.1 13 (by decide) (by decide)]
      rw [ey5, ey2, ey, v1]
      exact hQ 0 _ I5 _ (wW_J o1 o2 ⟨n, fl, m, q, p, r, t, s, z, wR_scr hw s5 rfl rfl⟩) (by rw [y6.2 _ (by decide), y4.2 _ (by decide), e4, sw_up_same]) (fun _ => sw_up_same _ _ _ _)
