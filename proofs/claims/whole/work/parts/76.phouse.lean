/-! promise: house -/
def hsX (T : Nat → Int32) (fl n t : Nat) (lift : Int32) : Bool × Nat × List Nat := if t = 0 then (true, 0, []) else hsP T fl (min t 76) lift (10 - n) 0
abbrev bgF : List Nat := [0, 12, 13, 15, 14, 19, 20]
theorem hsX_e {T : Nat → Int32} {fl n t : Nat} {lift : Int32} (hn : n ≤ 10) : (if t = 0 then (-1 : Int32) else auV t 76 (auM T fl n lift (min t 76) 0 0 0)) = hsV t 76 ((hsX T fl n t lift).1, (hsX T fl n t lift).2.1) := by
  unfold hsX
  by_cases c : t = 0
  · rw [if_pos c, if_pos c, c]; rfl
  · rw [if_neg c, if_neg c]
    exact au_hs (10 - n) 0 0 (by omega) (by omega)
theorem lnE_some {T : Nat → Int32} {fl to p e : Nat} (hp : p ≤ to) (h : lnE T fl to p = some e) : e ≤ to := by
  unfold lnE at h
  by_cases k0 : ¬ (p < to ∧ flB fl (T p) = true)
  · rw [if_pos k0] at h; cases h; exact hp
  rw [if_neg k0] at h
  have q0 := (Classical.not_not.mp k0).1
  by_cases k1 : ¬ (p + 1 < to ∧ T (p + 1) = 62)
  · rw [if_pos k1] at h; cases h; omega
  rw [if_neg k1] at h
  have q1 := (Classical.not_not.mp k1).1
  by_cases k2 : ¬ (p + 2 < to ∧ (T (p + 2) = 45 ∨ flB fl (T (p + 2)) = true))
  · rw [if_pos k2] at h; cases h; omega
  rw [if_neg k2] at h
  have q2 := (Classical.not_not.mp k2).1
  by_cases k3 : ¬ (p + 3 < to ∧ T (p + 3) = 64)
  · rw [if_pos k3] at h; cases h; omega
  rw [if_neg k3] at h
  have q3 := (Classical.not_not.mp k3).1
  by_cases k4 : ¬ (p + 4 < to ∧ flB fl (T (p + 4)) = true)
  · rw [if_pos k4] at h; cases h; omega
  rw [if_neg k4] at h; cases h
theorem hsP_le {T : Nat → Int32} {fl to : Nat} {lift : Int32} : ∀ d p, p ≤ to → (hsP T fl to lift d p).2.1 ≤ to
  | 0, p, h => h
  | d + 1, p, h => by
    have hsPe : hsP T fl to lift (d + 1) p = (match lnE T fl to p with
      | some e => (false, e, [])
      | none => if lnQ T to lift p < to ∧ T (lnQ T to lift p) = 59 then ((hsP T fl to lift d (lnQ T to lift p + 1)).1, (hsP T fl to lift d (lnQ T to lift p + 1)).2.1, p :: (hsP T fl to lift d (lnQ T to lift p + 1)).2.2) else (true, lnQ T to lift p, [p])) := rfl
    cases hE : lnE T fl to p with
    | some e => rw [hsPe, hE]; exact lnE_some h hE
    | none =>
      have h4 := (lnE_none hE).1
      rw [hsPe, hE]
      dsimp only
      by_cases c : lnQ T to lift p < to ∧ T (lnQ T to lift p) = 59
      · rw [if_pos c]; exact hsP_le d _ (by omega)
      · rw [if_neg c]
        show lnQ T to lift p ≤ to
        unfold lnQ
        by_cases ci : lnI T to lift p = true
        · rw [if_pos ci]; unfold lnI at ci; have := (of_decide_eq_true ci).1; omega
        · rw [if_neg ci]; omega
theorem hsX_le {T : Nat → Int32} {fl n t : Nat} {lift : Int32} : (hsX T fl n t lift).2.1 ≤ min t 76 := by
  unfold hsX
  by_cases c : t = 0
  · rw [if_pos c]; exact Nat.zero_le _
  · rw [if_neg c]; exact hsP_le _ _ (Nat.zero_le _)
/-- what the flaw is: none at a whole text -/
theorem hsV_neg {t : Nat} {r : Bool × Nat} (hr : r.2 ≤ 80) (h : hsV t 76 r < 0) : r.1 = true ∧ r.2 = t ∧ t ≤ 76 ∧ hsV t 76 r = -1 := by
  unfold hsV at h ⊢
  by_cases c : r.1 = true ∧ r.2 = min t 76
  · rw [if_pos c] at h ⊢
    by_cases c2 : 76 < t
    · rw [if_pos c2] at h; exact absurd h (by decide)
    · rw [if_neg c2]; exact ⟨c.1, by rw [c.2]; omega, by omega, rfl⟩
  · rw [if_neg c] at h
    exact absurd h (nI_pos (by omega))
theorem hsV_pos {t : Nat} {r : Bool × Nat} (hr : r.2 ≤ 80) (h : ¬ hsV t 76 r < 0) : ∃ k, k ≤ 80 ∧ hsV t 76 r = nI k := by
  unfold hsV at h ⊢
  by_cases c : r.1 = true ∧ r.2 = min t 76
  · rw [if_pos c] at h ⊢
    by_cases c2 : 76 < t
    · rw [if_pos c2]; exact ⟨76, by omega, rfl⟩
    · rw [if_neg c2] at h; exact absurd (by decide) h
  · rw [if_neg c]; exact ⟨r.2, hr, rfl⟩
theorem m1_neg : ∀ k, k ≤ 80 → (-1 : Int32) - nI k < 0 := by decide +kernel
theorem s_begins {t lim : Nat} (ht : t ≤ 80) (hl : lim ≤ 80) {T : Nat → Int32} {I : sw_I} {J : sw_J} {Q : Int32 → sw_I → sw_J → Prop} (htp : I 140 12 = nI t) (hT : ∀ i, i < t → I 146 i = T i ∧ ∃ j, j < 256 ∧ T i = nI j) (h : ∀ I2, eqm [] [12, 13, 15, 14] I I2 → tpS I2 T 0 (min t lim) → I2 140 12 = 0 → I2 140 15 = 0 → Q (nI t) I2 J) : wp_X10_begins (nI lim) I J Q := by
  intro y hy I3 e3 I5 e5 I7 e7 I9 e9
  rw [htp] at hy
  have ey : (if nI lim < y then nI lim else y) = nI (min t lim) := by
    rw [hy]
    by_cases c : lim < t
    · rw [if_pos (nI_lt c (by omega)), show min t lim = lim by omega]
    · rw [if_neg (nI_nlt (by omega) (by omega)), show min t lim = t by omega]
  rw [ey] at e9
  rw [hy]
  have q : eqm [] [12, 13, 15, 14] I I9 := by rw [e9, e7, e5, e3]; exact (((eqm.rf.upF (by decide) _).upF (by decide) _).upF (by decide) _).upF (by decide) _
  refine h I9 q ⟨?_, ?_, Nat.zero_le _, by omega, fun i hi => ?_⟩ ?_ ?_
  · rw [e9, sw_up_slot _ _ _ _ (by decide), e7, sw_up_slot _ _ _ _ (by decide), e5, sw_up_same]; rfl
  · rw [e9, sw_up_same]
  · rw [q.1 _ (by decide) (by decide)]; exact hT i (by omega)
  · rw [e9, sw_up_slot _ _ _ _ (by decide), e7, sw_up_slot _ _ _ _ (by decide), e5, sw_up_slot _ _ _ _ (by decide), e3, sw_up_same]
  · rw [e9, sw_up_slot _ _ _ _ (by decide), e7, sw_up_same]
theorem m_house {fl n t : Nat} {T : Nat → Int32} {lift : Int32} (hfl : fl ≤ 9) (hn : n ≤ 10) (ht : t ≤ 80) {I : sw_I} {J : sw_J} {Q : Int32 → sw_I → sw_J → Prop} (hf : I 140 3 = nI fl) (hr : I 140 4 = nI n) (hlift : I 144 31 = lift) (htp : I 140 12 = nI t) (hT : ∀ i, i < t → I 146 i = T i ∧ ∃ j, j < 256 ∧ T i = nI j)
    (hbad : ¬ hsV t 76 ((hsX T fl n t lift).1, (hsX T fl n t lift).2.1) < 0 → ∀ I3, eqm rdA bgF I I3 → I3 140 12 = 0 → I3 140 0 = 0 → Q (-1 - hsV t 76 ((hsX T fl n t lift).1, (hsX T fl n t lift).2.1)) I3 J)
    (hok : hsV t 76 ((hsX T fl n t lift).1, (hsX T fl n t lift).2.1) < 0 → ∀ I3, eqm rdA bgF I I3 → I3 140 12 = 0 → I3 140 0 = 0 → (∃ I0, hsS I0 T fl (min t 76) n lift (hsX T fl n t lift).2.2 I3) → ∃ k : Nat, wl_X10_house_89 Q k (nI t) (nI n) I3 J) : wp_X10_house I J Q := by
  intro I1 e1
  refine s_begins (t := t) (lim := 76) (T := T) ht (by decide) (by rw [e1, sw_up_slot _ _ _ _ (by decide)]; exact htp) (fun i hi => by rw [e1, sw_up_row _ _ _ (by decide)]; exact hT i hi) (fun I4 q4 s4 t4 n4 => ?_)
  intro I6 e6 I8 e8
  have q8 : eqm [] [19, 20] I4 I8 := by rw [e8, e6]; exact (eqm.rf.upF (by decide) _).upF (by decide) _
  have qI : eqm rdA bgF I I8 := by
    have a : eqm rdA bgF I I1 := by rw [e1]; exact eqm.rf.upF (by decide) _
    exact (a.tr (q4.mono (by decide) (by decide))).tr (q8.mono (by decide) (by decide))
  have s8 : tpS I8 T 0 (min t 76) := tpS_of s4 q8 (by decide) (by decide) (by rw [q8.2 _ (by decide)]; exact s4.1) (Nat.zero_le _)
  have S8 : hsS I8 T fl (min t 76) n lift [] I8 := by
    refine ⟨eqm.rf, ?_, fun i hi => absurd hi (Nat.not_lt_zero _), fun k hk => ?_⟩
    · rw [e8, sw_up_slot _ _ _ _ (by decide), e6, sw_up_same]; rfl
    · rw [e8, sw_up_same, inB_0 hk]; exact (decide_eq_false (fun q => by have := q.2.1; simp at this; omega)).symm
  have fin : ∀ K I3, eqm rdA rdE I8 I3 → tpS I3 T (hsX T fl n t lift).2.1 (min t 76) → ((hsX T fl n t lift).1 = true → hsS I8 T fl (min t 76) n lift (hsX T fl n t lift).2.2 I3) → wb_X10_house_34 K Q (nI t) (bI (hsX T fl n t lift).1) 0 I3 J := by
    intro K I3 q3 s3 hS
    have q : eqm rdA bgF I I3 := qI.tr (q3.mono (by decide) (by decide))
    have t3 : I3 140 12 = 0 := by rw [q3.2 _ (by decide), q8.2 _ (by decide)]; exact t4
    have h3 : I3 140 0 = 0 := by rw [q3.2 _ (by decide), q8.2 _ (by decide), q4.2 _ (by decide), e1, sw_up_same]
    have r3 : I3 140 4 = nI n := by rw [q.2 _ (by decide)]; exact hr
    unfold wb_X10_house_34
    rw [sw_if_t rfl]
    refine s_faultOf (lim := 76) ht (by decide) s3 ?_
    by_cases c : hsV t 76 ((hsX T fl n t lift).1, (hsX T fl n t lift).2.1) < 0
    · rw [if_pos c, sw_if_f (by decide)]
      intro y hy
      rw [hy, r3]
      exact hok c I3 q t3 h3 ⟨I8, hS (hsV_neg (by have := s3.2.2.1; have := s3.2.2.2.1; dsimp only; omega) c).1⟩
    · obtain ⟨k, hk, ek⟩ := hsV_pos (by have := s3.2.2.1; have := s3.2.2.2.1; dsimp only; omega) c
      rw [if_neg c, sw_if_t (by rw [ek]; exact m1_neg k hk)]
      exact hbad c I3 q t3 h3
  by_cases c0 : t = 0
  · have eX : hsX T fl n t lift = (true, 0, []) := by unfold hsX; rw [if_pos c0]
    rw [sw_if_f (by rw [c0]; decide)]
    refine ⟨1, ?_⟩
    have := fin (wl_X10_house_34 Q 0) I8 eqm.rf (by rw [eX]; exact s8) (fun _ => by rw [eX]; exact S8)
    rw [eX] at this
    exact this
  · have eX : hsX T fl n t lift = hsP T fl (min t 76) lift (10 - n) 0 := by unfold hsX; rw [if_neg c0]
    rw [sw_if_t (show (0 : Int32) < nI t from nI_lt (a := 0) (by omega) (by omega))]
    refine ⟨10 - n + 2, m_hs_loop (lift := lift) hfl hn ht (by rw [qI.2 _ (by decide)]; exact hf) (by rw [qI.2 _ (by decide)]; exact hr) (by rw [qI.1 _ (by decide) (by decide)]; exact hlift) (10 - n) [] 0 1 I8 (by simp; omega) S8 s8 (fun I3 q3 s3 hS f => ?_)⟩
    rw [← eX] at s3 hS ⊢
    exact fin _ I3 q3 s3 (fun w => by have := hS w; rw [List.nil_append] at this; exact this)
theorem p_house {c : Nat} {I : sw_I} {J : sw_J} {Q : Int32 → Int32 → sw_I → sw_J → Prop} (h : wW c I J) (hQ : ∀ v I2 J2, wW (c + 1) I2 J2 → I2 140 0 = 0 → Q v v I2 J2) :
    wp_X9_house  I J (fun r I1 J1 => wp_X10_house  I1 J1 (fun r2 I2 J2 => Q r r2 I2 J2)) := by
  obtain ⟨n, fl, m, q, p, r, t, s, z, hw⟩ := h
  obtain ⟨h0, h1, h2, h3, h4, h5, h6, h7, h8⟩ := id hw
  have hn := h1.2.2.1
  obtain ⟨a1, a2, a3, a4, a5, a6, a7, a8, a9, a10, a11⟩ := id h1
  obtain ⟨p1, p2, p3, p4, p5, p6⟩ := id h4
  obtain ⟨x1, x2, x3, x4⟩ := id h6
  have lift31 : I 144 31 = I 13 4 := h3.1.2.2.1.symm
  unfold wp_X9_house
  refine c_flaw (n := n) (t := t) (T := I 2) (lift := I 13 4) a2 hn x1 a4 a6 x2 rfl ?_
  rw [hsX_e hn]
  have eX : hsX (I 2) fl n t (I 13 4) = hsX (I 2) fl n t (I 13 4) := rfl
  generalize hX : hsX (I 2) fl n t (I 13 4) = X at eX
  have tape : ∀ i, i < t → I 146 i = I 2 i ∧ ∃ j, j < 256 ∧ I 2 i = nI j := fun i hi => ⟨(x4 i hi).1.symm, (x4 i hi).2⟩
  have hle : X.2.1 ≤ 80 := by rw [← hX]; have := hsX_le (T := I 2) (fl := fl) (n := n) (t := t) (lift := I 13 4); omega
  by_cases cf : hsV t 76 (X.1, X.2.1) < 0
  · obtain ⟨g1, g2, g3, g4⟩ := hsV_neg hle cf
    dsimp only at g1 g2
    rw [sw_if_t cf]
    by_cases c0 : t = 0
    · -- no line
      refine ⟨1, ?_⟩
      show wb_X9_takeLines_4 _ _ _ _ I J
      unfold wb_X9_takeLines_4
      rw [x2, c0, sw_if_t (by decide), sw_if_f (by decide)]
      intro I1 e1
      rw [c0] at g4
      rw [sw_if_t (by rw [g4]; decide)]
      have E1 : eqm [1] [] I I1 := by rw [e1]; exact eqm.rf.upC (by decide) (by decide) _ _
      refine m_house (n := n) (fl := fl) (t := t) (T := I 2) (lift := I 13 4) a2 hn x1 (by rw [E1.2 _ (by decide)]; exact a5) (by rw [E1.2 _ (by decide)]; exact a7) (by rw [E1.1 _ (by decide) (by decide)]; exact lift31) (by rw [E1.2 _ (by decide)]; exact x3) (fun i hi => by rw [E1.1 _ (by decide) (by decide)]; exact tape i hi) (fun hb => ?_) (fun _ I3 q3 t3 th3 hS => ?_)
      · rw [hX] at hb; exact absurd cf hb
      · rw [hX] at hS
        obtain ⟨I0, hS0, hS1, hS2, hS3⟩ := hS
        have X2 : X.2.2 = [] := by rw [← hX]; unfold hsX; rw [if_pos c0]
        rw [X2] at hS1 hS3
        have in0 : I3 140 20 = 0 := inB_ext (fun k hk => by rw [hS3 k hk, inB_0 hk]; exact decide_eq_false (fun q => by have := q.2.1; simp at this; omega))
        have hm0 : I3 140 19 = nI 0 := hS1
        have r3 : I3 140 4 = nI n := by rw [q3.2 _ (by decide), E1.2 _ (by decide)]; exact a7
        refine ⟨1, m_comes_loop (n := n) (L := 0) (hv := fun _ => 0) (wv := fun _ => 0) (pv := fun _ => 0) (by omega) r3 hm0 (fun i hi => by omega) (fun I5 c5 I6 e6 I8 e8 => ?_) 0 0 I3 (by omega) ⟨eqm.rf, (crU_0 _ _ _).symm, (crU_0 _ _ _).symm, by unfold crG; rw [crU_0, crU_0, crU_0]⟩⟩
        rw [c0, sw_if_f (by decide)]
        obtain ⟨d1, d2, d3, d4⟩ := c5
        rw [crU_0] at d2 d3
        unfold crG at d4
        rw [crU_0, crU_0, crU_0] at d4
        rw [d1.2 20 (by decide), in0, Int32.or_zero] at e6
        have f6 : I6 144 = I5 144 := by
          rw [e6]; funext j
          by_cases cj : j = 30
          · rw [cj, sw_up_same]
          · rw [sw_up_slot _ _ _ _ cj]
        have m6 : I6 140 = I5 140 := by rw [e6, sw_up_row _ _ _ (by decide)]
        have rm : I8 140 19 = 0 := by rw [e8, sw_up_slot _ _ _ _ (by decide), m6, d1.2 _ (by decide)]; exact hm0
        rw [rm]
        have e : eqm (1 :: rdA) (bgF) I I8 := by
          refine ⟨fun c hc hm => ?_, fun k hk => ?_⟩
          · have hc2 : c ∉ rdA := fun w => hc (List.mem_cons_of_mem _ w)
            have b3 : I3 c = I c := by rw [q3.1 c hc2 hm, E1.1 c (fun w => hc (by rw [List.mem_singleton.mp w]; exact List.mem_cons_self)) hm]
            rw [e8, sw_up_row _ _ _ hm]
            by_cases cn : c = 144
            · rw [cn, f6, d4, ← cn, b3]
            · rw [e6, sw_up_row _ _ _ cn]
              by_cases ch : c = 142
              · rw [ch, d2, ← ch, b3]
              · by_cases ct : c = 143
                · rw [ct, d3, ← ct, b3]
                · rw [d1.1 c (by simp [cn, ch, ct]) hm, b3]
          · by_cases kr : k = 4
            · rw [kr, e8, sw_up_same, m6, d1.2 _ (by decide), d1.2 _ (by decide), r3, hm0, a7, nI_add]; rfl
            · rw [e8, sw_up_slot _ _ _ _ kr, m6, d1.2 _ (by simp), q3.2 _ hk, E1.2 _ (by simp)]
        refine hQ _ I8 J (th_up ⟨n, fl, m, q, p, r, 0, s, z, ⟨h0.1, rb_of e (by decide) h0.2⟩, hs_of e (by decide) (by decide) h1, l_of e (by decide) (by decide) h2, now_of e (by decide) hn h3, past_of e (by decide) (by decide) hn h4, rw_of e (by decide) (by decide) h5, ⟨by omega, ?_, ?_, fun i hi => by omega⟩, sn_of e (by decide) (by decide) h7, kp_of e (by decide) (by decide) hn h8⟩) ?_
        · have b8 : I8 1 = I1 1 := by rw [e8, sw_up_row _ _ _ (by decide), e6, sw_up_row _ _ _ (by decide), d1.1 _ (by decide) (by decide), q3.1 _ (by decide) (by decide)]
          rw [b8, e1, sw_up_same]; rfl
        · rw [e8, sw_up_slot _ _ _ _ (by decide), m6, d1.2 _ (by decide)]; exact t3
        · rw [e8, sw_up_slot _ _ _ _ (by decide), m6, d1.2 _ (by decide)]; exact th3
    · have hm : min t 76 = t := by omega
      have eXP : X = hsP (I 2) fl t (I 13 4) (10 - n) 0 := by rw [← hX]; unfold hsX; rw [if_neg c0, hm]
      have hlen := hsP_len (T := I 2) (fl := fl) (to := t) (lift := I 13 4) (10 - n) 0 (by rw [← eXP]; exact g1)
      rw [← eXP] at hlen
      obtain ⟨L, hL⟩ : ∃ L, L = X.2.2.length := ⟨_, rfl⟩
      rw [← hL] at hlen
      have posL : (0 : Int32) < nI L := nI_lt (a := 0) hlen.1 (by omega)
      have c00 : cgC I fl n (hvT (I 2) X.2.2) (wvT (I 2) X.2.2) (pvT (I 2) X.2.2) (bvT (I 2) t (I 13 4) X.2.2) 0 I := by
        refine ⟨eqx.rf, a6, a4, rfl, (crU_0 _ _ _).symm, (crU_0 _ _ _).symm, (crU_0 _ _ _).symm, (crU_0 _ _ _).symm, (crU_0 _ _ _).symm, fun k hk => ?_, rfl, rfl⟩
        rw [decide_eq_false (fun q => by have := q.1; have := q.2.1; omega), Bool.or_false]
      refine ⟨10 - n + 1, c_take_loop (R := X.2.2) (fl := fl) (n := n) (t := t) (lift := I 13 4) g3 x2 rfl (fun I1 cc => ?_) (10 - n) 0 0 I (by omega) (by rw [← eXP]; exact g1) (by rw [← eXP]; exact g2) ⟨[], rfl, by rw [← eXP]; rfl⟩ c00⟩
      rw [← hL] at cc ⊢
      rw [sw_if_t posL]
      refine s_X9_forgetWhatWas (fun I2 y2 k2 z2 w2 => ?_)
      intro I4 e4
      rw [sw_if_t cf]
      obtain ⟨c1, c2, c3, c4, c5, c6, c7, c8, c9, c10, c11, c12⟩ := id cc
      have X4 : eqx (1 :: 13 :: crX ++ [21, 108]) I I4 := by
        have b : eqx (1 :: 13 :: crX ++ [21, 108]) I I2 := (c1.mono (by decide)).tr (y2.mono (by decide))
        rw [e4]; exact b.up (by decide) _ _
      have m4 : I4 140 = I 140 := X4 _ (by decide)
      have n4 : I4 144 = I 144 := X4 _ (by decide)
      refine m_house (n := n) (fl := fl) (t := t) (T := I 2) (lift := I 13 4) a2 hn x1 (by rw [m4]; exact a5) (by rw [m4]; exact a7) (by rw [n4]; exact lift31) (by rw [m4]; exact x3) (fun i hi => by rw [X4 _ (by decide)]; exact tape i hi) (fun hb => ?_) (fun _ I5 q5 t5 th5 hS => ?_)
      · rw [hX] at hb; exact absurd cf hb
      rw [hX] at hS
      obtain ⟨I0, hS0, hS1, hS2, hS3⟩ := hS
      rw [← hL] at hS1
      have r5 : I5 140 4 = nI n := by rw [q5.2 _ (by decide), m4]; exact a7
      refine ⟨L + 1, m_comes_loop (n := n) (L := L) (hv := hvT (I 2) X.2.2) (wv := wvT (I 2) X.2.2) (pv := pvT (I 2) X.2.2) (by omega) r5 hS1 (fun i hi => (hS2 i (by rw [← hL]; exact hi)).1) (fun I6 d6 I7 e7 I8 e8 => ?_) L 0 I5 (by omega) ⟨eqm.rf, (crU_0 _ _ _).symm, (crU_0 _ _ _).symm, by unfold crG; rw [crU_0, crU_0, crU_0]⟩⟩
      rw [sw_if_t (show (0 : Int32) < nI t from nI_lt (a := 0) (by omega) (by omega))]
      intro I9 e9 G eG
      obtain ⟨d1, d2, d3, d4⟩ := d6
      have m7 : I7 140 = I5 140 := by rw [e7, sw_up_row _ _ _ (by decide)]; funext k; exact d1.2 k (by simp)
      have mG : ∀ k, k ∉ [4, 32, 6] → G 140 k = I5 140 k := fun k hk => by
        simp only [List.mem_cons, List.not_mem_nil, or_false, not_or] at hk
        rw [eG, sw_up_slot _ _ _ _ hk.2.2, e9, sw_up_slot _ _ _ _ hk.2.1, e8, sw_up_slot _ _ _ _ hk.1, m7]
      have fG : ∀ c, c ≠ 140 → G c = I7 c := fun c hc => by rw [eG, sw_up_row _ _ _ hc, e9, sw_up_row _ _ _ hc, e8, sw_up_row _ _ _ hc]
      have fG2 : ∀ c, c ≠ 140 → c ≠ 144 → G c = I6 c := fun c hc h2 => by rw [fG c hc, e7, sw_up_row _ _ _ h2]
      have fx : ∀ c, c ≠ 140 → c ∉ crM → c ∉ rdA → G c = I4 c := fun c k1 k2 k3 => by
        rw [fG2 c k1 (fun w => k2 (by rw [w]; decide)), d1.1 c k2 k1, q5.1 c k3 k1]
      have e : eqm ((1 :: 13 :: crX ++ [21, 108]) ++ (crM ++ rdA)) (bgF ++ [4, 32, 6]) I G := by
        refine ⟨fun c hc hm => ?_, fun k hk => ?_⟩
        · have h1 : c ∉ crM := fun w => hc (List.mem_append_right _ (List.mem_append_left _ w))
          have h2 : c ∉ rdA := fun w => hc (List.mem_append_right _ (List.mem_append_right _ w))
          rw [fx c hm h1 h2, X4 c (fun w => hc (List.mem_append_left _ w))]
        · rw [mG k (fun w => hk (List.mem_append_right _ w)), q5.2 k (fun w => hk (List.mem_append_left _ w)), m4]
      have f2 : ∀ c, c ≠ 21 → c ≠ 108 → c ≠ 1 → I4 c = I1 c := fun c k1 k2 k3 => by rw [e4, sw_up_row _ _ _ k3]; exact y2 c (by simp [k1, k2])
      have old5 : ∀ c, c ∈ crM → I5 c = I c := fun c hc => by rw [q5.1 c (by revert c; decide) (by revert c; decide), X4 c (by revert c; decide)]
      rw [old5 _ (by decide)] at d2 d3 d4
      have b5 : G 3 = I1 3 := by rw [fx _ (by decide) (by decide) (by decide), f2 _ (by decide) (by decide) (by decide)]
      have nw5 : G 13 = I1 13 := by rw [fx _ (by decide) (by decide) (by decide), f2 _ (by decide) (by decide) (by decide)]
      have h5' : G 4 = crU (I 4) (hvT (I 2) X.2.2) n L := by rw [fx _ (by decide) (by decide) (by decide), f2 _ (by decide) (by decide) (by decide), c5]
      have t5' : G 5 = crU (I 5) (fun _ => 10) n L := by rw [fx _ (by decide) (by decide) (by decide), f2 _ (by decide) (by decide) (by decide), c6]
      have at5 : G (13 + 1) = crU (I (13 + 1)) (pvT (I 2) X.2.2) n L := by rw [fx _ (by decide) (by decide) (by decide), f2 _ (by decide) (by decide) (by decide)]; exact c7
      have wi5 : G (13 + 2) = crU (I (13 + 2)) (wvT (I 2) X.2.2) n L := by rw [fx _ (by decide) (by decide) (by decide), f2 _ (by decide) (by decide) (by decide)]; exact c8
      have rd5 : G (13 + 3) = crU (I (13 + 3)) (fun _ => 0) n L := by rw [fx _ (by decide) (by decide) (by decide), f2 _ (by decide) (by decide) (by decide)]; exact c9
      have mh5 : G 142 = crU (I 142) (hvT (I 2) X.2.2) n L := by rw [fG2 _ (by decide) (by decide), d2]
      have mt5 : G 143 = crU (I 143) (fun _ => 10) n L := by rw [fG2 _ (by decide) (by decide), d3]
      have mn5 : ∀ j, j ≠ 30 → G 144 j = crG (I 144) (pvT (I 2) X.2.2) (wvT (I 2) X.2.2) n L j := fun j hj => by rw [fG _ (by decide), e7, sw_up_slot _ _ _ _ hj, d4]
      have hi30 : ∀ j, 30 ≤ j → crG (I 144) (pvT (I 2) X.2.2) (wvT (I 2) X.2.2) n L j = I 144 j := fun j hj => crG_o (by omega) (by omega) (by omega)
      have mn30 : G 144 30 = I 144 30 ||| I5 140 20 := by rw [fG _ (by decide), e7, sw_up_same, d4, hi30 30 (by omega), d1.2 _ (by decide)]
      have rng := fun i (hi : i < L) => (hS2 i (by rw [← hL]; exact hi)).2
      have B : rbR (c + 1) G := by
        obtain ⟨b1, b2⟩ := h0.2
        refine ⟨fun a ha => ?_, ?_⟩
        · obtain ⟨R, hR, eR⟩ := b1 a ha
          refine ⟨R, by omega, ?_⟩
          by_cases can : a = 13
          · rw [can, nw5, c12, ← can]; exact eR
          · rw [e.1 a (by clear eR; revert a; decide) (by clear eR; revert a; decide)]; exact eR
        · rw [e.1 _ (by decide) (by decide), e.1 _ (by decide) (by decide)]; exact b2
      have rm : G 140 19 = nI L := by rw [mG _ (by decide)]; exact hS1
      rw [rm]
      refine hQ _ G J ⟨n + L, fl, m, q, 0, r, 0, s, z + 1, ⟨by have := h0.1; omega, B⟩, ⟨a1, a2, by omega, ?_, ?_, ?_, ?_, ?_, ?_, fun i hi => ?_, fun i hi => ?_⟩, l_of e (by decide) (by decide) h2, ?_, ⟨p1, by omega, ?_, ?_, ?_, fun k hk => by omega⟩, rw_of e (by decide) (by decide) h5, ⟨by omega, ?_, ?_, fun i hi => by omega⟩, sn_more (n := n) (by omega) h7 ⟨fun c hc => e.1 c (by revert c; decide) (by revert c; decide), fun k hk => e.2 k (by revert k; decide)⟩, kp_drop h8 ?_ ?_ ?_ ?_⟩ ?_
      · rw [b5]; exact c3
      · rw [e.2 _ (by decide)]; exact a5
      · rw [b5]; exact c2
      · rw [eG, sw_up_slot _ _ _ _ (by decide), e9, sw_up_slot _ _ _ _ (by decide), e8, sw_up_same, m7, r5, hS1, nI_add]
      · rw [b5, c4, e.2 _ (by decide)]; exact a8
      · rw [e.2 _ (by decide)]; exact a9
      · rw [h5', mh5]
        unfold crU
        by_cases ci : n ≤ i ∧ i < n + L
        · rw [if_pos ci, if_pos ci]; exact ⟨rfl, (rng (i - n) (by omega)).1⟩
        · rw [if_neg ci, if_neg ci]; exact a10 i (by omega)
      · rw [t5', mt5]
        unfold crU
        by_cases ci : n ≤ i ∧ i < n + L
        · rw [if_pos ci, if_pos ci]; exact ⟨rfl, 10, by omega, rfl⟩
        · rw [if_neg ci, if_neg ci]; exact a11 i (by omega)
      · obtain ⟨⟨f1, f2', f3, f4⟩, v1, v2, v3, v4⟩ := h3
        unfold momR
        rw [nw5, at5, wi5, rd5]
        have bits : ∀ k, k < 32 → inB (I1 13 3) k = true → k < n + L ∧ crU (I (13 + 1)) (pvT (I 2) X.2.2) n L k = I1 13 4 := by
          intro k hk hb
          rw [c10 k hk, Bool.or_eq_true] at hb
          rw [c11]
          rcases hb with hb | hb
          · obtain ⟨w1, w2⟩ := v4 k hk hb
            rw [crU_out (by omega)]; exact ⟨by omega, w2⟩
          · have hb2 := of_decide_eq_true hb
            rw [crU_in ⟨hb2.1, hb2.2.1⟩]
            refine ⟨hb2.2.1, ?_⟩
            have w := hb2.2.2
            unfold bvT lnI at w
            exact (of_decide_eq_true w).2.1
        refine ⟨⟨fun i hi => ?_, ?_, ?_, ?_⟩, fun i hi => ?_, fun i hi hi2 => ?_, by rw [c11]; exact v3, fun i hi hb => bits i hi hb⟩
        · rw [mn5 i (by omega), mn5 (10 + i) (by omega), mn5 (20 + i) (by omega)]
          by_cases ci : n ≤ i
          · obtain ⟨u1, u2, u3⟩ := crG_p (row := I 144) (pv := pvT (I 2) X.2.2) (wv := wvT (I 2) X.2.2) (n := n) (t := L) (i := i) (by omega) (by omega)
            rw [u1, u2, u3, crU_in (by omega), crU_in (by omega), crU_in (by omega)]
            exact ⟨Or.inr ⟨rfl, (rng (i - n) (by omega)).2.2⟩, rfl, rfl⟩
          · rw [crG_o (by omega) (by omega) (by omega), crG_o (by omega) (by omega) (by omega), crG_o (by omega) (by omega) (by omega), crU_out (by omega), crU_out (by omega), crU_out (by omega)]
            exact f1 i (by omega)
        · rw [mn30]
          refine inB_ext (fun k hk => ?_)
          rw [inB_or _ _ hk, c10 k hk, ← f2', hS3 k hk, hm, ← hL]
        · rw [mn5 31 (by omega), hi30 31 (by omega), c11]; exact f3
        · rw [mn5 32 (by omega), hi30 32 (by omega), c12]; exact f4
        · by_cases ci : n ≤ i
          · rw [crU_in (by omega), crU_in (by omega)]; exact ⟨Or.inr (rng (i - n) (by omega)).2.2, (rng (i - n) (by omega)).2.1⟩
          · rw [crU_out (by omega), crU_out (by omega)]; exact v1 i (by omega)
        · rw [crU_out (by omega)]; exact v2 i (by omega) hi2
      · rw [fx _ (by decide) (by decide) (by decide), e4, sw_up_row _ _ _ (by decide), w2, c1 _ (by decide)]; exact p3
      · rw [fx _ (by decide) (by decide) (by decide), e4, sw_up_row _ _ _ (by decide), z2]; rfl
      · rw [eG, sw_up_slot _ _ _ _ (by decide), e9, sw_up_same]; rfl
      · rw [fx _ (by decide) (by decide) (by decide), e4, sw_up_same]; rfl
      · rw [mG _ (by decide)]; exact t5
      · intro j hj; rw [fx _ (by decide) (by decide) (by decide), e4, sw_up_row _ _ _ (by decide)]; exact k2 j hj
      · rw [e.1 _ (by decide) (by decide)]
      · rw [e.1 _ (by decide) (by decide)]
      · rw [eG, sw_up_same, e9, sw_up_slot _ _ _ _ (by decide), e8, sw_up_slot _ _ _ _ (by decide), m7, q5.2 _ (by decide), m4, h8.1, nI_1]
      · rw [mG _ (by decide)]; exact th5
  · obtain ⟨k, hk, ek⟩ := hsV_pos hle cf
    rw [sw_if_f cf]
    intro I1 e1
    rw [sw_if_f cf]
    have E1 : eqm [1] [] I I1 := by rw [e1]; exact eqm.rf.upC (by decide) (by decide) _ _
    refine m_house (n := n) (fl := fl) (t := t) (T := I 2) (lift := I 13 4) a2 hn x1 (by rw [E1.2 _ (by decide)]; exact a5) (by rw [E1.2 _ (by decide)]; exact a7) (by rw [E1.1 _ (by decide) (by decide)]; exact lift31) (by rw [E1.2 _ (by decide)]; exact x3) (fun i hi => by rw [E1.1 _ (by decide) (by decide)]; exact tape i hi) (fun _ I3 q3 t3 th3 => ?_) (fun hg => ?_)
    · have e : eqm (1 :: rdA) bgF I I3 := (E1.mono (by decide) (by decide)).tr (q3.mono (by decide) (by decide))
      rw [hX]
      refine hQ _ I3 J (th_up ⟨n, fl, m, q, p, r, 0, s, z, ⟨h0.1, rb_of e (by decide) h0.2⟩, hs_of e (by decide) (by decide) h1, l_of e (by decide) (by decide) h2, now_of e (by decide) hn h3, past_of e (by decide) (by decide) hn h4, rw_of e (by decide) (by decide) h5, ⟨by omega, ?_, ?_, fun i hi => by omega⟩, sn_of e (by decide) (by decide) h7, kp_of e (by decide) (by decide) hn h8⟩) th3
      · rw [q3.1 _ (by decide) (by decide), e1, sw_up_same]; rfl
      · exact t3
    · rw [hX] at hg; exact absurd hg cf
