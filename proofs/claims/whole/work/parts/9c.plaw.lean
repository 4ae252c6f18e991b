/-! promise: law -/
theorem dpO_at : ∀ {C : List Int32} {D k : Nat}, dpG C D → k < C.length → dpO (dpL (C.take k) D) (C.getD k 0)
  | [], _, _, _, hk => absurd hk (Nat.not_lt_zero _)
  | c :: C, D, 0, h, _ => h.1
  | c :: C, D, k + 1, h, hk => by
    have := dpO_at (C := C) (D := dpS D c) (k := k) h.2 (by simpa using hk)
    show dpO (dpL (C.take k) (dpS D c)) (C.getD k 0)
    exact this
theorem dpL_at : ∀ {C : List Int32} {D k : Nat}, k < C.length → dpL (C.take (k + 1)) D = dpS (dpL (C.take k) D) (C.getD k 0)
  | [], _, _, hk => absurd hk (Nat.not_lt_zero _)
  | c :: C, D, 0, _ => by
    show dpL (C.take 0) (dpS D c) = dpS D c
    rw [List.take_zero]; rfl
  | c :: C, D, k + 1, hk => dpL_at (C := C) (D := dpS D c) (k := k) (by simpa using hk)
theorem lwD_at {C : List Int32} {cd : Nat → Int32} (hcd : ∀ i, i < C.length → cd i = C.getD i 0) : ∀ k, k ≤ C.length → lwD cd k = dpL (C.take k) 0
  | 0, _ => by rw [List.take_zero]; rfl
  | k + 1, hk => by
    rw [dpL_at (by omega), ← lwD_at hcd k (by omega), ← hcd k (by omega)]
    rfl
theorem lw_of {C : List Int32} {cd : Nat → Int32} (h : gdC C ∧ vlC C) (hl : C.length ≤ 40) (hcd : ∀ i, i < C.length → cd i = C.getD i 0) : lwW cd C.length ∧ cdOK cd C.length := by
  obtain ⟨g1, g2⟩ := h.1 0
  refine ⟨⟨fun k hk h1 h2 => ?_, ?_, hl⟩, fun k hk => ?_⟩
  · have := dpO_at g1 hk
    rw [← lwD_at hcd k (by omega), ← hcd k hk] at this
    exact this h1 h2
  · rw [lwD_at hcd _ (Nat.le_refl _), List.take_length]; exact g2
  · rw [hcd k hk]
    refine h.2 _ ?_
    have : C.getD k 0 = C[k] := by simp [List.getD, List.getElem?_eq_getElem hk]
    rw [this]; exact List.getElem_mem hk
theorem gd_ne {C : List Int32} (h : gdC C) : 0 < C.length := by
  cases C with
  | nil => have : (0 : Nat) = 0 + 1 := (h 0).2; omega
  | cons c C => exact Nat.succ_pos _
theorem has_if {C : List Int32} {cd : Nat → Int32} (hcd : ∀ i, i < C.length → cd i = C.getD i 0) {x : Int32} (hx : x = bI (hasR C)) : x = (if ∃ k, k < C.length ∧ cd k = -114 then 1 else 0) := by
  by_cases c : ∃ k, k < C.length ∧ cd k = -114
  · rw [if_pos c, hx]
    obtain ⟨k, hk, ek⟩ := c
    have : hasR C = true := by
      refine decide_eq_true ?_
      rw [← ek, hcd k hk]
      have e : C.getD k 0 = C[k] := by simp [List.getD, List.getElem?_eq_getElem hk]
      rw [e]; exact List.getElem_mem hk
    rw [this]; rfl
  · rw [if_neg c, hx]
    have : hasR C = false := by
      refine decide_eq_false (fun q => c ?_)
      obtain ⟨k, hk, ek⟩ := List.getElem_of_mem q
      refine ⟨k, hk, ?_⟩
      rw [hcd k hk]
      simp [List.getD, List.getElem?_eq_getElem hk, ek]
    rw [this]; rfl
section PL
variable {T : Nat → Int32} {U : Nat → Nat} {t q : Nat} {ok : Bool} {C : List Int32}
theorem c_lflaw (ht : t ≤ 80) (h0 : 0 < t) (hU : txU T U t) (hq : q ≤ min t 40) (hF : FL T U t (min t 40) 0 0 0 q ok) {I : sw_I} {J : sw_J} {Q : Int32 → sw_I → sw_J → Prop} (hs : I 1 1 = nI t) (hT : I 2 = T) (h : Q (hsV t 40 (ok, q)) I J) : wp_X2_flawOf I J Q := by
  unfold wp_X2_flawOf
  rw [show I 1 1 = nI t from hs, sw_if_f (nI_ne0 h0 (by omega))]
  intro y hy
  have ey : y = nI (min t 40) := by
    rw [hy]
    by_cases c2 : 40 < t
    · rw [if_pos (show (40 : Int32) < nI t from nI_lt (a := 40) c2 (by omega)), show min t 40 = 40 by omega]; rfl
    · rw [if_neg (show ¬ (40 : Int32) < nI t from nI_nlt (a := 40) (by omega) (by decide)), show min t 40 = t by omega]
  rw [ey]
  refine ⟨min t 40 - 0 + 1, hF I J Q 0 hs hT (fun _ => inB_0 (by omega)) (fun hok => ?_) (fun hok c2 g hg hed hb _ => ?_)⟩
  · unfold hsV at h
    rw [if_neg (fun z => by rw [hok] at z; cases z.1)] at h; exact h
  · by_cases cq : q < min t 40
    · have hq2 : Q (nI q) I J := by
        unfold hsV at h
        rw [if_neg (fun z => by have := z.2; dsimp only at this; omega)] at h; exact h
      obtain ⟨d1, d2, d3, d4⟩ := hed cq
      have n1 : arN (U q) = false := decide_eq_false (by have := d2 (by omega); have := d3 (by omega); omega)
      rw [show min t 40 - q + 1 = (min t 40 - (q + 1) + 1) + 1 by omega]
      exact flw_n (o := 0) ht (by omega) (by omega) hU cq (by omega) hg hs hT (fun z => by rw [n1] at z; cases z) (fun z w => by rw [d4 rfl z] at w; cases w) (fun _ _ => hq2) (fun _ z => by omega) (fun z w => by have := d1 z; omega) (fun _ _ => hq2) (fun _ _ _ _ => hq2)
    · have e : q = min t 40 := by omega
      unfold hsV at h
      rw [if_pos ⟨hok, e⟩] at h
      rw [e]
      exact flw_e (o := 0) (wt := false) ht rfl (by omega) hs (fun z => by rcases z with z | z; cases z; omega) (fun _ _ => h)
/-- what is taken -/
theorem c_take (ht : t ≤ 40) (hU : txU T U t) (hTK : 0 < t → TK T t 0 0 t C ∧ gdC C ∧ C.length ≤ 40) (hC0 : t = 0 → C = [-119]) {I : sw_I} {J : sw_J} {Q : sw_I → sw_J → Prop} (hs : I 1 1 = nI t) (hT : I 2 = T) (h : ∀ I2, eqx tkC I I2 → syS I2 C [] (hasR C) → Q I2 J) : wp_X2_take I J Q := by
  intro I1 e1 I3 e3 I5 e5
  have x5 : eqx tkC I I5 := by rw [e5, e3, e1]; exact ((eqx.rf.up (by decide) _ _).up (by decide) _ _).up (by decide) _ _
  obtain ⟨hs5, hT5⟩ := txt_of x5 hs hT
  have s5 : syS I5 [] [] false := by
    refine ⟨?_, fun i hi => absurd hi (Nat.not_lt_zero _), ?_, fun i hi => absurd hi (Nat.not_lt_zero _), ?_⟩
    · rw [e5, sw_up_slot _ _ _ _ (by decide), e3, sw_up_slot _ _ _ _ (by decide), e1]; exact sw_up_same _ _ _ _
    · rw [e5, sw_up_slot _ _ _ _ (by decide), e3]; exact sw_up_same _ _ _ _
    · rw [e5]; exact sw_up_same _ _ _ _
  have top0 : topL [] 1 := fun S2 z ez => by
    have := congrArg List.length ez
    rw [List.length_append] at this
    simp at this
  by_cases c0 : t = 0
  · refine ⟨1, ?_⟩
    show wb_X2_take_19 _ Q _ _ I5 J
    unfold wb_X2_take_19
    rw [show I5 1 1 = nI t from hs5, c0, sw_if_f (by decide)]
    refine ⟨1, s_release (S := []) (s := 1) (a := false) (by omega) top0 (fun x hx => absurd hx (by simp)) 0 [] [] I5 rfl (fun x hx => absurd hx (by simp)) (by decide) s5 (fun I6 x6 s6 => ?_)⟩
    rw [show I6 6 3 = nI 0 from s6.1, sw_if_t (by rfl)]
    refine s_put (K := []) (x := -119) (by decide) s6 (fun I7 x7 s7 => ?_)
    refine h I7 ((x5.tr x6).tr x7) ?_
    rw [hC0 c0]
    have : hasR [-119] = false := by decide
    rw [this]; exact s7
  · obtain ⟨hT1, hg, hlen⟩ := hTK (by omega)
    refine ⟨t - 0 + 1, hT1 I5 J Q [] [] false hs5 hT5 s5 (by decide) (fun x hx => absurd hx (by simp)) (fun _ => top0) (fun I6 K1 P x6 e6 p6 l6 s6 => ?_)⟩
    obtain ⟨hs6, hT6⟩ := txt_of x6 hs5 hT5
    show wb_X2_take_19 _ Q _ _ I6 J
    unfold wb_X2_take_19
    rw [show I6 1 1 = nI t from hs6, sw_if_f (nI_nlt (Nat.le_refl _) (by omega))]
    refine ⟨P.length + 1, s_release (S := []) (s := 1) (by omega) top0 (fun x hx => absurd hx (by simp)) P.length K1 P I6 rfl p6 (by omega) s6 (fun I7 x7 s7 => ?_)⟩
    have e6' : K1 ++ rvC P = C := by rw [e6]; rfl
    rw [e6', Bool.false_or] at s7
    have := gd_ne hg
    rw [show I7 6 3 = nI C.length from s7.1, sw_if_f (nI_ne0 this (by omega))]
    exact h I7 ((x5.tr x6).tr x7) s7
abbrev lwF : List Nat := [0, 12, 13, 15, 14, 24, 23]
theorem m_lcopy {I : sw_I} {J : sw_J} {Q : Int32 → sw_I → sw_J → Prop} {n : Nat} (hn : n ≤ 40) (hr : I 140 24 = nI n) (h : ∀ I2, eqx [150] I I2 → (∀ i, i < n → I2 150 i = I 151 i) → Q 0 I2 J) : ∀ d k I2, k + d = n → eqx [150] I I2 → (∀ i, i < k → I2 150 i = I 151 i) → wl_X10_law_61 Q (d + 1) (nI k) I2 J := by
  intro d
  induction d with
  | zero =>
    intro k I2 hk x2 hv
    obtain rfl : k = n := by omega
    show wb_X10_law_61 _ Q _ I2 J
    unfold wb_X10_law_61
    rw [show I2 140 24 = nI k by rw [x2 _ (by decide)]; exact hr, sw_if_f (nI_nlt (Nat.le_refl _) (by omega))]
    exact h I2 x2 hv
  | succ d ih =>
    intro k I2 hk x2 hv
    show wb_X10_law_61 _ Q _ I2 J
    unfold wb_X10_law_61
    rw [show I2 140 24 = nI n by rw [x2 _ (by decide)]; exact hr, sw_if_t (nI_lt (by omega) (by omega)), nI_clamp (by omega)]
    refine ⟨vp0 (by omega) (by decide), vp0 (by omega) (by decide), fun I4 e4 y hy => ?_⟩
    rw [hy, nI_1]
    refine ih (k + 1) I4 (by omega) (by rw [e4]; exact x2.up (by decide) _ _) (fun i hi => ?_)
    rw [e4]
    by_cases c : i = k
    · rw [c, sw_up_same, x2 _ (by decide)]
    · rw [sw_up_slot _ _ _ _ c]; exact hv i (by omega)
theorem m_law (ht : t ≤ 80) (hC0 : t = 0 → ok = true ∧ q = 0) (hC : ok = true → 0 < t → C.length ≤ q) (hq : q ≤ min t 40) (hR : 0 < t → RF (wp_X10_readsRank 90 (nI 0)) T (min t 40) 0 0 q ok C) {I : sw_I} {J : sw_J} {Q : Int32 → sw_I → sw_J → Prop} (htp : I 140 12 = nI t) (hT : ∀ i, i < t → I 146 i = T i ∧ ∃ j, j < 256 ∧ T i = nI j)
    (hbad : ¬ hsV t 40 (ok, q) < 0 → ∀ I3, eqm [151, 150] lwF I I3 → I3 140 12 = 0 → I3 140 0 = 0 → eqm [151] [0, 12, 13, 15, 14, 24] I I3 → Q (-1 - hsV t 40 (ok, q)) I3 J)
    (hok : hsV t 40 (ok, q) < 0 → ∀ I3, eqm [151, 150] lwF I I3 → I3 140 12 = 0 → I3 140 0 = 0 → (t = 0 → I3 140 23 = 0) → (0 < t → I3 140 23 = nI C.length ∧ ∀ i, i < C.length → I3 150 i = encF (C.getD i 0)) → Q 0 I3 J) : wp_X10_law I J Q := by
  intro I1 e1
  refine s_begins (t := t) (lim := 40) (T := T) ht (by decide) (by rw [e1, sw_up_slot _ _ _ _ (by decide)]; exact htp) (fun i hi => by rw [e1, sw_up_row _ _ _ (by decide)]; exact hT i hi) (fun I4 q4 s4 t4 n4 => ?_)
  intro I6 e6
  have q6 : eqm [] [24] I4 I6 := by rw [e6]; exact eqm.rf.upF (by decide) _
  have qI : eqm [151] [0, 12, 13, 15, 14, 24] I I6 := by
    have a : eqm [151] [0, 12, 13, 15, 14, 24] I I1 := by rw [e1]; exact eqm.rf.upF (by decide) _
    exact (a.tr (q4.mono (by decide) (by decide))).tr (q6.mono (by decide) (by decide))
  have s6 : tpS I6 T 0 (min t 40) := tpS_of s4 q6 (by decide) (by decide) (by rw [q6.2 _ (by decide)]; exact s4.1) (Nat.zero_le _)
  have t6 : I6 140 12 = 0 := by rw [q6.2 _ (by decide)]; exact t4
  have h6 : I6 140 0 = 0 := by rw [q6.2 _ (by decide), q4.2 _ (by decide), e1]; exact sw_up_same _ _ _ _
  have n6 : I6 140 15 = nI 0 := by rw [q6.2 _ (by decide)]; exact n4
  have r6 : rfS I6 [] := ⟨by rw [e6]; exact sw_up_same _ _ _ _, fun i hi => absurd hi (Nat.not_lt_zero _)⟩
  -- behind the reading
  have fin : ∀ I3, eqm [151] rlF I6 I3 → tpS I3 T q (min t 40) → (t = 0 → I3 140 24 = nI 0) → (ok = true → 0 < t → rfS I3 C) → wB_X10_law_34 Q (nI t) (bI ok) I3 J := by
    intro I3 q3 s3 r0 r3
    have qb : eqm [151] [0, 12, 13, 15, 14, 24] I I3 := qI.tr (q3.mono (by decide) (by decide))
    have t3 : I3 140 12 = 0 := by rw [q3.2 _ (by decide)]; exact t6
    have h3 : I3 140 0 = 0 := by rw [q3.2 _ (by decide)]; exact h6
    unfold wB_X10_law_34
    refine s_faultOf (lim := 40) ht (by decide) s3 ?_
    by_cases c : hsV t 40 (ok, q) < 0
    · obtain ⟨g1, g2, g3, g4⟩ := hsG_neg (r := (ok, q)) (by dsimp only; omega) c (by decide)
      dsimp only at g1 g2
      rw [if_pos c, sw_if_f (by decide)]
      intro I5 e5
      have q5 : eqm [151, 150] lwF I I5 := by rw [e5]; exact (qb.mono (by decide) (by decide)).upF (by decide) _
      have rl : ∃ n, n ≤ 40 ∧ I5 140 24 = nI n ∧ I5 140 23 = nI n ∧ (t = 0 → n = 0) ∧ (0 < t → n = C.length) := by
        have r5 : I5 140 24 = I3 140 24 := by rw [e5, sw_up_slot _ _ _ _ (by decide)]
        have c5 : I5 140 23 = I3 140 24 := by rw [e5]; exact sw_up_same _ _ _ _
        by_cases c0 : t = 0
        · exact ⟨0, by omega, by rw [r5, r0 c0], by rw [c5, r0 c0], fun _ => rfl, fun z => by omega⟩
        · have := (r3 g1 (by omega)).1
          exact ⟨C.length, by have := hC g1 (by omega); omega, by rw [r5, this], by rw [c5, this], fun z => absurd z c0, fun _ => rfl⟩
      obtain ⟨n, hn, rl1, rl2, rl3, rl4⟩ := rl
      refine ⟨n + 1, m_lcopy hn rl1 (fun I7 x7 v7 => ?_) n 0 I5 (by omega) eqx.rf (fun i hi => absurd hi (Nat.not_lt_zero _))⟩
      have q7 : eqm [151, 150] lwF I I7 := q5.tr (x7.eqm (by decide) (by decide))
      refine hok c I7 q7 ?_ ?_ (fun c0 => ?_) (fun c0 => ⟨?_, fun i hi => ?_⟩)
      · rw [x7 _ (by decide), e5, sw_up_slot _ _ _ _ (by decide)]; exact t3
      · rw [x7 _ (by decide), e5, sw_up_slot _ _ _ _ (by decide)]; exact h3
      · rw [x7 _ (by decide), rl2, rl3 c0]; rfl
      · rw [x7 _ (by decide), rl2, rl4 c0]
      · rw [v7 i (by rw [rl4 c0]; exact hi), e5, sw_up_cell _ _ _ _ (by decide)]
        exact (r3 g1 c0).2 i hi
    · obtain ⟨k, hk, ek⟩ := hsG_pos (r := (ok, q)) (by dsimp only; omega) (by decide) c
      rw [if_neg c, sw_if_t (by rw [ek]; exact m1_neg k hk)]
      exact hbad c I3 (qb.mono (by decide) (by decide)) t3 h3 qb
  by_cases c0 : t = 0
  · obtain ⟨o1, o2⟩ := hC0 c0
    rw [sw_if_t (by rw [c0]; rfl)]
    unfold wB_X10_law_29
    have := fin I6 eqm.rf (by rw [o2]; exact s6) (fun _ => r6.1) (fun _ z => by omega)
    rw [o1] at this; exact this
  · rw [sw_if_f (nI_ne0 (by omega) (by omega))]
    refine hR (by omega) I6 J _ [] s6 n6 r6 (Nat.zero_le _) (fun I7 k e7 s7 r7 l7 o7 => ?_)
    have f7 := fin I7 e7 s7 (fun z => absurd z c0) (fun hok _ => by have := (o7 hok).2; rw [List.nil_append] at this; exact this)
    cases hok : ok
    · rw [sw_if_t (by rfl)]; rw [hok] at f7; exact f7
    · rw [sw_if_f (by decide)]; unfold wB_X10_law_29; rw [hok] at f7; exact f7
end PL
theorem p_law {c : Nat} {I : sw_I} {J : sw_J} {Q : Int32 → Int32 → sw_I → sw_J → Prop} (h : wW c I J) (hQ : ∀ v I2 J2, wW c I2 J2 → I2 140 0 = 0 → Q v v I2 J2) :
    wp_X9_law  I J (fun r I1 J1 => wp_X10_law  I1 J1 (fun r2 I2 J2 => Q r r2 I2 J2)) := by
  obtain ⟨n, fl, m, q, p, r, t, s, z, hw⟩ := h
  obtain ⟨h0, h1, h2, h3, h4, h5, h6, h7, h8⟩ := id hw
  have hn := h1.2.2.1
  obtain ⟨x1, x2, x3, x4⟩ := id h6
  have hU : txU (I 2) (fun i => (I 2 i).toNatClampNeg) t := fun i hi => by
    obtain ⟨j, hj, ej⟩ := (x4 i hi).2
    show I 2 i = nI (I 2 i).toNatClampNeg ∧ (I 2 i).toNatClampNeg < 256
    rw [ej, clamp256 j hj]; exact ⟨rfl, hj⟩
  generalize (fun i => (I 2 i).toNatClampNeg) = U at hU
  have tape : ∀ i, i < t → I 146 i = I 2 i ∧ ∃ j, j < 256 ∧ I 2 i = nI j := fun i hi => ⟨(x4 i hi).1.symm, (x4 i hi).2⟩
  obtain ⟨ok, qq, C, b2, b3, b4, b5, b6⟩ : ∃ ok qq C, qq ≤ min t 40 ∧ (ok = true → C.length ≤ 40 ∧ (gdC C ∧ vlC C) ∧ (0 < t → C.length ≤ qq)) ∧ (t = 0 → ok = true ∧ qq = 0 ∧ C = [-119]) ∧ (0 < t → FL (I 2) U t (min t 40) 0 0 0 qq ok ∧ RF (wp_X10_readsRank 90 (nI 0)) (I 2) (min t 40) 0 0 qq ok C) ∧ (0 < t → ok = true → t = min t 40 → TK (I 2) t 0 0 qq C) := by
    by_cases c0 : t = 0
    · refine ⟨true, 0, [-119], Nat.zero_le _, fun _ => ⟨by decide, gd_nam (c := 119) (by decide) (by decide), fun z => by omega⟩, fun _ => ⟨rfl, rfl, rfl⟩, fun z => by omega, fun z => by omega⟩
    · obtain ⟨ok, qq, C, c1, c2, c3, c4, c5⟩ := (pk_all (t := t) (to := min t 40) rfl x1 hU 90).2 0 0 0 (by omega) (by omega) (by omega) (by omega)
      exact ⟨ok, qq, C, c2, fun hok => ⟨by have := (c3 hok).1; omega, (c3 hok).2.2.1, fun _ => by have := (c3 hok).1; omega⟩, fun z => absurd z c0, fun _ => ⟨c4, c5⟩, fun _ hok htt => (c3 hok).2.2.2 htt⟩
  have hle : (ok, qq).2 ≤ 80 := by dsimp only; omega
  have hval : wp_X2_flawOf I J (fun r_1 I_2 J_3 => sw_if (r_1 < 0) (wp_X2_take I_2 J_3 (fun I_6 J_7 => wB_X9_law_33 (fun r I1 J1 => wp_X10_law I1 J1 (fun r2 I2 J2 => Q r r2 I2 J2)) r_1 I_6 J_7)) (wB_X9_law_33 (fun r I1 J1 => wp_X10_law I1 J1 (fun r2 I2 J2 => Q r r2 I2 J2)) r_1 I_2 J_3)) := by
    have main : sw_if (hsV t 40 (ok, qq) < 0) (wp_X2_take I J (fun I_6 J_7 => wB_X9_law_33 (fun r I1 J1 => wp_X10_law I1 J1 (fun r2 I2 J2 => Q r r2 I2 J2)) (hsV t 40 (ok, qq)) I_6 J_7)) (wB_X9_law_33 (fun r I1 J1 => wp_X10_law I1 J1 (fun r2 I2 J2 => Q r r2 I2 J2)) (hsV t 40 (ok, qq)) I J) := by
      by_cases cf : hsV t 40 (ok, qq) < 0
      · obtain ⟨g1, g2, g3, g4⟩ := hsG_neg hle cf (by decide)
        dsimp only at g1 g2
        rw [sw_if_t cf]
        obtain ⟨l1, l2, l3⟩ := b3 g1
        refine c_take (t := t) (C := C) g3 hU (fun z => ⟨?_, l2.1, l1⟩) (fun z => (b4 z).2.2) x2 rfl (fun I1 e1 s1 => ?_)
        · have := b6 z g1 (by omega)
          rw [g2] at this; exact this
        unfold wB_X9_law_33
        intro I2 e2
        rw [sw_if_t cf]
        have q2 : eqm [6, 7, 8, 1] [] I I2 := by
          rw [e2]; exact (e1.eqm (by decide) (by decide)).upC (by decide) (by decide) _ _
        refine m_law (t := t) (q := qq) (ok := ok) (C := C) (T := I 2) x1 (fun z => ⟨(b4 z).1, (b4 z).2.1⟩) (fun z => (b3 z).2.2) b2 (fun z => (b5 z).2) (by rw [q2.2 _ (by decide)]; exact x3) (fun i hi => by rw [q2.1 _ (by decide) (by decide)]; exact tape i hi) (fun z => absurd cf z) (fun _ I3 q3 t3 th3 k0 k1 => ?_)
        have e : eqm [6, 7, 8, 1, 151, 150] lwF I I3 := (q2.mono (by decide) (by decide)).tr (q3.mono (by decide) (by decide))
        have s3 : syS I3 C [] (hasR C) := by
          obtain ⟨z1, z2, z3, z4, z5⟩ := s1
          refine ⟨?_, fun i hi => ?_, ?_, fun i hi => absurd hi (Nat.not_lt_zero _), ?_⟩
          · rw [q3.1 _ (by decide) (by decide), e2, sw_up_cell _ _ _ _ (by decide)]; exact z1
          · rw [q3.1 _ (by decide) (by decide), e2, sw_up_cell _ _ _ _ (by decide)]; exact z2 i hi
          · rw [q3.1 _ (by decide) (by decide), e2, sw_up_cell _ _ _ _ (by decide)]; exact z3
          · rw [q3.1 _ (by decide) (by decide), e2, sw_up_cell _ _ _ _ (by decide)]; exact z5
        obtain ⟨w1, w2⟩ := lw_of l2 l1 s3.2.1
        refine hQ _ I3 J ⟨n, fl, C.length, q, p, r, 0, s, z, ⟨h0.1, rb_of e (by decide) h0.2⟩, hs_of e (by decide) (by decide) h1, ⟨s3.1, w1, w2, ?_, has_if s3.2.1 s3.2.2.2.2⟩, now_of e (by decide) hn h3, past_of e (by decide) (by decide) hn h4, rw_of e (by decide) (by decide) h5, ⟨by omega, ?_, t3, fun i hi => by omega⟩, sn_of e (by decide) (by decide) h7, kp_of e (by decide) (by decide) hn h8⟩ th3
        · by_cases c0 : t = 0
          · left
            refine ⟨k0 c0, by rw [(b4 c0).2.2]; rfl, ?_⟩
            rw [s3.2.1 0 (by rw [(b4 c0).2.2]; decide), (b4 c0).2.2]; rfl
          · right
            obtain ⟨y1, y2⟩ := k1 (by omega)
            exact ⟨y1, fun k hk => by rw [y2 k hk, s3.2.1 k hk]⟩
        · rw [q3.1 _ (by decide) (by decide), e2]; exact sw_up_same _ _ _ _
      · rw [sw_if_f cf]
        unfold wB_X9_law_33
        intro I2 e2
        rw [sw_if_f cf]
        have q2 : eqm [1] [] I I2 := by rw [e2]; exact eqm.rf.upC (by decide) (by decide) _ _
        refine m_law (t := t) (q := qq) (ok := ok) (C := C) (T := I 2) x1 (fun z => ⟨(b4 z).1, (b4 z).2.1⟩) (fun z => (b3 z).2.2) b2 (fun z => (b5 z).2) (by rw [q2.2 _ (by decide)]; exact x3) (fun i hi => by rw [q2.1 _ (by decide) (by decide)]; exact tape i hi) (fun _ I3 _ t3 th3 q3 => ?_) (fun z => absurd z cf)
        have e : eqm [1, 151] [0, 12, 13, 15, 14, 24] I I3 := (q2.mono (by decide) (by decide)).tr (q3.mono (by decide) (by decide))
        refine hQ _ I3 J ⟨n, fl, m, q, p, r, 0, s, z, ⟨h0.1, rb_of e (by decide) h0.2⟩, hs_of e (by decide) (by decide) h1, l_of e (by decide) (by decide) h2, now_of e (by decide) hn h3, past_of e (by decide) (by decide) hn h4, rw_of e (by decide) (by decide) h5, ⟨by omega, ?_, t3, fun i hi => by omega⟩, sn_of e (by decide) (by decide) h7, kp_of e (by decide) (by decide) hn h8⟩ th3
        rw [q3.1 _ (by decide) (by decide), e2]; exact sw_up_same _ _ _ _
    by_cases c0 : t = 0
    · unfold wp_X2_flawOf
      rw [show I 1 1 = nI t from x2, c0, sw_if_t (by rfl)]
      have ev : hsV t 40 (ok, qq) = -1 := by
        obtain ⟨o1, o2, -⟩ := b4 c0
        rw [o1, o2, c0]; rfl
      rw [ev] at main; exact main
    · exact c_lflaw x1 (by omega) hU b2 (b5 (by omega)).1 x2 rfl main
  exact hval
