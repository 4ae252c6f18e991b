/-! the reference's law: the same postfix row, coded otherwise -/
abbrev opP (x : Int32) : Prop := x = 42 ∨ x = 43 ∨ x = 45 ∨ x = 47 ∨ x = 60 ∨ x = 62 ∨ x = 61
def encF (c : Int32) : Int32 := if c < 0 then (if c = -102 then 1000 else if c = -119 then 1001 else if c = -100 then 1002 else if c = -115 then 1003 else if c = -110 then 1004 else if c = -114 then 1005 else if c = -108 then 1006 else if c = -126 then 3000 else if c = -60 then 2000 else if c = -62 then 2001 else if c = -61 then 2002 else if c = -43 then 2003 else if c = -45 then 2004 else if c = -42 then 2005 else 2006) else c
def cdOK (cd : Nat → Int32) (m : Nat) : Prop := ∀ k, k < m → (¬ cd k < 0 → cd k < 1000) ∧ (cd k < 0 → nmP (-(cd k)) ∨ cd k = -126 ∨ opP (-(cd k)))
theorem s_X10_flag {x : Int32} {I : sw_I} {J : sw_J} {Q : Int32 → sw_I → sw_J → Prop} (h : Q (if x = 0 then 0 else 1) I J) : wp_X10_flag x I J Q := by
  refine ⟨fun c => ?_, fun c => ?_⟩
  · rw [if_pos c] at h; exact h
  · rw [if_neg c] at h; exact h
theorem s_X10_worked {o a b : Int32} (ho : opP o) {I : sw_I} {J : sw_J} {Q : Int32 → sw_I → sw_J → Prop} (h : Q (opF o a b) I J) : wp_X10_worked (encF (-o) - 2000) a b I J Q := by
  unfold wp_X10_worked wB_X10_worked_50 wB_X10_worked_64 wB_X10_worked_78
  unfold opF at h
  have f1 : wp_X10_flag 1 I J (fun r I2 J2 => Q r I2 J2) = Q 1 I J := propext ⟨fun q => q.2 (by decide), fun q => ⟨fun z => absurd z (by decide), fun _ => q⟩⟩
  have f0 : wp_X10_flag 0 I J (fun r I2 J2 => Q r I2 J2) = Q 0 I J := propext ⟨fun q => q.1 rfl, fun q => ⟨fun _ => q, fun z => absurd rfl z⟩⟩
  rw [f1, f0]
  rcases ho with q | q | q | q | q | q | q <;> subst q
  · rw [show encF (-42) - 2000 = 5 by decide]; simp [sw_if] at h ⊢; exact h
  · rw [show encF (-43) - 2000 = 3 by decide]; simp [sw_if] at h ⊢; exact h
  · rw [show encF (-45) - 2000 = 4 by decide]; simp [sw_if] at h ⊢; exact h
  · rw [show encF (-47) - 2000 = 6 by decide]; simp [sw_if] at h ⊢
    refine ⟨fun c => ?_, fun c => ?_⟩
    · rw [if_pos c] at h; exact h
    · rw [if_neg c] at h; exact ⟨c, h⟩
  · rw [show encF (-60) - 2000 = 0 by decide]
    rw [sw_if_t rfl]
    refine ⟨fun c => ?_, fun c => ?_⟩
    · simp [c] at h; exact h
    · simp [c] at h; exact h
  · rw [show encF (-62) - 2000 = 1 by decide]
    rw [sw_if_f (by decide), sw_if_t rfl]
    refine ⟨fun c => ?_, fun c => ?_⟩
    · simp [c] at h; exact h
    · simp [c] at h; exact h
  · rw [show encF (-61) - 2000 = 2 by decide]
    rw [sw_if_f (by decide), sw_if_f (by decide), sw_if_t rfl]
    refine ⟨fun c => ?_, fun c => ?_⟩
    · simp [c] at h; exact h
    · simp [c] at h; exact h
abbrev envM (I : sw_I) (f : Int32) : Int32 → Int32 := nmF (I 153) (I 154) (I 140 28) (I 140 29) (I 140 30) f
theorem dist9 : ∀ k, k < 9 → ∀ l, l < 9 → (if nI k < nI l then nI l - nI k else nI k - nI l) = (if 0 ≤ nI k - nI l then nI k - nI l else 0 - (nI k - nI l)) := by decide +kernel
theorem s_X10_thingOf {c : Int32} {k l : Nat} (hk : k < 9) (hl : l < 9) (hn : nmP c) {I : sw_I} {J : sw_J} {Q : Int32 → sw_I → sw_J → Prop} (hlift : I 140 29 = nI l) (h : Q (envM I (nI k) c) I J) : wp_X10_thingOf (nI k) (encF (-c) - 1000) I J Q := by
  unfold wp_X10_thingOf
  unfold envM nmF at h
  have h3 : vp_in (nI k) 9 := vp0 hk (by decide)
  have hd := dist9 k hk l hl
  rw [← hlift] at hd
  rcases hn with q | q | q | q | q | q | q <;> subst q
  · rw [show encF (-102) - 1000 = 0 by decide]; simp [sw_if] at h ⊢; exact h
  · rw [show encF (-119) - 1000 = 1 by decide]; simp [sw_if, h3] at h ⊢; exact h
  · rw [show encF (-100) - 1000 = 2 by decide, sw_if_f (by decide), sw_if_f (by decide), sw_if_t rfl, ← hd]; simp at h; exact h
  · rw [show encF (-115) - 1000 = 3 by decide]; simp [sw_if, h3] at h ⊢; exact h
  · rw [show encF (-110) - 1000 = 4 by decide]; simp [sw_if] at h ⊢; exact h
  · rw [show encF (-114) - 1000 = 5 by decide]; simp [sw_if] at h ⊢; exact h
  · rw [show encF (-108) - 1000 = 6 by decide]; simp [sw_if] at h ⊢; exact h
theorem envM_eq {I I2 : sw_I} {f : Int32} (h : eqx [152] I I2) : envM I2 f = envM I f := by
  unfold envM
  rw [h _ (by decide), h _ (by decide), h _ (by decide)]
theorem enc_nm {c : Int32} (h : nmP (-c)) : c < 0 ∧ ¬ encF c = 3000 ∧ encF c < 2000 ∧ ¬ encF c < 1000 := by
  have e : c = -(-c) := by simp
  rw [e]
  rcases h with q | q | q | q | q | q | q <;> rw [q] <;> decide
theorem enc_op {c : Int32} (h : opP (-c)) : c < 0 ∧ ¬ encF c = 3000 ∧ ¬ encF c < 2000 := by
  have e : c = -(-c) := by simp
  rw [e]
  rcases h with q | q | q | q | q | q | q <;> rw [q] <;> decide
theorem enc_num {c : Int32} (h : ¬ c < 0) (h2 : c < 1000) : encF c = c ∧ ¬ c = 3000 ∧ c < 2000 := by
  refine ⟨by unfold encF; rw [if_neg h], fun q => ?_, ?_⟩
  · rw [q] at h2; exact absurd h2 (by decide)
  · exact Int32.lt_trans h2 (by decide)
theorem s_lawFor_loop {k9 l9 m : Nat} (hk9 : k9 < 9) (hl9 : l9 < 9) {cd : Nat → Int32} {I : sw_I} {J : sw_J} {Q : Int32 → sw_I → sw_J → Prop} (hlift : I 140 29 = nI l9) (hn : I 140 23 = nI m) (hw : lwW cd m) (hc : cdOK cd m) (hcd : ∀ k, k < m → I 150 k = encF (cd k))
    (h : ∀ I2, eqx [152] I I2 → Q ((lwR (envM I (nI k9)) cd m).headD 0) I2 J) :
    ∀ (d k : Nat) (I2 : sw_I), k + d = m → eqx [152] I I2 → stkAt (I2 152) (lwR (envM I (nI k9)) cd k) → wl_X10_lawFor_18 Q (d + 1) (nI k9) (nI (lwR (envM I (nI k9)) cd k).length) (nI k) I2 J := by
  have hn40 := hw.2.2
  intro d
  induction d with
  | zero =>
    intro k I2 hk he hst
    obtain rfl : k = m := by omega
    show wb_X10_lawFor_18 _ Q _ _ _ I2 J
    unfold wb_X10_lawFor_18
    rw [sw_if_f (by rw [he.at (by decide), hn]; exact nI_nlt (Nat.le_refl _) (by omega))]
    have hl := lwR_len (env := envM I (nI k9)) hw k (Nat.le_refl _)
    rw [hw.2.1] at hl
    match hs : lwR (envM I (nI k9)) cd k with
    | [] => rw [hs] at hl; cases hl
    | [r] =>
      rw [hs] at hst
      have h0 := hst 0 (by simp)
      have h1 := h I2 he
      rw [hs] at h1
      show Q (I2 152 0) I2 J
      rw [h0]; exact h1
    | a :: b :: s => rw [hs] at hl; simp at hl
  | succ d ih =>
    intro k I2 hk he hst
    have hkn : k < m := by omega
    have hlen := lwR_len (env := envM I (nI k9)) hw k (by omega)
    have hle := lwD_le cd k
    have hok := hw.1 k hkn
    have hcc := hc k hkn
    show wb_X10_lawFor_18 _ Q _ _ _ I2 J
    unfold wb_X10_lawFor_18
    rw [sw_if_t (by rw [he.at (by decide), hn]; exact nI_lt hkn (by omega))]
    refine ⟨vp0 (by omega) (by decide), fun y hy => ?_⟩
    rw [nI_clamp (by omega), he.at (by decide), hcd k hkn] at hy
    subst hy
    have nxt : ∀ I3, eqx [152] I I3 → stkAt (I3 152) (lwR (envM I (nI k9)) cd (k + 1)) → ∀ t, t = nI (lwR (envM I (nI k9)) cd (k + 1)).length → wB_X10_lawFor_140 (wl_X10_lawFor_18 Q (d + 1)) Q (nI k9) t (nI k) I3 J := by
      intro I3 h3 h4 t ht y hy
      rw [hy, nI_1, ht]
      exact ih (k + 1) I3 (by omega) h3 h4
    have push : ∀ v, lwR (envM I (nI k9)) cd (k + 1) = v :: lwR (envM I (nI k9)) cd k → wB_X10_lawFor_136 (wl_X10_lawFor_18 Q (d + 1)) Q (nI k9) (nI (lwR (envM I (nI k9)) cd k).length) (nI k) (nI (lwR (envM I (nI k9)) cd k).length) v I2 J := by
      intro v hv
      refine ⟨vp0 (by omega) (by decide), fun I3 h3 y3 hy3 => ?_⟩
      rw [nI_clamp (by omega)] at h3
      refine nxt I3 (by rw [h3]; exact he.up (by simp) _ _) ?_ y3 (by rw [hy3, nI_1, hv]; rfl)
      rw [hv]
      exact hst.push (by rw [h3, sw_up_same]) (fun j hj => by rw [h3, sw_up_slot _ _ _ _ (by omega)])
    by_cases c1 : cd k < 0
    · by_cases c2 : nmP (-(cd k))
      · obtain ⟨-, q1, q2, q3⟩ := enc_nm c2
        rw [sw_if_f q1, sw_if_t q2, sw_if_f q3]
        have e9 : encF (cd k) = encF (-(-(cd k))) := by simp
        rw [e9]
        refine s_X10_thingOf hk9 hl9 c2 (by rw [he.at (by decide)]; exact hlift) ?_
        rw [congrFun (envM_eq (f := nI k9) he) (-(cd k))]
        exact push _ (by show lwS _ _ _ = _; unfold lwS; rw [if_pos c1, if_pos c2])
      · obtain ⟨h3, h4⟩ := hok c1 c2
        by_cases c3 : cd k = -126
        · rw [sw_if_t (by rw [c3]; decide)]
          have h5 := h3 c3
          rw [← hlen] at h5
          have hv : lwR (envM I (nI k9)) cd (k + 1) = (match lwR (envM I (nI k9)) cd k with | a :: s => -a :: s | [] => []) := by show lwS _ _ _ = _; unfold lwS; rw [if_pos c1, if_neg c2, if_pos c3]; rfl
          match hs : lwR (envM I (nI k9)) cd k with
          | [] => simp [hs] at h5
          | a :: s =>
            rw [hs] at hst hv hlen
            obtain ⟨p1, p2⟩ := hst.pop
            rw [List.length_cons] at hlen ⊢
            rw [nI_pred, nI_clamp (by omega)]
            refine ⟨vp0 (by omega) (by decide), vp0 (by omega) (by decide), fun I3 h6 => ?_⟩
            refine nxt I3 (by rw [h6]; exact he.up (by simp) _ _) ?_ _ (by rw [hv]; rfl)
            rw [hv]
            exact p2.push (by rw [h6, sw_up_same, p1]) (fun j hj => by rw [h6, sw_up_slot _ _ _ _ (by omega)])
        · have c4 : opP (-(cd k)) := by
            rcases hcc.2 c1 with q | q | q
            · exact absurd q c2
            · exact absurd q c3
            · exact q
          obtain ⟨-, q1, q2⟩ := enc_op c4
          rw [sw_if_f q1, sw_if_f q2]
          have h5 := h4 c3
          rw [← hlen] at h5
          have hv : lwR (envM I (nI k9)) cd (k + 1) = (match lwR (envM I (nI k9)) cd k with | b :: a :: s => opF (-(cd k)) a b :: s | s => s) := by show lwS _ _ _ = _; unfold lwS; rw [if_pos c1, if_neg c2, if_neg c3]; rfl
          match hs : lwR (envM I (nI k9)) cd k with
          | [] => simp [hs] at h5
          | [a] => simp [hs] at h5
          | b :: a :: s =>
            rw [hs] at hst hv hlen
            obtain ⟨p1, p2⟩ := hst.pop
            obtain ⟨p3, p4⟩ := p2.pop
            rw [List.length_cons] at p1
            rw [List.length_cons, List.length_cons] at hlen ⊢
            intro y hy
            rw [pk_m1] at hy
            subst hy
            rw [nI_pred, nI_clamp (by omega), nI_clamp (by omega)]
            refine ⟨vp0 (by omega) (by decide), vp0 (by omega) (by decide), ?_⟩
            have e9 : encF (cd k) = encF (-(-(cd k))) := by simp
            rw [e9]
            refine s_X10_worked c4 ?_
            refine ⟨vp0 (by omega) (by decide), fun I3 h6 => ?_⟩
            refine nxt I3 (by rw [h6]; exact he.up (by simp) _ _) ?_ _ (by rw [hv]; rfl)
            rw [hv]
            exact p4.push (by rw [h6, sw_up_same, p1, p3]) (fun j hj => by rw [h6, sw_up_slot _ _ _ _ (by omega)])
    · have h9 := hcc.1 c1
      obtain ⟨q0, q1, q2⟩ := enc_num c1 h9
      rw [q0, sw_if_f q1, sw_if_t q2, sw_if_t h9]
      exact push _ (by show lwS _ _ _ = _; unfold lwS; rw [if_neg c1])
/-- the reference's code is that of the postfix row cd of length m (an empty one: w) -/
def mlOK (cd : Nat → Int32) (m : Nat) (I : sw_I) : Prop := (I 140 23 = 0 ∧ m = 1 ∧ cd 0 = -119) ∨ (I 140 23 = nI m ∧ ∀ k, k < m → I 150 k = encF (cd k))
theorem s_X10_lawFor {k9 l9 m : Nat} (hk9 : k9 < 9) (hl9 : l9 < 9) {cd : Nat → Int32} {I : sw_I} {J : sw_J} {Q : Int32 → sw_I → sw_J → Prop} (hlift : I 140 29 = nI l9) (hw : lwW cd m) (hc : cdOK cd m) (hm : mlOK cd m I)
    (h : ∀ I2, eqx [152] I I2 → Q ((lwR (envM I (nI k9)) cd m).headD 0) I2 J) : wp_X10_lawFor (nI k9) I J Q := by
  have hD := hw.2.1
  have hn40 := hw.2.2
  have hm0 : 0 < m := by
    rcases Nat.eq_zero_or_pos m with e | e
    · subst e; cases hD
    · exact e
  rcases hm with ⟨h1, h2, h3⟩ | ⟨h1, h2⟩
  · unfold wp_X10_lawFor
    rw [sw_if_t h1]
    refine ⟨vp0 hk9 (by decide), ?_⟩
    have := h I eqx.rf
    subst h2
    have e : (lwR (envM I (nI k9)) cd 1).headD 0 = I 153 (nI k9).toNatClampNeg := by
      show (lwS _ (cd 0) []).headD 0 = _
      rw [h3]
      unfold lwS
      rw [if_pos (by decide), if_pos (by decide)]
      rfl
    rw [e] at this
    exact this
  · unfold wp_X10_lawFor
    rw [sw_if_f (by rw [h1]; exact nI_ne0 hm0 (by omega))]
    exact ⟨m + 1, s_lawFor_loop hk9 hl9 hlift h1 hw hc h2 h m 0 I (by omega) eqx.rf (fun j hj => absurd hj (Nat.not_lt_zero j))⟩
