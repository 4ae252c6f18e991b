/-! the reference's STOP, on -/
theorem stF_rng (lift : Int32) (wv : Nat → Int32) : ∀ k, (stF lift wv k).1 = -1 ∨ ∃ j, j < k ∧ (stF lift wv k).1 = nI j
  | 0 => Or.inl rfl
  | k + 1 => by
    unfold stF
    split
    · rcases stF_rng lift wv k with h | ⟨j, hj, h⟩
      · exact Or.inl h
      · exact Or.inr ⟨j, by omega, h⟩
    · split
      · exact Or.inr ⟨k, by omega, rfl⟩
      · rcases stF_rng lift wv k with h | ⟨j, hj, h⟩
        · exact Or.inl h
        · exact Or.inr ⟨j, by omega, h⟩
theorem stF_cong {lift : Int32} {wv wv2 : Nat → Int32} : ∀ {k : Nat}, (∀ j, j < k → wv2 j = wv j) → stF lift wv2 k = stF lift wv k
  | 0, _ => rfl
  | k + 1, h => by
    have ih := stF_cong (lift := lift) (k := k) (fun j hj => h j (by omega))
    unfold stF
    rw [ih, h k (by omega)]
abbrev mnsC : List Nat := [153, 154, 152]
theorem envM_sc {b n k : Nat} {s : Int32} {I I2 : sw_I} (ho : mscOK b s n I I2) (hk : k < 9) : ∀ c, envM I2 (nI k) c = nmF (fun f => ct (fun i => inB s i && decide (I b (10 + i) = nI f)) n) (fun f => ct (fun i => !inB s i && decide (I b i = nI f)) n) (bcF s) (I b 31) (I b 32) (nI k) c := by
  intro c
  obtain ⟨v1, v2, v3, v4, v5⟩ := ho
  unfold envM nmF
  rw [nI_clamp (by omega), v1, v2, v3, v4 k hk, v5 k hk]
theorem s_leastStop_loop {b n m fl l9 : Nat} (hfl : fl ≤ 9) (hl9 : l9 < 9) {cd : Nat → Int32} {s : Int32} {I : sw_I} {J : sw_J} {Q : Int32 → sw_I → sw_J → Prop} (hlift : I b 31 = nI l9) (hw : lwW cd m) (hc : cdOK cd m) (hm : mlOK cd m I) (hf : I 140 3 = nI fl)
    {I0 : sw_I} (hI0 : eqm mscC maF I I0) (ho : mscOK b s n I I0)
    (h : ∀ I2, eqm mnsC maF I I2 → eqx [152] I0 I2 → Q (stF (I b 31) (woF cd m (I b) (fun i => I b (10 + i)) n s (I b 31) (I b 32)) fl).1 I2 J) :
    ∀ (d k : Nat) (I2 : sw_I), k + d = fl → eqx [152] I0 I2 → wl_X10_leastStop_6 Q (d + 1) (stF (I b 31) (woF cd m (I b) (fun i => I b (10 + i)) n s (I b 31) (I b 32)) k).1 (stF (I b 31) (woF cd m (I b) (fun i => I b (10 + i)) n s (I b 31) (I b 32)) k).2 (nI k) I2 J := by
  generalize hwv : woF cd m (I b) (fun i => I b (10 + i)) n s (I b 31) (I b 32) = wv at h ⊢
  have hs2 : ∀ I2, eqx [152] I0 I2 → eqm mnsC maF I I2 := fun I2 e => (hI0.mono (by decide) (by decide)).tr (e.eqm (by decide) (by decide))
  intro d
  induction d with
  | zero =>
    intro k I2 hk he
    obtain rfl : k = fl := by omega
    show wb_X10_leastStop_6 _ Q _ _ _ I2 J
    unfold wb_X10_leastStop_6
    rw [sw_if_f (by rw [(hs2 I2 he).2 _ (by decide), hf]; exact nI_nlt (Nat.le_refl _) (by omega))]
    exact h I2 (hs2 I2 he) he
  | succ d ih =>
    intro k I2 hk he
    have he2 := hs2 I2 he
    have hlf : I2 140 29 = I b 31 := by rw [he.at (by decide)]; exact ho.2.1
    show wb_X10_leastStop_6 _ Q _ _ _ I2 J
    unfold wb_X10_leastStop_6
    rw [sw_if_t (by rw [he2.2 _ (by decide), hf]; exact nI_lt (by omega) (by omega)), hlf]
    by_cases c1 : nI k = I b 31
    · rw [sw_if_t c1]
      intro y hy
      rw [hy, nI_1]
      have := ih (k + 1) I2 (by omega) he
      rw [show stF (I b 31) wv (k + 1) = stF (I b 31) wv k by show (if _ then _ else _) = _; rw [if_pos c1]] at this
      exact this
    · rw [sw_if_f c1]
      refine s_X10_lawFor (m := m) (cd := cd) (l9 := l9) (by omega) hl9 (hlf.trans hlift) hw hc ?_ (fun I3 e3 => ?_)
      · rcases hm with ⟨a1, a2, a3⟩ | ⟨a1, a2⟩
        · exact Or.inl ⟨by rw [he2.2 _ (by decide)]; exact a1, a2, a3⟩
        · exact Or.inr ⟨by rw [he2.2 _ (by decide)]; exact a1, fun j hj => by rw [he2.at (by decide) (by decide)]; exact a2 j hj⟩
      have hval : (lwR (envM I2 (nI k)) cd m).headD 0 = wv k := by
        rw [← hwv]
        unfold woF
        rw [lwR_env (fun c => (congrFun (envM_eq he) c).trans (envM_sc ho (by omega) c))]
      rw [hval]
      have he3 : eqx [152] I0 I3 := he.tr e3
      have hlf3 : I3 140 29 = I b 31 := by rw [he3.at (by decide)]; exact ho.2.1
      rw [hlf3]
      have take : stF (I b 31) wv (k + 1) = (nI k, wv k) → wB_X10_leastStop_85 (wl_X10_leastStop_6 Q (d + 1)) Q (nI k) (wv k) I3 J := by
        intro ht y hy
        rw [hy, nI_1]
        have := ih (k + 1) I3 (by omega) he3
        rw [ht] at this
        exact this
      have leave : stF (I b 31) wv (k + 1) = stF (I b 31) wv k → wB_X10_leastStop_90 (wl_X10_leastStop_6 Q (d + 1)) Q (stF (I b 31) wv k).1 (stF (I b 31) wv k).2 (nI k) I3 J := by
        intro ht y hy
        rw [hy, nI_1]
        have := ih (k + 1) I3 (by omega) he3
        rw [ht] at this
        exact this
      have yes : ((stF (I b 31) wv k).1 = -1 ∨ wv k < (stF (I b 31) wv k).2 ∨ (wv k = (stF (I b 31) wv k).2 ∧ ab (nI k - I b 31) < ab ((stF (I b 31) wv k).1 - I b 31))) → stF (I b 31) wv (k + 1) = (nI k, wv k) := by
        intro q; show (if _ then _ else _) = _; rw [if_neg c1, if_pos q]
      have no : ¬ ((stF (I b 31) wv k).1 = -1 ∨ wv k < (stF (I b 31) wv k).2 ∨ (wv k = (stF (I b 31) wv k).2 ∧ ab (nI k - I b 31) < ab ((stF (I b 31) wv k).1 - I b 31))) → stF (I b 31) wv (k + 1) = stF (I b 31) wv k := by
        intro q; show (if _ then _ else _) = _; rw [if_neg c1, if_neg q]
      have neg : (stF (I b 31) wv k).1 < 0 ↔ (stF (I b 31) wv k).1 = -1 := by
        rcases stF_rng (I b 31) wv k with q | ⟨j, hj, q⟩
        · rw [q]; decide
        · rw [q]
          exact ⟨fun z => absurd z (nI_pos (by omega)), fun z => absurd z.symm (nem1 (by omega))⟩
      have w68 : ∀ s0 : Int32, (s0 = 0 → ¬ (wv k = (stF (I b 31) wv k).2 ∧ ab (nI k - I b 31) < ab ((stF (I b 31) wv k).1 - I b 31)) ∨ (stF (I b 31) wv k).1 = -1) → (¬ s0 = 0 → wv k = (stF (I b 31) wv k).2 ∧ ab (nI k - I b 31) < ab ((stF (I b 31) wv k).1 - I b 31)) → wB_X10_leastStop_68 (wl_X10_leastStop_6 Q (d + 1)) Q (stF (I b 31) wv k).1 (stF (I b 31) wv k).2 (nI k) (wv k) s0 I3 J := by
        intro s0 z1 z2
        refine ⟨fun c2 => take (yes (Or.inl (neg.mp c2))), fun c2 => ⟨fun c3 => take (yes (Or.inr (Or.inl c3))), fun c3 => ⟨fun c4 => leave (no ?_), fun c4 => take (yes (Or.inr (Or.inr (z2 c4))))⟩⟩⟩
        rintro (q | q | q)
        · exact c2 (neg.mpr q)
        · exact c3 q
        · rcases z1 c4 with z | z
          · exact z q
          · exact c2 (neg.mpr z)
      refine ⟨fun c2 => w68 0 (fun _ => Or.inr (neg.mp c2)) (fun z => absurd rfl z), fun c2 => ⟨fun c3 => ⟨fun c4 => w68 1 (fun z => absurd z (by decide)) (fun _ => ⟨c3, c4⟩), fun c4 => w68 0 (fun _ => Or.inl (fun z => c4 z.2)) (fun z => absurd rfl z)⟩, fun c3 => w68 0 (fun _ => Or.inl (fun z => c3 z.1)) (fun z => absurd rfl z)⟩⟩
theorem msc_eq {b n : Nat} {s : Int32} {I I0 I2 : sw_I} (e : eqx [152] I0 I2) (o : mscOK b s n I I0) : mscOK b s n I I2 := by
  unfold mscOK
  rw [e 140 (by decide), e 153 (by decide), e 154 (by decide)]
  exact o
theorem s_X10_stopOf2 {b n m fl l9 : Nat} (hn : n ≤ 10) (hb : b ∉ mnsC) (hbm : b ≠ 140) (hfl : fl ≤ 9) (hl9 : l9 < 9) {cd : Nat → Int32} {s : Int32} {I : sw_I} {J : sw_J} {Q : Int32 → sw_I → sw_J → Prop} (hr : I 140 4 = nI n) (hrow : mrow b n I) (hlift : I b 31 = nI l9) (hdog : I 140 5 = -1 ∨ ∃ j, j < 9 ∧ I 140 5 = nI j) (hw : lwW cd m) (hc : cdOK cd m) (hm : mlOK cd m I) (hf : I 140 3 = nI fl)
    (h : ∀ I2, eqm mnsC maF I I2 → mscOK b s n I I2 → Q (nsF cd m (I b) (fun i => I b (10 + i)) n fl (I 140 5) s (I b 31) (I b 32)) I2 J) : wp_X10_stopOf b 33 s I J Q := by
  have hb2 : b ∉ mscC := fun q => hb (by simp only [mscC, mnsC, List.mem_cons, List.not_mem_nil, or_false] at q ⊢; omega)
  refine s_X10_looks hn hb2 hbm hr hrow (fun I2 e2 o2 => ?_)
  have neg : I2 140 5 < 0 ↔ I 140 5 = -1 := by
    rw [e2.2 _ (by decide)]
    rcases hdog with q | ⟨j, hj, q⟩
    · rw [q]; decide
    · rw [q]
      exact ⟨fun z => absurd z (nI_pos (by omega)), fun z => absurd z.symm (nem1 (by omega))⟩
  have e31 : I2 b (31 : Int32).toNatClampNeg = I b 31 := e2.at hb2 hbm 31
  have e32 : I2 b (32 : Int32).toNatClampNeg = I b 32 := e2.at hb2 hbm 32
  have edog : I2 140 5 = I 140 5 := e2.2 _ (by decide)
  have go : ¬ ((I b 32 + 1) - (I b 32 + 1) / 7 * 7 = 0 ∧ ¬ I 140 5 = -1 ∧ ¬ I 140 5 = I b 31) → wB_X10_stopOf_40 b 33 Q I2 J := by
    intro q
    unfold nsF at h
    rw [if_neg q] at h
    unfold wB_X10_stopOf_40 wB_X10_stopOf_41
    rw [sw_if_t rfl]
    exact ⟨fl + 1, s_leastStop_loop hfl hl9 hlift hw hc hm hf e2 o2 (fun I3 e3 x3 => h I3 e3 (msc_eq x3 o2)) fl 0 I2 (by omega) eqx.rf⟩
  rw [e31, e32, edog]
  refine ⟨by unfold vp_in; decide, ⟨fun c1 => ⟨fun c2 => go (fun q => q.2.1 (neg.mp (by rw [edog]; exact c2))), fun c2 => ⟨by unfold vp_in; decide, ⟨fun c3 => go (fun q => q.2.2 c3), fun c3 => ?_⟩⟩⟩, fun c1 => go (fun q => c1 q.1)⟩⟩
  unfold wB_X10_stopOf_41
  rw [sw_if_f (by decide), edog]
  have := h I2 (e2.mono (by decide) (by decide)) o2
  unfold nsF at this
  rw [if_pos ⟨c1, fun z => c2 (by rw [← edog]; exact neg.mpr z), c3⟩] at this
  exact this
theorem s_X10_stopOf {b n m fl l9 : Nat} (hn : n ≤ 10) (hb : b ∉ mnsC) (hbm : b ≠ 140) (hfl : fl ≤ 9) (hl9 : l9 < 9) {cd : Nat → Int32} {s : Int32} {I : sw_I} {J : sw_J} {Q : Int32 → sw_I → sw_J → Prop} (hr : I 140 4 = nI n) (hrow : mrow b n I) (hlift : I b 31 = nI l9) (hdog : I 140 5 = -1 ∨ ∃ j, j < 9 ∧ I 140 5 = nI j) (hw : lwW cd m) (hc : cdOK cd m) (hm : mlOK cd m I) (hf : I 140 3 = nI fl)
    (h : ∀ I2, eqm mnsC maF I I2 → Q (nsF cd m (I b) (fun i => I b (10 + i)) n fl (I 140 5) s (I b 31) (I b 32)) I2 J) : wp_X10_stopOf b 33 s I J Q :=
  s_X10_stopOf2 hn hb hbm hfl hl9 hr hrow hlift hdog hw hc hm hf (fun I2 e2 _ => h I2 e2)
