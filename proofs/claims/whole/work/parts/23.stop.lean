/-! THE STOP -/
def ab (x : Int32) : Int32 := if 0 ≤ x then x else 0 - x
def stF (lift : Int32) (wv : Nat → Int32) : Nat → Int32 × Int32
  | 0 => (-1, 0)
  | k + 1 => if nI k = lift then stF lift wv k else if (stF lift wv k).1 = -1 ∨ wv k < (stF lift wv k).2 ∨ (wv k = (stF lift wv k).2 ∧ ab (nI k - lift) < ab ((stF lift wv k).1 - lift)) then (nI k, wv k) else stF lift wv k
/-- the worth of a floor, by those who are in (bits s), n riders with places pl and wishes wi -/
def woF (cd : Nat → Int32) (sz : Nat) (pl wi : Nat → Int32) (n : Nat) (s lift rides : Int32) (k : Nat) : Int32 :=
  (lwR (nmF (fun f => ct (fun i => inB s i && decide (wi i = nI f)) n) (fun f => ct (fun i => !inB s i && decide (pl i = nI f)) n) (bcF s) lift rides (nI k)) cd sz).headD 0
def sev (rides : Int32) : Prop := (rides + 1) - (rides + 1) / 7 * 7 = 0
def nsF (cd : Nat → Int32) (sz : Nat) (pl wi : Nat → Int32) (n fl : Nat) (dog s lift rides : Int32) : Int32 :=
  if (rides + 1) - (rides + 1) / 7 * 7 = 0 ∧ ¬ dog = -1 ∧ ¬ dog = lift then dog else (stF lift (woF cd sz pl wi n s lift rides) fl).1
theorem lwR_env {env env2 : Int32 → Int32} (h : ∀ c, env2 c = env c) (cd : Nat → Int32) : ∀ k, lwR env2 cd k = lwR env cd k := by
  have e : env2 = env := funext h
  subst e
  intro k; rfl
abbrev nsC : List Nat := [10, 11, 12, 9]
theorem envX_sc {a n k : Nat} {s : Int32} {I I2 : sw_I} (ho : scOK a s n I I2) (hk : k < 9) : ∀ c, envX I2 (nI k) c = nmF (fun f => ct (fun i => inB s i && decide (I (a + 2) i = nI f)) n) (fun f => ct (fun i => !inB s i && decide (I (a + 1) i = nI f)) n) (bcF s) (I a 4) (I a 5) (nI k) c := by
  intro c
  obtain ⟨v1, v2, v3, v4, v5⟩ := ho
  unfold envX nmF
  rw [nI_clamp (by omega), v1, v2, v3, v4 k hk, v5 k hk]
theorem s_nextStop_loop {a n m fl : Nat} (ha : a ∉ nsC) (hfl : fl ≤ 9) {s : Int32} {I : sw_I} {J : sw_J} {Q : Int32 → sw_I → sw_J → Prop} (hm : I 6 3 = nI m) (hw : lwW (I 7) m) (hf : I 3 0 = nI fl)
    {I0 : sw_I} (hI0 : eqx scC I I0) (ho : scOK a s n I I0)
    (h : ∀ I2, eqx nsC I I2 → Q (stF (I a 4) (woF (I 7) m (I (a + 1)) (I (a + 2)) n s (I a 4) (I a 5)) fl).1 I2 J) :
    ∀ (d k : Nat) (I2 : sw_I), k + d = fl → eqx [9] I0 I2 → wl_X1_nextStop_50 a Q (d + 1) (stF (I a 4) (woF (I 7) m (I (a + 1)) (I (a + 2)) n s (I a 4) (I a 5)) k).1 (stF (I a 4) (woF (I 7) m (I (a + 1)) (I (a + 2)) n s (I a 4) (I a 5)) k).2 (nI k) I2 J := by
  generalize hwv : woF (I 7) m (I (a + 1)) (I (a + 2)) n s (I a 4) (I a 5) = wv at h ⊢
  have hs2 : ∀ I2, eqx [9] I0 I2 → eqx nsC I I2 := fun I2 e => (hI0.mono (by decide)).tr (e.mono (by decide))
  intro d
  induction d with
  | zero =>
    intro k I2 hk he
    obtain rfl : k = fl := by omega
    show wb_X1_nextStop_50 a _ Q _ _ _ I2 J
    unfold wb_X1_nextStop_50
    rw [sw_if_f (by rw [(hs2 I2 he).at (by decide), hf]; exact nI_nlt (Nat.le_refl _) (by omega))]
    exact h I2 (hs2 I2 he)
  | succ d ih =>
    intro k I2 hk he
    have he2 := hs2 I2 he
    show wb_X1_nextStop_50 a _ Q _ _ _ I2 J
    unfold wb_X1_nextStop_50
    rw [sw_if_t (by rw [he2.at (by decide), hf]; exact nI_lt (by omega) (by omega)), he2.at ha]
    by_cases c1 : nI k = I a 4
    · rw [sw_if_t c1]
      intro y hy
      rw [hy, nI_1]
      have := ih (k + 1) I2 (by omega) he
      rw [show stF (I a 4) wv (k + 1) = stF (I a 4) wv k by show (if _ then _ else _) = _; rw [if_pos c1]] at this
      exact this
    · rw [sw_if_f c1]
      have hsc : ∀ c, envX I2 (nI k) c = envX I0 (nI k) c := fun c => congrFun (envX_eq he) c
      refine s_X2_worth (n := m) rfl (by omega) (by rw [he2.at (by decide)]; exact hm) (by rw [he2 _ (by decide)]; exact hw) (fun I3 e3 => ?_)
      have hval : (lwR (envX I2 (nI k)) (I2 7) m).headD 0 = wv k := by
        rw [← hwv]
        unfold woF
        rw [he2 _ (by decide), lwR_env (fun c => (hsc c).trans (envX_sc ho (by omega) c))]
      rw [hval, he2.tr (e3.mono (by decide)) |>.at ha]
      have he3 : eqx [9] I0 I3 := he.tr e3
      have take : stF (I a 4) wv (k + 1) = (nI k, wv k) → wB_X1_nextStop_124 a (wl_X1_nextStop_50 a Q (d + 1)) Q (stF (I a 4) wv k).1 (stF (I a 4) wv k).2 (nI k) (wv k) I3 J := by
        intro ht
        unfold wB_X1_nextStop_124 wB_X1_nextStop_129
        rw [sw_if_f (by decide)]
        intro y hy
        rw [hy, nI_1]
        have := ih (k + 1) I3 (by omega) he3
        rw [ht] at this
        exact this
      have leave : stF (I a 4) wv (k + 1) = stF (I a 4) wv k → wB_X1_nextStop_128 a (wl_X1_nextStop_50 a Q (d + 1)) Q (stF (I a 4) wv k).1 (stF (I a 4) wv k).2 (nI k) (wv k) I3 J := by
        intro ht
        unfold wB_X1_nextStop_128 wB_X1_nextStop_129
        rw [sw_if_t rfl]
        intro y hy
        rw [hy, nI_1]
        have := ih (k + 1) I3 (by omega) he3
        rw [ht] at this
        exact this
      have yes : ((stF (I a 4) wv k).1 = -1 ∨ wv k < (stF (I a 4) wv k).2 ∨ (wv k = (stF (I a 4) wv k).2 ∧ ab (nI k - I a 4) < ab ((stF (I a 4) wv k).1 - I a 4))) → stF (I a 4) wv (k + 1) = (nI k, wv k) := by
        intro q; show (if _ then _ else _) = _; rw [if_neg c1, if_pos q]
      have no : ¬ ((stF (I a 4) wv k).1 = -1 ∨ wv k < (stF (I a 4) wv k).2 ∨ (wv k = (stF (I a 4) wv k).2 ∧ ab (nI k - I a 4) < ab ((stF (I a 4) wv k).1 - I a 4))) → stF (I a 4) wv (k + 1) = stF (I a 4) wv k := by
        intro q; show (if _ then _ else _) = _; rw [if_neg c1, if_neg q]
      refine ⟨fun c2 => take (yes (Or.inl c2)), fun c2 => ⟨fun c3 => take (yes (Or.inr (Or.inl c3))), fun c3 => ⟨fun c4 => ⟨fun c5 => take (yes (Or.inr (Or.inr ⟨c4, c5⟩))), fun c5 => leave (no ?_)⟩, fun c4 => leave (no ?_)⟩⟩⟩
      · rintro (q | q | q)
        · exact c2 q
        · exact c3 q
        · exact c5 q.2
      · rintro (q | q | q)
        · exact c2 q
        · exact c3 q
        · exact c4 q.1
theorem s_X1_nextStop {a n m fl : Nat} (hn : n ≤ 10) (ha : a ∉ nsC) (ha1 : a + 1 ∉ nsC) (ha2 : a + 2 ∉ nsC) (hfl : fl ≤ 9) {s : Int32} {I : sw_I} {J : sw_J} {Q : Int32 → sw_I → sw_J → Prop} (hr : I 3 2 = nI n) (hm : I 6 3 = nI m) (hw : lwW (I 7) m) (hf : I 3 0 = nI fl)
    (h : ∀ I2, eqx nsC I I2 → Q (nsF (I 7) m (I (a + 1)) (I (a + 2)) n fl (I 3 1) s (I a 4) (I a 5)) I2 J) : wp_X1_nextStop a s I J Q := by
  have hsub : ∀ b, b ∉ nsC → b ∉ scC := fun b hb q => hb (by simp only [scC, nsC, List.mem_cons, List.not_mem_nil, or_false] at q ⊢; omega)
  have go : ¬ ((I a 5 + 1) - (I a 5 + 1) / 7 * 7 = 0 ∧ ¬ I 3 1 = -1 ∧ ¬ I 3 1 = I a 4) → wB_X1_nextStop_36 a Q s I J := by
    intro q
    unfold nsF at h
    rw [if_neg q] at h
    refine s_X1_look hn (hsub _ ha) (hsub _ ha1) (hsub _ ha2) hr (fun I2 e2 o2 => ?_)
    exact ⟨fl + 1, s_nextStop_loop ha hfl hm hw hf e2 o2 h fl 0 I2 (by omega) eqx.rf⟩
  refine ⟨fun c1 => ⟨fun c2 => go (fun q => q.2.1 c2), fun c2 => ⟨fun c3 => go (fun q => q.2.2 c3), fun c3 => ?_⟩⟩, fun c1 => go (fun q => c1 q.1)⟩
  have := h I eqx.rf
  unfold nsF at this
  rw [if_pos ⟨c1, c2, c3⟩] at this
  exact this
