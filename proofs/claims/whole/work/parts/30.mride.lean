/-! a RIDE of the reference -/
/-- the row behind the first k riders' part of a RIDE of those in s to a stop -/
def mrF (home row : Nat → Int32) (s stop : Int32) (k j : Nat) : Int32 := if j < k ∧ inB s j = true then (if home j = stop then 9 else stop) else if 20 ≤ j ∧ j < 20 + k ∧ inB s (j - 20) = true then row j + 1 else row j
def mrideOK (b n : Nat) (s stop : Int32) (I I2 : sw_I) : Prop :=
  (∀ c, c ∉ mnsC → c ≠ b → c ≠ 140 → I2 c = I c) ∧ (∀ k, k ∉ maF → I2 140 k = I 140 k) ∧ I2 b = fun j => if j = 32 then I b 32 + 1 else if j = 31 then stop else if j = 30 then s &&& (cmF (I 142) s stop n ^^^ (-1)) else mrF (I 142) (I b) s stop n j
theorem mrF_keep {home row : Nat → Int32} {s stop : Int32} {k : Nat} (hk : k < 10) (cb : inB s k = false) : mrF home row s stop (k + 1) = mrF home row s stop k := by
  funext j
  unfold mrF
  by_cases e : j = k
  · subst e
    have h1 : ¬ (j < j + 1 ∧ inB s j = true) := by rw [cb]; simp
    have h2 : ¬ (j < j ∧ inB s j = true) := by omega
    have h3 : ¬ (20 ≤ j ∧ j < 20 + (j + 1) ∧ inB s (j - 20) = true) := by omega
    have h4 : ¬ (20 ≤ j ∧ j < 20 + j ∧ inB s (j - 20) = true) := by omega
    rw [if_neg h1, if_neg h2, if_neg h3, if_neg h4]
  · by_cases e2 : j = 20 + k
    · subst e2
      have h1 : ¬ (20 + k < k + 1 ∧ inB s (20 + k) = true) := by omega
      have h2 : ¬ (20 + k < k ∧ inB s (20 + k) = true) := by omega
      have h3 : ¬ (20 ≤ 20 + k ∧ 20 + k < 20 + (k + 1) ∧ inB s (20 + k - 20) = true) := by rw [Nat.add_sub_cancel_left, cb]; simp
      have h4 : ¬ (20 ≤ 20 + k ∧ 20 + k < 20 + k ∧ inB s (20 + k - 20) = true) := by omega
      rw [if_neg h1, if_neg h2, if_neg h3, if_neg h4]
    · have h1 : (j < k + 1 ∧ inB s j = true) ↔ (j < k ∧ inB s j = true) := ⟨fun q => ⟨by omega, q.2⟩, fun q => ⟨by omega, q.2⟩⟩
      have h2 : (20 ≤ j ∧ j < 20 + (k + 1) ∧ inB s (j - 20) = true) ↔ (20 ≤ j ∧ j < 20 + k ∧ inB s (j - 20) = true) := ⟨fun q => ⟨q.1, by omega, q.2.2⟩, fun q => ⟨q.1, by omega, q.2.2⟩⟩
      simp only [h1, h2]
theorem mrF_step {home row : Nat → Int32} {s stop : Int32} {k : Nat} (hk : k < 10) (cb : inB s k = true) : mrF home row s stop (k + 1) = fun j => if j = k then (if home k = stop then 9 else stop) else if j = 20 + k then mrF home row s stop k (20 + k) + 1 else mrF home row s stop k j := by
  funext j
  by_cases e : j = k
  · subst e
    rw [if_pos rfl]
    unfold mrF
    rw [if_pos ⟨by omega, cb⟩]
  · rw [if_neg e]
    by_cases e2 : j = 20 + k
    · subst e2
      rw [if_pos rfl]
      unfold mrF
      have h1 : ¬ (20 + k < k + 1 ∧ inB s (20 + k) = true) := by omega
      have h2 : ¬ (20 + k < k ∧ inB s (20 + k) = true) := by omega
      have h3 : 20 ≤ 20 + k ∧ 20 + k < 20 + (k + 1) ∧ inB s (20 + k - 20) = true := ⟨by omega, by omega, by rw [Nat.add_sub_cancel_left]; exact cb⟩
      have h4 : ¬ (20 ≤ 20 + k ∧ 20 + k < 20 + k ∧ inB s (20 + k - 20) = true) := by omega
      rw [if_neg h1, if_neg h2, if_pos h3, if_neg h4]
    · rw [if_neg e2]
      unfold mrF
      have h1 : (j < k + 1 ∧ inB s j = true) ↔ (j < k ∧ inB s j = true) := ⟨fun q => ⟨by omega, q.2⟩, fun q => ⟨by omega, q.2⟩⟩
      have h2 : (20 ≤ j ∧ j < 20 + (k + 1) ∧ inB s (j - 20) = true) ↔ (20 ≤ j ∧ j < 20 + k ∧ inB s (j - 20) = true) := ⟨fun q => ⟨q.1, by omega, q.2.2⟩, fun q => ⟨q.1, by omega, q.2.2⟩⟩
      simp only [h1, h2]
theorem add20 (k : Nat) : (20 : Int32) + nI k = nI (20 + k) := nI_add 20 k
theorem s_travels_loop {b n : Nat} (hn : n ≤ 10) (hb : b ∉ mnsC) (hbm : b ≠ 140) (hbh : b ≠ 142) {s stop : Int32} {I : sw_I} {J : sw_J} {Q : Int32 → sw_I → sw_J → Prop} (hr : I 140 4 = nI n)
    (h : ∀ I2, mrideOK b n s stop I I2 → Q (cmF (I 142) s stop n) I2 J) :
    ∀ (d k : Nat) (I2 : sw_I), k + d = n → (∀ c, c ∉ mnsC → c ≠ b → c ≠ 140 → I2 c = I c) → (∀ j, j ∉ maF → I2 140 j = I 140 j) → I2 b = mrF (I 142) (I b) s stop k → wl_X10_travels_13 b 33 Q (d + 1) s stop (cmF (I 142) s stop k) (nI k) I2 J := by
  intro d
  induction d with
  | zero =>
    intro k I2 hk h1 h2 h3
    obtain rfl : k = n := by omega
    show wb_X10_travels_13 b 33 _ Q _ _ _ _ I2 J
    unfold wb_X10_travels_13
    rw [sw_if_f (by rw [h2 _ (by decide), hr]; exact nI_nlt (Nat.le_refl _) (by omega))]
    refine ⟨by unfold vp_in; decide, fun I3 e3 => ⟨by unfold vp_in; decide, fun I4 e4 => ⟨by unfold vp_in; decide, by unfold vp_in; decide, fun I5 e5 => ?_⟩⟩⟩
    have r5 : ∀ c, c ≠ b → I5 c = I2 c := fun c hc => by rw [e5, sw_up_row _ _ _ hc, e4, sw_up_row _ _ _ hc, e3, sw_up_row _ _ _ hc]
    refine h I5 ⟨fun c c1 c2 c3 => (r5 c c2).trans (h1 c c1 c2 c3), fun j hj => by rw [r5 _ (Ne.symm hbm)]; exact h2 j hj, ?_⟩
    funext j
    have v32 : I4 b (32 : Int32).toNatClampNeg = I b 32 := by
      show I4 b 32 = _
      rw [e4, sw_up_slot _ _ _ _ (by decide), e3, sw_up_slot _ _ _ _ (by decide), h3]
      unfold mrF
      rw [if_neg (by omega), if_neg (by omega)]
    by_cases j1 : j = 32
    · subst j1
      rw [if_pos rfl, e5]
      show sw_up I4 b 32 _ b 32 = _
      rw [sw_up_same, v32]
    · rw [if_neg j1, e5]
      show sw_up I4 b 32 _ b j = _
      rw [sw_up_slot _ _ _ _ j1, e4]
      show sw_up I3 b 31 _ b j = _
      by_cases j2 : j = 31
      · subst j2; rw [if_pos rfl, sw_up_same]
      · rw [if_neg j2, sw_up_slot _ _ _ _ j2, e3]
        show sw_up I2 b 30 _ b j = _
        by_cases j3 : j = 30
        · subst j3; rw [if_pos rfl, sw_up_same]
        · rw [if_neg j3, sw_up_slot _ _ _ _ j3, h3]
  | succ d ih =>
    intro k I2 hk h1 h2 h3
    show wb_X10_travels_13 b 33 _ Q _ _ _ _ I2 J
    unfold wb_X10_travels_13
    rw [sw_if_t (by rw [h2 _ (by decide), hr]; exact nI_lt (by omega) (by omega))]
    refine s_X10_has ?_
    have eh : ∀ I3 : sw_I, (∀ c, c ≠ b → I3 c = I2 c) → I3 142 = I 142 := fun I3 q => (q _ (Ne.symm hbh)).trans (h1 _ (by decide) (Ne.symm hbh) (by decide))
    have nxt : ∀ (I3 : sw_I) (t : Int32), (∀ c, c ≠ b → I3 c = I2 c) → t = cmF (I 142) s stop (k + 1) → I3 b = mrF (I 142) (I b) s stop (k + 1) → wB_X10_travels_87 b 33 (wl_X10_travels_13 b 33 Q (d + 1)) Q s stop t (nI k) I3 J := by
      intro I3 t g1 g2 g3 y hy
      rw [hy, nI_1, g2]
      exact ih (k + 1) I3 (by omega) (fun c c1 c2 c3 => (g1 c c2).trans (h1 c c1 c2 c3)) (fun j hj => by rw [g1 _ (Ne.symm hbm)]; exact h2 j hj) g3
    cases cb : inB s k with
    | false =>
      rw [sw_if_t (by simp)]
      refine nxt I2 _ (fun _ _ => rfl) ?_ (by rw [mrF_keep (by omega) cb]; exact h3)
      show _ = bs _ k ||| _; simp [cb]; rfl
    | true =>
      rw [sw_if_f (by simp), add20, nI_clamp (by omega)]
      refine ⟨vp0 (by omega) (by decide), vp0 (by omega) (by decide), fun I3 e3 => ⟨vp0 (by omega) (by decide), ?_⟩⟩
      have r3 : ∀ c, c ≠ b → I3 c = I2 c := fun c hc => by rw [e3]; exact sw_up_row _ _ _ hc
      rw [nI_clamp (by omega), eh I3 r3]
      have put : ∀ v, v = (if I 142 k = stop then (9 : Int32) else stop) → wB_X10_travels_62 b 33 (wl_X10_travels_13 b 33 Q (d + 1)) Q s stop (cmF (I 142) s stop k) (nI k) (nI k) v I3 J := by
        intro v hv
        refine ⟨vp0 (by omega) (by decide), fun I4 e4 => ⟨vp0 (by omega) (by decide), ?_⟩⟩
        rw [nI_clamp (by omega)] at e4
        have r4 : ∀ c, c ≠ b → I4 c = I2 c := fun c hc => by rw [e4, sw_up_row _ _ _ hc]; exact r3 c hc
        rw [nI_clamp (by omega), eh I4 r4]
        have rowE : I4 b = mrF (I 142) (I b) s stop (k + 1) := by
          rw [mrF_step (by omega) cb, e4, sw_up_rowf, e3, sw_up_rowf, h3, hv]
        refine ⟨fun c y hy => nxt I4 _ r4 ?_ rowE, fun c y hy => nxt I4 _ r4 ?_ rowE⟩
        · rw [hy]; show _ = bs _ k ||| _; simp [cb, c]; rfl
        · rw [hy]; show _ = bs _ k ||| _; simp [cb, c]; rfl
      refine ⟨fun c => put _ (by rw [if_pos c]), fun c => put _ (by rw [if_neg c])⟩
theorem s_X10_travels {b n m fl l9 : Nat} (hn : n ≤ 10) (hb : b ∉ mnsC) (hbm : b ≠ 140) (hbh : b ≠ 142) (hfl : fl ≤ 9) (hl9 : l9 < 9) {cd : Nat → Int32} {s : Int32} {I : sw_I} {J : sw_J} {Q : Int32 → sw_I → sw_J → Prop} (hr : I 140 4 = nI n) (hrow : mrow b n I) (hlift : I b 31 = nI l9) (hdog : I 140 5 = -1 ∨ ∃ j, j < 9 ∧ I 140 5 = nI j) (hw : lwW cd m) (hc : cdOK cd m) (hm : mlOK cd m I) (hf : I 140 3 = nI fl)
    (h : ∀ I2, mrideOK b n s (nsF cd m (I b) (fun i => I b (10 + i)) n fl (I 140 5) s (I b 31) (I b 32)) I I2 → Q (cmF (I 142) s (nsF cd m (I b) (fun i => I b (10 + i)) n fl (I 140 5) s (I b 31) (I b 32)) n) I2 J) : wp_X10_travels b 33 s I J Q := by
  refine s_X10_stopOf hn hb hbm hfl hl9 hr hrow hlift hdog hw hc hm hf (fun I1 e1 => ?_)
  generalize nsF cd m (I b) (fun i => I b (10 + i)) n fl (I 140 5) s (I b 31) (I b 32) = stop at h ⊢
  have eh : I1 142 = I 142 := e1.1 _ (by decide) (by decide)
  have eb : I1 b = I b := e1.1 _ hb hbm
  have := s_travels_loop (s := s) (stop := stop) (J := J) (Q := Q) hn hb hbm hbh (I := I1) (by rw [e1.2 _ (by decide)]; exact hr) (fun I2 o2 => by
    obtain ⟨o1, o3, o4⟩ := o2
    rw [eh, eb] at o4
    rw [eh]
    exact h I2 ⟨fun c c1 c2 c3 => (o1 c c1 c2 c3).trans (e1.1 c c1 c3), fun j hj => (o3 j hj).trans (e1.2 j hj), o4⟩) n 0 I1 (by omega) (fun _ _ _ _ => rfl) (fun _ _ => rfl) (by funext j; unfold mrF; simp; omega)
  exact ⟨n + 1, this⟩
