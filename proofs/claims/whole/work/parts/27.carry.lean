/-! a RIDE, in the class and in the reference -/
/-- bits of those below n for whom p holds -/
def bs (p : Nat → Bool) : Nat → Int32
  | 0 => 0
  | k + 1 => bs p k ||| (if p k then 1 <<< (nI k &&& 31) else 0)
theorem or0 (x : Int32) : x ||| 0 = x := by simp
theorem bs_cong {p q : Nat → Bool} : ∀ {n : Nat}, (∀ k, k < n → p k = q k) → bs p n = bs q n
  | 0, _ => rfl
  | n + 1, h => by unfold bs; rw [bs_cong (fun k hk => h k (by omega)), h n (by omega)]
theorem s_homeAt_loop {n : Nat} (hn : n ≤ 10) {s f : Int32} {I : sw_I} {J : sw_J} {Q : Int32 → sw_I → sw_J → Prop} (hr : I 3 2 = nI n) (h : Q (bs (fun i => inB s i && decide (I 4 i = f)) n) I J) :
    ∀ (d k : Nat), k + d = n → wl_X1_homeAt_5 Q (d + 1) s f (bs (fun i => inB s i && decide (I 4 i = f)) k) (nI k) I J := by
  intro d
  induction d with
  | zero =>
    intro k hk
    obtain rfl : k = n := by omega
    show wb_X1_homeAt_5 _ Q _ _ _ _ I J
    unfold wb_X1_homeAt_5
    rw [sw_if_f (by rw [hr]; exact nI_nlt (Nat.le_refl _) (by omega))]
    exact h
  | succ d ih =>
    intro k hk
    show wb_X1_homeAt_5 _ Q _ _ _ _ I J
    unfold wb_X1_homeAt_5
    rw [sw_if_t (by rw [hr]; exact nI_lt (by omega) (by omega)), nI_clamp (by omega)]
    have nxt : ∀ t, t = bs (fun i => inB s i && decide (I 4 i = f)) (k + 1) → wB_X1_homeAt_41 (wl_X1_homeAt_5 Q (d + 1)) Q s f t (nI k) I J := by
      intro t ht y hy
      rw [hy, nI_1, ht]
      exact ih (k + 1) (by omega)
    refine ⟨fun c => nxt _ ?_, fun c => ⟨vp0 (by omega) (by decide), ⟨fun c2 y hy => nxt _ ?_, fun c2 => nxt _ ?_⟩⟩⟩
    · have cb : inB s k = false := by unfold inB; simp [c]
      show _ = bs _ k ||| _; simp [cb]
    · have cb : inB s k = true := by unfold inB; simp [c]
      rw [hy]; show _ = bs _ k ||| _; simp [cb, c2]
    · have cb : inB s k = true := by unfold inB; simp [c]
      show _ = bs _ k ||| _; simp [cb, c2]
theorem s_X1_homeAt {n : Nat} (hn : n ≤ 10) {s f : Int32} {I : sw_I} {J : sw_J} {Q : Int32 → sw_I → sw_J → Prop} (hr : I 3 2 = nI n) (h : Q (bs (fun i => inB s i && decide (I 4 i = f)) n) I J) : wp_X1_homeAt s f I J Q :=
  ⟨n + 1, s_homeAt_loop hn hr h n 0 (by omega)⟩
theorem s_X3_isIn {a k : Nat} (hk : k < 10) {I : sw_I} {J : sw_J} {Q : Int32 → sw_I → sw_J → Prop} (h : Q (if inB (I a 3) k then 1 else 0) I J) : wp_X3_isIn a (nI k) I J Q := by
  unfold wp_X3_isIn
  rw [sw_if_f (nI_pos (by omega)), sw_if_t (show nI k < (10 : Int32) from nI_lt (b := 10) hk (by decide))]
  unfold inB at h
  refine ⟨fun c => ?_, fun c => ?_⟩
  · simp [c] at h; exact h
  · simp [c] at h; exact h
theorem s_X3_isIn_any {a : Nat} {x : Int32} {I : sw_I} {J : sw_J} {Q : Int32 → sw_I → sw_J → Prop} (h0 : (x < 0 ∨ nI 10 ≤ x) → Q 0 I J) (h1 : ∀ k, k < 10 → x = nI k → Q (if inB (I a 3) k then 1 else 0) I J) : wp_X3_isIn a x I J Q := by
  rcases pk_ix x (n := 10) (by decide) with hx | hx | ⟨j, hj, hx⟩
  · unfold wp_X3_isIn; rw [sw_if_t hx]; exact h0 (Or.inl hx)
  · have h2 : ¬ x < 0 := fun q => by
      have := Int32.lt_of_lt_of_le q (Int32.le_trans (nI_pos' (n := 10) (by decide)) hx)
      exact Int32.lt_irrefl this
    unfold wp_X3_isIn; rw [sw_if_f h2, sw_if_f (show ¬ x < (10 : Int32) from Int32.not_lt.mpr hx)]; exact h0 (Or.inr hx)
  · subst hx; exact s_X3_isIn hj (h1 j hj rfl)
theorem s_onFloor_loop {a : Nat} {f : Int32} {I : sw_I} {J : sw_J} {Q : Int32 → sw_I → sw_J → Prop} (h : Q (bs (fun i => decide (I (a + 1) i = f)) 10) I J) :
    ∀ (d k : Nat), k + d = 10 → wl_X3_onFloor_4 a Q (d + 1) f (bs (fun i => decide (I (a + 1) i = f)) k) (nI k) I J := by
  intro d
  induction d with
  | zero =>
    intro k hk
    obtain rfl : k = 10 := by omega
    show wb_X3_onFloor_4 a _ Q _ _ _ I J
    unfold wb_X3_onFloor_4
    rw [sw_if_f (show ¬ nI 10 < (10 : Int32) by decide)]
    exact h
  | succ d ih =>
    intro k hk
    show wb_X3_onFloor_4 a _ Q _ _ _ I J
    unfold wb_X3_onFloor_4
    rw [sw_if_t (show nI k < (10 : Int32) from nI_lt (b := 10) (by omega) (by decide)), nI_clamp (by omega)]
    refine ⟨vp0 (by omega) (by decide), ⟨fun c y hy y2 hy2 => ?_, fun c y hy y2 hy2 => ?_⟩⟩
    · rw [hy, hy2, nI_1]
      have := ih (k + 1) (by omega)
      rw [show bs (fun i => decide (I (a + 1) i = f)) (k + 1) = bs (fun i => decide (I (a + 1) i = f)) k ||| ((1 : Int32) <<< (nI k &&& 31)) by show bs _ k ||| _ = _; simp [c]] at this
      exact this
    · rw [hy, hy2, nI_1]
      have := ih (k + 1) (by omega)
      rw [show bs (fun i => decide (I (a + 1) i = f)) (k + 1) = bs (fun i => decide (I (a + 1) i = f)) k ||| 0 by show bs _ k ||| _ = _; simp [c]] at this
      exact this
theorem s_X3_onFloor {a : Nat} {f : Int32} {I : sw_I} {J : sw_J} {Q : Int32 → sw_I → sw_J → Prop} (h : Q (bs (fun i => decide (I (a + 1) i = f)) 10) I J) : wp_X3_onFloor a f I J Q :=
  ⟨11, s_onFloor_loop h 10 0 (by omega)⟩
