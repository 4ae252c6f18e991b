/-! a law's worth: the postfix row is run on a stack -/
abbrev nmP (x : Int32) : Prop := x = 102 ∨ x = 119 ∨ x = 100 ∨ x = 115 ∨ x = 110 ∨ x = 114 ∨ x = 108
def opF (o a b : Int32) : Int32 := if o = 42 then a * b else if o = 43 then a + b else if o = 45 then a - b else if o = 47 then (if b = 0 then 0 else a / b) else if o = 60 then (if a < b then 1 else 0) else if o = 62 then (if b < a then 1 else 0) else (if a = b then 1 else 0)
def nmF (w s : Nat → Int32) (n lift r f : Int32) (c : Int32) : Int32 := if c = 102 then f else if c = 119 then w f.toNatClampNeg else if c = 100 then (if f < lift then lift - f else f - lift) else if c = 115 then s f.toNatClampNeg else if c = 110 then n else if c = 114 then r else lift
def lwS (env : Int32 → Int32) (c : Int32) (stk : List Int32) : List Int32 :=
  if c < 0 then
    if nmP (-c) then env (-c) :: stk
    else if c = -126 then (match stk with | a :: s => -a :: s | [] => [])
    else (match stk with | b :: a :: s => opF (-c) a b :: s | s => s)
  else c :: stk
def lwR (env : Int32 → Int32) (cd : Nat → Int32) : Nat → List Int32
  | 0 => []
  | k + 1 => lwS env (cd k) (lwR env cd k)
def lwD (cd : Nat → Int32) : Nat → Nat
  | 0 => 0
  | k + 1 => if cd k < 0 then (if nmP (-(cd k)) then lwD cd k + 1 else if cd k = -126 then lwD cd k else lwD cd k - 1) else lwD cd k + 1
def lwW (cd : Nat → Int32) (n : Nat) : Prop := (∀ k, k < n → cd k < 0 → ¬ nmP (-(cd k)) → (cd k = -126 → 1 ≤ lwD cd k) ∧ (¬ cd k = -126 → 2 ≤ lwD cd k)) ∧ lwD cd n = 1 ∧ n ≤ 40
theorem lwD_le (cd : Nat → Int32) : ∀ k, lwD cd k ≤ k
  | 0 => Nat.le_refl _
  | k + 1 => by
    have h := lwD_le cd k
    unfold lwD
    split
    · split
      · omega
      · split <;> omega
    · omega
theorem lwR_len {env : Int32 → Int32} {cd : Nat → Int32} {n : Nat} (hw : lwW cd n) : ∀ k, k ≤ n → (lwR env cd k).length = lwD cd k
  | 0, _ => rfl
  | k + 1, hk => by
    have ih := lwR_len (env := env) hw k (by omega)
    have h2 := hw.1 k (by omega)
    unfold lwR lwD lwS
    by_cases c1 : cd k < 0
    · rw [if_pos c1, if_pos c1]
      by_cases c2 : nmP (-(cd k))
      · rw [if_pos c2, if_pos c2]; simp [ih]
      · rw [if_neg c2, if_neg c2]
        obtain ⟨h3, h4⟩ := h2 c1 c2
        by_cases c3 : cd k = -126
        · rw [if_pos c3, if_pos c3]
          have h5 := h3 c3
          rw [← ih] at h5 ⊢
          cases hs : lwR env cd k with
          | nil => simp [hs] at h5
          | cons a s => rfl
        · rw [if_neg c3, if_neg c3]
          have h5 := h4 c3
          rw [← ih] at h5 ⊢
          match hs : lwR env cd k with
          | [] => rw [hs] at h5; simp at h5
          | [a] => rw [hs] at h5; simp at h5
          | b :: a :: s => simp
    · rw [if_neg c1, if_neg c1]; simp [ih]
/-- the stack lies in a row of ints, its top last -/
def stkAt (row : Nat → Int32) (stk : List Int32) : Prop := ∀ j, j < stk.length → row j = stk.getD (stk.length - 1 - j) 0
theorem stkAt.push {row row2 : Nat → Int32} {stk : List Int32} {v : Int32} (h : stkAt row stk) (h1 : row2 stk.length = v) (h2 : ∀ j, j < stk.length → row2 j = row j) : stkAt row2 (v :: stk) := by
  intro j hj
  rw [List.length_cons] at hj ⊢
  by_cases e : j = stk.length
  · subst e
    rw [h1, show stk.length + 1 - 1 - stk.length = 0 by omega]; rfl
  · have hj2 : j < stk.length := by omega
    rw [h2 j hj2, h j hj2, show stk.length + 1 - 1 - j = (stk.length - 1 - j) + 1 by omega, List.getD_cons_succ]
theorem stkAt.pop {row : Nat → Int32} {stk : List Int32} {v : Int32} (h : stkAt row (v :: stk)) : row stk.length = v ∧ stkAt row stk := by
  refine ⟨?_, fun j hj => ?_⟩
  · rw [h stk.length (by simp)]; simp
  · rw [h j (by simp; omega)]
    rw [List.length_cons, show stk.length + 1 - 1 - j = (stk.length - 1 - j) + 1 by omega, List.getD_cons_succ]
theorem stkAt.kept {row row2 : Nat → Int32} {stk : List Int32} (h : stkAt row stk) (h2 : ∀ j, j < stk.length → row2 j = row j) : stkAt row2 stk := fun j hj => by rw [h2 j hj, h j hj]
theorem s_X2_isName {x : Int32} {I : sw_I} {J : sw_J} {Q : Int32 → sw_I → sw_J → Prop} (h : Q (if nmP x then 1 else 0) I J) : wp_X2_isName x I J Q := by
  unfold wp_X2_isName wB_X2_isName_42
  by_cases c : nmP x
  · rw [if_pos c] at h
    rcases c with c | c | c | c | c | c | c <;> subst c <;> simp [sw_if, h]
  · rw [if_neg c] at h
    simp only [nmP, not_or] at c
    obtain ⟨c1, c2, c3, c4, c5, c6, c7⟩ := c
    simp [sw_if, c1, c2, c3, c4, c5, c6, c7, h]
theorem s_X2_joined {o a b : Int32} {I : sw_I} {J : sw_J} {Q : Int32 → sw_I → sw_J → Prop} (h : Q (opF o a b) I J) : wp_X2_joined o a b I J Q := by
  unfold wp_X2_joined
  unfold opF at h
  repeat' (refine ⟨fun c => ?_, fun c => ?_⟩) <;> simp_all
theorem s_X2_named {c f : Int32} {k : Nat} (hf : f = nI k) (hk : k < 9) (hn : nmP c) {I : sw_I} {J : sw_J} {Q : Int32 → sw_I → sw_J → Prop} (h : Q (nmF (I 11) (I 12) (I 10 2) (I 10 3) (I 10 4) f c) I J) : wp_X2_named c f I J Q := by
  have h1 : ¬ f < 0 := by rw [hf]; exact nI_pos (by omega)
  have h2 : f < 9 := by rw [hf]; exact nI_lt (b := 9) hk (by decide)
  have h3 : vp_in f 9 := by rw [hf]; exact vp0 hk (by decide)
  unfold wp_X2_named
  unfold nmF at h
  by_cases q : f < I 10 3
  · rcases hn with c | c | c | c | c | c | c <;> subst c <;> simp [sw_if, h1, h2, h3, q] at h ⊢ <;> exact h
  · rcases hn with c | c | c | c | c | c | c <;> subst c <;> simp [sw_if, h1, h2, h3, q] at h ⊢ <;> exact h
abbrev envX (I : sw_I) (f : Int32) : Int32 → Int32 := nmF (I 11) (I 12) (I 10 2) (I 10 3) (I 10 4) f
theorem envX_eq {I I2 : sw_I} {f : Int32} (h : eqx [9] I I2) : envX I2 f = envX I f := by
  unfold envX
  rw [h _ (by decide), h _ (by decide), h _ (by decide)]
theorem s_X2_worth_loop {k9 n : Nat} {f : Int32} (hf : f = nI k9) (hk9 : k9 < 9) {I : sw_I} {J : sw_J} {Q : Int32 → sw_I → sw_J → Prop} (hn : I 6 3 = nI n) (hw : lwW (I 7) n)
    (h : ∀ I2, eqx [9] I I2 → Q ((lwR (envX I f) (I 7) n).headD 0) I2 J) :
    ∀ (d k : Nat) (I2 : sw_I), k + d = n → eqx [9] I I2 → stkAt (I2 9) (lwR (envX I f) (I 7) k) → wl_X2_worth_5 Q (d + 1) f (nI (lwR (envX I f) (I 7) k).length) (nI k) I2 J := by
  have hn40 := hw.2.2
  intro d
  induction d with
  | zero =>
    intro k I2 hk he hst
    obtain rfl : k = n := by omega
    show wb_X2_worth_5 _ Q _ _ _ I2 J
    unfold wb_X2_worth_5
    have e1 : I2 6 3 = nI k := by rw [he.at (by decide)]; exact hn
    rw [sw_if_f (by rw [e1]; exact nI_nlt (Nat.le_refl _) (by omega))]
    have hl := lwR_len (env := envX I f) hw k (Nat.le_refl _)
    rw [hw.2.1] at hl
    match hs : lwR (envX I f) (I 7) k with
    | [] => rw [hs] at hl; cases hl
    | [r] =>
      rw [hs] at hst
      have h0 := hst 0 (by simp)
      have h1 := h I2 he
      rw [hs] at h1
      show Q (I2 9 0) I2 J
      rw [h0]; exact h1
    | a :: b :: s => rw [hs] at hl; simp at hl
  | succ d ih =>
    intro k I2 hk he hst
    have hkn : k < n := by omega
    have hlen := lwR_len (env := envX I f) hw k (by omega)
    have hle := lwD_le (I 7) k
    have hok := hw.1 k hkn
    show wb_X2_worth_5 _ Q _ _ _ I2 J
    unfold wb_X2_worth_5
    have e1 : I2 6 3 = nI n := by rw [he.at (by decide)]; exact hn
    rw [sw_if_t (by rw [e1]; exact nI_lt hkn (by omega))]
    refine ⟨vp0 (by omega) (by decide), fun y hy => ?_⟩
    rw [nI_clamp (by omega), he.at (by decide)] at hy
    subst hy
    have nxt : ∀ I3, eqx [9] I I3 → stkAt (I3 9) (lwR (envX I f) (I 7) (k + 1)) → ∀ t, t = nI (lwR (envX I f) (I 7) (k + 1)).length → wB_X2_worth_138 (wl_X2_worth_5 Q (d + 1)) Q f t (nI k) I3 J := by
      intro I3 h3 h4 t ht y hy
      rw [hy, nI_1, ht]
      exact ih (k + 1) I3 (by omega) h3 h4
    have push : ∀ v, lwR (envX I f) (I 7) (k + 1) = v :: lwR (envX I f) (I 7) k → vp_in (nI (lwR (envX I f) (I 7) k).length) 40 ∧ ∀ I3 : sw_I, I3 = sw_up I2 9 (nI (lwR (envX I f) (I 7) k).length).toNatClampNeg v → ∀ y3 : Int32, y3 = nI (lwR (envX I f) (I 7) k).length + 1 → wB_X2_worth_138 (wl_X2_worth_5 Q (d + 1)) Q f y3 (nI k) I3 J := by
      intro v hv
      refine ⟨vp0 (by omega) (by decide), fun I3 h3 y3 hy3 => ?_⟩
      rw [nI_clamp (by omega)] at h3
      refine nxt I3 (by rw [h3]; exact he.up (by simp) _ _) ?_ y3 (by rw [hy3, nI_1, hv]; rfl)
      rw [hv]
      exact hst.push (by rw [h3, sw_up_same]) (fun j hj => by rw [h3, sw_up_slot _ _ _ _ (by omega)])
    by_cases c1 : I 7 k < 0
    · rw [sw_if_t c1]
      refine s_X2_isName ?_
      by_cases c2 : nmP (-(I 7 k))
      · rw [if_pos c2, sw_if_f (by decide)]
        refine s_X2_named hf hk9 c2 ?_
        have e2 := congrFun (envX_eq (f := f) he) (-(I 7 k))
        unfold envX at e2
        rw [e2]
        exact push _ (by show lwS _ _ _ = _; unfold lwS; rw [if_pos c1, if_pos c2])
      · rw [if_neg c2, sw_if_t rfl]
        obtain ⟨h3, h4⟩ := hok c1 c2
        by_cases c3 : I 7 k = -126
        · rw [sw_if_t c3]
          have h5 := h3 c3
          rw [← hlen] at h5
          have hv : lwR (envX I f) (I 7) (k + 1) = (match lwR (envX I f) (I 7) k with | a :: s => -a :: s | [] => []) := by show lwS _ _ _ = _; unfold lwS; rw [if_pos c1, if_neg c2, if_pos c3]
          match hs : lwR (envX I f) (I 7) k with
          | [] => simp [hs] at h5
          | a :: s =>
            rw [hs] at hst hv hlen
            obtain ⟨p1, p2⟩ := hst.pop
            rw [List.length_cons] at hlen ⊢
            rw [sw_if_t (show (0 : Int32) < nI (s.length + 1) from nI_lt (a := 0) (by omega) (by omega)), nI_pred, nI_clamp (by omega)]
            refine ⟨vp0 (by omega) (by decide), vp0 (by omega) (by decide), fun I3 h6 => ?_⟩
            refine nxt I3 (by rw [h6]; exact he.up (by simp) _ _) ?_ _ (by rw [hv]; rfl)
            rw [hv]
            exact p2.push (by rw [h6, sw_up_same, p1]) (fun j hj => by rw [h6, sw_up_slot _ _ _ _ (by omega)])
        · rw [sw_if_f c3]
          unfold wB_X2_worth_102
          have h5 := h4 c3
          rw [← hlen] at h5
          have hv : lwR (envX I f) (I 7) (k + 1) = (match lwR (envX I f) (I 7) k with | b :: a :: s => opF (-(I 7 k)) a b :: s | s => s) := by show lwS _ _ _ = _; unfold lwS; rw [if_pos c1, if_neg c2, if_neg c3]
          match hs : lwR (envX I f) (I 7) k with
          | [] => simp [hs] at h5
          | [a] => simp [hs] at h5
          | b :: a :: s =>
            rw [hs] at hst hv hlen
            obtain ⟨p1, p2⟩ := hst.pop
            obtain ⟨p3, p4⟩ := p2.pop
            rw [List.length_cons] at p1
            rw [List.length_cons, List.length_cons] at hlen ⊢
            rw [sw_if_t (show (1 : Int32) < nI (s.length + 1 + 1) from nI_lt (a := 1) (by omega) (by omega))]
            intro y hy
            rw [pk_m1] at hy
            subst hy
            rw [nI_pred, nI_clamp (by omega), nI_clamp (by omega)]
            refine ⟨vp0 (by omega) (by decide), vp0 (by omega) (by decide), ?_⟩
            refine s_X2_joined ?_
            refine ⟨vp0 (by omega) (by decide), fun I3 h6 => ?_⟩
            refine nxt I3 (by rw [h6]; exact he.up (by simp) _ _) ?_ _ (by rw [hv]; rfl)
            rw [hv]
            exact p4.push (by rw [h6, sw_up_same, p1, p3]) (fun j hj => by rw [h6, sw_up_slot _ _ _ _ (by omega)])
    · rw [sw_if_f c1]
      exact push _ (by show lwS _ _ _ = _; unfold lwS; rw [if_neg c1])
theorem s_X2_worth {k9 n : Nat} {f : Int32} (hf : f = nI k9) (hk9 : k9 < 9) {I : sw_I} {J : sw_J} {Q : Int32 → sw_I → sw_J → Prop} (hn : I 6 3 = nI n) (hw : lwW (I 7) n)
    (h : ∀ I2, eqx [9] I I2 → Q ((lwR (envX I f) (I 7) n).headD 0) I2 J) : wp_X2_worth f I J Q :=
  ⟨n + 1, s_X2_worth_loop hf hk9 hn hw h n 0 I (by omega) eqx.rf (fun j hj => absurd hj (Nat.not_lt_zero j))⟩
