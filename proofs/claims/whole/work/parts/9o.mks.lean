/-! making: what lies where, and the first values -/
def mk_K (k : Nat) : Nat := sw_K0.getD k 99
def mk_N (k : Nat) : Nat := sw_N0.getD k 0
def mk_R (k j : Nat) : Option Nat := (sw_R0.getD k []).getD j none
def mk_M : List Nat := [14, 15, 18, 19, 24, 25, 28, 29, 32, 33, 36, 37, 40, 41, 44, 45, 48, 49, 52, 53, 56, 57, 60, 61, 64, 65, 68, 69, 72, 73, 76, 77, 80, 81, 84, 85, 88, 89, 92, 93, 96, 97, 100, 101, 104, 105, 114, 115, 122, 123, 129, 130, 133, 134, 137, 138]
def mk_T : List (Nat × List Int32) := [(3, [2, -1]), (6, [0, 0, 0, 1]), (7, [-119]), (140, [0, 0, 0, 2, 0, -1])]
def mk_I (k j : Nat) : Int32 := if mk_M.contains k then -1 else ((mk_T.lookup k).getD []).getD j 0
abbrev mk_G (n : Nat) (R : Nat → Nat → Option Nat) : sw_G := (some n, List.range n, mk_K, mk_N, R)
abbrev mk_RR : Type := Nat → Nat → Option Nat
abbrev mk_O : Type := List (Nat × List (Option Nat) × List Int32)
/-- cells from n on are not there yet -/
def mk_Z (n : Nat) (R : mk_RR) (I : sw_I) : Prop := ∀ k, n ≤ k → ∀ j, R k j = none ∧ I k j = 0
/-- what a constructor at a leaves, up to e -/
def mkP (a e : Nat) (R R' : mk_RR) (I I' : sw_I) : Prop := (∀ k, k < a → R' k = R k ∧ I' k = I k) ∧ (∀ k, a ≤ k → k < e → (∀ j, R' k j = mk_R k j) ∧ ∀ j, j < mk_N k → I' k j = mk_I k j) ∧ mk_Z e R' I'
/-- amid a constructor: o are the cells under way -/
def mkS (a n : Nat) (o : mk_O) (R R' : mk_RR) (I I' : sw_I) : Prop :=
  (∀ k, k < a → R' k = R k ∧ I' k = I k) ∧ (∀ k, a ≤ k → k < n → o.lookup k = none → (∀ j, R' k j = mk_R k j) ∧ ∀ j, j < mk_N k → I' k j = mk_I k j) ∧
  (∀ k x, o.lookup k = some x → (a ≤ k ∧ k < n) ∧ (∀ j, R' k j = x.1.getD j none) ∧ ∀ j, I' k j = x.2.getD j 0) ∧ mk_Z n R' I'
theorem lookup_c {k c : Nat} {x : List (Option Nat) × List Int32} {o : mk_O} : List.lookup k ((c, x) :: o) = if k = c then some x else o.lookup k := by
  rw [List.lookup_cons]
  by_cases h : k = c
  · subst h; simp
  · have : (k == c) = false := by simp [h]
    rw [this, if_neg h]
theorem getD_rep {α : Type} (N j : Nat) (v : α) : (List.replicate N v).getD j v = v := by
  rw [List.getD_eq_getElem?_getD, List.getElem?_replicate]
  split <;> rfl
theorem getD_set {α : Type} (xs : List α) (k j : Nat) (v d : α) (h : k < xs.length) : (xs.set k v).getD j d = if j = k then v else xs.getD j d := by
  rw [List.getD_eq_getElem?_getD, List.getD_eq_getElem?_getD, List.getElem?_set]
  by_cases e : k = j
  · subst e; simp [h]
  · rw [if_neg e, if_neg (fun q => e q.symm)]
theorem mkS.start {a N : Nat} {R : mk_RR} {I : sw_I} (h : mk_Z a R I) : mkS a (a + 1) [(a, List.replicate N none, List.replicate N 0)] R R I I := by
  refine ⟨fun _ _ => ⟨rfl, rfl⟩, fun k h1 h2 h3 => ?_, fun k x hx => ?_, fun k hk j => h k (by omega) j⟩
  · rw [lookup_c, if_pos (by omega)] at h3; cases h3
  · rw [lookup_c] at hx
    by_cases c : k = a
    · rw [if_pos c] at hx
      cases hx
      refine ⟨by omega, fun j => ?_, fun j => ?_⟩
      · rw [getD_rep]; exact (h k (by omega) j).1
      · rw [getD_rep]; exact (h k (by omega) j).2
    · rw [if_neg c] at hx; cases hx
theorem mkS.new {a n : Nat} {o : mk_O} {R R' : mk_RR} {I I' : sw_I} (h : mkS a n o R R' I I') (h1 : ∀ j, mk_R n j = none) (h2 : ∀ j, j < mk_N n → mk_I n j = 0) : mkS a (n + 1) o R R' I I' := by
  refine ⟨h.1, fun k k1 k2 k3 => ?_, fun k x hx => ?_, fun k hk j => h.2.2.2 k (by omega) j⟩
  · by_cases c : k = n
    · subst c
      exact ⟨fun j => by rw [h1]; exact (h.2.2.2 k (Nat.le_refl _) j).1, fun j hj => by rw [h2 j hj]; exact (h.2.2.2 k (Nat.le_refl _) j).2⟩
    · exact h.2.1 k k1 (by omega) k3
  · obtain ⟨q1, q2⟩ := h.2.2.1 k x hx
    exact ⟨by omega, q2⟩
theorem mkS.opn {a n N : Nat} {o : mk_O} {R R' : mk_RR} {I I' : sw_I} (ha : a ≤ n) (h : mkS a n o R R' I I') : mkS a (n + 1) ((n, List.replicate N none, List.replicate N 0) :: o) R R' I I' := by
  refine ⟨h.1, fun k k1 k2 k3 => ?_, fun k x hx => ?_, fun k hk j => h.2.2.2 k (by omega) j⟩
  · rw [lookup_c] at k3
    by_cases c : k = n
    · rw [if_pos c] at k3; cases k3
    · rw [if_neg c] at k3; exact h.2.1 k k1 (by omega) k3
  · rw [lookup_c] at hx
    by_cases c : k = n
    · rw [if_pos c] at hx
      cases hx
      refine ⟨by omega, fun j => ?_, fun j => ?_⟩
      · rw [getD_rep]; exact (h.2.2.2 k (by omega) j).1
      · rw [getD_rep]; exact (h.2.2.2 k (by omega) j).2
    · rw [if_neg c] at hx
      obtain ⟨q1, q2⟩ := h.2.2.1 k x hx
      exact ⟨by omega, q2⟩
theorem mkS.putR {a n c k b : Nat} {o : mk_O} {x : List (Option Nat) × List Int32} {R R' : mk_RR} {I I' : sw_I} (h : mkS a n o R R' I I') (hx : o.lookup c = some x) (hk : k < x.1.length) : mkS a n ((c, x.1.set k (some b), x.2) :: o) R (sw_up R' c k (some b)) I I' := by
  obtain ⟨⟨c1, c2⟩, c3, c4⟩ := h.2.2.1 c x hx
  refine ⟨fun i hi => ?_, fun i i1 i2 i3 => ?_, fun i y hy => ?_, fun i hi j => ?_⟩
  · rw [sw_up_row _ _ _ (by omega)]; exact h.1 i hi
  · rw [lookup_c] at i3
    by_cases q : i = c
    · rw [if_pos q] at i3; cases i3
    · rw [if_neg q] at i3
      rw [sw_up_row _ _ _ q]; exact h.2.1 i i1 i2 i3
  · rw [lookup_c] at hy
    by_cases q : i = c
    · rw [if_pos q] at hy
      cases hy
      subst q
      refine ⟨⟨c1, c2⟩, fun j => ?_, c4⟩
      show _ = (x.1.set k (some b)).getD j none
      rw [getD_set _ _ _ _ _ hk]
      by_cases w : j = k
      · rw [w, sw_up_same, if_pos rfl]
      · rw [sw_up_slot _ _ _ _ w, if_neg w]; exact c3 j
    · rw [if_neg q] at hy
      rw [sw_up_row _ _ _ q]; exact h.2.2.1 i y hy
  · rw [sw_up_row _ _ _ (by omega)]; exact h.2.2.2 i hi j
theorem mkS.putI {a n c k : Nat} {v : Int32} {o : mk_O} {x : List (Option Nat) × List Int32} {R R' : mk_RR} {I I' : sw_I} (h : mkS a n o R R' I I') (hx : o.lookup c = some x) (hk : k < x.2.length) : mkS a n ((c, x.1, x.2.set k v) :: o) R R' I (sw_up I' c k v) := by
  obtain ⟨⟨c1, c2⟩, c3, c4⟩ := h.2.2.1 c x hx
  refine ⟨fun i hi => ?_, fun i i1 i2 i3 => ?_, fun i y hy => ?_, fun i hi j => ?_⟩
  · rw [sw_up_row _ _ _ (by omega)]; exact h.1 i hi
  · rw [lookup_c] at i3
    by_cases q : i = c
    · rw [if_pos q] at i3; cases i3
    · rw [if_neg q] at i3
      rw [sw_up_row _ _ _ q]; exact h.2.1 i i1 i2 i3
  · rw [lookup_c] at hy
    by_cases q : i = c
    · rw [if_pos q] at hy
      cases hy
      subst q
      refine ⟨⟨c1, c2⟩, c3, fun j => ?_⟩
      show _ = (x.2.set k v).getD j 0
      rw [getD_set _ _ _ _ _ hk]
      by_cases w : j = k
      · rw [w, sw_up_same, if_pos rfl]
      · rw [sw_up_slot _ _ _ _ w, if_neg w]; exact c4 j
    · rw [if_neg q] at hy
      rw [sw_up_row _ _ _ q]; exact h.2.2.1 i y hy
  · rw [sw_up_row _ _ _ (by omega)]; exact h.2.2.2 i hi j
theorem mkS.sub {a b e : Nat} {o : mk_O} {R R1 R2 : mk_RR} {I I1 I2 : sw_I} (h : mkS a b o R R1 I I1) (hp : mkP b e R1 R2 I1 I2) (hab : a ≤ b) (hbe : b < e) : mkS a e o R R2 I I2 := by
  refine ⟨fun k hk => ?_, fun k k1 k2 k3 => ?_, fun k x hx => ?_, hp.2.2⟩
  · rw [(hp.1 k (by omega)).1, (hp.1 k (by omega)).2]; exact h.1 k hk
  · by_cases c : k < b
    · rw [(hp.1 k c).1, (hp.1 k c).2]; exact h.2.1 k k1 c k3
    · exact hp.2.1 k (by omega) k2
  · obtain ⟨⟨q1, q2⟩, q3⟩ := h.2.2.1 k x hx
    rw [(hp.1 k q2).1, (hp.1 k q2).2]
    exact ⟨by omega, q3⟩
theorem mkS.done {a e : Nat} {o : mk_O} {R R' : mk_RR} {I I' : sw_I} (h : mkS a e o R R' I I') (hd : ∀ k x, o.lookup k = some x → (∀ j, x.1.getD j none = mk_R k j) ∧ ∀ j, j < mk_N k → x.2.getD j 0 = mk_I k j) : mkP a e R R' I I' := by
  refine ⟨h.1, fun k k1 k2 => ?_, h.2.2.2⟩
  cases c : o.lookup k with
  | none => exact h.2.1 k k1 k2 c
  | some x =>
    obtain ⟨-, q2, q3⟩ := h.2.2.1 k x c
    obtain ⟨d1, d2⟩ := hd k x c
    exact ⟨fun j => (q2 j).trans (d1 j), fun j hj => (q3 j).trans (d2 j hj)⟩
