/-! a table of places, looked through from a start on, round and round -/
def cNo (oc : Nat → Option Nat) : Nat → Nat
  | 0 => 0
  | k + 1 => cNo oc k + (if (oc k).isSome then 1 else 0)
theorem cNo_all {oc : Nat → Option Nat} : ∀ {k : Nat}, (∀ s, s < k → ¬ oc s = none) → cNo oc k = k
  | 0, _ => rfl
  | k + 1, h => by
    unfold cNo
    have h1 := h k (by omega)
    have h2 : (oc k).isSome = true := by
      cases hk : oc k
      · exact absurd hk h1
      · rfl
    rw [cNo_all (k := k) (fun s hs => h s (by omega)), if_pos h2]
theorem cNo_free {oc : Nat → Option Nat} {N : Nat} (h : cNo oc N < N) : ∃ s, s < N ∧ oc s = none := by
  by_cases c : ∃ s, s < N ∧ oc s = none
  · exact c
  · have := cNo_all (oc := oc) (k := N) (fun s hs q => c ⟨s, hs, q⟩); omega
def upO (oc : Nat → Option Nat) (s v : Nat) : Nat → Option Nat := fun x => if x = s then some v else oc x
theorem cNo_up {oc : Nat → Option Nat} {s v : Nat} : ∀ k, cNo (upO oc s v) k ≤ cNo oc k + (if s < k then 1 else 0)
  | 0 => Nat.zero_le _
  | k + 1 => by
    have := cNo_up (oc := oc) (s := s) (v := v) k
    unfold cNo
    by_cases c : k = s
    · have e : upO oc s v k = some v := by unfold upO; rw [if_pos c]
      rw [e]
      rw [if_neg (show ¬ s < k by omega)] at this
      rw [if_pos (show s < k + 1 by omega)]
      show _ + 1 ≤ _
      omega
    · have e : upO oc s v k = oc k := by unfold upO; rw [if_neg c]
      rw [e]
      by_cases c2 : s < k
      · rw [if_pos c2] at this; rw [if_pos (show s < k + 1 by omega)]; omega
      · rw [if_neg c2] at this; rw [if_neg (show ¬ s < k + 1 by omega)]; omega
theorem cNo_cong {oc oc2 : Nat → Option Nat} : ∀ {k : Nat}, (∀ s, s < k → oc2 s = oc s) → cNo oc2 k = cNo oc k
  | 0, _ => rfl
  | k + 1, h => by unfold cNo; rw [cNo_cong (k := k) (fun s hs => h s (by omega)), h k (by omega)]
def hsI (N : Nat) (h : Nat → Nat) (oc : Nat → Option Nat) (F : Nat → Nat) (f : Nat) : Prop :=
  (∀ s, s < N → ∀ j, oc s = some j → j < f) ∧
  (∀ j, j < f → ∃ d, d < N ∧ oc ((h (F j) + d) % N) = some j ∧ ∀ e, e < d → ¬ oc ((h (F j) + e) % N) = none) ∧
  cNo oc N ≤ f
theorem least_of {p : Nat → Prop} : ∀ N, (∃ d, d < N ∧ p d) → ∃ d, d < N ∧ p d ∧ ∀ e, e < d → ¬ p e
  | 0, h => by obtain ⟨d, hd, _⟩ := h; omega
  | N + 1, h => by
    by_cases c : ∃ d, d < N ∧ p d
    · obtain ⟨d, h1, h2, h3⟩ := least_of N c
      exact ⟨d, by omega, h2, h3⟩
    · obtain ⟨d, h1, h2⟩ := h
      have : d = N := by
        by_cases q : d = N
        · exact q
        · exact absurd ⟨d, by omega, h2⟩ c
      exact ⟨d, h1, h2, fun e he q => c ⟨e, by omega, q⟩⟩
def hsE (oc : Nat → Option Nat) (F : Nat → Nat) (K s : Nat) : Prop := oc s = none ∨ ∃ j, oc s = some j ∧ F j = K
theorem hs_find {N : Nat} {h : Nat → Nat} {oc : Nat → Option Nat} {F : Nat → Nat} {f : Nat} (hI : hsI N h oc F f) (hf : f < N) (K : Nat) (hK : h K < N) : ∃ d, d < N ∧ hsE oc F K ((h K + d) % N) ∧ ∀ e, e < d → ¬ hsE oc F K ((h K + e) % N) := by
  obtain ⟨s, hs, es⟩ := cNo_free (oc := oc) (N := N) (by have := hI.2.2; omega)
  refine least_of N ⟨(s + N - h K) % N, Nat.mod_lt _ (by omega), Or.inl ?_⟩
  have e : (h K + (s + N - h K) % N) % N = s := by
    rw [Nat.add_mod_mod, show h K + (s + N - h K) = s + N by omega, Nat.add_mod_right, Nat.mod_eq_of_lt hs]
  rw [e]; exact es
theorem hs_new {N : Nat} {h : Nat → Nat} {oc : Nat → Option Nat} {F : Nat → Nat} {f K d : Nat} (hI : hsI N h oc F f) (h0 : oc ((h K + d) % N) = none) (hm : ∀ e, e < d → ¬ hsE oc F K ((h K + e) % N)) : ∀ j, j < f → ¬ F j = K := by
  intro j hj e
  obtain ⟨d2, h2, o2, c2⟩ := hI.2.1 j hj
  rw [e] at o2 c2
  rcases Nat.lt_trichotomy d d2 with q | q | q
  · exact c2 d q h0
  · rw [q, o2] at h0; cases h0
  · exact hm d2 q (Or.inr ⟨j, o2, e⟩)
theorem hs_old {N : Nat} {h : Nat → Nat} {oc : Nat → Option Nat} {F : Nat → Nat} {f K s j : Nat} (hI : hsI N h oc F f) (hs : s < N) (h0 : oc s = some j) (e : F j = K) : ∃ j, j < f ∧ F j = K := ⟨j, hI.1 s hs j h0, e⟩
theorem hs_ins {N : Nat} {h : Nat → Nat} {oc : Nat → Option Nat} {F F2 : Nat → Nat} {f K d : Nat} (hI : hsI N h oc F f) (hd : d < N) (h0 : oc ((h K + d) % N) = none) (hm : ∀ e, e < d → ¬ oc ((h K + e) % N) = none) (hF : ∀ j, j < f → F2 j = F j) (hK : F2 f = K) : hsI N h (upO oc ((h K + d) % N) f) F2 (f + 1) := by
  have nn : ∀ x, ¬ oc x = none → ¬ upO oc ((h K + d) % N) f x = none := fun x hx q => by
    unfold upO at q
    split at q
    · cases q
    · exact hx q
  refine ⟨fun s hs j hj => ?_, fun j hj => ?_, ?_⟩
  · unfold upO at hj
    split at hj
    · cases hj; omega
    · have := hI.1 s hs j hj; omega
  · by_cases c : j = f
    · rw [c, hK]
      refine ⟨d, hd, ?_, fun e he => nn _ (hm e he)⟩
      unfold upO; rw [if_pos rfl]
    · rw [hF j (by omega)]
      obtain ⟨d2, h2, o2, c2⟩ := hI.2.1 j (by omega)
      refine ⟨d2, h2, ?_, fun e he => nn _ (c2 e he)⟩
      unfold upO
      rw [if_neg (fun q => by rw [q, h0] at o2; cases o2)]; exact o2
  · have := cNo_up (oc := oc) (s := (h K + d) % N) (v := f) N
    have := hI.2.2
    split at * <;> omega
theorem hs_cong {N : Nat} {h : Nat → Nat} {oc oc2 : Nat → Option Nat} {F F2 : Nat → Nat} {f : Nat} (hI : hsI N h oc F f) (hN : 0 < N) (ho : ∀ s, s < N → oc2 s = oc s) (hF : ∀ j, j < f → F2 j = F j) : hsI N h oc2 F2 f := by
  refine ⟨fun s hs j hj => hI.1 s hs j (by rw [← ho s hs]; exact hj), fun j hj => ?_, by rw [cNo_cong ho]; exact hI.2.2⟩
  rw [hF j hj]
  obtain ⟨d2, h2, o2, c2⟩ := hI.2.1 j hj
  exact ⟨d2, h2, by rw [ho _ (Nat.mod_lt _ hN)]; exact o2, fun e he => by rw [ho _ (Nat.mod_lt _ hN)]; exact c2 e he⟩
theorem hs_0 {N : Nat} {h : Nat → Nat} {oc : Nat → Option Nat} {F : Nat → Nat} (ho : ∀ s, s < N → oc s = none) : hsI N h oc F 0 := by
  refine ⟨fun s hs j hj => (by rw [ho s hs] at hj; cases hj), fun j hj => absurd hj (Nat.not_lt_zero _), ?_⟩
  have : ∀ k, k ≤ N → cNo oc k = 0 := fun k => by
    induction k with
    | zero => intro _; rfl
    | succ k ih => intro hk; unfold cNo; rw [ih (by omega), ho k (by omega)]; rfl
  rw [this N (Nat.le_refl _)]; omega
theorem mod_s {a e N : Nat} : ((a + e) % N + 1) % N = (a + (e + 1)) % N := by rw [Nat.mod_add_mod, Nat.add_assoc]
