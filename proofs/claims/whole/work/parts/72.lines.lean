/-! house: lines, one after another -/
def lnE (T : Nat → Int32) (fl to p : Nat) : Option Nat :=
  if ¬ (p < to ∧ flB fl (T p) = true) then some p
  else if ¬ (p + 1 < to ∧ T (p + 1) = 62) then some (p + 1)
  else if ¬ (p + 2 < to ∧ (T (p + 2) = 45 ∨ flB fl (T (p + 2)) = true)) then some (p + 2)
  else if ¬ (p + 3 < to ∧ T (p + 3) = 64) then some (p + 3)
  else if ¬ (p + 4 < to ∧ flB fl (T (p + 4)) = true) then some (p + 4)
  else none
def lnI (T : Nat → Int32) (to : Nat) (lift : Int32) (p : Nat) : Bool := decide (p + 5 < to ∧ T (p + 4) - 48 = lift ∧ T (p + 5) = 33)
def lnQ (T : Nat → Int32) (to : Nat) (lift : Int32) (p : Nat) : Nat := if lnI T to lift p then p + 6 else p + 5
def hsP (T : Nat → Int32) (fl to : Nat) (lift : Int32) : Nat → Nat → Bool × Nat × List Nat
  | 0, p => (false, p, [])
  | d + 1, p => match lnE T fl to p with
    | some e => (false, e, [])
    | none => if lnQ T to lift p < to ∧ T (lnQ T to lift p) = 59 then ((hsP T fl to lift d (lnQ T to lift p + 1)).1, (hsP T fl to lift d (lnQ T to lift p + 1)).2.1, p :: (hsP T fl to lift d (lnQ T to lift p + 1)).2.2) else (true, lnQ T to lift p, [p])
def hsV (t lim : Nat) (r : Bool × Nat) : Int32 := if r.1 = true ∧ r.2 = min t lim then (if lim < t then nI lim else -1) else nI r.2
section AU
variable {T : Nat → Int32} {fl n t : Nat} {lift : Int32}
theorem au_s {place l p : Nat} (hp : p < min t 76) (h0 : ¬ (place = 0 ∧ 10 < n + (l + 1))) : auM T fl n lift (min t 76 - p) place l p = match npN fl (decide (pvS T p - 48 = lift)) place (T p) with
    | none => (some p, 0)
    | some r => auM T fl n lift (min t 76 - (p + 1)) r (if place = 0 then l + 1 else l) (p + 1) := by
  rw [show min t 76 - p = (min t 76 - (p + 1)) + 1 by omega]
  show (if place = 0 ∧ 10 < n + (l + 1) then _ else _) = _
  rw [if_neg h0]
  cases npN fl (decide (pvS T p - 48 = lift)) place (T p) <;> rfl
theorem au_e {place l p : Nat} (hp : p = min t 76) : auV t 76 (auM T fl n lift (min t 76 - p) place l p) = if 5 ≤ place then hsV t 76 (true, p) else nI p := by
  rw [show min t 76 - p = 0 by omega]
  have e : auM T fl n lift 0 place l p = (none, if 5 ≤ place then 1 else 0) := rfl
  rw [e]
  by_cases c : 5 ≤ place
  · rw [if_pos c, if_pos c]
    unfold hsV
    rw [if_pos ⟨rfl, hp⟩]; rfl
  · rw [if_neg c, if_neg c]
    show (if 76 < t then nI 76 else nI t) = nI p
    rw [hp]
    by_cases c2 : 76 < t
    · rw [if_pos c2]; congr 1; omega
    · rw [if_neg c2]; congr 1; omega
/-- a place in the midst of a line -/
theorem au_mid {place l p : Nat} (hpl : place ≤ 4) (h0 : ¬ (place = 0 ∧ 10 < n + (l + 1))) (hp : p ≤ min t 76) {b : Prop} [Decidable b] (hnp : npN fl (decide (pvS T p - 48 = lift)) place (T p) = if b then some (place + 1) else none) : auV t 76 (auM T fl n lift (min t 76 - p) place l p) = if ¬ (p < min t 76 ∧ b) then nI p else auV t 76 (auM T fl n lift (min t 76 - (p + 1)) (place + 1) (if place = 0 then l + 1 else l) (p + 1)) := by
  by_cases c : p < min t 76
  · rw [au_s c h0, hnp]
    by_cases cb : b
    · rw [if_pos cb, if_neg (show ¬ ¬ (p < min t 76 ∧ b) from fun q => q ⟨c, cb⟩)]
    · rw [if_neg cb, if_pos (show ¬ (p < min t 76 ∧ b) from fun q => cb q.2)]; rfl
  · rw [au_e (by omega), if_neg (show ¬ 5 ≤ place by omega), if_pos (show ¬ (p < min t 76 ∧ b) from fun q => c q.1)]
theorem au_hs : ∀ d l p, n + l + d = 10 → p ≤ min t 76 → auV t 76 (auM T fl n lift (min t 76 - p) 0 l p) = hsV t 76 ((hsP T fl (min t 76) lift d p).1, (hsP T fl (min t 76) lift d p).2.1)
  | 0, l, p, hd, hp => by
    show _ = hsV t 76 (false, p)
    have e2 : hsV t 76 (false, p) = nI p := by unfold hsV; rw [if_neg (fun q => by cases q.1)]
    rw [e2]
    by_cases c : p < min t 76
    · rw [show min t 76 - p = (min t 76 - (p + 1)) + 1 by omega]
      show auV t 76 (if 0 = 0 ∧ 10 < n + (l + 1) then (some p, 0) else _) = _
      rw [if_pos ⟨rfl, by omega⟩]; rfl
    · rw [au_e (by omega), if_neg (by omega)]
  | d + 1, l, p, hd, hp => by
    have fail : ∀ e, hsV t 76 (false, e) = nI e := fun e => by unfold hsV; rw [if_neg (fun q => by cases q.1)]
    have go : ∀ x, (hsP T fl (min t 76) lift (d + 1) p) = x → (hsP T fl (min t 76) lift (d + 1) p) = (match lnE T fl (min t 76) p with
      | some e => (false, e, [])
      | none => if lnQ T (min t 76) lift p < min t 76 ∧ T (lnQ T (min t 76) lift p) = 59 then ((hsP T fl (min t 76) lift d (lnQ T (min t 76) lift p + 1)).1, (hsP T fl (min t 76) lift d (lnQ T (min t 76) lift p + 1)).2.1, p :: (hsP T fl (min t 76) lift d (lnQ T (min t 76) lift p + 1)).2.2) else (true, lnQ T (min t 76) lift p, [p])) := fun _ _ => rfl
    rw [go _ rfl]
    unfold lnE
    rw [au_mid (by omega) (by omega) hp (b := flB fl (T p) = true) (by unfold npN; rw [if_pos rfl])]
    by_cases k0 : ¬ (p < min t 76 ∧ flB fl (T p) = true)
    · rw [if_pos k0, if_pos k0]; exact (fail p).symm
    rw [if_neg k0, if_neg k0]
    have k0' := Classical.not_not.mp k0
    rw [au_mid (by omega) (by omega) (by omega) (b := T (p + 1) = 62) (by unfold npN; rw [if_neg (by omega), if_pos rfl])]
    by_cases k1 : ¬ (p + 1 < min t 76 ∧ T (p + 1) = 62)
    · rw [if_pos k1, if_pos k1]; exact (fail (p + 1)).symm
    rw [if_neg k1, if_neg k1]
    have k1' := Classical.not_not.mp k1
    rw [au_mid (by omega) (by omega) (by omega) (b := T (p + 1 + 1) = 45 ∨ flB fl (T (p + 1 + 1)) = true) (by unfold npN; rw [if_neg (by omega), if_neg (by omega), if_pos rfl])]
    by_cases k2 : ¬ (p + 2 < min t 76 ∧ (T (p + 2) = 45 ∨ flB fl (T (p + 2)) = true))
    · rw [if_pos k2, if_pos k2]; exact (fail (p + 2)).symm
    rw [if_neg k2, if_neg k2]
    have k2' := Classical.not_not.mp k2
    rw [au_mid (by omega) (by omega) (by omega) (b := T (p + 1 + 1 + 1) = 64) (by unfold npN; rw [if_neg (by omega), if_neg (by omega), if_neg (by omega), if_pos rfl])]
    by_cases k3 : ¬ (p + 3 < min t 76 ∧ T (p + 3) = 64)
    · rw [if_pos k3, if_pos k3]; exact (fail (p + 3)).symm
    rw [if_neg k3, if_neg k3]
    have k3' := Classical.not_not.mp k3
    rw [au_mid (by omega) (by omega) (by omega) (b := flB fl (T (p + 1 + 1 + 1 + 1)) = true) (by unfold npN; rw [if_neg (by omega), if_neg (by omega), if_neg (by omega), if_neg (by omega), if_pos rfl])]
    by_cases k4 : ¬ (p + 4 < min t 76 ∧ flB fl (T (p + 4)) = true)
    · rw [if_pos k4, if_pos k4]; exact (fail (p + 4)).symm
    rw [if_neg k4, if_neg k4]
    have k4' := Classical.not_not.mp k4
    show auV t 76 (auM T fl n lift (min t 76 - (p + 5)) 5 (l + 1) (p + 5)) = _
    -- behind the floor, and behind the !
    have semi : ∀ place q, 5 ≤ place → place ≤ 6 → q ≤ min t 76 → (∀ b, q < min t 76 → npN fl b place (T q) = if T q = 59 then some 0 else none) → q = lnQ T (min t 76) lift p → auV t 76 (auM T fl n lift (min t 76 - q) place (l + 1) q) = hsV t 76 ((if lnQ T (min t 76) lift p < min t 76 ∧ T (lnQ T (min t 76) lift p) = 59 then ((hsP T fl (min t 76) lift d (lnQ T (min t 76) lift p + 1)).1, (hsP T fl (min t 76) lift d (lnQ T (min t 76) lift p + 1)).2.1, p :: (hsP T fl (min t 76) lift d (lnQ T (min t 76) lift p + 1)).2.2) else (true, lnQ T (min t 76) lift p, [p])).1, (if lnQ T (min t 76) lift p < min t 76 ∧ T (lnQ T (min t 76) lift p) = 59 then ((hsP T fl (min t 76) lift d (lnQ T (min t 76) lift p + 1)).1, (hsP T fl (min t 76) lift d (lnQ T (min t 76) lift p + 1)).2.1, p :: (hsP T fl (min t 76) lift d (lnQ T (min t 76) lift p + 1)).2.2) else (true, lnQ T (min t 76) lift p, [p])).2.1) := by
      intro place q h5 h6 hq hnp eq
      rw [← eq]
      by_cases c : q < min t 76
      · rw [au_s c (by omega), hnp _ c]
        by_cases c9 : T q = 59
        · rw [if_pos c9, if_pos (show q < min t 76 ∧ T q = 59 from ⟨c, c9⟩), if_neg (show ¬ place = 0 by omega)]
          exact au_hs d (l + 1) (q + 1) (by omega) (by omega)
        · rw [if_neg c9, if_neg (show ¬ (q < min t 76 ∧ T q = 59) from fun z => c9 z.2)]
          show nI q = hsV t 76 (true, q)
          unfold hsV
          rw [if_neg (fun z => by have := z.2; dsimp only at this; omega)]
      · rw [au_e (by omega), if_pos h5, if_neg (show ¬ (q < min t 76 ∧ T q = 59) from fun z => c z.1)]
    by_cases ci : p + 5 < min t 76 ∧ T (p + 4) - 48 = lift ∧ T (p + 5) = 33
    · have eI : lnI T (min t 76) lift p = true := decide_eq_true ci
      have eQ : lnQ T (min t 76) lift p = p + 6 := by unfold lnQ; rw [eI]; rfl
      have pv : pvS T (p + 5) = T (p + 4) := by unfold pvS; rw [if_neg (by omega)]; rfl
      rw [au_s ci.1 (by omega), pv]
      have e6 : npN fl (decide (T (p + 4) - 48 = lift)) 5 (T (p + 5)) = some 6 := by
        unfold npN
        rw [if_neg (by omega), if_neg (by omega), if_neg (by omega), if_neg (by omega), if_neg (by omega), if_pos rfl, if_pos ⟨ci.2.2, decide_eq_true ci.2.1⟩]
      rw [e6]
      show auV t 76 (auM T fl n lift (min t 76 - (p + 5 + 1)) 6 (if 5 = 0 then _ else l + 1) (p + 5 + 1)) = _
      rw [if_neg (by omega)]
      exact semi 6 (p + 6) (by omega) (by omega) (by omega) (fun b _ => by
        unfold npN
        rw [if_neg (by omega), if_neg (by omega), if_neg (by omega), if_neg (by omega), if_neg (by omega), if_neg (by omega)]) eQ.symm
    · have eI : lnI T (min t 76) lift p = false := decide_eq_false ci
      have eQ : lnQ T (min t 76) lift p = p + 5 := by unfold lnQ; rw [eI]; rfl
      have pv : pvS T (p + 5) = T (p + 4) := by unfold pvS; rw [if_neg (by omega)]; rfl
      by_cases c5 : p + 5 < min t 76
      · refine Eq.trans ?_ (semi 6 (p + 5) (by omega) (by omega) (by omega) (fun b _ => by
          unfold npN
          rw [if_neg (by omega), if_neg (by omega), if_neg (by omega), if_neg (by omega), if_neg (by omega), if_neg (by omega)]) eQ.symm)
        rw [au_s c5 (by omega), au_s c5 (by omega), pv]
        have e5 : npN fl (decide (T (p + 4) - 48 = lift)) 5 (T (p + 5)) = npN fl (decide (T (p + 4) - 48 = lift)) 6 (T (p + 5)) := by
          unfold npN
          rw [if_neg (by omega), if_neg (by omega), if_neg (by omega), if_neg (by omega), if_neg (by omega), if_pos rfl, if_neg (fun z => ci ⟨c5, by simpa using z.2, z.1⟩)]
          rfl
        rw [e5, if_neg (by omega), if_neg (by omega)]
      · exact semi 5 (p + 5) (by omega) (by omega) (by omega) (fun b hb => absurd hb c5) eQ.symm
end AU
