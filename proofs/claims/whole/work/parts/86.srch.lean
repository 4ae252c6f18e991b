/-! the search by itself: states in the order in which they are found -/
abbrev En : Type := Nat × Nat × Nat × Nat
def geE (L : List En) (i : Nat) : En := L.getD i (0, 0, 0, 0)
abbrev kE (L : List En) (i : Nat) : Nat := (geE L i).1
abbrev pE (L : List En) (i : Nat) : Nat := (geE L i).2.1
abbrev sE (L : List En) (i : Nat) : Nat := (geE L i).2.2.1
abbrev fE (L : List En) (i : Nat) : Nat := (geE L i).2.2.2
theorem geE_app {L T : List En} {i : Nat} (h : i < L.length) : geE (L ++ T) i = geE L i := by
  unfold geE; simp [List.getD, List.getElem?_append_left h]
theorem geE_end {L : List En} {e : En} : geE (L ++ [e]) L.length = e := by
  unfold geE; simp [List.getD]
def kIn (L : List En) (K : Nat) : Prop := ∃ i, i < L.length ∧ kE L i = K
theorem kIn_dec (L : List En) (K : Nat) : kIn L K ↔ (L.any (fun x => x.1 == K)) = true := by
  unfold kIn
  rw [List.any_eq_true]
  constructor
  · intro ⟨i, hi, e⟩
    refine ⟨L[i], List.getElem_mem hi, ?_⟩
    have : geE L i = L[i] := by unfold geE; simp [List.getD, List.getElem?_eq_getElem hi]
    rw [← this]; simp; exact e
  · intro ⟨x, hx, e⟩
    obtain ⟨i, hi, ei⟩ := List.getElem_of_mem hx
    refine ⟨i, hi, ?_⟩
    have : geE L i = L[i] := by unfold geE; simp [List.getD, List.getElem?_eq_getElem hi]
    show (geE L i).1 = K
    rw [this, ei]; simpa using e
def kInB (L : List En) (K : Nat) : Bool := L.any (fun x => x.1 == K)
/-- states by one ride from one; the first that is wanted ends it -/
def goE (nx : Nat → Nat) (want : Nat → Bool) (par far : Nat) : List Nat → List En → Bool → Option Nat × List En × Bool
  | [], L, m => (none, L, m)
  | s :: S, L, m => if m = true then (none, L, m) else
      if kInB L (nx s) = true then goE nx want par far S L m else
      if 3000 ≤ L.length then goE nx want par far S L true else
      if want (nx s) = true then (some L.length, L ++ [(nx s, par, s, far)], m) else
      goE nx want par far S (L ++ [(nx s, par, s, far)]) m
theorem goE_m (nx : Nat → Nat) (want : Nat → Bool) (par far : Nat) : ∀ S L, goE nx want par far S L true = (none, L, true)
  | [], L => rfl
  | s :: S, L => by unfold goE; rw [if_pos rfl]
abbrev noW : Nat → Bool := fun _ => false
theorem goE_pre (nx : Nat → Nat) (wt : Nat → Bool) (par far : Nat) : ∀ S L m, ∃ T, (goE nx wt par far S L m).2.1 = L ++ T
  | [], L, m => ⟨[], by show L = L ++ []; rw [List.append_nil]⟩
  | s :: S, L, m => by
    unfold goE
    repeat' split
    · exact ⟨[], by rw [List.append_nil]⟩
    · exact goE_pre nx wt par far S L m
    · exact goE_pre nx wt par far S L true
    · exact ⟨_, rfl⟩
    · obtain ⟨T, hT⟩ := goE_pre nx wt par far S (L ++ [(nx s, par, s, far)]) m
      exact ⟨(nx s, par, s, far) :: T, by rw [hT, List.append_assoc]; rfl⟩
theorem goE_n (nx : Nat → Nat) (par far : Nat) : ∀ S L m, (goE nx noW par far S L m).1 = none
  | [], L, m => rfl
  | s :: S, L, m => by
    unfold goE
    repeat' split
    · rfl
    · exact goE_n nx par far S L m
    · exact goE_n nx par far S L true
    · rename_i h; exact absurd h Bool.false_ne_true
    · exact goE_n nx par far S _ m
/-- what both have of it -/
theorem goE_M (nx : Nat → Nat) (want : Nat → Bool) (par far : Nat) : ∀ S L m, (∃ T, (goE nx want par far S L m).2.1 = L ++ T) ∧
    ((goE nx want par far S L m).1 = none → goE nx noW par far S L m = goE nx want par far S L m ∧ ∀ i, L.length ≤ i → i < (goE nx want par far S L m).2.1.length → want (kE (goE nx want par far S L m).2.1 i) = false) ∧
    (∀ g, (goE nx want par far S L m).1 = some g → (goE nx noW par far S L m).1 = none ∧ (∃ T, (goE nx noW par far S L m).2.1 = (goE nx want par far S L m).2.1 ++ T) ∧ L.length ≤ g ∧ g + 1 = (goE nx want par far S L m).2.1.length ∧ want (kE (goE nx want par far S L m).2.1 g) = true ∧ ∀ i, L.length ≤ i → i < g → want (kE (goE nx want par far S L m).2.1 i) = false)
  | [], L, m => ⟨⟨[], by show L = L ++ []; rw [List.append_nil]⟩, fun _ => ⟨rfl, fun i h1 h2 => by have : i < L.length := h2; omega⟩, fun g hg => by cases hg⟩
  | s :: S, L, m => by
    have pre : ∀ S L m, ∃ T, (goE nx noW par far S L m).2.1 = L ++ T := goE_pre nx noW par far
    cases m with
    | true =>
      rw [goE_m, goE_m]
      exact ⟨⟨[], by rw [List.append_nil]⟩, fun _ => ⟨rfl, fun i h1 h2 => by have : i < L.length := h2; omega⟩, fun g hg => by cases hg⟩
    | false =>
      have e : ∀ wt, goE nx wt par far (s :: S) L false = (if kInB L (nx s) = true then goE nx wt par far S L false else
        if 3000 ≤ L.length then goE nx wt par far S L true else
        if wt (nx s) = true then (some L.length, L ++ [(nx s, par, s, far)], false) else
        goE nx wt par far S (L ++ [(nx s, par, s, far)]) false) := fun wt => by
          show (if false = true then _ else _) = _
          rw [if_neg (by decide)]
      rw [e want, e noW]
      by_cases c1 : kInB L (nx s) = true
      · rw [if_pos c1, if_pos c1]; exact goE_M nx want par far S L false
      rw [if_neg c1, if_neg c1]
      by_cases c2 : 3000 ≤ L.length
      · rw [if_pos c2, if_pos c2]; exact goE_M nx want par far S L true
      rw [if_neg c2, if_neg c2, if_neg (show ¬ noW (nx s) = true from Bool.false_ne_true)]
      by_cases c3 : want (nx s) = true
      · rw [if_pos c3]
        refine ⟨⟨_, rfl⟩, (fun q => by cases q), fun g hg => ?_⟩
        have hg2 : L.length = g := by injection hg
        refine ⟨goE_n nx par far S _ _, pre S _ _, by omega, by show g + 1 = (L ++ [_]).length; rw [List.length_append]; simp; omega, ?_, fun i h1 h2 => by omega⟩
        show want (kE (L ++ [(nx s, par, s, far)]) g) = true
        rw [← hg2]; unfold kE; rw [geE_end]; exact c3
      · rw [if_neg c3]
        obtain ⟨⟨T, hT⟩, h2, h3⟩ := goE_M nx want par far S (L ++ [(nx s, par, s, far)]) false
        have hx : ∀ i, i = L.length → want (kE (goE nx want par far S (L ++ [(nx s, par, s, far)]) false).2.1 i) = false := fun i hi => by
          rw [hT, hi]; unfold kE
          rw [geE_app (by rw [List.length_append]; simp), geE_end]
          cases hw : want (nx s)
          · rfl
          · exact absurd hw c3
        have hl : (L ++ [(nx s, par, s, far)]).length = L.length + 1 := by rw [List.length_append]; rfl
        rw [hl] at h2 h3
        refine ⟨⟨(nx s, par, s, far) :: T, by rw [hT, List.append_assoc]; rfl⟩, fun q => ⟨(h2 q).1, fun i i1 i2 => ?_⟩, fun g hg => ?_⟩
        · by_cases ci : i = L.length
          · exact hx i ci
          · exact (h2 q).2 i (by omega) i2
        · obtain ⟨a1, a2, a3, a4, a5, a6⟩ := h3 g hg
          refine ⟨a1, a2, by omega, a4, a5, fun i i1 i2 => ?_⟩
          by_cases ci : i = L.length
          · exact hx i ci
          · exact a6 i (by omega) i2
theorem goE_noW (nx : Nat → Nat) (par far : Nat) (S : List Nat) (L : List En) (m : Bool) : (goE nx noW par far S L m).1 = none := goE_n nx par far S L m
/-- how the states hang together; k: the next from which it goes on -/
def wfL (n fl k : Nat) (L : List En) : Prop := 0 < L.length ∧ L.length ≤ 3000 ∧ (∀ i, i < L.length → vK n fl (kE L i) ∧ sE L i < 1024 ∧ (0 < i → pE L i < i ∧ fE L i = fE L (pE L i) + 1)) ∧ fE L 0 = 0 ∧ pE L 0 = 0 ∧ (∀ i j, i ≤ j → j < L.length → fE L i ≤ fE L j) ∧ (∀ j, k < L.length → j < L.length → fE L j ≤ fE L k + 1) ∧ ∀ i, i < L.length → fE L i ≤ i
theorem wfL_app {n fl k s K : Nat} {L : List En} (h : wfL n fl k L) (hk : k < L.length) (hl : L.length < 3000) (hK : vK n fl K) (hs : s < 1024) : wfL n fl k (L ++ [(K, k, s, fE L k + 1)]) := by
  obtain ⟨h1, h2, h3, h4, h4b, h5, h6, h7⟩ := h
  have hlen : (L ++ [(K, k, s, fE L k + 1)]).length = L.length + 1 := by rw [List.length_append]; rfl
  have old : ∀ i, i < L.length → geE (L ++ [(K, k, s, fE L k + 1)]) i = geE L i := fun i hi => geE_app hi
  have new : geE (L ++ [(K, k, s, fE L k + 1)]) L.length = (K, k, s, fE L k + 1) := geE_end
  have hfk := h7 k hk
  refine ⟨by omega, by omega, fun i hi => ?_, ?_, ?_, fun i j hij hj => ?_, fun j _ hj => ?_, fun i hi => ?_⟩
  · rw [hlen] at hi
    by_cases c : i = L.length
    · rw [c]; unfold kE sE pE fE; rw [new]
      refine ⟨hK, hs, fun _ => ⟨hk, ?_⟩⟩
      dsimp only; rw [old k hk]
    · have hi2 : i < L.length := by omega
      obtain ⟨a1, a2, a3⟩ := h3 i hi2
      unfold kE sE pE fE at *
      rw [old i hi2]
      refine ⟨a1, a2, fun q => ?_⟩
      obtain ⟨b1, b2⟩ := a3 q
      rw [old _ (by omega)]; exact ⟨b1, b2⟩
  · unfold fE at *; rw [old 0 (by omega)]; exact h4
  · unfold pE at *; rw [old 0 (by omega)]; exact h4b
  · rw [hlen] at hj
    unfold fE at *
    by_cases c : j = L.length
    · by_cases c2 : i = L.length
      · rw [c, c2]; exact Nat.le_refl _
      · rw [c, new, old i (by omega)]; exact h6 i hk (by omega)
    · rw [old i (by omega), old j (by omega)]; exact h5 i j hij (by omega)
  · rw [hlen] at hj
    unfold fE at *
    rw [old k hk]
    by_cases c : j = L.length
    · rw [c, new]; exact Nat.le_refl _
    · rw [old j (by omega)]; exact h6 j hk (by omega)
  · rw [hlen] at hi
    unfold fE at *
    by_cases c : i = L.length
    · rw [c, new]; dsimp only; omega
    · rw [old i (by omega)]; exact h7 i (by omega)
theorem wfL_next {n fl k : Nat} {L : List En} (h : wfL n fl k L) (hk : k < L.length) : wfL n fl (k + 1) L := by
  obtain ⟨h1, h2, h3, h4, h4b, h5, h6, h7⟩ := h
  exact ⟨h1, h2, h3, h4, h4b, h5, fun j hk2 hj => Nat.le_trans (h6 j hk hj) (Nat.add_le_add_right (h5 k (k + 1) (by omega) hk2) 1), h7⟩
theorem goE_wf {n fl k : Nat} {nx : Nat → Nat} {want : Nat → Bool} (hnx : ∀ s, s < 1024 → vK n fl (nx s)) : ∀ {S : List Nat} {L : List En} {m : Bool}, (∀ s, s ∈ S → s < 1024) → k < L.length → wfL n fl k L → ∀ f, f = fE L k + 1 → wfL n fl k (goE nx want k f S L m).2.1 ∧ ∀ i, L.length ≤ i → i < (goE nx want k f S L m).2.1.length → fE (goE nx want k f S L m).2.1 i = f
  | [], L, m, _, _, h, f, _ => ⟨h, fun i h1 h2 => by have : i < L.length := h2; omega⟩
  | s :: S, L, m, hS, hk, h, f, hf => by
    have h2 := h.2.1
    have hs := hS s List.mem_cons_self
    have hS2 : ∀ x, x ∈ S → x < 1024 := fun x hx => hS x (List.mem_cons_of_mem _ hx)
    unfold goE
    split
    · exact ⟨h, fun i h1 h2 => by have : i < L.length := h2; omega⟩
    split
    · exact goE_wf hnx hS2 hk h f hf
    split
    · exact goE_wf hnx hS2 hk h f hf
    rename_i hl
    have hw : wfL n fl k (L ++ [(nx s, k, s, f)]) := by rw [hf]; exact wfL_app h hk (by omega) (hnx s hs) hs
    have hlen : (L ++ [(nx s, k, s, f)]).length = L.length + 1 := by rw [List.length_append]; rfl
    split
    · refine ⟨hw, fun i h1 h2 => ?_⟩
      have h2' : i < (L ++ [(nx s, k, s, f)]).length := h2
      have : i = L.length := by omega
      show fE (L ++ [(nx s, k, s, f)]) i = f
      rw [this]; unfold fE; rw [geE_end]
    · have ef : f = fE (L ++ [(nx s, k, s, f)]) k + 1 := by unfold fE; rw [geE_app hk]; exact hf
      obtain ⟨i1, i2⟩ := goE_wf (want := want) hnx (S := S) (L := L ++ [(nx s, k, s, f)]) (m := m) hS2 (by omega) hw f ef
      refine ⟨i1, fun i a1 a2 => ?_⟩
      by_cases c : i = L.length
      · obtain ⟨T, hT⟩ := goE_pre nx want k f S (L ++ [(nx s, k, s, f)]) m
        rw [hT, c]; unfold fE
        rw [geE_app (by omega), geE_end]
      · exact i2 i (by omega) a2
theorem goE_len {nx : Nat → Nat} {want : Nat → Bool} {par far : Nat} : ∀ {S : List Nat} {L : List En} {m : Bool}, L.length ≤ 3000 → (goE nx want par far S L m).2.1.length ≤ 3000
  | [], L, m, h => h
  | s :: S, L, m, h => by
    unfold goE
    split
    · exact h
    split
    · exact goE_len h
    split
    · exact goE_len h
    split
    · show (L ++ [_]).length ≤ 3000; rw [List.length_append]; simp; omega
    · exact goE_len (by rw [List.length_append]; simp; omega)
/-- the whole search -/
def srE (nx : Nat → Nat → Nat) (sets : Nat → List Nat) (want : Nat → Bool) (deep : Nat) : Nat → Nat → List En → Bool → Option Nat × List En × Bool
  | 0, _, L, m => (none, L, m)
  | d + 1, k, L, m => if k < L.length ∧ m = false ∧ fE L k < deep then
      (if (goE (nx (kE L k)) want k (fE L k + 1) (sets (kE L k)) L m).1 = none then srE nx sets want deep d (k + 1) (goE (nx (kE L k)) want k (fE L k + 1) (sets (kE L k)) L m).2.1 (goE (nx (kE L k)) want k (fE L k + 1) (sets (kE L k)) L m).2.2
       else goE (nx (kE L k)) want k (fE L k + 1) (sets (kE L k)) L m)
    else (none, L, m)
