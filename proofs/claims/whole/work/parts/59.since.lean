/-! promise: since -/
theorem pigeon : ∀ (m n : Nat) (f : Nat → Nat), (∀ i, i < n → f i < m) → m < n → ∃ i j, i < j ∧ j < n ∧ f i = f j
  | 0, n, f, h, hm => absurd (h 0 hm) (Nat.not_lt_zero _)
  | m + 1, n, f, h, hm => by
    by_cases c : ∃ i, i < n - 1 ∧ f i = f (n - 1)
    · obtain ⟨i, hi, e⟩ := c
      exact ⟨i, n - 1, by omega, by omega, e⟩
    · have c' : ∀ i, i < n - 1 → f i ≠ f (n - 1) := fun i hi e => c ⟨i, hi, e⟩
      have hv := h (n - 1) (by omega)
      obtain ⟨i, j, hij, hj, e⟩ := pigeon m (n - 1) (fun i => if f i = m then f (n - 1) else f i) (fun i hi => by
        have a1 := h i (by omega)
        have a2 := c' i hi
        show (if f i = m then f (n - 1) else f i) < m
        by_cases q : f i = m
        · rw [if_pos q]; omega
        · rw [if_neg q]; omega) (by omega)
      refine ⟨i, j, hij, by omega, ?_⟩
      have a1 := c' i (by omega)
      have a2 := c' j (by omega)
      by_cases q1 : f i = m <;> by_cases q2 : f j = m
      · rw [q1, q2]
      · rw [if_pos q1, if_neg q2] at e; exact absurd e.symm a2
      · rw [if_neg q1, if_pos q2] at e; exact absurd e a1
      · rw [if_neg q1, if_neg q2] at e; exact e
theorem sev_iff {R : Nat} (h : R + 1 < 2 ^ 31) : ((nI R + 1) - (nI R + 1) / 7 * 7 = 0) ↔ (R + 1) % 7 = 0 := by
  rw [nI_1, ← Int32.toInt_inj, rem_toInt, nI_toInt h]
  show ((R + 1 : Nat) : Int).tmod 7 = 0 ↔ _
  rw [Int.tmod_eq_emod_of_nonneg (by omega)]
  omega
/-- a law that does not ask for the rides -/
def noR (w : Wd) : Prop := ∀ k, k < w.2.1 → ¬ w.1 k = -114
theorem lwR_noR {cd : Nat → Int32} {env env2 : Int32 → Int32} : ∀ {n : Nat}, (∀ k, k < n → env2 (-(cd k)) = env (-(cd k))) → lwR env2 cd n = lwR env cd n
  | 0, _ => rfl
  | n + 1, h => by
    have ih := lwR_noR (n := n) (fun k hk => h k (by omega))
    show lwS env2 (cd n) (lwR env2 cd n) = lwS env (cd n) (lwR env cd n)
    rw [ih]
    unfold lwS
    rw [h n (by omega)]
theorem nm_noR {ww s : Nat → Int32} {n lift r r2 f c : Int32} (h : ¬ c = 114) : nmF ww s n lift r f c = nmF ww s n lift r2 f c := by
  unfold nmF
  rw [if_neg h, if_neg h]
theorem woF_noR {cd : Nat → Int32} {m n k : Nat} {pl wi : Nat → Int32} {s lift r r2 : Int32} (h : ∀ k, k < m → ¬ cd k = -114) : woF cd m pl wi n s lift r k = woF cd m pl wi n s lift r2 k := by
  unfold woF
  rw [lwR_noR (fun j hj => nm_noR (fun q => h j hj (by rw [← q]; simp)))]
def simM (w : Wd) (R S : Nat) (μ ν : Mo) : Prop := oI μ = oI ν ∧ oL μ = oL ν ∧ (∀ i, i < wn w → μ.2.1 i = ν.2.1 i) ∧ (∀ i, i < wn w → inB (oI μ) i = false → μ.1 i = ν.1 i) ∧ oR μ = nI R ∧ oR ν = nI S ∧ R % 7 = S % 7
theorem sim_st {w : Wd} {R S : Nat} {μ ν : Mo} (hr : noR w) (h1 : R + 1 < 2 ^ 31) (h2 : S + 1 < 2 ^ 31) (h : simM w R S μ ν) : stM w μ (oI μ) = stM w ν (oI ν) := by
  obtain ⟨e1, e2, e3, e4, e5, e6, e7⟩ := h
  unfold stM nsF
  rw [e5, e6, e2, ← e1]
  have ew : woF w.1 w.2.1 μ.1 μ.2.1 (wn w) (oI μ) (oL ν) (nI R) = woF w.1 w.2.1 ν.1 ν.2.1 (wn w) (oI μ) (oL ν) (nI S) := by
    funext k
    rw [woF_noR (r2 := nI S) hr]
    unfold woF
    have a1 : (fun f => ct (fun i => inB (oI μ) i && decide (μ.2.1 i = nI f)) (wn w)) = (fun f => ct (fun i => inB (oI μ) i && decide (ν.2.1 i = nI f)) (wn w)) := by
      funext f; exact ct_cong (fun i hi => by rw [e3 i hi])
    have a2 : (fun f => ct (fun i => !inB (oI μ) i && decide (μ.1 i = nI f)) (wn w)) = (fun f => ct (fun i => !inB (oI μ) i && decide (ν.1 i = nI f)) (wn w)) := by
      funext f
      refine ct_cong (fun i hi => ?_)
      cases hb : inB (oI μ) i
      · rw [e4 i hi hb]
      · rfl
    rw [a1, a2]
  rw [ew]
  have q : ((nI R + 1) - (nI R + 1) / 7 * 7 = 0) ↔ ((nI S + 1) - (nI S + 1) / 7 * 7 = 0) := by rw [sev_iff h1, sev_iff h2]; omega
  by_cases c : (nI R + 1) - (nI R + 1) / 7 * 7 = 0 ∧ ¬ w.2.2.2.2.2 = -1 ∧ ¬ w.2.2.2.2.2 = oL ν
  · rw [if_pos c, if_pos ⟨q.mp c.1, c.2⟩]
  · rw [if_neg c, if_neg (fun z => c ⟨q.mpr z.1, z.2⟩)]
theorem sim_rd {w : Wd} (hn : wn w ≤ 10) {R S : Nat} {μ ν : Mo} (hr : noR w) (h1 : R + 1 < 2 ^ 31) (h2 : S + 1 < 2 ^ 31) (h : simM w R S μ ν) : simM w (R + 1) (S + 1) (rdM w μ) (rdM w ν) := by
  have es := sim_st hr h1 h2 h
  obtain ⟨e1, e2, e3, e4, e5, e6, e7⟩ := id h
  have ec : cmM w μ = cmM w ν := by unfold cmM; rw [es, e1]
  refine ⟨?_, es, e3, fun i hi hb => ?_, ?_, ?_, by omega⟩
  · show oI μ &&& (cmM w μ ^^^ (-1)) = oI ν &&& (cmM w ν ^^^ (-1)); rw [ec, e1]
  · show plF w.2.2.1 μ.1 (oI μ) (stM w μ (oI μ)) (wn w) i = plF w.2.2.1 ν.1 (oI ν) (stM w ν (oI ν)) (wn w) i
    unfold plF
    rw [← es, ← e1]
    by_cases c : i < wn w ∧ inB (oI μ) i = true
    · rw [if_pos c, if_pos c]
    · rw [if_neg c, if_neg c]
      exact e4 i hi (Bool.eq_false_iff.mpr (fun q => c ⟨hi, q⟩))
  · show oR μ + 1 = _; rw [e5, nI_1]
  · show oR ν + 1 = _; rw [e6, nI_1]
def itM (w : Wd) : Nat → Mo → Mo
  | 0, μ => μ
  | k + 1, μ => itM w k (rdM w μ)
theorem itM_s (w : Wd) : ∀ k μ, itM w (k + 1) μ = rdM w (itM w k μ)
  | 0, _ => rfl
  | k + 1, μ => itM_s w k (rdM w μ)
theorem itM_add (w : Wd) : ∀ a b μ, itM w (a + b) μ = itM w b (itM w a μ)
  | 0, b, μ => by rw [Nat.zero_add]; rfl
  | a + 1, b, μ => by rw [show a + 1 + b = (a + b) + 1 by omega]; exact itM_add w a b (rdM w μ)
theorem itM_R (w : Wd) {R : Nat} {μ : Mo} (h : oR μ = nI R) : ∀ k, oR (itM w k μ) = nI (R + k)
  | 0 => h
  | k + 1 => by
    rw [itM_s]
    show oR (itM w k μ) + 1 = _
    rw [itM_R w h k, nI_1]; rfl
theorem sim_it {w : Wd} (hn : wn w ≤ 10) (hr : noR w) {R S : Nat} {μ ν : Mo} (h : simM w R S μ ν) : ∀ k, R + k < 2 ^ 31 → S + k < 2 ^ 31 → simM w (R + k) (S + k) (itM w k μ) (itM w k ν)
  | 0, _, _ => h
  | k + 1, h1, h2 => by
    rw [itM_s, itM_s]
    exact sim_rd hn hr (by omega) (by omega) (sim_it hn hr h k (by omega) (by omega))
theorem in_sub {w : Wd} {μ : Mo} {k : Nat} (hk : k < 32) (h : inB (oI (rdM w μ)) k = true) : inB (oI μ) k = true := by
  have : inB (oI μ &&& (cmM w μ ^^^ (-1))) k = true := h
  rw [inB_and _ _ hk, Bool.and_eq_true] at this; exact this.1
theorem in_it {w : Wd} {k : Nat} (hk : k < 32) : ∀ d μ, inB (oI (itM w d μ)) k = true → inB (oI μ) k = true
  | 0, _, h => h
  | d + 1, μ, h => in_sub hk (in_it hk d (rdM w μ) h)
/-- places do not change for one who is out and stays out, and are the lift's for one who is in: sim at two times with the same lift, the same who are in -/
theorem pl_it {w : Wd} {i : Nat} (hi : i < wn w) (hn : wn w ≤ 10) : ∀ d μ, inB (oI μ) i = false → (itM w d μ).1 i = μ.1 i
  | 0, _, _ => rfl
  | d + 1, μ, h => by
    have h2 : inB (oI (rdM w μ)) i = false := Bool.eq_false_iff.mpr (fun q => by rw [in_sub (by omega) q] at h; cases h)
    show (itM w d (rdM w μ)).1 i = _
    rw [pl_it hi hn d (rdM w μ) h2]
    show plF w.2.2.1 μ.1 (oI μ) _ (wn w) i = _
    unfold plF
    rw [if_neg (fun q => by rw [q.2] at h; cases h)]
theorem wi_it (w : Wd) : ∀ d μ, (itM w d μ).2.1 = μ.2.1
  | 0, _ => rfl
  | d + 1, μ => wi_it w d (rdM w μ)
def cNt (p : Nat → Bool) : Nat → Nat
  | 0 => 0
  | n + 1 => cNt p n + (if p n then 1 else 0)
theorem cNt_mono {p q : Nat → Bool} : ∀ {n : Nat}, (∀ k, k < n → q k = true → p k = true) → cNt q n ≤ cNt p n
  | 0, _ => Nat.le_refl 0
  | n + 1, h => by
    have ih := cNt_mono (n := n) (fun k hk => h k (by omega))
    have := h n (by omega)
    unfold cNt
    cases h1 : q n <;> cases h2 : p n <;> simp_all <;> omega
theorem cNt_lt {p q : Nat → Bool} : ∀ {n : Nat}, (∀ k, k < n → q k = true → p k = true) → (∃ k, k < n ∧ p k = true ∧ q k = false) → cNt q n < cNt p n
  | 0, _, ⟨k, hk, _⟩ => absurd hk (Nat.not_lt_zero k)
  | n + 1, h, ⟨k, hk, h1, h2⟩ => by
    have hm := cNt_mono (n := n) (fun k hk => h k (by omega))
    unfold cNt
    by_cases e : k = n
    · subst e; rw [h1, h2]; simp; omega
    · have ih := cNt_lt (n := n) (fun k hk => h k (by omega)) ⟨k, by omega, h1, h2⟩
      have := h n (by omega)
      cases h3 : q n <;> cases h4 : p n <;> simp_all <;> omega
theorem cNt_le {p : Nat → Bool} {m : Nat} : ∀ n, (∀ k, k < n → p k = true → k < m) → cNt p n ≤ m := by
  have a : ∀ n, cNt p n ≤ n := fun n => by
    induction n with
    | zero => exact Nat.le_refl 0
    | succ n ih => unfold cNt; split <;> omega
  intro n
  induction n with
  | zero => intro _; exact Nat.zero_le _
  | succ n ih =>
    intro h
    have ih := ih (fun k hk => h k (by omega))
    unfold cNt
    by_cases c : n < m
    · have := a n; split <;> omega
    · have : p n = false := Bool.eq_false_iff.mpr (fun q => c (h n (by omega) q))
      rw [this]; simpa using ih
/-- who stays in for 63 rides in which nobody comes home stays in -/
theorem stay_63 {w : Wd} (hn : wn w ≤ 10) (h9 : wf w ≤ 9) (hr : noR w) {R : Nat} {μ : Mo} (hR : oR μ = nI R) (hB : R + 2000 < 2 ^ 31) (hl : ∀ k, ∃ j, j < wf w ∧ oL (itM w k μ) = nI j) (hc : oI (itM w 63 μ) = oI μ) : ∀ k, k ≤ 1000 → oI (itM w k μ) = oI μ := by
  have mid : ∀ k, k ≤ 63 → oI (itM w k μ) = oI μ := by
    intro k hk
    refine inB_ext (fun b hb => ?_)
    cases h1 : inB (oI μ) b
    · exact Bool.eq_false_iff.mpr (fun q => by rw [in_it hb k μ q] at h1; cases h1)
    · have : inB (oI (itM w 63 μ)) b = true := by rw [hc]; exact h1
      rw [show (63 : Nat) = k + (63 - k) by omega, itM_add] at this
      exact in_it hb (63 - k) _ this
  have hlv : ∀ k, ∃ j, j < 9 ∧ oL (itM w k μ) = nI j := fun k => by obtain ⟨j, h1, h2⟩ := hl k; exact ⟨j, by omega, h2⟩
  obtain ⟨a, b, hab, hb, e⟩ := pigeon 63 64 (fun k => (oL (itM w k μ)).toNatClampNeg * 7 + (R + k) % 7) (fun k hk => by
    obtain ⟨j, h1, h2⟩ := hlv k
    show (oL (itM w k μ)).toNatClampNeg * 7 + (R + k) % 7 < 63
    rw [h2, nI_clamp (by omega)]; omega) (by omega)
  obtain ⟨ja, ha1, ha2⟩ := hlv a
  obtain ⟨jb, hb1, hb2⟩ := hlv b
  rw [ha2, hb2, nI_clamp (by omega), nI_clamp (by omega)] at e
  have ej : ja = jb := by omega
  have em : (R + a) % 7 = (R + b) % 7 := by omega
  have sab : simM w (R + a) (R + b) (itM w a μ) (itM w b μ) := by
    refine ⟨by rw [mid a (by omega), mid b (by omega)], by rw [ha2, hb2, ej], fun i hi => by rw [wi_it, wi_it], fun i hi hbi => ?_, itM_R w hR a, itM_R w hR b, em⟩
    rw [mid a (by omega)] at hbi
    rw [pl_it hi hn a μ hbi, pl_it hi hn b μ hbi]
  have main : ∀ k, k ≤ 1000 → oI (itM w (a + k) μ) = oI μ := by
    intro k
    induction k using Nat.strongRecOn with
    | _ k ih =>
      intro hk
      by_cases c : a + k ≤ 63
      · exact mid _ c
      · have hs := sim_it hn hr sab (k - (b - a)) (by omega) (by omega)
        have e1 := hs.1
        rw [← itM_add, ← itM_add, show b + (k - (b - a)) = a + k by omega] at e1
        rw [← e1]
        exact ih (k - (b - a)) (by omega) (by omega)
  intro k hk
  by_cases c : k ≤ 63
  · exact mid k c
  · rw [show k = a + (k - a) by omega]
    exact main (k - a) (by omega)
theorem stay_c {w : Wd} (hn : wn w ≤ 10) (h9 : wf w ≤ 9) (hr : noR w) {i : Nat} (hi : i < 32) : ∀ (c : Nat) (R : Nat) (μ : Mo), oR μ = nI R → R + 63 * c + 2000 < 2 ^ 31 → (∀ k, ∃ j, j < wf w ∧ oL (itM w k μ) = nI j) → cNt (inB (oI μ)) 32 ≤ c → inB (oI (itM w (63 * c) μ)) i = true → ∀ k, k ≤ 1000 → inB (oI (itM w k μ)) i = true := by
  intro c
  induction c with
  | zero =>
    intro R μ hR hB hl hc h
    exfalso
    have : cNt (inB 0) 32 < cNt (inB (oI μ)) 32 := cNt_lt (fun k hk q => by rw [inB_0 hk] at q; cases q) ⟨i, hi, h, inB_0 hi⟩
    omega
  | succ c ih =>
    intro R μ hR hB hl hc h k hk
    by_cases e : oI (itM w 63 μ) = oI μ
    · rw [stay_63 hn h9 hr hR (by omega) hl e k hk]
      exact in_it hi _ μ h
    · rw [show 63 * (c + 1) = 63 + 63 * c by omega, itM_add] at h
      have lt : cNt (inB (oI (itM w 63 μ))) 32 < cNt (inB (oI μ)) 32 := by
        refine cNt_lt (fun b hb q => in_it hb 63 μ q) (Classical.byContradiction (fun q => e (inB_ext (fun b hb => ?_))))
        cases h1 : inB (oI μ) b
        · exact Bool.eq_false_iff.mpr (fun z => by rw [in_it hb 63 μ z] at h1; cases h1)
        · exact Classical.byContradiction (fun z => q ⟨b, hb, h1, Bool.eq_false_iff.mpr z⟩)
      have all := ih (R + 63) (itM w 63 μ) (itM_R w hR 63) (by omega) (fun k => by rw [← itM_add]; exact hl _) (by omega) h
      by_cases c1 : k ≤ 63
      · have := in_it hi 0 _ (all 0 (by omega))
        have h63 : inB (oI (itM w 63 μ)) i = true := this
        rw [show (63 : Nat) = k + (63 - k) by omega, itM_add] at h63
        exact in_it hi (63 - k) _ h63
      · rw [show k = 63 + (k - 63) by omega, itM_add]
        exact all (k - 63) (by omega)
/-- the first ride after which one is out -/
def fsM (w : Wd) (i : Nat) : Nat → Mo → Option Nat
  | 0, _ => none
  | d + 1, μ => if inB (oI (rdM w μ)) i = false then some 0 else (fsM w i d (rdM w μ)).map (· + 1)
theorem fs_none (w : Wd) (i : Nat) : ∀ d μ, fsM w i d μ = none ↔ ∀ k, k < d → inB (oI (itM w (k + 1) μ)) i = true
  | 0, _ => ⟨fun _ k hk => absurd hk (Nat.not_lt_zero k), fun _ => rfl⟩
  | d + 1, μ => by
    have ih := fs_none w i d (rdM w μ)
    unfold fsM
    cases h : inB (oI (rdM w μ)) i
    · simp only [if_true]
      constructor
      · intro q; cases q
      · intro q
        have : inB (oI (rdM w μ)) i = true := q 0 (by omega)
        rw [h] at this; cases this
    · simp only [Bool.true_eq_false, if_false, Option.map_eq_none_iff]
      rw [ih]
      constructor
      · intro q k hk
        cases k with
        | zero => exact h
        | succ k => exact q k (by omega)
      · intro q k hk
        exact q (k + 1) (by omega)
theorem fs_mono (w : Wd) (i : Nat) (e : Nat) : ∀ d μ t, fsM w i d μ = some t → fsM w i (d + e) μ = some t
  | 0, _, _, h => by cases h
  | d + 1, μ, t, h => by
    rw [show d + 1 + e = (d + e) + 1 by omega]
    unfold fsM at h ⊢
    by_cases c : inB (oI (rdM w μ)) i = false
    · rw [if_pos c] at h ⊢; exact h
    · rw [if_neg c] at h ⊢
      cases hf : fsM w i d (rdM w μ) with
      | none => rw [hf] at h; cases h
      | some t2 =>
        rw [hf] at h
        rw [fs_mono w i e d (rdM w μ) t2 hf]; exact h
theorem fs_same {w : Wd} (hn : wn w ≤ 10) (h9 : wf w ≤ 9) (hr : noR w) {i : Nat} (hi : i < 32) {R : Nat} {μ : Mo} (hR : oR μ = nI R) (hB : R + 3000 < 2 ^ 31) (hl : ∀ k, ∃ j, j < wf w ∧ oL (itM w k μ) = nI j) (hc : cNt (inB (oI μ)) 32 ≤ 10) : fsM w i 693 μ = fsM w i 630 μ := by
  cases h : fsM w i 630 μ with
  | some t => exact fs_mono w i 63 630 μ t h
  | none =>
    rw [fs_none] at h ⊢
    intro k hk
    have h2 := h 629 (by omega)
    rw [show (629 + 1 : Nat) = 63 * 10 from rfl] at h2
    exact stay_c hn h9 hr hi 10 R μ hR (by omega) hl hc h2 (k + 1) (by omega)
theorem enc_rides {c : Int32} (h : (¬ c < 0 → c < 1000) ∧ (c < 0 → nmP (-c) ∨ c = -126 ∨ opP (-c))) : encF c = 1005 ↔ c = -114 := by
  constructor
  · intro e
    unfold encF at e
    by_cases c0 : c < 0
    · rw [if_pos c0] at e
      apply Classical.byContradiction
      intro hne
      have h114 : ¬ c = -114 := hne
      rw [if_neg h114] at e
      by_cases k102 : c = -102
      · rw [if_pos k102] at e; exact absurd e (by decide)
      rw [if_neg k102] at e
      by_cases k119 : c = -119
      · rw [if_pos k119] at e; exact absurd e (by decide)
      rw [if_neg k119] at e
      by_cases k100 : c = -100
      · rw [if_pos k100] at e; exact absurd e (by decide)
      rw [if_neg k100] at e
      by_cases k115 : c = -115
      · rw [if_pos k115] at e; exact absurd e (by decide)
      rw [if_neg k115] at e
      by_cases k110 : c = -110
      · rw [if_pos k110] at e; exact absurd e (by decide)
      rw [if_neg k110] at e
      by_cases k108 : c = -108
      · rw [if_pos k108] at e; exact absurd e (by decide)
      rw [if_neg k108] at e
      by_cases k126 : c = -126
      · rw [if_pos k126] at e; exact absurd e (by decide)
      rw [if_neg k126] at e
      by_cases k60 : c = -60
      · rw [if_pos k60] at e; exact absurd e (by decide)
      rw [if_neg k60] at e
      by_cases k62 : c = -62
      · rw [if_pos k62] at e; exact absurd e (by decide)
      rw [if_neg k62] at e
      by_cases k61 : c = -61
      · rw [if_pos k61] at e; exact absurd e (by decide)
      rw [if_neg k61] at e
      by_cases k43 : c = -43
      · rw [if_pos k43] at e; exact absurd e (by decide)
      rw [if_neg k43] at e
      by_cases k45 : c = -45
      · rw [if_pos k45] at e; exact absurd e (by decide)
      rw [if_neg k45] at e
      by_cases k42 : c = -42
      · rw [if_pos k42] at e; exact absurd e (by decide)
      rw [if_neg k42] at e
      exact absurd e (by decide)
    · rw [if_neg c0] at e
      have := h.1 c0
      rw [e] at this
      exact absurd this (by decide)
  · intro e; rw [e]; decide
theorem s_counts_loop {m : Nat} (hm : m ≤ 40) {cd : Nat → Int32} (hc : cdOK cd m) {I : sw_I} {J : sw_J} {Q : Int32 → sw_I → sw_J → Prop} (hl : I 140 23 = nI m) (hcd : ∀ k, k < m → I 150 k = encF (cd k)) (h : Q (bI ((List.range m).any (fun k => decide (cd k = -114)))) I J) :
    ∀ (d k : Nat), k + d = m → wl_X10_countsRides_4 Q (d + 1) (bI ((List.range k).any (fun k => decide (cd k = -114)))) (nI k) I J := by
  intro d
  induction d with
  | zero =>
    intro k hk
    obtain rfl : k = m := by omega
    show wb_X10_countsRides_4 _ Q _ _ I J
    unfold wb_X10_countsRides_4
    rw [sw_if_f (by rw [hl]; exact nI_nlt (Nat.le_refl _) (by omega))]
    exact ⟨bI_01 _, h⟩
  | succ d ih =>
    intro k hk
    show wb_X10_countsRides_4 _ Q _ _ I J
    unfold wb_X10_countsRides_4
    rw [sw_if_t (by rw [hl]; exact nI_lt (by omega) (by omega)), nI_clamp (by omega), hcd k (by omega)]
    have nxt := ih (k + 1) (by omega)
    rw [List.range_succ, List.any_append] at nxt
    have e1 : [k].any (fun k => decide (cd k = -114)) = decide (cd k = -114) := by simp
    rw [e1] at nxt
    have go : ∀ b : Bool, b = ((List.range k).any (fun k => decide (cd k = -114)) || decide (cd k = -114)) → wB_X10_countsRides_33 (wl_X10_countsRides_4 Q (d + 1)) Q (nI k) (bI b) I J := by
      intro b hb y hy
      rw [hy, nI_1, hb]; exact nxt
    cases ha : (List.range k).any (fun k => decide (cd k = -114))
    · rw [sw_if_t (by rfl)]
      refine ⟨vp0 (by omega) (by decide), fun c1 => ?_, fun c1 => ?_⟩
      · exact go true (by rw [ha, decide_eq_true ((enc_rides (hc k (by omega))).mp c1)]; rfl)
      · exact go false (by rw [ha, decide_eq_false (fun q => c1 ((enc_rides (hc k (by omega))).mpr q))]; rfl)
    · rw [sw_if_f (by decide)]
      exact go true (by rw [ha]; rfl)
theorem m_counts {m : Nat} {I : sw_I} {J : sw_J} {Q : Int32 → sw_I → sw_J → Prop} (hl : lR I m) (h : Q (I 6 5) I J) : wp_X10_countsRides I J Q := by
  obtain ⟨l1, l2, l3, l4, l5⟩ := hl
  have h40 := l2.2.2
  unfold wp_X10_countsRides
  rcases l4 with ⟨a1, a2, a3⟩ | ⟨a1, a2⟩
  · refine ⟨1, ?_⟩
    show wb_X10_countsRides_4 _ Q _ _ I J
    unfold wb_X10_countsRides_4
    rw [sw_if_f (by rw [a1]; decide)]
    refine ⟨Or.inl rfl, ?_⟩
    rw [l5, if_neg (fun ⟨k, hk, ek⟩ => by
      obtain rfl : k = 0 := by omega
      rw [a3] at ek; exact absurd ek (by decide))] at h
    exact h
  · refine ⟨m + 1, s_counts_loop (cd := I 7) h40 l3 a1 a2 ?_ m 0 (Nat.zero_add _)⟩
    rw [l5] at h
    by_cases c : ∃ k, k < m ∧ I 7 k = -114
    · rw [if_pos c] at h
      obtain ⟨k, hk, ek⟩ := c
      have : (List.range m).any (fun k => decide (I 7 k = -114)) = true := List.any_eq_true.mpr ⟨k, List.mem_range.mpr hk, by simp [ek]⟩
      rw [this]; exact h
    · rw [if_neg c] at h
      have : (List.range m).any (fun k => decide (I 7 k = -114)) = false := by
        refine Bool.eq_false_iff.mpr (fun q => ?_)
        obtain ⟨k, hk, ek⟩ := List.any_eq_true.mp q
        exact c ⟨k, List.mem_range.mp hk, by simpa using ek⟩
      rw [this]; exact h
theorem noR_of {I : sw_I} {m n fl : Nat} (hl : lR I m) (h : I 6 5 = 0) : noR (wdO I m n fl) := by
  intro k hk e
  have := hl.2.2.2.2
  rw [if_pos ⟨k, hk, e⟩, h] at this
  exact absurd this (by decide)
/-- the lift stays on a floor -/
theorem oL_it {I : sw_I} {w : Wd} (hW : isW I w) {μ : Mo} (h : ∃ j, j < wf w ∧ oL μ = nI j) : ∀ k, ∃ j, j < wf w ∧ oL (itM w k μ) = nI j
  | 0 => h
  | k + 1 => by
    rw [itM_s]
    obtain ⟨j, h1, h2, -⟩ := stM_rng hW (itM w k μ) (oI (itM w k μ))
    exact ⟨j, h1, h2⟩
def fsA (o : Option Nat) (k : Nat) : Int32 := match o with | none => -2 | some t => nI (k + t)
theorem s_since_loop {w : Wd} {i : Nat} (hi : i < 10) {I : sw_I} {J : sw_J} {Q : Int32 → sw_I → sw_J → Prop} (hW : isW I w) :
    ∀ (d k : Nat) (μ : Mo) (I2 : sw_I), k + d = 631 → eqx tr4 I I2 → moE I2 17 μ → (∀ I3, eqx tr4 I I3 → Q (fsA (fsM w i d μ) k) I3 J) → wl_X9_since_42 Q (d + 1) (nI i) (nI k) I2 J := by
  intro d
  induction d with
  | zero =>
    intro k μ I2 hk h1 h2 h
    obtain rfl : k = 631 := by omega
    show wb_X9_since_42 _ Q _ _ I2 J
    unfold wb_X9_since_42
    rw [sw_if_t (show (630 : Int32) < nI 631 by decide)]
    exact h I2 h1
  | succ d ih =>
    intro k μ I2 hk h1 h2 h
    show wb_X9_since_42 _ Q _ _ I2 J
    unfold wb_X9_since_42
    rw [sw_if_f (show ¬ (630 : Int32) < nI k from nI_nlt (a := 630) (by omega) (by decide))]
    refine c_rideM (by decide) (isW_of (h1.eqm (C := tr4) (F := []) (fun _ q => q) (by decide)) (by decide) (by decide) hW) h2 (fun I3 x3 e3 => s_X3_isIn hi ?_)
    rw [e3.2.1]
    have q3 : eqx tr4 I I3 := h1.tr (x3.mono (by decide))
    unfold fsM at h
    cases hb : inB (oI (rdM w μ)) i
    · rw [sw_if_t (by simp)]
      rw [if_pos hb] at h
      exact h I3 q3
    · rw [sw_if_f (by simp)]
      rw [if_neg (by rw [hb]; decide)] at h
      intro y hy
      rw [hy, nI_1]
      refine ih (k + 1) (rdM w μ) I3 (by omega) q3 e3 (fun I4 x4 => ?_)
      have := h I4 x4
      cases hf : fsM w i d (rdM w μ) with
      | none => rw [hf] at this; exact this
      | some t => rw [hf] at this; show Q (nI (k + 1 + t)) I4 J; rw [show k + 1 + t = k + (t + 1) by omega]; exact this
theorem m_since_loop {w : Wd} {i : Nat} {I : sw_I} {J : sw_J} {Q : Int32 → sw_I → sw_J → Prop} (hW : isW I w) (hi : i < wn w) :
    ∀ (d k : Nat) (μ : Mo) (I2 : sw_I), k + d = 694 → inB (oI μ) i = true → eqm (145 :: mnsC) maF I I2 → relM w μ (I2 145) → (∀ I3, eqm (145 :: mnsC) maF I I3 → Q (fsA (fsM w i d μ) k) I3 J) → wl_X10_since_38 Q (d + 1) (nI i) (nI k) I2 J := by
  have hn := hW.1.2.2.1
  intro d
  induction d with
  | zero =>
    intro k μ I2 hk hin h1 h2 h
    obtain rfl : k = 694 := by omega
    show wb_X10_since_38 _ Q _ _ I2 J
    unfold wb_X10_since_38
    rw [sw_if_t (show (693 : Int32) < nI 694 by decide)]
    exact h I2 h1
  | succ d ih =>
    intro k μ I2 hk hin h1 h2 h
    show wb_X10_since_38 _ Q _ _ I2 J
    unfold wb_X10_since_38
    have e30 : I2 145 (30 : Int32).toNatClampNeg = oI μ := h2.1.2.1.symm
    rw [sw_if_f (show ¬ (693 : Int32) < nI k from nI_nlt (a := 693) (by omega) (by decide)), e30]
    refine m_rideM (by decide) (by decide) (by decide) rfl (isW_of h1 (by decide) (by decide) hW) h2 (fun I3 x3 e3 => s_X10_has ?_)
    have q3 := h1.tr x3
    unfold fsM at h
    have key : inB (oI (rdM w μ)) i = !inB (cmM w μ) i := by
      show inB (oI μ &&& (cmM w μ ^^^ (-1))) i = _
      rw [inB_and _ _ (by omega), inB_not _ (by omega), hin]; rfl
    cases hb : inB (cmM w μ) i
    · rw [sw_if_t (by simp)]
      rw [hb] at key
      rw [if_neg (by rw [key]; decide)] at h
      intro y hy
      rw [hy, nI_1]
      refine ih (k + 1) (rdM w μ) I3 (by omega) key q3 e3 (fun I4 x4 => ?_)
      have := h I4 x4
      cases hf : fsM w i d (rdM w μ) with
      | none => rw [hf] at this; exact this
      | some t => rw [hf] at this; show Q (nI (k + 1 + t)) I4 J; rw [show k + 1 + t = k + (t + 1) by omega]; exact this
    · rw [sw_if_f (by simp)]
      rw [hb] at key
      rw [if_pos (by rw [key]; rfl)] at h
      exact h I3 q3
theorem p_since {c : Nat} (hc : c ≤ 100000) {x1 : Int32} {I : sw_I} {J : sw_J} {Q : Int32 → Int32 → sw_I → sw_J → Prop} (h : wW c I J) (hQ : ∀ v I2 J2, wW c I2 J2 → I2 140 0 = 0 → Q v v I2 J2) :
    wp_X9_since x1 I J (fun r I1 J1 => wp_X10_since x1 I1 J1 (fun r2 I2 J2 => Q r r2 I2 J2)) := by
  obtain ⟨n, fl, m, q, p, r, t, s, z, hw⟩ := h
  obtain ⟨h0, h1, h2, h3, h4, h5, h6, h7, h8⟩ := id hw
  have hn := h1.2.2.1
  have hr := h1.2.2.2.2.2.2.1
  have hW := isW_O h1 h2
  generalize hμ : moC I 13 = μ
  have hE : moE I 13 μ := by rw [← hμ]; exact moE_C _ _
  have hR : relM (wdO I m n fl) μ (I 144) := by rw [← hμ]; exact h3
  have v4 := h3.2.2.2.2
  have no : (∀ k, k < n → x1 = nI k → inB (I 13 3) k = false) → wp_X10_since x1 I J (fun r2 I2 J2 => Q (-1) r2 I2 J2) := by
    intro hno I2 e2
    have e : eqm [] [0] I I2 := by rw [e2]; exact eqm.rf.upF (by decide) _
    have fin : Q (-1) (-1) I2 J := hQ _ I2 J (th_of hw e2).1 (th_of hw e2).2
    refine s_X10_canLeave hn (by rw [e.2 _ (by decide)]; exact hr) (fun _ => by rw [sw_if_t rfl]; exact fin) (fun k hk ek => ?_)
    rw [e.1 _ (by decide) (by decide), ← h3.1.2.1, hno k hk ek, sw_if_t (by simp)]; exact fin
  unfold wp_X9_since
  refine s_X3_isIn_any (fun co => ?_) (fun k hk ek => ?_)
  · rw [sw_if_t rfl]
    exact no (fun k hk ek => absurd co (fun w => ix_out (n := 10) (by decide) (by omega) ek w))
  · cases hb : inB (I 13 3) k
    · rw [sw_if_t (by simp)]
      refine no (fun k2 hk2 ek2 => ?_)
      have := (nI_eq (by omega) (by omega)).mp (ek2.symm.trans ek)
      rw [this]; exact hb
    · rw [sw_if_f (by simp)]
      have hkn : k < n := (v4 k (by omega) hb).1
      rw [ek]
      -- the reference as far as the law's rides
      have ref : ∀ (v : Int32) I3, eqm scrC scrF I I3 → (I 6 5 = 0 → ∀ I4, I4 = sw_up I3 140 0 0 → wp_X10_puts 144 33 145 33 I4 J (fun I12 J13 => ∃ n14 : Nat, wl_X10_since_38 (fun r2 I2 J2 => Q v r2 I2 J2) n14 (nI k) 1 I12 J13)) → (¬ I 6 5 = 0 → v = -4) → wp_X10_since (nI k) I3 J (fun r2 I2 J2 => Q v r2 I2 J2) := by
        intro v I3 s3 g1 g2 I4 e4
        have s4 : eqm scrC scrF I I4 := by rw [e4]; exact s3.upF (by decide) _
        have e30 : I4 144 30 = I 13 3 := by rw [s4.1 _ (by decide) (by decide)]; exact h3.1.2.1.symm
        refine s_X10_canLeave hn (by rw [s4.2 _ (by decide)]; exact hr) (fun co => absurd co (fun w => ix_out (by omega) hkn rfl w)) (fun k2 hk2 ek2 => ?_)
        have ekk := (nI_eq (by omega) (by omega)).mp ek2
        rw [e30, ← ekk, hb, sw_if_f (by simp)]
        refine m_counts (lR_scr h2 s4) ?_
        rw [s4.1 6 (by decide) (by decide)]
        by_cases c1 : I 6 5 = 0
        · rw [sw_if_t c1]; exact g1 c1 I4 e4
        · rw [sw_if_f c1, g2 c1]
          exact hQ _ I4 J ⟨n, fl, m, q, p, r, t, s, z, wR_scr hw s4 rfl rfl⟩ (by rw [e4, sw_up_same])
      by_cases c1 : I 6 5 = 0
      · rw [sw_if_t c1]
        refine s_X3_copy (by decide) (fun I1 k1 => ⟨631, ?_⟩)
        have q1 : eqx tr4 I I1 := fun c hc => k1.1 c (by simp at hc; omega)
        refine s_since_loop (w := wdO I m n fl) hk hW 630 1 μ I1 (by omega) q1 (moE_copy k1 hE) (fun I3 x3 => ?_)
        have s3 : eqm scrC scrF I I3 := x3.eqm (by decide) (by decide)
        refine ref _ I3 s3 (fun _ I4 e4 => ?_) (fun q => absurd c1 q)
        have s4 : eqm scrC scrF I I4 := by rw [e4]; exact s3.upF (by decide) _
        refine s_X10_puts (by decide) (fun I5 x5 r5 => ⟨694, ?_⟩)
        have s5 : eqm scrC scrF I I5 := s4.tr (x5.eqm (by decide) (by decide))
        have R5 : relM (wdO I m n fl) μ (I5 145) := relM_cong hn (fun j hj => by rw [r5 j hj, s4.1 _ (by decide) (by decide)]) hR
        have hin : inB (oI μ) k = true := by rw [← hμ]; exact hb
        refine m_since_loop (w := wdO I m n fl) (isW_of s5 (by decide) (by decide) hW) hkn 693 1 μ I5 (by omega) hin eqm.rf R5 (fun I6 x6 => ?_)
        obtain ⟨R, hRb, eR⟩ := h0.2.1 _ mv_now
        have same : fsM (wdO I m n fl) k 693 μ = fsM (wdO I m n fl) k 630 μ := by
          refine fs_same (w := wdO I m n fl) hn h1.2.1 (noR_of h2 c1) (by omega) (R := R) (by rw [← hμ]; exact eR) (by omega) (oL_it hW hR.2.2.2.1) (cNt_le 32 (fun b c32 hbb => ?_))
          have := hR.2.2.2.2 b c32 hbb
          have h2n : b < n := this.1
          omega
        rw [same]
        exact hQ _ I6 J ⟨n, fl, m, q, p, r, t, s, z, wR_scr hw (s5.tr (x6.mono (by decide) (by decide))) rfl rfl⟩ (by rw [x6.2 _ (by decide), x5 _ (by decide), e4, sw_up_same])
      · rw [sw_if_f c1]
        exact ref _ I eqm.rf (fun q => absurd q c1) (fun _ => rfl)
