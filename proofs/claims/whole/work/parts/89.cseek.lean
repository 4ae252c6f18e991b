/-! the class's search goes on -/
def thK (K : Nat) : Nat := (onK K (nI (lfK K))).toNatClampNeg
theorem thK_e {n fl K : Nat} (hn : n ≤ 10) (hfl : fl ≤ 9) (h : vK n fl K) : onK K (nI (lfK K)) = nI (thK K) ∧ thK K < 2 ^ n := by
  have hb : bN n (onK K (nI (lfK K))) := fun i hi hb => by
    unfold onK at hb
    rw [inB_bs _ 10 (by omega) i hi] at hb
    simp only [Bool.and_eq_true, decide_eq_true_eq] at hb
    rcases Nat.lt_or_ge i n with q | q
    · exact q
    · rw [h.2.1 i q hb.1] at hb
      exact absurd (show nI (lfK K) < 0 by rw [← hb.2]; decide) (nI_pos (by have := h.2.2.1; omega))
  obtain ⟨j, hj, ej⟩ := bN_ix hn hb
  have hp : 2 ^ n ≤ 2 ^ 10 := Nat.pow_le_pow_right (by decide) hn
  unfold thK
  rw [ej, nI_clamp (by omega)]
  exact ⟨rfl, hj⟩
def goV (o : Option Nat) : Int32 := match o with | none => -1 | some g => nI g
abbrev gmC : List Nat := [121, 121 + 1, 120, 126, 127] ++ nsC
theorem goE_f (nx : Nat → Nat) (want : Nat → Bool) (par far s : Nat) (S : List Nat) (L : List En) : goE nx want par far (s :: S) L false = (if kInB L (nx s) = true then goE nx want par far S L false else
        if 3000 ≤ L.length then goE nx want par far S L true else
        if want (nx s) = true then (some L.length, L ++ [(nx s, par, s, far)], false) else
        goE nx want par far S (L ++ [(nx s, par, s, far)]) false) := by
  show (if false = true then _ else _) = _
  rw [if_neg (by decide)]
theorem plK.tr {I I2 I3 : sw_I} (h : plK I I2) (h2 : plK I2 I3) : plK I I3 := fun k a b => (h2 k a b).trans (h k a b)
theorem plK.rf {I : sw_I} : plK I I := fun _ _ _ => rfl
theorem plK_x {I I2 : sw_I} {S : List Nat} (h : eqx S I I2) (hS : 120 ∉ S) : plK I I2 := fun k _ _ => by rw [h _ hS]
theorem clS_x {I I2 : sw_I} {J J2 : sw_J} {S : List Nat} {L : List En} {m : Bool} (h : clS I J L m) (e : eqx S I I2) (hj : J2 125 = J 125) (hS : ∀ c, c ∈ plC → c ∉ S) : clS I2 J2 L m := by
  unfold clS
  rw [e _ (hS _ (by decide)), e _ (hS _ (by decide)), e _ (hS _ (by decide)), hj]; exact h
theorem c_goOn_loop {w : Wd} {wi rd : Nat → Int32} {ins : Int32} {K k M T0 far a : Nat} {T f : Int32} (hT0 : T0 ≤ 1024) (hK : vK (wn w) (wf w) K) {I : sw_I} {J : sw_J} {Q : Int32 → sw_I → sw_J → Prop} (hW : isW I w) (hwt : wtC I a T f) :
    ∀ (S : List Nat) (i : Nat) (s : Int32) (L : List En) (m : Bool) (I2 : sw_I) (J2 : sw_J), i + S.length = T0 → chn (nI M) S s → (∀ x, x ∈ S → x < 2 ^ wn w) → wfL (wn w) (wf w) k L → k < L.length → fE L k + 1 = far → clS I2 J2 L m → moE I2 121 (dcM wi rd ins K) → eqx gmC I I2 → eqj [125] J J2 → plK I I2 →
      (∀ I3 J3, eqx gmC I I3 → eqj [125] J J3 → plK I I3 → moE I3 121 (dcM wi rd ins K) → clS I3 J3 (goE (nxS w wi K) (wtB a T f) k far S L m).2.1 (goE (nxS w wi K) (wtB a T f) k far S L m).2.2 → Q (goV (goE (nxS w wi K) (wtB a T f) k far S L m).1) I3 J3) → wl_X6_goOnFrom_37 Q (S.length + 1) (nI k) (nI M) (nI T0) s (nI i) I2 J2 := by
  have hn := hW.1.2.2.1
  have h9 := hW.1.2.1
  intro S
  induction S with
  | nil =>
    intro i s L m I2 J2 hi hch hS hwf hk hfar hcl hE e ej hp h
    obtain rfl : i = T0 := by simpa using hi
    show wb_X6_goOnFrom_37 _ Q _ _ _ _ _ I2 J2
    unfold wb_X6_goOnFrom_37
    rw [sw_if_f (nI_nlt (Nat.le_refl _) (by omega))]
    exact h I2 J2 e ej hp hE hcl
  | cons j S ih =>
    intro i s L m I2 J2 hi hch hS hwf hk hfar hcl hE e ej hp h
    rw [List.length_cons] at hi
    obtain ⟨rfl, hch2⟩ := hch
    have hj := hS j List.mem_cons_self
    have hS2 : ∀ x, x ∈ S → x < 2 ^ wn w := fun x hx => hS x (List.mem_cons_of_mem _ hx)
    have hp10 : 2 ^ wn w ≤ 2 ^ 10 := Nat.pow_le_pow_right (by decide) hn
    show wb_X6_goOnFrom_37 _ Q _ _ _ _ _ I2 J2
    unfold wb_X6_goOnFrom_37
    rw [sw_if_t (nI_lt (by omega) (by omega)), show I2 120 6 = bI m from hcl.2.1]
    cases m with
    | true =>
      rw [sw_if_f (by decide)]
      rw [goE_m] at h
      exact h I2 J2 e ej hp hE hcl
    | false =>
      rw [sw_if_t (by rfl)]
      rw [goE_f] at h
      have W2 : isW I2 w := isW_of (e.eqm (C := gmC) (F := []) (fun _ q => q) (by decide)) (by decide) (by decide) hW
      refine c_stopM (by decide) W2 hE (fun I3 x3 => ?_)
      obtain ⟨es, hs⟩ := stK_e hW (wi := wi) (rd := rd) (ins := ins) K j
      rw [es]
      have W3 : isW I3 w := isW_of (x3.eqm (C := gmC) (F := []) (by decide) (by decide)) (by decide) (by decide) W2
      have E3 : moE I3 121 (dcM wi rd ins K) := moE_cong (fun c c1 c2 => x3 c (by simp; omega)) hE
      refine s_X1_homeAt hn W3.1.2.2.2.2.2.1 ?_
      rw [W3.2.2.2.1]
      refine s_keyAfter hW hK hj E3 ?_
      have cl3 : clS I3 J2 L false := clS_x hcl x3 rfl (by decide)
      have nv := nxS_v hW (wi := wi) (s := j) hK
      have e3 : eqx gmC I I3 := e.tr (x3.mono (by decide))
      have p3 : plK I I3 := hp.tr (plK_x x3 (by decide))
      have kl : ∀ i, i < L.length → kE L i < 2 ^ 47 := fun i hi => vK_lt h9 (hwf.2.2.1 i hi).1
      have goOn : ∀ (L2 : List En) (m2 : Bool) (I4 : sw_I) (J4 : sw_J), wfL (wn w) (wf w) k L2 → k < L2.length → fE L2 k + 1 = far → clS I4 J4 L2 m2 → moE I4 121 (dcM wi rd ins K) → eqx gmC I I4 → eqj [125] J J4 → plK I I4 →
          (∀ I3 J3, eqx gmC I I3 → eqj [125] J J3 → plK I I3 → moE I3 121 (dcM wi rd ins K) → clS I3 J3 (goE (nxS w wi K) (wtB a T f) k far S L2 m2).2.1 (goE (nxS w wi K) (wtB a T f) k far S L2 m2).2.2 → Q (goV (goE (nxS w wi K) (wtB a T f) k far S L2 m2).1) I3 J3) →
          wp_X9_nextSet (nI j) (nI M) I4 J4 (fun r_19 I_20 J_21 => ∀ y_22 : Int32, y_22 = nI i + 1 → wl_X6_goOnFrom_37 Q (S.length + 1) (nI k) (nI M) (nI T0) r_19 y_22 I_20 J_21) := by
        intro L2 m2 I4 J4 b1 b2 b3 b4 b5 b6 b7 b8 b9
        unfold wp_X9_nextSet
        intro y hy
        rw [hy, nI_1]
        exact ih (i + 1) _ L2 m2 I4 J4 (by omega) hch2 hS2 b1 b2 b3 b4 b5 b6 b7 b8 b9
      refine c_add (far := far) (L := L) (m := false) hwf.2.1 kl (vK_lt h9 nv) (by have := hwf.2.1; omega) (by omega) cl3 (fun g1 => ?_) (fun g1 g2 I4 x4 p4 c4 => ?_) (fun g1 g2 I4 J4 x4 j4 p4 c4 => ?_)
      · rw [if_pos g1] at h
        refine s_isWanted_n ?_
        rw [sw_if_t rfl]
        exact goOn L false I3 J2 hwf hk hfar cl3 E3 e3 ej p3 h
      · rw [if_neg g1, if_pos g2] at h
        refine s_isWanted_n ?_
        rw [sw_if_t rfl]
        exact goOn L true I4 J2 hwf hk hfar c4 (moE_cong (fun c c1 c2 => x4 c (by simp; omega)) E3) (e3.tr (x4.mono (by decide))) ej (p3.tr p4) h
      · rw [if_neg g1, if_neg g2] at h
        have hlen : (L ++ [(nxS w wi K j, k, j, far)]).length = L.length + 1 := by rw [List.length_append]; rfl
        have wf4 : wfL (wn w) (wf w) k (L ++ [(nxS w wi K j, k, j, far)]) := by rw [← hfar]; exact wfL_app hwf hk (by omega) nv (by omega)
        have E4 : moE I4 121 (dcM wi rd ins K) := moE_cong (fun c c1 c2 => x4 c (by simp; omega)) E3
        have kEn : kE (L ++ [(nxS w wi K j, k, j, far)]) L.length = nxS w wi K j := by unfold kE; rw [geE_end]
        refine s_isWanted (L := L ++ [(nxS w wi K j, k, j, far)]) (m := false) (a := a) (T := T) (f := f) (by omega) wf4.2.1 (by rw [kEn]; exact vK_lt h9 nv) c4 (wtC_of hwt (p3.tr p4)) ?_
        rw [kEn]
        cases hwant : wtB a T f (nxS w wi K j)
        · rw [sw_if_t (by rfl)]
          rw [hwant, if_neg (by decide)] at h
          exact goOn _ false I4 J4 wf4 (by omega) (by unfold fE; rw [geE_app hk]; exact hfar) c4 E4 (e3.tr (x4.mono (by decide))) (ej.tr j4) (p3.tr p4) h
        · rw [sw_if_f (by decide)]
          rw [hwant, if_pos rfl] at h
          exact h I4 J4 (e3.tr (x4.mono (by decide))) (ej.tr j4) (p3.tr p4) E4 c4
theorem c_goOn {w : Wd} {wi rd : Nat → Int32} {ins : Int32} {k a : Nat} {T f : Int32} {L : List En} {m : Bool} {I : sw_I} {J : sw_J} {Q : Int32 → sw_I → sw_J → Prop} (hW : isW I w) (hwt : wtC I a T f) (hwf : wfL (wn w) (wf w) k L) (hk : k < L.length) (hcl : clS I J L m) (hw : ∀ i, i < 10 → I (121 + 2) i = wi i ∧ I (121 + 3) i = rd i) (hi : I 121 3 = ins)
    (h : ∀ I3 J3, eqx gmC I I3 → eqj [125] J J3 → plK I I3 → I3 121 3 = ins → clS I3 J3 (goE (nxS w wi (kE L k)) (wtB a T f) k (fE L k + 1) (SL (thK (kE L k)) (wn w)) L m).2.1 (goE (nxS w wi (kE L k)) (wtB a T f) k (fE L k + 1) (SL (thK (kE L k)) (wn w)) L m).2.2 → Q (goV (goE (nxS w wi (kE L k)) (wtB a T f) k (fE L k + 1) (SL (thK (kE L k)) (wn w)) L m).1) I3 J3) : wp_X6_goOnFrom (nI k) I J Q := by
  have hn := hW.1.2.2.1
  have h9 := hW.1.2.1
  have hK := (hwf.2.2.1 k hk).1
  have hL := hwf.2.1
  unfold wp_X6_goOnFrom
  rw [nI_clamp (by omega), (hcl.2.2.1 k hk).1]
  refine ⟨vp0 (by omega) (by decide), s_bringUp (vK_lt h9 hK) hw hi (fun I2 x2 E2 => s_X3_onFloor ?_)⟩
  obtain ⟨et, ht⟩ := thK_e hn h9 hK
  have eb : bs (fun i => decide (I2 (121 + 1) i = I2 121 4)) 10 = nI (thK (kE L k)) := by
    rw [← et]
    unfold onK
    refine bs_cong (fun i hi => ?_)
    rw [(E2.1 i hi).1, show I2 121 4 = nI (lfK (kE L k)) from E2.2.2.1]; rfl
  rw [eb]
  refine s_X9_setsOf ht hn ⟨(SL (thK (kE L k)) (wn w)).length + 1, ?_⟩
  have W2 : isW I2 w := isW_of (x2.eqm (C := gmC) (F := []) (by decide) (by decide)) (by decide) (by decide) hW
  refine c_goOn_loop (w := w) (wi := wi) (rd := rd) (ins := ins) (K := kE L k) (a := a) (T := T) (f := f) (SL_len_le hn) hK W2 (wtC_of hwt (plK_x x2 (by decide))) (SL (thK (kE L k)) (wn w)) 0 0 L m I2 J (by omega) (SL_chn ht hn) (fun x hx => (SL_mem hn x hx).1) hwf hk rfl (clS_x hcl x2 rfl (by decide)) E2 eqx.rf eqj.rf plK.rf (fun I3 J3 x3 j3 p3 E3 c3 => ?_)
  exact h I3 J3 ((x2.mono (by decide)).tr x3) j3 ((plK_x x2 (by decide)).tr p3) E3.2.1 c3
def k0M (μ : Mo) : Nat := enK (fun i => (μ.1 i + 1).toNatClampNeg) (oL μ).toNatClampNeg ((oR μ).toNatClampNeg % 7)
theorem k0_f {w : Wd} {μ : Mo} {row : Nat → Int32} (hn : wn w ≤ 10) (h9 : wf w ≤ 9) (h : relM w μ row) : (∀ i, i < 10 → μ.1 i + 1 = nI (μ.1 i + 1).toNatClampNeg ∧ (μ.1 i + 1).toNatClampNeg ≤ wf w ∧ (wn w ≤ i → (μ.1 i + 1).toNatClampNeg = 0)) ∧ oL μ = nI (oL μ).toNatClampNeg ∧ (oL μ).toNatClampNeg < wf w := by
  obtain ⟨-, v1, v2, ⟨l, hl, el⟩, v4⟩ := h
  refine ⟨fun i hi => ?_, ?_⟩
  · by_cases c : i < wn w
    · rcases (v1 i c).1 with q | ⟨j, hj, ej⟩
      · rw [q]; exact ⟨by decide, by have : ((-1 : Int32) + 1).toNatClampNeg = 0 := by decide
                                     omega, fun _ => by decide⟩
      · rw [ej, nI_1, nI_clamp (by omega)]; exact ⟨rfl, by omega, fun q => by omega⟩
    · rw [v2 i (by omega) hi]; exact ⟨by decide, by have : ((-1 : Int32) + 1).toNatClampNeg = 0 := by decide
                                                    omega, fun _ => by decide⟩
  · rw [el, nI_clamp (by omega)]; exact ⟨rfl, hl⟩
theorem k0_v {w : Wd} {μ : Mo} {row : Nat → Int32} (hn : wn w ≤ 10) (h9 : wf w ≤ 9) (h : relM w μ row) : vK (wn w) (wf w) (k0M μ) := by
  obtain ⟨h1, h2, h3⟩ := k0_f hn h9 h
  exact vK_en h9 (fun i hi => (h1 i hi).2.1) (fun i a b => (h1 i b).2.2 a) h3 (Nat.mod_lt _ (by decide))
abbrev L0 (K : Nat) : List En := [(K, 0, 0, 0)]
theorem L0_wf {n fl K : Nat} (h : vK n fl K) : wfL n fl 0 (L0 K) := by
  refine ⟨by show 0 < 1; omega, by show 1 ≤ 3000; omega, fun i hi => ?_, rfl, rfl, fun i j hij hj => ?_, fun j _ hj => ?_, fun i hi => ?_⟩
  · have : i = 0 := by have : i < 1 := hi; omega
    subst this
    exact ⟨h, by show 0 < 1024; omega, fun q => by omega⟩
  · have hj0 : j = 0 := by have : j < 1 := hj; omega
    have hi0 : i = 0 := by omega
    rw [hi0, hj0]; exact Nat.le_refl _
  · have : j = 0 := by have : j < 1 := hj; omega
    subst this; exact Nat.le_succ _
  · have : i = 0 := by have : i < 1 := hi; omega
    subst this; exact Nat.le_refl _
def skE (w : Wd) (wi : Nat → Int32) (K0 : Nat) (want : Nat → Bool) (deep : Nat) : Option Nat × List En × Bool := if want K0 = true then (some 0, L0 K0, false) else srE (nxS w wi) (fun K => SL (thK K) (wn w)) want deep 3000 0 (L0 K0) false
abbrev rdS6 : Nat := 5
def plK0 (I I2 : sw_I) : Prop := ∀ k, k ≠ rdS6 → I2 120 k = I 120 k
abbrev skC : List Nat := [121, 121 + 1, 121 + 2, 121 + 3, 120, 126, 127] ++ nsC
theorem c_seek_loop {w : Wd} {wi rd : Nat → Int32} {ins : Int32} {a deep : Nat} {T f : Int32} (hdeep : deep ≤ 3000) {I : sw_I} {J : sw_J} {Q : Int32 → sw_I → sw_J → Prop} (hW : isW I w) (hwt : wtC I a T f) (hw : ∀ i, i < 10 → I (121 + 2) i = wi i ∧ I (121 + 3) i = rd i) {a2 : Nat} :
    ∀ (d k rides behind : Nat) (L : List En) (m : Bool) (I2 : sw_I) (J2 : sw_J), k + d = 3000 → wfL (wn w) (wf w) k L → rides ≤ deep → k ≤ behind → behind ≤ L.length → (∀ i, k ≤ i → i < behind → fE L i + 1 = rides) → (∀ i, behind ≤ i → i < L.length → fE L i = rides) → clS I2 J2 L m → I2 120 rdS6 = nI rides → I2 121 3 = ins → eqx gmC I I2 → eqj [125] J J2 → wtC I2 a T f →
      (∀ I3 J3, eqx gmC I I3 → eqj [125] J J3 → clS I3 J3 (srE (nxS w wi) (fun K => SL (thK K) (wn w)) (wtB a T f) deep d k L m).2.1 (srE (nxS w wi) (fun K => SL (thK K) (wn w)) (wtB a T f) deep d k L m).2.2 → (∀ g, (srE (nxS w wi) (fun K => SL (thK K) (wn w)) (wtB a T f) deep d k L m).1 = some g → I3 120 rdS6 = nI (fE (srE (nxS w wi) (fun K => SL (thK K) (wn w)) (wtB a T f) deep d k L m).2.1 g)) → Q (goV (srE (nxS w wi) (fun K => SL (thK K) (wn w)) (wtB a T f) deep d k L m).1) I3 J3) →
      wl_X6_seek_81 a2 Q (d + 1) (nI deep) (-1) (nI behind) (nI k) I2 J2 := by
  have hn := hW.1.2.2.1
  have h9 := hW.1.2.1
  intro d
  induction d with
  | zero =>
    intro k rides behind L m I2 J2 hkd hwf hrd hkb hbl hf1 hf2 hcl hR hin e ej hwt2 h
    obtain rfl : k = 3000 := by omega
    show wb_X6_seek_81 _ _ Q _ _ _ _ I2 J2
    unfold wb_X6_seek_81
    rw [sw_if_f (by decide)]
    exact h I2 J2 e ej hcl (fun g hg => by cases hg)
  | succ d ih =>
    intro k rides behind L m I2 J2 hkd hwf hrd hkb hbl hf1 hf2 hcl hR hin e ej hwt2 h
    have hL := hwf.2.1
    show wb_X6_seek_81 _ _ Q _ _ _ _ I2 J2
    unfold wb_X6_seek_81
    rw [sw_if_t (show nI k < (3000 : Int32) from nI_lt (b := 3000) (by omega) (by decide)), show I2 120 4 = nI L.length from hcl.1]
    unfold srE at h
    have stop : ¬ (k < L.length ∧ m = false ∧ fE L k < deep) → Q (-1) I2 J2 := fun hno => by
      rw [if_neg hno] at h
      exact h I2 J2 e ej hcl (fun g hg => by cases hg)
    by_cases c1 : k < L.length
    · rw [sw_if_t (nI_lt c1 (by omega)), sw_if_t rfl, show I2 120 6 = bI m from hcl.2.1]
      cases hm : m with
      | true =>
        rw [sw_if_f (by decide)]
        exact stop (fun q => by rw [hm] at q; cases q.2.1)
      | false =>
        rw [sw_if_t (by rfl)]
        rw [hm] at hcl h stop
        -- behind the question whether a ride more is due
        have go : ∀ (behind2 : Nat) (I3 : sw_I), eqx [120] I2 I3 → plK0 I2 I3 → I3 120 rdS6 = nI (fE L k + 1) → behind2 ≤ L.length → k < behind2 → fE L k < deep → (∀ i, k ≤ i → i < behind2 → fE L i = fE L k) → (∀ i, behind2 ≤ i → i < L.length → fE L i = fE L k + 1) → wB_X6_seek_144 a2 (wl_X6_seek_81 a2 Q (d + 1)) Q (nI deep) (nI behind2) (nI k) I3 J2 := by
          intro behind2 I3 x3 p3 R3 b1 b2 b3 b4 b5
          have hcond : k < L.length ∧ false = false ∧ fE L k < deep := ⟨c1, rfl, b3⟩
          rw [if_pos hcond] at h
          have cl3 : clS I3 J2 L false := by
            obtain ⟨z1, z2, z3, z4, z5⟩ := hcl
            refine ⟨by rw [p3 _ (by decide)]; exact z1, by rw [p3 _ (by decide)]; exact z2, fun i hi => by rw [x3 _ (by decide)]; exact z3 i hi, by rw [x3 _ (by decide)]; exact z4, by rw [x3 _ (by decide)]; exact z5⟩
          have wt3 : wtC I3 a T f := by
            unfold wtC
            rw [p3 _ (by decide), p3 _ (by decide), p3 _ (by decide)]; exact hwt2
          have e3 : eqx gmC I I3 := e.tr (x3.mono (by decide))
          have W3 : isW I3 w := isW_of (e3.eqm (C := gmC) (F := []) (fun _ q => q) (by decide)) (by decide) (by decide) hW
          unfold wB_X6_seek_144
          refine c_goOn (w := w) (wi := wi) (rd := rd) (ins := ins) W3 wt3 hwf c1 cl3 (fun i hi => by rw [e3 _ (by decide), e3 _ (by decide)]; exact hw i hi) (by rw [x3 _ (by decide)]; exact hin) (fun I4 J4 x4 j4 p4 i4 c4 => ?_)
          intro y hy
          rw [hy, nI_1]
          have hsets : ∀ s, s ∈ SL (thK (kE L k)) (wn w) → s < 1024 := fun s hs => by
            have := (SL_mem hn s hs).1
            have hp10 : 2 ^ wn w ≤ 2 ^ 10 := Nat.pow_le_pow_right (by decide) hn
            omega
          obtain ⟨wf4, far4⟩ := goE_wf (n := wn w) (fl := wf w) (k := k) (nx := nxS w wi (kE L k)) (want := wtB a T f) (fun s _ => nxS_v hW (hwf.2.2.1 k c1).1) (S := SL (thK (kE L k)) (wn w)) (L := L) (m := false) hsets c1 hwf (fE L k + 1) rfl
          obtain ⟨⟨T4, hT4⟩, gn, gs⟩ := goE_M (nxS w wi (kE L k)) (wtB a T f) k (fE L k + 1) (SL (thK (kE L k)) (wn w)) L false
          generalize hG : goE (nxS w wi (kE L k)) (wtB a T f) k (fE L k + 1) (SL (thK (kE L k)) (wn w)) L false = G at h c4 wf4 far4 hT4 gn gs ⊢
          have R4 : I4 120 rdS6 = nI (fE L k + 1) := by rw [p4 _ (by decide) (by decide)]; exact R3
          have hlen : L.length ≤ G.2.1.length := by rw [hT4, List.length_append]; omega
          have old : ∀ i, i < L.length → fE G.2.1 i = fE L i := fun i hi => by unfold fE; rw [hT4, geE_app hi]
          cases hg : G.1 with
          | none =>
            rw [if_pos hg] at h
            refine ih (k + 1) (fE L k + 1) behind2 G.2.1 G.2.2 I4 J4 (by omega) (wfL_next wf4 (by omega)) (by omega) (by omega) (by omega) (fun i a1 a2 => ?_) (fun i a1 a2 => ?_) c4 R4 i4 (e3.tr x4) (ej.tr j4) (wtC_of wt3 p4) h
            · rw [old i (by omega), b4 i (by omega) a2]
            · by_cases ci : i < L.length
              · rw [old i ci]; exact b5 i a1 ci
              · exact far4 i (by omega) a2
          | some g =>
            rw [if_neg (by rw [hg]; intro q; cases q)] at h
            obtain ⟨-, -, g3, g4, -, -⟩ := gs g hg
            have g30 := wf4.2.1
            have fin : Q (nI g) I4 J4 := by
              have := h I4 J4 (e3.tr x4) (ej.tr j4) c4 (fun g9 hg9 => by
                rw [hg] at hg9
                injection hg9 with hg9
                rw [R4, far4 g9 (by omega) (by omega)])
              rw [hg] at this; exact this
            show wb_X6_seek_81 _ _ Q _ _ _ _ I4 J4
            unfold wb_X6_seek_81
            have hne : ¬ goV (some g) = (-1 : Int32) := fun q => by
              have : nI g < 0 := by rw [show nI g = (-1 : Int32) from q]; decide
              exact nI_pos (by omega) this
            refine ⟨fun _ => ⟨fun _ => ?_, fun _ => fin⟩, fun _ => fin⟩
            rw [sw_if_f hne]; exact fin
        by_cases cb : k = behind
        · have hfk : fE L k = rides := hf2 k (by omega) c1
          rw [sw_if_t (by rw [cb]), show I2 120 5 = nI rides from hR]
          by_cases cd : rides < deep
          · rw [sw_if_t (nI_lt cd (by omega))]
            intro I3 e3 y hy
            rw [nI_1] at e3
            have f3 : I3 120 4 = nI L.length := by rw [e3, sw_up_slot _ _ _ _ (by decide)]; exact hcl.1
            rw [hy, f3]
            refine go L.length I3 (by rw [e3]; exact eqx.rf.up (by decide) _ _) (fun k hk => by rw [e3, sw_up_slot _ _ _ _ hk]) (by rw [e3, sw_up_same, hfk]) (Nat.le_refl _) c1 (by omega) (fun i a1 a2 => by rw [hfk]; exact hf2 i (by omega) a2) (fun i a1 a2 => by omega)
          · rw [sw_if_f (nI_nlt (by omega) (by omega))]
            exact stop (fun q => by have := q.2.2; omega)
        · rw [sw_if_f (fun q => cb ((nI_eq (by omega) (by omega)).mp q))]
          have hfk : fE L k + 1 = rides := hf1 k (Nat.le_refl _) (by omega)
          refine go behind I2 eqx.rf (fun _ _ => rfl) (by rw [hfk]; exact hR) hbl (by omega) (by omega) (fun i a1 a2 => by have := hf1 i a1 a2; omega) (fun i a1 a2 => by rw [hf2 i a1 a2, hfk])
    · rw [sw_if_f (nI_nlt (by omega) (by omega))]
      exact stop (fun q => c1 q.1)
theorem c_seek {w : Wd} {μ : Mo} {row : Nat → Int32} {a deep R : Nat} {T f : Int32} (hdeep : deep ≤ 3000) {I : sw_I} {J : sw_J} {Q : Int32 → sw_I → sw_J → Prop} (hW : isW I w) (hE : moE I 13 μ) (hM : relM w μ row) (hR : oR μ = nI R) (hR2 : R < 2 ^ 31) (hwt : wtC I a T f)
    (h : ∀ I3 J3, eqx skC I I3 → eqj [125] J J3 → clS I3 J3 (skE w μ.2.1 (k0M μ) (wtB a T f) deep).2.1 (skE w μ.2.1 (k0M μ) (wtB a T f) deep).2.2 → (∀ g, (skE w μ.2.1 (k0M μ) (wtB a T f) deep).1 = some g → I3 120 rdS6 = nI (fE (skE w μ.2.1 (k0M μ) (wtB a T f) deep).2.1 g)) → Q (goV (skE w μ.2.1 (k0M μ) (wtB a T f) deep).1) I3 J3) : wp_X6_seek 13 (nI deep) I J Q := by
  have hn := hW.1.2.2.1
  have h9 := hW.1.2.1
  obtain ⟨k1, k2, k3⟩ := k0_f hn h9 hM
  have kv := k0_v hn h9 hM
  refine s_J7_fill (by decide) (fun I2 x2 v2 => ?_)
  intro I4 e4 I6 e6 I8 e8
  refine s_X3_copy (by decide) (fun I11 c11 => ?_)
  intro I13 e13
  have x8 : eqx skC I I8 := by rw [e8, e6, e4]; exact (((x2.mono (by decide)).up (by decide) _ _).up (by decide) _ _).up (by decide) _ _
  have x11 : eqx skC I I11 := x8.tr (fun c hc => c11.1 c (by simp at hc; omega))
  have E11 : moE I11 121 μ := moE_copy c11 (moE_cong (fun c c1 c2 => x8 c (by simp; omega)) hE)
  have r11 : I11 13 5 = nI R := by rw [x11 _ (by decide)]; rw [← hR]; exact hE.2.2.2
  rw [r11, show nI R - nI R / (7 : Int32) * (7 : Int32) = nI (R % 7) from nI_rem (b := 7) hR2 (by decide)] at e13
  have x13 : eqx skC I I13 := by rw [e13]; exact x11.up (by decide) _ _
  have m13 : ∀ c, c ≠ 121 → I13 c = I11 c := fun c hc => by rw [e13, sw_up_row _ _ _ hc]
  have eR : (oR μ).toNatClampNeg % 7 = R % 7 := by rw [hR, nI_clamp (by omega)]
  refine s_keyOf (c := fun i => (μ.1 i + 1).toNatClampNeg) (l := (oL μ).toNatClampNeg) (r := R % 7) (fun i hi => ?_) ?_ (by omega) ?_ (Nat.mod_lt _ (by decide)) ?_
  · rw [m13 _ (by decide), (E11.1 i hi).1]
    exact ⟨(k1 i hi).1, by have := (k1 i hi).2.1; omega⟩
  · rw [e13, sw_up_slot _ _ _ _ (by decide)]; rw [← k2]; exact E11.2.2.1
  · rw [e13, sw_up_same]
  rw [show enK (fun i => (μ.1 i + 1).toNatClampNeg) (oL μ).toNatClampNeg (R % 7) = k0M μ by unfold k0M; rw [eR]]
  have pl11 : I11 120 = I8 120 := c11.1 _ (by decide)
  have pl13 : I13 120 = I8 120 := by rw [m13 _ (by decide), pl11]
  have sl13 : ∀ s, s < 4096 → I13 127 s = 0 := fun s hs => by
    rw [m13 _ (by decide), c11.1 _ (by decide), e8, sw_up_cell _ _ _ _ (by decide), e6, sw_up_cell _ _ _ _ (by decide), e4, sw_up_cell _ _ _ _ (by decide)]; exact v2 s hs
  have cl13 : clS I13 J [] false := by
    refine ⟨?_, ?_, fun i hi => absurd hi (Nat.not_lt_zero _), hs_0 (fun s hs => ocC_0.mpr (sl13 s hs)), fun s hs => Or.inl (sl13 s hs)⟩
    · rw [pl13, e8, sw_up_slot _ _ _ _ (by decide), e6, sw_up_slot _ _ _ _ (by decide), e4, sw_up_same]; rfl
    · rw [pl13, e8, sw_up_same]; rfl
  have wt13 : wtC I13 a T f := by
    have : ∀ k, k ≠ 4 → k ≠ 5 → k ≠ 6 → I13 120 k = I 120 k := fun k a1 a2 a3 => by
      rw [pl13, e8, sw_up_slot _ _ _ _ a3, e6, sw_up_slot _ _ _ _ a2, e4, sw_up_slot _ _ _ _ a1, x2 _ (by decide)]
    unfold wtC
    rw [this _ (by decide) (by decide) (by decide), this _ (by decide) (by decide) (by decide), this _ (by decide) (by decide) (by decide)]; exact hwt
  have r13 : I13 120 rdS6 = nI 0 := by rw [pl13, e8, sw_up_slot _ _ _ _ (by decide), e6, sw_up_same]; rfl
  refine c_add (far := 0) (L := []) (m := false) (par := 0) (s := 0) (by decide) (fun i hi => absurd hi (Nat.not_lt_zero _)) (vK_lt h9 kv) (by omega) (by omega) cl13 (fun g1 => by cases g1) (fun g1 g2 => absurd g2 (by decide)) (fun g1 g2 I14 J14 x14 j14 p14 c14 => ?_)
  have x14' : eqx skC I I14 := x13.tr (x14.mono (by decide))
  have c14' : clS I14 J14 (L0 (k0M μ)) false := c14
  have wf0 := L0_wf kv
  refine s_isWanted (L := L0 (k0M μ)) (m := false) (i := 0) (a := a) (T := T) (f := f) (show 0 < 1 by omega) (show 1 ≤ 3000 by omega) (vK_lt h9 kv) c14' (wtC_of wt13 p14) ?_
  have r14 : I14 120 rdS6 = nI 0 := by rw [p14 _ (by decide) (by decide)]; exact r13
  unfold skE at h
  have kE0 : kE (L0 (k0M μ)) 0 = k0M μ := rfl
  rw [kE0]
  cases hw0 : wtB a T f (k0M μ)
  · rw [sw_if_t (by rfl)]
    rw [hw0, if_neg (by decide)] at h
    have W14 : isW I14 w := isW_of (x14'.eqm (C := skC) (F := []) (fun _ q => q) (by decide)) (by decide) (by decide) hW
    have E14 : ∀ i, i < 10 → I14 (121 + 2) i = μ.2.1 i ∧ I14 (121 + 3) i = μ.2.2.1 i := fun i hi => by
      rw [x14 _ (by decide), x14 _ (by decide), m13 _ (by decide), m13 _ (by decide)]; exact (E11.1 i hi).2
    refine ⟨3001, c_seek_loop (w := w) (wi := μ.2.1) (rd := μ.2.2.1) (ins := oI μ) (a := a) (T := T) (f := f) hdeep W14 (wtC_of wt13 p14) E14 3000 0 0 0 (L0 (k0M μ)) false I14 J14 (by omega) wf0 (Nat.zero_le _) (Nat.le_refl _) (Nat.zero_le _) (fun i a1 a2 => by omega) (fun i a1 a2 => ?_) c14' r14 ?_ eqx.rf eqj.rf (wtC_of wt13 p14) (fun I3 J3 z1 z2 z3 z4 => h I3 J3 (x14'.tr (z1.mono (by decide))) (j14.tr z2) z3 z4)⟩
    · have : i = 0 := by have : i < 1 := a2; omega
      subst this; rfl
    · rw [x14 _ (by decide), e13, sw_up_slot _ _ _ _ (by decide)]; exact E11.2.1
  · rw [sw_if_f (by decide)]
    rw [hw0, if_pos rfl] at h
    exact h I14 J14 x14' j14 c14' (fun g hg => by injection hg with hg; subst hg; exact r14)
