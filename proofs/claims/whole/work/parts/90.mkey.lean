/-! the reference's search: keys and its table -/
theorem s_packed {b n l R : Nat} {p : Nat → Nat} (hn : n ≤ 10) {I : sw_I} {J : sw_J} {Q : Int64 → sw_I → sw_J → Prop} (hr : I 140 4 = nI n) (hp : ∀ i, i < n → I b i = nI (p i) ∧ p i < 16) (hl : I b 31 = nI l) (hl2 : l < 16) (hR : I b 32 = nI R) (hR2 : R < 2 ^ 31) (h : Q (lN ((mS p n * 16 + l) * 8 + R % 7)) I J) : wp_X10_packed b 33 I J Q := by
  have hlt : ∀ k, k ≤ n → mS p k < 2 ^ 40 := fun k hk => by
    have h1 := mS_lt (p := p) (k := k) (fun i hi => (hp i (by omega)).2)
    have h2 : (16 : Nat) ^ k ≤ 16 ^ 10 := Nat.pow_le_pow_right (by decide) (by omega)
    have e : (16 : Nat) ^ 10 = 2 ^ 40 := by decide
    omega
  have loop : ∀ d k, k + d = n → wl_X10_packed_5 b 33 Q (d + 1) (lN (mS p k)) (nI k) I J := by
    intro d
    induction d with
    | zero =>
      intro k hk
      obtain rfl : k = n := by omega
      show wb_X10_packed_5 _ _ _ Q _ _ I J
      unfold wb_X10_packed_5
      have hk2 := hlt k (Nat.le_refl _)
      have h7 : R % 7 < 7 := Nat.mod_lt _ (by decide)
      rw [hr, sw_if_f (nI_nlt (Nat.le_refl _) (by omega))]
      refine ⟨vp0 (i := 31) (by omega) (by decide), vp0 (i := 32) (by omega) (by decide), ?_⟩
      rw [show I b (31 : Int32).toNatClampNeg = nI l from hl, show I b (32 : Int32).toNatClampNeg = nI R from hR, show nI R - nI R / (7 : Int32) * (7 : Int32) = nI (R % 7) from nI_rem (b := 7) hR2 (by decide), lN_or (by omega) hl2, lN_or3 (by omega) (by omega)]
      exact h
    | succ d ih =>
      intro k hk
      show wb_X10_packed_5 _ _ _ Q _ _ I J
      unfold wb_X10_packed_5
      have hk2 := hlt k (by omega)
      rw [hr, sw_if_t (nI_lt (by omega) (by omega)), nI_clamp (by omega), (hp k (by omega)).1]
      refine ⟨vp0 (by omega) (by decide), fun y hy y2 hy2 => ?_⟩
      rw [lN_or (by omega) (hp k (by omega)).2] at hy
      rw [hy, hy2, nI_1]
      exact ih (k + 1) (by omega)
  exact ⟨n + 1, loop n 0 (by omega)⟩
theorem s_unpacks {n fl K k : Nat} (hn : n ≤ 10) (hfl : fl ≤ 9) (hK : vK n fl K) (hk : k < 3000) {I : sw_I} {J : sw_J} {Q : sw_I → sw_J → Prop} (hr : I 140 4 = nI n) (hJ : J 161 k = lN (mkK n K)) (h : ∀ I2, eqx [145] I I2 → (∀ i, i < n → I2 145 i = nI (plN K i)) → (∀ i, 10 ≤ i → i < 30 → I2 145 i = I 145 i) → I2 145 30 = 0 → I2 145 31 = nI (lfK K) → I2 145 32 = nI (rrK K) → Q I2 J) : wp_X10_unpacks (nI k) I J Q := by
  have hX := mk_lt hfl hn hK
  have h3 := hK.2.2.1
  have h4 := hK.2.2.2
  unfold wp_X10_unpacks
  rw [nI_clamp (by omega), hJ]
  refine ⟨vp0 hk (by decide), fun y hy I5 e5 I8 e8 y10 e10 y12 e12 => ?_⟩
  rw [hy] at e5 e8 e10
  have d7 : mkK n K % 8 = rrK K := by unfold mkK; omega
  have d15 : mkK n K / 8 % 16 = lfK K := by unfold mkK; omega
  have dm : mkK n K / 128 = mS (plN K) n := by unfold mkK; omega
  rw [lN_7 (by omega), lN_i, d7] at e5
  rw [show (3 : Int32) = nI 3 from rfl, lN_sshr (by omega) (by decide), lN_15 (by omega), lN_i, show (2 : Nat) ^ 3 = 8 from rfl, d15] at e8
  rw [show (7 : Int32) = nI 7 from rfl, lN_sshr (by omega) (by decide), show (2 : Nat) ^ 7 = 128 from rfl, dm] at e10
  have x8 : eqx [145] I I8 := by rw [e8, e5]; exact (eqx.rf.up (by decide) _ _).up (by decide) _ _
  rw [x8 _ (by decide), hr] at e12
  rw [e10, e12]
  have t31 : I8 145 31 = nI (lfK K) := by rw [e8]; exact sw_up_same _ _ _ _
  have t32 : I8 145 32 = nI (rrK K) := by rw [e8, sw_up_slot _ _ _ _ (by decide), e5]; exact sw_up_same _ _ _ _
  have tlo : ∀ i, i < 31 → I8 145 i = I 145 i := fun i hi => by
    rw [e8, sw_up_slot _ _ _ _ (show i ≠ (31 : Int32).toNatClampNeg from fun q => by have : (31 : Int32).toNatClampNeg = 31 := rfl; omega), e5, sw_up_slot _ _ _ _ (show i ≠ (32 : Int32).toNatClampNeg from fun q => by have : (32 : Int32).toNatClampNeg = 32 := rfl; omega)]
  have hlt : ∀ d, d ≤ n → mS (plN K) d < 2 ^ 40 := fun d hd => by
    have h1 := mS_lt (p := plN K) (k := d) (fun i hi => by have := plN_lt hfl hK (show i < 10 by omega); omega)
    have h2 : (16 : Nat) ^ d ≤ 16 ^ 10 := Nat.pow_le_pow_right (by decide) (by omega)
    have e : (16 : Nat) ^ 10 = 2 ^ 40 := by decide
    omega
  have loop : ∀ d I2, d ≤ n → eqx [145] I I2 → (∀ i, d ≤ i → i < n → I2 145 i = nI (plN K i)) → (∀ i, 10 ≤ i → i < 30 → I2 145 i = I 145 i) → I2 145 31 = nI (lfK K) → I2 145 32 = nI (rrK K) → wl_X10_unpacks_48 Q (d + 1) (lN (mS (plN K) d)) (dn d) I2 J := by
    intro d
    induction d with
    | zero =>
      intro I2 _ x2 h1 h2 g31 g32
      show wb_X10_unpacks_48 _ Q _ _ I2 J
      unfold wb_X10_unpacks_48
      rw [sw_if_t dn_0]
      intro I3 e3
      have t30 : (30 : Int32).toNatClampNeg = 30 := rfl
      rw [t30] at e3
      refine h I3 (by rw [e3]; exact x2.up (by decide) _ _) (fun i hi => ?_) (fun i a1 a2 => ?_) ?_ ?_ ?_
      · rw [e3, sw_up_slot _ _ _ _ (by omega)]; exact h1 i (by omega) hi
      · rw [e3, sw_up_slot _ _ _ _ (by omega)]; exact h2 i a1 a2
      · rw [e3, sw_up_same]
      · rw [e3, sw_up_slot _ _ _ _ (by decide)]; exact g31
      · rw [e3, sw_up_slot _ _ _ _ (by decide)]; exact g32
    | succ d ih =>
      intro I2 hd x2 h1 h2 g31 g32
      have hp := plN_lt hfl hK (show d < 10 by omega)
      have hm := hlt (d + 1) hd
      show wb_X10_unpacks_48 _ Q _ _ I2 J
      unfold wb_X10_unpacks_48
      rw [dn_s, sw_if_f (nI_pos (by omega)), nI_clamp (by omega), lN_15 (by omega), lN_i]
      refine ⟨vp0 (by omega) (by decide), fun I6 e6 y8 e8 y9 e9 => ?_⟩
      rw [show (4 : Int32) = nI 4 from rfl, lN_sshr (by omega) (by decide)] at e8
      have a0 : mS (plN K) (d + 1) = mS (plN K) d * 16 + plN K d := rfl
      have a1 : mS (plN K) (d + 1) % 16 = plN K d := by omega
      have a2 : mS (plN K) (d + 1) / 2 ^ 4 = mS (plN K) d := by omega
      rw [a1] at e6
      rw [a2] at e8
      rw [e8, e9, dn_m]
      refine ih I6 (by omega) (by rw [e6]; exact x2.up (by decide) _ _) (fun i b1 b2 => ?_) (fun i b1 b2 => ?_) ?_ ?_
      · rw [e6]
        by_cases c : i = d
        · rw [c, sw_up_same]
        · rw [sw_up_slot _ _ _ _ c]; exact h1 i (by omega) b2
      · rw [e6, sw_up_slot _ _ _ _ (by omega)]; exact h2 i b1 b2
      · rw [e6, sw_up_slot _ _ _ _ (by omega)]; exact g31
      · rw [e6, sw_up_slot _ _ _ _ (by omega)]; exact g32
  exact ⟨n + 1, loop n I8 (Nat.le_refl _) x8 (fun i a b => by omega) (fun i a b => tlo i (by omega)) t31 t32⟩
def hM (X : Nat) : Nat := (((((lN X ^^^ (((lN X).toUInt64 >>> ((23 : Int32).toInt64.toUInt64 &&& Int64.toUInt64 63)).toInt64)) * (31 : Int64)) &&& (9223372036854775807 : Int64)) - (((lN X ^^^ (((lN X).toUInt64 >>> ((23 : Int32).toInt64.toUInt64 &&& Int64.toUInt64 63)).toInt64)) * (31 : Int64)) &&& (9223372036854775807 : Int64)) / (16384 : Int64) * (16384 : Int64)).toInt32).toNatClampNeg
theorem hM_g (x : Int64) : ((x &&& (9223372036854775807 : Int64)) - (x &&& (9223372036854775807 : Int64)) / (16384 : Int64) * (16384 : Int64)).toInt32 = nI (((x &&& (9223372036854775807 : Int64)) - (x &&& (9223372036854775807 : Int64)) / (16384 : Int64) * (16384 : Int64)).toInt32).toNatClampNeg ∧ (((x &&& (9223372036854775807 : Int64)) - (x &&& (9223372036854775807 : Int64)) / (16384 : Int64) * (16384 : Int64)).toInt32).toNatClampNeg < 16384 := by
  obtain ⟨v, hv, ev⟩ := wb_of x
  have e : x &&& (9223372036854775807 : Int64) = lN (v % 2 ^ 63) := by rw [ev]; exact wb_mask (k := 63) hv (by decide)
  have hl : v % 2 ^ 63 < 2 ^ 63 := Nat.mod_lt _ (by decide)
  have hr := nJ_rem (a := v % 2 ^ 63) (b := 16384) hl (by decide)
  have hr2 : lN (v % 2 ^ 63) - lN (v % 2 ^ 63) / (16384 : Int64) * (16384 : Int64) = lN (v % 2 ^ 63 % 16384) := hr
  have hl2 : v % 2 ^ 63 % 16384 < 16384 := Nat.mod_lt _ (by decide)
  generalize v % 2 ^ 63 = q at *
  rw [e, hr2, lN_i, nI_clamp (by omega)]
  exact ⟨rfl, hl2⟩
theorem hM_e (X : Nat) : ((((lN X ^^^ (((lN X).toUInt64 >>> ((23 : Int32).toInt64.toUInt64 &&& Int64.toUInt64 63)).toInt64)) * (31 : Int64)) &&& (9223372036854775807 : Int64)) - (((lN X ^^^ (((lN X).toUInt64 >>> ((23 : Int32).toInt64.toUInt64 &&& Int64.toUInt64 63)).toInt64)) * (31 : Int64)) &&& (9223372036854775807 : Int64)) / (16384 : Int64) * (16384 : Int64)).toInt32 = nI (hM X) ∧ hM X < 16384 := hM_g _
def ocM (T : Nat → Int32) (s : Nat) : Option Nat := if T s < 0 then none else some (T s).toNatClampNeg
theorem ocM_0 {T : Nat → Int32} {s : Nat} : ocM T s = none ↔ T s < 0 := by
  unfold ocM; split
  · rename_i h; exact ⟨fun _ => h, fun _ => rfl⟩
  · rename_i h; exact ⟨(fun q => by cases q), fun q => absurd q h⟩
theorem ocM_s {T : Nat → Int32} {s j : Nat} (hj : j < 3000) (h : T s = nI j) : ocM T s = some j := by
  unfold ocM
  rw [if_neg (by rw [h]; exact nI_pos (by omega)), h, nI_clamp (by omega)]
theorem ocM_c {T T2 : Nat → Int32} {s : Nat} (h : T s = T2 s) : ocM T s = ocM T2 s := by unfold ocM; rw [h]
def mlS (n : Nat) (I : sw_I) (J : sw_J) (L : List En) (m : Bool) : Prop := I 140 48 = nI L.length ∧ I 140 49 = bI m ∧ (∀ i, i < L.length → J 161 i = lN (mkK n (kE L i)) ∧ (0 < i → I 162 i = nI (pE L i)) ∧ I 163 i = nI (sE L i) ∧ I 164 i = nI (fE L i)) ∧ hsI 16384 hM (ocM (I 165)) (fun i => mkK n (kE L i)) L.length ∧ ∀ s, s < 16384 → I 165 s < 0 ∨ ∃ j, j < L.length ∧ I 165 s = nI j
abbrev mfC : List Nat := [162, 163, 164, 165]
abbrev mfF : List Nat := [48, 49]
theorem m_slotOf {n fl K : Nat} {L : List En} {m : Bool} (hn : n ≤ 10) (hfl : fl ≤ 9) (hL : L.length ≤ 3000) (hk : ∀ i, i < L.length → vK n fl (kE L i)) (hK : vK n fl K) {I : sw_I} {J : sw_J} {Q : Int32 → sw_I → sw_J → Prop} (hC1 : mlS n I J L m)
    (h1 : kInB L K = true → ∀ s j, s < 16384 → j < L.length → I 165 s = nI j → Q (nI s) I J)
    (h2 : ¬ kInB L K = true → ∀ d, d < 16384 → I 165 ((hM (mkK n K) + d) % 16384) < 0 → (∀ e, e < d → ¬ ocM (I 165) ((hM (mkK n K) + e) % 16384) = none) → Q (nI ((hM (mkK n K) + d) % 16384)) I J) : wp_X10_slotOf (lN (mkK n K)) I J Q := by
  obtain ⟨c1, c2, c3, c4, c5⟩ := id hC1
  obtain ⟨he, hb⟩ := hM_e (mkK n K)
  have hX := mk_lt hfl hn hK
  intro y hy
  rw [he] at hy
  rw [hy]
  obtain ⟨d, hd, hEnd, hmin⟩ := hs_find c4 (by omega) (mkK n K) hb
  have full : ∀ e, e < d → ∃ j, j < L.length ∧ I 165 ((hM (mkK n K) + e) % 16384) = nI j ∧ ¬ mkK n (kE L j) = mkK n K := by
    intro e he
    have hlt : (hM (mkK n K) + e) % 16384 < 16384 := Nat.mod_lt _ (by decide)
    have hno := hmin e he
    rcases c5 _ hlt with z | ⟨j, hj, ej⟩
    · exact absurd (Or.inl (ocM_0.mpr z)) hno
    · exact ⟨j, hj, ej, fun q => hno (Or.inr ⟨j, ocM_s (by omega) ej, q⟩)⟩
  have hlt : (hM (mkK n K) + d) % 16384 < 16384 := Nat.mod_lt _ (by decide)
  have fin : wb_X10_slotOf_20 (wl_X10_slotOf_20 Q 0) Q (lN (mkK n K)) (nI ((hM (mkK n K) + d) % 16384)) I J := by
    unfold wb_X10_slotOf_20
    rw [nI_clamp (by omega)]
    refine ⟨vp0 hlt (by decide), ?_⟩
    rcases c5 _ hlt with z | ⟨j, hj, ej⟩
    · rw [sw_if_t z]
      have hnew := hs_new c4 (ocM_0.mpr z) hmin
      have hnin : ¬ kInB L K = true := fun q => by
        obtain ⟨i, hi, ei⟩ := (kIn_dec L K).mpr q
        exact hnew i hi (by rw [ei])
      refine h2 hnin d hd z (fun e he q => ?_)
      obtain ⟨j, hj, ej, _⟩ := full e he
      rw [ocM_s (by omega) ej] at q; cases q
    · rw [ej, sw_if_f (nI_pos (by omega)), nI_clamp (by omega), (c3 j hj).1]
      refine ⟨vp0 hlt (by decide), vp0 (by omega) (by decide), ?_⟩
      have hEq : mkK n (kE L j) = mkK n K := by
        rcases hEnd with q | ⟨j2, q1, q2⟩
        · rw [ocM_s (by omega) ej] at q; cases q
        · rw [ocM_s (by omega) ej] at q1
          cases q1; exact q2
      rw [hEq, sw_if_t ((lgc_eq _ _).mpr rfl)]
      exact h1 ((kIn_dec L K).mp ⟨j, hj, mk_inj hfl hn (hk j hj) hK hEq⟩) _ j hlt hj ej
  have loop : ∀ f e, e + f = d → wl_X10_slotOf_20 Q (f + 1) (lN (mkK n K)) (nI ((hM (mkK n K) + e) % 16384)) I J := by
    intro f
    induction f with
    | zero =>
      intro e hed
      obtain rfl : e = d := by omega
      exact fin
    | succ f ih =>
      intro e hed
      have hlt2 : (hM (mkK n K) + e) % 16384 < 16384 := Nat.mod_lt _ (by decide)
      obtain ⟨j, hj, ej, hne⟩ := full e (by omega)
      have hkj := mk_lt hfl hn (hk j hj)
      show wb_X10_slotOf_20 _ Q _ _ I J
      unfold wb_X10_slotOf_20
      rw [nI_clamp (by omega), ej, sw_if_f (nI_pos (by omega)), nI_clamp (by omega), (c3 j hj).1]
      refine ⟨vp0 hlt2 (by decide), vp0 hlt2 (by decide), vp0 (by omega) (by decide), ?_⟩
      rw [sw_if_f (fun q => hne ((lN_inj (by omega) (by omega)).mp ((lgc_eq _ _).mp q)))]
      intro y2 hy2
      have e2 : y2 = nI ((hM (mkK n K) + (e + 1)) % 16384) := by
        rw [hy2, nI_1]
        have : nI ((hM (mkK n K) + e) % 16384 + 1) - nI ((hM (mkK n K) + e) % 16384 + 1) / (16384 : Int32) * (16384 : Int32) = nI (((hM (mkK n K) + e) % 16384 + 1) % 16384) := nI_rem (b := 16384) (by omega) (by decide)
        rw [this, mod_s]
      rw [e2]
      exact ih (e + 1) (by omega)
  exact ⟨d + 1, by have := loop d 0 (by omega); rw [show (hM (mkK n K) + 0) % 16384 = hM (mkK n K) by rw [Nat.add_zero (hM (mkK n K))]; exact Nat.mod_eq_of_lt hb] at this; exact this⟩
/-- the row 'next' is a state's -/
def nxR (n K R : Nat) (row : Nat → Int32) : Prop := (∀ i, i < n → row i = nI (plN K i)) ∧ row 31 = nI (lfK K) ∧ row 32 = nI R ∧ R % 7 = rrK K ∧ R < 2 ^ 31
theorem m_finds {n fl K par s far R : Nat} {L : List En} {m : Bool} {x1 : Int32} (hn : n ≤ 10) (hfl : fl ≤ 9) (hL : L.length ≤ 3000) (hk : ∀ i, i < L.length → vK n fl (kE L i)) (hK : vK n fl K) {I : sw_I} {J : sw_J} {Q : sw_I → sw_J → Prop} (hr : I 140 4 = nI n) (hrow : nxR n K R (I 145)) (hx : (x1 = -1 ∧ L = [] ∧ par = 0 ∧ far = 0) ∨ (x1 = nI par ∧ par < L.length ∧ far = fE L par + 1 ∧ fE L par < 3000)) (hC1 : mlS n I J L m)
    (h1 : kInB L K = true → Q I J)
    (h2 : ¬ kInB L K = true → 3000 ≤ L.length → ∀ I2, eqm mfC mfF I I2 → mlS n I2 J L true → Q I2 J)
    (h3 : ¬ kInB L K = true → ¬ 3000 ≤ L.length → ∀ I2 J2, eqm mfC mfF I I2 → eqj [161] J J2 → mlS n I2 J2 (L ++ [(K, par, s, far)]) m → Q I2 J2) : wp_X10_finds x1 (nI s) I J Q := by
  obtain ⟨c1, c2, c3, c4, c5⟩ := id hC1
  obtain ⟨r1, r2, r3, r4, r5⟩ := hrow
  have k3 := hK.2.2.1
  unfold wp_X10_finds
  refine s_packed (p := plN K) (l := lfK K) (R := R) hn hr (fun i hi => ⟨r1 i hi, by have := plN_lt hfl hK (show i < 10 by omega); omega⟩) r2 (by omega) r3 r5 ?_
  rw [show (mS (plN K) n * 16 + lfK K) * 8 + R % 7 = mkK n K by unfold mkK; rw [r4]]
  refine m_slotOf hn hfl hL hk hK hC1 (fun g1 q j hq hj ej => ?_) (fun g1 d hd z hch => ?_)
  · rw [nI_clamp (by omega), ej, sw_if_f (nI_pos (by omega))]
    exact ⟨vp0 hq (by decide), h1 g1⟩
  · have hlt : (hM (mkK n K) + d) % 16384 < 16384 := Nat.mod_lt _ (by decide)
    rw [nI_clamp (by omega), sw_if_t z, show I 140 48 = nI L.length from c1]
    refine ⟨vp0 hlt (by decide), ?_⟩
    by_cases cl : 3000 ≤ L.length
    · rw [sw_if_t (show nI L.length = (3000 : Int32) by rw [show L.length = 3000 by omega]; rfl)]
      intro I2 e2
      have q2 : eqm mfC mfF I I2 := by rw [e2]; exact eqm.rf.upF (by decide) _
      refine h2 g1 cl I2 q2 ⟨?_, ?_, fun i hi => ?_, ?_, ?_⟩
      · rw [e2, sw_up_slot _ _ _ _ (by decide)]; exact c1
      · rw [e2, sw_up_same]; rfl
      · rw [e2, sw_up_cell _ _ _ _ (by decide), sw_up_cell _ _ _ _ (by decide), sw_up_cell _ _ _ _ (by decide)]; exact c3 i hi
      · rw [e2, sw_up_row _ _ _ (by decide)]; exact c4
      · rw [e2, sw_up_row _ _ _ (by decide)]; exact c5
    · rw [sw_if_f (show ¬ nI L.length = (3000 : Int32) from fun q => by have := (nI_eq (b := 3000) (by omega) (by omega)).mp q; omega), nI_clamp (by omega)]
      refine ⟨vp0 (by omega) (by decide), fun J11 e11 => ⟨vp0 (by omega) (by decide), fun I14 e14 => ?_⟩⟩
      have f14 : I14 140 48 = nI L.length := by rw [e14, sw_up_cell _ _ _ _ (by decide)]; exact c1
      rw [f14, nI_clamp (by omega)]
      refine ⟨vp0 (by omega) (by decide), fun I17 e17 => ?_⟩
      have f17 : I17 140 48 = nI L.length := by rw [e17, sw_up_cell _ _ _ _ (by decide)]; exact f14
      rw [f17]
      have hlen : (L ++ [(K, par, s, far)]).length = L.length + 1 := by rw [List.length_append]; rfl
      have fin : ∀ s2, s2 = nI far → wB_X10_finds_97 Q (nI ((hM (mkK n K) + d) % 16384)) (nI L.length) s2 I17 J11 := by
        intro s2 es
        unfold wB_X10_finds_97
        rw [nI_clamp (by omega)]
        refine ⟨vp0 (by omega) (by decide), fun I18 e18 => ?_⟩
        have f18 : I18 140 48 = nI L.length := by rw [e18, sw_up_cell _ _ _ _ (by decide)]; exact f17
        rw [f18, nI_clamp (by omega)]
        refine ⟨vp0 hlt (by decide), fun I19 e19 I20 e20 => ?_⟩
        have f19 : I19 140 48 = nI L.length := by rw [e19, sw_up_cell _ _ _ _ (by decide)]; exact f18
        rw [f19, nI_1] at e20
        have fr : I20 162 = fun x => if x = L.length then x1 else I 162 x := by
          rw [e20, sw_up_row _ _ _ (by decide), e19, sw_up_row _ _ _ (by decide), e18, sw_up_row _ _ _ (by decide), e17, sw_up_row _ _ _ (by decide), e14, sw_up_rowf]
        have by20 : I20 163 = fun x => if x = L.length then nI s else I 163 x := by
          rw [e20, sw_up_row _ _ _ (by decide), e19, sw_up_row _ _ _ (by decide), e18, sw_up_row _ _ _ (by decide), e17, sw_up_rowf, e14, sw_up_row _ _ _ (by decide)]
        have fa20 : I20 164 = fun x => if x = L.length then s2 else I 164 x := by
          rw [e20, sw_up_row _ _ _ (by decide), e19, sw_up_row _ _ _ (by decide), e18, sw_up_rowf, e17, sw_up_row _ _ _ (by decide), e14, sw_up_row _ _ _ (by decide)]
        have sl20 : I20 165 = fun x => if x = (hM (mkK n K) + d) % 16384 then nI L.length else I 165 x := by
          rw [e20, sw_up_row _ _ _ (by decide), e19, sw_up_rowf, e18, sw_up_row _ _ _ (by decide), e17, sw_up_row _ _ _ (by decide), e14, sw_up_row _ _ _ (by decide)]
        refine h3 g1 cl I20 J11 ?_ (by rw [e11]; exact eqj.rf.up (by decide) _ _) ⟨?_, ?_, fun i hi => ?_, ?_, fun x hx9 => ?_⟩
        · rw [e20, e19, e18, e17, e14]; exact ((((eqm.rf.upC (by decide) (by decide) _ _).upC (by decide) (by decide) _ _).upC (by decide) (by decide) _ _).upC (by decide) (by decide) _ _).upF (by decide) _
        · rw [e20, sw_up_same, hlen]
        · rw [e20, sw_up_slot _ _ _ _ (by decide), e19, sw_up_cell _ _ _ _ (by decide), e18, sw_up_cell _ _ _ _ (by decide), e17, sw_up_cell _ _ _ _ (by decide), e14, sw_up_cell _ _ _ _ (by decide)]; exact c2
        · rw [hlen] at hi
          rw [fr, by20, fa20, e11]
          dsimp only
          by_cases ci : i = L.length
          · rw [ci, sw_up_same, if_pos rfl, if_pos rfl, if_pos rfl]
            unfold kE pE sE fE; rw [geE_end]
            refine ⟨rfl, fun q => ?_, rfl, es⟩
            rcases hx with ⟨a1, a2, a3, a4⟩ | ⟨a1, a2, a3, a4⟩
            · rw [a2] at q; exact absurd q (by decide)
            · exact a1
          · rw [sw_up_slot _ _ _ _ ci, if_neg ci, if_neg ci, if_neg ci]
            unfold kE pE sE fE; rw [geE_app (by omega)]
            exact c3 i (by omega)
        · rw [hlen]
          refine hs_cong (hs_ins (F2 := fun i => mkK n (kE (L ++ [(K, par, s, far)]) i)) (K := mkK n K) c4 hd (ocM_0.mpr z) hch (fun j hj => by unfold kE; rw [geE_app hj]) (by unfold kE; rw [geE_end])) (by decide) (fun x hx9 => ?_) (fun _ _ => rfl)
          rw [sl20]
          unfold upO
          by_cases cx : x = (hM (mkK n K) + d) % 16384
          · rw [if_pos cx]; exact ocM_s (by omega) (if_pos cx)
          · rw [if_neg cx]; exact ocM_c (if_neg cx)
        · rw [sl20, hlen]
          dsimp only
          by_cases cx : x = (hM (mkK n K) + d) % 16384
          · rw [if_pos cx]; exact Or.inr ⟨L.length, by omega, rfl⟩
          · rw [if_neg cx]
            rcases c5 x hx9 with q | ⟨j, hj, ej⟩
            · exact Or.inl q
            · exact Or.inr ⟨j, by omega, ej⟩
      rcases hx with ⟨a1, a2, a3, a4⟩ | ⟨a1, a2, a3, a4⟩
      · rw [a1, sw_if_t (by decide)] at *
        exact fin 0 (by rw [a4]; rfl)
      · have ef : I17 164 par + 1 = nI far := by
          rw [e17, sw_up_cell _ _ _ _ (by decide), e14, sw_up_cell _ _ _ _ (by decide), (c3 par a2).2.2.2, nI_1, a3]
        rw [a1, sw_if_f (nI_pos (by omega)), nI_clamp (by omega)]
        exact ⟨vp0 (by omega) (by decide), fin _ ef⟩
