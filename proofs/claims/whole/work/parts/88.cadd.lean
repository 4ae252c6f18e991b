/-! the class's search: its table -/
theorem i_or {a b : Nat} (ha : a < 2 ^ 20) (hb : b < 1024) : (nI a <<< ((10 : Int32) &&& 31)) ||| nI b = nI (a * 1024 + b) := by
  apply Int32.toBitVec_inj.mp
  apply BitVec.eq_of_toNat_eq
  rw [Int32.toBitVec_or, Int32.toBitVec_shiftLeft, BitVec.toNat_or, BitVec.shiftLeft_eq', BitVec.toNat_shiftLeft, show (10 : Int32) = nI 10 from rfl, s_l 10 (by decide)]
  show (BitVec.ofNat 32 a).toNat <<< 10 % 2 ^ 32 ||| (BitVec.ofNat 32 b).toNat = (BitVec.ofNat 32 _).toNat
  rw [BitVec.toNat_ofNat, BitVec.toNat_ofNat, BitVec.toNat_ofNat, Nat.mod_eq_of_lt (show a < 2 ^ 32 by omega), Nat.mod_eq_of_lt (show b < 2 ^ 32 by omega), Nat.shiftLeft_eq, Nat.mod_eq_of_lt (by omega), Nat.mod_eq_of_lt (show a * 1024 + b < 2 ^ 32 by omega)]
  have := Nat.two_pow_add_eq_or_of_lt (i := 10) (b := b) (by omega) a
  rw [Nat.mul_comm a (2 ^ 10), ← this, Nat.mul_comm]
theorem i_shr {x : Nat} (hx : x < 2 ^ 31) : nI x >>> ((10 : Int32) &&& 31) = nI (x / 1024) := by
  apply Int32.toBitVec_inj.mp
  apply BitVec.eq_of_toNat_eq
  have hm : (nI x).toBitVec.msb = false := by
    show (BitVec.ofNat 32 x).msb = false
    rw [BitVec.msb_eq_false_iff_two_mul_lt, BitVec.toNat_ofNat, Nat.mod_eq_of_lt (by omega)]; omega
  rw [Int32.toBitVec_shiftRight, BitVec.sshiftRight_eq', BitVec.sshiftRight_eq_of_msb_false hm, BitVec.toNat_ushiftRight, show (10 : Int32) = nI 10 from rfl, s_l 10 (by decide)]
  show (BitVec.ofNat 32 x).toNat >>> 10 = (BitVec.ofNat 32 _).toNat
  rw [BitVec.toNat_ofNat, BitVec.toNat_ofNat, Nat.mod_eq_of_lt (show x < 2 ^ 32 by omega), Nat.shiftRight_eq_div_pow, Nat.mod_eq_of_lt (by omega)]
theorem i_low (x : Nat) : nI x &&& (1023 : Int32) = nI (x % 1024) := by
  rw [show (1023 : Int32) = nI 1023 from rfl, nI_and]
  congr 1
  exact Nat.and_two_pow_sub_one_eq_mod x 10
theorem and_4095 (x : Nat) : x &&& 4095 = x % 4096 := Nat.and_two_pow_sub_one_eq_mod x 12
def hC (K : Nat) : Nat := (((((lN K * (-7046029254386353131 : Int64)).toUInt64 >>> ((52 : Int32).toInt64.toUInt64 &&& Int64.toUInt64 63)).toInt64).toInt32) &&& (4095 : Int32)).toNatClampNeg
theorem hC_e (K : Nat) : ((((lN K * (-7046029254386353131 : Int64)).toUInt64 >>> ((52 : Int32).toInt64.toUInt64 &&& Int64.toUInt64 63)).toInt64).toInt32) &&& (4095 : Int32) = nI (hC K) ∧ hC K < 4096 := by
  unfold hC
  generalize ((((lN K * (-7046029254386353131 : Int64)).toUInt64 >>> ((52 : Int32).toInt64.toUInt64 &&& Int64.toUInt64 63)).toInt64).toInt32) = x
  have e := pk_and x (m := 4095) 12 (by decide)
  have hl : x.toBitVec.toNat % 2 ^ 12 < 2 ^ 12 := Nat.mod_lt _ (by decide)
  rw [e, nI_clamp (by omega)]
  exact ⟨rfl, hl⟩
def ocC (T : Nat → Int32) (s : Nat) : Option Nat := if T s = 0 then none else some ((T s).toNatClampNeg - 1)
theorem ocC_0 {T : Nat → Int32} {s : Nat} : ocC T s = none ↔ T s = 0 := by
  unfold ocC; split
  · rename_i h; exact ⟨fun _ => h, fun _ => rfl⟩
  · rename_i h; exact ⟨(fun q => by cases q), fun q => absurd q h⟩
theorem ocC_s {T : Nat → Int32} {s j : Nat} (hj : j < 3000) (h : T s = nI (j + 1)) : ocC T s = some j := by
  unfold ocC
  rw [if_neg (by rw [h]; exact nI_ne0 (by omega) (by omega)), h, nI_clamp (by omega), Nat.add_sub_cancel]
theorem ocC_c {T T2 : Nat → Int32} {s : Nat} (h : T s = T2 s) : ocC T s = ocC T2 s := by unfold ocC; rw [h]
abbrev fdS : Nat := 4
abbrev moS : Nat := 6
def clS (I : sw_I) (J : sw_J) (L : List En) (m : Bool) : Prop := I 120 fdS = nI L.length ∧ I 120 moS = bI m ∧ (∀ i, i < L.length → J 125 i = lN (kE L i) ∧ I 126 i = nI (pE L i * 1024 + sE L i)) ∧ hsI 4096 hC (ocC (I 127)) (kE L) L.length ∧ ∀ s, s < 4096 → I 127 s = 0 ∨ ∃ j, j < L.length ∧ I 127 s = nI (j + 1)
abbrev plC : List Nat := [120, 126, 127]
def plK (I I2 : sw_I) : Prop := ∀ k, k ≠ fdS → k ≠ moS → I2 120 k = I 120 k
theorem c_add {K par s far : Nat} {L : List En} {m : Bool} (hL : L.length ≤ 3000) (hk : ∀ i, i < L.length → kE L i < 2 ^ 47) (hK : K < 2 ^ 47) (hp : par < 3000) (hs : s < 1024) {I : sw_I} {J : sw_J} {Q : Int32 → sw_I → sw_J → Prop} (hC1 : clS I J L m)
    (h1 : kInB L K = true → Q (-1) I J)
    (h2 : ¬ kInB L K = true → 3000 ≤ L.length → ∀ I2, eqx plC I I2 → plK I I2 → clS I2 J L true → Q (-1) I2 J)
    (h3 : ¬ kInB L K = true → ¬ 3000 ≤ L.length → ∀ I2 J2, eqx plC I I2 → eqj [125] J J2 → plK I I2 → clS I2 J2 (L ++ [(K, par, s, far)]) m → Q (nI L.length) I2 J2) : wp_X6_add (lN K) (nI par) (nI s) I J Q := by
  obtain ⟨c1, c2, c3, c4, c5⟩ := id hC1
  obtain ⟨he, hb⟩ := hC_e K
  intro y hy
  rw [he] at hy
  rw [hy]
  obtain ⟨d, hd, hEnd, hmin⟩ := hs_find c4 (by omega) K hb
  have full : ∀ e, e < d → ∃ j, j < L.length ∧ I 127 ((hC K + e) % 4096) = nI (j + 1) ∧ ¬ kE L j = K := by
    intro e he
    have hlt : (hC K + e) % 4096 < 4096 := Nat.mod_lt _ (by decide)
    have hno := hmin e he
    rcases c5 _ hlt with z | ⟨j, hj, ej⟩
    · exact absurd (Or.inl (ocC_0.mpr z)) hno
    · exact ⟨j, hj, ej, fun q => hno (Or.inr ⟨j, ocC_s (by omega) ej, q⟩)⟩
  have hlt : (hC K + d) % 4096 < 4096 := Nat.mod_lt _ (by decide)
  have fin : wb_X6_add_18 (wl_X6_add_18 Q 0) Q (lN K) (nI par) (nI s) (nI ((hC K + d) % 4096)) (nI d) I J := by
    unfold wb_X6_add_18
    rw [sw_if_t (show nI d < (4096 : Int32) from nI_lt (b := 4096) hd (by decide)), nI_clamp (by omega)]
    refine ⟨vp0 hlt (by decide), ?_⟩
    rcases c5 _ hlt with z | ⟨j, hj, ej⟩
    · -- a place is free
      rw [sw_if_t z]
      have hnew := hs_new c4 (ocC_0.mpr z) hmin
      have hnin : ¬ kInB L K = true := fun q => by
        obtain ⟨i, hi, ei⟩ := (kIn_dec L K).mpr q
        exact hnew i hi ei
      unfold wB_X6_add_73
      rw [show I 120 4 = nI L.length from c1]
      by_cases cl : 3000 ≤ L.length
      · rw [sw_if_f (show ¬ nI L.length < (3000 : Int32) from nI_nlt (b := 3000) cl (by omega))]
        intro I2 e2
        refine h2 hnin cl I2 (by rw [e2]; exact eqx.rf.up (by decide) _ _) (fun k _ k2 => by rw [e2, sw_up_slot _ _ _ _ k2]) ⟨?_, ?_, fun i hi => ?_, ?_, ?_⟩
        · rw [e2, sw_up_slot _ _ _ _ (by decide)]; exact c1
        · rw [e2, sw_up_same]; rfl
        · rw [e2, sw_up_cell _ _ _ _ (by decide)]; exact c3 i hi
        · rw [e2, sw_up_row _ _ _ (by decide)]; exact c4
        · rw [e2, sw_up_row _ _ _ (by decide)]; exact c5
      · rw [sw_if_t (show nI L.length < (3000 : Int32) from nI_lt (b := 3000) (by omega) (by decide)), nI_clamp (by omega), nI_clamp (by omega), i_or (by omega) hs]
        refine ⟨vp0 (by omega) (by decide), fun J3 e3 => ⟨vp0 (by omega) (by decide), fun I6 e6 => ⟨vp0 hlt (by decide), fun I9 e9 I11 e11 => ?_⟩⟩⟩
        have f6 : I6 120 4 = nI L.length := by rw [e6, sw_up_cell _ _ _ _ (by decide)]; exact c1
        rw [f6, nI_1] at e9
        have f9 : I9 120 4 = nI L.length := by rw [e9, sw_up_cell _ _ _ _ (by decide)]; exact f6
        rw [f9, nI_1] at e11
        have f11 : I11 120 4 = nI (L.length + 1) := by rw [e11, sw_up_same]
        rw [f11, nI_pred]
        have hlen : (L ++ [(K, par, s, far)]).length = L.length + 1 := by rw [List.length_append]; rfl
        have st11 : I11 126 = fun x => if x = L.length then nI (par * 1024 + s) else I 126 x := by
          rw [e11, sw_up_row _ _ _ (by decide), e9, sw_up_row _ _ _ (by decide), e6, sw_up_rowf]
        have sl11 : I11 127 = fun x => if x = (hC K + d) % 4096 then nI (L.length + 1) else I 127 x := by
          rw [e11, sw_up_row _ _ _ (by decide), e9, sw_up_rowf, e6, sw_up_row _ _ _ (by decide)]
        refine h3 hnin cl I11 J3 ?_ (by rw [e3]; exact eqj.rf.up (by decide) _ _) (fun k k1 k2 => ?_) ⟨by rw [f11, hlen], ?_, fun i hi => ?_, ?_, ?_⟩
        · rw [e11, e9, e6]; exact ((eqx.rf.up (by decide) _ _).up (by decide) _ _).up (by decide) _ _
        · rw [e11, sw_up_slot _ _ _ _ k1, e9, sw_up_cell _ _ _ _ (by decide), e6, sw_up_cell _ _ _ _ (by decide)]
        · rw [e11, sw_up_slot _ _ _ _ (by decide), e9, sw_up_cell _ _ _ _ (by decide), e6, sw_up_cell _ _ _ _ (by decide)]; exact c2
        · rw [hlen] at hi
          rw [st11, e3]
          by_cases ci : i = L.length
          · rw [ci, sw_up_same]; unfold kE pE sE; rw [geE_end]
            show lN K = lN K ∧ (if L.length = L.length then _ else _) = _
            rw [if_pos rfl]; exact ⟨rfl, rfl⟩
          · rw [sw_up_slot _ _ _ _ ci]; unfold kE pE sE; rw [geE_app (by omega)]
            show _ ∧ (if i = L.length then _ else _) = _
            rw [if_neg ci]; exact c3 i (by omega)
        · rw [hlen]
          refine hs_cong (hs_ins (F2 := kE (L ++ [(K, par, s, far)])) c4 hd (ocC_0.mpr z) (fun e he q => ?_) (fun j hj => by unfold kE; rw [geE_app hj]) (by unfold kE; rw [geE_end])) (by decide) (fun x hx => ?_) (fun _ _ => rfl)
          · obtain ⟨j, hj, ej, _⟩ := full e he
            rw [ocC_s (by omega) ej] at q; cases q
          · rw [sl11]
            unfold upO
            by_cases cx : x = (hC K + d) % 4096
            · rw [if_pos cx]; exact ocC_s (by omega) (if_pos cx)
            · rw [if_neg cx]; exact ocC_c (if_neg cx)
        · intro x hx
          rw [sl11, hlen]
          dsimp only
          by_cases cx : x = (hC K + d) % 4096
          · rw [if_pos cx]; exact Or.inr ⟨L.length, by omega, rfl⟩
          · rw [if_neg cx]
            rcases c5 x hx with q | ⟨j, hj, ej⟩
            · exact Or.inl q
            · exact Or.inr ⟨j, by omega, ej⟩
    · -- it is known
      rw [ej, sw_if_f (nI_ne0 (by omega) (by omega)), nI_pred, nI_clamp (by omega), (c3 j hj).1]
      refine ⟨vp0 hlt (by decide), vp0 (by omega) (by decide), ?_⟩
      have hEq : kE L j = K := by
        rcases hEnd with q | ⟨j2, q1, q2⟩
        · rw [ocC_s (by omega) ej] at q; cases q
        · rw [ocC_s (by omega) ej] at q1
          cases q1; exact q2
      rw [hEq, sw_if_t ((lgc_eq _ _).mpr rfl)]
      exact h1 ((kIn_dec L K).mp ⟨j, hj, hEq⟩)
  have loop : ∀ f e, e + f = d → wl_X6_add_18 Q (f + 1) (lN K) (nI par) (nI s) (nI ((hC K + e) % 4096)) (nI e) I J := by
    intro f
    induction f with
    | zero =>
      intro e hed
      obtain rfl : e = d := by omega
      exact fin
    | succ f ih =>
      intro e hed
      have hlt2 : (hC K + e) % 4096 < 4096 := Nat.mod_lt _ (by decide)
      obtain ⟨j, hj, ej, hne⟩ := full e (by omega)
      show wb_X6_add_18 _ Q _ _ _ _ _ I J
      unfold wb_X6_add_18
      rw [sw_if_t (show nI e < (4096 : Int32) from nI_lt (b := 4096) (by omega) (by decide)), nI_clamp (by omega), ej, sw_if_f (nI_ne0 (by omega) (by omega)), nI_pred, nI_clamp (by omega), (c3 j hj).1]
      have hkj := hk j hj
      refine ⟨vp0 hlt2 (by decide), vp0 hlt2 (by decide), vp0 (by omega) (by decide), ?_⟩
      rw [sw_if_f (fun q => hne ((lN_inj (by omega) (by omega)).mp ((lgc_eq _ _).mp q)))]
      intro y2 hy2 y3 hy3
      have e2 : y2 = nI ((hC K + (e + 1)) % 4096) := by
        rw [hy2, nI_1, show (4095 : Int32) = nI 4095 from rfl, nI_and]
        congr 1
        rw [and_4095, mod_s]
      rw [e2, hy3, nI_1]
      exact ih (e + 1) (by omega)
  exact ⟨d + 1, by have := loop d 0 (by omega); rw [show (hC K + 0) % 4096 = hC K by rw [Nat.add_zero (hC K)]; exact Nat.mod_eq_of_lt hb] at this; exact this⟩
/-- what is wanted -/
def wtB (a : Nat) (T f : Int32) (K : Nat) : Bool := if a = 1 then decide (T &&& (onK K (-1) ^^^ (-1)) = 0) else if a = 2 then (decide (nI (lfK K) = f) && decide (onK K f = T)) else false
def wtC (I : sw_I) (a : Nat) (T f : Int32) : Prop := a ≤ 2 ∧ I 120 7 = nI a ∧ (a ≠ 0 → I 120 8 = T) ∧ (a = 2 → I 120 9 = f)
theorem wtC_of {I I2 : sw_I} {a : Nat} {T f : Int32} (h : wtC I a T f) (e : plK I I2) : wtC I2 a T f := by
  unfold wtC
  rw [e _ (by decide) (by decide), e _ (by decide) (by decide), e _ (by decide) (by decide)]; exact h
theorem s_isWanted_n {I : sw_I} {J : sw_J} {Q : Int32 → sw_I → sw_J → Prop} (h : Q 0 I J) : wp_X6_isWanted (-1) I J Q := by
  unfold wp_X6_isWanted wp_X6_isState
  rw [sw_if_t (by decide)]
  dsimp only
  rw [sw_if_t rfl]; exact h
theorem s_isState {L : List En} {m : Bool} {i : Nat} (hi : i < L.length) (hL : L.length ≤ 3000) {I : sw_I} {J : sw_J} {Q : Int32 → sw_I → sw_J → Prop} (hC1 : clS I J L m) (h : Q 1 I J) : wp_X6_isState (nI i) I J Q := by
  unfold wp_X6_isState
  rw [sw_if_f (nI_pos (by omega)), show I 120 4 = nI L.length from hC1.1, sw_if_t (nI_lt hi (by omega))]; exact h
theorem s_isWanted {L : List En} {m : Bool} {i a : Nat} {T f : Int32} (hi : i < L.length) (hL : L.length ≤ 3000) (hk : kE L i < 2 ^ 47) {I : sw_I} {J : sw_J} {Q : Int32 → sw_I → sw_J → Prop} (hC1 : clS I J L m) (hw : wtC I a T f) (h : Q (bI (wtB a T f (kE L i))) I J) : wp_X6_isWanted (nI i) I J Q := by
  obtain ⟨w1, w2, w3, w4⟩ := hw
  unfold wp_X6_isWanted
  refine s_isState hi hL hC1 ?_
  rw [sw_if_f (by decide), nI_clamp (by omega), (hC1.2.2.1 i hi).1]
  refine ⟨vp0 (by omega) (by decide), fun y hy => ?_⟩
  rw [hy, show I 120 7 = nI a from w2]
  unfold wtB at h
  by_cases c1 : a = 1
  · rw [sw_if_t (by rw [c1]; rfl)]
    rw [if_pos c1] at h
    refine s_onFloorK hk ?_
    rw [show I 120 8 = T from w3 (by omega)]
    refine ⟨fun q => ?_, fun q => ?_⟩
    · rw [decide_eq_true q] at h; exact h
    · rw [decide_eq_false q] at h; exact h
  · rw [sw_if_f (show ¬ nI a = (1 : Int32) from fun q => c1 ((nI_eq (b := 1) (by omega) (by omega)).mp q))]
    rw [if_neg c1] at h
    by_cases c2 : a = 2
    · rw [sw_if_t (by rw [c2]; rfl)]
      rw [if_pos c2] at h
      refine s_liftOf hk ?_
      rw [show I 120 9 = f from w4 c2]
      refine ⟨fun q => s_onFloorK hk ?_, fun q => ?_⟩
      · rw [show I 120 8 = T from w3 (by omega)]
        rw [decide_eq_true q] at h
        refine ⟨fun q2 => ?_, fun q2 => ?_⟩
        · rw [decide_eq_true q2] at h; exact h
        · rw [decide_eq_false q2] at h; exact h
      · rw [decide_eq_false q] at h; exact h
    · rw [sw_if_f (show ¬ nI a = (2 : Int32) from fun q => c2 ((nI_eq (b := 2) (by omega) (by omega)).mp q))]
      rw [if_neg c2] at h
      exact h
