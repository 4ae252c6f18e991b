/-! the class's search: keys, its table, a state more -/
theorem lgc_eq (a b : Int64) : lg_cmp a b = 0 ↔ a = b := by
  constructor
  · intro h
    have h1 : ¬ a < b := fun q => by have := (lg_cmp_lt a b).mpr q; rw [h] at this; exact Int32.lt_irrefl this
    have h2 : ¬ b < a := fun q => by have := (lg_cmp_gt a b).mpr q; rw [h] at this; exact Int32.lt_irrefl this
    exact Int64.le_antisymm (Int64.not_lt.mp h2) (Int64.not_lt.mp h1)
  · intro h
    rw [h]
    have h1 : ¬ lg_cmp b b < 0 := fun q => Int64.lt_irrefl ((lg_cmp_lt b b).mp q)
    have h2 : ¬ 0 < lg_cmp b b := fun q => Int64.lt_irrefl ((lg_cmp_gt b b).mp q)
    exact Int32.le_antisymm (Int32.not_lt.mp h2) (Int32.not_lt.mp h1)
theorem nI_rem {a b : Nat} (ha : a < 2 ^ 31) (hb : b < 2 ^ 31) : nI a - nI a / nI b * nI b = nI (a % b) := by
  have e := Nat.mod_add_div a b
  show Int32.ofNat a - Int32.ofNat a / Int32.ofNat b * Int32.ofNat b = Int32.ofNat (a % b)
  rw [← Int32.ofNat_div ha hb, ← Int32.ofNat_mul, ← Int32.ofNat_sub _ _ (Nat.div_mul_le_self a b)]
  congr 1
  rw [Nat.mul_comm] at e
  omega
def dn (d : Nat) : Int32 := nI d - 1
theorem dn_0 : dn 0 < 0 := by decide
theorem dn_s (d : Nat) : dn (d + 1) = nI d := nI_pred d
theorem dn_m (d : Nat) : nI d + (-1) = dn d := by unfold dn; rw [Int32.sub_eq_add_neg]
theorem V_lt {V d X T : Nat} (h : V * 16 ^ d + X = T) (hT : T < 2 ^ 47) : V < 2 ^ 47 := by
  have h1 : 0 < 16 ^ d := Nat.pow_pos (by decide)
  have h2 : V * 1 ≤ V * 16 ^ d := Nat.mul_le_mul_left V h1
  omega
theorem V_s {c : Nat → Nat} {V d T : Nat} (h : V * 16 ^ (d + 1) + kS c (d + 1) = T) : (V * 16 + c d) * 16 ^ d + kS c d = T := by
  rw [← h]
  show _ = V * 16 ^ (d + 1) + (kS c d + c d * 16 ^ d)
  rw [Nat.pow_succ, Nat.add_mul, Nat.mul_assoc V 16, Nat.mul_comm 16 (16 ^ d)]; omega
theorem s_keyOf {a l r : Nat} {c : Nat → Nat} {I : sw_I} {J : sw_J} {Q : Int64 → sw_I → sw_J → Prop} (hc : ∀ i, i < 10 → I (a + 1) i + 1 = nI (c i) ∧ c i < 16) (hl : I a 4 = nI l) (hl9 : l < 16) (hr : I a 5 = nI r) (hr7 : r < 7) (h : Q (lN (enK c l r)) I J) : wp_X6_keyOf a I J Q := by
  have hT : enK c l r < 2 ^ 47 := en_lt (fun i hi => (hc i hi).2) hl9 hr7
  intro y hy
  rw [hl, hr, nI_l (by omega), lN_or (by omega) hl9] at hy
  rw [hy]
  have loop : ∀ d V, d ≤ 10 → V * 16 ^ d + kS c d = enK c l r → wl_X6_keyOf_17 a Q (d + 1) (lN V) (dn d) I J := by
    intro d
    induction d with
    | zero =>
      intro V _ hV
      show wb_X6_keyOf_17 _ _ Q _ _ I J
      unfold wb_X6_keyOf_17
      rw [sw_if_t dn_0]
      have : V = enK c l r := by have e : V * 16 ^ 0 + kS c 0 = V := by show V * 1 + 0 = V; omega
                                 omega
      rw [this]; exact h
    | succ d ih =>
      intro V hd hV
      show wb_X6_keyOf_17 _ _ Q _ _ I J
      unfold wb_X6_keyOf_17
      rw [dn_s, sw_if_f (nI_pos (by omega)), nI_clamp (by omega), (hc d (by omega)).1]
      refine ⟨vp0 (by omega) (by decide), fun y hy y2 hy2 => ?_⟩
      rw [lN_or (by have := V_lt hV hT; omega) (hc d (by omega)).2] at hy
      rw [hy, hy2, dn_m]
      exact ih _ (by omega) (V_s hV)
  exact ⟨11, loop 10 (r * 16 + l) (by omega) (by unfold enK; rw [Nat.add_comm (r * 16) l]; omega)⟩
theorem sh_dig {K i : Nat} (hK : K < 2 ^ 47) (hi : i < 10) : ((((lN K).toUInt64 >>> (((4 : Int32) * nI i).toInt64.toUInt64 &&& Int64.toUInt64 63)).toInt64) &&& (15 : Int64)).toInt32 = nI (cdK K i) := by
  rw [show (4 : Int32) * nI i = nI (4 * i) from nI_mul 4 i, wb_shr (by omega) (by omega), lN_15 (Nat.lt_of_le_of_lt (Nat.div_le_self _ _) (by omega)), lN_i]
  unfold cdK
  rw [Nat.pow_mul]
theorem s_floorOf {K i : Nat} (hK : K < 2 ^ 47) (hi : i < 10) {I : sw_I} {J : sw_J} {Q : Int32 → sw_I → sw_J → Prop} (h : Q (nI (cdK K i) - 1) I J) : wp_X6_floorOf (lN K) (nI i) I J Q := by
  unfold wp_X6_floorOf
  rw [sh_dig hK hi]; exact h
theorem s_liftOf {K : Nat} (hK : K < 2 ^ 47) {I : sw_I} {J : sw_J} {Q : Int32 → sw_I → sw_J → Prop} (h : Q (nI (lfK K)) I J) : wp_X6_liftOf (lN K) I J Q := by
  unfold wp_X6_liftOf
  rw [show (40 : Int32) = nI 40 from rfl, wb_shr (by omega) (by omega), lN_15 (Nat.lt_of_le_of_lt (Nat.div_le_self _ _) (by omega)), lN_i]
  exact h
def dcM (wi rd : Nat → Int32) (ins : Int32) (K : Nat) : Mo := (fun i => nI (cdK K i) - 1, wi, rd, ins, nI (lfK K), nI (rrK K))
abbrev pmC : List Nat := [121, 121 + 1]
theorem s_bringUp {K : Nat} (hK : K < 2 ^ 47) {wi rd : Nat → Int32} {ins : Int32} {I : sw_I} {J : sw_J} {Q : sw_I → sw_J → Prop} (hw : ∀ i, i < 10 → I (121 + 2) i = wi i ∧ I (121 + 3) i = rd i) (hi : I 121 3 = ins) (h : ∀ I2, eqx pmC I I2 → moE I2 121 (dcM wi rd ins K) → Q I2 J) : wp_X6_bringUp (lN K) I J Q := by
  have loop : ∀ d k I2, k + d = 10 → eqx pmC I I2 → I2 121 = I 121 → (∀ i, i < k → I2 (121 + 1) i = nI (cdK K i) - 1) → wl_X6_bringUp_2 Q (d + 1) (lN K) (nI k) I2 J := by
    intro d
    induction d with
    | zero =>
      intro k I2 hk e e0 hv
      obtain rfl : k = 10 := by omega
      show wb_X6_bringUp_2 _ Q _ _ I2 J
      unfold wb_X6_bringUp_2
      rw [sw_if_f (by decide)]
      refine s_liftOf hK (fun I5 e5 I7 e7 => ?_)
      have er : (((lN K).toUInt64 >>> ((44 : Int32).toInt64.toUInt64 &&& Int64.toUInt64 63)).toInt64).toInt32 = nI (rrK K) := by
        rw [show (44 : Int32) = nI 44 from rfl, wb_shr (by omega) (by omega), lN_i]
        unfold rrK
        rw [Nat.div_div_eq_div_mul]
      rw [er] at e7
      refine h I7 ?_ ⟨fun i hi => ⟨?_, ?_, ?_⟩, ?_, ?_, ?_⟩
      · rw [e7, e5]; exact (e.up (by decide) _ _).up (by decide) _ _
      · rw [e7, sw_up_cell _ _ _ _ (by decide), e5, sw_up_cell _ _ _ _ (by decide)]; exact hv i hi
      · rw [e7, sw_up_cell _ _ _ _ (by decide), e5, sw_up_cell _ _ _ _ (by decide), e _ (by decide)]; exact (hw i hi).1
      · rw [e7, sw_up_cell _ _ _ _ (by decide), e5, sw_up_cell _ _ _ _ (by decide), e _ (by decide)]; exact (hw i hi).2
      · rw [e7, sw_up_slot _ _ _ _ (by decide), e5, sw_up_slot _ _ _ _ (by decide), e0]; exact hi
      · rw [e7, sw_up_slot _ _ _ _ (by decide), e5, sw_up_same]; rfl
      · rw [e7, sw_up_same]; rfl
    | succ d ih =>
      intro k I2 hk e e0 hv
      show wb_X6_bringUp_2 _ Q _ _ I2 J
      unfold wb_X6_bringUp_2
      rw [sw_if_t (show nI k < (10 : Int32) from nI_lt (b := 10) (by omega) (by decide))]
      refine s_floorOf hK (by omega) ?_
      rw [nI_clamp (by omega)]
      refine ⟨vp0 (by omega) (by decide), fun I3 e3 y hy => ?_⟩
      rw [hy, nI_1]
      refine ih (k + 1) I3 (by omega) (by rw [e3]; exact e.up (by decide) _ _) (by rw [e3, sw_up_row _ _ _ (by decide)]; exact e0) (fun i hi => ?_)
      rw [e3]
      by_cases c : i = k
      · rw [c, sw_up_same]
      · rw [sw_up_slot _ _ _ _ c]; exact hv i (by omega)
  exact ⟨11, loop 10 0 I (by omega) eqx.rf rfl (fun i hi => absurd hi (Nat.not_lt_zero _))⟩
def onK (K : Nat) (f : Int32) : Int32 := bs (fun i => decide (nI (cdK K i) - 1 = f)) 10
theorem s_onFloorK {K : Nat} (hK : K < 2 ^ 47) {f : Int32} {I : sw_I} {J : sw_J} {Q : Int32 → sw_I → sw_J → Prop} (h : Q (onK K f) I J) : wp_X6_onFloor (lN K) f I J Q := by
  have loop : ∀ d k, k + d = 10 → wl_X6_onFloor_5 Q (d + 1) (lN K) f (bs (fun i => decide (nI (cdK K i) - 1 = f)) k) (nI k) I J := by
    intro d
    induction d with
    | zero =>
      intro k hk
      obtain rfl : k = 10 := by omega
      show wb_X6_onFloor_5 _ Q _ _ _ _ I J
      unfold wb_X6_onFloor_5
      rw [sw_if_f (by decide)]; exact h
    | succ d ih =>
      intro k hk
      show wb_X6_onFloor_5 _ Q _ _ _ _ I J
      unfold wb_X6_onFloor_5
      rw [sw_if_t (show nI k < (10 : Int32) from nI_lt (b := 10) (by omega) (by decide))]
      refine s_floorOf hK (by omega) ?_
      have nxt : ∀ s1, (bs (fun i => decide (nI (cdK K i) - 1 = f)) k) ||| s1 = bs (fun i => decide (nI (cdK K i) - 1 = f)) (k + 1) → wB_X6_onFloor_31 (wl_X6_onFloor_5 Q (d + 1)) Q (lN K) f (nI k) (bs (fun i => decide (nI (cdK K i) - 1 = f)) k) s1 I J := by
        intro s1 e y hy y2 hy2
        rw [hy, hy2, nI_1, e]
        exact ih (k + 1) (by omega)
      refine ⟨fun c => nxt _ ?_, fun c => nxt _ ?_⟩
      · show _ = _ ||| (if decide (nI (cdK K k) - 1 = f) = true then _ else _)
        rw [decide_eq_true c, if_pos rfl]
      · show _ = _ ||| (if decide (nI (cdK K k) - 1 = f) = true then _ else _)
        rw [decide_eq_false c, if_neg (by decide)]
  exact ⟨11, loop 10 0 (by omega)⟩
/-! a ride from a state -/
def stK (w : Wd) (wi : Nat → Int32) (K s : Nat) : Nat := (stM w (dcM wi (fun _ => 0) 0 K) (nI s)).toNatClampNeg
theorem stK_e {I : sw_I} {w : Wd} (hW : isW I w) {wi rd : Nat → Int32} {ins : Int32} (K s : Nat) : stM w (dcM wi rd ins K) (nI s) = nI (stK w wi K s) ∧ stK w wi K s < wf w := by
  obtain ⟨j, hj, ej, -⟩ := stM_rng hW (dcM wi (fun _ => 0) 0 K) (nI s)
  have h9 := hW.1.2.1
  have e : stM w (dcM wi rd ins K) (nI s) = stM w (dcM wi (fun _ => 0) 0 K) (nI s) := rfl
  unfold stK
  rw [e, ej, nI_clamp (by omega)]
  exact ⟨rfl, hj⟩
def ncK (w : Wd) (wi : Nat → Int32) (K s i : Nat) : Nat := if i < wn w ∧ s.testBit i = true then (if w.2.2.1 i = nI (stK w wi K s) then 0 else stK w wi K s + 1) else cdK K i
def nxS (w : Wd) (wi : Nat → Int32) (K s : Nat) : Nat := enK (ncK w wi K s) (stK w wi K s) ((rrK K + 1) % 7)
theorem ncK_le {I : sw_I} {w : Wd} (hW : isW I w) {wi : Nat → Int32} {K s : Nat} (hK : vK (wn w) (wf w) K) {i : Nat} (hi : i < 10) : ncK w wi K s i ≤ wf w := by
  have := (stK_e hW (wi := wi) (rd := fun _ => 0) (ins := 0) K s).2
  have := hK.1 i hi
  unfold ncK
  repeat' split
  all_goals omega
theorem nxS_v {I : sw_I} {w : Wd} (hW : isW I w) {wi : Nat → Int32} {K s : Nat} (hK : vK (wn w) (wf w) K) : vK (wn w) (wf w) (nxS w wi K s) := by
  refine vK_en hW.1.2.1 (fun i hi => ncK_le hW hK hi) (fun i h1 h2 => ?_) (stK_e hW (wi := wi) (rd := fun _ => 0) (ins := 0) K s).2 (Nat.mod_lt _ (by decide))
  unfold ncK
  rw [if_neg (by omega)]; exact hK.2.1 i h1 h2
theorem s_keyAfter {I0 : sw_I} {w : Wd} (hW0 : isW I0 w) {wi rd : Nat → Int32} {ins : Int32} {K s : Nat} (hK : vK (wn w) (wf w) K) (hs : s < 2 ^ wn w) {I : sw_I} {J : sw_J} {Q : Int64 → sw_I → sw_J → Prop} (hE : moE I 121 (dcM wi rd ins K)) (h : Q (lN (nxS w wi K s)) I J) : wp_X6_keyAfter (nI s) (bs (fun i => inB (nI s) i && decide (w.2.2.1 i = nI (stK w wi K s))) (wn w)) (nI (stK w wi K s)) I J Q := by
  have hst := (stK_e hW0 (wi := wi) (rd := rd) (ins := ins) K s).2
  have hn := hW0.1.2.2.1
  have h9 := hW0.1.2.1
  have hc16 : ∀ i, i < 10 → ncK w wi K s i < 16 := fun i hi => by have := ncK_le hW0 (wi := wi) (s := s) hK hi; omega
  have hT : nxS w wi K s < 2 ^ 47 := vK_lt h9 (nxS_v hW0 hK)
  have hr7 : (rrK K + 1) % 7 < 7 := Nat.mod_lt _ (by decide)
  have hrr := hK.2.2.2
  have hbit : ∀ i, i < 32 → inB (nI s) i = s.testBit i := fun i hi => bit_M hn hs hi
  intro y hy
  have e5 : I 121 5 = nI (rrK K) := hE.2.2.2
  have er : (nI (rrK K) + 1) - (nI (rrK K) + 1) / 7 * 7 = nI ((rrK K + 1) % 7) := by
    rw [nI_1]; exact nI_rem (b := 7) (by omega) (by decide)
  rw [show I 121 5 = nI (rrK K) from e5, er, nI_l (by omega), lN_or (by omega) (by omega)] at hy
  rw [hy]
  have loop : ∀ d V, d ≤ 10 → V * 16 ^ d + kS (ncK w wi K s) d = nxS w wi K s → wl_X6_keyAfter_24 Q (d + 1) (nI s) (bs (fun i => inB (nI s) i && decide (w.2.2.1 i = nI (stK w wi K s))) (wn w)) (nI (stK w wi K s)) (lN V) (dn d) I J := by
    intro d
    induction d with
    | zero =>
      intro V _ hV
      show wb_X6_keyAfter_24 _ Q _ _ _ _ _ I J
      unfold wb_X6_keyAfter_24
      rw [sw_if_t dn_0]
      have : V = nxS w wi K s := by have e : V * 16 ^ 0 + kS (ncK w wi K s) 0 = V := by show V * 1 + 0 = V; omega
                                    omega
      rw [this]; exact h
    | succ d ih =>
      intro V hd hV
      show wb_X6_keyAfter_24 _ Q _ _ _ _ _ I J
      unfold wb_X6_keyAfter_24
      rw [dn_s, sw_if_f (nI_pos (by omega))]
      have fin : ∀ s1, s1 = nI (ncK w wi K s d) → wB_X6_keyAfter_75 (wl_X6_keyAfter_24 Q (d + 1)) Q (nI s) (bs (fun i => inB (nI s) i && decide (w.2.2.1 i = nI (stK w wi K s))) (wn w)) (nI (stK w wi K s)) (nI d) (lN V <<< ((4 : Int32).toInt64 &&& 63)) s1 I J := by
        intro s1 e1 y hy y2 hy2
        rw [e1, lN_or (by have := V_lt hV hT; omega) (hc16 d (by omega))] at hy
        rw [hy, hy2, dn_m]
        exact ih _ (by omega) (V_s hV)
      have hb := inB_bs (fun i => inB (nI s) i && decide (w.2.2.1 i = nI (stK w wi K s))) (wn w) (by omega) d (by omega)
      have at52 : ∀ s0, (s.testBit d = true ∧ d < wn w → s0 = nI (stK w wi K s)) → (¬ (s.testBit d = true) → s0 = nI (cdK K d) - 1) → (s.testBit d = true → d < wn w) → wB_X6_keyAfter_52 (wl_X6_keyAfter_24 Q (d + 1)) Q (nI s) (bs (fun i => inB (nI s) i && decide (w.2.2.1 i = nI (stK w wi K s))) (wn w)) (nI (stK w wi K s)) (lN V) (nI d) s0 I J := by
        intro s0 h1 h2 h3
        unfold wB_X6_keyAfter_52
        have bit : ((bs (fun i => inB (nI s) i && decide (w.2.2.1 i = nI (stK w wi K s))) (wn w) >>> (nI d &&& 31)) &&& 1 = 0) ↔ ¬ (inB (bs (fun i => inB (nI s) i && decide (w.2.2.1 i = nI (stK w wi K s))) (wn w)) d = true) := by
          unfold inB; simp
        by_cases ct : s.testBit d = true
        · have hdn := h3 ct
          have e0 := h1 ⟨ct, hdn⟩
          rw [hbit d (by omega), ct, decide_eq_true hdn] at hb
          by_cases ch : w.2.2.1 d = nI (stK w wi K s)
          · rw [decide_eq_true ch] at hb
            rw [sw_if_f (fun q => (bit.mp q) hb)]
            refine fin 0 ?_
            unfold ncK; rw [if_pos ⟨hdn, ct⟩, if_pos ch]; rfl
          · rw [decide_eq_false ch] at hb
            rw [sw_if_t (bit.mpr (by rw [hb]; decide))]
            refine fin _ ?_
            unfold ncK; rw [if_pos ⟨hdn, ct⟩, if_neg ch, e0, nI_1]
        · have e0 := h2 ct
          have hf : s.testBit d = false := by cases hh : s.testBit d; rfl; exact absurd hh ct
          rw [hbit d (by omega), hf] at hb
          rw [sw_if_t (bit.mpr (by rw [hb]; simp))]
          refine fin _ ?_
          unfold ncK; rw [if_neg (fun q => ct q.2), e0, Int32.sub_add_cancel]
      have hx : s.testBit d = true → d < wn w := fun ht => by
        rcases Nat.lt_or_ge d (wn w) with q | q
        · exact q
        · rw [Nat.testBit_lt_two_pow (Nat.lt_of_lt_of_le hs (Nat.pow_le_pow_right (by decide) q))] at ht; cases ht
      have bit : ((nI s >>> (nI d &&& 31)) &&& 1 = 0) ↔ ¬ (inB (nI s) d = true) := by unfold inB; simp
      by_cases ct : s.testBit d = true
      · rw [sw_if_f (fun q => (bit.mp q) (by rw [hbit d (by omega)]; exact ct))]
        exact at52 _ (fun _ => rfl) (fun q => absurd ct q) hx
      · rw [sw_if_t (bit.mpr (by rw [hbit d (by omega)]; exact ct)), nI_clamp (by omega)]
        refine ⟨vp0 (by omega) (by decide), at52 _ (fun q => absurd q.1 ct) (fun _ => (hE.1 d (by omega)).1) hx⟩
  refine ⟨11, loop 10 _ (by omega) ?_⟩
  unfold nxS enK; rw [Nat.add_comm ((rrK K + 1) % 7 * 16)]; omega
