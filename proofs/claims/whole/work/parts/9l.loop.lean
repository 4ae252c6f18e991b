theorem lw_and63 (x : Int32) : ∃ n, n < 64 ∧ x &&& 63 = nI n := by
  have e : (x &&& 63) = nI (x.toBitVec.toNat &&& 63) := by
    apply Int32.toBitVec_inj.mp
    apply BitVec.eq_of_toNat_eq
    have h63 : (63 : Int32).toBitVec.toNat = 63 := rfl
    have hlt : x.toBitVec.toNat &&& 63 < 2 ^ 32 := Nat.lt_of_le_of_lt Nat.and_le_right (by decide)
    rw [Int32.toBitVec_and, BitVec.toNat_and, h63]
    show _ = (BitVec.ofNat 32 (x.toBitVec.toNat &&& 63)).toNat
    rw [BitVec.toNat_ofNat, Nat.mod_eq_of_lt hlt]
  exact ⟨_, Nat.lt_of_le_of_lt Nat.and_le_right (by decide), e⟩
set_option maxRecDepth 20000 in
theorem lw_disp {b L C S k : Nat} {xs : Nat → Int32} {Z : List Frame → Array Value → State → State → Prop} {l : Launch} {D : va_G} {cy : Nat → ClassId} {sz : Nat} {G : sw_G} {I : sw_I} {J : sw_J} (hl : l.stackTraces = false) (hG : sw_lay G) (ho : sw_la G 174 1) (hk5 : 5 * k + 5 ≤ L) (hL : L ≤ 2560) (hC : C + 1 ≤ 601024) (hS : S + 6 ≤ 7293034) (hw : wW k I J) (nx : lw_N b L xs Z l D cy sz G C S k) (n : Nat) (hn : n < 64) :
    LL b L xs Z l D cy sz G C S I J 39 (lw_lv b sz k) [.int (nI n)] := by
  match n, hn with
  | 0, _ => refine al_tableIn 236 dL_law_39 (by decide) (by decide) rfl (by decide) ?_; exact lc_0 hl hG ho hk5 hL (by omega) (by omega) hw nx
  | 1, _ => refine al_tableIn 261 dL_law_39 (by decide) (by decide) rfl (by decide) ?_; exact lc_1 hl hG ho hk5 hL (by omega) (by omega) hw nx
  | 2, _ => refine al_tableIn 286 dL_law_39 (by decide) (by decide) rfl (by decide) ?_; exact lc_2 hl hG ho hk5 hL (by omega) (by omega) hw nx
  | 3, _ => refine al_tableIn 311 dL_law_39 (by decide) (by decide) rfl (by decide) ?_; exact lc_3 hl hG ho hk5 hL (by omega) (by omega) hw nx
  | 4, _ => refine al_tableIn 324 dL_law_39 (by decide) (by decide) rfl (by decide) ?_; exact lc_4 hl hG ho hk5 hL (by omega) (by omega) hw nx
  | 5, _ => refine al_tableIn 337 dL_law_39 (by decide) (by decide) rfl (by decide) ?_; exact lc_5 hl hG ho hk5 hL (by omega) (by omega) hw nx
  | 6, _ => refine al_tableIn 405 dL_law_39 (by decide) (by decide) rfl (by decide) ?_; exact lc_6 hl hG ho hk5 hL (by omega) (by omega) hw nx
  | 7, _ => refine al_tableIn 454 dL_law_39 (by decide) (by decide) rfl (by decide) ?_; exact lc_7 hl hG ho hk5 hL (by omega) (by omega) hw nx
  | 8, _ => refine al_tableIn 515 dL_law_39 (by decide) (by decide) rfl (by decide) ?_; exact lc_8 hl hG ho hk5 hL (by omega) (by omega) hw nx
  | 9, _ => refine al_tableIn 540 dL_law_39 (by decide) (by decide) rfl (by decide) ?_; exact lc_9 hl hG ho hk5 hL (by omega) (by omega) hw nx
  | 10, _ => refine al_tableIn 577 dL_law_39 (by decide) (by decide) rfl (by decide) ?_; exact lc_10 hl hG ho hk5 hL (by omega) (by omega) hw nx
  | 11, _ => refine al_tableIn 602 dL_law_39 (by decide) (by decide) rfl (by decide) ?_; exact lc_11 hl hG ho hk5 hL (by omega) (by omega) hw nx
  | 12, _ => refine al_tableIn 627 dL_law_39 (by decide) (by decide) rfl (by decide) ?_; exact lc_12 hl hG ho hk5 hL (by omega) (by omega) hw nx
  | 13, _ => refine al_tableIn 640 dL_law_39 (by decide) (by decide) rfl (by decide) ?_; exact lc_13 hl hG ho hk5 hL (by omega) (by omega) hw nx
  | 14, _ => refine al_tableIn 665 dL_law_39 (by decide) (by decide) rfl (by decide) ?_; exact lc_14 hl hG ho hk5 hL (by omega) (by omega) hw nx
  | 15, _ => refine al_tableIn 678 dL_law_39 (by decide) (by decide) rfl (by decide) ?_; exact lc_15 hl hG ho hk5 hL (by omega) (by omega) hw nx
  | 16, _ => refine al_tableIn 691 dL_law_39 (by decide) (by decide) rfl (by decide) ?_; exact lc_16 hl hG ho hk5 hL (by omega) (by omega) hw nx
  | 17, _ => refine al_tableIn 704 dL_law_39 (by decide) (by decide) rfl (by decide) ?_; exact lc_17 hl hG ho hk5 hL (by omega) (by omega) hw nx
  | 18, _ => refine al_tableIn 729 dL_law_39 (by decide) (by decide) rfl (by decide) ?_; exact lc_18 hl hG ho hk5 hL (by omega) (by omega) hw nx
  | 19, _ => refine al_tableIn 785 dL_law_39 (by decide) (by decide) rfl (by decide) ?_; exact lc_19 hl hG ho hk5 hL (by omega) (by omega) hw nx
  | 20, _ => refine al_tableIn 798 dL_law_39 (by decide) (by decide) rfl (by decide) ?_; exact lc_20 hl hG ho hk5 hL (by omega) (by omega) hw nx
  | 21, _ => refine al_tableIn 823 dL_law_39 (by decide) (by decide) rfl (by decide) ?_; exact lc_21 hl hG ho hk5 hL (by omega) (by omega) hw nx
  | 22, _ => refine al_tableIn 848 dL_law_39 (by decide) (by decide) rfl (by decide) ?_; exact lc_22 hl hG ho hk5 hL (by omega) (by omega) hw nx
  | 23, _ => refine al_tableIn 873 dL_law_39 (by decide) (by decide) rfl (by decide) ?_; exact lc_23 hl hG ho hk5 hL (by omega) (by omega) hw nx
  | 24, _ => refine al_tableIn 898 dL_law_39 (by decide) (by decide) rfl (by decide) ?_; exact lc_24 hl hG ho hk5 hL (by omega) (by omega) hw nx
  | 25, _ => refine al_tableIn 923 dL_law_39 (by decide) (by decide) rfl (by decide) ?_; exact lc_25 hl hG ho hk5 hL (by omega) (by omega) hw nx
  | 26, _ => refine al_tableIn 948 dL_law_39 (by decide) (by decide) rfl (by decide) ?_; exact lc_26 hl hG ho hk5 hL (by omega) (by omega) hw nx
  | 27, _ => refine al_tableIn 1016 dL_law_39 (by decide) (by decide) rfl (by decide) ?_; exact lc_27 hl hG ho hk5 hL (by omega) (by omega) hw nx
  | 28, _ => refine al_tableIn 1041 dL_law_39 (by decide) (by decide) rfl (by decide) ?_; exact lc_28 hl hG ho hk5 hL (by omega) (by omega) hw nx
  | 29, _ => refine al_tableIn 1054 dL_law_39 (by decide) (by decide) rfl (by decide) ?_; exact lc_29 hl hG ho hk5 hL (by omega) (by omega) hw nx
  | 30, _ => refine al_tableIn 1079 dL_law_39 (by decide) (by decide) rfl (by decide) ?_; exact lc_30 hl hG ho hk5 hL (by omega) (by omega) hw nx
  | 31, _ => refine al_tableIn 1116 dL_law_39 (by decide) (by decide) rfl (by decide) ?_; exact lc_31 hl hG ho hk5 hL (by omega) (by omega) hw nx
  | 32, _ => refine al_tableIn 1141 dL_law_39 (by decide) (by decide) rfl (by decide) ?_; exact lc_32 hl hG ho hk5 hL (by omega) (by omega) hw nx
  | 33, _ => refine al_tableIn 1154 dL_law_39 (by decide) (by decide) rfl (by decide) ?_; exact lc_33 hl hG ho hk5 hL (by omega) (by omega) hw nx
  | 34, _ => refine al_tableIn 1203 dL_law_39 (by decide) (by decide) rfl (by decide) ?_; exact lc_34 hl hG ho hk5 hL (by omega) (by omega) hw nx
  | 35, _ => refine al_tableIn 1216 dL_law_39 (by decide) (by decide) rfl (by decide) ?_; exact lc_35 hl hG ho hk5 hL (by omega) (by omega) hw nx
  | 36, _ => refine al_tableIn 1229 dL_law_39 (by decide) (by decide) rfl (by decide) ?_; exact lc_36 hl hG ho hk5 hL (by omega) (by omega) hw nx
  | 37, _ => refine al_tableIn 1254 dL_law_39 (by decide) (by decide) rfl (by decide) ?_; exact lc_37 hl hG ho hk5 hL (by omega) (by omega) hw nx
  | 38, _ => refine al_tableIn 1267 dL_law_39 (by decide) (by decide) rfl (by decide) ?_; exact lc_38 hl hG ho hk5 hL (by omega) (by omega) hw nx
  | 39, _ => refine al_tableIn 1292 dL_law_39 (by decide) (by decide) rfl (by decide) ?_; exact lc_39 hl hG ho hk5 hL (by omega) (by omega) hw nx
  | 40, _ => refine al_tableIn 1317 dL_law_39 (by decide) (by decide) rfl (by decide) ?_; exact lc_40 hl hG ho hk5 hL (by omega) (by omega) hw nx
  | 41, _ => refine al_tableIn 1330 dL_law_39 (by decide) (by decide) rfl (by decide) ?_; exact lc_41 hl hG ho hk5 hL (by omega) (by omega) hw nx
  | 42, _ => refine al_tableIn 1343 dL_law_39 (by decide) (by decide) rfl (by decide) ?_; exact lc_42 hl hG ho hk5 hL (by omega) (by omega) hw nx
  | 43, _ => refine al_tableIn 1368 dL_law_39 (by decide) (by decide) rfl (by decide) ?_; exact lc_43 hl hG ho hk5 hL (by omega) (by omega) hw nx
  | 44, _ => refine al_tableIn 1393 dL_law_39 (by decide) (by decide) rfl (by decide) ?_; exact lc_44 hl hG ho hk5 hL (by omega) (by omega) hw nx
  | 45, _ => refine al_tableIn 1418 dL_law_39 (by decide) (by decide) rfl (by decide) ?_; exact lc_45 hl hG ho hk5 hL (by omega) (by omega) hw nx
  | n + 46, hn =>
    refine al_tableOut 1473 dL_law_39 (Or.inr ?_) (by decide) ?_
    · rw [nI_toInt (by omega)]; omega
    · exact al_widen (C + 1) (S + 6) (by omega) (by omega) (nx I J (wW_succ hw))
theorem lw_loop {b L C S : Nat} {xs : Nat → Int32} {Z : List Frame → Array Value → State → State → Prop} {l : Launch} {D : va_G} {cy : Nat → ClassId} {sz : Nat} {G : sw_G} (hl : l.stackTraces = false) (hG : sw_lay G) (ho : sw_la G 174 1) (hL : L ≤ 2560) (hC : C + 600 ≤ 601024) (hS : S + 3600 ≤ 7293034)
    (hend : ∀ (C2 S2 : Nat) (I : sw_I) (J : sw_J) (lv : List (Nat × Value)), C2 ≤ 601024 → S2 ≤ 7293034 → LL b L xs Z l D cy sz G C2 S2 I J 1480 lv [.int 1]) :
    ∀ (d k : Nat) (I : sw_I) (J : sw_J), k + d = 513 → 5 * k ≤ L → wW k I J → LL b L xs Z l D cy sz G (C + k) (S + 6 * k) I J 23 (lw_lv b sz k) [] := by
  intro d
  induction d with
  | zero => intro k I J h1 h2; omega
  | succ d ih =>
    intro k I J h1 h2 hw
    refine al_iload 0 dL_law_23 rfl ?_
    refine al_aload_n 4 dL_law_25 rfl rfl ?_
    refine al_slen dL_law_26 ?_
    refine al_iconst (v := 5) dL_law_27 (by decide) ?_
    refine al_isub dL_law_28 ?_
    refine al_jgt 1479 dL_law_29 (by decide) (fun _ => ?_) (fun c => ?_)
    · refine al_iconst (v := 1) dL_law_1479 (by decide) ?_
      exact hend _ _ I J _ (by omega) (by omega)
    · have hk5 : 5 * k + 5 ≤ L := lw_cond hL h2 c
      refine al_aload_n 4 dL_law_32 rfl rfl ?_
      refine al_iload 0 dL_law_33 rfl ?_
      refine al_sld dL_law_35 (vp0 (by omega) (by omega)) ?_
      refine al_bipush (v := 63) dL_law_36 (by decide) ?_
      refine al_iand dL_law_38 ?_
      obtain ⟨n, hn, e⟩ := lw_and63 (xs (nI (5 * k)).toNatClampNeg)
      rw [e]
      refine lw_disp hl hG ho hk5 hL (by omega) (by omega) hw (fun I2 J2 hw2 => ?_) n hn
      refine al_iinc (lv' := lw_lv b sz (k + 1)) 0 dL_law_1473 rfl (show nI (5 * k) + Int32.ofInt 5 = nI (5 * (k + 1)) from nI_add (5 * k) 5) (by decide) rfl ?_
      refine al_goto 23 dL_law_1476 (by decide) ?_
      exact ih (k + 1) I2 J2 (by omega) (by omega) hw2
