-- X10_bestWish
abbrev rm_X10_bestWish : Room := { frames := 5, cells := 0, slots := 0, locals := 115 }
def wB_X10_bestWish_90 (b1 : Nat) (n1 : Nat) (K36 : Int32 → Int32 → Int32 → Int32 → sw_I → sw_J → Prop) (Q : Int32 → sw_I → sw_J → Prop) (x2 : Int32) (x3 : Int32) (x5 : Int32) (x6 : Int32) (s0 : Int32) (I : sw_I) (J : sw_J) : Prop :=
  ∀ I_1 : sw_I, I_1 = sw_up I 140 42 (if x6 < (I 140 42) then x6 else (I 140 42)) → ∀ y_3 : Int32, y_3 = x5 + 1 → K36 x2 x3 s0 y_3 I_1 J
def wb_X10_bestWish_36 (b1 : Nat) (n1 : Nat) (K36 : Int32 → Int32 → Int32 → Int32 → sw_I → sw_J → Prop) (Q : Int32 → sw_I → sw_J → Prop) (x2 : Int32) (x3 : Int32) (x4 : Int32) (x5 : Int32) (I : sw_I) (J : sw_J) : Prop :=
  sw_if (x5 < (I 140 3)) (vp_in ((10 : Int32) + x2) n1 ∧ ∀ I_6 : sw_I, I_6 = sw_up I b1 ((10 : Int32) + x2).toNatClampNeg x5 → vp_in (30 : Int32) n1 ∧ wp_X10_stopOf b1 n1 (I_6 b1 (30 : Int32).toNatClampNeg) I_6 J (fun r_9 I_10 J_11 => vp_in x2 10 ∧ ∀ y_13 : Int32, y_13 = (if 0 ≤ (r_9 - (I_10 142 x2.toNatClampNeg)) then (r_9 - (I_10 142 x2.toNatClampNeg)) else 0 - (r_9 - (I_10 142 x2.toNatClampNeg))) → sw_if (y_13 < (I_10 140 42)) (wB_X10_bestWish_90 b1 n1 K36 Q x2 x3 x5 y_13 x5 I_10 J_11) (wB_X10_bestWish_90 b1 n1 K36 Q x2 x3 x5 y_13 x4 I_10 J_11))) (vp_in ((10 : Int32) + x2) n1 ∧ ∀ I_3 : sw_I, I_3 = sw_up I b1 ((10 : Int32) + x2).toNatClampNeg x3 → Q x4 I_3 J)
def wl_X10_bestWish_36 (b1 : Nat) (n1 : Nat)  (Q : Int32 → sw_I → sw_J → Prop) : Nat → Int32 → Int32 → Int32 → Int32 → sw_I → sw_J → Prop
  | 0 => fun _ _ _ _ _ _ => False
  | n + 1 => fun x2 x3 x4 x5 I J => wb_X10_bestWish_36 b1 n1 (wl_X10_bestWish_36 b1 n1  Q n) Q x2 x3 x4 x5 I J
def wp_X10_bestWish (b1 : Nat) (n1 : Nat) (x2 : Int32) (I : sw_I) (J : sw_J) (Q : Int32 → sw_I → sw_J → Prop) : Prop :=
  vp_in ((10 : Int32) + x2) n1 ∧ ∀ y_2 : Int32, y_2 = (I b1 ((10 : Int32) + x2).toNatClampNeg) → vp_in (30 : Int32) n1 ∧ wp_X10_stopOf b1 n1 (I b1 (30 : Int32).toNatClampNeg) I J (fun r_5 I_6 J_7 => vp_in x2 10 ∧ ∀ I_9 : sw_I, I_9 = sw_up I_6 140 42 (if 0 ≤ (r_5 - (I_6 142 x2.toNatClampNeg)) then (r_5 - (I_6 142 x2.toNatClampNeg)) else 0 - (r_5 - (I_6 142 x2.toNatClampNeg))) → ∃ n_11 : Nat, wl_X10_bestWish_36 b1 n1  Q n_11 x2 y_2 y_2 (-1) I_9 J_7)
set_option maxRecDepth 20000 in
theorem t_X10_bestWish_90 {l : Launch} {D : va_G} {cy : Nat → ClassId} {sz : Nat} {G : sw_G} (hG : sw_lay G) {b1 : Nat} {n1 : Nat} (hb1 : sw_ia G b1 n1) {Q : Int32 → sw_I → sw_J → Prop} {K36 : Int32 → Int32 → Int32 → Int32 → sw_I → sw_J → Prop} (hK36 : ∀ (x2 : Int32) (x3 : Int32) (x4 : Int32) (x5 : Int32) (I : sw_I) (J : sw_J), K36 x2 x3 x4 x5 I J → AW l D cy sz RX10 cX10_bestWish 7 (some .int) false rm_X10_bestWish 0 0 (sw_qi G Q) 0 0 G I J 36 [(0, .ref (sz + 140)), (1, .ref (sz + b1)), (2, .int x2), (3, .int x3), (4, .int x4), (5, .int x5)] []) {x2 : Int32} {x3 : Int32} {x5 : Int32} {x6 : Int32} {s0 : Int32} {I : sw_I} {J : sw_J} (h : wB_X10_bestWish_90 b1 n1 K36 Q x2 x3 x5 x6 s0 I J) : AW l D cy sz RX10 cX10_bestWish 7 (some .int) false rm_X10_bestWish 0 0 (sw_qi G Q) 0 0 G I J 90 [(0, .ref (sz + 140)), (1, .ref (sz + b1)), (2, .int x2), (3, .int x3), (5, .int x5), (6, .int x6)] [.int s0] := by
  unfold wB_X10_bestWish_90 at h
  refine aw_istore (lv' := [(4, .int s0), (0, .ref (sz + 140)), (1, .ref (sz + b1)), (2, .int x2), (3, .int x3), (5, .int x5), (6, .int x6)]) dX10_bestWish_90 (by decide) rfl ?_
  refine aw_aload_n 1 dX10_bestWish_92 rfl rfl ?_
  refine aw_aload_n 1 dX10_bestWish_93 rfl rfl ?_
  refine gf_X10_42 fl_X10_305 (lk140 hG) dX10_bestWish_94 ?_
  refine aw_iload 6 dX10_bestWish_97 rfl ?_
  refine aw_mmin mm_X10_45 wm_min (Nat.le_of_ble_eq_true rfl) (Nat.le_of_ble_eq_true rfl) ⟨Nat.le_refl _, Nat.le_refl _⟩ dX10_bestWish_99 ?_
  refine pf_X10_42 fl_X10_305 (lk140 hG) dX10_bestWish_102 (aw_nameI fun I_1 e_2 => ?_)
  have h := h I_1 e_2
  obtain ⟨y_3, e_4⟩ : ∃ q : Int32, q = x5 + 1 := ⟨_, rfl⟩
  have h := h y_3 e_4
  refine aw_iinc (lv' := [(5, .int y_3), (4, .int s0), (0, .ref (sz + 140)), (1, .ref (sz + b1)), (2, .int x2), (3, .int x3), (6, .int x6)]) 5 dX10_bestWish_105 rfl (by rw [e_4]; rfl) (by decide) rfl ?_
  refine aw_goto 36 dX10_bestWish_108 (by decide) ?_
  refine aw_sub [2, 3, 4, 5, 1, 0] rfl ?_
  exact hK36 x2 x3 s0 y_3 I_1 J h
set_option maxRecDepth 20000 in
theorem tb_X10_bestWish_36 {l : Launch} {D : va_G} {cy : Nat → ClassId} {sz : Nat} {G : sw_G} (hG : sw_lay G) {b1 : Nat} {n1 : Nat} (hb1 : sw_ia G b1 n1) {Q : Int32 → sw_I → sw_J → Prop} {K36 : Int32 → Int32 → Int32 → Int32 → sw_I → sw_J → Prop} (hK36 : ∀ (x2 : Int32) (x3 : Int32) (x4 : Int32) (x5 : Int32) (I : sw_I) (J : sw_J), K36 x2 x3 x4 x5 I J → AW l D cy sz RX10 cX10_bestWish 7 (some .int) false rm_X10_bestWish 0 0 (sw_qi G Q) 0 0 G I J 36 [(0, .ref (sz + 140)), (1, .ref (sz + b1)), (2, .int x2), (3, .int x3), (4, .int x4), (5, .int x5)] []) {x2 : Int32} {x3 : Int32} {x4 : Int32} {x5 : Int32} {I : sw_I} {J : sw_J} (h : wb_X10_bestWish_36 b1 n1 K36 Q x2 x3 x4 x5 I J) : AW l D cy sz RX10 cX10_bestWish 7 (some .int) false rm_X10_bestWish 0 0 (sw_qi G Q) 0 0 G I J 36 [(0, .ref (sz + 140)), (1, .ref (sz + b1)), (2, .int x2), (3, .int x3), (4, .int x4), (5, .int x5)] [] := by
  unfold wb_X10_bestWish_36 at h
  refine aw_iload 5 dX10_bestWish_36 rfl ?_
  refine aw_aload_n 0 dX10_bestWish_38 rfl rfl ?_
  refine gf_X10_3 fl_X10_22 (lk140 hG) dX10_bestWish_39 ?_
  refine aw_jge 111 dX10_bestWish_42 (by decide) (fun c_1 => ?_) (fun c_1 => ?_)
  · have h := sw_if.f h c_1
    refine aw_aload_n 1 dX10_bestWish_111 rfl rfl ?_
    refine aw_bipush (v := 10) dX10_bestWish_112 (by decide) ?_
    refine aw_iload_n 2 dX10_bestWish_114 rfl rfl ?_
    refine aw_iadd dX10_bestWish_115 ?_
    refine aw_iload_n 3 dX10_bestWish_116 rfl rfl ?_
    obtain ⟨hi_2, h⟩ := h
    refine aw_ist dX10_bestWish_117 hb1.1 hb1.2 hi_2 (aw_nameI fun I_3 e_4 => ?_)
    have h := h I_3 e_4
    refine aw_iload 4 dX10_bestWish_118 rfl ?_
    exact aw_iret rfl dX10_bestWish_120 ⟨rfl, _, rfl, h⟩
  · have h := sw_if.t h c_1
    refine aw_aload_n 1 dX10_bestWish_45 rfl rfl ?_
    refine aw_bipush (v := 10) dX10_bestWish_46 (by decide) ?_
    refine aw_iload_n 2 dX10_bestWish_48 rfl rfl ?_
    refine aw_iadd dX10_bestWish_49 ?_
    refine aw_iload 5 dX10_bestWish_50 rfl ?_
    obtain ⟨hi_5, h⟩ := h
    refine aw_ist dX10_bestWish_52 hb1.1 hb1.2 hi_5 (aw_nameI fun I_6 e_7 => ?_)
    have h := h I_6 e_7
    refine aw_aload_n 0 dX10_bestWish_53 rfl rfl ?_
    refine aw_aload_n 1 dX10_bestWish_54 rfl rfl ?_
    refine aw_aload_n 1 dX10_bestWish_55 rfl rfl ?_
    refine aw_bipush (v := 30) dX10_bestWish_56 (by decide) ?_
    obtain ⟨hi_8, h⟩ := h
    refine aw_ild dX10_bestWish_58 hb1.1 hb1.2 hi_8 ?_
    refine aw_callV wv_X10_stopOf (M_X10_stopOf hG ⟨hb1.1, hb1.2⟩ h) ml_X10_222 rfl (by decide) (lk140 hG) rfl rfl (Nat.le_of_ble_eq_true rfl) ⟨rfl, rfl⟩ ⟨Nat.le_of_ble_eq_true rfl, Nat.le_of_ble_eq_true rfl⟩ ⟨Nat.le_refl _, Nat.le_refl _⟩ dX10_bestWish_59 (aw_ki fun r_9 I_10 J_11 h => ?_)
    refine aw_aload_n 0 dX10_bestWish_62 rfl rfl ?_
    refine gf_X10_7 fl_X10_135 (lk140 hG) (lr140_7 hG) dX10_bestWish_63 ?_
    refine aw_iload_n 2 dX10_bestWish_66 rfl rfl ?_
    obtain ⟨hi_12, h⟩ := h
    refine aw_ild dX10_bestWish_67 (lk142 hG) (ln142 hG) hi_12 ?_
    refine aw_isub dX10_bestWish_68 ?_
    refine aw_mabs mm_X10_199 wm_abs (Nat.le_of_ble_eq_true rfl) (Nat.le_of_ble_eq_true rfl) ⟨Nat.le_refl _, Nat.le_refl _⟩ dX10_bestWish_69 ?_
    refine aw_topi (fun y_13 e_14 => ?_)
    have h := h y_13 e_14
    refine aw_istore (lv' := [(6, .int y_13), (0, .ref (sz + 140)), (1, .ref (sz + b1)), (2, .int x2), (3, .int x3), (4, .int x4), (5, .int x5)]) dX10_bestWish_72 (by decide) rfl ?_
    refine aw_iload 0 dX10_bestWish_74 rfl ?_
    refine aw_aload_n 1 dX10_bestWish_76 rfl rfl ?_
    refine gf_X10_42 fl_X10_305 (lk140 hG) dX10_bestWish_77 ?_
    refine aw_jge 88 dX10_bestWish_80 (by decide) (fun c_15 => ?_) (fun c_15 => ?_)
    · have h := sw_if.f h c_15
      refine aw_iload 5 dX10_bestWish_88 rfl ?_
      refine aw_sub [1, 2, 3, 4, 6, 0] rfl ?_
      exact t_X10_bestWish_90 hG hb1 hK36 h
    · have h := sw_if.t h c_15
      refine aw_iload 6 dX10_bestWish_83 rfl ?_
      refine aw_goto 90 dX10_bestWish_85 (by decide) ?_
      refine aw_sub [1, 2, 3, 4, 6, 0] rfl ?_
      exact t_X10_bestWish_90 hG hb1 hK36 h
set_option maxRecDepth 20000 in
theorem tl_X10_bestWish_36 {l : Launch} {D : va_G} {cy : Nat → ClassId} {sz : Nat} {G : sw_G} (hG : sw_lay G) {b1 : Nat} {n1 : Nat} (hb1 : sw_ia G b1 n1) {Q : Int32 → sw_I → sw_J → Prop} : ∀ (n : Nat) (x2 : Int32) (x3 : Int32) (x4 : Int32) (x5 : Int32) (I : sw_I) (J : sw_J), wl_X10_bestWish_36 b1 n1  Q n x2 x3 x4 x5 I J → AW l D cy sz RX10 cX10_bestWish 7 (some .int) false rm_X10_bestWish 0 0 (sw_qi G Q) 0 0 G I J 36 [(0, .ref (sz + 140)), (1, .ref (sz + b1)), (2, .int x2), (3, .int x3), (4, .int x4), (5, .int x5)] [] := by
  intro n
  induction n with
  | zero => intro x2 x3 x4 x5 I J h; exact False.elim h
  | succ n ih => intro x2 x3 x4 x5 I J h; exact tb_X10_bestWish_36 hG hb1 ih h
set_option maxRecDepth 20000 in
theorem t_X10_bestWish {l : Launch} {D : va_G} {cy : Nat → ClassId} {sz : Nat} {G : sw_G} (hG : sw_lay G) {b1 : Nat} {n1 : Nat} (hb1 : sw_ia G b1 n1) {Q : Int32 → sw_I → sw_J → Prop} {x2 : Int32} {I : sw_I} {J : sw_J} (h : wp_X10_bestWish b1 n1 x2 I J Q) : AW l D cy sz RX10 cX10_bestWish 7 (some .int) false rm_X10_bestWish 0 0 (sw_qi G Q) 0 0 G I J 0 [(0, .ref (sz + 140)), (1, .ref (sz + b1)), (2, .int x2)] [] := by
  unfold wp_X10_bestWish at h
  refine aw_aload_n 1 dX10_bestWish_0 rfl rfl ?_
  refine aw_bipush (v := 10) dX10_bestWish_1 (by decide) ?_
  refine aw_iload_n 2 dX10_bestWish_3 rfl rfl ?_
  refine aw_iadd dX10_bestWish_4 ?_
  obtain ⟨hi_1, h⟩ := h
  refine aw_ild dX10_bestWish_5 hb1.1 hb1.2 hi_1 ?_
  refine aw_topi (fun y_2 e_3 => ?_)
  have h := h y_2 e_3
  refine aw_istore_n (lv' := [(3, .int y_2), (0, .ref (sz + 140)), (1, .ref (sz + b1)), (2, .int x2)]) dX10_bestWish_6 rfl (by decide) rfl ?_
  refine aw_iload_n 0 dX10_bestWish_7 rfl rfl ?_
  refine aw_istore (lv' := [(4, .int y_2), (3, .int y_2), (0, .ref (sz + 140)), (1, .ref (sz + b1)), (2, .int x2)]) dX10_bestWish_8 (by decide) rfl ?_
  refine aw_aload_n 2 dX10_bestWish_10 rfl rfl ?_
  refine aw_aload_n 2 dX10_bestWish_11 rfl rfl ?_
  refine aw_aload_n 3 dX10_bestWish_12 rfl rfl ?_
  refine aw_aload_n 3 dX10_bestWish_13 rfl rfl ?_
  refine aw_bipush (v := 30) dX10_bestWish_14 (by decide) ?_
  obtain ⟨hi_4, h⟩ := h
  refine aw_ild dX10_bestWish_16 hb1.1 hb1.2 hi_4 ?_
  refine aw_callV wv_X10_stopOf (M_X10_stopOf hG ⟨hb1.1, hb1.2⟩ h) ml_X10_222 rfl (by decide) (lk140 hG) rfl rfl (Nat.le_of_ble_eq_true rfl) ⟨rfl, rfl⟩ ⟨Nat.le_of_ble_eq_true rfl, Nat.le_of_ble_eq_true rfl⟩ ⟨Nat.le_refl _, Nat.le_refl _⟩ dX10_bestWish_17 (aw_ki fun r_5 I_6 J_7 h => ?_)
  refine aw_aload_n 2 dX10_bestWish_20 rfl rfl ?_
  refine gf_X10_7 fl_X10_135 (lk140 hG) (lr140_7 hG) dX10_bestWish_21 ?_
  refine aw_iload_n 4 dX10_bestWish_24 rfl rfl ?_
  obtain ⟨hi_8, h⟩ := h
  refine aw_ild dX10_bestWish_25 (lk142 hG) (ln142 hG) hi_8 ?_
  refine aw_isub dX10_bestWish_26 ?_
  refine aw_mabs mm_X10_199 wm_abs (Nat.le_of_ble_eq_true rfl) (Nat.le_of_ble_eq_true rfl) ⟨Nat.le_refl _, Nat.le_refl _⟩ dX10_bestWish_27 ?_
  refine pf_X10_42 fl_X10_305 (lk140 hG) dX10_bestWish_30 (aw_nameI fun I_9 e_10 => ?_)
  have h := h I_9 e_10
  refine aw_iconst (v := (-1)) dX10_bestWish_33 (by decide) ?_
  refine aw_istore (lv' := [(5, .int (-1)), (4, .int y_2), (3, .int y_2), (0, .ref (sz + 140)), (1, .ref (sz + b1)), (2, .int x2)]) dX10_bestWish_34 (by decide) rfl ?_
  refine aw_sub [3, 4, 5, 2, 1, 0] rfl ?_
  obtain ⟨n_11, h⟩ := h
  exact tl_X10_bestWish_36 hG hb1  n_11 x2 y_2 y_2 (-1) I_9 J_7 h
theorem M_X10_bestWish {l : Launch} {D : va_G} {cy : Nat → ClassId} {sz : Nat} {G : sw_G} (hG : sw_lay G) {b1 : Nat} {n1 : Nat} (hb1 : sw_ia G b1 n1) {Q : Int32 → sw_I → sw_J → Prop} {x2 : Int32} {I : sw_I} {J : sw_J} (h : wp_X10_bestWish b1 n1 x2 I J Q) : Met l yX10_bestWish (Cond.code yX10_bestWish cX10_bestWish 7 (some .int) :: sw_T) rm_X10_bestWish (sw_Pc D cy sz [.ref (sz + 140), .ref (sz + b1), .int x2] G I J) (sw_Q D cy sz (sw_qi G Q)) 0 0 (fun q => sz ≤ q) :=
  sw_met (by decide) (fun q => by cases q) (Nat.le_of_ble_eq_true rfl) rfl (t_X10_bestWish hG hb1 h)
-- X10_advise
abbrev rm_X10_advise : Room := { frames := 6, cells := 0, slots := 0, locals := 141 }
def wp_X10_advise (x1 : Int32) (I : sw_I) (J : sw_J) (Q : Int32 → sw_I → sw_J → Prop) : Prop :=
  ∀ I_1 : sw_I, I_1 = sw_up I 140 0 (0 : Int32) → wp_X10_canLeave x1 I_1 J (fun r_3 I_4 J_5 => sw_if (r_3 = 0) (Q (-2 : Int32) I_4 J_5) (wp_X10_bestWish 144 33 x1 I_4 J_5 (fun r_7 I_8 J_9 => ∀ I_10 : sw_I, I_10 = sw_up I_8 140 1 (0 : Int32) → wp_X10_enters ((I_10 140 42).toInt64) I_10 J_9 (fun I_13 J_14 => Q r_7 I_13 J_14))))
set_option maxRecDepth 20000 in
theorem t_X10_advise {l : Launch} {D : va_G} {cy : Nat → ClassId} {sz : Nat} {G : sw_G} (hG : sw_lay G)   {Q : Int32 → sw_I → sw_J → Prop} {x1 : Int32} {I : sw_I} {J : sw_J} (h : wp_X10_advise x1 I J Q) : AW l D cy sz RX10 cX10_advise 3 (some .int) false rm_X10_advise 0 0 (sw_qi G Q) 0 0 G I J 0 [(0, .ref (sz + 140)), (1, .int x1)] [] := by
  unfold wp_X10_advise at h
  refine aw_aload_n 0 dX10_advise_0 rfl rfl ?_
  refine aw_iconst (v := 0) dX10_advise_1 (by decide) ?_
  refine pf_X10_0 fl_X10_3 (lk140 hG) dX10_advise_2 (aw_nameI fun I_1 e_2 => ?_)
  have h := h I_1 e_2
  refine aw_aload_n 0 dX10_advise_5 rfl rfl ?_
  refine aw_iload_n 1 dX10_advise_6 rfl rfl ?_
  refine aw_callV wv_X10_canLeave (M_X10_canLeave hG  h) ml_X10_258 rfl (by decide) (lk140 hG) rfl rfl (Nat.le_of_ble_eq_true rfl) ⟨rfl, rfl⟩ ⟨Nat.le_of_ble_eq_true rfl, Nat.le_of_ble_eq_true rfl⟩ ⟨Nat.le_refl _, Nat.le_refl _⟩ dX10_advise_7 (aw_ki fun r_3 I_4 J_5 h => ?_)
  refine aw_zne 16 dX10_advise_10 (by decide) (fun c_6 => ?_) (fun c_6 => ?_)
  · have h := sw_if.f h c_6
    refine aw_aload_n 0 dX10_advise_16 rfl rfl ?_
    refine aw_aload_n 0 dX10_advise_17 rfl rfl ?_
    refine gf_X10_9 fl_X10_79 (lk140 hG) (lr140_9 hG) dX10_advise_18 ?_
    refine aw_iload_n 1 dX10_advise_21 rfl rfl ?_
    refine aw_callV wv_X10_bestWish (M_X10_bestWish hG ⟨(lk144 hG), (ln144 hG)⟩ h) ml_X10_308 rfl (by decide) (lk140 hG) rfl rfl (Nat.le_of_ble_eq_true rfl) ⟨rfl, rfl⟩ ⟨Nat.le_of_ble_eq_true rfl, Nat.le_of_ble_eq_true rfl⟩ ⟨Nat.le_refl _, Nat.le_refl _⟩ dX10_advise_22 (aw_ki fun r_7 I_8 J_9 h => ?_)
    refine aw_istore_n (lv' := [(2, .int r_7), (0, .ref (sz + 140)), (1, .int x1)]) dX10_advise_25 rfl (by decide) rfl ?_
    refine aw_aload_n 1 dX10_advise_26 rfl rfl ?_
    refine aw_iconst (v := 0) dX10_advise_27 (by decide) ?_
    refine pf_X10_1 fl_X10_15 (lk140 hG) dX10_advise_28 (aw_nameI fun I_10 e_11 => ?_)
    have h := h I_10 e_11
    refine aw_aload_n 1 dX10_advise_31 rfl rfl ?_
    refine aw_aload_n 1 dX10_advise_32 rfl rfl ?_
    refine gf_X10_42 fl_X10_305 (lk140 hG) dX10_advise_33 ?_
    refine aw_i2l dX10_advise_36 ?_
    refine aw_callV wv_X10_enters (M_X10_enters hG  h) ml_X10_18 rfl (by decide) (lk140 hG) rfl rfl (Nat.le_of_ble_eq_true rfl) ⟨rfl, rfl⟩ ⟨Nat.le_of_ble_eq_true rfl, Nat.le_of_ble_eq_true rfl⟩ ⟨Nat.le_refl _, Nat.le_refl _⟩ dX10_advise_37 (aw_kv fun I_13 J_14 h => ?_)
    refine aw_iload_n 0 dX10_advise_40 rfl rfl ?_
    exact aw_iret rfl dX10_advise_41 ⟨rfl, _, rfl, h⟩
  · have h := sw_if.t h c_6
    refine aw_bipush (v := (-2)) dX10_advise_13 (by decide) ?_
    exact aw_iret rfl dX10_advise_15 ⟨rfl, _, rfl, h⟩
theorem M_X10_advise {l : Launch} {D : va_G} {cy : Nat → ClassId} {sz : Nat} {G : sw_G} (hG : sw_lay G)   {Q : Int32 → sw_I → sw_J → Prop} {x1 : Int32} {I : sw_I} {J : sw_J} (h : wp_X10_advise x1 I J Q) : Met l yX10_advise (Cond.code yX10_advise cX10_advise 3 (some .int) :: sw_T) rm_X10_advise (sw_Pc D cy sz [.ref (sz + 140), .int x1] G I J) (sw_Q D cy sz (sw_qi G Q)) 0 0 (fun q => sz ≤ q) :=
  sw_met (by decide) (fun q => by cases q) (Nat.le_of_ble_eq_true rfl) rfl (t_X10_advise hG  h)
-- X10_rests
abbrev rm_X10_rests : Room := { frames := 6, cells := 0, slots := 0, locals := 141 }
def wb_X10_rests_170  (K170 : Int32 → Int32 → sw_I → sw_J → Prop) (Q : Int32 → sw_I → sw_J → Prop) (x2 : Int32) (x4 : Int32) (I : sw_I) (J : sw_J) : Prop :=
  sw_if (x4 < (I 140 4)) (vp_in ((10 : Int32) + x4) 33 ∧ wp_X10_enters ((I 145 ((10 : Int32) + x4).toNatClampNeg).toInt64) I J (fun I_4 J_5 => ∀ y_6 : Int32, y_6 = x4 + 1 → K170 x2 y_6 I_4 J_5)) (Q x2 I J)
def wl_X10_rests_170   (Q : Int32 → sw_I → sw_J → Prop) : Nat → Int32 → Int32 → sw_I → sw_J → Prop
  | 0 => fun _ _ _ _ => False
  | n + 1 => fun x2 x4 I J => wb_X10_rests_170  (wl_X10_rests_170   Q n) Q x2 x4 I J
def wB_X10_rests_133   (Q : Int32 → sw_I → sw_J → Prop) (x2 : Int32) (x3 : Int32) (I : sw_I) (J : sw_J) : Prop :=
  ∀ I_1 : sw_I, I_1 = sw_up I 140 1 (0 : Int32) → wp_X10_flag x3 I_1 J (fun r_3 I_4 J_5 => wp_X10_enters r_3.toInt64 I_4 J_5 (fun I_7 J_8 => wp_X10_stopOf 145 33 (I_7 145 (30 : Int32).toNatClampNeg) I_7 J_8 (fun r_10 I_11 J_12 => wp_X10_enters r_10.toInt64 I_11 J_12 (fun I_14 J_15 => ∃ n_16 : Nat, wl_X10_rests_170   Q n_16 x2 0 I_14 J_15))))
def wB_X10_rests_121  (K48 : Int32 → Int32 → Int32 → Int32 → sw_I → sw_J → Prop) (Q : Int32 → sw_I → sw_J → Prop) (x1 : Int32) (x2 : Int32) (x3 : Int32) (x4 : Int32) (I : sw_I) (J : sw_J) : Prop :=
  ∀ y_1 : Int32, y_1 = x4 + 1 → K48 x1 x2 x3 y_1 I J
def wB_X10_rests_108  (K48 : Int32 → Int32 → Int32 → Int32 → sw_I → sw_J → Prop) (Q : Int32 → sw_I → sw_J → Prop) (x1 : Int32) (x2 : Int32) (x4 : Int32) (x5 : Int32) (s0 : Int32) (I : sw_I) (J : sw_J) : Prop :=
  vp_in ((10 : Int32) + x4) 33 ∧ ∀ I_2 : sw_I, I_2 = sw_up I 145 ((10 : Int32) + x4).toNatClampNeg x5 → wB_X10_rests_121  K48 Q x1 x2 s0 x4 I_2 J
def wB_X10_rests_107  (K48 : Int32 → Int32 → Int32 → Int32 → sw_I → sw_J → Prop) (Q : Int32 → sw_I → sw_J → Prop) (x1 : Int32) (x2 : Int32) (x4 : Int32) (x5 : Int32) (I : sw_I) (J : sw_J) : Prop :=
  wB_X10_rests_108  K48 Q x1 x2 x4 x5 0 I J
def wb_X10_rests_48  (K34 : Int32 → Int32 → Int32 → sw_I → sw_J → Prop) (K48 : Int32 → Int32 → Int32 → Int32 → sw_I → sw_J → Prop) (Q : Int32 → sw_I → sw_J → Prop) (x1 : Int32) (x2 : Int32) (x3 : Int32) (x4 : Int32) (I : sw_I) (J : sw_J) : Prop :=
  sw_if (x4 < (I 140 4)) (wp_X10_has (I 145 (30 : Int32).toNatClampNeg) x4 I J (fun r_5 I_6 J_7 => sw_if (r_5 = 0) (wB_X10_rests_121  K48 Q x1 x2 x3 x4 I_6 J_7) (wp_X10_bestWish 145 33 x4 I_6 J_7 (fun r_9 I_10 J_11 => sw_if (x3 = 0) (wB_X10_rests_107  K48 Q x1 x2 x4 r_9 I_10 J_11) (vp_in ((10 : Int32) + x4) 33 ∧ sw_if (r_9 = (I_10 145 ((10 : Int32) + x4).toNatClampNeg)) (wB_X10_rests_108  K48 Q x1 x2 x4 r_9 1 I_10 J_11) (wB_X10_rests_107  K48 Q x1 x2 x4 r_9 I_10 J_11)))))) (∀ y_2 : Int32, y_2 = x2 + 1 → K34 x1 y_2 x3 I J)
def wl_X10_rests_48  (K34 : Int32 → Int32 → Int32 → sw_I → sw_J → Prop) (Q : Int32 → sw_I → sw_J → Prop) : Nat → Int32 → Int32 → Int32 → Int32 → sw_I → sw_J → Prop
  | 0 => fun _ _ _ _ _ _ => False
  | n + 1 => fun x1 x2 x3 x4 I J => wb_X10_rests_48  K34 (wl_X10_rests_48  K34 Q n) Q x1 x2 x3 x4 I J
def wb_X10_rests_34  (K34 : Int32 → Int32 → Int32 → sw_I → sw_J → Prop) (Q : Int32 → sw_I → sw_J → Prop) (x1 : Int32) (x2 : Int32) (x3 : Int32) (I : sw_I) (J : sw_J) : Prop :=
  sw_if (x2 < x1) (sw_if (x3 = 0) (∃ n_3 : Nat, wl_X10_rests_48  K34 Q n_3 x1 x2 1 0 I J) (wB_X10_rests_133   Q x2 x3 I J)) (wB_X10_rests_133   Q x2 x3 I J)
def wl_X10_rests_34   (Q : Int32 → sw_I → sw_J → Prop) : Nat → Int32 → Int32 → Int32 → sw_I → sw_J → Prop
  | 0 => fun _ _ _ _ _ => False
  | n + 1 => fun x1 x2 x3 I J => wb_X10_rests_34  (wl_X10_rests_34   Q n) Q x1 x2 x3 I J
def wp_X10_rests (x1 : Int32) (I : sw_I) (J : sw_J) (Q : Int32 → sw_I → sw_J → Prop) : Prop :=
  ∀ I_1 : sw_I, I_1 = sw_up I 140 0 (0 : Int32) → wp_X10_in x1.toInt64 0 30 I_1 J (fun r_3 I_4 J_5 => sw_if (r_3 = 0) (Q (-1 : Int32) I_4 J_5) (wp_X10_puts 144 33 145 33 I_4 J_5 (fun I_8 J_9 => ∃ n_10 : Nat, wl_X10_rests_34   Q n_10 x1 0 0 I_8 J_9)))
set_option maxRecDepth 20000 in
theorem tb_X10_rests_170 {l : Launch} {D : va_G} {cy : Nat → ClassId} {sz : Nat} {G : sw_G} (hG : sw_lay G)   {Q : Int32 → sw_I → sw_J → Prop} {K170 : Int32 → Int32 → sw_I → sw_J → Prop} (hK170 : ∀ (x2 : Int32) (x4 : Int32) (I : sw_I) (J : sw_J), K170 x2 x4 I J → AW l D cy sz RX10 cX10_rests 6 (some .int) false rm_X10_rests 0 0 (sw_qi G Q) 0 0 G I J 170 [(0, .ref (sz + 140)), (2, .int x2), (4, .int x4)] []) {x2 : Int32} {x4 : Int32} {I : sw_I} {J : sw_J} (h : wb_X10_rests_170  K170 Q x2 x4 I J) : AW l D cy sz RX10 cX10_rests 6 (some .int) false rm_X10_rests 0 0 (sw_qi G Q) 0 0 G I J 170 [(0, .ref (sz + 140)), (2, .int x2), (4, .int x4)] [] := by
  unfold wb_X10_rests_170 at h
  refine aw_iload 2 dX10_rests_170 rfl ?_
  refine aw_aload_n 0 dX10_rests_172 rfl rfl ?_
  refine gf_X10_4 fl_X10_29 (lk140 hG) dX10_rests_173 ?_
  refine aw_jge 200 dX10_rests_176 (by decide) (fun c_1 => ?_) (fun c_1 => ?_)
  · have h := sw_if.f h c_1
    refine aw_iload_n 1 dX10_rests_200 rfl rfl ?_
    exact aw_iret rfl dX10_rests_201 ⟨rfl, _, rfl, h⟩
  · have h := sw_if.t h c_1
    refine aw_aload_n 0 dX10_rests_179 rfl rfl ?_
    refine aw_aload_n 0 dX10_rests_180 rfl rfl ?_
    refine gf_X10_10 fl_X10_313 (lk140 hG) (lr140_10 hG) dX10_rests_181 ?_
    refine aw_bipush (v := 10) dX10_rests_184 (by decide) ?_
    refine aw_iload 2 dX10_rests_186 rfl ?_
    refine aw_iadd dX10_rests_188 ?_
    obtain ⟨hi_2, h⟩ := h
    refine aw_ild dX10_rests_189 (lk145 hG) (ln145 hG) hi_2 ?_
    refine aw_i2l dX10_rests_190 ?_
    refine aw_callV wv_X10_enters (M_X10_enters hG  h) ml_X10_18 rfl (by decide) (lk140 hG) rfl rfl (Nat.le_of_ble_eq_true rfl) ⟨rfl, rfl⟩ ⟨Nat.le_of_ble_eq_true rfl, Nat.le_of_ble_eq_true rfl⟩ ⟨Nat.le_refl _, Nat.le_refl _⟩ dX10_rests_191 (aw_kv fun I_4 J_5 h => ?_)
    obtain ⟨y_6, e_7⟩ : ∃ q : Int32, q = x4 + 1 := ⟨_, rfl⟩
    have h := h y_6 e_7
    refine aw_iinc (lv' := [(4, .int y_6), (0, .ref (sz + 140)), (2, .int x2)]) 2 dX10_rests_194 rfl (by rw [e_7]; rfl) (by decide) rfl ?_
    refine aw_goto 170 dX10_rests_197 (by decide) ?_
    refine aw_sub [1, 2, 0] rfl ?_
    exact hK170 x2 y_6 I_4 J_5 h
set_option maxRecDepth 20000 in
theorem tl_X10_rests_170 {l : Launch} {D : va_G} {cy : Nat → ClassId} {sz : Nat} {G : sw_G} (hG : sw_lay G)   {Q : Int32 → sw_I → sw_J → Prop} : ∀ (n : Nat) (x2 : Int32) (x4 : Int32) (I : sw_I) (J : sw_J), wl_X10_rests_170   Q n x2 x4 I J → AW l D cy sz RX10 cX10_rests 6 (some .int) false rm_X10_rests 0 0 (sw_qi G Q) 0 0 G I J 170 [(0, .ref (sz + 140)), (2, .int x2), (4, .int x4)] [] := by
  intro n
  induction n with
  | zero => intro x2 x4 I J h; exact False.elim h
  | succ n ih => intro x2 x4 I J h; exact tb_X10_rests_170 hG  ih h
set_option maxRecDepth 20000 in
theorem t_X10_rests_133 {l : Launch} {D : va_G} {cy : Nat → ClassId} {sz : Nat} {G : sw_G} (hG : sw_lay G)   {Q : Int32 → sw_I → sw_J → Prop} {x2 : Int32} {x3 : Int32} {I : sw_I} {J : sw_J} (h : wB_X10_rests_133   Q x2 x3 I J) : AW l D cy sz RX10 cX10_rests 6 (some .int) false rm_X10_rests 0 0 (sw_qi G Q) 0 0 G I J 133 [(0, .ref (sz + 140)), (2, .int x2), (3, .int x3)] [] := by
  unfold wB_X10_rests_133 at h
  refine aw_aload_n 0 dX10_rests_133 rfl rfl ?_
  refine aw_iconst (v := 0) dX10_rests_134 (by decide) ?_
  refine pf_X10_1 fl_X10_15 (lk140 hG) dX10_rests_135 (aw_nameI fun I_1 e_2 => ?_)
  have h := h I_1 e_2
  refine aw_aload_n 0 dX10_rests_138 rfl rfl ?_
  refine aw_iload_n 2 dX10_rests_139 rfl rfl ?_
  refine aw_callS wv_X10_flag (M_X10_flag trivial  h) ml_X10_54 rfl rfl (Nat.le_of_ble_eq_true rfl) ⟨rfl, rfl⟩ ⟨Nat.le_of_ble_eq_true rfl, Nat.le_of_ble_eq_true rfl⟩ ⟨Nat.le_refl _, Nat.le_refl _⟩ dX10_rests_140 (aw_ki fun r_3 I_4 J_5 h => ?_)
  refine aw_i2l dX10_rests_143 ?_
  refine aw_callV wv_X10_enters (M_X10_enters hG  h) ml_X10_18 rfl (by decide) (lk140 hG) rfl rfl (Nat.le_of_ble_eq_true rfl) ⟨rfl, rfl⟩ ⟨Nat.le_of_ble_eq_true rfl, Nat.le_of_ble_eq_true rfl⟩ ⟨Nat.le_refl _, Nat.le_refl _⟩ dX10_rests_144 (aw_kv fun I_7 J_8 h => ?_)
  refine aw_aload_n 0 dX10_rests_147 rfl rfl ?_
  refine aw_aload_n 0 dX10_rests_148 rfl rfl ?_
  refine aw_aload_n 0 dX10_rests_149 rfl rfl ?_
  refine gf_X10_10 fl_X10_313 (lk140 hG) (lr140_10 hG) dX10_rests_150 ?_
  refine aw_aload_n 0 dX10_rests_153 rfl rfl ?_
  refine gf_X10_10 fl_X10_313 (lk140 hG) (lr140_10 hG) dX10_rests_154 ?_
  refine aw_bipush (v := 30) dX10_rests_157 (by decide) ?_
  refine aw_ild dX10_rests_159 (lk145 hG) (ln145 hG) (by unfold vp_in; decide) ?_
  refine aw_callV wv_X10_stopOf (M_X10_stopOf hG ⟨(lk145 hG), (ln145 hG)⟩ h) ml_X10_222 rfl (by decide) (lk140 hG) rfl rfl (Nat.le_of_ble_eq_true rfl) ⟨rfl, rfl⟩ ⟨Nat.le_of_ble_eq_true rfl, Nat.le_of_ble_eq_true rfl⟩ ⟨Nat.le_refl _, Nat.le_refl _⟩ dX10_rests_160 (aw_ki fun r_10 I_11 J_12 h => ?_)
  refine aw_i2l dX10_rests_163 ?_
  refine aw_callV wv_X10_enters (M_X10_enters hG  h) ml_X10_18 rfl (by decide) (lk140 hG) rfl rfl (Nat.le_of_ble_eq_true rfl) ⟨rfl, rfl⟩ ⟨Nat.le_of_ble_eq_true rfl, Nat.le_of_ble_eq_true rfl⟩ ⟨Nat.le_refl _, Nat.le_refl _⟩ dX10_rests_164 (aw_kv fun I_14 J_15 h => ?_)
  refine aw_iconst (v := 0) dX10_rests_167 (by decide) ?_
  refine aw_istore (lv' := [(4, .int 0), (0, .ref (sz + 140)), (2, .int x2), (3, .int x3)]) dX10_rests_168 (by decide) rfl ?_
  refine aw_sub [1, 2, 0] rfl ?_
  obtain ⟨n_16, h⟩ := h
  exact tl_X10_rests_170 hG   n_16 x2 0 I_14 J_15 h
set_option maxRecDepth 20000 in
theorem t_X10_rests_121 {l : Launch} {D : va_G} {cy : Nat → ClassId} {sz : Nat} {G : sw_G} (hG : sw_lay G)   {Q : Int32 → sw_I → sw_J → Prop} {K48 : Int32 → Int32 → Int32 → Int32 → sw_I → sw_J → Prop} (hK48 : ∀ (x1 : Int32) (x2 : Int32) (x3 : Int32) (x4 : Int32) (I : sw_I) (J : sw_J), K48 x1 x2 x3 x4 I J → AW l D cy sz RX10 cX10_rests 6 (some .int) false rm_X10_rests 0 0 (sw_qi G Q) 0 0 G I J 48 [(0, .ref (sz + 140)), (1, .int x1), (2, .int x2), (3, .int x3), (4, .int x4)] []) {x1 : Int32} {x2 : Int32} {x3 : Int32} {x4 : Int32} {I : sw_I} {J : sw_J} (h : wB_X10_rests_121  K48 Q x1 x2 x3 x4 I J) : AW l D cy sz RX10 cX10_rests 6 (some .int) false rm_X10_rests 0 0 (sw_qi G Q) 0 0 G I J 121 [(0, .ref (sz + 140)), (1, .int x1), (2, .int x2), (3, .int x3), (4, .int x4)] [] := by
  unfold wB_X10_rests_121 at h
  obtain ⟨y_1, e_2⟩ : ∃ q : Int32, q = x4 + 1 := ⟨_, rfl⟩
  have h := h y_1 e_2
  refine aw_iinc (lv' := [(4, .int y_1), (0, .ref (sz + 140)), (1, .int x1), (2, .int x2), (3, .int x3)]) 4 dX10_rests_121 rfl (by rw [e_2]; rfl) (by decide) rfl ?_
  refine aw_goto 48 dX10_rests_124 (by decide) ?_
  refine aw_sub [1, 2, 3, 4, 0] rfl ?_
  exact hK48 x1 x2 x3 y_1 I J h
set_option maxRecDepth 20000 in
theorem t_X10_rests_108 {l : Launch} {D : va_G} {cy : Nat → ClassId} {sz : Nat} {G : sw_G} (hG : sw_lay G)   {Q : Int32 → sw_I → sw_J → Prop} {K48 : Int32 → Int32 → Int32 → Int32 → sw_I → sw_J → Prop} (hK48 : ∀ (x1 : Int32) (x2 : Int32) (x3 : Int32) (x4 : Int32) (I : sw_I) (J : sw_J), K48 x1 x2 x3 x4 I J → AW l D cy sz RX10 cX10_rests 6 (some .int) false rm_X10_rests 0 0 (sw_qi G Q) 0 0 G I J 48 [(0, .ref (sz + 140)), (1, .int x1), (2, .int x2), (3, .int x3), (4, .int x4)] []) {x1 : Int32} {x2 : Int32} {x4 : Int32} {x5 : Int32} {s0 : Int32} {I : sw_I} {J : sw_J} (h : wB_X10_rests_108  K48 Q x1 x2 x4 x5 s0 I J) : AW l D cy sz RX10 cX10_rests 6 (some .int) false rm_X10_rests 0 0 (sw_qi G Q) 0 0 G I J 108 [(0, .ref (sz + 140)), (1, .int x1), (2, .int x2), (4, .int x4), (5, .int x5)] [.int s0] := by
  unfold wB_X10_rests_108 at h
  refine aw_istore_n (lv' := [(3, .int s0), (0, .ref (sz + 140)), (1, .int x1), (2, .int x2), (4, .int x4), (5, .int x5)]) dX10_rests_108 rfl (by decide) rfl ?_
  refine aw_aload_n 1 dX10_rests_109 rfl rfl ?_
  refine gf_X10_10 fl_X10_313 (lk140 hG) (lr140_10 hG) dX10_rests_110 ?_
  refine aw_bipush (v := 10) dX10_rests_113 (by decide) ?_
  refine aw_iload 4 dX10_rests_115 rfl ?_
  refine aw_iadd dX10_rests_117 ?_
  refine aw_iload 5 dX10_rests_118 rfl ?_
  obtain ⟨hi_1, h⟩ := h
  refine aw_ist dX10_rests_120 (lk145 hG) (ln145 hG) hi_1 (aw_nameI fun I_2 e_3 => ?_)
  have h := h I_2 e_3
  refine aw_sub [1, 2, 3, 0, 4] rfl ?_
  exact t_X10_rests_121 hG  hK48 h
set_option maxRecDepth 20000 in
theorem t_X10_rests_107 {l : Launch} {D : va_G} {cy : Nat → ClassId} {sz : Nat} {G : sw_G} (hG : sw_lay G)   {Q : Int32 → sw_I → sw_J → Prop} {K48 : Int32 → Int32 → Int32 → Int32 → sw_I → sw_J → Prop} (hK48 : ∀ (x1 : Int32) (x2 : Int32) (x3 : Int32) (x4 : Int32) (I : sw_I) (J : sw_J), K48 x1 x2 x3 x4 I J → AW l D cy sz RX10 cX10_rests 6 (some .int) false rm_X10_rests 0 0 (sw_qi G Q) 0 0 G I J 48 [(0, .ref (sz + 140)), (1, .int x1), (2, .int x2), (3, .int x3), (4, .int x4)] []) {x1 : Int32} {x2 : Int32} {x4 : Int32} {x5 : Int32} {I : sw_I} {J : sw_J} (h : wB_X10_rests_107  K48 Q x1 x2 x4 x5 I J) : AW l D cy sz RX10 cX10_rests 6 (some .int) false rm_X10_rests 0 0 (sw_qi G Q) 0 0 G I J 107 [(0, .ref (sz + 140)), (1, .int x1), (2, .int x2), (4, .int x4), (5, .int x5)] [] := by
  unfold wB_X10_rests_107 at h
  refine aw_iconst (v := 0) dX10_rests_107 (by decide) ?_
  refine aw_sub [0, 1, 2, 3, 4] rfl ?_
  exact t_X10_rests_108 hG  hK48 h
set_option maxRecDepth 20000 in
theorem tb_X10_rests_48 {l : Launch} {D : va_G} {cy : Nat → ClassId} {sz : Nat} {G : sw_G} (hG : sw_lay G)   {Q : Int32 → sw_I → sw_J → Prop} {K34 : Int32 → Int32 → Int32 → sw_I → sw_J → Prop} (hK34 : ∀ (x1 : Int32) (x2 : Int32) (x3 : Int32) (I : sw_I) (J : sw_J), K34 x1 x2 x3 I J → AW l D cy sz RX10 cX10_rests 6 (some .int) false rm_X10_rests 0 0 (sw_qi G Q) 0 0 G I J 34 [(0, .ref (sz + 140)), (1, .int x1), (2, .int x2), (3, .int x3)] []) {K48 : Int32 → Int32 → Int32 → Int32 → sw_I → sw_J → Prop} (hK48 : ∀ (x1 : Int32) (x2 : Int32) (x3 : Int32) (x4 : Int32) (I : sw_I) (J : sw_J), K48 x1 x2 x3 x4 I J → AW l D cy sz RX10 cX10_rests 6 (some .int) false rm_X10_rests 0 0 (sw_qi G Q) 0 0 G I J 48 [(0, .ref (sz + 140)), (1, .int x1), (2, .int x2), (3, .int x3), (4, .int x4)] []) {x1 : Int32} {x2 : Int32} {x3 : Int32} {x4 : Int32} {I : sw_I} {J : sw_J} (h : wb_X10_rests_48  K34 K48 Q x1 x2 x3 x4 I J) : AW l D cy sz RX10 cX10_rests 6 (some .int) false rm_X10_rests 0 0 (sw_qi G Q) 0 0 G I J 48 [(0, .ref (sz + 140)), (1, .int x1), (2, .int x2), (3, .int x3), (4, .int x4)] [] := by
  unfold wb_X10_rests_48 at h
  refine aw_iload 4 dX10_rests_48 rfl ?_
  refine aw_aload_n 0 dX10_rests_50 rfl rfl ?_
  refine gf_X10_4 fl_X10_29 (lk140 hG) dX10_rests_51 ?_
  refine aw_jge 127 dX10_rests_54 (by decide) (fun c_1 => ?_) (fun c_1 => ?_)
  · have h := sw_if.f h c_1
    obtain ⟨y_2, e_3⟩ : ∃ q : Int32, q = x2 + 1 := ⟨_, rfl⟩
    have h := h y_2 e_3
    refine aw_iinc (lv' := [(2, .int y_2), (0, .ref (sz + 140)), (1, .int x1), (3, .int x3), (4, .int x4)]) 2 dX10_rests_127 rfl (by rw [e_3]; rfl) (by decide) rfl ?_
    refine aw_goto 34 dX10_rests_130 (by decide) ?_
    refine aw_sub [1, 2, 0, 3] rfl ?_
    exact hK34 x1 y_2 x3 I J h
  · have h := sw_if.t h c_1
    refine aw_aload_n 0 dX10_rests_57 rfl rfl ?_
    refine gf_X10_10 fl_X10_313 (lk140 hG) (lr140_10 hG) dX10_rests_58 ?_
    refine aw_bipush (v := 30) dX10_rests_61 (by decide) ?_
    refine aw_ild dX10_rests_63 (lk145 hG) (ln145 hG) (by unfold vp_in; decide) ?_
    refine aw_iload 4 dX10_rests_64 rfl ?_
    refine aw_callS wv_X10_has (M_X10_has trivial  h) ml_X10_195 rfl rfl (Nat.le_of_ble_eq_true rfl) ⟨rfl, rfl⟩ ⟨Nat.le_of_ble_eq_true rfl, Nat.le_of_ble_eq_true rfl⟩ ⟨Nat.le_refl _, Nat.le_refl _⟩ dX10_rests_66 (aw_ki fun r_5 I_6 J_7 h => ?_)
    refine aw_zeq 121 dX10_rests_69 (by decide) (fun c_8 => ?_) (fun c_8 => ?_)
    · have h := sw_if.t h c_8
      refine aw_sub [0, 1, 2, 3, 4] rfl ?_
      exact t_X10_rests_121 hG  hK48 h
    · have h := sw_if.f h c_8
      refine aw_aload_n 0 dX10_rests_72 rfl rfl ?_
      refine aw_aload_n 0 dX10_rests_73 rfl rfl ?_
      refine gf_X10_10 fl_X10_313 (lk140 hG) (lr140_10 hG) dX10_rests_74 ?_
      refine aw_iload 4 dX10_rests_77 rfl ?_
      refine aw_callV wv_X10_bestWish (M_X10_bestWish hG ⟨(lk145 hG), (ln145 hG)⟩ h) ml_X10_308 rfl (by decide) (lk140 hG) rfl rfl (Nat.le_of_ble_eq_true rfl) ⟨rfl, rfl⟩ ⟨Nat.le_of_ble_eq_true rfl, Nat.le_of_ble_eq_true rfl⟩ ⟨Nat.le_refl _, Nat.le_refl _⟩ dX10_rests_79 (aw_ki fun r_9 I_10 J_11 h => ?_)
      refine aw_istore (lv' := [(5, .int r_9), (0, .ref (sz + 140)), (1, .int x1), (2, .int x2), (3, .int x3), (4, .int x4)]) dX10_rests_82 (by decide) rfl ?_
      refine aw_iload_n 4 dX10_rests_84 rfl rfl ?_
      refine aw_zeq 107 dX10_rests_85 (by decide) (fun c_12 => ?_) (fun c_12 => ?_)
      · have h := sw_if.t h c_12
        refine aw_sub [1, 2, 3, 5, 0] rfl ?_
        exact t_X10_rests_107 hG  hK48 h
      · have h := sw_if.f h c_12
        refine aw_iload 0 dX10_rests_88 rfl ?_
        refine aw_aload_n 1 dX10_rests_90 rfl rfl ?_
        refine gf_X10_10 fl_X10_313 (lk140 hG) (lr140_10 hG) dX10_rests_91 ?_
        refine aw_bipush (v := 10) dX10_rests_94 (by decide) ?_
        refine aw_iload 5 dX10_rests_96 rfl ?_
        refine aw_iadd dX10_rests_98 ?_
        obtain ⟨hi_13, h⟩ := h
        refine aw_ild dX10_rests_99 (lk145 hG) (ln145 hG) hi_13 ?_
        refine aw_jne 107 dX10_rests_100 (by decide) (fun c_14 => ?_) (fun c_14 => ?_)
        · have h := sw_if.f h c_14
          refine aw_sub [1, 2, 3, 5, 0] rfl ?_
          exact t_X10_rests_107 hG  hK48 h
        · have h := sw_if.t h c_14
          refine aw_iconst (v := 1) dX10_rests_103 (by decide) ?_
          refine aw_goto 108 dX10_rests_104 (by decide) ?_
          refine aw_sub [1, 2, 3, 5, 0] rfl ?_
          exact t_X10_rests_108 hG  hK48 h
set_option maxRecDepth 20000 in
theorem tl_X10_rests_48 {l : Launch} {D : va_G} {cy : Nat → ClassId} {sz : Nat} {G : sw_G} (hG : sw_lay G)   {Q : Int32 → sw_I → sw_J → Prop} {K34 : Int32 → Int32 → Int32 → sw_I → sw_J → Prop} (hK34 : ∀ (x1 : Int32) (x2 : Int32) (x3 : Int32) (I : sw_I) (J : sw_J), K34 x1 x2 x3 I J → AW l D cy sz RX10 cX10_rests 6 (some .int) false rm_X10_rests 0 0 (sw_qi G Q) 0 0 G I J 34 [(0, .ref (sz + 140)), (1, .int x1), (2, .int x2), (3, .int x3)] []) : ∀ (n : Nat) (x1 : Int32) (x2 : Int32) (x3 : Int32) (x4 : Int32) (I : sw_I) (J : sw_J), wl_X10_rests_48  K34 Q n x1 x2 x3 x4 I J → AW l D cy sz RX10 cX10_rests 6 (some .int) false rm_X10_rests 0 0 (sw_qi G Q) 0 0 G I J 48 [(0, .ref (sz + 140)), (1, .int x1), (2, .int x2), (3, .int x3), (4, .int x4)] [] := by
  intro n
  induction n with
  | zero => intro x1 x2 x3 x4 I J h; exact False.elim h
  | succ n ih => intro x1 x2 x3 x4 I J h; exact tb_X10_rests_48 hG  hK34 ih h
set_option maxRecDepth 20000 in
theorem tb_X10_rests_34 {l : Launch} {D : va_G} {cy : Nat → ClassId} {sz : Nat} {G : sw_G} (hG : sw_lay G)   {Q : Int32 → sw_I → sw_J → Prop} {K34 : Int32 → Int32 → Int32 → sw_I → sw_J → Prop} (hK34 : ∀ (x1 : Int32) (x2 : Int32) (x3 : Int32) (I : sw_I) (J : sw_J), K34 x1 x2 x3 I J → AW l D cy sz RX10 cX10_rests 6 (some .int) false rm_X10_rests 0 0 (sw_qi G Q) 0 0 G I J 34 [(0, .ref (sz + 140)), (1, .int x1), (2, .int x2), (3, .int x3)] []) {x1 : Int32} {x2 : Int32} {x3 : Int32} {I : sw_I} {J : sw_J} (h : wb_X10_rests_34  K34 Q x1 x2 x3 I J) : AW l D cy sz RX10 cX10_rests 6 (some .int) false rm_X10_rests 0 0 (sw_qi G Q) 0 0 G I J 34 [(0, .ref (sz + 140)), (1, .int x1), (2, .int x2), (3, .int x3)] [] := by
  unfold wb_X10_rests_34 at h
  refine aw_iload_n 2 dX10_rests_34 rfl rfl ?_
  refine aw_iload_n 1 dX10_rests_35 rfl rfl ?_
  refine aw_jge 133 dX10_rests_36 (by decide) (fun c_1 => ?_) (fun c_1 => ?_)
  · have h := sw_if.f h c_1
    refine aw_sub [0, 2, 3] rfl ?_
    exact t_X10_rests_133 hG   h
  · have h := sw_if.t h c_1
    refine aw_iload_n 3 dX10_rests_39 rfl rfl ?_
    refine aw_zne 133 dX10_rests_40 (by decide) (fun c_2 => ?_) (fun c_2 => ?_)
    · have h := sw_if.f h c_2
      refine aw_sub [0, 2, 3] rfl ?_
      exact t_X10_rests_133 hG   h
    · have h := sw_if.t h c_2
      refine aw_iconst (v := 1) dX10_rests_43 (by decide) ?_
      refine aw_istore_n (lv' := [(3, .int 1), (0, .ref (sz + 140)), (1, .int x1), (2, .int x2)]) dX10_rests_44 rfl (by decide) rfl ?_
      refine aw_iconst (v := 0) dX10_rests_45 (by decide) ?_
      refine aw_istore (lv' := [(4, .int 0), (3, .int 1), (0, .ref (sz + 140)), (1, .int x1), (2, .int x2)]) dX10_rests_46 (by decide) rfl ?_
      refine aw_sub [2, 3, 4, 1, 0] rfl ?_
      obtain ⟨n_3, h⟩ := h
      exact tl_X10_rests_48 hG  hK34 n_3 x1 x2 1 0 I J h
set_option maxRecDepth 20000 in
theorem tl_X10_rests_34 {l : Launch} {D : va_G} {cy : Nat → ClassId} {sz : Nat} {G : sw_G} (hG : sw_lay G)   {Q : Int32 → sw_I → sw_J → Prop} : ∀ (n : Nat) (x1 : Int32) (x2 : Int32) (x3 : Int32) (I : sw_I) (J : sw_J), wl_X10_rests_34   Q n x1 x2 x3 I J → AW l D cy sz RX10 cX10_rests 6 (some .int) false rm_X10_rests 0 0 (sw_qi G Q) 0 0 G I J 34 [(0, .ref (sz + 140)), (1, .int x1), (2, .int x2), (3, .int x3)] [] := by
  intro n
  induction n with
  | zero => intro x1 x2 x3 I J h; exact False.elim h
  | succ n ih => intro x1 x2 x3 I J h; exact tb_X10_rests_34 hG  ih h
set_option maxRecDepth 20000 in
theorem t_X10_rests {l : Launch} {D : va_G} {cy : Nat → ClassId} {sz : Nat} {G : sw_G} (hG : sw_lay G)   {Q : Int32 → sw_I → sw_J → Prop} {x1 : Int32} {I : sw_I} {J : sw_J} (h : wp_X10_rests x1 I J Q) : AW l D cy sz RX10 cX10_rests 6 (some .int) false rm_X10_rests 0 0 (sw_qi G Q) 0 0 G I J 0 [(0, .ref (sz + 140)), (1, .int x1)] [] := by
  unfold wp_X10_rests at h
  refine aw_aload_n 0 dX10_rests_0 rfl rfl ?_
  refine aw_iconst (v := 0) dX10_rests_1 (by decide) ?_
  refine pf_X10_0 fl_X10_3 (lk140 hG) dX10_rests_2 (aw_nameI fun I_1 e_2 => ?_)
  have h := h I_1 e_2
  refine aw_iload_n 1 dX10_rests_5 rfl rfl ?_
  refine aw_i2l dX10_rests_6 ?_
  refine aw_lconst (v := 0) dX10_rests_7 (by decide) ?_
  refine aw_ldc2 (v := 30) dX10_rests_8 k_X10_311 ?_
  refine aw_callS wv_X10_in (M_X10_in trivial  h) ml_X10_25 rfl rfl (Nat.le_of_ble_eq_true rfl) ⟨rfl, rfl⟩ ⟨Nat.le_of_ble_eq_true rfl, Nat.le_of_ble_eq_true rfl⟩ ⟨Nat.le_refl _, Nat.le_refl _⟩ dX10_rests_11 (aw_ki fun r_3 I_4 J_5 h => ?_)
  refine aw_zne 19 dX10_rests_14 (by decide) (fun c_6 => ?_) (fun c_6 => ?_)
  · have h := sw_if.f h c_6
    refine aw_aload_n 0 dX10_rests_19 rfl rfl ?_
    refine gf_X10_9 fl_X10_79 (lk140 hG) (lr140_9 hG) dX10_rests_20 ?_
    refine aw_aload_n 0 dX10_rests_23 rfl rfl ?_
    refine gf_X10_10 fl_X10_313 (lk140 hG) (lr140_10 hG) dX10_rests_24 ?_
    refine aw_callS wv_X10_puts (M_X10_puts trivial ⟨(lk144 hG), (ln144 hG)⟩ ⟨(lk145 hG), (ln145 hG)⟩ h) ml_X10_316 rfl rfl (Nat.le_of_ble_eq_true rfl) ⟨rfl, rfl⟩ ⟨Nat.le_of_ble_eq_true rfl, Nat.le_of_ble_eq_true rfl⟩ ⟨Nat.le_refl _, Nat.le_refl _⟩ dX10_rests_27 (aw_kv fun I_8 J_9 h => ?_)
    refine aw_iconst (v := 0) dX10_rests_30 (by decide) ?_
    refine aw_istore_n (lv' := [(2, .int 0), (0, .ref (sz + 140)), (1, .int x1)]) dX10_rests_31 rfl (by decide) rfl ?_
    refine aw_iconst (v := 0) dX10_rests_32 (by decide) ?_
    refine aw_istore_n (lv' := [(3, .int 0), (2, .int 0), (0, .ref (sz + 140)), (1, .int x1)]) dX10_rests_33 rfl (by decide) rfl ?_
    refine aw_sub [2, 3, 1, 0] rfl ?_
    obtain ⟨n_10, h⟩ := h
    exact tl_X10_rests_34 hG   n_10 x1 0 0 I_8 J_9 h
  · have h := sw_if.t h c_6
    refine aw_iconst (v := (-1)) dX10_rests_17 (by decide) ?_
    exact aw_iret rfl dX10_rests_18 ⟨rfl, _, rfl, h⟩
theorem M_X10_rests {l : Launch} {D : va_G} {cy : Nat → ClassId} {sz : Nat} {G : sw_G} (hG : sw_lay G)   {Q : Int32 → sw_I → sw_J → Prop} {x1 : Int32} {I : sw_I} {J : sw_J} (h : wp_X10_rests x1 I J Q) : Met l yX10_rests (Cond.code yX10_rests cX10_rests 6 (some .int) :: sw_T) rm_X10_rests (sw_Pc D cy sz [.ref (sz + 140), .int x1] G I J) (sw_Q D cy sz (sw_qi G Q)) 0 0 (fun q => sz ≤ q) :=
  sw_met (by decide) (fun q => by cases q) (Nat.le_of_ble_eq_true rfl) rfl (t_X10_rests hG  h)
-- X10_then
abbrev rm_X10_then : Room := { frames := 6, cells := 0, slots := 0, locals := 140 }
def wb_X10_then_39  (K39 : Int32 → Int32 → Int32 → sw_I → sw_J → Prop) (Q : Int32 → sw_I → sw_J → Prop) (x1 : Int32) (x2 : Int32) (x3 : Int32) (I : sw_I) (J : sw_J) : Prop :=
  sw_if (x3 < x1) (wp_X10_travels 145 33 (I 145 (30 : Int32).toNatClampNeg) I J (fun r_3 I_4 J_5 => wp_J6_bitCount_0f7a4 r_3 I_4 J_5 (fun r_6 I_7 J_8 => ∀ y_9 : Int32, y_9 = x2 + r_6 → wp_X10_enters ((I_7 145 (31 : Int32).toNatClampNeg).toInt64) I_7 J_8 (fun I_13 J_14 => ∀ y_15 : Int32, y_15 = x3 + 1 → K39 x1 y_9 y_15 I_13 J_14)))) (Q x2 I J)
def wl_X10_then_39   (Q : Int32 → sw_I → sw_J → Prop) : Nat → Int32 → Int32 → Int32 → sw_I → sw_J → Prop
  | 0 => fun _ _ _ _ _ => False
  | n + 1 => fun x1 x2 x3 I J => wb_X10_then_39  (wl_X10_then_39   Q n) Q x1 x2 x3 I J
def wp_X10_then (x1 : Int32) (I : sw_I) (J : sw_J) (Q : Int32 → sw_I → sw_J → Prop) : Prop :=
  ∀ I_1 : sw_I, I_1 = sw_up I 140 0 (0 : Int32) → wp_X10_in x1.toInt64 0 12 I_1 J (fun r_3 I_4 J_5 => sw_if (r_3 = 0) (Q (-1 : Int32) I_4 J_5) (wp_X10_puts 144 33 145 33 I_4 J_5 (fun I_8 J_9 => ∀ I_10 : sw_I, I_10 = sw_up I_8 140 1 (0 : Int32) → ∃ n_12 : Nat, wl_X10_then_39   Q n_12 x1 0 0 I_10 J_9)))
set_option maxRecDepth 20000 in
theorem tb_X10_then_39 {l : Launch} {D : va_G} {cy : Nat → ClassId} {sz : Nat} {G : sw_G} (hG : sw_lay G)   {Q : Int32 → sw_I → sw_J → Prop} {K39 : Int32 → Int32 → Int32 → sw_I → sw_J → Prop} (hK39 : ∀ (x1 : Int32) (x2 : Int32) (x3 : Int32) (I : sw_I) (J : sw_J), K39 x1 x2 x3 I J → AW l D cy sz RX10 cX10_then 4 (some .int) false rm_X10_then 0 0 (sw_qi G Q) 0 0 G I J 39 [(0, .ref (sz + 140)), (1, .int x1), (2, .int x2), (3, .int x3)] []) {x1 : Int32} {x2 : Int32} {x3 : Int32} {I : sw_I} {J : sw_J} (h : wb_X10_then_39  K39 Q x1 x2 x3 I J) : AW l D cy sz RX10 cX10_then 4 (some .int) false rm_X10_then 0 0 (sw_qi G Q) 0 0 G I J 39 [(0, .ref (sz + 140)), (1, .int x1), (2, .int x2), (3, .int x3)] [] := by
  unfold wb_X10_then_39 at h
  refine aw_iload_n 3 dX10_then_39 rfl rfl ?_
  refine aw_iload_n 1 dX10_then_40 rfl rfl ?_
  refine aw_jge 83 dX10_then_41 (by decide) (fun c_1 => ?_) (fun c_1 => ?_)
  · have h := sw_if.f h c_1
    refine aw_iload_n 2 dX10_then_83 rfl rfl ?_
    exact aw_iret rfl dX10_then_84 ⟨rfl, _, rfl, h⟩
  · have h := sw_if.t h c_1
    refine aw_iload_n 2 dX10_then_44 rfl rfl ?_
    refine aw_aload_n 0 dX10_then_45 rfl rfl ?_
    refine aw_aload_n 0 dX10_then_46 rfl rfl ?_
    refine gf_X10_10 fl_X10_313 (lk140 hG) (lr140_10 hG) dX10_then_47 ?_
    refine aw_aload_n 0 dX10_then_50 rfl rfl ?_
    refine gf_X10_10 fl_X10_313 (lk140 hG) (lr140_10 hG) dX10_then_51 ?_
    refine aw_bipush (v := 30) dX10_then_54 (by decide) ?_
    refine aw_ild dX10_then_56 (lk145 hG) (ln145 hG) (by unfold vp_in; decide) ?_
    refine aw_callV wv_X10_travels (M_X10_travels hG ⟨(lk145 hG), (ln145 hG)⟩ h) ml_X10_261 rfl (by decide) (lk140 hG) rfl rfl (Nat.le_of_ble_eq_true rfl) ⟨rfl, rfl⟩ ⟨Nat.le_of_ble_eq_true rfl, Nat.le_of_ble_eq_true rfl⟩ ⟨Nat.le_refl _, Nat.le_refl _⟩ dX10_then_57 (aw_ki fun r_3 I_4 J_5 h => ?_)
    refine aw_callS wv_J6_bitCount_0f7a4 (M_J6_bitCount_0f7a4 trivial  h) ml_X10_175 rfl rfl (Nat.le_of_ble_eq_true rfl) ⟨rfl, rfl⟩ ⟨Nat.le_of_ble_eq_true rfl, Nat.le_of_ble_eq_true rfl⟩ ⟨Nat.le_refl _, Nat.le_refl _⟩ dX10_then_60 (aw_ki fun r_6 I_7 J_8 h => ?_)
    refine aw_iadd dX10_then_63 ?_
    refine aw_topi (fun y_9 e_10 => ?_)
    have h := h y_9 e_10
    refine aw_istore_n (lv' := [(2, .int y_9), (0, .ref (sz + 140)), (1, .int x1), (3, .int x3)]) dX10_then_64 rfl (by decide) rfl ?_
    refine aw_aload_n 1 dX10_then_65 rfl rfl ?_
    refine aw_aload_n 1 dX10_then_66 rfl rfl ?_
    refine gf_X10_10 fl_X10_313 (lk140 hG) (lr140_10 hG) dX10_then_67 ?_
    refine aw_bipush (v := 31) dX10_then_70 (by decide) ?_
    refine aw_ild dX10_then_72 (lk145 hG) (ln145 hG) (by unfold vp_in; decide) ?_
    refine aw_i2l dX10_then_73 ?_
    refine aw_callV wv_X10_enters (M_X10_enters hG  h) ml_X10_18 rfl (by decide) (lk140 hG) rfl rfl (Nat.le_of_ble_eq_true rfl) ⟨rfl, rfl⟩ ⟨Nat.le_of_ble_eq_true rfl, Nat.le_of_ble_eq_true rfl⟩ ⟨Nat.le_refl _, Nat.le_refl _⟩ dX10_then_74 (aw_kv fun I_13 J_14 h => ?_)
    obtain ⟨y_15, e_16⟩ : ∃ q : Int32, q = x3 + 1 := ⟨_, rfl⟩
    have h := h y_15 e_16
    refine aw_iinc (lv' := [(3, .int y_15), (2, .int y_9), (0, .ref (sz + 140)), (1, .int x1)]) 3 dX10_then_77 rfl (by rw [e_16]; rfl) (by decide) rfl ?_
    refine aw_goto 39 dX10_then_80 (by decide) ?_
    refine aw_sub [2, 3, 1, 0] rfl ?_
    exact hK39 x1 y_9 y_15 I_13 J_14 h
set_option maxRecDepth 20000 in
theorem tl_X10_then_39 {l : Launch} {D : va_G} {cy : Nat → ClassId} {sz : Nat} {G : sw_G} (hG : sw_lay G)   {Q : Int32 → sw_I → sw_J → Prop} : ∀ (n : Nat) (x1 : Int32) (x2 : Int32) (x3 : Int32) (I : sw_I) (J : sw_J), wl_X10_then_39   Q n x1 x2 x3 I J → AW l D cy sz RX10 cX10_then 4 (some .int) false rm_X10_then 0 0 (sw_qi G Q) 0 0 G I J 39 [(0, .ref (sz + 140)), (1, .int x1), (2, .int x2), (3, .int x3)] [] := by
  intro n
  induction n with
  | zero => intro x1 x2 x3 I J h; exact False.elim h
  | succ n ih => intro x1 x2 x3 I J h; exact tb_X10_then_39 hG  ih h
set_option maxRecDepth 20000 in
theorem t_X10_then {l : Launch} {D : va_G} {cy : Nat → ClassId} {sz : Nat} {G : sw_G} (hG : sw_lay G)   {Q : Int32 → sw_I → sw_J → Prop} {x1 : Int32} {I : sw_I} {J : sw_J} (h : wp_X10_then x1 I J Q) : AW l D cy sz RX10 cX10_then 4 (some .int) false rm_X10_then 0 0 (sw_qi G Q) 0 0 G I J 0 [(0, .ref (sz + 140)), (1, .int x1)] [] := by
  unfold wp_X10_then at h
  refine aw_aload_n 0 dX10_then_0 rfl rfl ?_
  refine aw_iconst (v := 0) dX10_then_1 (by decide) ?_
  refine pf_X10_0 fl_X10_3 (lk140 hG) dX10_then_2 (aw_nameI fun I_1 e_2 => ?_)
  have h := h I_1 e_2
  refine aw_iload_n 1 dX10_then_5 rfl rfl ?_
  refine aw_i2l dX10_then_6 ?_
  refine aw_lconst (v := 0) dX10_then_7 (by decide) ?_
  refine aw_ldc2 (v := 12) dX10_then_8 k_X10_320 ?_
  refine aw_callS wv_X10_in (M_X10_in trivial  h) ml_X10_25 rfl rfl (Nat.le_of_ble_eq_true rfl) ⟨rfl, rfl⟩ ⟨Nat.le_of_ble_eq_true rfl, Nat.le_of_ble_eq_true rfl⟩ ⟨Nat.le_refl _, Nat.le_refl _⟩ dX10_then_11 (aw_ki fun r_3 I_4 J_5 h => ?_)
  refine aw_zne 19 dX10_then_14 (by decide) (fun c_6 => ?_) (fun c_6 => ?_)
  · have h := sw_if.f h c_6
    refine aw_aload_n 0 dX10_then_19 rfl rfl ?_
    refine gf_X10_9 fl_X10_79 (lk140 hG) (lr140_9 hG) dX10_then_20 ?_
    refine aw_aload_n 0 dX10_then_23 rfl rfl ?_
    refine gf_X10_10 fl_X10_313 (lk140 hG) (lr140_10 hG) dX10_then_24 ?_
    refine aw_callS wv_X10_puts (M_X10_puts trivial ⟨(lk144 hG), (ln144 hG)⟩ ⟨(lk145 hG), (ln145 hG)⟩ h) ml_X10_316 rfl rfl (Nat.le_of_ble_eq_true rfl) ⟨rfl, rfl⟩ ⟨Nat.le_of_ble_eq_true rfl, Nat.le_of_ble_eq_true rfl⟩ ⟨Nat.le_refl _, Nat.le_refl _⟩ dX10_then_27 (aw_kv fun I_8 J_9 h => ?_)
    refine aw_iconst (v := 0) dX10_then_30 (by decide) ?_
    refine aw_istore_n (lv' := [(2, .int 0), (0, .ref (sz + 140)), (1, .int x1)]) dX10_then_31 rfl (by decide) rfl ?_
    refine aw_aload_n 1 dX10_then_32 rfl rfl ?_
    refine aw_iconst (v := 0) dX10_then_33 (by decide) ?_
    refine pf_X10_1 fl_X10_15 (lk140 hG) dX10_then_34 (aw_nameI fun I_10 e_11 => ?_)
    have h := h I_10 e_11
    refine aw_iconst (v := 0) dX10_then_37 (by decide) ?_
    refine aw_istore_n (lv' := [(3, .int 0), (2, .int 0), (0, .ref (sz + 140)), (1, .int x1)]) dX10_then_38 rfl (by decide) rfl ?_
    refine aw_sub [2, 3, 1, 0] rfl ?_
    obtain ⟨n_12, h⟩ := h
    exact tl_X10_then_39 hG   n_12 x1 0 0 I_10 J_9 h
  · have h := sw_if.t h c_6
    refine aw_iconst (v := (-1)) dX10_then_17 (by decide) ?_
    exact aw_iret rfl dX10_then_18 ⟨rfl, _, rfl, h⟩
theorem M_X10_then {l : Launch} {D : va_G} {cy : Nat → ClassId} {sz : Nat} {G : sw_G} (hG : sw_lay G)   {Q : Int32 → sw_I → sw_J → Prop} {x1 : Int32} {I : sw_I} {J : sw_J} (h : wp_X10_then x1 I J Q) : Met l yX10_then (Cond.code yX10_then cX10_then 4 (some .int) :: sw_T) rm_X10_then (sw_Pc D cy sz [.ref (sz + 140), .int x1] G I J) (sw_Q D cy sz (sw_qi G Q)) 0 0 (fun q => sz ≤ q) :=
  sw_met (by decide) (fun q => by cases q) (Nat.le_of_ble_eq_true rfl) rfl (t_X10_then hG  h)
-- X10_since
abbrev rm_X10_since : Room := { frames := 6, cells := 0, slots := 0, locals := 140 }
def wb_X10_since_38  (K38 : Int32 → Int32 → sw_I → sw_J → Prop) (Q : Int32 → sw_I → sw_J → Prop) (x1 : Int32) (x2 : Int32) (I : sw_I) (J : sw_J) : Prop :=
  sw_if ((693 : Int32) < x2) (Q (-2 : Int32) I J) (wp_X10_travels 145 33 (I 145 (30 : Int32).toNatClampNeg) I J (fun r_3 I_4 J_5 => wp_X10_has r_3 x1 I_4 J_5 (fun r_6 I_7 J_8 => sw_if (r_6 = 0) (∀ y_10 : Int32, y_10 = x2 + 1 → K38 x1 y_10 I_7 J_8) (Q x2 I_7 J_8))))
def wl_X10_since_38   (Q : Int32 → sw_I → sw_J → Prop) : Nat → Int32 → Int32 → sw_I → sw_J → Prop
  | 0 => fun _ _ _ _ => False
  | n + 1 => fun x1 x2 I J => wb_X10_since_38  (wl_X10_since_38   Q n) Q x1 x2 I J
def wp_X10_since (x1 : Int32) (I : sw_I) (J : sw_J) (Q : Int32 → sw_I → sw_J → Prop) : Prop :=
  ∀ I_1 : sw_I, I_1 = sw_up I 140 0 (0 : Int32) → wp_X10_canLeave x1 I_1 J (fun r_3 I_4 J_5 => sw_if (r_3 = 0) (Q (-1 : Int32) I_4 J_5) (wp_X10_countsRides  I_4 J_5 (fun r_7 I_8 J_9 => sw_if (r_7 = 0) (wp_X10_puts 144 33 145 33 I_8 J_9 (fun I_12 J_13 => ∃ n_14 : Nat, wl_X10_since_38   Q n_14 x1 1 I_12 J_13)) (Q (-4 : Int32) I_8 J_9))))
set_option maxRecDepth 20000 in
theorem tb_X10_since_38 {l : Launch} {D : va_G} {cy : Nat → ClassId} {sz : Nat} {G : sw_G} (hG : sw_lay G)   {Q : Int32 → sw_I → sw_J → Prop} {K38 : Int32 → Int32 → sw_I → sw_J → Prop} (hK38 : ∀ (x1 : Int32) (x2 : Int32) (I : sw_I) (J : sw_J), K38 x1 x2 I J → AW l D cy sz RX10 cX10_since 3 (some .int) false rm_X10_since 0 0 (sw_qi G Q) 0 0 G I J 38 [(0, .ref (sz + 140)), (1, .int x1), (2, .int x2)] []) {x1 : Int32} {x2 : Int32} {I : sw_I} {J : sw_J} (h : wb_X10_since_38  K38 Q x1 x2 I J) : AW l D cy sz RX10 cX10_since 3 (some .int) false rm_X10_since 0 0 (sw_qi G Q) 0 0 G I J 38 [(0, .ref (sz + 140)), (1, .int x1), (2, .int x2)] [] := by
  unfold wb_X10_since_38 at h
  refine aw_iload_n 2 dX10_since_38 rfl rfl ?_
  refine aw_sipush (v := 693) dX10_since_39 (by decide) ?_
  refine aw_jgt 75 dX10_since_42 (by decide) (fun c_1 => ?_) (fun c_1 => ?_)
  · have h := sw_if.t h c_1
    refine aw_bipush (v := (-2)) dX10_since_75 (by decide) ?_
    exact aw_iret rfl dX10_since_77 ⟨rfl, _, rfl, h⟩
  · have h := sw_if.f h c_1
    refine aw_aload_n 0 dX10_since_45 rfl rfl ?_
    refine aw_aload_n 0 dX10_since_46 rfl rfl ?_
    refine gf_X10_10 fl_X10_313 (lk140 hG) (lr140_10 hG) dX10_since_47 ?_
    refine aw_aload_n 0 dX10_since_50 rfl rfl ?_
    refine gf_X10_10 fl_X10_313 (lk140 hG) (lr140_10 hG) dX10_since_51 ?_
    refine aw_bipush (v := 30) dX10_since_54 (by decide) ?_
    refine aw_ild dX10_since_56 (lk145 hG) (ln145 hG) (by unfold vp_in; decide) ?_
    refine aw_callV wv_X10_travels (M_X10_travels hG ⟨(lk145 hG), (ln145 hG)⟩ h) ml_X10_261 rfl (by decide) (lk140 hG) rfl rfl (Nat.le_of_ble_eq_true rfl) ⟨rfl, rfl⟩ ⟨Nat.le_of_ble_eq_true rfl, Nat.le_of_ble_eq_true rfl⟩ ⟨Nat.le_refl _, Nat.le_refl _⟩ dX10_since_57 (aw_ki fun r_3 I_4 J_5 h => ?_)
    refine aw_iload_n 1 dX10_since_60 rfl rfl ?_
    refine aw_callS wv_X10_has (M_X10_has trivial  h) ml_X10_195 rfl rfl (Nat.le_of_ble_eq_true rfl) ⟨rfl, rfl⟩ ⟨Nat.le_of_ble_eq_true rfl, Nat.le_of_ble_eq_true rfl⟩ ⟨Nat.le_refl _, Nat.le_refl _⟩ dX10_since_61 (aw_ki fun r_6 I_7 J_8 h => ?_)
    refine aw_zeq 69 dX10_since_64 (by decide) (fun c_9 => ?_) (fun c_9 => ?_)
    · have h := sw_if.t h c_9
      obtain ⟨y_10, e_11⟩ : ∃ q : Int32, q = x2 + 1 := ⟨_, rfl⟩
      have h := h y_10 e_11
      refine aw_iinc (lv' := [(2, .int y_10), (0, .ref (sz + 140)), (1, .int x1)]) 2 dX10_since_69 rfl (by rw [e_11]; rfl) (by decide) rfl ?_
      refine aw_goto 38 dX10_since_72 (by decide) ?_
      refine aw_sub [1, 2, 0] rfl ?_
      exact hK38 x1 y_10 I_7 J_8 h
    · have h := sw_if.f h c_9
      refine aw_iload_n 2 dX10_since_67 rfl rfl ?_
      exact aw_iret rfl dX10_since_68 ⟨rfl, _, rfl, h⟩
set_option maxRecDepth 20000 in
theorem tl_X10_since_38 {l : Launch} {D : va_G} {cy : Nat → ClassId} {sz : Nat} {G : sw_G} (hG : sw_lay G)   {Q : Int32 → sw_I → sw_J → Prop} : ∀ (n : Nat) (x1 : Int32) (x2 : Int32) (I : sw_I) (J : sw_J), wl_X10_since_38   Q n x1 x2 I J → AW l D cy sz RX10 cX10_since 3 (some .int) false rm_X10_since 0 0 (sw_qi G Q) 0 0 G I J 38 [(0, .ref (sz + 140)), (1, .int x1), (2, .int x2)] [] := by
  intro n
  induction n with
  | zero => intro x1 x2 I J h; exact False.elim h
  | succ n ih => intro x1 x2 I J h; exact tb_X10_since_38 hG  ih h
set_option maxRecDepth 20000 in
theorem t_X10_since {l : Launch} {D : va_G} {cy : Nat → ClassId} {sz : Nat} {G : sw_G} (hG : sw_lay G)   {Q : Int32 → sw_I → sw_J → Prop} {x1 : Int32} {I : sw_I} {J : sw_J} (h : wp_X10_since x1 I J Q) : AW l D cy sz RX10 cX10_since 3 (some .int) false rm_X10_since 0 0 (sw_qi G Q) 0 0 G I J 0 [(0, .ref (sz + 140)), (1, .int x1)] [] := by
  unfold wp_X10_since at h
  refine aw_aload_n 0 dX10_since_0 rfl rfl ?_
  refine aw_iconst (v := 0) dX10_since_1 (by decide) ?_
  refine pf_X10_0 fl_X10_3 (lk140 hG) dX10_since_2 (aw_nameI fun I_1 e_2 => ?_)
  have h := h I_1 e_2
  refine aw_aload_n 0 dX10_since_5 rfl rfl ?_
  refine aw_iload_n 1 dX10_since_6 rfl rfl ?_
  refine aw_callV wv_X10_canLeave (M_X10_canLeave hG  h) ml_X10_258 rfl (by decide) (lk140 hG) rfl rfl (Nat.le_of_ble_eq_true rfl) ⟨rfl, rfl⟩ ⟨Nat.le_of_ble_eq_true rfl, Nat.le_of_ble_eq_true rfl⟩ ⟨Nat.le_refl _, Nat.le_refl _⟩ dX10_since_7 (aw_ki fun r_3 I_4 J_5 h => ?_)
  refine aw_zne 15 dX10_since_10 (by decide) (fun c_6 => ?_) (fun c_6 => ?_)
  · have h := sw_if.f h c_6
    refine aw_aload_n 0 dX10_since_15 rfl rfl ?_
    refine aw_callV wv_X10_countsRides (M_X10_countsRides hG  h) ml_X10_322 rfl (by decide) (lk140 hG) rfl rfl (Nat.le_of_ble_eq_true rfl) ⟨rfl, rfl⟩ ⟨Nat.le_of_ble_eq_true rfl, Nat.le_of_ble_eq_true rfl⟩ ⟨Nat.le_refl _, Nat.le_refl _⟩ dX10_since_16 (aw_ki fun r_7 I_8 J_9 h => ?_)
    refine aw_zeq 25 dX10_since_19 (by decide) (fun c_10 => ?_) (fun c_10 => ?_)
    · have h := sw_if.t h c_10
      refine aw_aload_n 0 dX10_since_25 rfl rfl ?_
      refine gf_X10_9 fl_X10_79 (lk140 hG) (lr140_9 hG) dX10_since_26 ?_
      refine aw_aload_n 0 dX10_since_29 rfl rfl ?_
      refine gf_X10_10 fl_X10_313 (lk140 hG) (lr140_10 hG) dX10_since_30 ?_
      refine aw_callS wv_X10_puts (M_X10_puts trivial ⟨(lk144 hG), (ln144 hG)⟩ ⟨(lk145 hG), (ln145 hG)⟩ h) ml_X10_316 rfl rfl (Nat.le_of_ble_eq_true rfl) ⟨rfl, rfl⟩ ⟨Nat.le_of_ble_eq_true rfl, Nat.le_of_ble_eq_true rfl⟩ ⟨Nat.le_refl _, Nat.le_refl _⟩ dX10_since_33 (aw_kv fun I_12 J_13 h => ?_)
      refine aw_iconst (v := 1) dX10_since_36 (by decide) ?_
      refine aw_istore_n (lv' := [(2, .int 1), (0, .ref (sz + 140)), (1, .int x1)]) dX10_since_37 rfl (by decide) rfl ?_
      refine aw_sub [1, 2, 0] rfl ?_
      obtain ⟨n_14, h⟩ := h
      exact tl_X10_since_38 hG   n_14 x1 1 I_12 J_13 h
    · have h := sw_if.f h c_10
      refine aw_bipush (v := (-4)) dX10_since_22 (by decide) ?_
      exact aw_iret rfl dX10_since_24 ⟨rfl, _, rfl, h⟩
  · have h := sw_if.t h c_6
    refine aw_iconst (v := (-1)) dX10_since_13 (by decide) ?_
    exact aw_iret rfl dX10_since_14 ⟨rfl, _, rfl, h⟩
theorem M_X10_since {l : Launch} {D : va_G} {cy : Nat → ClassId} {sz : Nat} {G : sw_G} (hG : sw_lay G)   {Q : Int32 → sw_I → sw_J → Prop} {x1 : Int32} {I : sw_I} {J : sw_J} (h : wp_X10_since x1 I J Q) : Met l yX10_since (Cond.code yX10_since cX10_since 3 (some .int) :: sw_T) rm_X10_since (sw_Pc D cy sz [.ref (sz + 140), .int x1] G I J) (sw_Q D cy sz (sw_qi G Q)) 0 0 (fun q => sz ≤ q) :=
  sw_met (by decide) (fun q => by cases q) (Nat.le_of_ble_eq_true rfl) rfl (t_X10_since hG  h)
-- X10_comeHome
abbrev rm_X10_comeHome : Room := { frames := 6, cells := 0, slots := 0, locals := 140 }
def wb_X10_comeHome_24  (K24 : Int32 → Int32 → Int32 → sw_I → sw_J → Prop) (Q : Int32 → sw_I → sw_J → Prop) (x2 : Int32) (x3 : Int32) (x4 : Int32) (I : sw_I) (J : sw_J) : Prop :=
  sw_if (x4 < x2) (wp_X10_travels 145 33 (I 145 (30 : Int32).toNatClampNeg) I J (fun r_3 I_4 J_5 => ∀ y_6 : Int32, y_6 = x3 ||| r_3 → ∀ y_8 : Int32, y_8 = x4 + 1 → K24 x2 y_6 y_8 I_4 J_5)) (Q x3 I J)
def wl_X10_comeHome_24   (Q : Int32 → sw_I → sw_J → Prop) : Nat → Int32 → Int32 → Int32 → sw_I → sw_J → Prop
  | 0 => fun _ _ _ _ _ => False
  | n + 1 => fun x2 x3 x4 I J => wb_X10_comeHome_24  (wl_X10_comeHome_24   Q n) Q x2 x3 x4 I J
def wp_X10_comeHome (x1 : Int32) (x2 : Int32) (I : sw_I) (J : sw_J) (Q : Int32 → sw_I → sw_J → Prop) : Prop :=
  wp_X10_puts 144 33 145 33 I J (fun I_2 J_3 => ∀ I_5 : sw_I, I_5 = sw_up I_2 145 (30 : Int32).toNatClampNeg x1 → ∃ n_7 : Nat, wl_X10_comeHome_24   Q n_7 x2 0 0 I_5 J_3)
set_option maxRecDepth 20000 in
theorem tb_X10_comeHome_24 {l : Launch} {D : va_G} {cy : Nat → ClassId} {sz : Nat} {G : sw_G} (hG : sw_lay G)   {Q : Int32 → sw_I → sw_J → Prop} {K24 : Int32 → Int32 → Int32 → sw_I → sw_J → Prop} (hK24 : ∀ (x2 : Int32) (x3 : Int32) (x4 : Int32) (I : sw_I) (J : sw_J), K24 x2 x3 x4 I J → AW l D cy sz RX10 cX10_comeHome 5 (some .int) false rm_X10_comeHome 0 0 (sw_qi G Q) 0 0 G I J 24 [(0, .ref (sz + 140)), (2, .int x2), (3, .int x3), (4, .int x4)] []) {x2 : Int32} {x3 : Int32} {x4 : Int32} {I : sw_I} {J : sw_J} (h : wb_X10_comeHome_24  K24 Q x2 x3 x4 I J) : AW l D cy sz RX10 cX10_comeHome 5 (some .int) false rm_X10_comeHome 0 0 (sw_qi G Q) 0 0 G I J 24 [(0, .ref (sz + 140)), (2, .int x2), (3, .int x3), (4, .int x4)] [] := by
  unfold wb_X10_comeHome_24 at h
  refine aw_iload 3 dX10_comeHome_24 rfl ?_
  refine aw_iload_n 1 dX10_comeHome_26 rfl rfl ?_
  refine aw_jge 54 dX10_comeHome_27 (by decide) (fun c_1 => ?_) (fun c_1 => ?_)
  · have h := sw_if.f h c_1
    refine aw_iload_n 2 dX10_comeHome_54 rfl rfl ?_
    exact aw_iret rfl dX10_comeHome_55 ⟨rfl, _, rfl, h⟩
  · have h := sw_if.t h c_1
    refine aw_iload_n 2 dX10_comeHome_30 rfl rfl ?_
    refine aw_aload_n 0 dX10_comeHome_31 rfl rfl ?_
    refine aw_aload_n 0 dX10_comeHome_32 rfl rfl ?_
    refine gf_X10_10 fl_X10_313 (lk140 hG) (lr140_10 hG) dX10_comeHome_33 ?_
    refine aw_aload_n 0 dX10_comeHome_36 rfl rfl ?_
    refine gf_X10_10 fl_X10_313 (lk140 hG) (lr140_10 hG) dX10_comeHome_37 ?_
    refine aw_bipush (v := 30) dX10_comeHome_40 (by decide) ?_
    refine aw_ild dX10_comeHome_42 (lk145 hG) (ln145 hG) (by unfold vp_in; decide) ?_
    refine aw_callV wv_X10_travels (M_X10_travels hG ⟨(lk145 hG), (ln145 hG)⟩ h) ml_X10_261 rfl (by decide) (lk140 hG) rfl rfl (Nat.le_of_ble_eq_true rfl) ⟨rfl, rfl⟩ ⟨Nat.le_of_ble_eq_true rfl, Nat.le_of_ble_eq_true rfl⟩ ⟨Nat.le_refl _, Nat.le_refl _⟩ dX10_comeHome_43 (aw_ki fun r_3 I_4 J_5 h => ?_)
    refine aw_ior dX10_comeHome_46 ?_
    refine aw_topi (fun y_6 e_7 => ?_)
    have h := h y_6 e_7
    refine aw_istore_n (lv' := [(3, .int y_6), (0, .ref (sz + 140)), (2, .int x2), (4, .int x4)]) dX10_comeHome_47 rfl (by decide) rfl ?_
    obtain ⟨y_8, e_9⟩ : ∃ q : Int32, q = x4 + 1 := ⟨_, rfl⟩
    have h := h y_8 e_9
    refine aw_iinc (lv' := [(4, .int y_8), (3, .int y_6), (0, .ref (sz + 140)), (2, .int x2)]) 3 dX10_comeHome_48 rfl (by rw [e_9]; rfl) (by decide) rfl ?_
    refine aw_goto 24 dX10_comeHome_51 (by decide) ?_
    refine aw_sub [2, 3, 1, 0] rfl ?_
    exact hK24 x2 y_6 y_8 I_4 J_5 h
set_option maxRecDepth 20000 in
theorem tl_X10_comeHome_24 {l : Launch} {D : va_G} {cy : Nat → ClassId} {sz : Nat} {G : sw_G} (hG : sw_lay G)   {Q : Int32 → sw_I → sw_J → Prop} : ∀ (n : Nat) (x2 : Int32) (x3 : Int32) (x4 : Int32) (I : sw_I) (J : sw_J), wl_X10_comeHome_24   Q n x2 x3 x4 I J → AW l D cy sz RX10 cX10_comeHome 5 (some .int) false rm_X10_comeHome 0 0 (sw_qi G Q) 0 0 G I J 24 [(0, .ref (sz + 140)), (2, .int x2), (3, .int x3), (4, .int x4)] [] := by
  intro n
  induction n with
  | zero => intro x2 x3 x4 I J h; exact False.elim h
  | succ n ih => intro x2 x3 x4 I J h; exact tb_X10_comeHome_24 hG  ih h
set_option maxRecDepth 20000 in
theorem t_X10_comeHome {l : Launch} {D : va_G} {cy : Nat → ClassId} {sz : Nat} {G : sw_G} (hG : sw_lay G)   {Q : Int32 → sw_I → sw_J → Prop} {x1 : Int32} {x2 : Int32} {I : sw_I} {J : sw_J} (h : wp_X10_comeHome x1 x2 I J Q) : AW l D cy sz RX10 cX10_comeHome 5 (some .int) false rm_X10_comeHome 0 0 (sw_qi G Q) 0 0 G I J 0 [(0, .ref (sz + 140)), (1, .int x1), (2, .int x2)] [] := by
  unfold wp_X10_comeHome at h
  refine aw_aload_n 0 dX10_comeHome_0 rfl rfl ?_
  refine gf_X10_9 fl_X10_79 (lk140 hG) (lr140_9 hG) dX10_comeHome_1 ?_
  refine aw_aload_n 0 dX10_comeHome_4 rfl rfl ?_
  refine gf_X10_10 fl_X10_313 (lk140 hG) (lr140_10 hG) dX10_comeHome_5 ?_
  refine aw_callS wv_X10_puts (M_X10_puts trivial ⟨(lk144 hG), (ln144 hG)⟩ ⟨(lk145 hG), (ln145 hG)⟩ h) ml_X10_316 rfl rfl (Nat.le_of_ble_eq_true rfl) ⟨rfl, rfl⟩ ⟨Nat.le_of_ble_eq_true rfl, Nat.le_of_ble_eq_true rfl⟩ ⟨Nat.le_refl _, Nat.le_refl _⟩ dX10_comeHome_8 (aw_kv fun I_2 J_3 h => ?_)
  refine aw_aload_n 0 dX10_comeHome_11 rfl rfl ?_
  refine gf_X10_10 fl_X10_313 (lk140 hG) (lr140_10 hG) dX10_comeHome_12 ?_
  refine aw_bipush (v := 30) dX10_comeHome_15 (by decide) ?_
  refine aw_iload_n 1 dX10_comeHome_17 rfl rfl ?_
  refine aw_ist dX10_comeHome_18 (lk145 hG) (ln145 hG) (by unfold vp_in; decide) (aw_nameI fun I_5 e_6 => ?_)
  have h := h I_5 e_6
  refine aw_iconst (v := 0) dX10_comeHome_19 (by decide) ?_
  refine aw_istore_n (lv' := [(3, .int 0), (0, .ref (sz + 140)), (1, .int x1), (2, .int x2)]) dX10_comeHome_20 rfl (by decide) rfl ?_
  refine aw_iconst (v := 0) dX10_comeHome_21 (by decide) ?_
  refine aw_istore (lv' := [(4, .int 0), (3, .int 0), (0, .ref (sz + 140)), (1, .int x1), (2, .int x2)]) dX10_comeHome_22 (by decide) rfl ?_
  refine aw_sub [2, 4, 1, 0] rfl ?_
  obtain ⟨n_7, h⟩ := h
  exact tl_X10_comeHome_24 hG   n_7 x2 0 0 I_5 J_3 h
theorem M_X10_comeHome {l : Launch} {D : va_G} {cy : Nat → ClassId} {sz : Nat} {G : sw_G} (hG : sw_lay G)   {Q : Int32 → sw_I → sw_J → Prop} {x1 : Int32} {x2 : Int32} {I : sw_I} {J : sw_J} (h : wp_X10_comeHome x1 x2 I J Q) : Met l yX10_comeHome (Cond.code yX10_comeHome cX10_comeHome 5 (some .int) :: sw_T) rm_X10_comeHome (sw_Pc D cy sz [.ref (sz + 140), .int x1, .int x2] G I J) (sw_Q D cy sz (sw_qi G Q)) 0 0 (fun q => sz ≤ q) :=
  sw_met (by decide) (fun q => by cases q) (Nat.le_of_ble_eq_true rfl) rfl (t_X10_comeHome hG  h)
-- X10_ballast
abbrev rm_X10_ballast : Room := { frames := 7, cells := 0, slots := 0, locals := 164 }
def wB_X10_ballast_25   (Q : Int32 → sw_I → sw_J → Prop)  (I : sw_I) (J : sw_J) : Prop :=
  wp_X10_refuse  I J (fun r_1 I_2 J_3 => Q r_1 I_2 J_3)
def wp_X10_ballast (x1 : Int32) (x2 : Int32) (I : sw_I) (J : sw_J) (Q : Int32 → sw_I → sw_J → Prop) : Prop :=
  ∀ I_1 : sw_I, I_1 = sw_up I 140 0 (0 : Int32) → wp_X10_canLeave x1 I_1 J (fun r_3 I_4 J_5 => sw_if (r_3 = 0) (wB_X10_ballast_25   Q  I_4 J_5) (wp_X10_in x2.toInt64 0 40 I_4 J_5 (fun r_7 I_8 J_9 => sw_if (r_7 = 0) (wB_X10_ballast_25   Q  I_8 J_9) (wp_X10_comeHome (I_8 144 (30 : Int32).toNatClampNeg) x2 I_8 J_9 (fun r_12 I_13 J_14 => ∀ y_15 : Int32, y_15 = r_12 &&& (((1 : Int32) <<< (x1 &&& 31)) ^^^ (-1 : Int32)) → wp_J6_bitCount_0f7a4 y_15 I_13 J_14 (fun r_17 I_18 J_19 => wp_X10_comeHome ((I_18 144 (30 : Int32).toNatClampNeg) &&& (((1 : Int32) <<< (x1 &&& 31)) ^^^ (-1 : Int32))) x2 I_18 J_19 (fun r_21 I_22 J_23 => wp_J6_bitCount_0f7a4 r_21 I_22 J_23 (fun r_24 I_25 J_26 => Q (r_17 - r_24) I_25 J_26))))))))
set_option maxRecDepth 20000 in
theorem t_X10_ballast_25 {l : Launch} {D : va_G} {cy : Nat → ClassId} {sz : Nat} {G : sw_G} (hG : sw_lay G)   {Q : Int32 → sw_I → sw_J → Prop}  {I : sw_I} {J : sw_J} (h : wB_X10_ballast_25   Q  I J) : AW l D cy sz RX10 cX10_ballast 4 (some .int) false rm_X10_ballast 0 0 (sw_qi G Q) 0 0 G I J 25 [(0, .ref (sz + 140))] [] := by
  unfold wB_X10_ballast_25 at h
  refine aw_aload_n 0 dX10_ballast_25 rfl rfl ?_
  refine aw_callV wv_X10_refuse (M_X10_refuse hG  h) ml_X10_231 rfl (by decide) (lk140 hG) rfl rfl (Nat.le_of_ble_eq_true rfl) ⟨rfl, rfl⟩ ⟨Nat.le_of_ble_eq_true rfl, Nat.le_of_ble_eq_true rfl⟩ ⟨Nat.le_refl _, Nat.le_refl _⟩ dX10_ballast_26 (aw_ki fun r_1 I_2 J_3 h => ?_)
  exact aw_iret rfl dX10_ballast_29 ⟨rfl, _, rfl, h⟩
set_option maxRecDepth 20000 in
theorem t_X10_ballast {l : Launch} {D : va_G} {cy : Nat → ClassId} {sz : Nat} {G : sw_G} (hG : sw_lay G)   {Q : Int32 → sw_I → sw_J → Prop} {x1 : Int32} {x2 : Int32} {I : sw_I} {J : sw_J} (h : wp_X10_ballast x1 x2 I J Q) : AW l D cy sz RX10 cX10_ballast 4 (some .int) false rm_X10_ballast 0 0 (sw_qi G Q) 0 0 G I J 0 [(0, .ref (sz + 140)), (1, .int x1), (2, .int x2)] [] := by
  unfold wp_X10_ballast at h
  refine aw_aload_n 0 dX10_ballast_0 rfl rfl ?_
  refine aw_iconst (v := 0) dX10_ballast_1 (by decide) ?_
  refine pf_X10_0 fl_X10_3 (lk140 hG) dX10_ballast_2 (aw_nameI fun I_1 e_2 => ?_)
  have h := h I_1 e_2
  refine aw_aload_n 0 dX10_ballast_5 rfl rfl ?_
  refine aw_iload_n 1 dX10_ballast_6 rfl rfl ?_
  refine aw_callV wv_X10_canLeave (M_X10_canLeave hG  h) ml_X10_258 rfl (by decide) (lk140 hG) rfl rfl (Nat.le_of_ble_eq_true rfl) ⟨rfl, rfl⟩ ⟨Nat.le_of_ble_eq_true rfl, Nat.le_of_ble_eq_true rfl⟩ ⟨Nat.le_refl _, Nat.le_refl _⟩ dX10_ballast_7 (aw_ki fun r_3 I_4 J_5 h => ?_)
  refine aw_zeq 25 dX10_ballast_10 (by decide) (fun c_6 => ?_) (fun c_6 => ?_)
  · have h := sw_if.t h c_6
    refine aw_sub [0] rfl ?_
    exact t_X10_ballast_25 hG   h
  · have h := sw_if.f h c_6
    refine aw_iload_n 2 dX10_ballast_13 rfl rfl ?_
    refine aw_i2l dX10_ballast_14 ?_
    refine aw_lconst (v := 0) dX10_ballast_15 (by decide) ?_
    refine aw_ldc2 (v := 40) dX10_ballast_16 k_X10_325 ?_
    refine aw_callS wv_X10_in (M_X10_in trivial  h) ml_X10_25 rfl rfl (Nat.le_of_ble_eq_true rfl) ⟨rfl, rfl⟩ ⟨Nat.le_of_ble_eq_true rfl, Nat.le_of_ble_eq_true rfl⟩ ⟨Nat.le_refl _, Nat.le_refl _⟩ dX10_ballast_19 (aw_ki fun r_7 I_8 J_9 h => ?_)
    refine aw_zne 30 dX10_ballast_22 (by decide) (fun c_10 => ?_) (fun c_10 => ?_)
    · have h := sw_if.f h c_10
      refine aw_aload_n 0 dX10_ballast_30 rfl rfl ?_
      refine aw_aload_n 0 dX10_ballast_31 rfl rfl ?_
      refine gf_X10_9 fl_X10_79 (lk140 hG) (lr140_9 hG) dX10_ballast_32 ?_
      refine aw_bipush (v := 30) dX10_ballast_35 (by decide) ?_
      refine aw_ild dX10_ballast_37 (lk144 hG) (ln144 hG) (by unfold vp_in; decide) ?_
      refine aw_iload_n 2 dX10_ballast_38 rfl rfl ?_
      refine aw_callV wv_X10_comeHome (M_X10_comeHome hG  h) ml_X10_327 rfl (by decide) (lk140 hG) rfl rfl (Nat.le_of_ble_eq_true rfl) ⟨rfl, rfl⟩ ⟨Nat.le_of_ble_eq_true rfl, Nat.le_of_ble_eq_true rfl⟩ ⟨Nat.le_refl _, Nat.le_refl _⟩ dX10_ballast_39 (aw_ki fun r_12 I_13 J_14 h => ?_)
      refine aw_iconst (v := 1) dX10_ballast_42 (by decide) ?_
      refine aw_iload_n 1 dX10_ballast_43 rfl rfl ?_
      refine aw_ishl dX10_ballast_44 ?_
      refine aw_iconst (v := (-1)) dX10_ballast_45 (by decide) ?_
      refine aw_ixor dX10_ballast_46 ?_
      refine aw_iand dX10_ballast_47 ?_
      refine aw_topi (fun y_15 e_16 => ?_)
      have h := h y_15 e_16
      refine aw_istore_n (lv' := [(3, .int y_15), (0, .ref (sz + 140)), (1, .int x1), (2, .int x2)]) dX10_ballast_48 rfl (by decide) rfl ?_
      refine aw_iload_n 0 dX10_ballast_49 rfl rfl ?_
      refine aw_callS wv_J6_bitCount_0f7a4 (M_J6_bitCount_0f7a4 trivial  h) ml_X10_175 rfl rfl (Nat.le_of_ble_eq_true rfl) ⟨rfl, rfl⟩ ⟨Nat.le_of_ble_eq_true rfl, Nat.le_of_ble_eq_true rfl⟩ ⟨Nat.le_refl _, Nat.le_refl _⟩ dX10_ballast_50 (aw_ki fun r_17 I_18 J_19 h => ?_)
      refine aw_aload_n 1 dX10_ballast_53 rfl rfl ?_
      refine aw_aload_n 1 dX10_ballast_54 rfl rfl ?_
      refine gf_X10_9 fl_X10_79 (lk140 hG) (lr140_9 hG) dX10_ballast_55 ?_
      refine aw_bipush (v := 30) dX10_ballast_58 (by decide) ?_
      refine aw_ild dX10_ballast_60 (lk144 hG) (ln144 hG) (by unfold vp_in; decide) ?_
      refine aw_iconst (v := 1) dX10_ballast_61 (by decide) ?_
      refine aw_iload_n 2 dX10_ballast_62 rfl rfl ?_
      refine aw_ishl dX10_ballast_63 ?_
      refine aw_iconst (v := (-1)) dX10_ballast_64 (by decide) ?_
      refine aw_ixor dX10_ballast_65 ?_
      refine aw_iand dX10_ballast_66 ?_
      refine aw_iload_n 3 dX10_ballast_67 rfl rfl ?_
      refine aw_callV wv_X10_comeHome (M_X10_comeHome hG  h) ml_X10_327 rfl (by decide) (lk140 hG) rfl rfl (Nat.le_of_ble_eq_true rfl) ⟨rfl, rfl⟩ ⟨Nat.le_of_ble_eq_true rfl, Nat.le_of_ble_eq_true rfl⟩ ⟨Nat.le_refl _, Nat.le_refl _⟩ dX10_ballast_68 (aw_ki fun r_21 I_22 J_23 h => ?_)
      refine aw_callS wv_J6_bitCount_0f7a4 (M_J6_bitCount_0f7a4 trivial  h) ml_X10_175 rfl rfl (Nat.le_of_ble_eq_true rfl) ⟨rfl, rfl⟩ ⟨Nat.le_of_ble_eq_true rfl, Nat.le_of_ble_eq_true rfl⟩ ⟨Nat.le_refl _, Nat.le_refl _⟩ dX10_ballast_71 (aw_ki fun r_24 I_25 J_26 h => ?_)
      refine aw_isub dX10_ballast_74 ?_
      exact aw_iret rfl dX10_ballast_75 ⟨rfl, _, rfl, h⟩
    · have h := sw_if.t h c_10
      refine aw_sub [0] rfl ?_
      exact t_X10_ballast_25 hG   h
theorem M_X10_ballast {l : Launch} {D : va_G} {cy : Nat → ClassId} {sz : Nat} {G : sw_G} (hG : sw_lay G)   {Q : Int32 → sw_I → sw_J → Prop} {x1 : Int32} {x2 : Int32} {I : sw_I} {J : sw_J} (h : wp_X10_ballast x1 x2 I J Q) : Met l yX10_ballast (Cond.code yX10_ballast cX10_ballast 4 (some .int) :: sw_T) rm_X10_ballast (sw_Pc D cy sz [.ref (sz + 140), .int x1, .int x2] G I J) (sw_Q D cy sz (sw_qi G Q)) 0 0 (fun q => sz ≤ q) :=
  sw_met (by decide) (fun q => by cases q) (Nat.le_of_ble_eq_true rfl) rfl (t_X10_ballast hG  h)
-- X10_hinders
abbrev rm_X10_hinders : Room := { frames := 7, cells := 0, slots := 0, locals := 164 }
def wB_X10_hinders_91  (K27 : Int32 → Int32 → Int32 → Int32 → sw_I → sw_J → Prop) (Q : Int32 → sw_I → sw_J → Prop) (x1 : Int32) (x3 : Int32) (x4 : Int32) (x5 : Int32) (s0 : Int32) (I : sw_I) (J : sw_J) : Prop :=
  ∀ y_1 : Int32, y_1 = (if x3 < x5 then x5 else x3) → ∀ y_3 : Int32, y_3 = x4 + 1 → K27 x1 s0 y_1 y_3 I J
def wB_X10_hinders_77  (K27 : Int32 → Int32 → Int32 → Int32 → sw_I → sw_J → Prop) (Q : Int32 → sw_I → sw_J → Prop) (x1 : Int32) (x2 : Int32) (x3 : Int32) (x4 : Int32) (s0 : Int32) (I : sw_I) (J : sw_J) : Prop :=
  sw_if (x3 < s0) (wB_X10_hinders_91  K27 Q x1 x3 x4 s0 x4 I J) (wB_X10_hinders_91  K27 Q x1 x3 x4 s0 x2 I J)
def wb_X10_hinders_27  (K27 : Int32 → Int32 → Int32 → Int32 → sw_I → sw_J → Prop) (Q : Int32 → sw_I → sw_J → Prop) (x1 : Int32) (x2 : Int32) (x3 : Int32) (x4 : Int32) (I : sw_I) (J : sw_J) : Prop :=
  sw_if (x4 < (I 140 4)) (wp_X10_has (I 144 (30 : Int32).toNatClampNeg) x4 I J (fun r_9 I_10 J_11 => sw_if (r_9 = 0) (wB_X10_hinders_77  K27 Q x1 x2 x3 x4 (-1) I_10 J_11) (wp_X10_comeHome ((I_10 144 (30 : Int32).toNatClampNeg) &&& (((1 : Int32) <<< (x4 &&& 31)) ^^^ (-1 : Int32))) x1 I_10 J_11 (fun r_14 I_15 J_16 => wp_J6_bitCount_0f7a4 r_14 I_15 J_16 (fun r_17 I_18 J_19 => wB_X10_hinders_77  K27 Q x1 x2 x3 x4 r_17 I_18 J_19))))) (sw_if (x2 < 0) (Q (-2 : Int32) I J) (∀ I_3 : sw_I, I_3 = sw_up I 140 1 (0 : Int32) → wp_X10_enters x3.toInt64 I_3 J (fun I_6 J_7 => Q x2 I_6 J_7)))
def wl_X10_hinders_27   (Q : Int32 → sw_I → sw_J → Prop) : Nat → Int32 → Int32 → Int32 → Int32 → sw_I → sw_J → Prop
  | 0 => fun _ _ _ _ _ _ => False
  | n + 1 => fun x1 x2 x3 x4 I J => wb_X10_hinders_27  (wl_X10_hinders_27   Q n) Q x1 x2 x3 x4 I J
def wp_X10_hinders (x1 : Int32) (I : sw_I) (J : sw_J) (Q : Int32 → sw_I → sw_J → Prop) : Prop :=
  ∀ I_1 : sw_I, I_1 = sw_up I 140 0 (0 : Int32) → wp_X10_in x1.toInt64 0 40 I_1 J (fun r_3 I_4 J_5 => sw_if (r_3 = 0) (Q (-1 : Int32) I_4 J_5) (∃ n_7 : Nat, wl_X10_hinders_27   Q n_7 x1 (-2) (-1) 0 I_4 J_5))
set_option maxRecDepth 20000 in
theorem t_X10_hinders_91 {l : Launch} {D : va_G} {cy : Nat → ClassId} {sz : Nat} {G : sw_G} (hG : sw_lay G)   {Q : Int32 → sw_I → sw_J → Prop} {K27 : Int32 → Int32 → Int32 → Int32 → sw_I → sw_J → Prop} (hK27 : ∀ (x1 : Int32) (x2 : Int32) (x3 : Int32) (x4 : Int32) (I : sw_I) (J : sw_J), K27 x1 x2 x3 x4 I J → AW l D cy sz RX10 cX10_hinders 6 (some .int) false rm_X10_hinders 0 0 (sw_qi G Q) 0 0 G I J 27 [(0, .ref (sz + 140)), (1, .int x1), (2, .int x2), (3, .int x3), (4, .int x4)] []) {x1 : Int32} {x3 : Int32} {x4 : Int32} {x5 : Int32} {s0 : Int32} {I : sw_I} {J : sw_J} (h : wB_X10_hinders_91  K27 Q x1 x3 x4 x5 s0 I J) : AW l D cy sz RX10 cX10_hinders 6 (some .int) false rm_X10_hinders 0 0 (sw_qi G Q) 0 0 G I J 91 [(0, .ref (sz + 140)), (1, .int x1), (3, .int x3), (4, .int x4), (5, .int x5)] [.int s0] := by
  unfold wB_X10_hinders_91 at h
  refine aw_istore_n (lv' := [(2, .int s0), (0, .ref (sz + 140)), (1, .int x1), (3, .int x3), (4, .int x4), (5, .int x5)]) dX10_hinders_91 rfl (by decide) rfl ?_
  refine aw_iload_n 3 dX10_hinders_92 rfl rfl ?_
  refine aw_iload 5 dX10_hinders_93 rfl ?_
  refine aw_mmax mm_X10_330 wm_max (Nat.le_of_ble_eq_true rfl) (Nat.le_of_ble_eq_true rfl) ⟨Nat.le_refl _, Nat.le_refl _⟩ dX10_hinders_95 ?_
  refine aw_topi (fun y_1 e_2 => ?_)
  have h := h y_1 e_2
  refine aw_istore_n (lv' := [(3, .int y_1), (2, .int s0), (0, .ref (sz + 140)), (1, .int x1), (4, .int x4), (5, .int x5)]) dX10_hinders_98 rfl (by decide) rfl ?_
  obtain ⟨y_3, e_4⟩ : ∃ q : Int32, q = x4 + 1 := ⟨_, rfl⟩
  have h := h y_3 e_4
  refine aw_iinc (lv' := [(4, .int y_3), (3, .int y_1), (2, .int s0), (0, .ref (sz + 140)), (1, .int x1), (5, .int x5)]) 4 dX10_hinders_99 rfl (by rw [e_4]; rfl) (by decide) rfl ?_
  refine aw_goto 27 dX10_hinders_102 (by decide) ?_
  refine aw_sub [3, 4, 2, 1, 0] rfl ?_
  exact hK27 x1 s0 y_1 y_3 I J h
set_option maxRecDepth 20000 in
theorem t_X10_hinders_77 {l : Launch} {D : va_G} {cy : Nat → ClassId} {sz : Nat} {G : sw_G} (hG : sw_lay G)   {Q : Int32 → sw_I → sw_J → Prop} {K27 : Int32 → Int32 → Int32 → Int32 → sw_I → sw_J → Prop} (hK27 : ∀ (x1 : Int32) (x2 : Int32) (x3 : Int32) (x4 : Int32) (I : sw_I) (J : sw_J), K27 x1 x2 x3 x4 I J → AW l D cy sz RX10 cX10_hinders 6 (some .int) false rm_X10_hinders 0 0 (sw_qi G Q) 0 0 G I J 27 [(0, .ref (sz + 140)), (1, .int x1), (2, .int x2), (3, .int x3), (4, .int x4)] []) {x1 : Int32} {x2 : Int32} {x3 : Int32} {x4 : Int32} {s0 : Int32} {I : sw_I} {J : sw_J} (h : wB_X10_hinders_77  K27 Q x1 x2 x3 x4 s0 I J) : AW l D cy sz RX10 cX10_hinders 6 (some .int) false rm_X10_hinders 0 0 (sw_qi G Q) 0 0 G I J 77 [(0, .ref (sz + 140)), (1, .int x1), (2, .int x2), (3, .int x3), (4, .int x4)] [.int s0] := by
  unfold wB_X10_hinders_77 at h
  refine aw_istore (lv' := [(5, .int s0), (0, .ref (sz + 140)), (1, .int x1), (2, .int x2), (3, .int x3), (4, .int x4)]) dX10_hinders_77 (by decide) rfl ?_
  refine aw_iload 0 dX10_hinders_79 rfl ?_
  refine aw_iload_n 4 dX10_hinders_81 rfl rfl ?_
  refine aw_jle 90 dX10_hinders_82 (by decide) (fun c_1 => ?_) (fun c_1 => ?_)
  · have h := sw_if.f h c_1
    refine aw_iload_n 3 dX10_hinders_90 rfl rfl ?_
    refine aw_sub [1, 2, 4, 5, 0] rfl ?_
    exact t_X10_hinders_91 hG  hK27 h
  · have h := sw_if.t h c_1
    refine aw_iload 5 dX10_hinders_85 rfl ?_
    refine aw_goto 91 dX10_hinders_87 (by decide) ?_
    refine aw_sub [1, 2, 4, 5, 0] rfl ?_
    exact t_X10_hinders_91 hG  hK27 h
set_option maxRecDepth 20000 in
theorem tb_X10_hinders_27 {l : Launch} {D : va_G} {cy : Nat → ClassId} {sz : Nat} {G : sw_G} (hG : sw_lay G)   {Q : Int32 → sw_I → sw_J → Prop} {K27 : Int32 → Int32 → Int32 → Int32 → sw_I → sw_J → Prop} (hK27 : ∀ (x1 : Int32) (x2 : Int32) (x3 : Int32) (x4 : Int32) (I : sw_I) (J : sw_J), K27 x1 x2 x3 x4 I J → AW l D cy sz RX10 cX10_hinders 6 (some .int) false rm_X10_hinders 0 0 (sw_qi G Q) 0 0 G I J 27 [(0, .ref (sz + 140)), (1, .int x1), (2, .int x2), (3, .int x3), (4, .int x4)] []) {x1 : Int32} {x2 : Int32} {x3 : Int32} {x4 : Int32} {I : sw_I} {J : sw_J} (h : wb_X10_hinders_27  K27 Q x1 x2 x3 x4 I J) : AW l D cy sz RX10 cX10_hinders 6 (some .int) false rm_X10_hinders 0 0 (sw_qi G Q) 0 0 G I J 27 [(0, .ref (sz + 140)), (1, .int x1), (2, .int x2), (3, .int x3), (4, .int x4)] [] := by
  unfold wb_X10_hinders_27 at h
  refine aw_iload 4 dX10_hinders_27 rfl ?_
  refine aw_aload_n 0 dX10_hinders_29 rfl rfl ?_
  refine gf_X10_4 fl_X10_29 (lk140 hG) dX10_hinders_30 ?_
  refine aw_jge 105 dX10_hinders_33 (by decide) (fun c_1 => ?_) (fun c_1 => ?_)
  · have h := sw_if.f h c_1
    refine aw_iload_n 2 dX10_hinders_105 rfl rfl ?_
    refine aw_zge 112 dX10_hinders_106 (by decide) (fun c_2 => ?_) (fun c_2 => ?_)
    · have h := sw_if.f h c_2
      refine aw_aload_n 0 dX10_hinders_112 rfl rfl ?_
      refine aw_iconst (v := 0) dX10_hinders_113 (by decide) ?_
      refine pf_X10_1 fl_X10_15 (lk140 hG) dX10_hinders_114 (aw_nameI fun I_3 e_4 => ?_)
      have h := h I_3 e_4
      refine aw_aload_n 0 dX10_hinders_117 rfl rfl ?_
      refine aw_iload_n 3 dX10_hinders_118 rfl rfl ?_
      refine aw_i2l dX10_hinders_119 ?_
      refine aw_callV wv_X10_enters (M_X10_enters hG  h) ml_X10_18 rfl (by decide) (lk140 hG) rfl rfl (Nat.le_of_ble_eq_true rfl) ⟨rfl, rfl⟩ ⟨Nat.le_of_ble_eq_true rfl, Nat.le_of_ble_eq_true rfl⟩ ⟨Nat.le_refl _, Nat.le_refl _⟩ dX10_hinders_120 (aw_kv fun I_6 J_7 h => ?_)
      refine aw_iload_n 2 dX10_hinders_123 rfl rfl ?_
      exact aw_iret rfl dX10_hinders_124 ⟨rfl, _, rfl, h⟩
    · have h := sw_if.t h c_2
      refine aw_bipush (v := (-2)) dX10_hinders_109 (by decide) ?_
      exact aw_iret rfl dX10_hinders_111 ⟨rfl, _, rfl, h⟩
  · have h := sw_if.t h c_1
    refine aw_aload_n 0 dX10_hinders_36 rfl rfl ?_
    refine gf_X10_9 fl_X10_79 (lk140 hG) (lr140_9 hG) dX10_hinders_37 ?_
    refine aw_bipush (v := 30) dX10_hinders_40 (by decide) ?_
    refine aw_ild dX10_hinders_42 (lk144 hG) (ln144 hG) (by unfold vp_in; decide) ?_
    refine aw_iload 4 dX10_hinders_43 rfl ?_
    refine aw_callS wv_X10_has (M_X10_has trivial  h) ml_X10_195 rfl rfl (Nat.le_of_ble_eq_true rfl) ⟨rfl, rfl⟩ ⟨Nat.le_of_ble_eq_true rfl, Nat.le_of_ble_eq_true rfl⟩ ⟨Nat.le_refl _, Nat.le_refl _⟩ dX10_hinders_45 (aw_ki fun r_9 I_10 J_11 h => ?_)
    refine aw_zeq 76 dX10_hinders_48 (by decide) (fun c_12 => ?_) (fun c_12 => ?_)
    · have h := sw_if.t h c_12
      refine aw_iconst (v := (-1)) dX10_hinders_76 (by decide) ?_
      refine aw_sub [0, 1, 2, 3, 4] rfl ?_
      exact t_X10_hinders_77 hG  hK27 h
    · have h := sw_if.f h c_12
      refine aw_aload_n 0 dX10_hinders_51 rfl rfl ?_
      refine aw_aload_n 0 dX10_hinders_52 rfl rfl ?_
      refine gf_X10_9 fl_X10_79 (lk140 hG) (lr140_9 hG) dX10_hinders_53 ?_
      refine aw_bipush (v := 30) dX10_hinders_56 (by decide) ?_
      refine aw_ild dX10_hinders_58 (lk144 hG) (ln144 hG) (by unfold vp_in; decide) ?_
      refine aw_iconst (v := 1) dX10_hinders_59 (by decide) ?_
      refine aw_iload 4 dX10_hinders_60 rfl ?_
      refine aw_ishl dX10_hinders_62 ?_
      refine aw_iconst (v := (-1)) dX10_hinders_63 (by decide) ?_
      refine aw_ixor dX10_hinders_64 ?_
      refine aw_iand dX10_hinders_65 ?_
      refine aw_iload_n 1 dX10_hinders_66 rfl rfl ?_
      refine aw_callV wv_X10_comeHome (M_X10_comeHome hG  h) ml_X10_327 rfl (by decide) (lk140 hG) rfl rfl (Nat.le_of_ble_eq_true rfl) ⟨rfl, rfl⟩ ⟨Nat.le_of_ble_eq_true rfl, Nat.le_of_ble_eq_true rfl⟩ ⟨Nat.le_refl _, Nat.le_refl _⟩ dX10_hinders_67 (aw_ki fun r_14 I_15 J_16 h => ?_)
      refine aw_callS wv_J6_bitCount_0f7a4 (M_J6_bitCount_0f7a4 trivial  h) ml_X10_175 rfl rfl (Nat.le_of_ble_eq_true rfl) ⟨rfl, rfl⟩ ⟨Nat.le_of_ble_eq_true rfl, Nat.le_of_ble_eq_true rfl⟩ ⟨Nat.le_refl _, Nat.le_refl _⟩ dX10_hinders_70 (aw_ki fun r_17 I_18 J_19 h => ?_)
      refine aw_goto 77 dX10_hinders_73 (by decide) ?_
      refine aw_sub [0, 1, 2, 3, 4] rfl ?_
      exact t_X10_hinders_77 hG  hK27 h
set_option maxRecDepth 20000 in
theorem tl_X10_hinders_27 {l : Launch} {D : va_G} {cy : Nat → ClassId} {sz : Nat} {G : sw_G} (hG : sw_lay G)   {Q : Int32 → sw_I → sw_J → Prop} : ∀ (n : Nat) (x1 : Int32) (x2 : Int32) (x3 : Int32) (x4 : Int32) (I : sw_I) (J : sw_J), wl_X10_hinders_27   Q n x1 x2 x3 x4 I J → AW l D cy sz RX10 cX10_hinders 6 (some .int) false rm_X10_hinders 0 0 (sw_qi G Q) 0 0 G I J 27 [(0, .ref (sz + 140)), (1, .int x1), (2, .int x2), (3, .int x3), (4, .int x4)] [] := by
  intro n
  induction n with
  | zero => intro x1 x2 x3 x4 I J h; exact False.elim h
  | succ n ih => intro x1 x2 x3 x4 I J h; exact tb_X10_hinders_27 hG  ih h
set_option maxRecDepth 20000 in
theorem t_X10_hinders {l : Launch} {D : va_G} {cy : Nat → ClassId} {sz : Nat} {G : sw_G} (hG : sw_lay G)   {Q : Int32 → sw_I → sw_J → Prop} {x1 : Int32} {I : sw_I} {J : sw_J} (h : wp_X10_hinders x1 I J Q) : AW l D cy sz RX10 cX10_hinders 6 (some .int) false rm_X10_hinders 0 0 (sw_qi G Q) 0 0 G I J 0 [(0, .ref (sz + 140)), (1, .int x1)] [] := by
  unfold wp_X10_hinders at h
  refine aw_aload_n 0 dX10_hinders_0 rfl rfl ?_
  refine aw_iconst (v := 0) dX10_hinders_1 (by decide) ?_
  refine pf_X10_0 fl_X10_3 (lk140 hG) dX10_hinders_2 (aw_nameI fun I_1 e_2 => ?_)
  have h := h I_1 e_2
  refine aw_iload_n 1 dX10_hinders_5 rfl rfl ?_
  refine aw_i2l dX10_hinders_6 ?_
  refine aw_lconst (v := 0) dX10_hinders_7 (by decide) ?_
  refine aw_ldc2 (v := 40) dX10_hinders_8 k_X10_325 ?_
  refine aw_callS wv_X10_in (M_X10_in trivial  h) ml_X10_25 rfl rfl (Nat.le_of_ble_eq_true rfl) ⟨rfl, rfl⟩ ⟨Nat.le_of_ble_eq_true rfl, Nat.le_of_ble_eq_true rfl⟩ ⟨Nat.le_refl _, Nat.le_refl _⟩ dX10_hinders_11 (aw_ki fun r_3 I_4 J_5 h => ?_)
  refine aw_zne 19 dX10_hinders_14 (by decide) (fun c_6 => ?_) (fun c_6 => ?_)
  · have h := sw_if.f h c_6
    refine aw_bipush (v := (-2)) dX10_hinders_19 (by decide) ?_
    refine aw_istore_n (lv' := [(2, .int (-2)), (0, .ref (sz + 140)), (1, .int x1)]) dX10_hinders_21 rfl (by decide) rfl ?_
    refine aw_iconst (v := (-1)) dX10_hinders_22 (by decide) ?_
    refine aw_istore_n (lv' := [(3, .int (-1)), (2, .int (-2)), (0, .ref (sz + 140)), (1, .int x1)]) dX10_hinders_23 rfl (by decide) rfl ?_
    refine aw_iconst (v := 0) dX10_hinders_24 (by decide) ?_
    refine aw_istore (lv' := [(4, .int 0), (3, .int (-1)), (2, .int (-2)), (0, .ref (sz + 140)), (1, .int x1)]) dX10_hinders_25 (by decide) rfl ?_
    refine aw_sub [3, 4, 2, 1, 0] rfl ?_
    obtain ⟨n_7, h⟩ := h
    exact tl_X10_hinders_27 hG   n_7 x1 (-2) (-1) 0 I_4 J_5 h
  · have h := sw_if.t h c_6
    refine aw_iconst (v := (-1)) dX10_hinders_17 (by decide) ?_
    exact aw_iret rfl dX10_hinders_18 ⟨rfl, _, rfl, h⟩
theorem M_X10_hinders {l : Launch} {D : va_G} {cy : Nat → ClassId} {sz : Nat} {G : sw_G} (hG : sw_lay G)   {Q : Int32 → sw_I → sw_J → Prop} {x1 : Int32} {I : sw_I} {J : sw_J} (h : wp_X10_hinders x1 I J Q) : Met l yX10_hinders (Cond.code yX10_hinders cX10_hinders 6 (some .int) :: sw_T) rm_X10_hinders (sw_Pc D cy sz [.ref (sz + 140), .int x1] G I J) (sw_Q D cy sz (sw_qi G Q)) 0 0 (fun q => sz ≤ q) :=
  sw_met (by decide) (fun q => by cases q) (Nat.le_of_ble_eq_true rfl) rfl (t_X10_hinders hG  h)
-- X10_findsFrom
abbrev rm_X10_findsFrom : Room := { frames := 6, cells := 0, slots := 0, locals := 140 }
def wB_X10_findsFrom_62  (K16 : Int32 → Int32 → Int32 → sw_I → sw_J → Prop) (Q : sw_I → sw_J → Prop) (x1 : Int32) (x2 : Int32) (x3 : Int32) (I : sw_I) (J : sw_J) : Prop :=
  ∀ y_1 : Int32, y_1 = x3 + 1 → K16 x1 x2 y_1 I J
def wb_X10_findsFrom_16  (K16 : Int32 → Int32 → Int32 → sw_I → sw_J → Prop) (Q : sw_I → sw_J → Prop) (x1 : Int32) (x2 : Int32) (x3 : Int32) (I : sw_I) (J : sw_J) : Prop :=
  sw_if (x3 < ((1 : Int32) <<< ((I 140 4) &&& 31))) (sw_if ((I 140 49) = 0) (sw_if ((x3 &&& (x2 ^^^ (-1 : Int32))) = 0) (wp_X10_unpacks x1 I J (fun I_5 J_6 => wp_X10_travels 145 33 x3 I_5 J_6 (fun r_7 I_8 J_9 => wp_X10_finds x1 x3 I_8 J_9 (fun I_11 J_12 => wB_X10_findsFrom_62  K16 Q x1 x2 x3 I_11 J_12)))) (wB_X10_findsFrom_62  K16 Q x1 x2 x3 I J)) (Q I J)) (Q I J)
def wl_X10_findsFrom_16   (Q : sw_I → sw_J → Prop) : Nat → Int32 → Int32 → Int32 → sw_I → sw_J → Prop
  | 0 => fun _ _ _ _ _ => False
  | n + 1 => fun x1 x2 x3 I J => wb_X10_findsFrom_16  (wl_X10_findsFrom_16   Q n) Q x1 x2 x3 I J
def wp_X10_findsFrom (x1 : Int32) (I : sw_I) (J : sw_J) (Q : sw_I → sw_J → Prop) : Prop :=
  wp_X10_unpacks x1 I J (fun I_2 J_3 => wp_X10_there 145 33 I_2 J_3 (fun r_4 I_5 J_6 => ∃ n_7 : Nat, wl_X10_findsFrom_16   Q n_7 x1 r_4 0 I_5 J_6))
set_option maxRecDepth 20000 in
theorem t_X10_findsFrom_62 {l : Launch} {D : va_G} {cy : Nat → ClassId} {sz : Nat} {G : sw_G} (hG : sw_lay G)   {Q : sw_I → sw_J → Prop} {K16 : Int32 → Int32 → Int32 → sw_I → sw_J → Prop} (hK16 : ∀ (x1 : Int32) (x2 : Int32) (x3 : Int32) (I : sw_I) (J : sw_J), K16 x1 x2 x3 I J → AW l D cy sz RX10 cX10_findsFrom 4 none false rm_X10_findsFrom 0 0 (sw_qv G Q) 0 0 G I J 16 [(0, .ref (sz + 140)), (1, .int x1), (2, .int x2), (3, .int x3)] []) {x1 : Int32} {x2 : Int32} {x3 : Int32} {I : sw_I} {J : sw_J} (h : wB_X10_findsFrom_62  K16 Q x1 x2 x3 I J) : AW l D cy sz RX10 cX10_findsFrom 4 none false rm_X10_findsFrom 0 0 (sw_qv G Q) 0 0 G I J 62 [(0, .ref (sz + 140)), (1, .int x1), (2, .int x2), (3, .int x3)] [] := by
  unfold wB_X10_findsFrom_62 at h
  obtain ⟨y_1, e_2⟩ : ∃ q : Int32, q = x3 + 1 := ⟨_, rfl⟩
  have h := h y_1 e_2
  refine aw_iinc (lv' := [(3, .int y_1), (0, .ref (sz + 140)), (1, .int x1), (2, .int x2)]) 3 dX10_findsFrom_62 rfl (by rw [e_2]; rfl) (by decide) rfl ?_
  refine aw_goto 16 dX10_findsFrom_65 (by decide) ?_
  refine aw_sub [1, 2, 3, 0] rfl ?_
  exact hK16 x1 x2 y_1 I J h
set_option maxRecDepth 20000 in
theorem tb_X10_findsFrom_16 {l : Launch} {D : va_G} {cy : Nat → ClassId} {sz : Nat} {G : sw_G} (hG : sw_lay G)   {Q : sw_I → sw_J → Prop} {K16 : Int32 → Int32 → Int32 → sw_I → sw_J → Prop} (hK16 : ∀ (x1 : Int32) (x2 : Int32) (x3 : Int32) (I : sw_I) (J : sw_J), K16 x1 x2 x3 I J → AW l D cy sz RX10 cX10_findsFrom 4 none false rm_X10_findsFrom 0 0 (sw_qv G Q) 0 0 G I J 16 [(0, .ref (sz + 140)), (1, .int x1), (2, .int x2), (3, .int x3)] []) {x1 : Int32} {x2 : Int32} {x3 : Int32} {I : sw_I} {J : sw_J} (h : wb_X10_findsFrom_16  K16 Q x1 x2 x3 I J) : AW l D cy sz RX10 cX10_findsFrom 4 none false rm_X10_findsFrom 0 0 (sw_qv G Q) 0 0 G I J 16 [(0, .ref (sz + 140)), (1, .int x1), (2, .int x2), (3, .int x3)] [] := by
  unfold wb_X10_findsFrom_16 at h
  refine aw_iload_n 3 dX10_findsFrom_16 rfl rfl ?_
  refine aw_iconst (v := 1) dX10_findsFrom_17 (by decide) ?_
  refine aw_aload_n 0 dX10_findsFrom_18 rfl rfl ?_
  refine gf_X10_4 fl_X10_29 (lk140 hG) dX10_findsFrom_19 ?_
  refine aw_ishl dX10_findsFrom_22 ?_
  refine aw_jge 68 dX10_findsFrom_23 (by decide) (fun c_1 => ?_) (fun c_1 => ?_)
  · have h := sw_if.f h c_1
    exact aw_vret rfl dX10_findsFrom_68 ⟨rfl, rfl, h⟩
  · have h := sw_if.t h c_1
    refine aw_aload_n 0 dX10_findsFrom_26 rfl rfl ?_
    refine gf_X10_49 fl_X10_362 (lk140 hG) dX10_findsFrom_27 ?_
    refine aw_zne 68 dX10_findsFrom_30 (by decide) (fun c_2 => ?_) (fun c_2 => ?_)
    · have h := sw_if.f h c_2
      exact aw_vret rfl dX10_findsFrom_68 ⟨rfl, rfl, h⟩
    · have h := sw_if.t h c_2
      refine aw_iload_n 3 dX10_findsFrom_33 rfl rfl ?_
      refine aw_iload_n 2 dX10_findsFrom_34 rfl rfl ?_
      refine aw_iconst (v := (-1)) dX10_findsFrom_35 (by decide) ?_
      refine aw_ixor dX10_findsFrom_36 ?_
      refine aw_iand dX10_findsFrom_37 ?_
      refine aw_zne 62 dX10_findsFrom_38 (by decide) (fun c_3 => ?_) (fun c_3 => ?_)
      · have h := sw_if.f h c_3
        refine aw_sub [0, 1, 2, 3] rfl ?_
        exact t_X10_findsFrom_62 hG  hK16 h
      · have h := sw_if.t h c_3
        refine aw_aload_n 0 dX10_findsFrom_41 rfl rfl ?_
        refine aw_iload_n 1 dX10_findsFrom_42 rfl rfl ?_
        refine aw_callV wv_X10_unpacks (M_X10_unpacks hG  h) ml_X10_379 rfl (by decide) (lk140 hG) rfl rfl (Nat.le_of_ble_eq_true rfl) ⟨rfl, rfl⟩ ⟨Nat.le_of_ble_eq_true rfl, Nat.le_of_ble_eq_true rfl⟩ ⟨Nat.le_refl _, Nat.le_refl _⟩ dX10_findsFrom_43 (aw_kv fun I_5 J_6 h => ?_)
        refine aw_aload_n 0 dX10_findsFrom_46 rfl rfl ?_
        refine aw_aload_n 0 dX10_findsFrom_47 rfl rfl ?_
        refine gf_X10_10 fl_X10_313 (lk140 hG) (lr140_10 hG) dX10_findsFrom_48 ?_
        refine aw_iload_n 3 dX10_findsFrom_51 rfl rfl ?_
        refine aw_callV wv_X10_travels (M_X10_travels hG ⟨(lk145 hG), (ln145 hG)⟩ h) ml_X10_261 rfl (by decide) (lk140 hG) rfl rfl (Nat.le_of_ble_eq_true rfl) ⟨rfl, rfl⟩ ⟨Nat.le_of_ble_eq_true rfl, Nat.le_of_ble_eq_true rfl⟩ ⟨Nat.le_refl _, Nat.le_refl _⟩ dX10_findsFrom_52 (aw_ki fun r_7 I_8 J_9 h => ?_)
        refine aw_pop dX10_findsFrom_55 rfl ?_
        refine aw_aload_n 0 dX10_findsFrom_56 rfl rfl ?_
        refine aw_iload_n 1 dX10_findsFrom_57 rfl rfl ?_
        refine aw_iload_n 3 dX10_findsFrom_58 rfl rfl ?_
        refine aw_callV wv_X10_finds (M_X10_finds hG  h) ml_X10_375 rfl (by decide) (lk140 hG) rfl rfl (Nat.le_of_ble_eq_true rfl) ⟨rfl, rfl⟩ ⟨Nat.le_of_ble_eq_true rfl, Nat.le_of_ble_eq_true rfl⟩ ⟨Nat.le_refl _, Nat.le_refl _⟩ dX10_findsFrom_59 (aw_kv fun I_11 J_12 h => ?_)
        refine aw_sub [0, 1, 2, 3] rfl ?_
        exact t_X10_findsFrom_62 hG  hK16 h
set_option maxRecDepth 20000 in
theorem tl_X10_findsFrom_16 {l : Launch} {D : va_G} {cy : Nat → ClassId} {sz : Nat} {G : sw_G} (hG : sw_lay G)   {Q : sw_I → sw_J → Prop} : ∀ (n : Nat) (x1 : Int32) (x2 : Int32) (x3 : Int32) (I : sw_I) (J : sw_J), wl_X10_findsFrom_16   Q n x1 x2 x3 I J → AW l D cy sz RX10 cX10_findsFrom 4 none false rm_X10_findsFrom 0 0 (sw_qv G Q) 0 0 G I J 16 [(0, .ref (sz + 140)), (1, .int x1), (2, .int x2), (3, .int x3)] [] := by
  intro n
  induction n with
  | zero => intro x1 x2 x3 I J h; exact False.elim h
  | succ n ih => intro x1 x2 x3 I J h; exact tb_X10_findsFrom_16 hG  ih h
set_option maxRecDepth 20000 in
theorem t_X10_findsFrom {l : Launch} {D : va_G} {cy : Nat → ClassId} {sz : Nat} {G : sw_G} (hG : sw_lay G)   {Q : sw_I → sw_J → Prop} {x1 : Int32} {I : sw_I} {J : sw_J} (h : wp_X10_findsFrom x1 I J Q) : AW l D cy sz RX10 cX10_findsFrom 4 none false rm_X10_findsFrom 0 0 (sw_qv G Q) 0 0 G I J 0 [(0, .ref (sz + 140)), (1, .int x1)] [] := by
  unfold wp_X10_findsFrom at h
  refine aw_aload_n 0 dX10_findsFrom_0 rfl rfl ?_
  refine aw_iload_n 1 dX10_findsFrom_1 rfl rfl ?_
  refine aw_callV wv_X10_unpacks (M_X10_unpacks hG  h) ml_X10_379 rfl (by decide) (lk140 hG) rfl rfl (Nat.le_of_ble_eq_true rfl) ⟨rfl, rfl⟩ ⟨Nat.le_of_ble_eq_true rfl, Nat.le_of_ble_eq_true rfl⟩ ⟨Nat.le_refl _, Nat.le_refl _⟩ dX10_findsFrom_2 (aw_kv fun I_2 J_3 h => ?_)
  refine aw_aload_n 0 dX10_findsFrom_5 rfl rfl ?_
  refine aw_aload_n 0 dX10_findsFrom_6 rfl rfl ?_
  refine gf_X10_10 fl_X10_313 (lk140 hG) (lr140_10 hG) dX10_findsFrom_7 ?_
  refine aw_callV wv_X10_there (M_X10_there hG ⟨(lk145 hG), (ln145 hG)⟩ h) ml_X10_295 rfl (by decide) (lk140 hG) rfl rfl (Nat.le_of_ble_eq_true rfl) ⟨rfl, rfl⟩ ⟨Nat.le_of_ble_eq_true rfl, Nat.le_of_ble_eq_true rfl⟩ ⟨Nat.le_refl _, Nat.le_refl _⟩ dX10_findsFrom_10 (aw_ki fun r_4 I_5 J_6 h => ?_)
  refine aw_istore_n (lv' := [(2, .int r_4), (0, .ref (sz + 140)), (1, .int x1)]) dX10_findsFrom_13 rfl (by decide) rfl ?_
  refine aw_iconst (v := 0) dX10_findsFrom_14 (by decide) ?_
  refine aw_istore_n (lv' := [(3, .int 0), (2, .int r_4), (0, .ref (sz + 140)), (1, .int x1)]) dX10_findsFrom_15 rfl (by decide) rfl ?_
  refine aw_sub [2, 3, 1, 0] rfl ?_
  obtain ⟨n_7, h⟩ := h
  exact tl_X10_findsFrom_16 hG   n_7 x1 r_4 0 I_5 J_6 h
theorem M_X10_findsFrom {l : Launch} {D : va_G} {cy : Nat → ClassId} {sz : Nat} {G : sw_G} (hG : sw_lay G)   {Q : sw_I → sw_J → Prop} {x1 : Int32} {I : sw_I} {J : sw_J} (h : wp_X10_findsFrom x1 I J Q) : Met l yX10_findsFrom (Cond.code yX10_findsFrom cX10_findsFrom 4 none :: sw_T) rm_X10_findsFrom (sw_Pc D cy sz [.ref (sz + 140), .int x1] G I J) (sw_Q D cy sz (sw_qv G Q)) 0 0 (fun q => sz ≤ q) :=
  sw_met (by decide) (fun q => by cases q) (Nat.le_of_ble_eq_true rfl) rfl (t_X10_findsFrom hG  h)
-- X10_seeks
abbrev rm_X10_seeks : Room := { frames := 7, cells := 0, slots := 0, locals := 163 }
def wB_X10_seeks_67  (K23 : Int32 → Int32 → sw_I → sw_J → Prop) (Q : Int32 → sw_I → sw_J → Prop) (x2 : Int32) (x3 : Int32) (I : sw_I) (J : sw_J) : Prop :=
  ∀ y_1 : Int32, y_1 = x3 + 1 → K23 x2 y_1 I J
def wb_X10_seeks_31  (K23 : Int32 → Int32 → sw_I → sw_J → Prop) (K31 : Int32 → Int32 → sw_I → sw_J → Prop) (Q : Int32 → sw_I → sw_J → Prop) (x2 : Int32) (x3 : Int32) (I : sw_I) (J : sw_J) : Prop :=
  sw_if (x2 < (I 140 48)) (wp_X10_isAim x2 I J (fun r_6 I_7 J_8 => sw_if (r_6 = 0) (∀ y_10 : Int32, y_10 = x2 + 1 → K31 y_10 x3 I_7 J_8) (Q x2 I_7 J_8))) (sw_if ((I 140 49) = 0) (wp_X10_findsFrom x3 I J (fun I_4 J_5 => wB_X10_seeks_67  K23 Q x2 x3 I_4 J_5)) (wB_X10_seeks_67  K23 Q x2 x3 I J))
def wl_X10_seeks_31  (K23 : Int32 → Int32 → sw_I → sw_J → Prop) (Q : Int32 → sw_I → sw_J → Prop) : Nat → Int32 → Int32 → sw_I → sw_J → Prop
  | 0 => fun _ _ _ _ => False
  | n + 1 => fun x2 x3 I J => wb_X10_seeks_31  K23 (wl_X10_seeks_31  K23 Q n) Q x2 x3 I J
def wb_X10_seeks_23  (K23 : Int32 → Int32 → sw_I → sw_J → Prop) (Q : Int32 → sw_I → sw_J → Prop) (x2 : Int32) (x3 : Int32) (I : sw_I) (J : sw_J) : Prop :=
  sw_if (x3 < (I 140 48)) (∃ n_3 : Nat, wl_X10_seeks_31  K23 Q n_3 x2 x3 I J) (sw_if ((I 140 49) = 0) (Q (-2 : Int32) I J) (Q (-3 : Int32) I J))
def wl_X10_seeks_23   (Q : Int32 → sw_I → sw_J → Prop) : Nat → Int32 → Int32 → sw_I → sw_J → Prop
  | 0 => fun _ _ _ _ => False
  | n + 1 => fun x2 x3 I J => wb_X10_seeks_23  (wl_X10_seeks_23   Q n) Q x2 x3 I J
def wp_X10_seeks (x1 : Int32) (I : sw_I) (J : sw_J) (Q : Int32 → sw_I → sw_J → Prop) : Prop :=
  wp_X10_countsRides  I J (fun r_1 I_2 J_3 => sw_if (r_1 = 0) (∀ I_5 : sw_I, I_5 = sw_up I_2 140 50 x1 → wp_X10_findsFirst  I_5 J_3 (fun I_8 J_9 => ∃ n_10 : Nat, wl_X10_seeks_23   Q n_10 0 0 I_8 J_9)) (Q (-4 : Int32) I_2 J_3))
set_option maxRecDepth 20000 in
theorem t_X10_seeks_67 {l : Launch} {D : va_G} {cy : Nat → ClassId} {sz : Nat} {G : sw_G} (hG : sw_lay G)   {Q : Int32 → sw_I → sw_J → Prop} {K23 : Int32 → Int32 → sw_I → sw_J → Prop} (hK23 : ∀ (x2 : Int32) (x3 : Int32) (I : sw_I) (J : sw_J), K23 x2 x3 I J → AW l D cy sz RX10 cX10_seeks 4 (some .int) false rm_X10_seeks 0 0 (sw_qi G Q) 0 0 G I J 23 [(0, .ref (sz + 140)), (2, .int x2), (3, .int x3)] []) {x2 : Int32} {x3 : Int32} {I : sw_I} {J : sw_J} (h : wB_X10_seeks_67  K23 Q x2 x3 I J) : AW l D cy sz RX10 cX10_seeks 4 (some .int) false rm_X10_seeks 0 0 (sw_qi G Q) 0 0 G I J 67 [(0, .ref (sz + 140)), (2, .int x2), (3, .int x3)] [] := by
  unfold wB_X10_seeks_67 at h
  obtain ⟨y_1, e_2⟩ : ∃ q : Int32, q = x3 + 1 := ⟨_, rfl⟩
  have h := h y_1 e_2
  refine aw_iinc (lv' := [(3, .int y_1), (0, .ref (sz + 140)), (2, .int x2)]) 2 dX10_seeks_67 rfl (by rw [e_2]; rfl) (by decide) rfl ?_
  refine aw_goto 23 dX10_seeks_70 (by decide) ?_
  refine aw_sub [1, 2, 0] rfl ?_
  exact hK23 x2 y_1 I J h
set_option maxRecDepth 20000 in
theorem tb_X10_seeks_31 {l : Launch} {D : va_G} {cy : Nat → ClassId} {sz : Nat} {G : sw_G} (hG : sw_lay G)   {Q : Int32 → sw_I → sw_J → Prop} {K23 : Int32 → Int32 → sw_I → sw_J → Prop} (hK23 : ∀ (x2 : Int32) (x3 : Int32) (I : sw_I) (J : sw_J), K23 x2 x3 I J → AW l D cy sz RX10 cX10_seeks 4 (some .int) false rm_X10_seeks 0 0 (sw_qi G Q) 0 0 G I J 23 [(0, .ref (sz + 140)), (2, .int x2), (3, .int x3)] []) {K31 : Int32 → Int32 → sw_I → sw_J → Prop} (hK31 : ∀ (x2 : Int32) (x3 : Int32) (I : sw_I) (J : sw_J), K31 x2 x3 I J → AW l D cy sz RX10 cX10_seeks 4 (some .int) false rm_X10_seeks 0 0 (sw_qi G Q) 0 0 G I J 31 [(0, .ref (sz + 140)), (2, .int x2), (3, .int x3)] []) {x2 : Int32} {x3 : Int32} {I : sw_I} {J : sw_J} (h : wb_X10_seeks_31  K23 K31 Q x2 x3 I J) : AW l D cy sz RX10 cX10_seeks 4 (some .int) false rm_X10_seeks 0 0 (sw_qi G Q) 0 0 G I J 31 [(0, .ref (sz + 140)), (2, .int x2), (3, .int x3)] [] := by
  unfold wb_X10_seeks_31 at h
  refine aw_iload_n 1 dX10_seeks_31 rfl rfl ?_
  refine aw_aload_n 0 dX10_seeks_32 rfl rfl ?_
  refine gf_X10_48 fl_X10_359 (lk140 hG) dX10_seeks_33 ?_
  refine aw_jge 55 dX10_seeks_36 (by decide) (fun c_1 => ?_) (fun c_1 => ?_)
  · have h := sw_if.f h c_1
    refine aw_aload_n 0 dX10_seeks_55 rfl rfl ?_
    refine gf_X10_49 fl_X10_362 (lk140 hG) dX10_seeks_56 ?_
    refine aw_zne 67 dX10_seeks_59 (by decide) (fun c_2 => ?_) (fun c_2 => ?_)
    · have h := sw_if.f h c_2
      refine aw_sub [0, 1, 2] rfl ?_
      exact t_X10_seeks_67 hG  hK23 h
    · have h := sw_if.t h c_2
      refine aw_aload_n 0 dX10_seeks_62 rfl rfl ?_
      refine aw_iload_n 2 dX10_seeks_63 rfl rfl ?_
      refine aw_callV wv_X10_findsFrom (M_X10_findsFrom hG  h) ml_X10_400 rfl (by decide) (lk140 hG) rfl rfl (Nat.le_of_ble_eq_true rfl) ⟨rfl, rfl⟩ ⟨Nat.le_of_ble_eq_true rfl, Nat.le_of_ble_eq_true rfl⟩ ⟨Nat.le_refl _, Nat.le_refl _⟩ dX10_seeks_64 (aw_kv fun I_4 J_5 h => ?_)
      refine aw_sub [0, 1, 2] rfl ?_
      exact t_X10_seeks_67 hG  hK23 h
  · have h := sw_if.t h c_1
    refine aw_aload_n 0 dX10_seeks_39 rfl rfl ?_
    refine aw_iload_n 1 dX10_seeks_40 rfl rfl ?_
    refine aw_callV wv_X10_isAim (M_X10_isAim hG  h) ml_X10_397 rfl (by decide) (lk140 hG) rfl rfl (Nat.le_of_ble_eq_true rfl) ⟨rfl, rfl⟩ ⟨Nat.le_of_ble_eq_true rfl, Nat.le_of_ble_eq_true rfl⟩ ⟨Nat.le_refl _, Nat.le_refl _⟩ dX10_seeks_41 (aw_ki fun r_6 I_7 J_8 h => ?_)
    refine aw_zeq 49 dX10_seeks_44 (by decide) (fun c_9 => ?_) (fun c_9 => ?_)
    · have h := sw_if.t h c_9
      obtain ⟨y_10, e_11⟩ : ∃ q : Int32, q = x2 + 1 := ⟨_, rfl⟩
      have h := h y_10 e_11
      refine aw_iinc (lv' := [(2, .int y_10), (0, .ref (sz + 140)), (3, .int x3)]) 1 dX10_seeks_49 rfl (by rw [e_11]; rfl) (by decide) rfl ?_
      refine aw_goto 31 dX10_seeks_52 (by decide) ?_
      refine aw_sub [1, 0, 2] rfl ?_
      exact hK31 y_10 x3 I_7 J_8 h
    · have h := sw_if.f h c_9
      refine aw_iload_n 1 dX10_seeks_47 rfl rfl ?_
      exact aw_iret rfl dX10_seeks_48 ⟨rfl, _, rfl, h⟩
set_option maxRecDepth 20000 in
theorem tl_X10_seeks_31 {l : Launch} {D : va_G} {cy : Nat → ClassId} {sz : Nat} {G : sw_G} (hG : sw_lay G)   {Q : Int32 → sw_I → sw_J → Prop} {K23 : Int32 → Int32 → sw_I → sw_J → Prop} (hK23 : ∀ (x2 : Int32) (x3 : Int32) (I : sw_I) (J : sw_J), K23 x2 x3 I J → AW l D cy sz RX10 cX10_seeks 4 (some .int) false rm_X10_seeks 0 0 (sw_qi G Q) 0 0 G I J 23 [(0, .ref (sz + 140)), (2, .int x2), (3, .int x3)] []) : ∀ (n : Nat) (x2 : Int32) (x3 : Int32) (I : sw_I) (J : sw_J), wl_X10_seeks_31  K23 Q n x2 x3 I J → AW l D cy sz RX10 cX10_seeks 4 (some .int) false rm_X10_seeks 0 0 (sw_qi G Q) 0 0 G I J 31 [(0, .ref (sz + 140)), (2, .int x2), (3, .int x3)] [] := by
  intro n
  induction n with
  | zero => intro x2 x3 I J h; exact False.elim h
  | succ n ih => intro x2 x3 I J h; exact tb_X10_seeks_31 hG  hK23 ih h
set_option maxRecDepth 20000 in
theorem tb_X10_seeks_23 {l : Launch} {D : va_G} {cy : Nat → ClassId} {sz : Nat} {G : sw_G} (hG : sw_lay G)   {Q : Int32 → sw_I → sw_J → Prop} {K23 : Int32 → Int32 → sw_I → sw_J → Prop} (hK23 : ∀ (x2 : Int32) (x3 : Int32) (I : sw_I) (J : sw_J), K23 x2 x3 I J → AW l D cy sz RX10 cX10_seeks 4 (some .int) false rm_X10_seeks 0 0 (sw_qi G Q) 0 0 G I J 23 [(0, .ref (sz + 140)), (2, .int x2), (3, .int x3)] []) {x2 : Int32} {x3 : Int32} {I : sw_I} {J : sw_J} (h : wb_X10_seeks_23  K23 Q x2 x3 I J) : AW l D cy sz RX10 cX10_seeks 4 (some .int) false rm_X10_seeks 0 0 (sw_qi G Q) 0 0 G I J 23 [(0, .ref (sz + 140)), (2, .int x2), (3, .int x3)] [] := by
  unfold wb_X10_seeks_23 at h
  refine aw_iload_n 2 dX10_seeks_23 rfl rfl ?_
  refine aw_aload_n 0 dX10_seeks_24 rfl rfl ?_
  refine gf_X10_48 fl_X10_359 (lk140 hG) dX10_seeks_25 ?_
  refine aw_jge 73 dX10_seeks_28 (by decide) (fun c_1 => ?_) (fun c_1 => ?_)
  · have h := sw_if.f h c_1
    refine aw_aload_n 0 dX10_seeks_73 rfl rfl ?_
    refine gf_X10_49 fl_X10_362 (lk140 hG) dX10_seeks_74 ?_
    refine aw_zeq 85 dX10_seeks_77 (by decide) (fun c_2 => ?_) (fun c_2 => ?_)
    · have h := sw_if.t h c_2
      refine aw_bipush (v := (-2)) dX10_seeks_85 (by decide) ?_
      exact aw_iret rfl dX10_seeks_87 ⟨rfl, _, rfl, h⟩
    · have h := sw_if.f h c_2
      refine aw_bipush (v := (-3)) dX10_seeks_80 (by decide) ?_
      refine aw_goto 87 dX10_seeks_82 (by decide) ?_
      exact aw_iret rfl dX10_seeks_87 ⟨rfl, _, rfl, h⟩
  · have h := sw_if.t h c_1
    refine aw_sub [0, 1, 2] rfl ?_
    obtain ⟨n_3, h⟩ := h
    exact tl_X10_seeks_31 hG  hK23 n_3 x2 x3 I J h
set_option maxRecDepth 20000 in
theorem tl_X10_seeks_23 {l : Launch} {D : va_G} {cy : Nat → ClassId} {sz : Nat} {G : sw_G} (hG : sw_lay G)   {Q : Int32 → sw_I → sw_J → Prop} : ∀ (n : Nat) (x2 : Int32) (x3 : Int32) (I : sw_I) (J : sw_J), wl_X10_seeks_23   Q n x2 x3 I J → AW l D cy sz RX10 cX10_seeks 4 (some .int) false rm_X10_seeks 0 0 (sw_qi G Q) 0 0 G I J 23 [(0, .ref (sz + 140)), (2, .int x2), (3, .int x3)] [] := by
  intro n
  induction n with
  | zero => intro x2 x3 I J h; exact False.elim h
  | succ n ih => intro x2 x3 I J h; exact tb_X10_seeks_23 hG  ih h
set_option maxRecDepth 20000 in
theorem t_X10_seeks {l : Launch} {D : va_G} {cy : Nat → ClassId} {sz : Nat} {G : sw_G} (hG : sw_lay G)   {Q : Int32 → sw_I → sw_J → Prop} {x1 : Int32} {I : sw_I} {J : sw_J} (h : wp_X10_seeks x1 I J Q) : AW l D cy sz RX10 cX10_seeks 4 (some .int) false rm_X10_seeks 0 0 (sw_qi G Q) 0 0 G I J 0 [(0, .ref (sz + 140)), (1, .int x1)] [] := by
  unfold wp_X10_seeks at h
  refine aw_aload_n 0 dX10_seeks_0 rfl rfl ?_
  refine aw_callV wv_X10_countsRides (M_X10_countsRides hG  h) ml_X10_322 rfl (by decide) (lk140 hG) rfl rfl (Nat.le_of_ble_eq_true rfl) ⟨rfl, rfl⟩ ⟨Nat.le_of_ble_eq_true rfl, Nat.le_of_ble_eq_true rfl⟩ ⟨Nat.le_refl _, Nat.le_refl _⟩ dX10_seeks_1 (aw_ki fun r_1 I_2 J_3 h => ?_)
  refine aw_zeq 10 dX10_seeks_4 (by decide) (fun c_4 => ?_) (fun c_4 => ?_)
  · have h := sw_if.t h c_4
    refine aw_aload_n 0 dX10_seeks_10 rfl rfl ?_
    refine aw_iload_n 1 dX10_seeks_11 rfl rfl ?_
    refine pf_X10_50 fl_X10_382 (lk140 hG) dX10_seeks_12 (aw_nameI fun I_5 e_6 => ?_)
    have h := h I_5 e_6
    refine aw_aload_n 0 dX10_seeks_15 rfl rfl ?_
    refine aw_callV wv_X10_findsFirst (M_X10_findsFirst hG  h) ml_X10_394 rfl (by decide) (lk140 hG) rfl rfl (Nat.le_of_ble_eq_true rfl) ⟨rfl, rfl⟩ ⟨Nat.le_of_ble_eq_true rfl, Nat.le_of_ble_eq_true rfl⟩ ⟨Nat.le_refl _, Nat.le_refl _⟩ dX10_seeks_16 (aw_kv fun I_8 J_9 h => ?_)
    refine aw_iconst (v := 0) dX10_seeks_19 (by decide) ?_
    refine aw_istore_n (lv' := [(2, .int 0), (0, .ref (sz + 140)), (1, .int x1)]) dX10_seeks_20 rfl (by decide) rfl ?_
    refine aw_iconst (v := 0) dX10_seeks_21 (by decide) ?_
    refine aw_istore_n (lv' := [(3, .int 0), (2, .int 0), (0, .ref (sz + 140)), (1, .int x1)]) dX10_seeks_22 rfl (by decide) rfl ?_
    refine aw_sub [2, 1, 0] rfl ?_
    obtain ⟨n_10, h⟩ := h
    exact tl_X10_seeks_23 hG   n_10 0 0 I_8 J_9 h
  · have h := sw_if.f h c_4
    refine aw_bipush (v := (-4)) dX10_seeks_7 (by decide) ?_
    exact aw_iret rfl dX10_seeks_9 ⟨rfl, _, rfl, h⟩
theorem M_X10_seeks {l : Launch} {D : va_G} {cy : Nat → ClassId} {sz : Nat} {G : sw_G} (hG : sw_lay G)   {Q : Int32 → sw_I → sw_J → Prop} {x1 : Int32} {I : sw_I} {J : sw_J} (h : wp_X10_seeks x1 I J Q) : Met l yX10_seeks (Cond.code yX10_seeks cX10_seeks 4 (some .int) :: sw_T) rm_X10_seeks (sw_Pc D cy sz [.ref (sz + 140), .int x1] G I J) (sw_Q D cy sz (sw_qi G Q)) 0 0 (fun q => sz ≤ q) :=
  sw_met (by decide) (fun q => by cases q) (Nat.le_of_ble_eq_true rfl) rfl (t_X10_seeks hG  h)
-- X10_all
abbrev rm_X10_all : Room := { frames := 8, cells := 0, slots := 0, locals := 186 }
def wp_X10_all  (I : sw_I) (J : sw_J) (Q : Int32 → sw_I → sw_J → Prop) : Prop :=
  ∀ I_1 : sw_I, I_1 = sw_up I 140 0 (0 : Int32) → wp_X10_seeks 0 I_1 J (fun r_3 I_4 J_5 => wp_X10_tellsWay r_3 I_4 J_5 (fun r_6 I_7 J_8 => Q r_6 I_7 J_8))
set_option maxRecDepth 20000 in
theorem t_X10_all {l : Launch} {D : va_G} {cy : Nat → ClassId} {sz : Nat} {G : sw_G} (hG : sw_lay G)   {Q : Int32 → sw_I → sw_J → Prop}  {I : sw_I} {J : sw_J} (h : wp_X10_all  I J Q) : AW l D cy sz RX10 cX10_all 1 (some .int) false rm_X10_all 0 0 (sw_qi G Q) 0 0 G I J 0 [(0, .ref (sz + 140))] [] := by
  unfold wp_X10_all at h
  refine aw_aload_n 0 dX10_all_0 rfl rfl ?_
  refine aw_iconst (v := 0) dX10_all_1 (by decide) ?_
  refine pf_X10_0 fl_X10_3 (lk140 hG) dX10_all_2 (aw_nameI fun I_1 e_2 => ?_)
  have h := h I_1 e_2
  refine aw_aload_n 0 dX10_all_5 rfl rfl ?_
  refine aw_aload_n 0 dX10_all_6 rfl rfl ?_
  refine aw_iconst (v := 0) dX10_all_7 (by decide) ?_
  refine aw_callV wv_X10_seeks (M_X10_seeks hG  h) ml_X10_406 rfl (by decide) (lk140 hG) rfl rfl (Nat.le_of_ble_eq_true rfl) ⟨rfl, rfl⟩ ⟨Nat.le_of_ble_eq_true rfl, Nat.le_of_ble_eq_true rfl⟩ ⟨Nat.le_refl _, Nat.le_refl _⟩ dX10_all_8 (aw_ki fun r_3 I_4 J_5 h => ?_)
  refine aw_callV wv_X10_tellsWay (M_X10_tellsWay hG  h) ml_X10_409 rfl (by decide) (lk140 hG) rfl rfl (Nat.le_of_ble_eq_true rfl) ⟨rfl, rfl⟩ ⟨Nat.le_of_ble_eq_true rfl, Nat.le_of_ble_eq_true rfl⟩ ⟨Nat.le_refl _, Nat.le_refl _⟩ dX10_all_11 (aw_ki fun r_6 I_7 J_8 h => ?_)
  exact aw_iret rfl dX10_all_14 ⟨rfl, _, rfl, h⟩
theorem M_X10_all {l : Launch} {D : va_G} {cy : Nat → ClassId} {sz : Nat} {G : sw_G} (hG : sw_lay G)   {Q : Int32 → sw_I → sw_J → Prop}  {I : sw_I} {J : sw_J} (h : wp_X10_all  I J Q) : Met l yX10_all (Cond.code yX10_all cX10_all 1 (some .int) :: sw_T) rm_X10_all (sw_Pc D cy sz [.ref (sz + 140)] G I J) (sw_Q D cy sz (sw_qi G Q)) 0 0 (fun q => sz ≤ q) :=
  sw_met (by decide) (fun q => by cases q) (Nat.le_of_ble_eq_true rfl) rfl (t_X10_all hG  h)
-- X10_one
abbrev rm_X10_one : Room := { frames := 8, cells := 0, slots := 0, locals := 186 }
def wp_X10_one (x1 : Int32) (I : sw_I) (J : sw_J) (Q : Int32 → sw_I → sw_J → Prop) : Prop :=
  ∀ I_1 : sw_I, I_1 = sw_up I 140 0 (0 : Int32) → wp_X10_isRider x1 I_1 J (fun r_3 I_4 J_5 => sw_if (r_3 = 0) (Q (-1 : Int32) I_4 J_5) (∀ I_7 : sw_I, I_7 = sw_up I_4 140 51 x1 → wp_X10_seeks 1 I_7 J_5 (fun r_9 I_10 J_11 => wp_X10_tellsWay r_9 I_10 J_11 (fun r_12 I_13 J_14 => Q r_12 I_13 J_14))))
set_option maxRecDepth 20000 in
theorem t_X10_one {l : Launch} {D : va_G} {cy : Nat → ClassId} {sz : Nat} {G : sw_G} (hG : sw_lay G)   {Q : Int32 → sw_I → sw_J → Prop} {x1 : Int32} {I : sw_I} {J : sw_J} (h : wp_X10_one x1 I J Q) : AW l D cy sz RX10 cX10_one 2 (some .int) false rm_X10_one 0 0 (sw_qi G Q) 0 0 G I J 0 [(0, .ref (sz + 140)), (1, .int x1)] [] := by
  unfold wp_X10_one at h
  refine aw_aload_n 0 dX10_one_0 rfl rfl ?_
  refine aw_iconst (v := 0) dX10_one_1 (by decide) ?_
  refine pf_X10_0 fl_X10_3 (lk140 hG) dX10_one_2 (aw_nameI fun I_1 e_2 => ?_)
  have h := h I_1 e_2
  refine aw_aload_n 0 dX10_one_5 rfl rfl ?_
  refine aw_iload_n 1 dX10_one_6 rfl rfl ?_
  refine aw_callV wv_X10_isRider (M_X10_isRider hG  h) ml_X10_226 rfl (by decide) (lk140 hG) rfl rfl (Nat.le_of_ble_eq_true rfl) ⟨rfl, rfl⟩ ⟨Nat.le_of_ble_eq_true rfl, Nat.le_of_ble_eq_true rfl⟩ ⟨Nat.le_refl _, Nat.le_refl _⟩ dX10_one_7 (aw_ki fun r_3 I_4 J_5 h => ?_)
  refine aw_zne 15 dX10_one_10 (by decide) (fun c_6 => ?_) (fun c_6 => ?_)
  · have h := sw_if.f h c_6
    refine aw_aload_n 0 dX10_one_15 rfl rfl ?_
    refine aw_iload_n 1 dX10_one_16 rfl rfl ?_
    refine pf_X10_51 fl_X10_388 (lk140 hG) dX10_one_17 (aw_nameI fun I_7 e_8 => ?_)
    have h := h I_7 e_8
    refine aw_aload_n 0 dX10_one_20 rfl rfl ?_
    refine aw_aload_n 0 dX10_one_21 rfl rfl ?_
    refine aw_iconst (v := 1) dX10_one_22 (by decide) ?_
    refine aw_callV wv_X10_seeks (M_X10_seeks hG  h) ml_X10_406 rfl (by decide) (lk140 hG) rfl rfl (Nat.le_of_ble_eq_true rfl) ⟨rfl, rfl⟩ ⟨Nat.le_of_ble_eq_true rfl, Nat.le_of_ble_eq_true rfl⟩ ⟨Nat.le_refl _, Nat.le_refl _⟩ dX10_one_23 (aw_ki fun r_9 I_10 J_11 h => ?_)
    refine aw_callV wv_X10_tellsWay (M_X10_tellsWay hG  h) ml_X10_409 rfl (by decide) (lk140 hG) rfl rfl (Nat.le_of_ble_eq_true rfl) ⟨rfl, rfl⟩ ⟨Nat.le_of_ble_eq_true rfl, Nat.le_of_ble_eq_true rfl⟩ ⟨Nat.le_refl _, Nat.le_refl _⟩ dX10_one_26 (aw_ki fun r_12 I_13 J_14 h => ?_)
    exact aw_iret rfl dX10_one_29 ⟨rfl, _, rfl, h⟩
  · have h := sw_if.t h c_6
    refine aw_iconst (v := (-1)) dX10_one_13 (by decide) ?_
    exact aw_iret rfl dX10_one_14 ⟨rfl, _, rfl, h⟩
theorem M_X10_one {l : Launch} {D : va_G} {cy : Nat → ClassId} {sz : Nat} {G : sw_G} (hG : sw_lay G)   {Q : Int32 → sw_I → sw_J → Prop} {x1 : Int32} {I : sw_I} {J : sw_J} (h : wp_X10_one x1 I J Q) : Met l yX10_one (Cond.code yX10_one cX10_one 2 (some .int) :: sw_T) rm_X10_one (sw_Pc D cy sz [.ref (sz + 140), .int x1] G I J) (sw_Q D cy sz (sw_qi G Q)) 0 0 (fun q => sz ≤ q) :=
  sw_met (by decide) (fun q => by cases q) (Nat.le_of_ble_eq_true rfl) rfl (t_X10_one hG  h)
-- X10_gather
abbrev rm_X10_gather : Room := { frames := 8, cells := 0, slots := 0, locals := 186 }
def wp_X10_gather (x1 : Int32) (x2 : Int32) (I : sw_I) (J : sw_J) (Q : Int32 → sw_I → sw_J → Prop) : Prop :=
  ∀ I_1 : sw_I, I_1 = sw_up I 140 0 (0 : Int32) → wp_X10_isFloor x1 I_1 J (fun r_3 I_4 J_5 => sw_if (r_3 = 0) (Q (-1 : Int32) I_4 J_5) (wp_X10_in x2.toInt64 0 ((((1 : Int32) <<< ((I_4 140 4) &&& 31)) - (1 : Int32)).toInt64) I_4 J_5 (fun r_7 I_8 J_9 => sw_if (r_7 = 0) (Q (-1 : Int32) I_8 J_9) (∀ I_11 : sw_I, I_11 = sw_up I_8 140 52 x1 → ∀ I_13 : sw_I, I_13 = sw_up I_11 140 51 x2 → wp_X10_seeks 2 I_13 J_9 (fun r_15 I_16 J_17 => sw_if (r_15 < 0) (Q r_15 I_16 J_17) (vp_in r_15 3000 ∧ Q (I_16 164 r_15.toNatClampNeg) I_16 J_17))))))
set_option maxRecDepth 20000 in
theorem t_X10_gather {l : Launch} {D : va_G} {cy : Nat → ClassId} {sz : Nat} {G : sw_G} (hG : sw_lay G)   {Q : Int32 → sw_I → sw_J → Prop} {x1 : Int32} {x2 : Int32} {I : sw_I} {J : sw_J} (h : wp_X10_gather x1 x2 I J Q) : AW l D cy sz RX10 cX10_gather 4 (some .int) false rm_X10_gather 0 0 (sw_qi G Q) 0 0 G I J 0 [(0, .ref (sz + 140)), (1, .int x1), (2, .int x2)] [] := by
  unfold wp_X10_gather at h
  refine aw_aload_n 0 dX10_gather_0 rfl rfl ?_
  refine aw_iconst (v := 0) dX10_gather_1 (by decide) ?_
  refine pf_X10_0 fl_X10_3 (lk140 hG) dX10_gather_2 (aw_nameI fun I_1 e_2 => ?_)
  have h := h I_1 e_2
  refine aw_aload_n 0 dX10_gather_5 rfl rfl ?_
  refine aw_iload_n 1 dX10_gather_6 rfl rfl ?_
  refine aw_callV wv_X10_isFloor (M_X10_isFloor hG  h) ml_X10_95 rfl (by decide) (lk140 hG) rfl rfl (Nat.le_of_ble_eq_true rfl) ⟨rfl, rfl⟩ ⟨Nat.le_of_ble_eq_true rfl, Nat.le_of_ble_eq_true rfl⟩ ⟨Nat.le_refl _, Nat.le_refl _⟩ dX10_gather_7 (aw_ki fun r_3 I_4 J_5 h => ?_)
  refine aw_zeq 31 dX10_gather_10 (by decide) (fun c_6 => ?_) (fun c_6 => ?_)
  · have h := sw_if.t h c_6
    refine aw_iconst (v := (-1)) dX10_gather_31 (by decide) ?_
    exact aw_iret rfl dX10_gather_32 ⟨rfl, _, rfl, h⟩
  · have h := sw_if.f h c_6
    refine aw_iload_n 2 dX10_gather_13 rfl rfl ?_
    refine aw_i2l dX10_gather_14 ?_
    refine aw_lconst (v := 0) dX10_gather_15 (by decide) ?_
    refine aw_iconst (v := 1) dX10_gather_16 (by decide) ?_
    refine aw_aload_n 0 dX10_gather_17 rfl rfl ?_
    refine gf_X10_4 fl_X10_29 (lk140 hG) dX10_gather_18 ?_
    refine aw_ishl dX10_gather_21 ?_
    refine aw_iconst (v := 1) dX10_gather_22 (by decide) ?_
    refine aw_isub dX10_gather_23 ?_
    refine aw_i2l dX10_gather_24 ?_
    refine aw_callS wv_X10_in (M_X10_in trivial  h) ml_X10_25 rfl rfl (Nat.le_of_ble_eq_true rfl) ⟨rfl, rfl⟩ ⟨Nat.le_of_ble_eq_true rfl, Nat.le_of_ble_eq_true rfl⟩ ⟨Nat.le_refl _, Nat.le_refl _⟩ dX10_gather_25 (aw_ki fun r_7 I_8 J_9 h => ?_)
    refine aw_zne 33 dX10_gather_28 (by decide) (fun c_10 => ?_) (fun c_10 => ?_)
    · have h := sw_if.f h c_10
      refine aw_aload_n 0 dX10_gather_33 rfl rfl ?_
      refine aw_iload_n 1 dX10_gather_34 rfl rfl ?_
      refine pf_X10_52 fl_X10_385 (lk140 hG) dX10_gather_35 (aw_nameI fun I_11 e_12 => ?_)
      have h := h I_11 e_12
      refine aw_aload_n 0 dX10_gather_38 rfl rfl ?_
      refine aw_iload_n 2 dX10_gather_39 rfl rfl ?_
      refine pf_X10_51 fl_X10_388 (lk140 hG) dX10_gather_40 (aw_nameI fun I_13 e_14 => ?_)
      have h := h I_13 e_14
      refine aw_aload_n 0 dX10_gather_43 rfl rfl ?_
      refine aw_iconst (v := 2) dX10_gather_44 (by decide) ?_
      refine aw_callV wv_X10_seeks (M_X10_seeks hG  h) ml_X10_406 rfl (by decide) (lk140 hG) rfl rfl (Nat.le_of_ble_eq_true rfl) ⟨rfl, rfl⟩ ⟨Nat.le_of_ble_eq_true rfl, Nat.le_of_ble_eq_true rfl⟩ ⟨Nat.le_refl _, Nat.le_refl _⟩ dX10_gather_45 (aw_ki fun r_15 I_16 J_17 h => ?_)
      refine aw_istore_n (lv' := [(3, .int r_15), (0, .ref (sz + 140)), (1, .int x1), (2, .int x2)]) dX10_gather_48 rfl (by decide) rfl ?_
      refine aw_iload_n 0 dX10_gather_49 rfl rfl ?_
      refine aw_zge 57 dX10_gather_50 (by decide) (fun c_18 => ?_) (fun c_18 => ?_)
      · have h := sw_if.f h c_18
        refine aw_aload_n 1 dX10_gather_57 rfl rfl ?_
        refine gf_X10_46 fl_X10_372 (lk140 hG) (lr140_46 hG) dX10_gather_58 ?_
        refine aw_iload_n 0 dX10_gather_61 rfl rfl ?_
        obtain ⟨hi_19, h⟩ := h
        refine aw_ild dX10_gather_62 (lk164 hG) (ln164 hG) hi_19 ?_
        exact aw_iret rfl dX10_gather_63 ⟨rfl, _, rfl, h⟩
      · have h := sw_if.t h c_18
        refine aw_iload_n 0 dX10_gather_53 rfl rfl ?_
        refine aw_goto 63 dX10_gather_54 (by decide) ?_
        exact aw_iret rfl dX10_gather_63 ⟨rfl, _, rfl, h⟩
    · have h := sw_if.t h c_10
      refine aw_iconst (v := (-1)) dX10_gather_31 (by decide) ?_
      exact aw_iret rfl dX10_gather_32 ⟨rfl, _, rfl, h⟩
theorem M_X10_gather {l : Launch} {D : va_G} {cy : Nat → ClassId} {sz : Nat} {G : sw_G} (hG : sw_lay G)   {Q : Int32 → sw_I → sw_J → Prop} {x1 : Int32} {x2 : Int32} {I : sw_I} {J : sw_J} (h : wp_X10_gather x1 x2 I J Q) : Met l yX10_gather (Cond.code yX10_gather cX10_gather 4 (some .int) :: sw_T) rm_X10_gather (sw_Pc D cy sz [.ref (sz + 140), .int x1, .int x2] G I J) (sw_Q D cy sz (sw_qi G Q)) 0 0 (fun q => sz ≤ q) :=
  sw_met (by decide) (fun q => by cases q) (Nat.le_of_ble_eq_true rfl) rfl (t_X10_gather hG  h)
-- X10_findsAll
abbrev rm_X10_findsAll : Room := { frames := 7, cells := 0, slots := 0, locals := 163 }
def wB_X10_findsAll_52   (Q : Int32 → sw_I → sw_J → Prop)  (I : sw_I) (J : sw_J) : Prop :=
  sw_if ((I 140 49) = 0) (Q (I 140 48) I J) (Q (-3 : Int32) I J)
def wB_X10_findsAll_46  (K16 : Int32 → Int32 → sw_I → sw_J → Prop) (Q : Int32 → sw_I → sw_J → Prop) (x1 : Int32) (x2 : Int32) (I : sw_I) (J : sw_J) : Prop :=
  ∀ y_1 : Int32, y_1 = x2 + 1 → K16 x1 y_1 I J
def wb_X10_findsAll_16  (K16 : Int32 → Int32 → sw_I → sw_J → Prop) (Q : Int32 → sw_I → sw_J → Prop) (x1 : Int32) (x2 : Int32) (I : sw_I) (J : sw_J) : Prop :=
  sw_if (x2 < (I 140 48)) (sw_if ((I 140 49) = 0) (vp_in x2 3000 ∧ sw_if ((I 164 x2.toNatClampNeg) < x1) (wp_X10_findsFrom x2 I J (fun I_6 J_7 => wB_X10_findsAll_46  K16 Q x1 x2 I_6 J_7)) (wB_X10_findsAll_46  K16 Q x1 x2 I J)) (wB_X10_findsAll_52   Q  I J)) (wB_X10_findsAll_52   Q  I J)
def wl_X10_findsAll_16   (Q : Int32 → sw_I → sw_J → Prop) : Nat → Int32 → Int32 → sw_I → sw_J → Prop
  | 0 => fun _ _ _ _ => False
  | n + 1 => fun x1 x2 I J => wb_X10_findsAll_16  (wl_X10_findsAll_16   Q n) Q x1 x2 I J
def wp_X10_findsAll (x1 : Int32) (I : sw_I) (J : sw_J) (Q : Int32 → sw_I → sw_J → Prop) : Prop :=
  wp_X10_countsRides  I J (fun r_1 I_2 J_3 => sw_if (r_1 = 0) (wp_X10_findsFirst  I_2 J_3 (fun I_6 J_7 => ∃ n_8 : Nat, wl_X10_findsAll_16   Q n_8 x1 0 I_6 J_7)) (Q (-4 : Int32) I_2 J_3))
set_option maxRecDepth 20000 in
theorem t_X10_findsAll_52 {l : Launch} {D : va_G} {cy : Nat → ClassId} {sz : Nat} {G : sw_G} (hG : sw_lay G)   {Q : Int32 → sw_I → sw_J → Prop}  {I : sw_I} {J : sw_J} (h : wB_X10_findsAll_52   Q  I J) : AW l D cy sz RX10 cX10_findsAll 3 (some .int) false rm_X10_findsAll 0 0 (sw_qi G Q) 0 0 G I J 52 [(0, .ref (sz + 140))] [] := by
  unfold wB_X10_findsAll_52 at h
  refine aw_aload_n 0 dX10_findsAll_52 rfl rfl ?_
  refine gf_X10_49 fl_X10_362 (lk140 hG) dX10_findsAll_53 ?_
  refine aw_zeq 64 dX10_findsAll_56 (by decide) (fun c_1 => ?_) (fun c_1 => ?_)
  · have h := sw_if.t h c_1
    refine aw_aload_n 0 dX10_findsAll_64 rfl rfl ?_
    refine gf_X10_48 fl_X10_359 (lk140 hG) dX10_findsAll_65 ?_
    exact aw_iret rfl dX10_findsAll_68 ⟨rfl, _, rfl, h⟩
  · have h := sw_if.f h c_1
    refine aw_bipush (v := (-3)) dX10_findsAll_59 (by decide) ?_
    refine aw_goto 68 dX10_findsAll_61 (by decide) ?_
    exact aw_iret rfl dX10_findsAll_68 ⟨rfl, _, rfl, h⟩
set_option maxRecDepth 20000 in
theorem t_X10_findsAll_46 {l : Launch} {D : va_G} {cy : Nat → ClassId} {sz : Nat} {G : sw_G} (hG : sw_lay G)   {Q : Int32 → sw_I → sw_J → Prop} {K16 : Int32 → Int32 → sw_I → sw_J → Prop} (hK16 : ∀ (x1 : Int32) (x2 : Int32) (I : sw_I) (J : sw_J), K16 x1 x2 I J → AW l D cy sz RX10 cX10_findsAll 3 (some .int) false rm_X10_findsAll 0 0 (sw_qi G Q) 0 0 G I J 16 [(0, .ref (sz + 140)), (1, .int x1), (2, .int x2)] []) {x1 : Int32} {x2 : Int32} {I : sw_I} {J : sw_J} (h : wB_X10_findsAll_46  K16 Q x1 x2 I J) : AW l D cy sz RX10 cX10_findsAll 3 (some .int) false rm_X10_findsAll 0 0 (sw_qi G Q) 0 0 G I J 46 [(0, .ref (sz + 140)), (1, .int x1), (2, .int x2)] [] := by
  unfold wB_X10_findsAll_46 at h
  obtain ⟨y_1, e_2⟩ : ∃ q : Int32, q = x2 + 1 := ⟨_, rfl⟩
  have h := h y_1 e_2
  refine aw_iinc (lv' := [(2, .int y_1), (0, .ref (sz + 140)), (1, .int x1)]) 2 dX10_findsAll_46 rfl (by rw [e_2]; rfl) (by decide) rfl ?_
  refine aw_goto 16 dX10_findsAll_49 (by decide) ?_
  refine aw_sub [1, 2, 0] rfl ?_
  exact hK16 x1 y_1 I J h
set_option maxRecDepth 20000 in
theorem tb_X10_findsAll_16 {l : Launch} {D : va_G} {cy : Nat → ClassId} {sz : Nat} {G : sw_G} (hG : sw_lay G)   {Q : Int32 → sw_I → sw_J → Prop} {K16 : Int32 → Int32 → sw_I → sw_J → Prop} (hK16 : ∀ (x1 : Int32) (x2 : Int32) (I : sw_I) (J : sw_J), K16 x1 x2 I J → AW l D cy sz RX10 cX10_findsAll 3 (some .int) false rm_X10_findsAll 0 0 (sw_qi G Q) 0 0 G I J 16 [(0, .ref (sz + 140)), (1, .int x1), (2, .int x2)] []) {x1 : Int32} {x2 : Int32} {I : sw_I} {J : sw_J} (h : wb_X10_findsAll_16  K16 Q x1 x2 I J) : AW l D cy sz RX10 cX10_findsAll 3 (some .int) false rm_X10_findsAll 0 0 (sw_qi G Q) 0 0 G I J 16 [(0, .ref (sz + 140)), (1, .int x1), (2, .int x2)] [] := by
  unfold wb_X10_findsAll_16 at h
  refine aw_iload_n 2 dX10_findsAll_16 rfl rfl ?_
  refine aw_aload_n 0 dX10_findsAll_17 rfl rfl ?_
  refine gf_X10_48 fl_X10_359 (lk140 hG) dX10_findsAll_18 ?_
  refine aw_jge 52 dX10_findsAll_21 (by decide) (fun c_1 => ?_) (fun c_1 => ?_)
  · have h := sw_if.f h c_1
    refine aw_sub [0] rfl ?_
    exact t_X10_findsAll_52 hG   h
  · have h := sw_if.t h c_1
    refine aw_aload_n 0 dX10_findsAll_24 rfl rfl ?_
    refine gf_X10_49 fl_X10_362 (lk140 hG) dX10_findsAll_25 ?_
    refine aw_zne 52 dX10_findsAll_28 (by decide) (fun c_2 => ?_) (fun c_2 => ?_)
    · have h := sw_if.f h c_2
      refine aw_sub [0] rfl ?_
      exact t_X10_findsAll_52 hG   h
    · have h := sw_if.t h c_2
      refine aw_aload_n 0 dX10_findsAll_31 rfl rfl ?_
      refine gf_X10_46 fl_X10_372 (lk140 hG) (lr140_46 hG) dX10_findsAll_32 ?_
      refine aw_iload_n 2 dX10_findsAll_35 rfl rfl ?_
      obtain ⟨hi_3, h⟩ := h
      refine aw_ild dX10_findsAll_36 (lk164 hG) (ln164 hG) hi_3 ?_
      refine aw_iload_n 1 dX10_findsAll_37 rfl rfl ?_
      refine aw_jge 46 dX10_findsAll_38 (by decide) (fun c_4 => ?_) (fun c_4 => ?_)
      · have h := sw_if.f h c_4
        refine aw_sub [0, 1, 2] rfl ?_
        exact t_X10_findsAll_46 hG  hK16 h
      · have h := sw_if.t h c_4
        refine aw_aload_n 0 dX10_findsAll_41 rfl rfl ?_
        refine aw_iload_n 2 dX10_findsAll_42 rfl rfl ?_
        refine aw_callV wv_X10_findsFrom (M_X10_findsFrom hG  h) ml_X10_400 rfl (by decide) (lk140 hG) rfl rfl (Nat.le_of_ble_eq_true rfl) ⟨rfl, rfl⟩ ⟨Nat.le_of_ble_eq_true rfl, Nat.le_of_ble_eq_true rfl⟩ ⟨Nat.le_refl _, Nat.le_refl _⟩ dX10_findsAll_43 (aw_kv fun I_6 J_7 h => ?_)
        refine aw_sub [0, 1, 2] rfl ?_
        exact t_X10_findsAll_46 hG  hK16 h
set_option maxRecDepth 20000 in
theorem tl_X10_findsAll_16 {l : Launch} {D : va_G} {cy : Nat → ClassId} {sz : Nat} {G : sw_G} (hG : sw_lay G)   {Q : Int32 → sw_I → sw_J → Prop} : ∀ (n : Nat) (x1 : Int32) (x2 : Int32) (I : sw_I) (J : sw_J), wl_X10_findsAll_16   Q n x1 x2 I J → AW l D cy sz RX10 cX10_findsAll 3 (some .int) false rm_X10_findsAll 0 0 (sw_qi G Q) 0 0 G I J 16 [(0, .ref (sz + 140)), (1, .int x1), (2, .int x2)] [] := by
  intro n
  induction n with
  | zero => intro x1 x2 I J h; exact False.elim h
  | succ n ih => intro x1 x2 I J h; exact tb_X10_findsAll_16 hG  ih h
set_option maxRecDepth 20000 in
theorem t_X10_findsAll {l : Launch} {D : va_G} {cy : Nat → ClassId} {sz : Nat} {G : sw_G} (hG : sw_lay G)   {Q : Int32 → sw_I → sw_J → Prop} {x1 : Int32} {I : sw_I} {J : sw_J} (h : wp_X10_findsAll x1 I J Q) : AW l D cy sz RX10 cX10_findsAll 3 (some .int) false rm_X10_findsAll 0 0 (sw_qi G Q) 0 0 G I J 0 [(0, .ref (sz + 140)), (1, .int x1)] [] := by
  unfold wp_X10_findsAll at h
  refine aw_aload_n 0 dX10_findsAll_0 rfl rfl ?_
  refine aw_callV wv_X10_countsRides (M_X10_countsRides hG  h) ml_X10_322 rfl (by decide) (lk140 hG) rfl rfl (Nat.le_of_ble_eq_true rfl) ⟨rfl, rfl⟩ ⟨Nat.le_of_ble_eq_true rfl, Nat.le_of_ble_eq_true rfl⟩ ⟨Nat.le_refl _, Nat.le_refl _⟩ dX10_findsAll_1 (aw_ki fun r_1 I_2 J_3 h => ?_)
  refine aw_zeq 10 dX10_findsAll_4 (by decide) (fun c_4 => ?_) (fun c_4 => ?_)
  · have h := sw_if.t h c_4
    refine aw_aload_n 0 dX10_findsAll_10 rfl rfl ?_
    refine aw_callV wv_X10_findsFirst (M_X10_findsFirst hG  h) ml_X10_394 rfl (by decide) (lk140 hG) rfl rfl (Nat.le_of_ble_eq_true rfl) ⟨rfl, rfl⟩ ⟨Nat.le_of_ble_eq_true rfl, Nat.le_of_ble_eq_true rfl⟩ ⟨Nat.le_refl _, Nat.le_refl _⟩ dX10_findsAll_11 (aw_kv fun I_6 J_7 h => ?_)
    refine aw_iconst (v := 0) dX10_findsAll_14 (by decide) ?_
    refine aw_istore_n (lv' := [(2, .int 0), (0, .ref (sz + 140)), (1, .int x1)]) dX10_findsAll_15 rfl (by decide) rfl ?_
    refine aw_sub [1, 2, 0] rfl ?_
    obtain ⟨n_8, h⟩ := h
    exact tl_X10_findsAll_16 hG   n_8 x1 0 I_6 J_7 h
  · have h := sw_if.f h c_4
    refine aw_bipush (v := (-4)) dX10_findsAll_7 (by decide) ?_
    exact aw_iret rfl dX10_findsAll_9 ⟨rfl, _, rfl, h⟩
theorem M_X10_findsAll {l : Launch} {D : va_G} {cy : Nat → ClassId} {sz : Nat} {G : sw_G} (hG : sw_lay G)   {Q : Int32 → sw_I → sw_J → Prop} {x1 : Int32} {I : sw_I} {J : sw_J} (h : wp_X10_findsAll x1 I J Q) : Met l yX10_findsAll (Cond.code yX10_findsAll cX10_findsAll 3 (some .int) :: sw_T) rm_X10_findsAll (sw_Pc D cy sz [.ref (sz + 140), .int x1] G I J) (sw_Q D cy sz (sw_qi G Q)) 0 0 (fun q => sz ≤ q) :=
  sw_met (by decide) (fun q => by cases q) (Nat.le_of_ble_eq_true rfl) rfl (t_X10_findsAll hG  h)
-- X10_states
abbrev rm_X10_states : Room := { frames := 8, cells := 0, slots := 0, locals := 185 }
def wb_X10_states_39  (K39 : Int32 → Int32 → Int32 → Int32 → sw_I → sw_J → Prop) (Q : Int32 → sw_I → sw_J → Prop) (x2 : Int32) (x3 : Int32) (x4 : Int32) (x5 : Int32) (I : sw_I) (J : sw_J) : Prop :=
  sw_if (x5 < (I 140 48)) (wp_X10_unpacks x5 I J (fun I_11 J_12 => wp_X10_homeBits 145 33 I_11 J_12 (fun r_13 I_14 J_15 => ∀ y_16 : Int32, y_16 = x3 ||| r_13 → ∀ y_19 : Int32, y_19 = x4 ||| ((1 : Int32) <<< ((I_14 145 (31 : Int32).toNatClampNeg) &&& 31)) → ∀ y_21 : Int32, y_21 = x5 + 1 → K39 x2 y_16 y_19 y_21 I_14 J_15))) (∀ I_2 : sw_I, I_2 = sw_up I 140 1 (0 : Int32) → wp_X10_enters x3.toInt64 I_2 J (fun I_5 J_6 => wp_X10_enters x4.toInt64 I_5 J_6 (fun I_8 J_9 => Q x2 I_8 J_9)))
def wl_X10_states_39   (Q : Int32 → sw_I → sw_J → Prop) : Nat → Int32 → Int32 → Int32 → Int32 → sw_I → sw_J → Prop
  | 0 => fun _ _ _ _ _ _ => False
  | n + 1 => fun x2 x3 x4 x5 I J => wb_X10_states_39  (wl_X10_states_39   Q n) Q x2 x3 x4 x5 I J
def wp_X10_states (x1 : Int32) (I : sw_I) (J : sw_J) (Q : Int32 → sw_I → sw_J → Prop) : Prop :=
  ∀ I_1 : sw_I, I_1 = sw_up I 140 0 (0 : Int32) → wp_X10_in x1.toInt64 0 6 I_1 J (fun r_3 I_4 J_5 => sw_if (r_3 = 0) (Q (-1 : Int32) I_4 J_5) (wp_X10_findsAll x1 I_4 J_5 (fun r_7 I_8 J_9 => sw_if (r_7 < 0) (Q r_7 I_8 J_9) (∃ n_11 : Nat, wl_X10_states_39   Q n_11 r_7 0 0 0 I_8 J_9))))
set_option maxRecDepth 20000 in
theorem tb_X10_states_39 {l : Launch} {D : va_G} {cy : Nat → ClassId} {sz : Nat} {G : sw_G} (hG : sw_lay G)   {Q : Int32 → sw_I → sw_J → Prop} {K39 : Int32 → Int32 → Int32 → Int32 → sw_I → sw_J → Prop} (hK39 : ∀ (x2 : Int32) (x3 : Int32) (x4 : Int32) (x5 : Int32) (I : sw_I) (J : sw_J), K39 x2 x3 x4 x5 I J → AW l D cy sz RX10 cX10_states 6 (some .int) false rm_X10_states 0 0 (sw_qi G Q) 0 0 G I J 39 [(0, .ref (sz + 140)), (2, .int x2), (3, .int x3), (4, .int x4), (5, .int x5)] []) {x2 : Int32} {x3 : Int32} {x4 : Int32} {x5 : Int32} {I : sw_I} {J : sw_J} (h : wb_X10_states_39  K39 Q x2 x3 x4 x5 I J) : AW l D cy sz RX10 cX10_states 6 (some .int) false rm_X10_states 0 0 (sw_qi G Q) 0 0 G I J 39 [(0, .ref (sz + 140)), (2, .int x2), (3, .int x3), (4, .int x4), (5, .int x5)] [] := by
  unfold wb_X10_states_39 at h
  refine aw_iload 4 dX10_states_39 rfl ?_
  refine aw_aload_n 0 dX10_states_41 rfl rfl ?_
  refine gf_X10_48 fl_X10_359 (lk140 hG) dX10_states_42 ?_
  refine aw_jge 85 dX10_states_45 (by decide) (fun c_1 => ?_) (fun c_1 => ?_)
  · have h := sw_if.f h c_1
    refine aw_aload_n 0 dX10_states_85 rfl rfl ?_
    refine aw_iconst (v := 0) dX10_states_86 (by decide) ?_
    refine pf_X10_1 fl_X10_15 (lk140 hG) dX10_states_87 (aw_nameI fun I_2 e_3 => ?_)
    have h := h I_2 e_3
    refine aw_aload_n 0 dX10_states_90 rfl rfl ?_
    refine aw_iload_n 2 dX10_states_91 rfl rfl ?_
    refine aw_i2l dX10_states_92 ?_
    refine aw_callV wv_X10_enters (M_X10_enters hG  h) ml_X10_18 rfl (by decide) (lk140 hG) rfl rfl (Nat.le_of_ble_eq_true rfl) ⟨rfl, rfl⟩ ⟨Nat.le_of_ble_eq_true rfl, Nat.le_of_ble_eq_true rfl⟩ ⟨Nat.le_refl _, Nat.le_refl _⟩ dX10_states_93 (aw_kv fun I_5 J_6 h => ?_)
    refine aw_aload_n 0 dX10_states_96 rfl rfl ?_
    refine aw_iload 3 dX10_states_97 rfl ?_
    refine aw_i2l dX10_states_99 ?_
    refine aw_callV wv_X10_enters (M_X10_enters hG  h) ml_X10_18 rfl (by decide) (lk140 hG) rfl rfl (Nat.le_of_ble_eq_true rfl) ⟨rfl, rfl⟩ ⟨Nat.le_of_ble_eq_true rfl, Nat.le_of_ble_eq_true rfl⟩ ⟨Nat.le_refl _, Nat.le_refl _⟩ dX10_states_100 (aw_kv fun I_8 J_9 h => ?_)
    refine aw_iload_n 1 dX10_states_103 rfl rfl ?_
    exact aw_iret rfl dX10_states_104 ⟨rfl, _, rfl, h⟩
  · have h := sw_if.t h c_1
    refine aw_aload_n 0 dX10_states_48 rfl rfl ?_
    refine aw_iload 4 dX10_states_49 rfl ?_
    refine aw_callV wv_X10_unpacks (M_X10_unpacks hG  h) ml_X10_379 rfl (by decide) (lk140 hG) rfl rfl (Nat.le_of_ble_eq_true rfl) ⟨rfl, rfl⟩ ⟨Nat.le_of_ble_eq_true rfl, Nat.le_of_ble_eq_true rfl⟩ ⟨Nat.le_refl _, Nat.le_refl _⟩ dX10_states_51 (aw_kv fun I_11 J_12 h => ?_)
    refine aw_iload_n 2 dX10_states_54 rfl rfl ?_
    refine aw_aload_n 0 dX10_states_55 rfl rfl ?_
    refine aw_aload_n 0 dX10_states_56 rfl rfl ?_
    refine gf_X10_10 fl_X10_313 (lk140 hG) (lr140_10 hG) dX10_states_57 ?_
    refine aw_callV wv_X10_homeBits (M_X10_homeBits hG ⟨(lk145 hG), (ln145 hG)⟩ h) ml_X10_391 rfl (by decide) (lk140 hG) rfl rfl (Nat.le_of_ble_eq_true rfl) ⟨rfl, rfl⟩ ⟨Nat.le_of_ble_eq_true rfl, Nat.le_of_ble_eq_true rfl⟩ ⟨Nat.le_refl _, Nat.le_refl _⟩ dX10_states_60 (aw_ki fun r_13 I_14 J_15 h => ?_)
    refine aw_ior dX10_states_63 ?_
    refine aw_topi (fun y_16 e_17 => ?_)
    have h := h y_16 e_17
    refine aw_istore_n (lv' := [(3, .int y_16), (0, .ref (sz + 140)), (2, .int x2), (4, .int x4), (5, .int x5)]) dX10_states_64 rfl (by decide) rfl ?_
    refine aw_iload 3 dX10_states_65 rfl ?_
    refine aw_iconst (v := 1) dX10_states_67 (by decide) ?_
    refine aw_aload_n 1 dX10_states_68 rfl rfl ?_
    refine gf_X10_10 fl_X10_313 (lk140 hG) (lr140_10 hG) dX10_states_69 ?_
    refine aw_bipush (v := 31) dX10_states_72 (by decide) ?_
    refine aw_ild dX10_states_74 (lk145 hG) (ln145 hG) (by unfold vp_in; decide) ?_
    refine aw_ishl dX10_states_75 ?_
    refine aw_ior dX10_states_76 ?_
    refine aw_topi (fun y_19 e_20 => ?_)
    have h := h y_19 e_20
    refine aw_istore (lv' := [(4, .int y_19), (3, .int y_16), (0, .ref (sz + 140)), (2, .int x2), (5, .int x5)]) dX10_states_77 (by decide) rfl ?_
    obtain ⟨y_21, e_22⟩ : ∃ q : Int32, q = x5 + 1 := ⟨_, rfl⟩
    have h := h y_21 e_22
    refine aw_iinc (lv' := [(5, .int y_21), (4, .int y_19), (3, .int y_16), (0, .ref (sz + 140)), (2, .int x2)]) 4 dX10_states_79 rfl (by rw [e_22]; rfl) (by decide) rfl ?_
    refine aw_goto 39 dX10_states_82 (by decide) ?_
    refine aw_sub [3, 4, 2, 1, 0] rfl ?_
    exact hK39 x2 y_16 y_19 y_21 I_14 J_15 h
set_option maxRecDepth 20000 in
theorem tl_X10_states_39 {l : Launch} {D : va_G} {cy : Nat → ClassId} {sz : Nat} {G : sw_G} (hG : sw_lay G)   {Q : Int32 → sw_I → sw_J → Prop} : ∀ (n : Nat) (x2 : Int32) (x3 : Int32) (x4 : Int32) (x5 : Int32) (I : sw_I) (J : sw_J), wl_X10_states_39   Q n x2 x3 x4 x5 I J → AW l D cy sz RX10 cX10_states 6 (some .int) false rm_X10_states 0 0 (sw_qi G Q) 0 0 G I J 39 [(0, .ref (sz + 140)), (2, .int x2), (3, .int x3), (4, .int x4), (5, .int x5)] [] := by
  intro n
  induction n with
  | zero => intro x2 x3 x4 x5 I J h; exact False.elim h
  | succ n ih => intro x2 x3 x4 x5 I J h; exact tb_X10_states_39 hG  ih h
set_option maxRecDepth 20000 in
theorem t_X10_states {l : Launch} {D : va_G} {cy : Nat → ClassId} {sz : Nat} {G : sw_G} (hG : sw_lay G)   {Q : Int32 → sw_I → sw_J → Prop} {x1 : Int32} {I : sw_I} {J : sw_J} (h : wp_X10_states x1 I J Q) : AW l D cy sz RX10 cX10_states 6 (some .int) false rm_X10_states 0 0 (sw_qi G Q) 0 0 G I J 0 [(0, .ref (sz + 140)), (1, .int x1)] [] := by
  unfold wp_X10_states at h
  refine aw_aload_n 0 dX10_states_0 rfl rfl ?_
  refine aw_iconst (v := 0) dX10_states_1 (by decide) ?_
  refine pf_X10_0 fl_X10_3 (lk140 hG) dX10_states_2 (aw_nameI fun I_1 e_2 => ?_)
  have h := h I_1 e_2
  refine aw_iload_n 1 dX10_states_5 rfl rfl ?_
  refine aw_i2l dX10_states_6 ?_
  refine aw_lconst (v := 0) dX10_states_7 (by decide) ?_
  refine aw_ldc2 (v := 6) dX10_states_8 k_X10_412 ?_
  refine aw_callS wv_X10_in (M_X10_in trivial  h) ml_X10_25 rfl rfl (Nat.le_of_ble_eq_true rfl) ⟨rfl, rfl⟩ ⟨Nat.le_of_ble_eq_true rfl, Nat.le_of_ble_eq_true rfl⟩ ⟨Nat.le_refl _, Nat.le_refl _⟩ dX10_states_11 (aw_ki fun r_3 I_4 J_5 h => ?_)
  refine aw_zne 19 dX10_states_14 (by decide) (fun c_6 => ?_) (fun c_6 => ?_)
  · have h := sw_if.f h c_6
    refine aw_aload_n 0 dX10_states_19 rfl rfl ?_
    refine aw_iload_n 1 dX10_states_20 rfl rfl ?_
    refine aw_callV wv_X10_findsAll (M_X10_findsAll hG  h) ml_X10_414 rfl (by decide) (lk140 hG) rfl rfl (Nat.le_of_ble_eq_true rfl) ⟨rfl, rfl⟩ ⟨Nat.le_of_ble_eq_true rfl, Nat.le_of_ble_eq_true rfl⟩ ⟨Nat.le_refl _, Nat.le_refl _⟩ dX10_states_21 (aw_ki fun r_7 I_8 J_9 h => ?_)
    refine aw_istore_n (lv' := [(2, .int r_7), (0, .ref (sz + 140)), (1, .int x1)]) dX10_states_24 rfl (by decide) rfl ?_
    refine aw_iload_n 0 dX10_states_25 rfl rfl ?_
    refine aw_zge 31 dX10_states_26 (by decide) (fun c_10 => ?_) (fun c_10 => ?_)
    · have h := sw_if.f h c_10
      refine aw_iconst (v := 0) dX10_states_31 (by decide) ?_
      refine aw_istore_n (lv' := [(3, .int 0), (2, .int r_7), (0, .ref (sz + 140)), (1, .int x1)]) dX10_states_32 rfl (by decide) rfl ?_
      refine aw_iconst (v := 0) dX10_states_33 (by decide) ?_
      refine aw_istore (lv' := [(4, .int 0), (3, .int 0), (2, .int r_7), (0, .ref (sz + 140)), (1, .int x1)]) dX10_states_34 (by decide) rfl ?_
      refine aw_iconst (v := 0) dX10_states_36 (by decide) ?_
      refine aw_istore (lv' := [(5, .int 0), (4, .int 0), (3, .int 0), (2, .int r_7), (0, .ref (sz + 140)), (1, .int x1)]) dX10_states_37 (by decide) rfl ?_
      refine aw_sub [4, 3, 2, 1, 0] rfl ?_
      obtain ⟨n_11, h⟩ := h
      exact tl_X10_states_39 hG   n_11 r_7 0 0 0 I_8 J_9 h
    · have h := sw_if.t h c_10
      refine aw_iload_n 0 dX10_states_29 rfl rfl ?_
      exact aw_iret rfl dX10_states_30 ⟨rfl, _, rfl, h⟩
  · have h := sw_if.t h c_6
    refine aw_iconst (v := (-1)) dX10_states_17 (by decide) ?_
    exact aw_iret rfl dX10_states_18 ⟨rfl, _, rfl, h⟩
theorem M_X10_states {l : Launch} {D : va_G} {cy : Nat → ClassId} {sz : Nat} {G : sw_G} (hG : sw_lay G)   {Q : Int32 → sw_I → sw_J → Prop} {x1 : Int32} {I : sw_I} {J : sw_J} (h : wp_X10_states x1 I J Q) : Met l yX10_states (Cond.code yX10_states cX10_states 6 (some .int) :: sw_T) rm_X10_states (sw_Pc D cy sz [.ref (sz + 140), .int x1] G I J) (sw_Q D cy sz (sw_qi G Q)) 0 0 (fun q => sz ≤ q) :=
  sw_met (by decide) (fun q => by cases q) (Nat.le_of_ble_eq_true rfl) rfl (t_X10_states hG  h)
-- X10_stuck
abbrev rm_X10_stuck : Room := { frames := 8, cells := 0, slots := 0, locals := 185 }
def wb_X10_stuck_23  (K23 : Int32 → Int32 → sw_I → sw_J → Prop) (Q : Int32 → sw_I → sw_J → Prop) (x2 : Int32) (x3 : Int32) (I : sw_I) (J : sw_J) : Prop :=
  sw_if (x3 < (I 140 48)) (wp_X10_unpacks x3 I J (fun I_3 J_4 => wp_X10_homeBits 145 33 I_3 J_4 (fun r_5 I_6 J_7 => ∀ y_8 : Int32, y_8 = x2 ||| r_5 → ∀ y_10 : Int32, y_10 = x3 + 1 → K23 y_8 y_10 I_6 J_7))) (Q ((((1 : Int32) <<< ((I 140 4) &&& 31)) - (1 : Int32)) &&& (x2 ^^^ (-1 : Int32))) I J)
def wl_X10_stuck_23   (Q : Int32 → sw_I → sw_J → Prop) : Nat → Int32 → Int32 → sw_I → sw_J → Prop
  | 0 => fun _ _ _ _ => False
  | n + 1 => fun x2 x3 I J => wb_X10_stuck_23  (wl_X10_stuck_23   Q n) Q x2 x3 I J
def wp_X10_stuck  (I : sw_I) (J : sw_J) (Q : Int32 → sw_I → sw_J → Prop) : Prop :=
  ∀ I_1 : sw_I, I_1 = sw_up I 140 0 (0 : Int32) → wp_X10_findsAll 2147483647 I_1 J (fun r_3 I_4 J_5 => sw_if (r_3 < 0) (Q r_3 I_4 J_5) (∃ n_7 : Nat, wl_X10_stuck_23   Q n_7 0 0 I_4 J_5))
set_option maxRecDepth 20000 in
theorem tb_X10_stuck_23 {l : Launch} {D : va_G} {cy : Nat → ClassId} {sz : Nat} {G : sw_G} (hG : sw_lay G)   {Q : Int32 → sw_I → sw_J → Prop} {K23 : Int32 → Int32 → sw_I → sw_J → Prop} (hK23 : ∀ (x2 : Int32) (x3 : Int32) (I : sw_I) (J : sw_J), K23 x2 x3 I J → AW l D cy sz RX10 cX10_stuck 4 (some .int) false rm_X10_stuck 0 0 (sw_qi G Q) 0 0 G I J 23 [(0, .ref (sz + 140)), (2, .int x2), (3, .int x3)] []) {x2 : Int32} {x3 : Int32} {I : sw_I} {J : sw_J} (h : wb_X10_stuck_23  K23 Q x2 x3 I J) : AW l D cy sz RX10 cX10_stuck 4 (some .int) false rm_X10_stuck 0 0 (sw_qi G Q) 0 0 G I J 23 [(0, .ref (sz + 140)), (2, .int x2), (3, .int x3)] [] := by
  unfold wb_X10_stuck_23 at h
  refine aw_iload_n 2 dX10_stuck_23 rfl rfl ?_
  refine aw_aload_n 0 dX10_stuck_24 rfl rfl ?_
  refine gf_X10_48 fl_X10_359 (lk140 hG) dX10_stuck_25 ?_
  refine aw_jge 53 dX10_stuck_28 (by decide) (fun c_1 => ?_) (fun c_1 => ?_)
  · have h := sw_if.f h c_1
    refine aw_iconst (v := 1) dX10_stuck_53 (by decide) ?_
    refine aw_aload_n 0 dX10_stuck_54 rfl rfl ?_
    refine gf_X10_4 fl_X10_29 (lk140 hG) dX10_stuck_55 ?_
    refine aw_ishl dX10_stuck_58 ?_
    refine aw_iconst (v := 1) dX10_stuck_59 (by decide) ?_
    refine aw_isub dX10_stuck_60 ?_
    refine aw_iload_n 1 dX10_stuck_61 rfl rfl ?_
    refine aw_iconst (v := (-1)) dX10_stuck_62 (by decide) ?_
    refine aw_ixor dX10_stuck_63 ?_
    refine aw_iand dX10_stuck_64 ?_
    exact aw_iret rfl dX10_stuck_65 ⟨rfl, _, rfl, h⟩
  · have h := sw_if.t h c_1
    refine aw_aload_n 0 dX10_stuck_31 rfl rfl ?_
    refine aw_iload_n 2 dX10_stuck_32 rfl rfl ?_
    refine aw_callV wv_X10_unpacks (M_X10_unpacks hG  h) ml_X10_379 rfl (by decide) (lk140 hG) rfl rfl (Nat.le_of_ble_eq_true rfl) ⟨rfl, rfl⟩ ⟨Nat.le_of_ble_eq_true rfl, Nat.le_of_ble_eq_true rfl⟩ ⟨Nat.le_refl _, Nat.le_refl _⟩ dX10_stuck_33 (aw_kv fun I_3 J_4 h => ?_)
    refine aw_iload_n 1 dX10_stuck_36 rfl rfl ?_
    refine aw_aload_n 0 dX10_stuck_37 rfl rfl ?_
    refine aw_aload_n 0 dX10_stuck_38 rfl rfl ?_
    refine gf_X10_10 fl_X10_313 (lk140 hG) (lr140_10 hG) dX10_stuck_39 ?_
    refine aw_callV wv_X10_homeBits (M_X10_homeBits hG ⟨(lk145 hG), (ln145 hG)⟩ h) ml_X10_391 rfl (by decide) (lk140 hG) rfl rfl (Nat.le_of_ble_eq_true rfl) ⟨rfl, rfl⟩ ⟨Nat.le_of_ble_eq_true rfl, Nat.le_of_ble_eq_true rfl⟩ ⟨Nat.le_refl _, Nat.le_refl _⟩ dX10_stuck_42 (aw_ki fun r_5 I_6 J_7 h => ?_)
    refine aw_ior dX10_stuck_45 ?_
    refine aw_topi (fun y_8 e_9 => ?_)
    have h := h y_8 e_9
    refine aw_istore_n (lv' := [(2, .int y_8), (0, .ref (sz + 140)), (3, .int x3)]) dX10_stuck_46 rfl (by decide) rfl ?_
    obtain ⟨y_10, e_11⟩ : ∃ q : Int32, q = x3 + 1 := ⟨_, rfl⟩
    have h := h y_10 e_11
    refine aw_iinc (lv' := [(3, .int y_10), (2, .int y_8), (0, .ref (sz + 140))]) 2 dX10_stuck_47 rfl (by rw [e_11]; rfl) (by decide) rfl ?_
    refine aw_goto 23 dX10_stuck_50 (by decide) ?_
    refine aw_sub [2, 1, 0] rfl ?_
    exact hK23 y_8 y_10 I_6 J_7 h
set_option maxRecDepth 20000 in
theorem tl_X10_stuck_23 {l : Launch} {D : va_G} {cy : Nat → ClassId} {sz : Nat} {G : sw_G} (hG : sw_lay G)   {Q : Int32 → sw_I → sw_J → Prop} : ∀ (n : Nat) (x2 : Int32) (x3 : Int32) (I : sw_I) (J : sw_J), wl_X10_stuck_23   Q n x2 x3 I J → AW l D cy sz RX10 cX10_stuck 4 (some .int) false rm_X10_stuck 0 0 (sw_qi G Q) 0 0 G I J 23 [(0, .ref (sz + 140)), (2, .int x2), (3, .int x3)] [] := by
  intro n
  induction n with
  | zero => intro x2 x3 I J h; exact False.elim h
  | succ n ih => intro x2 x3 I J h; exact tb_X10_stuck_23 hG  ih h
set_option maxRecDepth 20000 in
theorem t_X10_stuck {l : Launch} {D : va_G} {cy : Nat → ClassId} {sz : Nat} {G : sw_G} (hG : sw_lay G)   {Q : Int32 → sw_I → sw_J → Prop}  {I : sw_I} {J : sw_J} (h : wp_X10_stuck  I J Q) : AW l D cy sz RX10 cX10_stuck 4 (some .int) false rm_X10_stuck 0 0 (sw_qi G Q) 0 0 G I J 0 [(0, .ref (sz + 140))] [] := by
  unfold wp_X10_stuck at h
  refine aw_aload_n 0 dX10_stuck_0 rfl rfl ?_
  refine aw_iconst (v := 0) dX10_stuck_1 (by decide) ?_
  refine pf_X10_0 fl_X10_3 (lk140 hG) dX10_stuck_2 (aw_nameI fun I_1 e_2 => ?_)
  have h := h I_1 e_2
  refine aw_aload_n 0 dX10_stuck_5 rfl rfl ?_
  refine aw_ldcw (v := 2147483647) dX10_stuck_6 k_X10_417 ?_
  refine aw_callV wv_X10_findsAll (M_X10_findsAll hG  h) ml_X10_414 rfl (by decide) (lk140 hG) rfl rfl (Nat.le_of_ble_eq_true rfl) ⟨rfl, rfl⟩ ⟨Nat.le_of_ble_eq_true rfl, Nat.le_of_ble_eq_true rfl⟩ ⟨Nat.le_refl _, Nat.le_refl _⟩ dX10_stuck_9 (aw_ki fun r_3 I_4 J_5 h => ?_)
  refine aw_istore_n (lv' := [(1, .int r_3), (0, .ref (sz + 140))]) dX10_stuck_12 rfl (by decide) rfl ?_
  refine aw_iload_n 0 dX10_stuck_13 rfl rfl ?_
  refine aw_zge 19 dX10_stuck_14 (by decide) (fun c_6 => ?_) (fun c_6 => ?_)
  · have h := sw_if.f h c_6
    refine aw_iconst (v := 0) dX10_stuck_19 (by decide) ?_
    refine aw_istore_n (lv' := [(2, .int 0), (1, .int r_3), (0, .ref (sz + 140))]) dX10_stuck_20 rfl (by decide) rfl ?_
    refine aw_iconst (v := 0) dX10_stuck_21 (by decide) ?_
    refine aw_istore_n (lv' := [(3, .int 0), (2, .int 0), (1, .int r_3), (0, .ref (sz + 140))]) dX10_stuck_22 rfl (by decide) rfl ?_
    refine aw_sub [3, 1, 0] rfl ?_
    obtain ⟨n_7, h⟩ := h
    exact tl_X10_stuck_23 hG   n_7 0 0 I_4 J_5 h
  · have h := sw_if.t h c_6
    refine aw_iload_n 0 dX10_stuck_17 rfl rfl ?_
    exact aw_iret rfl dX10_stuck_18 ⟨rfl, _, rfl, h⟩
theorem M_X10_stuck {l : Launch} {D : va_G} {cy : Nat → ClassId} {sz : Nat} {G : sw_G} (hG : sw_lay G)   {Q : Int32 → sw_I → sw_J → Prop}  {I : sw_I} {J : sw_J} (h : wp_X10_stuck  I J Q) : Met l yX10_stuck (Cond.code yX10_stuck cX10_stuck 4 (some .int) :: sw_T) rm_X10_stuck (sw_Pc D cy sz [.ref (sz + 140)] G I J) (sw_Q D cy sz (sw_qi G Q)) 0 0 (fun q => sz ≤ q) :=
  sw_met (by decide) (fun q => by cases q) (Nat.le_of_ble_eq_true rfl) rfl (t_X10_stuck hG  h)
-- X10_isSo
abbrev rm_X10_isSo : Room := { frames := 4, cells := 0, slots := 0, locals := 92 }
def wb_X10_isSo_2  (K2 : Int32 → Int32 → sw_I → sw_J → Prop) (Q : Int32 → sw_I → sw_J → Prop) (x1 : Int32) (x2 : Int32) (I : sw_I) (J : sw_J) : Prop :=
  sw_if (x2 < (I 140 4)) (vp_in x2 33 ∧ ∀ I_19 : sw_I, I_19 = sw_up I 145 x2.toNatClampNeg (9 : Int32) → ∀ y_21 : Int32, y_21 = x2 + 1 → K2 x1 y_21 I_19 J) (vp_in x1 8 ∧ ∀ I_4 : sw_I, I_4 = sw_up I 145 (31 : Int32).toNatClampNeg (I 167 x1.toNatClampNeg) → ∀ I_7 : sw_I, I_7 = sw_up I_4 145 (32 : Int32).toNatClampNeg (0 : Int32) → vp_in x1 8 ∧ wp_X10_looks 145 33 (I_7 168 x1.toNatClampNeg) I_7 J (fun I_11 J_12 => wp_X10_leastStop  I_11 J_12 (fun r_13 I_14 J_15 => vp_in x1 8 ∧ sw_if (r_13 = (I_14 169 x1.toNatClampNeg)) (Q 1 I_14 J_15) (Q 0 I_14 J_15))))
def wl_X10_isSo_2   (Q : Int32 → sw_I → sw_J → Prop) : Nat → Int32 → Int32 → sw_I → sw_J → Prop
  | 0 => fun _ _ _ _ => False
  | n + 1 => fun x1 x2 I J => wb_X10_isSo_2  (wl_X10_isSo_2   Q n) Q x1 x2 I J
def wp_X10_isSo (x1 : Int32) (I : sw_I) (J : sw_J) (Q : Int32 → sw_I → sw_J → Prop) : Prop :=
  ∃ n_1 : Nat, wl_X10_isSo_2   Q n_1 x1 0 I J
set_option maxRecDepth 20000 in
theorem tb_X10_isSo_2 {l : Launch} {D : va_G} {cy : Nat → ClassId} {sz : Nat} {G : sw_G} (hG : sw_lay G)   {Q : Int32 → sw_I → sw_J → Prop} {K2 : Int32 → Int32 → sw_I → sw_J → Prop} (hK2 : ∀ (x1 : Int32) (x2 : Int32) (I : sw_I) (J : sw_J), K2 x1 x2 I J → AW l D cy sz RX10 cX10_isSo 3 (some .boolean) false rm_X10_isSo 0 0 (sw_qi G Q) 0 0 G I J 2 [(0, .ref (sz + 140)), (1, .int x1), (2, .int x2)] []) {x1 : Int32} {x2 : Int32} {I : sw_I} {J : sw_J} (h : wb_X10_isSo_2  K2 Q x1 x2 I J) : AW l D cy sz RX10 cX10_isSo 3 (some .boolean) false rm_X10_isSo 0 0 (sw_qi G Q) 0 0 G I J 2 [(0, .ref (sz + 140)), (1, .int x1), (2, .int x2)] [] := by
  unfold wb_X10_isSo_2 at h
  refine aw_iload_n 2 dX10_isSo_2 rfl rfl ?_
  refine aw_aload_n 0 dX10_isSo_3 rfl rfl ?_
  refine gf_X10_4 fl_X10_29 (lk140 hG) dX10_isSo_4 ?_
  refine aw_jge 24 dX10_isSo_7 (by decide) (fun c_1 => ?_) (fun c_1 => ?_)
  · have h := sw_if.f h c_1
    refine aw_aload_n 0 dX10_isSo_24 rfl rfl ?_
    refine gf_X10_10 fl_X10_313 (lk140 hG) (lr140_10 hG) dX10_isSo_25 ?_
    refine aw_bipush (v := 31) dX10_isSo_28 (by decide) ?_
    refine aw_aload_n 0 dX10_isSo_30 rfl rfl ?_
    refine gf_X10_55 fl_X10_418 (lk140 hG) (lr140_55 hG) dX10_isSo_31 ?_
    refine aw_iload_n 1 dX10_isSo_34 rfl rfl ?_
    obtain ⟨hi_2, h⟩ := h
    refine aw_ild dX10_isSo_35 (lk167 hG) (ln167 hG) hi_2 ?_
    refine aw_ist dX10_isSo_36 (lk145 hG) (ln145 hG) (by unfold vp_in; decide) (aw_nameI fun I_4 e_5 => ?_)
    have h := h I_4 e_5
    refine aw_aload_n 0 dX10_isSo_37 rfl rfl ?_
    refine gf_X10_10 fl_X10_313 (lk140 hG) (lr140_10 hG) dX10_isSo_38 ?_
    refine aw_bipush (v := 32) dX10_isSo_41 (by decide) ?_
    refine aw_iconst (v := 0) dX10_isSo_43 (by decide) ?_
    refine aw_ist dX10_isSo_44 (lk145 hG) (ln145 hG) (by unfold vp_in; decide) (aw_nameI fun I_7 e_8 => ?_)
    have h := h I_7 e_8
    refine aw_aload_n 0 dX10_isSo_45 rfl rfl ?_
    refine aw_aload_n 0 dX10_isSo_46 rfl rfl ?_
    refine gf_X10_10 fl_X10_313 (lk140 hG) (lr140_10 hG) dX10_isSo_47 ?_
    refine aw_aload_n 0 dX10_isSo_50 rfl rfl ?_
    refine gf_X10_56 fl_X10_421 (lk140 hG) (lr140_56 hG) dX10_isSo_51 ?_
    refine aw_iload_n 1 dX10_isSo_54 rfl rfl ?_
    obtain ⟨hi_9, h⟩ := h
    refine aw_ild dX10_isSo_55 (lk168 hG) (ln168 hG) hi_9 ?_
    refine aw_callV wv_X10_looks (M_X10_looks hG ⟨(lk145 hG), (ln145 hG)⟩ h) ml_X10_215 rfl (by decide) (lk140 hG) rfl rfl (Nat.le_of_ble_eq_true rfl) ⟨rfl, rfl⟩ ⟨Nat.le_of_ble_eq_true rfl, Nat.le_of_ble_eq_true rfl⟩ ⟨Nat.le_refl _, Nat.le_refl _⟩ dX10_isSo_56 (aw_kv fun I_11 J_12 h => ?_)
    refine aw_aload_n 0 dX10_isSo_59 rfl rfl ?_
    refine aw_callV wv_X10_leastStop (M_X10_leastStop hG  h) ml_X10_219 rfl (by decide) (lk140 hG) rfl rfl (Nat.le_of_ble_eq_true rfl) ⟨rfl, rfl⟩ ⟨Nat.le_of_ble_eq_true rfl, Nat.le_of_ble_eq_true rfl⟩ ⟨Nat.le_refl _, Nat.le_refl _⟩ dX10_isSo_60 (aw_ki fun r_13 I_14 J_15 h => ?_)
    refine aw_aload_n 0 dX10_isSo_63 rfl rfl ?_
    refine gf_X10_57 fl_X10_424 (lk140 hG) (lr140_57 hG) dX10_isSo_64 ?_
    refine aw_iload_n 1 dX10_isSo_67 rfl rfl ?_
    obtain ⟨hi_16, h⟩ := h
    refine aw_ild dX10_isSo_68 (lk169 hG) (ln169 hG) hi_16 ?_
    refine aw_jne 76 dX10_isSo_69 (by decide) (fun c_17 => ?_) (fun c_17 => ?_)
    · have h := sw_if.f h c_17
      refine aw_iconst (v := 0) dX10_isSo_76 (by decide) ?_
      exact aw_zret rfl rfl dX10_isSo_77 ⟨rfl, _, rfl, h⟩
    · have h := sw_if.t h c_17
      refine aw_iconst (v := 1) dX10_isSo_72 (by decide) ?_
      refine aw_goto 77 dX10_isSo_73 (by decide) ?_
      exact aw_zret rfl rfl dX10_isSo_77 ⟨rfl, _, rfl, h⟩
  · have h := sw_if.t h c_1
    refine aw_aload_n 0 dX10_isSo_10 rfl rfl ?_
    refine gf_X10_10 fl_X10_313 (lk140 hG) (lr140_10 hG) dX10_isSo_11 ?_
    refine aw_iload_n 2 dX10_isSo_14 rfl rfl ?_
    refine aw_bipush (v := 9) dX10_isSo_15 (by decide) ?_
    obtain ⟨hi_18, h⟩ := h
    refine aw_ist dX10_isSo_17 (lk145 hG) (ln145 hG) hi_18 (aw_nameI fun I_19 e_20 => ?_)
    have h := h I_19 e_20
    obtain ⟨y_21, e_22⟩ : ∃ q : Int32, q = x2 + 1 := ⟨_, rfl⟩
    have h := h y_21 e_22
    refine aw_iinc (lv' := [(2, .int y_21), (0, .ref (sz + 140)), (1, .int x1)]) 2 dX10_isSo_18 rfl (by rw [e_22]; rfl) (by decide) rfl ?_
    refine aw_goto 2 dX10_isSo_21 (by decide) ?_
    refine aw_sub [1, 2, 0] rfl ?_
    exact hK2 x1 y_21 I_19 J h
set_option maxRecDepth 20000 in
theorem tl_X10_isSo_2 {l : Launch} {D : va_G} {cy : Nat → ClassId} {sz : Nat} {G : sw_G} (hG : sw_lay G)   {Q : Int32 → sw_I → sw_J → Prop} : ∀ (n : Nat) (x1 : Int32) (x2 : Int32) (I : sw_I) (J : sw_J), wl_X10_isSo_2   Q n x1 x2 I J → AW l D cy sz RX10 cX10_isSo 3 (some .boolean) false rm_X10_isSo 0 0 (sw_qi G Q) 0 0 G I J 2 [(0, .ref (sz + 140)), (1, .int x1), (2, .int x2)] [] := by
  intro n
  induction n with
  | zero => intro x1 x2 I J h; exact False.elim h
  | succ n ih => intro x1 x2 I J h; exact tb_X10_isSo_2 hG  ih h
set_option maxRecDepth 20000 in
theorem t_X10_isSo {l : Launch} {D : va_G} {cy : Nat → ClassId} {sz : Nat} {G : sw_G} (hG : sw_lay G)   {Q : Int32 → sw_I → sw_J → Prop} {x1 : Int32} {I : sw_I} {J : sw_J} (h : wp_X10_isSo x1 I J Q) : AW l D cy sz RX10 cX10_isSo 3 (some .boolean) false rm_X10_isSo 0 0 (sw_qi G Q) 0 0 G I J 0 [(0, .ref (sz + 140)), (1, .int x1)] [] := by
  unfold wp_X10_isSo at h
  refine aw_iconst (v := 0) dX10_isSo_0 (by decide) ?_
  refine aw_istore_n (lv' := [(2, .int 0), (0, .ref (sz + 140)), (1, .int x1)]) dX10_isSo_1 rfl (by decide) rfl ?_
  refine aw_sub [1, 2, 0] rfl ?_
  obtain ⟨n_1, h⟩ := h
  exact tl_X10_isSo_2 hG   n_1 x1 0 I J h
theorem M_X10_isSo {l : Launch} {D : va_G} {cy : Nat → ClassId} {sz : Nat} {G : sw_G} (hG : sw_lay G)   {Q : Int32 → sw_I → sw_J → Prop} {x1 : Int32} {I : sw_I} {J : sw_J} (h : wp_X10_isSo x1 I J Q) : Met l yX10_isSo (Cond.code yX10_isSo cX10_isSo 3 (some .boolean) :: sw_T) rm_X10_isSo (sw_Pc D cy sz [.ref (sz + 140), .int x1] G I J) (sw_Q D cy sz (sw_qi G Q)) 0 0 (fun q => sz ≤ q) :=
  sw_met (by decide) (fun q => by cases q) (Nat.le_of_ble_eq_true rfl) rfl (t_X10_isSo hG  h)
-- X10_areSo
abbrev rm_X10_areSo : Room := { frames := 5, cells := 0, slots := 0, locals := 114 }
def wb_X10_areSo_4  (K4 : Int32 → Int32 → sw_I → sw_J → Prop) (Q : Int32 → sw_I → sw_J → Prop) (x1 : Int32) (x2 : Int32) (I : sw_I) (J : sw_J) : Prop :=
  sw_if (x2 < (I 140 54)) (sw_if (x1 = 0) ((x1 = 0 ∨ x1 = 1) ∧ Q x1 I J) (wp_X10_isSo x2 I J (fun r_3 I_4 J_5 => ∀ y_6 : Int32, y_6 = x2 + 1 → K4 r_3 y_6 I_4 J_5))) ((x1 = 0 ∨ x1 = 1) ∧ Q x1 I J)
def wl_X10_areSo_4   (Q : Int32 → sw_I → sw_J → Prop) : Nat → Int32 → Int32 → sw_I → sw_J → Prop
  | 0 => fun _ _ _ _ => False
  | n + 1 => fun x1 x2 I J => wb_X10_areSo_4  (wl_X10_areSo_4   Q n) Q x1 x2 I J
def wp_X10_areSo  (I : sw_I) (J : sw_J) (Q : Int32 → sw_I → sw_J → Prop) : Prop :=
  ∃ n_1 : Nat, wl_X10_areSo_4   Q n_1 1 0 I J
set_option maxRecDepth 20000 in
theorem tb_X10_areSo_4 {l : Launch} {D : va_G} {cy : Nat → ClassId} {sz : Nat} {G : sw_G} (hG : sw_lay G)   {Q : Int32 → sw_I → sw_J → Prop} {K4 : Int32 → Int32 → sw_I → sw_J → Prop} (hK4 : ∀ (x1 : Int32) (x2 : Int32) (I : sw_I) (J : sw_J), K4 x1 x2 I J → AW l D cy sz RX10 cX10_areSo 3 (some .boolean) false rm_X10_areSo 0 0 (sw_qi G Q) 0 0 G I J 4 [(0, .ref (sz + 140)), (1, .int x1), (2, .int x2)] []) {x1 : Int32} {x2 : Int32} {I : sw_I} {J : sw_J} (h : wb_X10_areSo_4  K4 Q x1 x2 I J) : AW l D cy sz RX10 cX10_areSo 3 (some .boolean) false rm_X10_areSo 0 0 (sw_qi G Q) 0 0 G I J 4 [(0, .ref (sz + 140)), (1, .int x1), (2, .int x2)] [] := by
  unfold wb_X10_areSo_4 at h
  refine aw_iload_n 2 dX10_areSo_4 rfl rfl ?_
  refine aw_aload_n 0 dX10_areSo_5 rfl rfl ?_
  refine gf_X10_54 fl_X10_85 (lk140 hG) dX10_areSo_6 ?_
  refine aw_jge 28 dX10_areSo_9 (by decide) (fun c_1 => ?_) (fun c_1 => ?_)
  · have h := sw_if.f h c_1
    refine aw_iload_n 1 dX10_areSo_28 rfl rfl ?_
    exact aw_zret rfl (sw_bool h.1).1 dX10_areSo_29 ⟨rfl, _, rfl, h.2⟩
  · have h := sw_if.t h c_1
    refine aw_iload_n 1 dX10_areSo_12 rfl rfl ?_
    refine aw_zeq 28 dX10_areSo_13 (by decide) (fun c_2 => ?_) (fun c_2 => ?_)
    · have h := sw_if.t h c_2
      refine aw_iload_n 1 dX10_areSo_28 rfl rfl ?_
      exact aw_zret rfl (sw_bool h.1).1 dX10_areSo_29 ⟨rfl, _, rfl, h.2⟩
    · have h := sw_if.f h c_2
      refine aw_aload_n 0 dX10_areSo_16 rfl rfl ?_
      refine aw_iload_n 2 dX10_areSo_17 rfl rfl ?_
      refine aw_callV wv_X10_isSo (M_X10_isSo hG  h) ml_X10_427 rfl (by decide) (lk140 hG) rfl rfl (Nat.le_of_ble_eq_true rfl) ⟨rfl, rfl⟩ ⟨Nat.le_of_ble_eq_true rfl, Nat.le_of_ble_eq_true rfl⟩ ⟨Nat.le_refl _, Nat.le_refl _⟩ dX10_areSo_18 (aw_ki fun r_3 I_4 J_5 h => ?_)
      refine aw_istore_n (lv' := [(1, .int r_3), (0, .ref (sz + 140)), (2, .int x2)]) dX10_areSo_21 rfl (by decide) rfl ?_
      obtain ⟨y_6, e_7⟩ : ∃ q : Int32, q = x2 + 1 := ⟨_, rfl⟩
      have h := h y_6 e_7
      refine aw_iinc (lv' := [(2, .int y_6), (1, .int r_3), (0, .ref (sz + 140))]) 2 dX10_areSo_22 rfl (by rw [e_7]; rfl) (by decide) rfl ?_
      refine aw_goto 4 dX10_areSo_25 (by decide) ?_
      refine aw_sub [2, 1, 0] rfl ?_
      exact hK4 r_3 y_6 I_4 J_5 h
set_option maxRecDepth 20000 in
theorem tl_X10_areSo_4 {l : Launch} {D : va_G} {cy : Nat → ClassId} {sz : Nat} {G : sw_G} (hG : sw_lay G)   {Q : Int32 → sw_I → sw_J → Prop} : ∀ (n : Nat) (x1 : Int32) (x2 : Int32) (I : sw_I) (J : sw_J), wl_X10_areSo_4   Q n x1 x2 I J → AW l D cy sz RX10 cX10_areSo 3 (some .boolean) false rm_X10_areSo 0 0 (sw_qi G Q) 0 0 G I J 4 [(0, .ref (sz + 140)), (1, .int x1), (2, .int x2)] [] := by
  intro n
  induction n with
  | zero => intro x1 x2 I J h; exact False.elim h
  | succ n ih => intro x1 x2 I J h; exact tb_X10_areSo_4 hG  ih h
set_option maxRecDepth 20000 in
theorem t_X10_areSo {l : Launch} {D : va_G} {cy : Nat → ClassId} {sz : Nat} {G : sw_G} (hG : sw_lay G)   {Q : Int32 → sw_I → sw_J → Prop}  {I : sw_I} {J : sw_J} (h : wp_X10_areSo  I J Q) : AW l D cy sz RX10 cX10_areSo 3 (some .boolean) false rm_X10_areSo 0 0 (sw_qi G Q) 0 0 G I J 0 [(0, .ref (sz + 140))] [] := by
  unfold wp_X10_areSo at h
  refine aw_iconst (v := 1) dX10_areSo_0 (by decide) ?_
  refine aw_istore_n (lv' := [(1, .int 1), (0, .ref (sz + 140))]) dX10_areSo_1 rfl (by decide) rfl ?_
  refine aw_iconst (v := 0) dX10_areSo_2 (by decide) ?_
  refine aw_istore_n (lv' := [(2, .int 0), (1, .int 1), (0, .ref (sz + 140))]) dX10_areSo_3 rfl (by decide) rfl ?_
  refine aw_sub [2, 1, 0] rfl ?_
  obtain ⟨n_1, h⟩ := h
  exact tl_X10_areSo_4 hG   n_1 1 0 I J h
theorem M_X10_areSo {l : Launch} {D : va_G} {cy : Nat → ClassId} {sz : Nat} {G : sw_G} (hG : sw_lay G)   {Q : Int32 → sw_I → sw_J → Prop}  {I : sw_I} {J : sw_J} (h : wp_X10_areSo  I J Q) : Met l yX10_areSo (Cond.code yX10_areSo cX10_areSo 3 (some .boolean) :: sw_T) rm_X10_areSo (sw_Pc D cy sz [.ref (sz + 140)] G I J) (sw_Q D cy sz (sw_qi G Q)) 0 0 (fun q => sz ≤ q) :=
  sw_met (by decide) (fun q => by cases q) (Nat.le_of_ble_eq_true rfl) rfl (t_X10_areSo hG  h)
-- X10_believed
abbrev rm_X10_believed : Room := { frames := 5, cells := 0, slots := 0, locals := 114 }
def wB_X10_believed_72   (Q : Int32 → sw_I → sw_J → Prop) (s0 : Int32) (I : sw_I) (J : sw_J) : Prop :=
  wp_X10_flag s0 I J (fun r_1 I_2 J_3 => Q r_1 I_2 J_3)
def wB_X10_believed_44  (K20 : Int32 → Int32 → sw_I → sw_J → Prop) (Q : Int32 → sw_I → sw_J → Prop) (x2 : Int32) (s0 : Int32) (s1 : Int32) (I : sw_I) (J : sw_J) : Prop :=
  ∀ y_1 : Int32, y_1 = s0 ||| s1 → ∀ y_3 : Int32, y_3 = x2 + 1 → K20 y_1 y_3 I J
def wb_X10_believed_20  (K20 : Int32 → Int32 → sw_I → sw_J → Prop) (Q : Int32 → sw_I → sw_J → Prop) (x1 : Int32) (x2 : Int32) (I : sw_I) (J : sw_J) : Prop :=
  sw_if (x2 < (I 140 54)) (wp_X10_isSo x2 I J (fun r_8 I_9 J_10 => sw_if (r_8 = 0) (wB_X10_believed_44  K20 Q x2 x1 ((1 : Int32) <<< (x2 &&& 31)) I_9 J_10) (wB_X10_believed_44  K20 Q x2 x1 0 I_9 J_10))) (∀ I_2 : sw_I, I_2 = sw_up I 140 1 (0 : Int32) → wp_X10_enters x1.toInt64 I_2 J (fun I_5 J_6 => sw_if (x1 = 0) (wB_X10_believed_72   Q 1 I_5 J_6) (wB_X10_believed_72   Q 0 I_5 J_6)))
def wl_X10_believed_20   (Q : Int32 → sw_I → sw_J → Prop) : Nat → Int32 → Int32 → sw_I → sw_J → Prop
  | 0 => fun _ _ _ _ => False
  | n + 1 => fun x1 x2 I J => wb_X10_believed_20  (wl_X10_believed_20   Q n) Q x1 x2 I J
def wp_X10_believed  (I : sw_I) (J : sw_J) (Q : Int32 → sw_I → sw_J → Prop) : Prop :=
  ∀ I_1 : sw_I, I_1 = sw_up I 140 0 (0 : Int32) → wp_X10_puts 144 33 145 33 I_1 J (fun I_4 J_5 => ∃ n_6 : Nat, wl_X10_believed_20   Q n_6 0 0 I_4 J_5)
set_option maxRecDepth 20000 in
theorem t_X10_believed_72 {l : Launch} {D : va_G} {cy : Nat → ClassId} {sz : Nat} {G : sw_G} (hG : sw_lay G)   {Q : Int32 → sw_I → sw_J → Prop} {s0 : Int32} {I : sw_I} {J : sw_J} (h : wB_X10_believed_72   Q s0 I J) : AW l D cy sz RX10 cX10_believed 3 (some .int) false rm_X10_believed 0 0 (sw_qi G Q) 0 0 G I J 72 [] [.int s0] := by
  unfold wB_X10_believed_72 at h
  refine aw_callS wv_X10_flag (M_X10_flag trivial  h) ml_X10_54 rfl rfl (Nat.le_of_ble_eq_true rfl) ⟨rfl, rfl⟩ ⟨Nat.le_of_ble_eq_true rfl, Nat.le_of_ble_eq_true rfl⟩ ⟨Nat.le_refl _, Nat.le_refl _⟩ dX10_believed_72 (aw_ki fun r_1 I_2 J_3 h => ?_)
  exact aw_iret rfl dX10_believed_75 ⟨rfl, _, rfl, h⟩
set_option maxRecDepth 20000 in
theorem t_X10_believed_44 {l : Launch} {D : va_G} {cy : Nat → ClassId} {sz : Nat} {G : sw_G} (hG : sw_lay G)   {Q : Int32 → sw_I → sw_J → Prop} {K20 : Int32 → Int32 → sw_I → sw_J → Prop} (hK20 : ∀ (x1 : Int32) (x2 : Int32) (I : sw_I) (J : sw_J), K20 x1 x2 I J → AW l D cy sz RX10 cX10_believed 3 (some .int) false rm_X10_believed 0 0 (sw_qi G Q) 0 0 G I J 20 [(0, .ref (sz + 140)), (1, .int x1), (2, .int x2)] []) {x2 : Int32} {s0 : Int32} {s1 : Int32} {I : sw_I} {J : sw_J} (h : wB_X10_believed_44  K20 Q x2 s0 s1 I J) : AW l D cy sz RX10 cX10_believed 3 (some .int) false rm_X10_believed 0 0 (sw_qi G Q) 0 0 G I J 44 [(0, .ref (sz + 140)), (2, .int x2)] [.int s1, .int s0] := by
  unfold wB_X10_believed_44 at h
  refine aw_ior dX10_believed_44 ?_
  refine aw_topi (fun y_1 e_2 => ?_)
  have h := h y_1 e_2
  refine aw_istore_n (lv' := [(1, .int y_1), (0, .ref (sz + 140)), (2, .int x2)]) dX10_believed_45 rfl (by decide) rfl ?_
  obtain ⟨y_3, e_4⟩ : ∃ q : Int32, q = x2 + 1 := ⟨_, rfl⟩
  have h := h y_3 e_4
  refine aw_iinc (lv' := [(2, .int y_3), (1, .int y_1), (0, .ref (sz + 140))]) 2 dX10_believed_46 rfl (by rw [e_4]; rfl) (by decide) rfl ?_
  refine aw_goto 20 dX10_believed_49 (by decide) ?_
  refine aw_sub [2, 1, 0] rfl ?_
  exact hK20 y_1 y_3 I J h
set_option maxRecDepth 20000 in
theorem tb_X10_believed_20 {l : Launch} {D : va_G} {cy : Nat → ClassId} {sz : Nat} {G : sw_G} (hG : sw_lay G)   {Q : Int32 → sw_I → sw_J → Prop} {K20 : Int32 → Int32 → sw_I → sw_J → Prop} (hK20 : ∀ (x1 : Int32) (x2 : Int32) (I : sw_I) (J : sw_J), K20 x1 x2 I J → AW l D cy sz RX10 cX10_believed 3 (some .int) false rm_X10_believed 0 0 (sw_qi G Q) 0 0 G I J 20 [(0, .ref (sz + 140)), (1, .int x1), (2, .int x2)] []) {x1 : Int32} {x2 : Int32} {I : sw_I} {J : sw_J} (h : wb_X10_believed_20  K20 Q x1 x2 I J) : AW l D cy sz RX10 cX10_believed 3 (some .int) false rm_X10_believed 0 0 (sw_qi G Q) 0 0 G I J 20 [(0, .ref (sz + 140)), (1, .int x1), (2, .int x2)] [] := by
  unfold wb_X10_believed_20 at h
  refine aw_iload_n 2 dX10_believed_20 rfl rfl ?_
  refine aw_aload_n 0 dX10_believed_21 rfl rfl ?_
  refine gf_X10_54 fl_X10_85 (lk140 hG) dX10_believed_22 ?_
  refine aw_jge 52 dX10_believed_25 (by decide) (fun c_1 => ?_) (fun c_1 => ?_)
  · have h := sw_if.f h c_1
    refine aw_aload_n 0 dX10_believed_52 rfl rfl ?_
    refine aw_iconst (v := 0) dX10_believed_53 (by decide) ?_
    refine pf_X10_1 fl_X10_15 (lk140 hG) dX10_believed_54 (aw_nameI fun I_2 e_3 => ?_)
    have h := h I_2 e_3
    refine aw_aload_n 0 dX10_believed_57 rfl rfl ?_
    refine aw_iload_n 1 dX10_believed_58 rfl rfl ?_
    refine aw_i2l dX10_believed_59 ?_
    refine aw_callV wv_X10_enters (M_X10_enters hG  h) ml_X10_18 rfl (by decide) (lk140 hG) rfl rfl (Nat.le_of_ble_eq_true rfl) ⟨rfl, rfl⟩ ⟨Nat.le_of_ble_eq_true rfl, Nat.le_of_ble_eq_true rfl⟩ ⟨Nat.le_refl _, Nat.le_refl _⟩ dX10_believed_60 (aw_kv fun I_5 J_6 h => ?_)
    refine aw_iload_n 1 dX10_believed_63 rfl rfl ?_
    refine aw_zne 71 dX10_believed_64 (by decide) (fun c_7 => ?_) (fun c_7 => ?_)
    · have h := sw_if.f h c_7
      refine aw_iconst (v := 0) dX10_believed_71 (by decide) ?_
      refine aw_sub [] rfl ?_
      exact t_X10_believed_72 hG   h
    · have h := sw_if.t h c_7
      refine aw_iconst (v := 1) dX10_believed_67 (by decide) ?_
      refine aw_goto 72 dX10_believed_68 (by decide) ?_
      refine aw_sub [] rfl ?_
      exact t_X10_believed_72 hG   h
  · have h := sw_if.t h c_1
    refine aw_iload_n 1 dX10_believed_28 rfl rfl ?_
    refine aw_aload_n 0 dX10_believed_29 rfl rfl ?_
    refine aw_iload_n 2 dX10_believed_30 rfl rfl ?_
    refine aw_callV wv_X10_isSo (M_X10_isSo hG  h) ml_X10_427 rfl (by decide) (lk140 hG) rfl rfl (Nat.le_of_ble_eq_true rfl) ⟨rfl, rfl⟩ ⟨Nat.le_of_ble_eq_true rfl, Nat.le_of_ble_eq_true rfl⟩ ⟨Nat.le_refl _, Nat.le_refl _⟩ dX10_believed_31 (aw_ki fun r_8 I_9 J_10 h => ?_)
    refine aw_zeq 41 dX10_believed_34 (by decide) (fun c_11 => ?_) (fun c_11 => ?_)
    · have h := sw_if.t h c_11
      refine aw_iconst (v := 1) dX10_believed_41 (by decide) ?_
      refine aw_iload_n 2 dX10_believed_42 rfl rfl ?_
      refine aw_ishl dX10_believed_43 ?_
      refine aw_sub [0, 2] rfl ?_
      exact t_X10_believed_44 hG  hK20 h
    · have h := sw_if.f h c_11
      refine aw_iconst (v := 0) dX10_believed_37 (by decide) ?_
      refine aw_goto 44 dX10_believed_38 (by decide) ?_
      refine aw_sub [0, 2] rfl ?_
      exact t_X10_believed_44 hG  hK20 h
set_option maxRecDepth 20000 in
theorem tl_X10_believed_20 {l : Launch} {D : va_G} {cy : Nat → ClassId} {sz : Nat} {G : sw_G} (hG : sw_lay G)   {Q : Int32 → sw_I → sw_J → Prop} : ∀ (n : Nat) (x1 : Int32) (x2 : Int32) (I : sw_I) (J : sw_J), wl_X10_believed_20   Q n x1 x2 I J → AW l D cy sz RX10 cX10_believed 3 (some .int) false rm_X10_believed 0 0 (sw_qi G Q) 0 0 G I J 20 [(0, .ref (sz + 140)), (1, .int x1), (2, .int x2)] [] := by
  intro n
  induction n with
  | zero => intro x1 x2 I J h; exact False.elim h
  | succ n ih => intro x1 x2 I J h; exact tb_X10_believed_20 hG  ih h
set_option maxRecDepth 20000 in
theorem t_X10_believed {l : Launch} {D : va_G} {cy : Nat → ClassId} {sz : Nat} {G : sw_G} (hG : sw_lay G)   {Q : Int32 → sw_I → sw_J → Prop}  {I : sw_I} {J : sw_J} (h : wp_X10_believed  I J Q) : AW l D cy sz RX10 cX10_believed 3 (some .int) false rm_X10_believed 0 0 (sw_qi G Q) 0 0 G I J 0 [(0, .ref (sz + 140))] [] := by
  unfold wp_X10_believed at h
  refine aw_aload_n 0 dX10_believed_0 rfl rfl ?_
  refine aw_iconst (v := 0) dX10_believed_1 (by decide) ?_
  refine pf_X10_0 fl_X10_3 (lk140 hG) dX10_believed_2 (aw_nameI fun I_1 e_2 => ?_)
  have h := h I_1 e_2
  refine aw_aload_n 0 dX10_believed_5 rfl rfl ?_
  refine gf_X10_9 fl_X10_79 (lk140 hG) (lr140_9 hG) dX10_believed_6 ?_
  refine aw_aload_n 0 dX10_believed_9 rfl rfl ?_
  refine gf_X10_10 fl_X10_313 (lk140 hG) (lr140_10 hG) dX10_believed_10 ?_
  refine aw_callS wv_X10_puts (M_X10_puts trivial ⟨(lk144 hG), (ln144 hG)⟩ ⟨(lk145 hG), (ln145 hG)⟩ h) ml_X10_316 rfl rfl (Nat.le_of_ble_eq_true rfl) ⟨rfl, rfl⟩ ⟨Nat.le_of_ble_eq_true rfl, Nat.le_of_ble_eq_true rfl⟩ ⟨Nat.le_refl _, Nat.le_refl _⟩ dX10_believed_13 (aw_kv fun I_4 J_5 h => ?_)
  refine aw_iconst (v := 0) dX10_believed_16 (by decide) ?_
  refine aw_istore_n (lv' := [(1, .int 0), (0, .ref (sz + 140))]) dX10_believed_17 rfl (by decide) rfl ?_
  refine aw_iconst (v := 0) dX10_believed_18 (by decide) ?_
  refine aw_istore_n (lv' := [(2, .int 0), (1, .int 0), (0, .ref (sz + 140))]) dX10_believed_19 rfl (by decide) rfl ?_
  refine aw_sub [2, 1, 0] rfl ?_
  obtain ⟨n_6, h⟩ := h
  exact tl_X10_believed_20 hG   n_6 0 0 I_4 J_5 h
theorem M_X10_believed {l : Launch} {D : va_G} {cy : Nat → ClassId} {sz : Nat} {G : sw_G} (hG : sw_lay G)   {Q : Int32 → sw_I → sw_J → Prop}  {I : sw_I} {J : sw_J} (h : wp_X10_believed  I J Q) : Met l yX10_believed (Cond.code yX10_believed cX10_believed 3 (some .int) :: sw_T) rm_X10_believed (sw_Pc D cy sz [.ref (sz + 140)] G I J) (sw_Q D cy sz (sw_qi G Q)) 0 0 (fun q => sz ≤ q) :=
  sw_met (by decide) (fun q => by cases q) (Nat.le_of_ble_eq_true rfl) rfl (t_X10_believed hG  h)
