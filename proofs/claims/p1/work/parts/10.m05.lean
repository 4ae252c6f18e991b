-- X2_worth
abbrev rm_X2_worth : Room := { frames := 1, cells := 0, slots := 0, locals := 22 }
def wB_X2_worth_138  (K5 : Int32 → Int32 → Int32 → sw_I → sw_J → Prop) (Q : Int32 → sw_I → sw_J → Prop) (x2 : Int32) (x3 : Int32) (x4 : Int32) (I : sw_I) (J : sw_J) : Prop :=
  ∀ y_1 : Int32, y_1 = x4 + 1 → K5 x2 x3 y_1 I J
def wB_X2_worth_102  (K5 : Int32 → Int32 → Int32 → sw_I → sw_J → Prop) (Q : Int32 → sw_I → sw_J → Prop) (x2 : Int32) (x3 : Int32) (x4 : Int32) (x5 : Int32) (I : sw_I) (J : sw_J) : Prop :=
  sw_if ((1 : Int32) < x3) (∀ y_2 : Int32, y_2 = x3 + (-1) → vp_in (y_2 - (1 : Int32)) 40 ∧ vp_in y_2 40 ∧ wp_X2_joined (-x5) (I 9 (y_2 - (1 : Int32)).toNatClampNeg) (I 9 y_2.toNatClampNeg) I J (fun r_6 I_7 J_8 => vp_in (y_2 - (1 : Int32)) 40 ∧ ∀ I_10 : sw_I, I_10 = sw_up I_7 9 (y_2 - (1 : Int32)).toNatClampNeg r_6 → wB_X2_worth_138  K5 Q x2 y_2 x4 I_10 J_8)) (wB_X2_worth_138  K5 Q x2 x3 x4 I J)
def wb_X2_worth_5  (K5 : Int32 → Int32 → Int32 → sw_I → sw_J → Prop) (Q : Int32 → sw_I → sw_J → Prop) (x2 : Int32) (x3 : Int32) (x4 : Int32) (I : sw_I) (J : sw_J) : Prop :=
  sw_if (x4 < (I 6 3)) (vp_in x4 40 ∧ ∀ y_4 : Int32, y_4 = (I 7 x4.toNatClampNeg) → sw_if (y_4 < 0) (wp_X2_isName (-y_4) I J (fun r_7 I_8 J_9 => sw_if (r_7 = 0) (sw_if (y_4 = (-126 : Int32)) (sw_if (0 < x3) (vp_in (x3 - (1 : Int32)) 40 ∧ vp_in (x3 - (1 : Int32)) 40 ∧ ∀ I_15 : sw_I, I_15 = sw_up I_8 9 (x3 - (1 : Int32)).toNatClampNeg (-(I_8 9 (x3 - (1 : Int32)).toNatClampNeg)) → wB_X2_worth_138  K5 Q x2 x3 x4 I_15 J_9) (wB_X2_worth_102  K5 Q x2 x3 x4 y_4 I_8 J_9)) (wB_X2_worth_102  K5 Q x2 x3 x4 y_4 I_8 J_9)) (wp_X2_named (-y_4) x2 I_8 J_9 (fun r_17 I_18 J_19 => vp_in x3 40 ∧ ∀ I_21 : sw_I, I_21 = sw_up I_18 9 x3.toNatClampNeg r_17 → ∀ y_23 : Int32, y_23 = x3 + 1 → wB_X2_worth_138  K5 Q x2 y_23 x4 I_21 J_19)))) (vp_in x3 40 ∧ ∀ I_26 : sw_I, I_26 = sw_up I 9 x3.toNatClampNeg y_4 → ∀ y_28 : Int32, y_28 = x3 + 1 → wB_X2_worth_138  K5 Q x2 y_28 x4 I_26 J)) (Q (I 9 (0 : Int32).toNatClampNeg) I J)
def wl_X2_worth_5   (Q : Int32 → sw_I → sw_J → Prop) : Nat → Int32 → Int32 → Int32 → sw_I → sw_J → Prop
  | 0 => fun _ _ _ _ _ => False
  | n + 1 => fun x2 x3 x4 I J => wb_X2_worth_5  (wl_X2_worth_5   Q n) Q x2 x3 x4 I J
def wp_X2_worth (x2 : Int32) (I : sw_I) (J : sw_J) (Q : Int32 → sw_I → sw_J → Prop) : Prop :=
  ∃ n_1 : Nat, wl_X2_worth_5   Q n_1 x2 0 0 I J
set_option maxRecDepth 20000 in
theorem t_X2_worth_138 {l : Launch} {D : va_G} {cy : Nat → ClassId} {sz : Nat} {G : sw_G} (hG : sw_lay G)   {Q : Int32 → sw_I → sw_J → Prop} {K5 : Int32 → Int32 → Int32 → sw_I → sw_J → Prop} (hK5 : ∀ (x2 : Int32) (x3 : Int32) (x4 : Int32) (I : sw_I) (J : sw_J), K5 x2 x3 x4 I J → AW l D cy sz RX2 cX2_worth 6 (some .int) false rm_X2_worth 0 0 (sw_qi G Q) 0 0 G I J 5 [(0, .ref (sz + 6)), (1, .ref (sz + 10)), (2, .int x2), (3, .int x3), (4, .int x4)] []) {x2 : Int32} {x3 : Int32} {x4 : Int32} {I : sw_I} {J : sw_J} (h : wB_X2_worth_138  K5 Q x2 x3 x4 I J) : AW l D cy sz RX2 cX2_worth 6 (some .int) false rm_X2_worth 0 0 (sw_qi G Q) 0 0 G I J 138 [(0, .ref (sz + 6)), (1, .ref (sz + 10)), (2, .int x2), (3, .int x3), (4, .int x4)] [] := by
  unfold wB_X2_worth_138 at h
  obtain ⟨y_1, e_2⟩ : ∃ q : Int32, q = x4 + 1 := ⟨_, rfl⟩
  have h := h y_1 e_2
  refine aw_iinc (lv' := [(4, .int y_1), (0, .ref (sz + 6)), (1, .ref (sz + 10)), (2, .int x2), (3, .int x3)]) 4 dX2_worth_138 rfl (by rw [e_2]; rfl) (by decide) rfl ?_
  refine aw_goto 5 dX2_worth_141 (by decide) ?_
  refine aw_sub [1, 2, 3, 4, 0] rfl ?_
  exact hK5 x2 x3 y_1 I J h
set_option maxRecDepth 20000 in
theorem t_X2_worth_102 {l : Launch} {D : va_G} {cy : Nat → ClassId} {sz : Nat} {G : sw_G} (hG : sw_lay G)   {Q : Int32 → sw_I → sw_J → Prop} {K5 : Int32 → Int32 → Int32 → sw_I → sw_J → Prop} (hK5 : ∀ (x2 : Int32) (x3 : Int32) (x4 : Int32) (I : sw_I) (J : sw_J), K5 x2 x3 x4 I J → AW l D cy sz RX2 cX2_worth 6 (some .int) false rm_X2_worth 0 0 (sw_qi G Q) 0 0 G I J 5 [(0, .ref (sz + 6)), (1, .ref (sz + 10)), (2, .int x2), (3, .int x3), (4, .int x4)] []) {x2 : Int32} {x3 : Int32} {x4 : Int32} {x5 : Int32} {I : sw_I} {J : sw_J} (h : wB_X2_worth_102  K5 Q x2 x3 x4 x5 I J) : AW l D cy sz RX2 cX2_worth 6 (some .int) false rm_X2_worth 0 0 (sw_qi G Q) 0 0 G I J 102 [(0, .ref (sz + 6)), (1, .ref (sz + 10)), (2, .int x2), (3, .int x3), (4, .int x4), (5, .int x5)] [] := by
  unfold wB_X2_worth_102 at h
  refine aw_iload_n 3 dX2_worth_102 rfl rfl ?_
  refine aw_iconst (v := 1) dX2_worth_103 (by decide) ?_
  refine aw_jle 138 dX2_worth_104 (by decide) (fun c_1 => ?_) (fun c_1 => ?_)
  · have h := sw_if.f h c_1
    refine aw_sub [0, 1, 2, 3, 4] rfl ?_
    exact t_X2_worth_138 hG  hK5 h
  · have h := sw_if.t h c_1
    obtain ⟨y_2, e_3⟩ : ∃ q : Int32, q = x3 + (-1) := ⟨_, rfl⟩
    have h := h y_2 e_3
    refine aw_iinc (lv' := [(3, .int y_2), (0, .ref (sz + 6)), (1, .ref (sz + 10)), (2, .int x2), (4, .int x4), (5, .int x5)]) 3 dX2_worth_107 rfl (by rw [e_3]; rfl) (by decide) rfl ?_
    refine aw_aload_n 1 dX2_worth_110 rfl rfl ?_
    refine gf_X2_2 fl_X2_18 (lk6 hG) (lr6_2 hG) dX2_worth_111 ?_
    refine aw_iload_n 0 dX2_worth_114 rfl rfl ?_
    refine aw_iconst (v := 1) dX2_worth_115 (by decide) ?_
    refine aw_isub dX2_worth_116 ?_
    refine aw_iload 5 dX2_worth_117 rfl ?_
    refine aw_ineg dX2_worth_119 ?_
    refine aw_aload_n 1 dX2_worth_120 rfl rfl ?_
    refine gf_X2_2 fl_X2_18 (lk6 hG) (lr6_2 hG) dX2_worth_121 ?_
    refine aw_iload_n 0 dX2_worth_124 rfl rfl ?_
    refine aw_iconst (v := 1) dX2_worth_125 (by decide) ?_
    refine aw_isub dX2_worth_126 ?_
    obtain ⟨hi_4, h⟩ := h
    refine aw_ild dX2_worth_127 (lk9 hG) (ln9 hG) hi_4 ?_
    refine aw_aload_n 1 dX2_worth_128 rfl rfl ?_
    refine gf_X2_2 fl_X2_18 (lk6 hG) (lr6_2 hG) dX2_worth_129 ?_
    refine aw_iload_n 0 dX2_worth_132 rfl rfl ?_
    obtain ⟨hi_5, h⟩ := h
    refine aw_ild dX2_worth_133 (lk9 hG) (ln9 hG) hi_5 ?_
    refine aw_callS wv_X2_joined (M_X2_joined trivial  h) ml_X2_86 rfl rfl (Nat.le_of_ble_eq_true rfl) ⟨rfl, rfl⟩ ⟨Nat.le_of_ble_eq_true rfl, Nat.le_of_ble_eq_true rfl⟩ ⟨Nat.le_refl _, Nat.le_refl _⟩ dX2_worth_134 (aw_ki fun r_6 I_7 J_8 h => ?_)
    obtain ⟨hi_9, h⟩ := h
    refine aw_ist dX2_worth_137 (lk9 hG) (ln9 hG) hi_9 (aw_nameI fun I_10 e_11 => ?_)
    have h := h I_10 e_11
    refine aw_sub [1, 2, 3, 0, 4] rfl ?_
    exact t_X2_worth_138 hG  hK5 h
set_option maxRecDepth 20000 in
theorem tb_X2_worth_5 {l : Launch} {D : va_G} {cy : Nat → ClassId} {sz : Nat} {G : sw_G} (hG : sw_lay G)   {Q : Int32 → sw_I → sw_J → Prop} {K5 : Int32 → Int32 → Int32 → sw_I → sw_J → Prop} (hK5 : ∀ (x2 : Int32) (x3 : Int32) (x4 : Int32) (I : sw_I) (J : sw_J), K5 x2 x3 x4 I J → AW l D cy sz RX2 cX2_worth 6 (some .int) false rm_X2_worth 0 0 (sw_qi G Q) 0 0 G I J 5 [(0, .ref (sz + 6)), (1, .ref (sz + 10)), (2, .int x2), (3, .int x3), (4, .int x4)] []) {x2 : Int32} {x3 : Int32} {x4 : Int32} {I : sw_I} {J : sw_J} (h : wb_X2_worth_5  K5 Q x2 x3 x4 I J) : AW l D cy sz RX2 cX2_worth 6 (some .int) false rm_X2_worth 0 0 (sw_qi G Q) 0 0 G I J 5 [(0, .ref (sz + 6)), (1, .ref (sz + 10)), (2, .int x2), (3, .int x3), (4, .int x4)] [] := by
  unfold wb_X2_worth_5 at h
  refine aw_iload 4 dX2_worth_5 rfl ?_
  refine aw_aload_n 0 dX2_worth_7 rfl rfl ?_
  refine gf_X2_3 fl_X2_21 (lk6 hG) dX2_worth_8 ?_
  refine aw_jge 144 dX2_worth_11 (by decide) (fun c_1 => ?_) (fun c_1 => ?_)
  · have h := sw_if.f h c_1
    refine aw_aload_n 0 dX2_worth_144 rfl rfl ?_
    refine gf_X2_2 fl_X2_18 (lk6 hG) (lr6_2 hG) dX2_worth_145 ?_
    refine aw_iconst (v := 0) dX2_worth_148 (by decide) ?_
    refine aw_ild dX2_worth_149 (lk9 hG) (ln9 hG) (by unfold vp_in; decide) ?_
    exact aw_iret rfl dX2_worth_150 ⟨rfl, _, rfl, h⟩
  · have h := sw_if.t h c_1
    refine aw_aload_n 0 dX2_worth_14 rfl rfl ?_
    refine gf_X2_0 fl_X2_9 (lk6 hG) (lr6_0 hG) dX2_worth_15 ?_
    refine aw_iload 4 dX2_worth_18 rfl ?_
    obtain ⟨hi_3, h⟩ := h
    refine aw_ild dX2_worth_20 (lk7 hG) (ln7 hG) hi_3 ?_
    refine aw_topi (fun y_4 e_5 => ?_)
    have h := h y_4 e_5
    refine aw_istore (lv' := [(5, .int y_4), (0, .ref (sz + 6)), (1, .ref (sz + 10)), (2, .int x2), (3, .int x3), (4, .int x4)]) dX2_worth_21 (by decide) rfl ?_
    refine aw_iload 0 dX2_worth_23 rfl ?_
    refine aw_zlt 42 dX2_worth_25 (by decide) (fun c_6 => ?_) (fun c_6 => ?_)
    · have h := sw_if.t h c_6
      refine aw_iload 0 dX2_worth_42 rfl ?_
      refine aw_ineg dX2_worth_44 ?_
      refine aw_callS wv_X2_isName (M_X2_isName trivial  h) ml_X2_52 rfl rfl (Nat.le_of_ble_eq_true rfl) ⟨rfl, rfl⟩ ⟨Nat.le_of_ble_eq_true rfl, Nat.le_of_ble_eq_true rfl⟩ ⟨Nat.le_refl _, Nat.le_refl _⟩ dX2_worth_45 (aw_ki fun r_7 I_8 J_9 h => ?_)
      refine aw_zeq 71 dX2_worth_48 (by decide) (fun c_10 => ?_) (fun c_10 => ?_)
      · have h := sw_if.t h c_10
        refine aw_iload 0 dX2_worth_71 rfl ?_
        refine aw_bipush (v := (-126)) dX2_worth_73 (by decide) ?_
        refine aw_jne 102 dX2_worth_75 (by decide) (fun c_11 => ?_) (fun c_11 => ?_)
        · have h := sw_if.f h c_11
          refine aw_sub [1, 2, 3, 4, 5, 0] rfl ?_
          exact t_X2_worth_102 hG  hK5 h
        · have h := sw_if.t h c_11
          refine aw_iload_n 4 dX2_worth_78 rfl rfl ?_
          refine aw_zle 102 dX2_worth_79 (by decide) (fun c_12 => ?_) (fun c_12 => ?_)
          · have h := sw_if.f h c_12
            refine aw_sub [1, 2, 3, 4, 5, 0] rfl ?_
            exact t_X2_worth_102 hG  hK5 h
          · have h := sw_if.t h c_12
            refine aw_aload_n 1 dX2_worth_82 rfl rfl ?_
            refine gf_X2_2 fl_X2_18 (lk6 hG) (lr6_2 hG) dX2_worth_83 ?_
            refine aw_iload_n 4 dX2_worth_86 rfl rfl ?_
            refine aw_iconst (v := 1) dX2_worth_87 (by decide) ?_
            refine aw_isub dX2_worth_88 ?_
            refine aw_aload_n 1 dX2_worth_89 rfl rfl ?_
            refine gf_X2_2 fl_X2_18 (lk6 hG) (lr6_2 hG) dX2_worth_90 ?_
            refine aw_iload_n 4 dX2_worth_93 rfl rfl ?_
            refine aw_iconst (v := 1) dX2_worth_94 (by decide) ?_
            refine aw_isub dX2_worth_95 ?_
            obtain ⟨hi_13, h⟩ := h
            refine aw_ild dX2_worth_96 (lk9 hG) (ln9 hG) hi_13 ?_
            refine aw_ineg dX2_worth_97 ?_
            obtain ⟨hi_14, h⟩ := h
            refine aw_ist dX2_worth_98 (lk9 hG) (ln9 hG) hi_14 (aw_nameI fun I_15 e_16 => ?_)
            have h := h I_15 e_16
            refine aw_goto 138 dX2_worth_99 (by decide) ?_
            refine aw_sub [1, 2, 3, 4, 5] rfl ?_
            exact t_X2_worth_138 hG  hK5 h
      · have h := sw_if.f h c_10
        refine aw_aload_n 1 dX2_worth_51 rfl rfl ?_
        refine gf_X2_2 fl_X2_18 (lk6 hG) (lr6_2 hG) dX2_worth_52 ?_
        refine aw_iload_n 4 dX2_worth_55 rfl rfl ?_
        refine aw_iload 0 dX2_worth_56 rfl ?_
        refine aw_ineg dX2_worth_58 ?_
        refine aw_aload_n 2 dX2_worth_59 rfl rfl ?_
        refine aw_iload_n 3 dX2_worth_60 rfl rfl ?_
        refine aw_callS wv_X2_named (M_X2_named hG  h) ml_X2_82 rfl rfl (Nat.le_of_ble_eq_true rfl) ⟨rfl, rfl⟩ ⟨Nat.le_of_ble_eq_true rfl, Nat.le_of_ble_eq_true rfl⟩ ⟨Nat.le_refl _, Nat.le_refl _⟩ dX2_worth_61 (aw_ki fun r_17 I_18 J_19 h => ?_)
        obtain ⟨hi_20, h⟩ := h
        refine aw_ist dX2_worth_64 (lk9 hG) (ln9 hG) hi_20 (aw_nameI fun I_21 e_22 => ?_)
        have h := h I_21 e_22
        obtain ⟨y_23, e_24⟩ : ∃ q : Int32, q = x3 + 1 := ⟨_, rfl⟩
        have h := h y_23 e_24
        refine aw_iinc (lv' := [(3, .int y_23), (5, .int y_4), (0, .ref (sz + 6)), (1, .ref (sz + 10)), (2, .int x2), (4, .int x4)]) 4 dX2_worth_65 rfl (by rw [e_24]; rfl) (by decide) rfl ?_
        refine aw_goto 138 dX2_worth_68 (by decide) ?_
        refine aw_sub [2, 3, 4, 0, 5] rfl ?_
        exact t_X2_worth_138 hG  hK5 h
    · have h := sw_if.f h c_6
      refine aw_aload_n 1 dX2_worth_28 rfl rfl ?_
      refine gf_X2_2 fl_X2_18 (lk6 hG) (lr6_2 hG) dX2_worth_29 ?_
      refine aw_iload_n 4 dX2_worth_32 rfl rfl ?_
      refine aw_iload 0 dX2_worth_33 rfl ?_
      obtain ⟨hi_25, h⟩ := h
      refine aw_ist dX2_worth_35 (lk9 hG) (ln9 hG) hi_25 (aw_nameI fun I_26 e_27 => ?_)
      have h := h I_26 e_27
      obtain ⟨y_28, e_29⟩ : ∃ q : Int32, q = x3 + 1 := ⟨_, rfl⟩
      have h := h y_28 e_29
      refine aw_iinc (lv' := [(3, .int y_28), (5, .int y_4), (0, .ref (sz + 6)), (1, .ref (sz + 10)), (2, .int x2), (4, .int x4)]) 4 dX2_worth_36 rfl (by rw [e_29]; rfl) (by decide) rfl ?_
      refine aw_goto 138 dX2_worth_39 (by decide) ?_
      refine aw_sub [2, 3, 4, 0, 5] rfl ?_
      exact t_X2_worth_138 hG  hK5 h
set_option maxRecDepth 20000 in
theorem tl_X2_worth_5 {l : Launch} {D : va_G} {cy : Nat → ClassId} {sz : Nat} {G : sw_G} (hG : sw_lay G)   {Q : Int32 → sw_I → sw_J → Prop} : ∀ (n : Nat) (x2 : Int32) (x3 : Int32) (x4 : Int32) (I : sw_I) (J : sw_J), wl_X2_worth_5   Q n x2 x3 x4 I J → AW l D cy sz RX2 cX2_worth 6 (some .int) false rm_X2_worth 0 0 (sw_qi G Q) 0 0 G I J 5 [(0, .ref (sz + 6)), (1, .ref (sz + 10)), (2, .int x2), (3, .int x3), (4, .int x4)] [] := by
  intro n
  induction n with
  | zero => intro x2 x3 x4 I J h; exact False.elim h
  | succ n ih => intro x2 x3 x4 I J h; exact tb_X2_worth_5 hG  ih h
set_option maxRecDepth 20000 in
theorem t_X2_worth {l : Launch} {D : va_G} {cy : Nat → ClassId} {sz : Nat} {G : sw_G} (hG : sw_lay G)   {Q : Int32 → sw_I → sw_J → Prop} {x2 : Int32} {I : sw_I} {J : sw_J} (h : wp_X2_worth x2 I J Q) : AW l D cy sz RX2 cX2_worth 6 (some .int) false rm_X2_worth 0 0 (sw_qi G Q) 0 0 G I J 0 [(0, .ref (sz + 6)), (1, .ref (sz + 10)), (2, .int x2)] [] := by
  unfold wp_X2_worth at h
  refine aw_iconst (v := 0) dX2_worth_0 (by decide) ?_
  refine aw_istore_n (lv' := [(3, .int 0), (0, .ref (sz + 6)), (1, .ref (sz + 10)), (2, .int x2)]) dX2_worth_1 rfl (by decide) rfl ?_
  refine aw_iconst (v := 0) dX2_worth_2 (by decide) ?_
  refine aw_istore (lv' := [(4, .int 0), (3, .int 0), (0, .ref (sz + 6)), (1, .ref (sz + 10)), (2, .int x2)]) dX2_worth_3 (by decide) rfl ?_
  refine aw_sub [2, 3, 4, 1, 0] rfl ?_
  obtain ⟨n_1, h⟩ := h
  exact tl_X2_worth_5 hG   n_1 x2 0 0 I J h
theorem M_X2_worth {l : Launch} {D : va_G} {cy : Nat → ClassId} {sz : Nat} {G : sw_G} (hG : sw_lay G)   {Q : Int32 → sw_I → sw_J → Prop} {x2 : Int32} {I : sw_I} {J : sw_J} (h : wp_X2_worth x2 I J Q) : Met l yX2_worth (Cond.code yX2_worth cX2_worth 6 (some .int) :: sw_T) rm_X2_worth (sw_Pc D cy sz [.ref (sz + 6), .ref (sz + 10), .int x2] G I J) (sw_Q D cy sz (sw_qi G Q)) 0 0 (fun q => sz ≤ q) :=
  sw_met (by decide) (fun q => by cases q) (Nat.le_of_ble_eq_true rfl) rfl (t_X2_worth hG  h)
-- X3_clear
abbrev rm_X3_clear : Room := { frames := 1, cells := 0, slots := 0, locals := 23 }
def wp_X3_clear (a0 : Nat) (I : sw_I) (J : sw_J) (Q : sw_I → sw_J → Prop) : Prop :=
  wp_J7_fill_53178 (a0 + 1) 10 (-1) I J (fun I_2 J_3 => wp_J7_fill_53178 (a0 + 2) 10 (-1) I_2 J_3 (fun I_5 J_6 => wp_J7_fill_53178 (a0 + 3) 10 0 I_5 J_6 (fun I_8 J_9 => ∀ I_10 : sw_I, I_10 = sw_up I_8 a0 3 (0 : Int32) → ∀ I_12 : sw_I, I_12 = sw_up I_10 a0 4 (0 : Int32) → ∀ I_14 : sw_I, I_14 = sw_up I_12 a0 5 (0 : Int32) → Q I_14 J_9)))
set_option maxRecDepth 20000 in
theorem t_X3_clear {l : Launch} {D : va_G} {cy : Nat → ClassId} {sz : Nat} {G : sw_G} (hG : True) {a0 : Nat} (ha0 : sw_mom G a0) {Q : sw_I → sw_J → Prop}  {I : sw_I} {J : sw_J} (h : wp_X3_clear a0 I J Q) : AW l D cy sz RX3 cX3_clear 1 none false rm_X3_clear 0 0 (sw_qv G Q) 0 0 G I J 0 [(0, .ref (sz + a0))] [] := by
  unfold wp_X3_clear at h
  refine aw_aload_n 0 dX3_clear_0 rfl rfl ?_
  refine gf_X3_0 fl_X3_9 ha0.1 ha0.2.1.1 dX3_clear_1 ?_
  refine aw_iconst (v := (-1)) dX3_clear_4 (by decide) ?_
  refine aw_callS wv_J7_fill_53178 (M_J7_fill_53178 trivial ⟨ha0.2.2.1, ha0.2.2.2.2.2.1⟩ h) ml_X3_31 rfl rfl (Nat.le_of_ble_eq_true rfl) ⟨rfl, rfl⟩ ⟨Nat.le_of_ble_eq_true rfl, Nat.le_of_ble_eq_true rfl⟩ ⟨Nat.le_refl _, Nat.le_refl _⟩ dX3_clear_5 (aw_kv fun I_2 J_3 h => ?_)
  refine aw_aload_n 0 dX3_clear_8 rfl rfl ?_
  refine gf_X3_1 fl_X3_15 ha0.1 ha0.2.1.2.1 dX3_clear_9 ?_
  refine aw_iconst (v := (-1)) dX3_clear_12 (by decide) ?_
  refine aw_callS wv_J7_fill_53178 (M_J7_fill_53178 trivial ⟨ha0.2.2.2.1, ha0.2.2.2.2.2.2.1⟩ h) ml_X3_31 rfl rfl (Nat.le_of_ble_eq_true rfl) ⟨rfl, rfl⟩ ⟨Nat.le_of_ble_eq_true rfl, Nat.le_of_ble_eq_true rfl⟩ ⟨Nat.le_refl _, Nat.le_refl _⟩ dX3_clear_13 (aw_kv fun I_5 J_6 h => ?_)
  refine aw_aload_n 0 dX3_clear_16 rfl rfl ?_
  refine gf_X3_2 fl_X3_18 ha0.1 ha0.2.1.2.2 dX3_clear_17 ?_
  refine aw_iconst (v := 0) dX3_clear_20 (by decide) ?_
  refine aw_callS wv_J7_fill_53178 (M_J7_fill_53178 trivial ⟨ha0.2.2.2.2.1, ha0.2.2.2.2.2.2.2⟩ h) ml_X3_31 rfl rfl (Nat.le_of_ble_eq_true rfl) ⟨rfl, rfl⟩ ⟨Nat.le_of_ble_eq_true rfl, Nat.le_of_ble_eq_true rfl⟩ ⟨Nat.le_refl _, Nat.le_refl _⟩ dX3_clear_21 (aw_kv fun I_8 J_9 h => ?_)
  refine aw_aload_n 0 dX3_clear_24 rfl rfl ?_
  refine aw_iconst (v := 0) dX3_clear_25 (by decide) ?_
  refine pf_X3_3 fl_X3_21 ha0.1 dX3_clear_26 (aw_nameI fun I_10 e_11 => ?_)
  have h := h I_10 e_11
  refine aw_aload_n 0 dX3_clear_29 rfl rfl ?_
  refine aw_iconst (v := 0) dX3_clear_30 (by decide) ?_
  refine pf_X3_4 fl_X3_25 ha0.1 dX3_clear_31 (aw_nameI fun I_12 e_13 => ?_)
  have h := h I_12 e_13
  refine aw_aload_n 0 dX3_clear_34 rfl rfl ?_
  refine aw_iconst (v := 0) dX3_clear_35 (by decide) ?_
  refine pf_X3_5 fl_X3_28 ha0.1 dX3_clear_36 (aw_nameI fun I_14 e_15 => ?_)
  have h := h I_14 e_15
  exact aw_vret rfl dX3_clear_39 ⟨rfl, rfl, h⟩
theorem M_X3_clear {l : Launch} {D : va_G} {cy : Nat → ClassId} {sz : Nat} {G : sw_G} (hG : True) {a0 : Nat} (ha0 : sw_mom G a0) {Q : sw_I → sw_J → Prop}  {I : sw_I} {J : sw_J} (h : wp_X3_clear a0 I J Q) : Met l yX3_clear (Cond.code yX3_clear cX3_clear 1 none :: sw_T) rm_X3_clear (sw_Pc D cy sz [.ref (sz + a0)] G I J) (sw_Q D cy sz (sw_qv G Q)) 0 0 (fun q => sz ≤ q) :=
  sw_met (by decide) (fun q => by cases q) (Nat.le_of_ble_eq_true rfl) rfl (t_X3_clear hG ha0 h)
-- X9_floors
abbrev rm_X9_floors : Room := { frames := 2, cells := 0, slots := 0, locals := 43 }
def wp_X9_floors (x1 : Int32) (I : sw_I) (J : sw_J) (Q : Int32 → sw_I → sw_J → Prop) : Prop :=
  sw_if (x1 < (2 : Int32)) (Q 0 I J) (sw_if ((9 : Int32) < x1) (Q 0 I J) (wp_X1_empty x1 I J (fun I_4 J_5 => wp_X3_clear 13 I_4 J_5 (fun I_7 J_8 => ∀ I_9 : sw_I, I_9 = sw_up I_7 109 4 (0 : Int32) → wp_X9_forgetWhatWas  I_9 J_8 (fun I_12 J_13 => Q 1 I_12 J_13)))))
set_option maxRecDepth 20000 in
theorem t_X9_floors {l : Launch} {D : va_G} {cy : Nat → ClassId} {sz : Nat} {G : sw_G} (hG : sw_lay G)   {Q : Int32 → sw_I → sw_J → Prop} {x1 : Int32} {I : sw_I} {J : sw_J} (h : wp_X9_floors x1 I J Q) : AW l D cy sz RX9 cX9_floors 2 (some .boolean) false rm_X9_floors 0 0 (sw_qi G Q) 0 0 G I J 0 [(0, .ref (sz + 0)), (1, .int x1)] [] := by
  unfold wp_X9_floors at h
  refine aw_iload_n 1 dX9_floors_0 rfl rfl ?_
  refine aw_iconst (v := 2) dX9_floors_1 (by decide) ?_
  refine aw_jlt 11 dX9_floors_2 (by decide) (fun c_1 => ?_) (fun c_1 => ?_)
  · have h := sw_if.t h c_1
    refine aw_iconst (v := 0) dX9_floors_11 (by decide) ?_
    exact aw_zret rfl rfl dX9_floors_12 ⟨rfl, _, rfl, h⟩
  · have h := sw_if.f h c_1
    refine aw_iload_n 1 dX9_floors_5 rfl rfl ?_
    refine aw_bipush (v := 9) dX9_floors_6 (by decide) ?_
    refine aw_jle 13 dX9_floors_8 (by decide) (fun c_2 => ?_) (fun c_2 => ?_)
    · have h := sw_if.f h c_2
      refine aw_aload_n 0 dX9_floors_13 rfl rfl ?_
      refine gf_X9_1 fl_X9_19 (lk0 hG) (lr0_1 hG) dX9_floors_14 ?_
      refine aw_iload_n 1 dX9_floors_17 rfl rfl ?_
      refine aw_callV wv_X1_empty (M_X1_empty hG  h) ml_X9_77 rfl (by decide) (lk3 hG) rfl rfl (Nat.le_of_ble_eq_true rfl) ⟨rfl, rfl⟩ ⟨Nat.le_of_ble_eq_true rfl, Nat.le_of_ble_eq_true rfl⟩ ⟨Nat.le_refl _, Nat.le_refl _⟩ dX9_floors_18 (aw_kv fun I_4 J_5 h => ?_)
      refine aw_aload_n 0 dX9_floors_21 rfl rfl ?_
      refine gf_X9_2 fl_X9_26 (lk0 hG) (lr0_2 hG) dX9_floors_22 ?_
      refine aw_callV wv_X3_clear (M_X3_clear trivial (lm13 hG) h) ml_X9_80 rfl (by decide) (lk13 hG) rfl rfl (Nat.le_of_ble_eq_true rfl) ⟨rfl, rfl⟩ ⟨Nat.le_of_ble_eq_true rfl, Nat.le_of_ble_eq_true rfl⟩ ⟨Nat.le_refl _, Nat.le_refl _⟩ dX9_floors_25 (aw_kv fun I_7 J_8 h => ?_)
      refine aw_aload_n 0 dX9_floors_28 rfl rfl ?_
      refine gf_X9_7 fl_X9_51 (lk0 hG) (lr0_7 hG) dX9_floors_29 ?_
      refine aw_iconst (v := 0) dX9_floors_32 (by decide) ?_
      refine pf_X7_4 fl_X9_83 (lk109 hG) dX9_floors_33 (aw_nameI fun I_9 e_10 => ?_)
      have h := h I_9 e_10
      refine aw_aload_n 0 dX9_floors_36 rfl rfl ?_
      refine aw_callV wv_X9_forgetWhatWas (M_X9_forgetWhatWas hG  h) ml_X9_84 rfl (by decide) (lk0 hG) rfl rfl (Nat.le_of_ble_eq_true rfl) ⟨rfl, rfl⟩ ⟨Nat.le_of_ble_eq_true rfl, Nat.le_of_ble_eq_true rfl⟩ ⟨Nat.le_refl _, Nat.le_refl _⟩ dX9_floors_37 (aw_kv fun I_12 J_13 h => ?_)
      refine aw_iconst (v := 1) dX9_floors_40 (by decide) ?_
      exact aw_zret rfl rfl dX9_floors_41 ⟨rfl, _, rfl, h⟩
    · have h := sw_if.t h c_2
      refine aw_iconst (v := 0) dX9_floors_11 (by decide) ?_
      exact aw_zret rfl rfl dX9_floors_12 ⟨rfl, _, rfl, h⟩
theorem M_X9_floors {l : Launch} {D : va_G} {cy : Nat → ClassId} {sz : Nat} {G : sw_G} (hG : sw_lay G)   {Q : Int32 → sw_I → sw_J → Prop} {x1 : Int32} {I : sw_I} {J : sw_J} (h : wp_X9_floors x1 I J Q) : Met l yX9_floors (Cond.code yX9_floors cX9_floors 2 (some .boolean) :: sw_T) rm_X9_floors (sw_Pc D cy sz [.ref (sz + 0), .int x1] G I J) (sw_Q D cy sz (sw_qi G Q)) 0 0 (fun q => sz ≤ q) :=
  sw_met (by decide) (fun q => by cases q) (Nat.le_of_ble_eq_true rfl) rfl (t_X9_floors hG  h)
-- X9_law
abbrev rm_X9_law : Room := { frames := 4, cells := 0, slots := 0, locals := 85 }
def wB_X9_law_33   (Q : Int32 → sw_I → sw_J → Prop) (x1 : Int32) (I : sw_I) (J : sw_J) : Prop :=
  ∀ I_1 : sw_I, I_1 = sw_up I 1 1 (0 : Int32) → sw_if (x1 < 0) (Q (0 : Int32) I_1 J) (Q ((-1 : Int32) - x1) I_1 J)
def wp_X9_law  (I : sw_I) (J : sw_J) (Q : Int32 → sw_I → sw_J → Prop) : Prop :=
  wp_X2_flawOf  I J (fun r_1 I_2 J_3 => sw_if (r_1 < 0) (wp_X2_take  I_2 J_3 (fun I_6 J_7 => wB_X9_law_33   Q r_1 I_6 J_7)) (wB_X9_law_33   Q r_1 I_2 J_3))
set_option maxRecDepth 20000 in
theorem t_X9_law_33 {l : Launch} {D : va_G} {cy : Nat → ClassId} {sz : Nat} {G : sw_G} (hG : sw_lay G)   {Q : Int32 → sw_I → sw_J → Prop} {x1 : Int32} {I : sw_I} {J : sw_J} (h : wB_X9_law_33   Q x1 I J) : AW l D cy sz RX9 cX9_law 2 (some .int) false rm_X9_law 0 0 (sw_qi G Q) 0 0 G I J 33 [(0, .ref (sz + 0)), (1, .int x1)] [] := by
  unfold wB_X9_law_33 at h
  refine aw_aload_n 0 dX9_law_33 rfl rfl ?_
  refine gf_X9_0 fl_X9_12 (lk0 hG) (lr0_0 hG) dX9_law_34 ?_
  refine aw_iconst (v := 0) dX9_law_37 (by decide) ?_
  refine pf_X8_1 fl_X9_70 (lk1 hG) dX9_law_38 (aw_nameI fun I_1 e_2 => ?_)
  have h := h I_1 e_2
  refine aw_iload_n 1 dX9_law_41 rfl rfl ?_
  refine aw_zge 49 dX9_law_42 (by decide) (fun c_3 => ?_) (fun c_3 => ?_)
  · have h := sw_if.f h c_3
    refine aw_iconst (v := (-1)) dX9_law_49 (by decide) ?_
    refine aw_iload_n 1 dX9_law_50 rfl rfl ?_
    refine aw_isub dX9_law_51 ?_
    exact aw_iret rfl dX9_law_52 ⟨rfl, _, rfl, h⟩
  · have h := sw_if.t h c_3
    refine aw_iconst (v := 0) dX9_law_45 (by decide) ?_
    refine aw_goto 52 dX9_law_46 (by decide) ?_
    exact aw_iret rfl dX9_law_52 ⟨rfl, _, rfl, h⟩
set_option maxRecDepth 20000 in
theorem t_X9_law {l : Launch} {D : va_G} {cy : Nat → ClassId} {sz : Nat} {G : sw_G} (hG : sw_lay G)   {Q : Int32 → sw_I → sw_J → Prop}  {I : sw_I} {J : sw_J} (h : wp_X9_law  I J Q) : AW l D cy sz RX9 cX9_law 2 (some .int) false rm_X9_law 0 0 (sw_qi G Q) 0 0 G I J 0 [(0, .ref (sz + 0))] [] := by
  unfold wp_X9_law at h
  refine aw_aload_n 0 dX9_law_0 rfl rfl ?_
  refine gf_X9_1 fl_X9_19 (lk0 hG) (lr0_1 hG) dX9_law_1 ?_
  refine gf_X1_5 fl_X9_98 (lk3 hG) (lr3_5 hG) dX9_law_4 ?_
  refine aw_aload_n 0 dX9_law_7 rfl rfl ?_
  refine gf_X9_0 fl_X9_12 (lk0 hG) (lr0_0 hG) dX9_law_8 ?_
  refine aw_callV wv_X2_flawOf (M_X2_flawOf hG  h) ml_X9_102 rfl (by decide) (lk6 hG) rfl rfl (Nat.le_of_ble_eq_true rfl) ⟨rfl, rfl⟩ ⟨Nat.le_of_ble_eq_true rfl, Nat.le_of_ble_eq_true rfl⟩ ⟨Nat.le_refl _, Nat.le_refl _⟩ dX9_law_11 (aw_ki fun r_1 I_2 J_3 h => ?_)
  refine aw_istore_n (lv' := [(1, .int r_1), (0, .ref (sz + 0))]) dX9_law_14 rfl (by decide) rfl ?_
  refine aw_iload_n 0 dX9_law_15 rfl rfl ?_
  refine aw_zge 33 dX9_law_16 (by decide) (fun c_4 => ?_) (fun c_4 => ?_)
  · have h := sw_if.f h c_4
    refine aw_sub [1, 0] rfl ?_
    exact t_X9_law_33 hG   h
  · have h := sw_if.t h c_4
    refine aw_aload_n 1 dX9_law_19 rfl rfl ?_
    refine gf_X9_1 fl_X9_19 (lk0 hG) (lr0_1 hG) dX9_law_20 ?_
    refine gf_X1_5 fl_X9_98 (lk3 hG) (lr3_5 hG) dX9_law_23 ?_
    refine aw_aload_n 1 dX9_law_26 rfl rfl ?_
    refine gf_X9_0 fl_X9_12 (lk0 hG) (lr0_0 hG) dX9_law_27 ?_
    refine aw_callV wv_X2_take (M_X2_take hG  h) ml_X9_108 rfl (by decide) (lk6 hG) rfl rfl (Nat.le_of_ble_eq_true rfl) ⟨rfl, rfl⟩ ⟨Nat.le_of_ble_eq_true rfl, Nat.le_of_ble_eq_true rfl⟩ ⟨Nat.le_refl _, Nat.le_refl _⟩ dX9_law_30 (aw_kv fun I_6 J_7 h => ?_)
    refine aw_sub [1, 0] rfl ?_
    exact t_X9_law_33 hG   h
theorem M_X9_law {l : Launch} {D : va_G} {cy : Nat → ClassId} {sz : Nat} {G : sw_G} (hG : sw_lay G)   {Q : Int32 → sw_I → sw_J → Prop}  {I : sw_I} {J : sw_J} (h : wp_X9_law  I J Q) : Met l yX9_law (Cond.code yX9_law cX9_law 2 (some .int) :: sw_T) rm_X9_law (sw_Pc D cy sz [.ref (sz + 0)] G I J) (sw_Q D cy sz (sw_qi G Q)) 0 0 (fun q => sz ≤ q) :=
  sw_met (by decide) (fun q => by cases q) (Nat.le_of_ble_eq_true rfl) rfl (t_X9_law hG  h)
-- X9_sheet
abbrev rm_X9_sheet : Room := { frames := 1, cells := 0, slots := 0, locals := 21 }
def wB_X9_sheet_130  (K50 : Int32 → Int32 → Int32 → Int32 → Int32 → Int32 → sw_I → sw_J → Prop) (Q : Int32 → sw_I → sw_J → Prop) (x1 : Int32) (x4 : Int32) (x5 : Int32) (x6 : Int32) (x8 : Int32) (s0 : Int32) (s1 : Int32) (I : sw_I) (J : sw_J) : Prop :=
  ∀ y_1 : Int32, y_1 = s0 + s1 → ∀ y_3 : Int32, y_3 = x6 + x4 → ∀ y_5 : Int32, y_5 = x8 + 1 → K50 x1 x4 x5 y_3 y_1 y_5 I J
def wB_X9_sheet_108  (K50 : Int32 → Int32 → Int32 → Int32 → Int32 → Int32 → sw_I → sw_J → Prop) (Q : Int32 → sw_I → sw_J → Prop) (x1 : Int32) (x4 : Int32) (x5 : Int32) (x6 : Int32) (x7 : Int32) (x8 : Int32) (s1 : Int32) (s2 : Int32) (I : sw_I) (J : sw_J) : Prop :=
  vp_in s1 10 ∧ ∀ I_2 : sw_I, I_2 = sw_up I 15 s1.toNatClampNeg s2 → vp_in x8 10 ∧ sw_if ((I_2 15 x8.toNatClampNeg) = (-1 : Int32)) (wB_X9_sheet_130  K50 Q x1 x4 x5 x6 x8 x7 0 I_2 J) (wB_X9_sheet_130  K50 Q x1 x4 x5 x6 x8 x7 1 I_2 J)
def wB_X9_sheet_79  (K50 : Int32 → Int32 → Int32 → Int32 → Int32 → Int32 → sw_I → sw_J → Prop) (Q : Int32 → sw_I → sw_J → Prop) (x1 : Int32) (x4 : Int32) (x5 : Int32) (x6 : Int32) (x7 : Int32) (x8 : Int32) (s0 : Int32) (I : sw_I) (J : sw_J) : Prop :=
  wp_X1_hasFloor s0 I J (fun r_1 I_2 J_3 => sw_if (r_1 = 0) (wB_X9_sheet_108  K50 Q x1 x4 x5 x6 x7 x8 x8 (-1) I_2 J_3) (wB_X9_sheet_108  K50 Q x1 x4 x5 x6 x7 x8 x8 s0 I_2 J_3))
def wb_X9_sheet_50  (K50 : Int32 → Int32 → Int32 → Int32 → Int32 → Int32 → sw_I → sw_J → Prop) (Q : Int32 → sw_I → sw_J → Prop) (x1 : Int32) (x4 : Int32) (x5 : Int32) (x6 : Int32) (x7 : Int32) (x8 : Int32) (I : sw_I) (J : sw_J) : Prop :=
  sw_if (x8 < (I 3 2)) (sw_if (x8 < x5) (wp_X9_asKind x1 x6 I J (fun r_4 I_5 J_6 => wB_X9_sheet_79  K50 Q x1 x4 x5 x6 x7 x8 r_4 I_5 J_6)) (wB_X9_sheet_79  K50 Q x1 x4 x5 x6 x7 x8 (-1) I J)) (sw_if (x1 = (3 : Int32)) (Q (-3 : Int32) I J) (Q x7 I J))
def wl_X9_sheet_50   (Q : Int32 → sw_I → sw_J → Prop) : Nat → Int32 → Int32 → Int32 → Int32 → Int32 → Int32 → sw_I → sw_J → Prop
  | 0 => fun _ _ _ _ _ _ _ _ => False
  | n + 1 => fun x1 x4 x5 x6 x7 x8 I J => wb_X9_sheet_50  (wl_X9_sheet_50   Q n) Q x1 x4 x5 x6 x7 x8 I J
def wB_X9_sheet_39   (Q : Int32 → sw_I → sw_J → Prop) (x1 : Int32) (x3 : Int32) (x4 : Int32) (s0 : Int32) (I : sw_I) (J : sw_J) : Prop :=
  ∃ n_1 : Nat, wl_X9_sheet_50   Q n_1 x1 x4 s0 x3 0 0 I J
def wB_X9_sheet_29   (Q : Int32 → sw_I → sw_J → Prop) (x1 : Int32) (x2 : Int32) (x3 : Int32) (x4 : Int32) (I : sw_I) (J : sw_J) : Prop :=
  sw_if (x1 = (3 : Int32)) (wB_X9_sheet_39   Q x1 x3 x4 0 I J) (wB_X9_sheet_39   Q x1 x3 x4 x2 I J)
def wp_X9_sheet (x1 : Int32) (x2 : Int32) (x3 : Int32) (x4 : Int32) (I : sw_I) (J : sw_J) (Q : Int32 → sw_I → sw_J → Prop) : Prop :=
  sw_if (x1 < 0) (Q (-1 : Int32) I J) (sw_if ((3 : Int32) < x1) (Q (-1 : Int32) I J) (sw_if ((10 : Int32) < x2) (Q (-1 : Int32) I J) (sw_if (x1 = (3 : Int32)) (wB_X9_sheet_29   Q x1 x2 x3 x4 I J) (sw_if (x2 < 0) (Q (-2 : Int32) I J) (wB_X9_sheet_29   Q x1 x2 x3 x4 I J)))))
set_option maxRecDepth 20000 in
theorem t_X9_sheet_130 {l : Launch} {D : va_G} {cy : Nat → ClassId} {sz : Nat} {G : sw_G} (hG : sw_lay G)   {Q : Int32 → sw_I → sw_J → Prop} {K50 : Int32 → Int32 → Int32 → Int32 → Int32 → Int32 → sw_I → sw_J → Prop} (hK50 : ∀ (x1 : Int32) (x4 : Int32) (x5 : Int32) (x6 : Int32) (x7 : Int32) (x8 : Int32) (I : sw_I) (J : sw_J), K50 x1 x4 x5 x6 x7 x8 I J → AW l D cy sz RX9 cX9_sheet 10 (some .int) false rm_X9_sheet 0 0 (sw_qi G Q) 0 0 G I J 50 [(0, .ref (sz + 0)), (1, .int x1), (4, .int x4), (5, .int x5), (6, .int x6), (7, .int x7), (8, .int x8)] []) {x1 : Int32} {x4 : Int32} {x5 : Int32} {x6 : Int32} {x8 : Int32} {s0 : Int32} {s1 : Int32} {I : sw_I} {J : sw_J} (h : wB_X9_sheet_130  K50 Q x1 x4 x5 x6 x8 s0 s1 I J) : AW l D cy sz RX9 cX9_sheet 10 (some .int) false rm_X9_sheet 0 0 (sw_qi G Q) 0 0 G I J 130 [(0, .ref (sz + 0)), (1, .int x1), (4, .int x4), (5, .int x5), (6, .int x6), (8, .int x8)] [.int s1, .int s0] := by
  unfold wB_X9_sheet_130 at h
  refine aw_iadd dX9_sheet_130 ?_
  refine aw_topi (fun y_1 e_2 => ?_)
  have h := h y_1 e_2
  refine aw_istore (lv' := [(7, .int y_1), (0, .ref (sz + 0)), (1, .int x1), (4, .int x4), (5, .int x5), (6, .int x6), (8, .int x8)]) dX9_sheet_131 (by decide) rfl ?_
  refine aw_iload 5 dX9_sheet_133 rfl ?_
  refine aw_iload 3 dX9_sheet_135 rfl ?_
  refine aw_iadd dX9_sheet_137 ?_
  refine aw_topi (fun y_3 e_4 => ?_)
  have h := h y_3 e_4
  refine aw_istore (lv' := [(6, .int y_3), (7, .int y_1), (0, .ref (sz + 0)), (1, .int x1), (4, .int x4), (5, .int x5), (8, .int x8)]) dX9_sheet_138 (by decide) rfl ?_
  obtain ⟨y_5, e_6⟩ : ∃ q : Int32, q = x8 + 1 := ⟨_, rfl⟩
  have h := h y_5 e_6
  refine aw_iinc (lv' := [(8, .int y_5), (6, .int y_3), (7, .int y_1), (0, .ref (sz + 0)), (1, .int x1), (4, .int x4), (5, .int x5)]) 6 dX9_sheet_140 rfl (by rw [e_6]; rfl) (by decide) rfl ?_
  refine aw_goto 50 dX9_sheet_143 (by decide) ?_
  refine aw_sub [3, 4, 5, 6, 1, 2, 0] rfl ?_
  exact hK50 x1 x4 x5 y_3 y_1 y_5 I J h
set_option maxRecDepth 20000 in
theorem t_X9_sheet_108 {l : Launch} {D : va_G} {cy : Nat → ClassId} {sz : Nat} {G : sw_G} (hG : sw_lay G)   {Q : Int32 → sw_I → sw_J → Prop} {K50 : Int32 → Int32 → Int32 → Int32 → Int32 → Int32 → sw_I → sw_J → Prop} (hK50 : ∀ (x1 : Int32) (x4 : Int32) (x5 : Int32) (x6 : Int32) (x7 : Int32) (x8 : Int32) (I : sw_I) (J : sw_J), K50 x1 x4 x5 x6 x7 x8 I J → AW l D cy sz RX9 cX9_sheet 10 (some .int) false rm_X9_sheet 0 0 (sw_qi G Q) 0 0 G I J 50 [(0, .ref (sz + 0)), (1, .int x1), (4, .int x4), (5, .int x5), (6, .int x6), (7, .int x7), (8, .int x8)] []) {x1 : Int32} {x4 : Int32} {x5 : Int32} {x6 : Int32} {x7 : Int32} {x8 : Int32} {s1 : Int32} {s2 : Int32} {I : sw_I} {J : sw_J} (h : wB_X9_sheet_108  K50 Q x1 x4 x5 x6 x7 x8 s1 s2 I J) : AW l D cy sz RX9 cX9_sheet 10 (some .int) false rm_X9_sheet 0 0 (sw_qi G Q) 0 0 G I J 108 [(0, .ref (sz + 0)), (1, .int x1), (4, .int x4), (5, .int x5), (6, .int x6), (7, .int x7), (8, .int x8)] [.int s2, .int s1, .ref (sz + 15)] := by
  unfold wB_X9_sheet_108 at h
  obtain ⟨hi_1, h⟩ := h
  refine aw_ist dX9_sheet_108 (lk15 hG) (ln15 hG) hi_1 (aw_nameI fun I_2 e_3 => ?_)
  have h := h I_2 e_3
  refine aw_iload 5 dX9_sheet_109 rfl ?_
  refine aw_aload_n 0 dX9_sheet_111 rfl rfl ?_
  refine gf_X9_2 fl_X9_26 (lk0 hG) (lr0_2 hG) dX9_sheet_112 ?_
  refine gf_X3_1 fl_X9_123 (lk13 hG) (lr13_1 hG) dX9_sheet_115 ?_
  refine aw_iload 6 dX9_sheet_118 rfl ?_
  obtain ⟨hi_4, h⟩ := h
  refine aw_ild dX9_sheet_120 (lk15 hG) (ln15 hG) hi_4 ?_
  refine aw_iconst (v := (-1)) dX9_sheet_121 (by decide) ?_
  refine aw_jne 129 dX9_sheet_122 (by decide) (fun c_5 => ?_) (fun c_5 => ?_)
  · have h := sw_if.f h c_5
    refine aw_iconst (v := 1) dX9_sheet_129 (by decide) ?_
    refine aw_sub [0, 1, 2, 3, 4, 6] rfl ?_
    exact t_X9_sheet_130 hG  hK50 h
  · have h := sw_if.t h c_5
    refine aw_iconst (v := 0) dX9_sheet_125 (by decide) ?_
    refine aw_goto 130 dX9_sheet_126 (by decide) ?_
    refine aw_sub [0, 1, 2, 3, 4, 6] rfl ?_
    exact t_X9_sheet_130 hG  hK50 h
set_option maxRecDepth 20000 in
theorem t_X9_sheet_79 {l : Launch} {D : va_G} {cy : Nat → ClassId} {sz : Nat} {G : sw_G} (hG : sw_lay G)   {Q : Int32 → sw_I → sw_J → Prop} {K50 : Int32 → Int32 → Int32 → Int32 → Int32 → Int32 → sw_I → sw_J → Prop} (hK50 : ∀ (x1 : Int32) (x4 : Int32) (x5 : Int32) (x6 : Int32) (x7 : Int32) (x8 : Int32) (I : sw_I) (J : sw_J), K50 x1 x4 x5 x6 x7 x8 I J → AW l D cy sz RX9 cX9_sheet 10 (some .int) false rm_X9_sheet 0 0 (sw_qi G Q) 0 0 G I J 50 [(0, .ref (sz + 0)), (1, .int x1), (4, .int x4), (5, .int x5), (6, .int x6), (7, .int x7), (8, .int x8)] []) {x1 : Int32} {x4 : Int32} {x5 : Int32} {x6 : Int32} {x7 : Int32} {x8 : Int32} {s0 : Int32} {I : sw_I} {J : sw_J} (h : wB_X9_sheet_79  K50 Q x1 x4 x5 x6 x7 x8 s0 I J) : AW l D cy sz RX9 cX9_sheet 10 (some .int) false rm_X9_sheet 0 0 (sw_qi G Q) 0 0 G I J 79 [(0, .ref (sz + 0)), (1, .int x1), (4, .int x4), (5, .int x5), (6, .int x6), (7, .int x7), (8, .int x8)] [.int s0] := by
  unfold wB_X9_sheet_79 at h
  refine aw_istore (lv' := [(9, .int s0), (0, .ref (sz + 0)), (1, .int x1), (4, .int x4), (5, .int x5), (6, .int x6), (7, .int x7), (8, .int x8)]) dX9_sheet_79 (by decide) rfl ?_
  refine aw_aload_n 1 dX9_sheet_81 rfl rfl ?_
  refine gf_X9_2 fl_X9_26 (lk0 hG) (lr0_2 hG) dX9_sheet_82 ?_
  refine gf_X3_1 fl_X9_123 (lk13 hG) (lr13_1 hG) dX9_sheet_85 ?_
  refine aw_iload 7 dX9_sheet_88 rfl ?_
  refine aw_aload_n 1 dX9_sheet_90 rfl rfl ?_
  refine gf_X9_1 fl_X9_19 (lk0 hG) (lr0_1 hG) dX9_sheet_91 ?_
  refine aw_iload 0 dX9_sheet_94 rfl ?_
  refine aw_callV wv_X1_hasFloor (M_X1_hasFloor hG  h) ml_X9_138 rfl (by decide) (lk3 hG) rfl rfl (Nat.le_of_ble_eq_true rfl) ⟨rfl, rfl⟩ ⟨Nat.le_of_ble_eq_true rfl, Nat.le_of_ble_eq_true rfl⟩ ⟨Nat.le_refl _, Nat.le_refl _⟩ dX9_sheet_96 (aw_ki fun r_1 I_2 J_3 h => ?_)
  refine aw_zeq 107 dX9_sheet_99 (by decide) (fun c_4 => ?_) (fun c_4 => ?_)
  · have h := sw_if.t h c_4
    refine aw_iconst (v := (-1)) dX9_sheet_107 (by decide) ?_
    refine aw_sub [1, 2, 3, 4, 5, 6, 7] rfl ?_
    exact t_X9_sheet_108 hG  hK50 h
  · have h := sw_if.f h c_4
    refine aw_iload 0 dX9_sheet_102 rfl ?_
    refine aw_goto 108 dX9_sheet_104 (by decide) ?_
    refine aw_sub [1, 2, 3, 4, 5, 6, 7] rfl ?_
    exact t_X9_sheet_108 hG  hK50 h
set_option maxRecDepth 20000 in
theorem tb_X9_sheet_50 {l : Launch} {D : va_G} {cy : Nat → ClassId} {sz : Nat} {G : sw_G} (hG : sw_lay G)   {Q : Int32 → sw_I → sw_J → Prop} {K50 : Int32 → Int32 → Int32 → Int32 → Int32 → Int32 → sw_I → sw_J → Prop} (hK50 : ∀ (x1 : Int32) (x4 : Int32) (x5 : Int32) (x6 : Int32) (x7 : Int32) (x8 : Int32) (I : sw_I) (J : sw_J), K50 x1 x4 x5 x6 x7 x8 I J → AW l D cy sz RX9 cX9_sheet 10 (some .int) false rm_X9_sheet 0 0 (sw_qi G Q) 0 0 G I J 50 [(0, .ref (sz + 0)), (1, .int x1), (4, .int x4), (5, .int x5), (6, .int x6), (7, .int x7), (8, .int x8)] []) {x1 : Int32} {x4 : Int32} {x5 : Int32} {x6 : Int32} {x7 : Int32} {x8 : Int32} {I : sw_I} {J : sw_J} (h : wb_X9_sheet_50  K50 Q x1 x4 x5 x6 x7 x8 I J) : AW l D cy sz RX9 cX9_sheet 10 (some .int) false rm_X9_sheet 0 0 (sw_qi G Q) 0 0 G I J 50 [(0, .ref (sz + 0)), (1, .int x1), (4, .int x4), (5, .int x5), (6, .int x6), (7, .int x7), (8, .int x8)] [] := by
  unfold wb_X9_sheet_50 at h
  refine aw_iload 6 dX9_sheet_50 rfl ?_
  refine aw_aload_n 0 dX9_sheet_52 rfl rfl ?_
  refine gf_X9_1 fl_X9_19 (lk0 hG) (lr0_1 hG) dX9_sheet_53 ?_
  refine gf_X1_2 fl_X9_144 (lk3 hG) dX9_sheet_56 ?_
  refine aw_jge 146 dX9_sheet_59 (by decide) (fun c_1 => ?_) (fun c_1 => ?_)
  · have h := sw_if.f h c_1
    refine aw_iload_n 1 dX9_sheet_146 rfl rfl ?_
    refine aw_iconst (v := 3) dX9_sheet_147 (by decide) ?_
    refine aw_jne 156 dX9_sheet_148 (by decide) (fun c_2 => ?_) (fun c_2 => ?_)
    · have h := sw_if.f h c_2
      refine aw_iload 5 dX9_sheet_156 rfl ?_
      exact aw_iret rfl dX9_sheet_158 ⟨rfl, _, rfl, h⟩
    · have h := sw_if.t h c_2
      refine aw_bipush (v := (-3)) dX9_sheet_151 (by decide) ?_
      refine aw_goto 158 dX9_sheet_153 (by decide) ?_
      exact aw_iret rfl dX9_sheet_158 ⟨rfl, _, rfl, h⟩
  · have h := sw_if.t h c_1
    refine aw_iload 6 dX9_sheet_62 rfl ?_
    refine aw_iload 3 dX9_sheet_64 rfl ?_
    refine aw_jge 78 dX9_sheet_66 (by decide) (fun c_3 => ?_) (fun c_3 => ?_)
    · have h := sw_if.f h c_3
      refine aw_iconst (v := (-1)) dX9_sheet_78 (by decide) ?_
      refine aw_sub [0, 1, 2, 3, 4, 5, 6] rfl ?_
      exact t_X9_sheet_79 hG  hK50 h
    · have h := sw_if.t h c_3
      refine aw_iload_n 1 dX9_sheet_69 rfl rfl ?_
      refine aw_iload 4 dX9_sheet_70 rfl ?_
      refine aw_callS wv_X9_asKind (M_X9_asKind trivial  h) ml_X9_147 rfl rfl (Nat.le_of_ble_eq_true rfl) ⟨rfl, rfl⟩ ⟨Nat.le_of_ble_eq_true rfl, Nat.le_of_ble_eq_true rfl⟩ ⟨Nat.le_refl _, Nat.le_refl _⟩ dX9_sheet_72 (aw_ki fun r_4 I_5 J_6 h => ?_)
      refine aw_goto 79 dX9_sheet_75 (by decide) ?_
      refine aw_sub [0, 1, 2, 3, 4, 5, 6] rfl ?_
      exact t_X9_sheet_79 hG  hK50 h
set_option maxRecDepth 20000 in
theorem tl_X9_sheet_50 {l : Launch} {D : va_G} {cy : Nat → ClassId} {sz : Nat} {G : sw_G} (hG : sw_lay G)   {Q : Int32 → sw_I → sw_J → Prop} : ∀ (n : Nat) (x1 : Int32) (x4 : Int32) (x5 : Int32) (x6 : Int32) (x7 : Int32) (x8 : Int32) (I : sw_I) (J : sw_J), wl_X9_sheet_50   Q n x1 x4 x5 x6 x7 x8 I J → AW l D cy sz RX9 cX9_sheet 10 (some .int) false rm_X9_sheet 0 0 (sw_qi G Q) 0 0 G I J 50 [(0, .ref (sz + 0)), (1, .int x1), (4, .int x4), (5, .int x5), (6, .int x6), (7, .int x7), (8, .int x8)] [] := by
  intro n
  induction n with
  | zero => intro x1 x4 x5 x6 x7 x8 I J h; exact False.elim h
  | succ n ih => intro x1 x4 x5 x6 x7 x8 I J h; exact tb_X9_sheet_50 hG  ih h
set_option maxRecDepth 20000 in
theorem t_X9_sheet_39 {l : Launch} {D : va_G} {cy : Nat → ClassId} {sz : Nat} {G : sw_G} (hG : sw_lay G)   {Q : Int32 → sw_I → sw_J → Prop} {x1 : Int32} {x3 : Int32} {x4 : Int32} {s0 : Int32} {I : sw_I} {J : sw_J} (h : wB_X9_sheet_39   Q x1 x3 x4 s0 I J) : AW l D cy sz RX9 cX9_sheet 10 (some .int) false rm_X9_sheet 0 0 (sw_qi G Q) 0 0 G I J 39 [(0, .ref (sz + 0)), (1, .int x1), (3, .int x3), (4, .int x4)] [.int s0] := by
  unfold wB_X9_sheet_39 at h
  refine aw_istore (lv' := [(5, .int s0), (0, .ref (sz + 0)), (1, .int x1), (3, .int x3), (4, .int x4)]) dX9_sheet_39 (by decide) rfl ?_
  refine aw_iload_n 3 dX9_sheet_41 rfl rfl ?_
  refine aw_istore (lv' := [(6, .int x3), (5, .int s0), (0, .ref (sz + 0)), (1, .int x1), (3, .int x3), (4, .int x4)]) dX9_sheet_42 (by decide) rfl ?_
  refine aw_iconst (v := 0) dX9_sheet_44 (by decide) ?_
  refine aw_istore (lv' := [(7, .int 0), (6, .int x3), (5, .int s0), (0, .ref (sz + 0)), (1, .int x1), (3, .int x3), (4, .int x4)]) dX9_sheet_45 (by decide) rfl ?_
  refine aw_iconst (v := 0) dX9_sheet_47 (by decide) ?_
  refine aw_istore (lv' := [(8, .int 0), (7, .int 0), (6, .int x3), (5, .int s0), (0, .ref (sz + 0)), (1, .int x1), (3, .int x3), (4, .int x4)]) dX9_sheet_48 (by decide) rfl ?_
  refine aw_sub [4, 5, 7, 3, 2, 1, 0] rfl ?_
  obtain ⟨n_1, h⟩ := h
  exact tl_X9_sheet_50 hG   n_1 x1 x4 s0 x3 0 0 I J h
set_option maxRecDepth 20000 in
theorem t_X9_sheet_29 {l : Launch} {D : va_G} {cy : Nat → ClassId} {sz : Nat} {G : sw_G} (hG : sw_lay G)   {Q : Int32 → sw_I → sw_J → Prop} {x1 : Int32} {x2 : Int32} {x3 : Int32} {x4 : Int32} {I : sw_I} {J : sw_J} (h : wB_X9_sheet_29   Q x1 x2 x3 x4 I J) : AW l D cy sz RX9 cX9_sheet 10 (some .int) false rm_X9_sheet 0 0 (sw_qi G Q) 0 0 G I J 29 [(0, .ref (sz + 0)), (1, .int x1), (2, .int x2), (3, .int x3), (4, .int x4)] [] := by
  unfold wB_X9_sheet_29 at h
  refine aw_iload_n 1 dX9_sheet_29 rfl rfl ?_
  refine aw_iconst (v := 3) dX9_sheet_30 (by decide) ?_
  refine aw_jne 38 dX9_sheet_31 (by decide) (fun c_1 => ?_) (fun c_1 => ?_)
  · have h := sw_if.f h c_1
    refine aw_iload_n 2 dX9_sheet_38 rfl rfl ?_
    refine aw_sub [0, 1, 3, 4] rfl ?_
    exact t_X9_sheet_39 hG   h
  · have h := sw_if.t h c_1
    refine aw_iconst (v := 0) dX9_sheet_34 (by decide) ?_
    refine aw_goto 39 dX9_sheet_35 (by decide) ?_
    refine aw_sub [0, 1, 3, 4] rfl ?_
    exact t_X9_sheet_39 hG   h
set_option maxRecDepth 20000 in
theorem t_X9_sheet {l : Launch} {D : va_G} {cy : Nat → ClassId} {sz : Nat} {G : sw_G} (hG : sw_lay G)   {Q : Int32 → sw_I → sw_J → Prop} {x1 : Int32} {x2 : Int32} {x3 : Int32} {x4 : Int32} {I : sw_I} {J : sw_J} (h : wp_X9_sheet x1 x2 x3 x4 I J Q) : AW l D cy sz RX9 cX9_sheet 10 (some .int) false rm_X9_sheet 0 0 (sw_qi G Q) 0 0 G I J 0 [(0, .ref (sz + 0)), (1, .int x1), (2, .int x2), (3, .int x3), (4, .int x4)] [] := by
  unfold wp_X9_sheet at h
  refine aw_iload_n 1 dX9_sheet_0 rfl rfl ?_
  refine aw_zlt 15 dX9_sheet_1 (by decide) (fun c_1 => ?_) (fun c_1 => ?_)
  · have h := sw_if.t h c_1
    refine aw_iconst (v := (-1)) dX9_sheet_15 (by decide) ?_
    exact aw_iret rfl dX9_sheet_16 ⟨rfl, _, rfl, h⟩
  · have h := sw_if.f h c_1
    refine aw_iload_n 1 dX9_sheet_4 rfl rfl ?_
    refine aw_iconst (v := 3) dX9_sheet_5 (by decide) ?_
    refine aw_jgt 15 dX9_sheet_6 (by decide) (fun c_2 => ?_) (fun c_2 => ?_)
    · have h := sw_if.t h c_2
      refine aw_iconst (v := (-1)) dX9_sheet_15 (by decide) ?_
      exact aw_iret rfl dX9_sheet_16 ⟨rfl, _, rfl, h⟩
    · have h := sw_if.f h c_2
      refine aw_iload_n 2 dX9_sheet_9 rfl rfl ?_
      refine aw_bipush (v := 10) dX9_sheet_10 (by decide) ?_
      refine aw_jle 17 dX9_sheet_12 (by decide) (fun c_3 => ?_) (fun c_3 => ?_)
      · have h := sw_if.f h c_3
        refine aw_iload_n 1 dX9_sheet_17 rfl rfl ?_
        refine aw_iconst (v := 3) dX9_sheet_18 (by decide) ?_
        refine aw_jeq 29 dX9_sheet_19 (by decide) (fun c_4 => ?_) (fun c_4 => ?_)
        · have h := sw_if.t h c_4
          refine aw_sub [0, 1, 2, 3, 4] rfl ?_
          exact t_X9_sheet_29 hG   h
        · have h := sw_if.f h c_4
          refine aw_iload_n 2 dX9_sheet_22 rfl rfl ?_
          refine aw_zge 29 dX9_sheet_23 (by decide) (fun c_5 => ?_) (fun c_5 => ?_)
          · have h := sw_if.f h c_5
            refine aw_sub [0, 1, 2, 3, 4] rfl ?_
            exact t_X9_sheet_29 hG   h
          · have h := sw_if.t h c_5
            refine aw_bipush (v := (-2)) dX9_sheet_26 (by decide) ?_
            exact aw_iret rfl dX9_sheet_28 ⟨rfl, _, rfl, h⟩
      · have h := sw_if.t h c_3
        refine aw_iconst (v := (-1)) dX9_sheet_15 (by decide) ?_
        exact aw_iret rfl dX9_sheet_16 ⟨rfl, _, rfl, h⟩
theorem M_X9_sheet {l : Launch} {D : va_G} {cy : Nat → ClassId} {sz : Nat} {G : sw_G} (hG : sw_lay G)   {Q : Int32 → sw_I → sw_J → Prop} {x1 : Int32} {x2 : Int32} {x3 : Int32} {x4 : Int32} {I : sw_I} {J : sw_J} (h : wp_X9_sheet x1 x2 x3 x4 I J Q) : Met l yX9_sheet (Cond.code yX9_sheet cX9_sheet 10 (some .int) :: sw_T) rm_X9_sheet (sw_Pc D cy sz [.ref (sz + 0), .int x1, .int x2, .int x3, .int x4] G I J) (sw_Q D cy sz (sw_qi G Q)) 0 0 (fun q => sz ≤ q) :=
  sw_met (by decide) (fun q => by cases q) (Nat.le_of_ble_eq_true rfl) rfl (t_X9_sheet hG  h)
-- X9_crowd
abbrev rm_X9_crowd : Room := { frames := 1, cells := 0, slots := 0, locals := 25 }
def wb_X9_crowd_26  (K26 : Int32 → Int32 → Int32 → Int32 → sw_I → sw_J → Prop) (Q : Int32 → sw_I → sw_J → Prop) (x2 : Int32) (x3 : Int32) (x4 : Int32) (x5 : Int32) (I : sw_I) (J : sw_J) : Prop :=
  sw_if (x5 < x2) (wp_X9_nextDrawn x4 I J (fun r_8 I_9 J_10 => wp_X9_ofFloors r_8 I_9 J_10 (fun r_11 I_12 J_13 => wp_X9_nextDrawn r_8 I_12 J_13 (fun r_14 I_15 J_16 => wp_X9_ofFloors r_14 I_15 J_16 (fun r_17 I_18 J_19 => wp_X9_nextDrawn r_14 I_18 J_19 (fun r_20 I_21 J_22 => wp_X9_ofFloors r_20 I_21 J_22 (fun r_23 I_24 J_25 => wp_X9_addRider r_11 r_17 r_23 0 I_24 J_25 (fun I_27 J_28 => ∀ y_29 : Int32, y_29 = x5 + 1 → K26 x2 x3 r_20 y_29 I_27 J_28)))))))) (∀ y_2 : Int32, y_2 = (I 3 2) - x3 → sw_if (0 < y_2) (wp_X9_forgetWhatWas  I J (fun I_6 J_7 => Q y_2 I_6 J_7)) (Q y_2 I J))
def wl_X9_crowd_26   (Q : Int32 → sw_I → sw_J → Prop) : Nat → Int32 → Int32 → Int32 → Int32 → sw_I → sw_J → Prop
  | 0 => fun _ _ _ _ _ _ => False
  | n + 1 => fun x2 x3 x4 x5 I J => wb_X9_crowd_26  (wl_X9_crowd_26   Q n) Q x2 x3 x4 x5 I J
def wp_X9_crowd (x1 : Int32) (x2 : Int32) (I : sw_I) (J : sw_J) (Q : Int32 → sw_I → sw_J → Prop) : Prop :=
  sw_if (x2 < 0) (Q (-1 : Int32) I J) (sw_if ((10 : Int32) < x2) (Q (-1 : Int32) I J) (∀ y_3 : Int32, y_3 = (I 3 2) → ∃ n_5 : Nat, wl_X9_crowd_26   Q n_5 x2 y_3 x1 y_3 I J))
set_option maxRecDepth 20000 in
theorem tb_X9_crowd_26 {l : Launch} {D : va_G} {cy : Nat → ClassId} {sz : Nat} {G : sw_G} (hG : sw_lay G)   {Q : Int32 → sw_I → sw_J → Prop} {K26 : Int32 → Int32 → Int32 → Int32 → sw_I → sw_J → Prop} (hK26 : ∀ (x2 : Int32) (x3 : Int32) (x4 : Int32) (x5 : Int32) (I : sw_I) (J : sw_J), K26 x2 x3 x4 x5 I J → AW l D cy sz RX9 cX9_crowd 8 (some .int) false rm_X9_crowd 0 0 (sw_qi G Q) 0 0 G I J 26 [(0, .ref (sz + 0)), (2, .int x2), (3, .int x3), (4, .int x4), (5, .int x5)] []) {x2 : Int32} {x3 : Int32} {x4 : Int32} {x5 : Int32} {I : sw_I} {J : sw_J} (h : wb_X9_crowd_26  K26 Q x2 x3 x4 x5 I J) : AW l D cy sz RX9 cX9_crowd 8 (some .int) false rm_X9_crowd 0 0 (sw_qi G Q) 0 0 G I J 26 [(0, .ref (sz + 0)), (2, .int x2), (3, .int x3), (4, .int x4), (5, .int x5)] [] := by
  unfold wb_X9_crowd_26 at h
  refine aw_iload 4 dX9_crowd_26 rfl ?_
  refine aw_iload_n 1 dX9_crowd_28 rfl rfl ?_
  refine aw_jge 90 dX9_crowd_29 (by decide) (fun c_1 => ?_) (fun c_1 => ?_)
  · have h := sw_if.f h c_1
    refine aw_aload_n 0 dX9_crowd_90 rfl rfl ?_
    refine gf_X9_1 fl_X9_19 (lk0 hG) (lr0_1 hG) dX9_crowd_91 ?_
    refine gf_X1_2 fl_X9_144 (lk3 hG) dX9_crowd_94 ?_
    refine aw_iload_n 2 dX9_crowd_97 rfl rfl ?_
    refine aw_isub dX9_crowd_98 ?_
    refine aw_topi (fun y_2 e_3 => ?_)
    have h := h y_2 e_3
    refine aw_istore (lv' := [(5, .int y_2), (0, .ref (sz + 0)), (2, .int x2), (3, .int x3), (4, .int x4)]) dX9_crowd_99 (by decide) rfl ?_
    refine aw_iload 0 dX9_crowd_101 rfl ?_
    refine aw_zle 110 dX9_crowd_103 (by decide) (fun c_4 => ?_) (fun c_4 => ?_)
    · have h := sw_if.f h c_4
      refine aw_iload 0 dX9_crowd_110 rfl ?_
      exact aw_iret rfl dX9_crowd_112 ⟨rfl, _, rfl, h⟩
    · have h := sw_if.t h c_4
      refine aw_aload_n 1 dX9_crowd_106 rfl rfl ?_
      refine aw_callV wv_X9_forgetWhatWas (M_X9_forgetWhatWas hG  h) ml_X9_84 rfl (by decide) (lk0 hG) rfl rfl (Nat.le_of_ble_eq_true rfl) ⟨rfl, rfl⟩ ⟨Nat.le_of_ble_eq_true rfl, Nat.le_of_ble_eq_true rfl⟩ ⟨Nat.le_refl _, Nat.le_refl _⟩ dX9_crowd_107 (aw_kv fun I_6 J_7 h => ?_)
      refine aw_iload 0 dX9_crowd_110 rfl ?_
      exact aw_iret rfl dX9_crowd_112 ⟨rfl, _, rfl, h⟩
  · have h := sw_if.t h c_1
    refine aw_iload 3 dX9_crowd_32 rfl ?_
    refine aw_callS wv_X9_nextDrawn (M_X9_nextDrawn trivial  h) ml_X9_154 rfl rfl (Nat.le_of_ble_eq_true rfl) ⟨rfl, rfl⟩ ⟨Nat.le_of_ble_eq_true rfl, Nat.le_of_ble_eq_true rfl⟩ ⟨Nat.le_refl _, Nat.le_refl _⟩ dX9_crowd_34 (aw_ki fun r_8 I_9 J_10 h => ?_)
    refine aw_istore (lv' := [(4, .int r_8), (0, .ref (sz + 0)), (2, .int x2), (3, .int x3), (5, .int x5)]) dX9_crowd_37 (by decide) rfl ?_
    refine aw_aload_n 1 dX9_crowd_39 rfl rfl ?_
    refine aw_iload 0 dX9_crowd_40 rfl ?_
    refine aw_callV wv_X9_ofFloors (M_X9_ofFloors hG  h) ml_X9_158 rfl (by decide) (lk0 hG) rfl rfl (Nat.le_of_ble_eq_true rfl) ⟨rfl, rfl⟩ ⟨Nat.le_of_ble_eq_true rfl, Nat.le_of_ble_eq_true rfl⟩ ⟨Nat.le_refl _, Nat.le_refl _⟩ dX9_crowd_42 (aw_ki fun r_11 I_12 J_13 h => ?_)
    refine aw_istore (lv' := [(6, .int r_11), (4, .int r_8), (0, .ref (sz + 0)), (2, .int x2), (3, .int x3), (5, .int x5)]) dX9_crowd_45 (by decide) rfl ?_
    refine aw_iload 1 dX9_crowd_47 rfl ?_
    refine aw_callS wv_X9_nextDrawn (M_X9_nextDrawn trivial  h) ml_X9_154 rfl rfl (Nat.le_of_ble_eq_true rfl) ⟨rfl, rfl⟩ ⟨Nat.le_of_ble_eq_true rfl, Nat.le_of_ble_eq_true rfl⟩ ⟨Nat.le_refl _, Nat.le_refl _⟩ dX9_crowd_49 (aw_ki fun r_14 I_15 J_16 h => ?_)
    refine aw_istore (lv' := [(4, .int r_14), (6, .int r_11), (0, .ref (sz + 0)), (2, .int x2), (3, .int x3), (5, .int x5)]) dX9_crowd_52 (by decide) rfl ?_
    refine aw_aload_n 2 dX9_crowd_54 rfl rfl ?_
    refine aw_iload 0 dX9_crowd_55 rfl ?_
    refine aw_callV wv_X9_ofFloors (M_X9_ofFloors hG  h) ml_X9_158 rfl (by decide) (lk0 hG) rfl rfl (Nat.le_of_ble_eq_true rfl) ⟨rfl, rfl⟩ ⟨Nat.le_of_ble_eq_true rfl, Nat.le_of_ble_eq_true rfl⟩ ⟨Nat.le_refl _, Nat.le_refl _⟩ dX9_crowd_57 (aw_ki fun r_17 I_18 J_19 h => ?_)
    refine aw_istore (lv' := [(7, .int r_17), (4, .int r_14), (6, .int r_11), (0, .ref (sz + 0)), (2, .int x2), (3, .int x3), (5, .int x5)]) dX9_crowd_60 (by decide) rfl ?_
    refine aw_iload 1 dX9_crowd_62 rfl ?_
    refine aw_callS wv_X9_nextDrawn (M_X9_nextDrawn trivial  h) ml_X9_154 rfl rfl (Nat.le_of_ble_eq_true rfl) ⟨rfl, rfl⟩ ⟨Nat.le_of_ble_eq_true rfl, Nat.le_of_ble_eq_true rfl⟩ ⟨Nat.le_refl _, Nat.le_refl _⟩ dX9_crowd_64 (aw_ki fun r_20 I_21 J_22 h => ?_)
    refine aw_istore (lv' := [(4, .int r_20), (7, .int r_17), (6, .int r_11), (0, .ref (sz + 0)), (2, .int x2), (3, .int x3), (5, .int x5)]) dX9_crowd_67 (by decide) rfl ?_
    refine aw_aload_n 3 dX9_crowd_69 rfl rfl ?_
    refine aw_iload 2 dX9_crowd_70 rfl ?_
    refine aw_iload 1 dX9_crowd_72 rfl ?_
    refine aw_aload_n 3 dX9_crowd_74 rfl rfl ?_
    refine aw_iload 0 dX9_crowd_75 rfl ?_
    refine aw_callV wv_X9_ofFloors (M_X9_ofFloors hG  h) ml_X9_158 rfl (by decide) (lk0 hG) rfl rfl (Nat.le_of_ble_eq_true rfl) ⟨rfl, rfl⟩ ⟨Nat.le_of_ble_eq_true rfl, Nat.le_of_ble_eq_true rfl⟩ ⟨Nat.le_refl _, Nat.le_refl _⟩ dX9_crowd_77 (aw_ki fun r_23 I_24 J_25 h => ?_)
    refine aw_iconst (v := 0) dX9_crowd_80 (by decide) ?_
    refine aw_callV wv_X9_addRider (M_X9_addRider hG  h) ml_X9_161 rfl (by decide) (lk0 hG) rfl rfl (Nat.le_of_ble_eq_true rfl) ⟨rfl, rfl⟩ ⟨Nat.le_of_ble_eq_true rfl, Nat.le_of_ble_eq_true rfl⟩ ⟨Nat.le_refl _, Nat.le_refl _⟩ dX9_crowd_81 (aw_kv fun I_27 J_28 h => ?_)
    obtain ⟨y_29, e_30⟩ : ∃ q : Int32, q = x5 + 1 := ⟨_, rfl⟩
    have h := h y_29 e_30
    refine aw_iinc (lv' := [(5, .int y_29), (4, .int r_20), (7, .int r_17), (6, .int r_11), (0, .ref (sz + 0)), (2, .int x2), (3, .int x3)]) 6 dX9_crowd_84 rfl (by rw [e_30]; rfl) (by decide) rfl ?_
    refine aw_goto 26 dX9_crowd_87 (by decide) ?_
    refine aw_sub [4, 5, 6, 1, 0] rfl ?_
    exact hK26 x2 x3 r_20 y_29 I_27 J_28 h
set_option maxRecDepth 20000 in
theorem tl_X9_crowd_26 {l : Launch} {D : va_G} {cy : Nat → ClassId} {sz : Nat} {G : sw_G} (hG : sw_lay G)   {Q : Int32 → sw_I → sw_J → Prop} : ∀ (n : Nat) (x2 : Int32) (x3 : Int32) (x4 : Int32) (x5 : Int32) (I : sw_I) (J : sw_J), wl_X9_crowd_26   Q n x2 x3 x4 x5 I J → AW l D cy sz RX9 cX9_crowd 8 (some .int) false rm_X9_crowd 0 0 (sw_qi G Q) 0 0 G I J 26 [(0, .ref (sz + 0)), (2, .int x2), (3, .int x3), (4, .int x4), (5, .int x5)] [] := by
  intro n
  induction n with
  | zero => intro x2 x3 x4 x5 I J h; exact False.elim h
  | succ n ih => intro x2 x3 x4 x5 I J h; exact tb_X9_crowd_26 hG  ih h
set_option maxRecDepth 20000 in
theorem t_X9_crowd {l : Launch} {D : va_G} {cy : Nat → ClassId} {sz : Nat} {G : sw_G} (hG : sw_lay G)   {Q : Int32 → sw_I → sw_J → Prop} {x1 : Int32} {x2 : Int32} {I : sw_I} {J : sw_J} (h : wp_X9_crowd x1 x2 I J Q) : AW l D cy sz RX9 cX9_crowd 8 (some .int) false rm_X9_crowd 0 0 (sw_qi G Q) 0 0 G I J 0 [(0, .ref (sz + 0)), (1, .int x1), (2, .int x2)] [] := by
  unfold wp_X9_crowd at h
  refine aw_iload_n 2 dX9_crowd_0 rfl rfl ?_
  refine aw_zlt 10 dX9_crowd_1 (by decide) (fun c_1 => ?_) (fun c_1 => ?_)
  · have h := sw_if.t h c_1
    refine aw_iconst (v := (-1)) dX9_crowd_10 (by decide) ?_
    exact aw_iret rfl dX9_crowd_11 ⟨rfl, _, rfl, h⟩
  · have h := sw_if.f h c_1
    refine aw_iload_n 2 dX9_crowd_4 rfl rfl ?_
    refine aw_bipush (v := 10) dX9_crowd_5 (by decide) ?_
    refine aw_jle 12 dX9_crowd_7 (by decide) (fun c_2 => ?_) (fun c_2 => ?_)
    · have h := sw_if.f h c_2
      refine aw_aload_n 0 dX9_crowd_12 rfl rfl ?_
      refine gf_X9_1 fl_X9_19 (lk0 hG) (lr0_1 hG) dX9_crowd_13 ?_
      refine gf_X1_2 fl_X9_144 (lk3 hG) dX9_crowd_16 ?_
      refine aw_topi (fun y_3 e_4 => ?_)
      have h := h y_3 e_4
      refine aw_istore_n (lv' := [(3, .int y_3), (0, .ref (sz + 0)), (1, .int x1), (2, .int x2)]) dX9_crowd_19 rfl (by decide) rfl ?_
      refine aw_iload_n 2 dX9_crowd_20 rfl rfl ?_
      refine aw_istore (lv' := [(4, .int x1), (3, .int y_3), (0, .ref (sz + 0)), (1, .int x1), (2, .int x2)]) dX9_crowd_21 (by decide) rfl ?_
      refine aw_iload_n 1 dX9_crowd_23 rfl rfl ?_
      refine aw_istore (lv' := [(5, .int y_3), (4, .int x1), (3, .int y_3), (0, .ref (sz + 0)), (1, .int x1), (2, .int x2)]) dX9_crowd_24 (by decide) rfl ?_
      refine aw_sub [3, 5, 2, 1, 0] rfl ?_
      obtain ⟨n_5, h⟩ := h
      exact tl_X9_crowd_26 hG   n_5 x2 y_3 x1 y_3 I J h
    · have h := sw_if.t h c_2
      refine aw_iconst (v := (-1)) dX9_crowd_10 (by decide) ?_
      exact aw_iret rfl dX9_crowd_11 ⟨rfl, _, rfl, h⟩
theorem M_X9_crowd {l : Launch} {D : va_G} {cy : Nat → ClassId} {sz : Nat} {G : sw_G} (hG : sw_lay G)   {Q : Int32 → sw_I → sw_J → Prop} {x1 : Int32} {x2 : Int32} {I : sw_I} {J : sw_J} (h : wp_X9_crowd x1 x2 I J Q) : Met l yX9_crowd (Cond.code yX9_crowd cX9_crowd 8 (some .int) :: sw_T) rm_X9_crowd (sw_Pc D cy sz [.ref (sz + 0), .int x1, .int x2] G I J) (sw_Q D cy sz (sw_qi G Q)) 0 0 (fun q => sz ≤ q) :=
  sw_met (by decide) (fun q => by cases q) (Nat.le_of_ble_eq_true rfl) rfl (t_X9_crowd hG  h)
-- X9_setsOf
abbrev rm_X9_setsOf : Room := { frames := 1, cells := 0, slots := 0, locals := 20 }
def wp_X9_setsOf (x0 : Int32) (I : sw_I) (J : sw_J) (Q : Int32 → sw_I → sw_J → Prop) : Prop :=
  wp_J6_bitCount_0f7a4 x0 I J (fun r_1 I_2 J_3 => Q ((1 : Int32) <<< (r_1 &&& 31)) I_2 J_3)
set_option maxRecDepth 20000 in
theorem t_X9_setsOf {l : Launch} {D : va_G} {cy : Nat → ClassId} {sz : Nat} {G : sw_G} (hG : True)   {Q : Int32 → sw_I → sw_J → Prop} {x0 : Int32} {I : sw_I} {J : sw_J} (h : wp_X9_setsOf x0 I J Q) : AW l D cy sz RX9 cX9_setsOf 1 (some .int) false rm_X9_setsOf 0 0 (sw_qi G Q) 0 0 G I J 0 [(0, .int x0)] [] := by
  unfold wp_X9_setsOf at h
  refine aw_iconst (v := 1) dX9_setsOf_0 (by decide) ?_
  refine aw_iload_n 0 dX9_setsOf_1 rfl rfl ?_
  refine aw_callS wv_J6_bitCount_0f7a4 (M_J6_bitCount_0f7a4 trivial  h) ml_X9_267 rfl rfl (Nat.le_of_ble_eq_true rfl) ⟨rfl, rfl⟩ ⟨Nat.le_of_ble_eq_true rfl, Nat.le_of_ble_eq_true rfl⟩ ⟨Nat.le_refl _, Nat.le_refl _⟩ dX9_setsOf_2 (aw_ki fun r_1 I_2 J_3 h => ?_)
  refine aw_ishl dX9_setsOf_5 ?_
  exact aw_iret rfl dX9_setsOf_6 ⟨rfl, _, rfl, h⟩
theorem M_X9_setsOf {l : Launch} {D : va_G} {cy : Nat → ClassId} {sz : Nat} {G : sw_G} (hG : True)   {Q : Int32 → sw_I → sw_J → Prop} {x0 : Int32} {I : sw_I} {J : sw_J} (h : wp_X9_setsOf x0 I J Q) : Met l yX9_setsOf (Cond.code yX9_setsOf cX9_setsOf 1 (some .int) :: sw_T) rm_X9_setsOf (sw_Pc D cy sz [.int x0] G I J) (sw_Q D cy sz (sw_qi G Q)) 0 0 (fun q => sz ≤ q) :=
  sw_met (by decide) (fun q => by cases q) (Nat.le_of_ble_eq_true rfl) rfl (t_X9_setsOf hG  h)
-- X9_takeLines
abbrev rm_X9_takeLines : Room := { frames := 1, cells := 0, slots := 0, locals := 25 }
def wB_X9_takeLines_123  (K4 : Int32 → Int32 → sw_I → sw_J → Prop) (Q : Int32 → sw_I → sw_J → Prop) (x1 : Int32) (s0 : Int32) (s1 : Int32) (I : sw_I) (J : sw_J) : Prop :=
  ∀ y_1 : Int32, y_1 = s0 + s1 → K4 x1 y_1 I J
def wB_X9_takeLines_83  (K4 : Int32 → Int32 → sw_I → sw_J → Prop) (Q : Int32 → sw_I → sw_J → Prop) (x1 : Int32) (x2 : Int32) (x3 : Int32) (x4 : Int32) (s0 : Int32) (I : sw_I) (J : sw_J) : Prop :=
  wp_X8_at (x2 + (4 : Int32)) I J (fun r_1 I_2 J_3 => wp_X9_addRider x3 x4 (r_1 - (48 : Int32)) s0 I_2 J_3 (fun I_5 J_6 => ∀ y_7 : Int32, y_7 = x1 + 1 → sw_if (s0 = 0) (wB_X9_takeLines_123  K4 Q y_7 x2 6 I_5 J_6) (wB_X9_takeLines_123  K4 Q y_7 x2 7 I_5 J_6)))
def wB_X9_takeLines_61  (K4 : Int32 → Int32 → sw_I → sw_J → Prop) (Q : Int32 → sw_I → sw_J → Prop) (x1 : Int32) (x2 : Int32) (x3 : Int32) (s0 : Int32) (I : sw_I) (J : sw_J) : Prop :=
  wp_X8_at (x2 + (5 : Int32)) I J (fun r_1 I_2 J_3 => sw_if (r_1 = (33 : Int32)) (wB_X9_takeLines_83  K4 Q x1 x2 x3 s0 1 I_2 J_3) (wB_X9_takeLines_83  K4 Q x1 x2 x3 s0 0 I_2 J_3))
def wb_X9_takeLines_4  (K4 : Int32 → Int32 → sw_I → sw_J → Prop) (Q : Int32 → sw_I → sw_J → Prop) (x1 : Int32) (x2 : Int32) (I : sw_I) (J : sw_J) : Prop :=
  sw_if ((I 1 1) < (x2 + (5 : Int32))) (sw_if (0 < x1) (wp_X9_forgetWhatWas  I J (fun I_4 J_5 => Q x1 I_4 J_5)) (Q x1 I J)) (wp_X8_at x2 I J (fun r_6 I_7 J_8 => ∀ y_9 : Int32, y_9 = r_6 - (48 : Int32) → wp_X8_at (x2 + (2 : Int32)) I_7 J_8 (fun r_11 I_12 J_13 => sw_if (r_11 = (45 : Int32)) (wB_X9_takeLines_61  K4 Q x1 x2 y_9 (-1) I_12 J_13) (wp_X8_at (x2 + (2 : Int32)) I_12 J_13 (fun r_15 I_16 J_17 => wB_X9_takeLines_61  K4 Q x1 x2 y_9 (r_15 - (48 : Int32)) I_16 J_17)))))
def wl_X9_takeLines_4   (Q : Int32 → sw_I → sw_J → Prop) : Nat → Int32 → Int32 → sw_I → sw_J → Prop
  | 0 => fun _ _ _ _ => False
  | n + 1 => fun x1 x2 I J => wb_X9_takeLines_4  (wl_X9_takeLines_4   Q n) Q x1 x2 I J
def wp_X9_takeLines  (I : sw_I) (J : sw_J) (Q : Int32 → sw_I → sw_J → Prop) : Prop :=
  ∃ n_1 : Nat, wl_X9_takeLines_4   Q n_1 0 0 I J
set_option maxRecDepth 20000 in
theorem t_X9_takeLines_123 {l : Launch} {D : va_G} {cy : Nat → ClassId} {sz : Nat} {G : sw_G} (hG : sw_lay G)   {Q : Int32 → sw_I → sw_J → Prop} {K4 : Int32 → Int32 → sw_I → sw_J → Prop} (hK4 : ∀ (x1 : Int32) (x2 : Int32) (I : sw_I) (J : sw_J), K4 x1 x2 I J → AW l D cy sz RX9 cX9_takeLines 6 (some .int) false rm_X9_takeLines 0 0 (sw_qi G Q) 0 0 G I J 4 [(0, .ref (sz + 0)), (1, .int x1), (2, .int x2)] []) {x1 : Int32} {s0 : Int32} {s1 : Int32} {I : sw_I} {J : sw_J} (h : wB_X9_takeLines_123  K4 Q x1 s0 s1 I J) : AW l D cy sz RX9 cX9_takeLines 6 (some .int) false rm_X9_takeLines 0 0 (sw_qi G Q) 0 0 G I J 123 [(0, .ref (sz + 0)), (1, .int x1)] [.int s1, .int s0] := by
  unfold wB_X9_takeLines_123 at h
  refine aw_iadd dX9_takeLines_123 ?_
  refine aw_topi (fun y_1 e_2 => ?_)
  have h := h y_1 e_2
  refine aw_istore_n (lv' := [(2, .int y_1), (0, .ref (sz + 0)), (1, .int x1)]) dX9_takeLines_124 rfl (by decide) rfl ?_
  refine aw_goto 4 dX9_takeLines_125 (by decide) ?_
  refine aw_sub [1, 2, 0] rfl ?_
  exact hK4 x1 y_1 I J h
set_option maxRecDepth 20000 in
theorem t_X9_takeLines_83 {l : Launch} {D : va_G} {cy : Nat → ClassId} {sz : Nat} {G : sw_G} (hG : sw_lay G)   {Q : Int32 → sw_I → sw_J → Prop} {K4 : Int32 → Int32 → sw_I → sw_J → Prop} (hK4 : ∀ (x1 : Int32) (x2 : Int32) (I : sw_I) (J : sw_J), K4 x1 x2 I J → AW l D cy sz RX9 cX9_takeLines 6 (some .int) false rm_X9_takeLines 0 0 (sw_qi G Q) 0 0 G I J 4 [(0, .ref (sz + 0)), (1, .int x1), (2, .int x2)] []) {x1 : Int32} {x2 : Int32} {x3 : Int32} {x4 : Int32} {s0 : Int32} {I : sw_I} {J : sw_J} (h : wB_X9_takeLines_83  K4 Q x1 x2 x3 x4 s0 I J) : AW l D cy sz RX9 cX9_takeLines 6 (some .int) false rm_X9_takeLines 0 0 (sw_qi G Q) 0 0 G I J 83 [(0, .ref (sz + 0)), (1, .int x1), (2, .int x2), (3, .int x3), (4, .int x4)] [.int s0] := by
  unfold wB_X9_takeLines_83 at h
  refine aw_istore (lv' := [(5, .int s0), (0, .ref (sz + 0)), (1, .int x1), (2, .int x2), (3, .int x3), (4, .int x4)]) dX9_takeLines_83 (by decide) rfl ?_
  refine aw_aload_n 1 dX9_takeLines_85 rfl rfl ?_
  refine aw_iload_n 4 dX9_takeLines_86 rfl rfl ?_
  refine aw_iload 5 dX9_takeLines_87 rfl ?_
  refine aw_aload_n 1 dX9_takeLines_89 rfl rfl ?_
  refine gf_X9_0 fl_X9_12 (lk0 hG) (lr0_0 hG) dX9_takeLines_90 ?_
  refine aw_iload_n 3 dX9_takeLines_93 rfl rfl ?_
  refine aw_iconst (v := 4) dX9_takeLines_94 (by decide) ?_
  refine aw_iadd dX9_takeLines_95 ?_
  refine aw_callV wv_X8_at (M_X8_at hG  h) ml_X9_354 rfl (by decide) (lk1 hG) rfl rfl (Nat.le_of_ble_eq_true rfl) ⟨rfl, rfl⟩ ⟨Nat.le_of_ble_eq_true rfl, Nat.le_of_ble_eq_true rfl⟩ ⟨Nat.le_refl _, Nat.le_refl _⟩ dX9_takeLines_96 (aw_ki fun r_1 I_2 J_3 h => ?_)
  refine aw_bipush (v := 48) dX9_takeLines_99 (by decide) ?_
  refine aw_isub dX9_takeLines_101 ?_
  refine aw_iload 0 dX9_takeLines_102 rfl ?_
  refine aw_callV wv_X9_addRider (M_X9_addRider hG  h) ml_X9_161 rfl (by decide) (lk0 hG) rfl rfl (Nat.le_of_ble_eq_true rfl) ⟨rfl, rfl⟩ ⟨Nat.le_of_ble_eq_true rfl, Nat.le_of_ble_eq_true rfl⟩ ⟨Nat.le_refl _, Nat.le_refl _⟩ dX9_takeLines_104 (aw_kv fun I_5 J_6 h => ?_)
  obtain ⟨y_7, e_8⟩ : ∃ q : Int32, q = x1 + 1 := ⟨_, rfl⟩
  have h := h y_7 e_8
  refine aw_iinc (lv' := [(1, .int y_7), (5, .int s0), (0, .ref (sz + 0)), (2, .int x2), (3, .int x3), (4, .int x4)]) 2 dX9_takeLines_107 rfl (by rw [e_8]; rfl) (by decide) rfl ?_
  refine aw_iload_n 3 dX9_takeLines_110 rfl rfl ?_
  refine aw_iload 1 dX9_takeLines_111 rfl ?_
  refine aw_zeq 121 dX9_takeLines_113 (by decide) (fun c_9 => ?_) (fun c_9 => ?_)
  · have h := sw_if.t h c_9
    refine aw_bipush (v := 6) dX9_takeLines_121 (by decide) ?_
    refine aw_sub [2, 0] rfl ?_
    exact t_X9_takeLines_123 hG  hK4 h
  · have h := sw_if.f h c_9
    refine aw_bipush (v := 7) dX9_takeLines_116 (by decide) ?_
    refine aw_goto 123 dX9_takeLines_118 (by decide) ?_
    refine aw_sub [2, 0] rfl ?_
    exact t_X9_takeLines_123 hG  hK4 h
set_option maxRecDepth 20000 in
theorem t_X9_takeLines_61 {l : Launch} {D : va_G} {cy : Nat → ClassId} {sz : Nat} {G : sw_G} (hG : sw_lay G)   {Q : Int32 → sw_I → sw_J → Prop} {K4 : Int32 → Int32 → sw_I → sw_J → Prop} (hK4 : ∀ (x1 : Int32) (x2 : Int32) (I : sw_I) (J : sw_J), K4 x1 x2 I J → AW l D cy sz RX9 cX9_takeLines 6 (some .int) false rm_X9_takeLines 0 0 (sw_qi G Q) 0 0 G I J 4 [(0, .ref (sz + 0)), (1, .int x1), (2, .int x2)] []) {x1 : Int32} {x2 : Int32} {x3 : Int32} {s0 : Int32} {I : sw_I} {J : sw_J} (h : wB_X9_takeLines_61  K4 Q x1 x2 x3 s0 I J) : AW l D cy sz RX9 cX9_takeLines 6 (some .int) false rm_X9_takeLines 0 0 (sw_qi G Q) 0 0 G I J 61 [(0, .ref (sz + 0)), (1, .int x1), (2, .int x2), (3, .int x3)] [.int s0] := by
  unfold wB_X9_takeLines_61 at h
  refine aw_istore (lv' := [(4, .int s0), (0, .ref (sz + 0)), (1, .int x1), (2, .int x2), (3, .int x3)]) dX9_takeLines_61 (by decide) rfl ?_
  refine aw_aload_n 1 dX9_takeLines_63 rfl rfl ?_
  refine gf_X9_0 fl_X9_12 (lk0 hG) (lr0_0 hG) dX9_takeLines_64 ?_
  refine aw_iload_n 3 dX9_takeLines_67 rfl rfl ?_
  refine aw_iconst (v := 5) dX9_takeLines_68 (by decide) ?_
  refine aw_iadd dX9_takeLines_69 ?_
  refine aw_callV wv_X8_at (M_X8_at hG  h) ml_X9_354 rfl (by decide) (lk1 hG) rfl rfl (Nat.le_of_ble_eq_true rfl) ⟨rfl, rfl⟩ ⟨Nat.le_of_ble_eq_true rfl, Nat.le_of_ble_eq_true rfl⟩ ⟨Nat.le_refl _, Nat.le_refl _⟩ dX9_takeLines_70 (aw_ki fun r_1 I_2 J_3 h => ?_)
  refine aw_bipush (v := 33) dX9_takeLines_73 (by decide) ?_
  refine aw_jne 82 dX9_takeLines_75 (by decide) (fun c_4 => ?_) (fun c_4 => ?_)
  · have h := sw_if.f h c_4
    refine aw_iconst (v := 0) dX9_takeLines_82 (by decide) ?_
    refine aw_sub [1, 2, 3, 4, 0] rfl ?_
    exact t_X9_takeLines_83 hG  hK4 h
  · have h := sw_if.t h c_4
    refine aw_iconst (v := 1) dX9_takeLines_78 (by decide) ?_
    refine aw_goto 83 dX9_takeLines_79 (by decide) ?_
    refine aw_sub [1, 2, 3, 4, 0] rfl ?_
    exact t_X9_takeLines_83 hG  hK4 h
set_option maxRecDepth 20000 in
theorem tb_X9_takeLines_4 {l : Launch} {D : va_G} {cy : Nat → ClassId} {sz : Nat} {G : sw_G} (hG : sw_lay G)   {Q : Int32 → sw_I → sw_J → Prop} {K4 : Int32 → Int32 → sw_I → sw_J → Prop} (hK4 : ∀ (x1 : Int32) (x2 : Int32) (I : sw_I) (J : sw_J), K4 x1 x2 I J → AW l D cy sz RX9 cX9_takeLines 6 (some .int) false rm_X9_takeLines 0 0 (sw_qi G Q) 0 0 G I J 4 [(0, .ref (sz + 0)), (1, .int x1), (2, .int x2)] []) {x1 : Int32} {x2 : Int32} {I : sw_I} {J : sw_J} (h : wb_X9_takeLines_4  K4 Q x1 x2 I J) : AW l D cy sz RX9 cX9_takeLines 6 (some .int) false rm_X9_takeLines 0 0 (sw_qi G Q) 0 0 G I J 4 [(0, .ref (sz + 0)), (1, .int x1), (2, .int x2)] [] := by
  unfold wb_X9_takeLines_4 at h
  refine aw_iload_n 2 dX9_takeLines_4 rfl rfl ?_
  refine aw_iconst (v := 5) dX9_takeLines_5 (by decide) ?_
  refine aw_iadd dX9_takeLines_6 ?_
  refine aw_aload_n 0 dX9_takeLines_7 rfl rfl ?_
  refine gf_X9_0 fl_X9_12 (lk0 hG) (lr0_0 hG) dX9_takeLines_8 ?_
  refine gf_X8_1 fl_X9_70 (lk1 hG) dX9_takeLines_11 ?_
  refine aw_jgt 128 dX9_takeLines_14 (by decide) (fun c_1 => ?_) (fun c_1 => ?_)
  · have h := sw_if.t h c_1
    refine aw_iload_n 1 dX9_takeLines_128 rfl rfl ?_
    refine aw_zle 136 dX9_takeLines_129 (by decide) (fun c_2 => ?_) (fun c_2 => ?_)
    · have h := sw_if.f h c_2
      refine aw_iload_n 1 dX9_takeLines_136 rfl rfl ?_
      exact aw_iret rfl dX9_takeLines_137 ⟨rfl, _, rfl, h⟩
    · have h := sw_if.t h c_2
      refine aw_aload_n 0 dX9_takeLines_132 rfl rfl ?_
      refine aw_callV wv_X9_forgetWhatWas (M_X9_forgetWhatWas hG  h) ml_X9_84 rfl (by decide) (lk0 hG) rfl rfl (Nat.le_of_ble_eq_true rfl) ⟨rfl, rfl⟩ ⟨Nat.le_of_ble_eq_true rfl, Nat.le_of_ble_eq_true rfl⟩ ⟨Nat.le_refl _, Nat.le_refl _⟩ dX9_takeLines_133 (aw_kv fun I_4 J_5 h => ?_)
      refine aw_iload_n 1 dX9_takeLines_136 rfl rfl ?_
      exact aw_iret rfl dX9_takeLines_137 ⟨rfl, _, rfl, h⟩
  · have h := sw_if.f h c_1
    refine aw_aload_n 0 dX9_takeLines_17 rfl rfl ?_
    refine gf_X9_0 fl_X9_12 (lk0 hG) (lr0_0 hG) dX9_takeLines_18 ?_
    refine aw_iload_n 2 dX9_takeLines_21 rfl rfl ?_
    refine aw_callV wv_X8_at (M_X8_at hG  h) ml_X9_354 rfl (by decide) (lk1 hG) rfl rfl (Nat.le_of_ble_eq_true rfl) ⟨rfl, rfl⟩ ⟨Nat.le_of_ble_eq_true rfl, Nat.le_of_ble_eq_true rfl⟩ ⟨Nat.le_refl _, Nat.le_refl _⟩ dX9_takeLines_22 (aw_ki fun r_6 I_7 J_8 h => ?_)
    refine aw_bipush (v := 48) dX9_takeLines_25 (by decide) ?_
    refine aw_isub dX9_takeLines_27 ?_
    refine aw_topi (fun y_9 e_10 => ?_)
    have h := h y_9 e_10
    refine aw_istore_n (lv' := [(3, .int y_9), (0, .ref (sz + 0)), (1, .int x1), (2, .int x2)]) dX9_takeLines_28 rfl (by decide) rfl ?_
    refine aw_aload_n 1 dX9_takeLines_29 rfl rfl ?_
    refine gf_X9_0 fl_X9_12 (lk0 hG) (lr0_0 hG) dX9_takeLines_30 ?_
    refine aw_iload_n 3 dX9_takeLines_33 rfl rfl ?_
    refine aw_iconst (v := 2) dX9_takeLines_34 (by decide) ?_
    refine aw_iadd dX9_takeLines_35 ?_
    refine aw_callV wv_X8_at (M_X8_at hG  h) ml_X9_354 rfl (by decide) (lk1 hG) rfl rfl (Nat.le_of_ble_eq_true rfl) ⟨rfl, rfl⟩ ⟨Nat.le_of_ble_eq_true rfl, Nat.le_of_ble_eq_true rfl⟩ ⟨Nat.le_refl _, Nat.le_refl _⟩ dX9_takeLines_36 (aw_ki fun r_11 I_12 J_13 h => ?_)
    refine aw_bipush (v := 45) dX9_takeLines_39 (by decide) ?_
    refine aw_jne 48 dX9_takeLines_41 (by decide) (fun c_14 => ?_) (fun c_14 => ?_)
    · have h := sw_if.f h c_14
      refine aw_aload_n 1 dX9_takeLines_48 rfl rfl ?_
      refine gf_X9_0 fl_X9_12 (lk0 hG) (lr0_0 hG) dX9_takeLines_49 ?_
      refine aw_iload_n 3 dX9_takeLines_52 rfl rfl ?_
      refine aw_iconst (v := 2) dX9_takeLines_53 (by decide) ?_
      refine aw_iadd dX9_takeLines_54 ?_
      refine aw_callV wv_X8_at (M_X8_at hG  h) ml_X9_354 rfl (by decide) (lk1 hG) rfl rfl (Nat.le_of_ble_eq_true rfl) ⟨rfl, rfl⟩ ⟨Nat.le_of_ble_eq_true rfl, Nat.le_of_ble_eq_true rfl⟩ ⟨Nat.le_refl _, Nat.le_refl _⟩ dX9_takeLines_55 (aw_ki fun r_15 I_16 J_17 h => ?_)
      refine aw_bipush (v := 48) dX9_takeLines_58 (by decide) ?_
      refine aw_isub dX9_takeLines_60 ?_
      refine aw_sub [1, 2, 3, 0] rfl ?_
      exact t_X9_takeLines_61 hG  hK4 h
    · have h := sw_if.t h c_14
      refine aw_iconst (v := (-1)) dX9_takeLines_44 (by decide) ?_
      refine aw_goto 61 dX9_takeLines_45 (by decide) ?_
      refine aw_sub [1, 2, 3, 0] rfl ?_
      exact t_X9_takeLines_61 hG  hK4 h
set_option maxRecDepth 20000 in
theorem tl_X9_takeLines_4 {l : Launch} {D : va_G} {cy : Nat → ClassId} {sz : Nat} {G : sw_G} (hG : sw_lay G)   {Q : Int32 → sw_I → sw_J → Prop} : ∀ (n : Nat) (x1 : Int32) (x2 : Int32) (I : sw_I) (J : sw_J), wl_X9_takeLines_4   Q n x1 x2 I J → AW l D cy sz RX9 cX9_takeLines 6 (some .int) false rm_X9_takeLines 0 0 (sw_qi G Q) 0 0 G I J 4 [(0, .ref (sz + 0)), (1, .int x1), (2, .int x2)] [] := by
  intro n
  induction n with
  | zero => intro x1 x2 I J h; exact False.elim h
  | succ n ih => intro x1 x2 I J h; exact tb_X9_takeLines_4 hG  ih h
set_option maxRecDepth 20000 in
theorem t_X9_takeLines {l : Launch} {D : va_G} {cy : Nat → ClassId} {sz : Nat} {G : sw_G} (hG : sw_lay G)   {Q : Int32 → sw_I → sw_J → Prop}  {I : sw_I} {J : sw_J} (h : wp_X9_takeLines  I J Q) : AW l D cy sz RX9 cX9_takeLines 6 (some .int) false rm_X9_takeLines 0 0 (sw_qi G Q) 0 0 G I J 0 [(0, .ref (sz + 0))] [] := by
  unfold wp_X9_takeLines at h
  refine aw_iconst (v := 0) dX9_takeLines_0 (by decide) ?_
  refine aw_istore_n (lv' := [(1, .int 0), (0, .ref (sz + 0))]) dX9_takeLines_1 rfl (by decide) rfl ?_
  refine aw_iconst (v := 0) dX9_takeLines_2 (by decide) ?_
  refine aw_istore_n (lv' := [(2, .int 0), (1, .int 0), (0, .ref (sz + 0))]) dX9_takeLines_3 rfl (by decide) rfl ?_
  refine aw_sub [2, 1, 0] rfl ?_
  obtain ⟨n_1, h⟩ := h
  exact tl_X9_takeLines_4 hG   n_1 0 0 I J h
theorem M_X9_takeLines {l : Launch} {D : va_G} {cy : Nat → ClassId} {sz : Nat} {G : sw_G} (hG : sw_lay G)   {Q : Int32 → sw_I → sw_J → Prop}  {I : sw_I} {J : sw_J} (h : wp_X9_takeLines  I J Q) : Met l yX9_takeLines (Cond.code yX9_takeLines cX9_takeLines 6 (some .int) :: sw_T) rm_X9_takeLines (sw_Pc D cy sz [.ref (sz + 0)] G I J) (sw_Q D cy sz (sw_qi G Q)) 0 0 (fun q => sz ≤ q) :=
  sw_met (by decide) (fun q => by cases q) (Nat.le_of_ble_eq_true rfl) rfl (t_X9_takeLines hG  h)
-- X9_tellLiars
abbrev rm_X9_tellLiars : Room := { frames := 1, cells := 0, slots := 0, locals := 22 }
def wp_X9_tellLiars (x1 : Int32) (x2 : Int32) (x3 : Int32) (I : sw_I) (J : sw_J) (Q : sw_I → sw_J → Prop) : Prop :=
  wp_X9_clearRow  I J (fun I_2 J_3 => wp_X9_tell x1.toInt64 I_2 J_3 (fun I_5 J_6 => wp_X9_tell x2.toInt64 I_5 J_6 (fun I_8 J_9 => wp_J6_bitCount_0f7a4 x1 I_8 J_9 (fun r_10 I_11 J_12 => sw_if ((1 : Int32) < r_10) (wp_X9_tell x3.toInt64 I_11 J_12 (fun I_15 J_16 => Q I_15 J_16)) (Q I_11 J_12)))))
set_option maxRecDepth 20000 in
theorem t_X9_tellLiars {l : Launch} {D : va_G} {cy : Nat → ClassId} {sz : Nat} {G : sw_G} (hG : sw_lay G)   {Q : sw_I → sw_J → Prop} {x1 : Int32} {x2 : Int32} {x3 : Int32} {I : sw_I} {J : sw_J} (h : wp_X9_tellLiars x1 x2 x3 I J Q) : AW l D cy sz RX9 cX9_tellLiars 4 none false rm_X9_tellLiars 0 0 (sw_qv G Q) 0 0 G I J 0 [(0, .ref (sz + 0)), (1, .int x1), (2, .int x2), (3, .int x3)] [] := by
  unfold wp_X9_tellLiars at h
  refine aw_aload_n 0 dX9_tellLiars_0 rfl rfl ?_
  refine aw_callV wv_X9_clearRow (M_X9_clearRow hG  h) ml_X9_182 rfl (by decide) (lk0 hG) rfl rfl (Nat.le_of_ble_eq_true rfl) ⟨rfl, rfl⟩ ⟨Nat.le_of_ble_eq_true rfl, Nat.le_of_ble_eq_true rfl⟩ ⟨Nat.le_refl _, Nat.le_refl _⟩ dX9_tellLiars_1 (aw_kv fun I_2 J_3 h => ?_)
  refine aw_aload_n 0 dX9_tellLiars_4 rfl rfl ?_
  refine aw_iload_n 1 dX9_tellLiars_5 rfl rfl ?_
  refine aw_i2l dX9_tellLiars_6 ?_
  refine aw_callV wv_X9_tell (M_X9_tell hG  h) ml_X9_185 rfl (by decide) (lk0 hG) rfl rfl (Nat.le_of_ble_eq_true rfl) ⟨rfl, rfl⟩ ⟨Nat.le_of_ble_eq_true rfl, Nat.le_of_ble_eq_true rfl⟩ ⟨Nat.le_refl _, Nat.le_refl _⟩ dX9_tellLiars_7 (aw_kv fun I_5 J_6 h => ?_)
  refine aw_aload_n 0 dX9_tellLiars_10 rfl rfl ?_
  refine aw_iload_n 2 dX9_tellLiars_11 rfl rfl ?_
  refine aw_i2l dX9_tellLiars_12 ?_
  refine aw_callV wv_X9_tell (M_X9_tell hG  h) ml_X9_185 rfl (by decide) (lk0 hG) rfl rfl (Nat.le_of_ble_eq_true rfl) ⟨rfl, rfl⟩ ⟨Nat.le_of_ble_eq_true rfl, Nat.le_of_ble_eq_true rfl⟩ ⟨Nat.le_refl _, Nat.le_refl _⟩ dX9_tellLiars_13 (aw_kv fun I_8 J_9 h => ?_)
  refine aw_iload_n 1 dX9_tellLiars_16 rfl rfl ?_
  refine aw_callS wv_J6_bitCount_0f7a4 (M_J6_bitCount_0f7a4 trivial  h) ml_X9_267 rfl rfl (Nat.le_of_ble_eq_true rfl) ⟨rfl, rfl⟩ ⟨Nat.le_of_ble_eq_true rfl, Nat.le_of_ble_eq_true rfl⟩ ⟨Nat.le_refl _, Nat.le_refl _⟩ dX9_tellLiars_17 (aw_ki fun r_10 I_11 J_12 h => ?_)
  refine aw_iconst (v := 1) dX9_tellLiars_20 (by decide) ?_
  refine aw_jle 30 dX9_tellLiars_21 (by decide) (fun c_13 => ?_) (fun c_13 => ?_)
  · have h := sw_if.f h c_13
    exact aw_vret rfl dX9_tellLiars_30 ⟨rfl, rfl, h⟩
  · have h := sw_if.t h c_13
    refine aw_aload_n 0 dX9_tellLiars_24 rfl rfl ?_
    refine aw_iload_n 3 dX9_tellLiars_25 rfl rfl ?_
    refine aw_i2l dX9_tellLiars_26 ?_
    refine aw_callV wv_X9_tell (M_X9_tell hG  h) ml_X9_185 rfl (by decide) (lk0 hG) rfl rfl (Nat.le_of_ble_eq_true rfl) ⟨rfl, rfl⟩ ⟨Nat.le_of_ble_eq_true rfl, Nat.le_of_ble_eq_true rfl⟩ ⟨Nat.le_refl _, Nat.le_refl _⟩ dX9_tellLiars_27 (aw_kv fun I_15 J_16 h => ?_)
    exact aw_vret rfl dX9_tellLiars_30 ⟨rfl, rfl, h⟩
theorem M_X9_tellLiars {l : Launch} {D : va_G} {cy : Nat → ClassId} {sz : Nat} {G : sw_G} (hG : sw_lay G)   {Q : sw_I → sw_J → Prop} {x1 : Int32} {x2 : Int32} {x3 : Int32} {I : sw_I} {J : sw_J} (h : wp_X9_tellLiars x1 x2 x3 I J Q) : Met l yX9_tellLiars (Cond.code yX9_tellLiars cX9_tellLiars 4 none :: sw_T) rm_X9_tellLiars (sw_Pc D cy sz [.ref (sz + 0), .int x1, .int x2, .int x3] G I J) (sw_Q D cy sz (sw_qv G Q)) 0 0 (fun q => sz ≤ q) :=
  sw_met (by decide) (fun q => by cases q) (Nat.le_of_ble_eq_true rfl) rfl (t_X9_tellLiars hG  h)
-- X10_house
abbrev rm_X10_house : Room := { frames := 4, cells := 0, slots := 0, locals := 87 }
def wb_X10_house_89  (K89 : Int32 → Int32 → sw_I → sw_J → Prop) (Q : Int32 → sw_I → sw_J → Prop) (x1 : Int32) (x5 : Int32) (I : sw_I) (J : sw_J) : Prop :=
  sw_if (x5 < ((I 131 4) + (I 131 19))) (vp_in x5 10 ∧ vp_in x5 10 ∧ vp_in x5 10 ∧ wp_X10_comes x5 (I 138 x5.toNatClampNeg) (I 139 x5.toNatClampNeg) (I 140 x5.toNatClampNeg) I J (fun I_17 J_18 => ∀ y_19 : Int32, y_19 = x5 + 1 → K89 x1 y_19 I_17 J_18)) (∀ I_4 : sw_I, I_4 = sw_up I 135 (30 : Int32).toNatClampNeg ((I 135 (30 : Int32).toNatClampNeg) ||| (I 131 20)) → ∀ I_6 : sw_I, I_6 = sw_up I_4 131 4 ((I_4 131 4) + (I_4 131 19)) → sw_if (0 < x1) (∀ I_9 : sw_I, I_9 = sw_up I_6 131 32 (0 : Int32) → ∀ I_11 : sw_I, I_11 = sw_up I_9 131 6 ((I_9 131 6) + (1 : Int32)) → Q (I_11 131 19) I_11 J) (Q (I_6 131 19) I_6 J))
def wl_X10_house_89   (Q : Int32 → sw_I → sw_J → Prop) : Nat → Int32 → Int32 → sw_I → sw_J → Prop
  | 0 => fun _ _ _ _ => False
  | n + 1 => fun x1 x5 I J => wb_X10_house_89  (wl_X10_house_89   Q n) Q x1 x5 I J
def wB_X10_house_61  (K34 : Int32 → Int32 → Int32 → sw_I → sw_J → Prop) (Q : Int32 → sw_I → sw_J → Prop) (x1 : Int32) (x2 : Int32) (s0 : Int32) (I : sw_I) (J : sw_J) : Prop :=
  K34 x1 x2 s0 I J
def wB_X10_house_60  (K34 : Int32 → Int32 → Int32 → sw_I → sw_J → Prop) (Q : Int32 → sw_I → sw_J → Prop) (x1 : Int32) (x2 : Int32) (I : sw_I) (J : sw_J) : Prop :=
  wB_X10_house_61  K34 Q x1 x2 0 I J
def wb_X10_house_34  (K34 : Int32 → Int32 → Int32 → sw_I → sw_J → Prop) (Q : Int32 → sw_I → sw_J → Prop) (x1 : Int32) (x2 : Int32) (x3 : Int32) (I : sw_I) (J : sw_J) : Prop :=
  sw_if (x3 = 0) (wp_X10_faultOf x1 76 x2 I J (fun r_2 I_3 J_4 => sw_if (r_2 < 0) (Q r_2 I_3 J_4) (∀ y_6 : Int32, y_6 = (I_3 131 4) → ∃ n_8 : Nat, wl_X10_house_89   Q n_8 x1 y_6 I_3 J_4))) (wp_X10_readsRider  I J (fun r_9 I_10 J_11 => sw_if (r_9 = 0) (wB_X10_house_60  K34 Q x1 r_9 I_10 J_11) (wp_X10_takes 59 I_10 J_11 (fun r_13 I_14 J_15 => sw_if (r_13 = 0) (wB_X10_house_60  K34 Q x1 r_9 I_14 J_15) (wB_X10_house_61  K34 Q x1 r_9 1 I_14 J_15)))))
def wl_X10_house_34   (Q : Int32 → sw_I → sw_J → Prop) : Nat → Int32 → Int32 → Int32 → sw_I → sw_J → Prop
  | 0 => fun _ _ _ _ _ => False
  | n + 1 => fun x1 x2 x3 I J => wb_X10_house_34  (wl_X10_house_34   Q n) Q x1 x2 x3 I J
def wB_X10_house_33   (Q : Int32 → sw_I → sw_J → Prop) (x1 : Int32) (x2 : Int32) (s0 : Int32) (I : sw_I) (J : sw_J) : Prop :=
  ∃ n_1 : Nat, wl_X10_house_34   Q n_1 x1 x2 s0 I J
def wp_X10_house  (I : sw_I) (J : sw_J) (Q : Int32 → sw_I → sw_J → Prop) : Prop :=
  ∀ I_1 : sw_I, I_1 = sw_up I 131 0 (0 : Int32) → wp_X10_begins 76 I_1 J (fun r_3 I_4 J_5 => ∀ I_6 : sw_I, I_6 = sw_up I_4 131 19 (0 : Int32) → ∀ I_8 : sw_I, I_8 = sw_up I_6 131 20 (0 : Int32) → sw_if (0 < r_3) (wB_X10_house_33   Q r_3 1 1 I_8 J_5) (wB_X10_house_33   Q r_3 1 0 I_8 J_5))
set_option maxRecDepth 20000 in
theorem tb_X10_house_89 {l : Launch} {D : va_G} {cy : Nat → ClassId} {sz : Nat} {G : sw_G} (hG : sw_lay G)   {Q : Int32 → sw_I → sw_J → Prop} {K89 : Int32 → Int32 → sw_I → sw_J → Prop} (hK89 : ∀ (x1 : Int32) (x5 : Int32) (I : sw_I) (J : sw_J), K89 x1 x5 I J → AW l D cy sz RX10 cX10_house 6 (some .int) false rm_X10_house 0 0 (sw_qi G Q) 0 0 G I J 89 [(0, .ref (sz + 131)), (1, .int x1), (5, .int x5)] []) {x1 : Int32} {x5 : Int32} {I : sw_I} {J : sw_J} (h : wb_X10_house_89  K89 Q x1 x5 I J) : AW l D cy sz RX10 cX10_house 6 (some .int) false rm_X10_house 0 0 (sw_qi G Q) 0 0 G I J 89 [(0, .ref (sz + 131)), (1, .int x1), (5, .int x5)] [] := by
  unfold wb_X10_house_89 at h
  refine aw_iload 2 dX10_house_89 rfl ?_
  refine aw_aload_n 0 dX10_house_91 rfl rfl ?_
  refine gf_X10_4 fl_X10_29 (lk131 hG) dX10_house_92 ?_
  refine aw_aload_n 0 dX10_house_95 rfl rfl ?_
  refine gf_X10_19 fl_X10_99 (lk131 hG) dX10_house_96 ?_
  refine aw_iadd dX10_house_99 ?_
  refine aw_jge 136 dX10_house_100 (by decide) (fun c_1 => ?_) (fun c_1 => ?_)
  · have h := sw_if.f h c_1
    refine aw_aload_n 0 dX10_house_136 rfl rfl ?_
    refine gf_X10_9 fl_X10_79 (lk131 hG) (lr131_9 hG) dX10_house_137 ?_
    refine aw_bipush (v := 30) dX10_house_140 (by decide) ?_
    refine aw_dup2 dX10_house_142 rfl rfl ?_
    refine aw_ild dX10_house_143 (lk135 hG) (ln135 hG) (by unfold vp_in; decide) ?_
    refine aw_aload_n 0 dX10_house_144 rfl rfl ?_
    refine gf_X10_20 fl_X10_117 (lk131 hG) dX10_house_145 ?_
    refine aw_ior dX10_house_148 ?_
    refine aw_ist dX10_house_149 (lk135 hG) (ln135 hG) (by unfold vp_in; decide) (aw_nameI fun I_4 e_5 => ?_)
    have h := h I_4 e_5
    refine aw_aload_n 0 dX10_house_150 rfl rfl ?_
    refine aw_dup dX10_house_151 rfl ?_
    refine gf_X10_4 fl_X10_29 (lk131 hG) dX10_house_152 ?_
    refine aw_aload_n 0 dX10_house_155 rfl rfl ?_
    refine gf_X10_19 fl_X10_99 (lk131 hG) dX10_house_156 ?_
    refine aw_iadd dX10_house_159 ?_
    refine pf_X10_4 fl_X10_29 (lk131 hG) dX10_house_160 (aw_nameI fun I_6 e_7 => ?_)
    have h := h I_6 e_7
    refine aw_iload_n 1 dX10_house_163 rfl rfl ?_
    refine aw_zle 182 dX10_house_164 (by decide) (fun c_8 => ?_) (fun c_8 => ?_)
    · have h := sw_if.f h c_8
      refine aw_aload_n 0 dX10_house_182 rfl rfl ?_
      refine gf_X10_19 fl_X10_99 (lk131 hG) dX10_house_183 ?_
      exact aw_iret rfl dX10_house_186 ⟨rfl, _, rfl, h⟩
    · have h := sw_if.t h c_8
      refine aw_aload_n 0 dX10_house_167 rfl rfl ?_
      refine aw_iconst (v := 0) dX10_house_168 (by decide) ?_
      refine pf_X10_32 fl_X10_82 (lk131 hG) dX10_house_169 (aw_nameI fun I_9 e_10 => ?_)
      have h := h I_9 e_10
      refine aw_aload_n 0 dX10_house_172 rfl rfl ?_
      refine aw_dup dX10_house_173 rfl ?_
      refine gf_X10_6 fl_X10_88 (lk131 hG) dX10_house_174 ?_
      refine aw_iconst (v := 1) dX10_house_177 (by decide) ?_
      refine aw_iadd dX10_house_178 ?_
      refine pf_X10_6 fl_X10_88 (lk131 hG) dX10_house_179 (aw_nameI fun I_11 e_12 => ?_)
      have h := h I_11 e_12
      refine aw_aload_n 0 dX10_house_182 rfl rfl ?_
      refine gf_X10_19 fl_X10_99 (lk131 hG) dX10_house_183 ?_
      exact aw_iret rfl dX10_house_186 ⟨rfl, _, rfl, h⟩
  · have h := sw_if.t h c_1
    refine aw_aload_n 0 dX10_house_103 rfl rfl ?_
    refine aw_iload 2 dX10_house_104 rfl ?_
    refine aw_aload_n 0 dX10_house_106 rfl rfl ?_
    refine gf_X10_16 fl_X10_102 (lk131 hG) (lr131_16 hG) dX10_house_107 ?_
    refine aw_iload 2 dX10_house_110 rfl ?_
    obtain ⟨hi_13, h⟩ := h
    refine aw_ild dX10_house_112 (lk138 hG) (ln138 hG) hi_13 ?_
    refine aw_aload_n 0 dX10_house_113 rfl rfl ?_
    refine gf_X10_17 fl_X10_111 (lk131 hG) (lr131_17 hG) dX10_house_114 ?_
    refine aw_iload 2 dX10_house_117 rfl ?_
    obtain ⟨hi_14, h⟩ := h
    refine aw_ild dX10_house_119 (lk139 hG) (ln139 hG) hi_14 ?_
    refine aw_aload_n 0 dX10_house_120 rfl rfl ?_
    refine gf_X10_18 fl_X10_114 (lk131 hG) (lr131_18 hG) dX10_house_121 ?_
    refine aw_iload 2 dX10_house_124 rfl ?_
    obtain ⟨hi_15, h⟩ := h
    refine aw_ild dX10_house_126 (lk140 hG) (ln140 hG) hi_15 ?_
    refine aw_callV wv_X10_comes (M_X10_comes hG  h) ml_X10_131 rfl (by decide) (lk131 hG) rfl rfl (Nat.le_of_ble_eq_true rfl) ⟨rfl, rfl⟩ ⟨Nat.le_of_ble_eq_true rfl, Nat.le_of_ble_eq_true rfl⟩ ⟨Nat.le_refl _, Nat.le_refl _⟩ dX10_house_127 (aw_kv fun I_17 J_18 h => ?_)
    obtain ⟨y_19, e_20⟩ : ∃ q : Int32, q = x5 + 1 := ⟨_, rfl⟩
    have h := h y_19 e_20
    refine aw_iinc (lv' := [(5, .int y_19), (0, .ref (sz + 131)), (1, .int x1)]) 2 dX10_house_130 rfl (by rw [e_20]; rfl) (by decide) rfl ?_
    refine aw_goto 89 dX10_house_133 (by decide) ?_
    refine aw_sub [1, 2, 0] rfl ?_
    exact hK89 x1 y_19 I_17 J_18 h
set_option maxRecDepth 20000 in
theorem tl_X10_house_89 {l : Launch} {D : va_G} {cy : Nat → ClassId} {sz : Nat} {G : sw_G} (hG : sw_lay G)   {Q : Int32 → sw_I → sw_J → Prop} : ∀ (n : Nat) (x1 : Int32) (x5 : Int32) (I : sw_I) (J : sw_J), wl_X10_house_89   Q n x1 x5 I J → AW l D cy sz RX10 cX10_house 6 (some .int) false rm_X10_house 0 0 (sw_qi G Q) 0 0 G I J 89 [(0, .ref (sz + 131)), (1, .int x1), (5, .int x5)] [] := by
  intro n
  induction n with
  | zero => intro x1 x5 I J h; exact False.elim h
  | succ n ih => intro x1 x5 I J h; exact tb_X10_house_89 hG  ih h
set_option maxRecDepth 20000 in
theorem t_X10_house_61 {l : Launch} {D : va_G} {cy : Nat → ClassId} {sz : Nat} {G : sw_G} (hG : sw_lay G)   {Q : Int32 → sw_I → sw_J → Prop} {K34 : Int32 → Int32 → Int32 → sw_I → sw_J → Prop} (hK34 : ∀ (x1 : Int32) (x2 : Int32) (x3 : Int32) (I : sw_I) (J : sw_J), K34 x1 x2 x3 I J → AW l D cy sz RX10 cX10_house 6 (some .int) false rm_X10_house 0 0 (sw_qi G Q) 0 0 G I J 34 [(0, .ref (sz + 131)), (1, .int x1), (2, .int x2), (3, .int x3)] []) {x1 : Int32} {x2 : Int32} {s0 : Int32} {I : sw_I} {J : sw_J} (h : wB_X10_house_61  K34 Q x1 x2 s0 I J) : AW l D cy sz RX10 cX10_house 6 (some .int) false rm_X10_house 0 0 (sw_qi G Q) 0 0 G I J 61 [(0, .ref (sz + 131)), (1, .int x1), (2, .int x2)] [.int s0] := by
  unfold wB_X10_house_61 at h
  refine aw_istore_n (lv' := [(3, .int s0), (0, .ref (sz + 131)), (1, .int x1), (2, .int x2)]) dX10_house_61 rfl (by decide) rfl ?_
  refine aw_goto 34 dX10_house_62 (by decide) ?_
  refine aw_sub [1, 2, 3, 0] rfl ?_
  exact hK34 x1 x2 s0 I J h
set_option maxRecDepth 20000 in
theorem t_X10_house_60 {l : Launch} {D : va_G} {cy : Nat → ClassId} {sz : Nat} {G : sw_G} (hG : sw_lay G)   {Q : Int32 → sw_I → sw_J → Prop} {K34 : Int32 → Int32 → Int32 → sw_I → sw_J → Prop} (hK34 : ∀ (x1 : Int32) (x2 : Int32) (x3 : Int32) (I : sw_I) (J : sw_J), K34 x1 x2 x3 I J → AW l D cy sz RX10 cX10_house 6 (some .int) false rm_X10_house 0 0 (sw_qi G Q) 0 0 G I J 34 [(0, .ref (sz + 131)), (1, .int x1), (2, .int x2), (3, .int x3)] []) {x1 : Int32} {x2 : Int32} {I : sw_I} {J : sw_J} (h : wB_X10_house_60  K34 Q x1 x2 I J) : AW l D cy sz RX10 cX10_house 6 (some .int) false rm_X10_house 0 0 (sw_qi G Q) 0 0 G I J 60 [(0, .ref (sz + 131)), (1, .int x1), (2, .int x2)] [] := by
  unfold wB_X10_house_60 at h
  refine aw_iconst (v := 0) dX10_house_60 (by decide) ?_
  refine aw_sub [0, 1, 2] rfl ?_
  exact t_X10_house_61 hG  hK34 h
set_option maxRecDepth 20000 in
theorem tb_X10_house_34 {l : Launch} {D : va_G} {cy : Nat → ClassId} {sz : Nat} {G : sw_G} (hG : sw_lay G)   {Q : Int32 → sw_I → sw_J → Prop} {K34 : Int32 → Int32 → Int32 → sw_I → sw_J → Prop} (hK34 : ∀ (x1 : Int32) (x2 : Int32) (x3 : Int32) (I : sw_I) (J : sw_J), K34 x1 x2 x3 I J → AW l D cy sz RX10 cX10_house 6 (some .int) false rm_X10_house 0 0 (sw_qi G Q) 0 0 G I J 34 [(0, .ref (sz + 131)), (1, .int x1), (2, .int x2), (3, .int x3)] []) {x1 : Int32} {x2 : Int32} {x3 : Int32} {I : sw_I} {J : sw_J} (h : wb_X10_house_34  K34 Q x1 x2 x3 I J) : AW l D cy sz RX10 cX10_house 6 (some .int) false rm_X10_house 0 0 (sw_qi G Q) 0 0 G I J 34 [(0, .ref (sz + 131)), (1, .int x1), (2, .int x2), (3, .int x3)] [] := by
  unfold wb_X10_house_34 at h
  refine aw_iload_n 3 dX10_house_34 rfl rfl ?_
  refine aw_zeq 65 dX10_house_35 (by decide) (fun c_1 => ?_) (fun c_1 => ?_)
  · have h := sw_if.t h c_1
    refine aw_aload_n 0 dX10_house_65 rfl rfl ?_
    refine aw_iload_n 1 dX10_house_66 rfl rfl ?_
    refine aw_bipush (v := 76) dX10_house_67 (by decide) ?_
    refine aw_iload_n 2 dX10_house_69 rfl rfl ?_
    refine aw_callV wv_X10_faultOf (M_X10_faultOf hG  h) ml_X10_127 rfl (by decide) (lk131 hG) rfl rfl (Nat.le_of_ble_eq_true rfl) ⟨rfl, rfl⟩ ⟨Nat.le_of_ble_eq_true rfl, Nat.le_of_ble_eq_true rfl⟩ ⟨Nat.le_refl _, Nat.le_refl _⟩ dX10_house_70 (aw_ki fun r_2 I_3 J_4 h => ?_)
    refine aw_istore (lv' := [(4, .int r_2), (0, .ref (sz + 131)), (1, .int x1), (2, .int x2), (3, .int x3)]) dX10_house_73 (by decide) rfl ?_
    refine aw_iload 0 dX10_house_75 rfl ?_
    refine aw_zge 83 dX10_house_77 (by decide) (fun c_5 => ?_) (fun c_5 => ?_)
    · have h := sw_if.f h c_5
      refine aw_aload_n 1 dX10_house_83 rfl rfl ?_
      refine gf_X10_4 fl_X10_29 (lk131 hG) dX10_house_84 ?_
      refine aw_topi (fun y_6 e_7 => ?_)
      have h := h y_6 e_7
      refine aw_istore (lv' := [(5, .int y_6), (4, .int r_2), (0, .ref (sz + 131)), (1, .int x1), (2, .int x2), (3, .int x3)]) dX10_house_87 (by decide) rfl ?_
      refine aw_sub [2, 3, 0] rfl ?_
      obtain ⟨n_8, h⟩ := h
      exact tl_X10_house_89 hG   n_8 x1 y_6 I_3 J_4 h
    · have h := sw_if.t h c_5
      refine aw_iload 0 dX10_house_80 rfl ?_
      exact aw_iret rfl dX10_house_82 ⟨rfl, _, rfl, h⟩
  · have h := sw_if.f h c_1
    refine aw_aload_n 0 dX10_house_38 rfl rfl ?_
    refine aw_callV wv_X10_readsRider (M_X10_readsRider hG  h) ml_X10_124 rfl (by decide) (lk131 hG) rfl rfl (Nat.le_of_ble_eq_true rfl) ⟨rfl, rfl⟩ ⟨Nat.le_of_ble_eq_true rfl, Nat.le_of_ble_eq_true rfl⟩ ⟨Nat.le_refl _, Nat.le_refl _⟩ dX10_house_39 (aw_ki fun r_9 I_10 J_11 h => ?_)
    refine aw_istore_n (lv' := [(2, .int r_9), (0, .ref (sz + 131)), (1, .int x1), (3, .int x3)]) dX10_house_42 rfl (by decide) rfl ?_
    refine aw_iload_n 0 dX10_house_43 rfl rfl ?_
    refine aw_zeq 60 dX10_house_44 (by decide) (fun c_12 => ?_) (fun c_12 => ?_)
    · have h := sw_if.t h c_12
      refine aw_sub [1, 2, 0] rfl ?_
      exact t_X10_house_60 hG  hK34 h
    · have h := sw_if.f h c_12
      refine aw_aload_n 1 dX10_house_47 rfl rfl ?_
      refine aw_bipush (v := 59) dX10_house_48 (by decide) ?_
      refine aw_callV wv_X10_takes (M_X10_takes hG  h) ml_X10_108 rfl (by decide) (lk131 hG) rfl rfl (Nat.le_of_ble_eq_true rfl) ⟨rfl, rfl⟩ ⟨Nat.le_of_ble_eq_true rfl, Nat.le_of_ble_eq_true rfl⟩ ⟨Nat.le_refl _, Nat.le_refl _⟩ dX10_house_50 (aw_ki fun r_13 I_14 J_15 h => ?_)
      refine aw_zeq 60 dX10_house_53 (by decide) (fun c_16 => ?_) (fun c_16 => ?_)
      · have h := sw_if.t h c_16
        refine aw_sub [1, 2, 0] rfl ?_
        exact t_X10_house_60 hG  hK34 h
      · have h := sw_if.f h c_16
        refine aw_iconst (v := 1) dX10_house_56 (by decide) ?_
        refine aw_goto 61 dX10_house_57 (by decide) ?_
        refine aw_sub [1, 2, 0] rfl ?_
        exact t_X10_house_61 hG  hK34 h
set_option maxRecDepth 20000 in
theorem tl_X10_house_34 {l : Launch} {D : va_G} {cy : Nat → ClassId} {sz : Nat} {G : sw_G} (hG : sw_lay G)   {Q : Int32 → sw_I → sw_J → Prop} : ∀ (n : Nat) (x1 : Int32) (x2 : Int32) (x3 : Int32) (I : sw_I) (J : sw_J), wl_X10_house_34   Q n x1 x2 x3 I J → AW l D cy sz RX10 cX10_house 6 (some .int) false rm_X10_house 0 0 (sw_qi G Q) 0 0 G I J 34 [(0, .ref (sz + 131)), (1, .int x1), (2, .int x2), (3, .int x3)] [] := by
  intro n
  induction n with
  | zero => intro x1 x2 x3 I J h; exact False.elim h
  | succ n ih => intro x1 x2 x3 I J h; exact tb_X10_house_34 hG  ih h
set_option maxRecDepth 20000 in
theorem t_X10_house_33 {l : Launch} {D : va_G} {cy : Nat → ClassId} {sz : Nat} {G : sw_G} (hG : sw_lay G)   {Q : Int32 → sw_I → sw_J → Prop} {x1 : Int32} {x2 : Int32} {s0 : Int32} {I : sw_I} {J : sw_J} (h : wB_X10_house_33   Q x1 x2 s0 I J) : AW l D cy sz RX10 cX10_house 6 (some .int) false rm_X10_house 0 0 (sw_qi G Q) 0 0 G I J 33 [(0, .ref (sz + 131)), (1, .int x1), (2, .int x2)] [.int s0] := by
  unfold wB_X10_house_33 at h
  refine aw_istore_n (lv' := [(3, .int s0), (0, .ref (sz + 131)), (1, .int x1), (2, .int x2)]) dX10_house_33 rfl (by decide) rfl ?_
  refine aw_sub [1, 2, 3, 0] rfl ?_
  obtain ⟨n_1, h⟩ := h
  exact tl_X10_house_34 hG   n_1 x1 x2 s0 I J h
set_option maxRecDepth 20000 in
theorem t_X10_house {l : Launch} {D : va_G} {cy : Nat → ClassId} {sz : Nat} {G : sw_G} (hG : sw_lay G)   {Q : Int32 → sw_I → sw_J → Prop}  {I : sw_I} {J : sw_J} (h : wp_X10_house  I J Q) : AW l D cy sz RX10 cX10_house 6 (some .int) false rm_X10_house 0 0 (sw_qi G Q) 0 0 G I J 0 [(0, .ref (sz + 131))] [] := by
  unfold wp_X10_house at h
  refine aw_aload_n 0 dX10_house_0 rfl rfl ?_
  refine aw_iconst (v := 0) dX10_house_1 (by decide) ?_
  refine pf_X10_0 fl_X10_3 (lk131 hG) dX10_house_2 (aw_nameI fun I_1 e_2 => ?_)
  have h := h I_1 e_2
  refine aw_aload_n 0 dX10_house_5 rfl rfl ?_
  refine aw_bipush (v := 76) dX10_house_6 (by decide) ?_
  refine aw_callV wv_X10_begins (M_X10_begins hG  h) ml_X10_120 rfl (by decide) (lk131 hG) rfl rfl (Nat.le_of_ble_eq_true rfl) ⟨rfl, rfl⟩ ⟨Nat.le_of_ble_eq_true rfl, Nat.le_of_ble_eq_true rfl⟩ ⟨Nat.le_refl _, Nat.le_refl _⟩ dX10_house_8 (aw_ki fun r_3 I_4 J_5 h => ?_)
  refine aw_istore_n (lv' := [(1, .int r_3), (0, .ref (sz + 131))]) dX10_house_11 rfl (by decide) rfl ?_
  refine aw_aload_n 1 dX10_house_12 rfl rfl ?_
  refine aw_iconst (v := 0) dX10_house_13 (by decide) ?_
  refine pf_X10_19 fl_X10_99 (lk131 hG) dX10_house_14 (aw_nameI fun I_6 e_7 => ?_)
  have h := h I_6 e_7
  refine aw_aload_n 1 dX10_house_17 rfl rfl ?_
  refine aw_iconst (v := 0) dX10_house_18 (by decide) ?_
  refine pf_X10_20 fl_X10_117 (lk131 hG) dX10_house_19 (aw_nameI fun I_8 e_9 => ?_)
  have h := h I_8 e_9
  refine aw_iconst (v := 1) dX10_house_22 (by decide) ?_
  refine aw_istore_n (lv' := [(2, .int 1), (1, .int r_3), (0, .ref (sz + 131))]) dX10_house_23 rfl (by decide) rfl ?_
  refine aw_iload_n 1 dX10_house_24 rfl rfl ?_
  refine aw_zle 32 dX10_house_25 (by decide) (fun c_10 => ?_) (fun c_10 => ?_)
  · have h := sw_if.f h c_10
    refine aw_iconst (v := 0) dX10_house_32 (by decide) ?_
    refine aw_sub [2, 1, 0] rfl ?_
    exact t_X10_house_33 hG   h
  · have h := sw_if.t h c_10
    refine aw_iconst (v := 1) dX10_house_28 (by decide) ?_
    refine aw_goto 33 dX10_house_29 (by decide) ?_
    refine aw_sub [2, 1, 0] rfl ?_
    exact t_X10_house_33 hG   h
theorem M_X10_house {l : Launch} {D : va_G} {cy : Nat → ClassId} {sz : Nat} {G : sw_G} (hG : sw_lay G)   {Q : Int32 → sw_I → sw_J → Prop}  {I : sw_I} {J : sw_J} (h : wp_X10_house  I J Q) : Met l yX10_house (Cond.code yX10_house cX10_house 6 (some .int) :: sw_T) rm_X10_house (sw_Pc D cy sz [.ref (sz + 131)] G I J) (sw_Q D cy sz (sw_qi G Q)) 0 0 (fun q => sz ≤ q) :=
  sw_met (by decide) (fun q => by cases q) (Nat.le_of_ble_eq_true rfl) rfl (t_X10_house hG  h)
-- X10_law
abbrev rm_X10_law : Room := { frames := 96, cells := 0, slots := 0, locals := 2200 }
def wb_X10_law_61  (K61 : Int32 → sw_I → sw_J → Prop) (Q : Int32 → sw_I → sw_J → Prop) (x4 : Int32) (I : sw_I) (J : sw_J) : Prop :=
  sw_if (x4 < (I 131 24)) (vp_in x4 80 ∧ vp_in x4 80 ∧ ∀ I_4 : sw_I, I_4 = sw_up I 141 x4.toNatClampNeg (I 142 x4.toNatClampNeg) → ∀ y_6 : Int32, y_6 = x4 + 1 → K61 y_6 I_4 J) (Q (0 : Int32) I J)
def wl_X10_law_61   (Q : Int32 → sw_I → sw_J → Prop) : Nat → Int32 → sw_I → sw_J → Prop
  | 0 => fun _ _ _ => False
  | n + 1 => fun x4 I J => wb_X10_law_61  (wl_X10_law_61   Q n) Q x4 I J
def wB_X10_law_34   (Q : Int32 → sw_I → sw_J → Prop) (x1 : Int32) (s0 : Int32) (I : sw_I) (J : sw_J) : Prop :=
  wp_X10_faultOf x1 40 s0 I J (fun r_1 I_2 J_3 => sw_if (r_1 < 0) (Q r_1 I_2 J_3) (∀ I_5 : sw_I, I_5 = sw_up I_2 131 23 (I_2 131 24) → ∃ n_7 : Nat, wl_X10_law_61   Q n_7 0 I_5 J_3))
def wB_X10_law_29   (Q : Int32 → sw_I → sw_J → Prop) (x1 : Int32) (I : sw_I) (J : sw_J) : Prop :=
  wB_X10_law_34   Q x1 1 I J
def wp_X10_law  (I : sw_I) (J : sw_J) (Q : Int32 → sw_I → sw_J → Prop) : Prop :=
  ∀ I_1 : sw_I, I_1 = sw_up I 131 0 (0 : Int32) → wp_X10_begins 40 I_1 J (fun r_3 I_4 J_5 => ∀ I_6 : sw_I, I_6 = sw_up I_4 131 24 (0 : Int32) → sw_if (r_3 = 0) (wB_X10_law_29   Q r_3 I_6 J_5) (wp_X10_readsRank 90 0 I_6 J_5 (fun r_9 I_10 J_11 => sw_if (r_9 = 0) (wB_X10_law_34   Q r_3 0 I_10 J_11) (wB_X10_law_29   Q r_3 I_10 J_11))))
set_option maxRecDepth 20000 in
theorem tb_X10_law_61 {l : Launch} {D : va_G} {cy : Nat → ClassId} {sz : Nat} {G : sw_G} (hG : sw_lay G)   {Q : Int32 → sw_I → sw_J → Prop} {K61 : Int32 → sw_I → sw_J → Prop} (hK61 : ∀ (x4 : Int32) (I : sw_I) (J : sw_J), K61 x4 I J → AW l D cy sz RX10 cX10_law 5 (some .int) false rm_X10_law 0 0 (sw_qi G Q) 0 0 G I J 61 [(0, .ref (sz + 131)), (4, .int x4)] []) {x4 : Int32} {I : sw_I} {J : sw_J} (h : wb_X10_law_61  K61 Q x4 I J) : AW l D cy sz RX10 cX10_law 5 (some .int) false rm_X10_law 0 0 (sw_qi G Q) 0 0 G I J 61 [(0, .ref (sz + 131)), (4, .int x4)] [] := by
  unfold wb_X10_law_61 at h
  refine aw_iload 1 dX10_law_61 rfl ?_
  refine aw_aload_n 0 dX10_law_63 rfl rfl ?_
  refine gf_X10_24 fl_X10_144 (lk131 hG) dX10_law_64 ?_
  refine aw_jge 90 dX10_law_67 (by decide) (fun c_1 => ?_) (fun c_1 => ?_)
  · have h := sw_if.f h c_1
    refine aw_iconst (v := 0) dX10_law_90 (by decide) ?_
    exact aw_iret rfl dX10_law_91 ⟨rfl, _, rfl, h⟩
  · have h := sw_if.t h c_1
    refine aw_aload_n 0 dX10_law_70 rfl rfl ?_
    refine gf_X10_21 fl_X10_172 (lk131 hG) (lr131_21 hG) dX10_law_71 ?_
    refine aw_iload 1 dX10_law_74 rfl ?_
    refine aw_aload_n 0 dX10_law_76 rfl rfl ?_
    refine gf_X10_22 fl_X10_141 (lk131 hG) (lr131_22 hG) dX10_law_77 ?_
    refine aw_iload 1 dX10_law_80 rfl ?_
    obtain ⟨hi_2, h⟩ := h
    refine aw_ild dX10_law_82 (lk142 hG) (ln142 hG) hi_2 ?_
    obtain ⟨hi_3, h⟩ := h
    refine aw_ist dX10_law_83 (lk141 hG) (ln141 hG) hi_3 (aw_nameI fun I_4 e_5 => ?_)
    have h := h I_4 e_5
    obtain ⟨y_6, e_7⟩ : ∃ q : Int32, q = x4 + 1 := ⟨_, rfl⟩
    have h := h y_6 e_7
    refine aw_iinc (lv' := [(4, .int y_6), (0, .ref (sz + 131))]) 1 dX10_law_84 rfl (by rw [e_7]; rfl) (by decide) rfl ?_
    refine aw_goto 61 dX10_law_87 (by decide) ?_
    refine aw_sub [1, 0] rfl ?_
    exact hK61 y_6 I_4 J h
set_option maxRecDepth 20000 in
theorem tl_X10_law_61 {l : Launch} {D : va_G} {cy : Nat → ClassId} {sz : Nat} {G : sw_G} (hG : sw_lay G)   {Q : Int32 → sw_I → sw_J → Prop} : ∀ (n : Nat) (x4 : Int32) (I : sw_I) (J : sw_J), wl_X10_law_61   Q n x4 I J → AW l D cy sz RX10 cX10_law 5 (some .int) false rm_X10_law 0 0 (sw_qi G Q) 0 0 G I J 61 [(0, .ref (sz + 131)), (4, .int x4)] [] := by
  intro n
  induction n with
  | zero => intro x4 I J h; exact False.elim h
  | succ n ih => intro x4 I J h; exact tb_X10_law_61 hG  ih h
set_option maxRecDepth 20000 in
theorem t_X10_law_34 {l : Launch} {D : va_G} {cy : Nat → ClassId} {sz : Nat} {G : sw_G} (hG : sw_lay G)   {Q : Int32 → sw_I → sw_J → Prop} {x1 : Int32} {s0 : Int32} {I : sw_I} {J : sw_J} (h : wB_X10_law_34   Q x1 s0 I J) : AW l D cy sz RX10 cX10_law 5 (some .int) false rm_X10_law 0 0 (sw_qi G Q) 0 0 G I J 34 [(0, .ref (sz + 131)), (1, .int x1)] [.int s0] := by
  unfold wB_X10_law_34 at h
  refine aw_istore_n (lv' := [(2, .int s0), (0, .ref (sz + 131)), (1, .int x1)]) dX10_law_34 rfl (by decide) rfl ?_
  refine aw_aload_n 1 dX10_law_35 rfl rfl ?_
  refine aw_iload_n 2 dX10_law_36 rfl rfl ?_
  refine aw_bipush (v := 40) dX10_law_37 (by decide) ?_
  refine aw_iload_n 0 dX10_law_39 rfl rfl ?_
  refine aw_callV wv_X10_faultOf (M_X10_faultOf hG  h) ml_X10_127 rfl (by decide) (lk131 hG) rfl rfl (Nat.le_of_ble_eq_true rfl) ⟨rfl, rfl⟩ ⟨Nat.le_of_ble_eq_true rfl, Nat.le_of_ble_eq_true rfl⟩ ⟨Nat.le_refl _, Nat.le_refl _⟩ dX10_law_40 (aw_ki fun r_1 I_2 J_3 h => ?_)
  refine aw_istore_n (lv' := [(3, .int r_1), (2, .int s0), (0, .ref (sz + 131)), (1, .int x1)]) dX10_law_43 rfl (by decide) rfl ?_
  refine aw_iload_n 0 dX10_law_44 rfl rfl ?_
  refine aw_zge 50 dX10_law_45 (by decide) (fun c_4 => ?_) (fun c_4 => ?_)
  · have h := sw_if.f h c_4
    refine aw_aload_n 2 dX10_law_50 rfl rfl ?_
    refine aw_aload_n 2 dX10_law_51 rfl rfl ?_
    refine gf_X10_24 fl_X10_144 (lk131 hG) dX10_law_52 ?_
    refine pf_X10_23 fl_X10_169 (lk131 hG) dX10_law_55 (aw_nameI fun I_5 e_6 => ?_)
    have h := h I_5 e_6
    refine aw_iconst (v := 0) dX10_law_58 (by decide) ?_
    refine aw_istore (lv' := [(4, .int 0), (3, .int r_1), (2, .int s0), (0, .ref (sz + 131)), (1, .int x1)]) dX10_law_59 (by decide) rfl ?_
    refine aw_sub [3, 0] rfl ?_
    obtain ⟨n_7, h⟩ := h
    exact tl_X10_law_61 hG   n_7 0 I_5 J_3 h
  · have h := sw_if.t h c_4
    refine aw_iload_n 0 dX10_law_48 rfl rfl ?_
    exact aw_iret rfl dX10_law_49 ⟨rfl, _, rfl, h⟩
set_option maxRecDepth 20000 in
theorem t_X10_law_29 {l : Launch} {D : va_G} {cy : Nat → ClassId} {sz : Nat} {G : sw_G} (hG : sw_lay G)   {Q : Int32 → sw_I → sw_J → Prop} {x1 : Int32} {I : sw_I} {J : sw_J} (h : wB_X10_law_29   Q x1 I J) : AW l D cy sz RX10 cX10_law 5 (some .int) false rm_X10_law 0 0 (sw_qi G Q) 0 0 G I J 29 [(0, .ref (sz + 131)), (1, .int x1)] [] := by
  unfold wB_X10_law_29 at h
  refine aw_iconst (v := 1) dX10_law_29 (by decide) ?_
  refine aw_goto 34 dX10_law_30 (by decide) ?_
  refine aw_sub [0, 1] rfl ?_
  exact t_X10_law_34 hG   h
set_option maxRecDepth 20000 in
theorem t_X10_law {l : Launch} {D : va_G} {cy : Nat → ClassId} {sz : Nat} {G : sw_G} (hG : sw_lay G)   {Q : Int32 → sw_I → sw_J → Prop}  {I : sw_I} {J : sw_J} (h : wp_X10_law  I J Q) : AW l D cy sz RX10 cX10_law 5 (some .int) false rm_X10_law 0 0 (sw_qi G Q) 0 0 G I J 0 [(0, .ref (sz + 131))] [] := by
  unfold wp_X10_law at h
  refine aw_aload_n 0 dX10_law_0 rfl rfl ?_
  refine aw_iconst (v := 0) dX10_law_1 (by decide) ?_
  refine pf_X10_0 fl_X10_3 (lk131 hG) dX10_law_2 (aw_nameI fun I_1 e_2 => ?_)
  have h := h I_1 e_2
  refine aw_aload_n 0 dX10_law_5 rfl rfl ?_
  refine aw_bipush (v := 40) dX10_law_6 (by decide) ?_
  refine aw_callV wv_X10_begins (M_X10_begins hG  h) ml_X10_120 rfl (by decide) (lk131 hG) rfl rfl (Nat.le_of_ble_eq_true rfl) ⟨rfl, rfl⟩ ⟨Nat.le_of_ble_eq_true rfl, Nat.le_of_ble_eq_true rfl⟩ ⟨Nat.le_refl _, Nat.le_refl _⟩ dX10_law_8 (aw_ki fun r_3 I_4 J_5 h => ?_)
  refine aw_istore_n (lv' := [(1, .int r_3), (0, .ref (sz + 131))]) dX10_law_11 rfl (by decide) rfl ?_
  refine aw_aload_n 1 dX10_law_12 rfl rfl ?_
  refine aw_iconst (v := 0) dX10_law_13 (by decide) ?_
  refine pf_X10_24 fl_X10_144 (lk131 hG) dX10_law_14 (aw_nameI fun I_6 e_7 => ?_)
  have h := h I_6 e_7
  refine aw_iload_n 0 dX10_law_17 rfl rfl ?_
  refine aw_zeq 29 dX10_law_18 (by decide) (fun c_8 => ?_) (fun c_8 => ?_)
  · have h := sw_if.t h c_8
    refine aw_sub [1, 0] rfl ?_
    exact t_X10_law_29 hG   h
  · have h := sw_if.f h c_8
    refine aw_aload_n 1 dX10_law_21 rfl rfl ?_
    refine aw_iconst (v := 0) dX10_law_22 (by decide) ?_
    refine aw_callV wv_X10_readsRank (M_X10_readsRank hG 90  h) ml_X10_160 rfl (by decide) (lk131 hG) rfl rfl (Nat.le_of_ble_eq_true rfl) ⟨rfl, rfl⟩ ⟨Nat.le_of_ble_eq_true rfl, Nat.le_of_ble_eq_true rfl⟩ ⟨Nat.le_refl _, Nat.le_refl _⟩ dX10_law_23 (aw_ki fun r_9 I_10 J_11 h => ?_)
    refine aw_zeq 33 dX10_law_26 (by decide) (fun c_12 => ?_) (fun c_12 => ?_)
    · have h := sw_if.t h c_12
      refine aw_iconst (v := 0) dX10_law_33 (by decide) ?_
      refine aw_sub [1, 0] rfl ?_
      exact t_X10_law_34 hG   h
    · have h := sw_if.f h c_12
      refine aw_sub [1, 0] rfl ?_
      exact t_X10_law_29 hG   h
theorem M_X10_law {l : Launch} {D : va_G} {cy : Nat → ClassId} {sz : Nat} {G : sw_G} (hG : sw_lay G)   {Q : Int32 → sw_I → sw_J → Prop}  {I : sw_I} {J : sw_J} (h : wp_X10_law  I J Q) : Met l yX10_law (Cond.code yX10_law cX10_law 5 (some .int) :: sw_T) rm_X10_law (sw_Pc D cy sz [.ref (sz + 131)] G I J) (sw_Q D cy sz (sw_qi G Q)) 0 0 (fun q => sz ≤ q) :=
  sw_met (by decide) (fun q => by cases q) (Nat.le_of_ble_eq_true rfl) rfl (t_X10_law hG  h)
-- X10_looks
abbrev rm_X10_looks : Room := { frames := 1, cells := 0, slots := 0, locals := 21 }
def wB_X10_looks_117 (b1 : Nat) (n1 : Nat) (K54 : Int32 → Int32 → sw_I → sw_J → Prop) (Q : sw_I → sw_J → Prop) (x2 : Int32) (x3 : Int32) (I : sw_I) (J : sw_J) : Prop :=
  ∀ y_1 : Int32, y_1 = x3 + 1 → K54 x2 y_1 I J
def wb_X10_looks_54 (b1 : Nat) (n1 : Nat) (K54 : Int32 → Int32 → sw_I → sw_J → Prop) (Q : sw_I → sw_J → Prop) (x2 : Int32) (x3 : Int32) (I : sw_I) (J : sw_J) : Prop :=
  sw_if (x3 < (I 131 4)) (wp_X10_has x2 x3 I J (fun r_2 I_3 J_4 => sw_if (r_2 = 0) (vp_in x3 n1 ∧ sw_if ((I_3 b1 x3.toNatClampNeg) = (9 : Int32)) (wB_X10_looks_117 b1 n1 K54 Q x2 x3 I_3 J_4) (vp_in x3 n1 ∧ vp_in (I_3 b1 x3.toNatClampNeg) 9 ∧ vp_in (I_3 b1 x3.toNatClampNeg) 9 ∧ ∀ I_11 : sw_I, I_11 = sw_up I_3 145 (I_3 b1 x3.toNatClampNeg).toNatClampNeg ((I_3 145 (I_3 b1 x3.toNatClampNeg).toNatClampNeg) + (1 : Int32)) → wB_X10_looks_117 b1 n1 K54 Q x2 x3 I_11 J_4)) (vp_in ((10 : Int32) + x3) n1 ∧ sw_if ((I_3 b1 ((10 : Int32) + x3).toNatClampNeg) < 0) (wB_X10_looks_117 b1 n1 K54 Q x2 x3 I_3 J_4) (vp_in ((10 : Int32) + x3) n1 ∧ vp_in (I_3 b1 ((10 : Int32) + x3).toNatClampNeg) 9 ∧ vp_in (I_3 b1 ((10 : Int32) + x3).toNatClampNeg) 9 ∧ ∀ I_18 : sw_I, I_18 = sw_up I_3 144 (I_3 b1 ((10 : Int32) + x3).toNatClampNeg).toNatClampNeg ((I_3 144 (I_3 b1 ((10 : Int32) + x3).toNatClampNeg).toNatClampNeg) + (1 : Int32)) → wB_X10_looks_117 b1 n1 K54 Q x2 x3 I_18 J_4)))) (Q I J)
def wl_X10_looks_54 (b1 : Nat) (n1 : Nat)  (Q : sw_I → sw_J → Prop) : Nat → Int32 → Int32 → sw_I → sw_J → Prop
  | 0 => fun _ _ _ _ => False
  | n + 1 => fun x2 x3 I J => wb_X10_looks_54 b1 n1 (wl_X10_looks_54 b1 n1  Q n) Q x2 x3 I J
def wb_X10_looks_26 (b1 : Nat) (n1 : Nat) (K26 : Int32 → Int32 → sw_I → sw_J → Prop) (Q : sw_I → sw_J → Prop) (x2 : Int32) (x3 : Int32) (I : sw_I) (J : sw_J) : Prop :=
  sw_if (x3 < (9 : Int32)) (vp_in x3 9 ∧ ∀ I_4 : sw_I, I_4 = sw_up I 144 x3.toNatClampNeg (0 : Int32) → vp_in x3 9 ∧ ∀ I_7 : sw_I, I_7 = sw_up I_4 145 x3.toNatClampNeg (0 : Int32) → ∀ y_9 : Int32, y_9 = x3 + 1 → K26 x2 y_9 I_7 J) (∃ n_2 : Nat, wl_X10_looks_54 b1 n1  Q n_2 x2 0 I J)
def wl_X10_looks_26 (b1 : Nat) (n1 : Nat)  (Q : sw_I → sw_J → Prop) : Nat → Int32 → Int32 → sw_I → sw_J → Prop
  | 0 => fun _ _ _ _ => False
  | n + 1 => fun x2 x3 I J => wb_X10_looks_26 b1 n1 (wl_X10_looks_26 b1 n1  Q n) Q x2 x3 I J
def wp_X10_looks (b1 : Nat) (n1 : Nat) (x2 : Int32) (I : sw_I) (J : sw_J) (Q : sw_I → sw_J → Prop) : Prop :=
  wp_J6_bitCount_0f7a4 x2 I J (fun r_1 I_2 J_3 => ∀ I_4 : sw_I, I_4 = sw_up I_2 131 28 r_1 → vp_in (31 : Int32) n1 ∧ ∀ I_7 : sw_I, I_7 = sw_up I_4 131 29 (I_4 b1 (31 : Int32).toNatClampNeg) → vp_in (32 : Int32) n1 ∧ ∀ I_10 : sw_I, I_10 = sw_up I_7 131 30 (I_7 b1 (32 : Int32).toNatClampNeg) → ∃ n_12 : Nat, wl_X10_looks_26 b1 n1  Q n_12 x2 0 I_10 J_3)
set_option maxRecDepth 20000 in
theorem t_X10_looks_117 {l : Launch} {D : va_G} {cy : Nat → ClassId} {sz : Nat} {G : sw_G} (hG : sw_lay G) {b1 : Nat} {n1 : Nat} (hb1 : sw_ia G b1 n1) {Q : sw_I → sw_J → Prop} {K54 : Int32 → Int32 → sw_I → sw_J → Prop} (hK54 : ∀ (x2 : Int32) (x3 : Int32) (I : sw_I) (J : sw_J), K54 x2 x3 I J → AW l D cy sz RX10 cX10_looks 4 none false rm_X10_looks 0 0 (sw_qv G Q) 0 0 G I J 54 [(0, .ref (sz + 131)), (1, .ref (sz + b1)), (2, .int x2), (3, .int x3)] []) {x2 : Int32} {x3 : Int32} {I : sw_I} {J : sw_J} (h : wB_X10_looks_117 b1 n1 K54 Q x2 x3 I J) : AW l D cy sz RX10 cX10_looks 4 none false rm_X10_looks 0 0 (sw_qv G Q) 0 0 G I J 117 [(0, .ref (sz + 131)), (1, .ref (sz + b1)), (2, .int x2), (3, .int x3)] [] := by
  unfold wB_X10_looks_117 at h
  obtain ⟨y_1, e_2⟩ : ∃ q : Int32, q = x3 + 1 := ⟨_, rfl⟩
  have h := h y_1 e_2
  refine aw_iinc (lv' := [(3, .int y_1), (0, .ref (sz + 131)), (1, .ref (sz + b1)), (2, .int x2)]) 3 dX10_looks_117 rfl (by rw [e_2]; rfl) (by decide) rfl ?_
  refine aw_goto 54 dX10_looks_120 (by decide) ?_
  refine aw_sub [1, 2, 3, 0] rfl ?_
  exact hK54 x2 y_1 I J h
set_option maxRecDepth 20000 in
theorem tb_X10_looks_54 {l : Launch} {D : va_G} {cy : Nat → ClassId} {sz : Nat} {G : sw_G} (hG : sw_lay G) {b1 : Nat} {n1 : Nat} (hb1 : sw_ia G b1 n1) {Q : sw_I → sw_J → Prop} {K54 : Int32 → Int32 → sw_I → sw_J → Prop} (hK54 : ∀ (x2 : Int32) (x3 : Int32) (I : sw_I) (J : sw_J), K54 x2 x3 I J → AW l D cy sz RX10 cX10_looks 4 none false rm_X10_looks 0 0 (sw_qv G Q) 0 0 G I J 54 [(0, .ref (sz + 131)), (1, .ref (sz + b1)), (2, .int x2), (3, .int x3)] []) {x2 : Int32} {x3 : Int32} {I : sw_I} {J : sw_J} (h : wb_X10_looks_54 b1 n1 K54 Q x2 x3 I J) : AW l D cy sz RX10 cX10_looks 4 none false rm_X10_looks 0 0 (sw_qv G Q) 0 0 G I J 54 [(0, .ref (sz + 131)), (1, .ref (sz + b1)), (2, .int x2), (3, .int x3)] [] := by
  unfold wb_X10_looks_54 at h
  refine aw_iload_n 3 dX10_looks_54 rfl rfl ?_
  refine aw_aload_n 0 dX10_looks_55 rfl rfl ?_
  refine gf_X10_4 fl_X10_29 (lk131 hG) dX10_looks_56 ?_
  refine aw_jge 123 dX10_looks_59 (by decide) (fun c_1 => ?_) (fun c_1 => ?_)
  · have h := sw_if.f h c_1
    exact aw_vret rfl dX10_looks_123 ⟨rfl, rfl, h⟩
  · have h := sw_if.t h c_1
    refine aw_iload_n 2 dX10_looks_62 rfl rfl ?_
    refine aw_iload_n 3 dX10_looks_63 rfl rfl ?_
    refine aw_callS wv_X10_has (M_X10_has trivial  h) ml_X10_195 rfl rfl (Nat.le_of_ble_eq_true rfl) ⟨rfl, rfl⟩ ⟨Nat.le_of_ble_eq_true rfl, Nat.le_of_ble_eq_true rfl⟩ ⟨Nat.le_refl _, Nat.le_refl _⟩ dX10_looks_64 (aw_ki fun r_2 I_3 J_4 h => ?_)
    refine aw_zeq 97 dX10_looks_67 (by decide) (fun c_5 => ?_) (fun c_5 => ?_)
    · have h := sw_if.t h c_5
      refine aw_aload_n 1 dX10_looks_97 rfl rfl ?_
      refine aw_iload_n 3 dX10_looks_98 rfl rfl ?_
      obtain ⟨hi_6, h⟩ := h
      refine aw_ild dX10_looks_99 hb1.1 hb1.2 hi_6 ?_
      refine aw_bipush (v := 9) dX10_looks_100 (by decide) ?_
      refine aw_jeq 117 dX10_looks_102 (by decide) (fun c_7 => ?_) (fun c_7 => ?_)
      · have h := sw_if.t h c_7
        refine aw_sub [0, 1, 2, 3] rfl ?_
        exact t_X10_looks_117 hG hb1 hK54 h
      · have h := sw_if.f h c_7
        refine aw_aload_n 0 dX10_looks_105 rfl rfl ?_
        refine gf_X10_27 fl_X10_192 (lk131 hG) (lr131_27 hG) dX10_looks_106 ?_
        refine aw_aload_n 1 dX10_looks_109 rfl rfl ?_
        refine aw_iload_n 3 dX10_looks_110 rfl rfl ?_
        obtain ⟨hi_8, h⟩ := h
        refine aw_ild dX10_looks_111 hb1.1 hb1.2 hi_8 ?_
        refine aw_dup2 dX10_looks_112 rfl rfl ?_
        obtain ⟨hi_9, h⟩ := h
        refine aw_ild dX10_looks_113 (lk145 hG) (ln145 hG) hi_9 ?_
        refine aw_iconst (v := 1) dX10_looks_114 (by decide) ?_
        refine aw_iadd dX10_looks_115 ?_
        obtain ⟨hi_10, h⟩ := h
        refine aw_ist dX10_looks_116 (lk145 hG) (ln145 hG) hi_10 (aw_nameI fun I_11 e_12 => ?_)
        have h := h I_11 e_12
        refine aw_sub [0, 1, 2, 3] rfl ?_
        exact t_X10_looks_117 hG hb1 hK54 h
    · have h := sw_if.f h c_5
      refine aw_aload_n 1 dX10_looks_70 rfl rfl ?_
      refine aw_bipush (v := 10) dX10_looks_71 (by decide) ?_
      refine aw_iload_n 3 dX10_looks_73 rfl rfl ?_
      refine aw_iadd dX10_looks_74 ?_
      obtain ⟨hi_13, h⟩ := h
      refine aw_ild dX10_looks_75 hb1.1 hb1.2 hi_13 ?_
      refine aw_zlt 117 dX10_looks_76 (by decide) (fun c_14 => ?_) (fun c_14 => ?_)
      · have h := sw_if.t h c_14
        refine aw_sub [0, 1, 2, 3] rfl ?_
        exact t_X10_looks_117 hG hb1 hK54 h
      · have h := sw_if.f h c_14
        refine aw_aload_n 0 dX10_looks_79 rfl rfl ?_
        refine gf_X10_26 fl_X10_189 (lk131 hG) (lr131_26 hG) dX10_looks_80 ?_
        refine aw_aload_n 1 dX10_looks_83 rfl rfl ?_
        refine aw_bipush (v := 10) dX10_looks_84 (by decide) ?_
        refine aw_iload_n 3 dX10_looks_86 rfl rfl ?_
        refine aw_iadd dX10_looks_87 ?_
        obtain ⟨hi_15, h⟩ := h
        refine aw_ild dX10_looks_88 hb1.1 hb1.2 hi_15 ?_
        refine aw_dup2 dX10_looks_89 rfl rfl ?_
        obtain ⟨hi_16, h⟩ := h
        refine aw_ild dX10_looks_90 (lk144 hG) (ln144 hG) hi_16 ?_
        refine aw_iconst (v := 1) dX10_looks_91 (by decide) ?_
        refine aw_iadd dX10_looks_92 ?_
        obtain ⟨hi_17, h⟩ := h
        refine aw_ist dX10_looks_93 (lk144 hG) (ln144 hG) hi_17 (aw_nameI fun I_18 e_19 => ?_)
        have h := h I_18 e_19
        refine aw_goto 117 dX10_looks_94 (by decide) ?_
        refine aw_sub [0, 1, 2, 3] rfl ?_
        exact t_X10_looks_117 hG hb1 hK54 h
set_option maxRecDepth 20000 in
theorem tl_X10_looks_54 {l : Launch} {D : va_G} {cy : Nat → ClassId} {sz : Nat} {G : sw_G} (hG : sw_lay G) {b1 : Nat} {n1 : Nat} (hb1 : sw_ia G b1 n1) {Q : sw_I → sw_J → Prop} : ∀ (n : Nat) (x2 : Int32) (x3 : Int32) (I : sw_I) (J : sw_J), wl_X10_looks_54 b1 n1  Q n x2 x3 I J → AW l D cy sz RX10 cX10_looks 4 none false rm_X10_looks 0 0 (sw_qv G Q) 0 0 G I J 54 [(0, .ref (sz + 131)), (1, .ref (sz + b1)), (2, .int x2), (3, .int x3)] [] := by
  intro n
  induction n with
  | zero => intro x2 x3 I J h; exact False.elim h
  | succ n ih => intro x2 x3 I J h; exact tb_X10_looks_54 hG hb1 ih h
set_option maxRecDepth 20000 in
theorem tb_X10_looks_26 {l : Launch} {D : va_G} {cy : Nat → ClassId} {sz : Nat} {G : sw_G} (hG : sw_lay G) {b1 : Nat} {n1 : Nat} (hb1 : sw_ia G b1 n1) {Q : sw_I → sw_J → Prop} {K26 : Int32 → Int32 → sw_I → sw_J → Prop} (hK26 : ∀ (x2 : Int32) (x3 : Int32) (I : sw_I) (J : sw_J), K26 x2 x3 I J → AW l D cy sz RX10 cX10_looks 4 none false rm_X10_looks 0 0 (sw_qv G Q) 0 0 G I J 26 [(0, .ref (sz + 131)), (1, .ref (sz + b1)), (2, .int x2), (3, .int x3)] []) {x2 : Int32} {x3 : Int32} {I : sw_I} {J : sw_J} (h : wb_X10_looks_26 b1 n1 K26 Q x2 x3 I J) : AW l D cy sz RX10 cX10_looks 4 none false rm_X10_looks 0 0 (sw_qv G Q) 0 0 G I J 26 [(0, .ref (sz + 131)), (1, .ref (sz + b1)), (2, .int x2), (3, .int x3)] [] := by
  unfold wb_X10_looks_26 at h
  refine aw_iload_n 3 dX10_looks_26 rfl rfl ?_
  refine aw_bipush (v := 9) dX10_looks_27 (by decide) ?_
  refine aw_jge 52 dX10_looks_29 (by decide) (fun c_1 => ?_) (fun c_1 => ?_)
  · have h := sw_if.f h c_1
    refine aw_iconst (v := 0) dX10_looks_52 (by decide) ?_
    refine aw_istore_n (lv' := [(3, .int 0), (0, .ref (sz + 131)), (1, .ref (sz + b1)), (2, .int x2)]) dX10_looks_53 rfl (by decide) rfl ?_
    refine aw_sub [1, 2, 3, 0] rfl ?_
    obtain ⟨n_2, h⟩ := h
    exact tl_X10_looks_54 hG hb1  n_2 x2 0 I J h
  · have h := sw_if.t h c_1
    refine aw_aload_n 0 dX10_looks_32 rfl rfl ?_
    refine gf_X10_26 fl_X10_189 (lk131 hG) (lr131_26 hG) dX10_looks_33 ?_
    refine aw_iload_n 3 dX10_looks_36 rfl rfl ?_
    refine aw_iconst (v := 0) dX10_looks_37 (by decide) ?_
    obtain ⟨hi_3, h⟩ := h
    refine aw_ist dX10_looks_38 (lk144 hG) (ln144 hG) hi_3 (aw_nameI fun I_4 e_5 => ?_)
    have h := h I_4 e_5
    refine aw_aload_n 0 dX10_looks_39 rfl rfl ?_
    refine gf_X10_27 fl_X10_192 (lk131 hG) (lr131_27 hG) dX10_looks_40 ?_
    refine aw_iload_n 3 dX10_looks_43 rfl rfl ?_
    refine aw_iconst (v := 0) dX10_looks_44 (by decide) ?_
    obtain ⟨hi_6, h⟩ := h
    refine aw_ist dX10_looks_45 (lk145 hG) (ln145 hG) hi_6 (aw_nameI fun I_7 e_8 => ?_)
    have h := h I_7 e_8
    obtain ⟨y_9, e_10⟩ : ∃ q : Int32, q = x3 + 1 := ⟨_, rfl⟩
    have h := h y_9 e_10
    refine aw_iinc (lv' := [(3, .int y_9), (0, .ref (sz + 131)), (1, .ref (sz + b1)), (2, .int x2)]) 3 dX10_looks_46 rfl (by rw [e_10]; rfl) (by decide) rfl ?_
    refine aw_goto 26 dX10_looks_49 (by decide) ?_
    refine aw_sub [1, 2, 3, 0] rfl ?_
    exact hK26 x2 y_9 I_7 J h
set_option maxRecDepth 20000 in
theorem tl_X10_looks_26 {l : Launch} {D : va_G} {cy : Nat → ClassId} {sz : Nat} {G : sw_G} (hG : sw_lay G) {b1 : Nat} {n1 : Nat} (hb1 : sw_ia G b1 n1) {Q : sw_I → sw_J → Prop} : ∀ (n : Nat) (x2 : Int32) (x3 : Int32) (I : sw_I) (J : sw_J), wl_X10_looks_26 b1 n1  Q n x2 x3 I J → AW l D cy sz RX10 cX10_looks 4 none false rm_X10_looks 0 0 (sw_qv G Q) 0 0 G I J 26 [(0, .ref (sz + 131)), (1, .ref (sz + b1)), (2, .int x2), (3, .int x3)] [] := by
  intro n
  induction n with
  | zero => intro x2 x3 I J h; exact False.elim h
  | succ n ih => intro x2 x3 I J h; exact tb_X10_looks_26 hG hb1 ih h
set_option maxRecDepth 20000 in
theorem t_X10_looks {l : Launch} {D : va_G} {cy : Nat → ClassId} {sz : Nat} {G : sw_G} (hG : sw_lay G) {b1 : Nat} {n1 : Nat} (hb1 : sw_ia G b1 n1) {Q : sw_I → sw_J → Prop} {x2 : Int32} {I : sw_I} {J : sw_J} (h : wp_X10_looks b1 n1 x2 I J Q) : AW l D cy sz RX10 cX10_looks 4 none false rm_X10_looks 0 0 (sw_qv G Q) 0 0 G I J 0 [(0, .ref (sz + 131)), (1, .ref (sz + b1)), (2, .int x2)] [] := by
  unfold wp_X10_looks at h
  refine aw_aload_n 0 dX10_looks_0 rfl rfl ?_
  refine aw_iload_n 2 dX10_looks_1 rfl rfl ?_
  refine aw_callS wv_J6_bitCount_0f7a4 (M_J6_bitCount_0f7a4 trivial  h) ml_X10_175 rfl rfl (Nat.le_of_ble_eq_true rfl) ⟨rfl, rfl⟩ ⟨Nat.le_of_ble_eq_true rfl, Nat.le_of_ble_eq_true rfl⟩ ⟨Nat.le_refl _, Nat.le_refl _⟩ dX10_looks_2 (aw_ki fun r_1 I_2 J_3 h => ?_)
  refine pf_X10_28 fl_X10_180 (lk131 hG) dX10_looks_5 (aw_nameI fun I_4 e_5 => ?_)
  have h := h I_4 e_5
  refine aw_aload_n 0 dX10_looks_8 rfl rfl ?_
  refine aw_aload_n 1 dX10_looks_9 rfl rfl ?_
  refine aw_bipush (v := 31) dX10_looks_10 (by decide) ?_
  obtain ⟨hi_6, h⟩ := h
  refine aw_ild dX10_looks_12 hb1.1 hb1.2 hi_6 ?_
  refine pf_X10_29 fl_X10_183 (lk131 hG) dX10_looks_13 (aw_nameI fun I_7 e_8 => ?_)
  have h := h I_7 e_8
  refine aw_aload_n 0 dX10_looks_16 rfl rfl ?_
  refine aw_aload_n 1 dX10_looks_17 rfl rfl ?_
  refine aw_bipush (v := 32) dX10_looks_18 (by decide) ?_
  obtain ⟨hi_9, h⟩ := h
  refine aw_ild dX10_looks_20 hb1.1 hb1.2 hi_9 ?_
  refine pf_X10_30 fl_X10_186 (lk131 hG) dX10_looks_21 (aw_nameI fun I_10 e_11 => ?_)
  have h := h I_10 e_11
  refine aw_iconst (v := 0) dX10_looks_24 (by decide) ?_
  refine aw_istore_n (lv' := [(3, .int 0), (0, .ref (sz + 131)), (1, .ref (sz + b1)), (2, .int x2)]) dX10_looks_25 rfl (by decide) rfl ?_
  refine aw_sub [1, 2, 3, 0] rfl ?_
  obtain ⟨n_12, h⟩ := h
  exact tl_X10_looks_26 hG hb1  n_12 x2 0 I_10 J_3 h
theorem M_X10_looks {l : Launch} {D : va_G} {cy : Nat → ClassId} {sz : Nat} {G : sw_G} (hG : sw_lay G) {b1 : Nat} {n1 : Nat} (hb1 : sw_ia G b1 n1) {Q : sw_I → sw_J → Prop} {x2 : Int32} {I : sw_I} {J : sw_J} (h : wp_X10_looks b1 n1 x2 I J Q) : Met l yX10_looks (Cond.code yX10_looks cX10_looks 4 none :: sw_T) rm_X10_looks (sw_Pc D cy sz [.ref (sz + 131), .ref (sz + b1), .int x2] G I J) (sw_Q D cy sz (sw_qv G Q)) 0 0 (fun q => sz ≤ q) :=
  sw_met (by decide) (fun q => by cases q) (Nat.le_of_ble_eq_true rfl) rfl (t_X10_looks hG hb1 h)
-- X10_stopOf
abbrev rm_X10_stopOf : Room := { frames := 4, cells := 0, slots := 0, locals := 92 }
def wB_X10_stopOf_41 (b1 : Nat) (n1 : Nat)  (Q : Int32 → sw_I → sw_J → Prop) (s0 : Int32) (I : sw_I) (J : sw_J) : Prop :=
  sw_if (s0 = 0) (wp_X10_leastStop  I J (fun r_2 I_3 J_4 => Q r_2 I_3 J_4)) (Q (I 131 5) I J)
def wB_X10_stopOf_40 (b1 : Nat) (n1 : Nat)  (Q : Int32 → sw_I → sw_J → Prop)  (I : sw_I) (J : sw_J) : Prop :=
  wB_X10_stopOf_41 b1 n1  Q 0 I J
def wp_X10_stopOf (b1 : Nat) (n1 : Nat) (x2 : Int32) (I : sw_I) (J : sw_J) (Q : Int32 → sw_I → sw_J → Prop) : Prop :=
  wp_X10_looks b1 n1 x2 I J (fun I_2 J_3 => vp_in (32 : Int32) n1 ∧ sw_if ((((I_2 b1 (32 : Int32).toNatClampNeg) + (1 : Int32)) - ((I_2 b1 (32 : Int32).toNatClampNeg) + (1 : Int32)) / (7 : Int32) * (7 : Int32)) = 0) (sw_if ((I_2 131 5) < 0) (wB_X10_stopOf_40 b1 n1  Q  I_2 J_3) (vp_in (31 : Int32) n1 ∧ sw_if ((I_2 131 5) = (I_2 b1 (31 : Int32).toNatClampNeg)) (wB_X10_stopOf_40 b1 n1  Q  I_2 J_3) (wB_X10_stopOf_41 b1 n1  Q 1 I_2 J_3))) (wB_X10_stopOf_40 b1 n1  Q  I_2 J_3))
set_option maxRecDepth 20000 in
theorem t_X10_stopOf_41 {l : Launch} {D : va_G} {cy : Nat → ClassId} {sz : Nat} {G : sw_G} (hG : sw_lay G) {b1 : Nat} {n1 : Nat} (hb1 : sw_ia G b1 n1) {Q : Int32 → sw_I → sw_J → Prop} {s0 : Int32} {I : sw_I} {J : sw_J} (h : wB_X10_stopOf_41 b1 n1  Q s0 I J) : AW l D cy sz RX10 cX10_stopOf 4 (some .int) false rm_X10_stopOf 0 0 (sw_qi G Q) 0 0 G I J 41 [(0, .ref (sz + 131))] [.int s0] := by
  unfold wB_X10_stopOf_41 at h
  refine aw_istore_n (lv' := [(3, .int s0), (0, .ref (sz + 131))]) dX10_stopOf_41 rfl (by decide) rfl ?_
  refine aw_iload_n 0 dX10_stopOf_42 rfl rfl ?_
  refine aw_zeq 53 dX10_stopOf_43 (by decide) (fun c_1 => ?_) (fun c_1 => ?_)
  · have h := sw_if.t h c_1
    refine aw_aload_n 1 dX10_stopOf_53 rfl rfl ?_
    refine aw_callV wv_X10_leastStop (M_X10_leastStop hG  h) ml_X10_219 rfl (by decide) (lk131 hG) rfl rfl (Nat.le_of_ble_eq_true rfl) ⟨rfl, rfl⟩ ⟨Nat.le_of_ble_eq_true rfl, Nat.le_of_ble_eq_true rfl⟩ ⟨Nat.le_refl _, Nat.le_refl _⟩ dX10_stopOf_54 (aw_ki fun r_2 I_3 J_4 h => ?_)
    exact aw_iret rfl dX10_stopOf_57 ⟨rfl, _, rfl, h⟩
  · have h := sw_if.f h c_1
    refine aw_aload_n 1 dX10_stopOf_46 rfl rfl ?_
    refine gf_X10_5 fl_X10_76 (lk131 hG) dX10_stopOf_47 ?_
    refine aw_goto 57 dX10_stopOf_50 (by decide) ?_
    exact aw_iret rfl dX10_stopOf_57 ⟨rfl, _, rfl, h⟩
set_option maxRecDepth 20000 in
theorem t_X10_stopOf_40 {l : Launch} {D : va_G} {cy : Nat → ClassId} {sz : Nat} {G : sw_G} (hG : sw_lay G) {b1 : Nat} {n1 : Nat} (hb1 : sw_ia G b1 n1) {Q : Int32 → sw_I → sw_J → Prop}  {I : sw_I} {J : sw_J} (h : wB_X10_stopOf_40 b1 n1  Q  I J) : AW l D cy sz RX10 cX10_stopOf 4 (some .int) false rm_X10_stopOf 0 0 (sw_qi G Q) 0 0 G I J 40 [(0, .ref (sz + 131))] [] := by
  unfold wB_X10_stopOf_40 at h
  refine aw_iconst (v := 0) dX10_stopOf_40 (by decide) ?_
  refine aw_sub [0] rfl ?_
  exact t_X10_stopOf_41 hG hb1  h
set_option maxRecDepth 20000 in
theorem t_X10_stopOf {l : Launch} {D : va_G} {cy : Nat → ClassId} {sz : Nat} {G : sw_G} (hG : sw_lay G) {b1 : Nat} {n1 : Nat} (hb1 : sw_ia G b1 n1) {Q : Int32 → sw_I → sw_J → Prop} {x2 : Int32} {I : sw_I} {J : sw_J} (h : wp_X10_stopOf b1 n1 x2 I J Q) : AW l D cy sz RX10 cX10_stopOf 4 (some .int) false rm_X10_stopOf 0 0 (sw_qi G Q) 0 0 G I J 0 [(0, .ref (sz + 131)), (1, .ref (sz + b1)), (2, .int x2)] [] := by
  unfold wp_X10_stopOf at h
  refine aw_aload_n 0 dX10_stopOf_0 rfl rfl ?_
  refine aw_aload_n 1 dX10_stopOf_1 rfl rfl ?_
  refine aw_iload_n 2 dX10_stopOf_2 rfl rfl ?_
  refine aw_callV wv_X10_looks (M_X10_looks hG ⟨hb1.1, hb1.2⟩ h) ml_X10_215 rfl (by decide) (lk131 hG) rfl rfl (Nat.le_of_ble_eq_true rfl) ⟨rfl, rfl⟩ ⟨Nat.le_of_ble_eq_true rfl, Nat.le_of_ble_eq_true rfl⟩ ⟨Nat.le_refl _, Nat.le_refl _⟩ dX10_stopOf_3 (aw_kv fun I_2 J_3 h => ?_)
  refine aw_aload_n 1 dX10_stopOf_6 rfl rfl ?_
  refine aw_bipush (v := 32) dX10_stopOf_7 (by decide) ?_
  obtain ⟨hi_4, h⟩ := h
  refine aw_ild dX10_stopOf_9 hb1.1 hb1.2 hi_4 ?_
  refine aw_iconst (v := 1) dX10_stopOf_10 (by decide) ?_
  refine aw_iadd dX10_stopOf_11 ?_
  refine aw_bipush (v := 7) dX10_stopOf_12 (by decide) ?_
  refine aw_irem dX10_stopOf_14 (by decide) ?_
  refine aw_zne 40 dX10_stopOf_15 (by decide) (fun c_5 => ?_) (fun c_5 => ?_)
  · have h := sw_if.f h c_5
    refine aw_sub [0] rfl ?_
    exact t_X10_stopOf_40 hG hb1  h
  · have h := sw_if.t h c_5
    refine aw_aload_n 0 dX10_stopOf_18 rfl rfl ?_
    refine gf_X10_5 fl_X10_76 (lk131 hG) dX10_stopOf_19 ?_
    refine aw_zlt 40 dX10_stopOf_22 (by decide) (fun c_6 => ?_) (fun c_6 => ?_)
    · have h := sw_if.t h c_6
      refine aw_sub [0] rfl ?_
      exact t_X10_stopOf_40 hG hb1  h
    · have h := sw_if.f h c_6
      refine aw_aload_n 0 dX10_stopOf_25 rfl rfl ?_
      refine gf_X10_5 fl_X10_76 (lk131 hG) dX10_stopOf_26 ?_
      refine aw_aload_n 1 dX10_stopOf_29 rfl rfl ?_
      refine aw_bipush (v := 31) dX10_stopOf_30 (by decide) ?_
      obtain ⟨hi_7, h⟩ := h
      refine aw_ild dX10_stopOf_32 hb1.1 hb1.2 hi_7 ?_
      refine aw_jeq 40 dX10_stopOf_33 (by decide) (fun c_8 => ?_) (fun c_8 => ?_)
      · have h := sw_if.t h c_8
        refine aw_sub [0] rfl ?_
        exact t_X10_stopOf_40 hG hb1  h
      · have h := sw_if.f h c_8
        refine aw_iconst (v := 1) dX10_stopOf_36 (by decide) ?_
        refine aw_goto 41 dX10_stopOf_37 (by decide) ?_
        refine aw_sub [0] rfl ?_
        exact t_X10_stopOf_41 hG hb1  h
theorem M_X10_stopOf {l : Launch} {D : va_G} {cy : Nat → ClassId} {sz : Nat} {G : sw_G} (hG : sw_lay G) {b1 : Nat} {n1 : Nat} (hb1 : sw_ia G b1 n1) {Q : Int32 → sw_I → sw_J → Prop} {x2 : Int32} {I : sw_I} {J : sw_J} (h : wp_X10_stopOf b1 n1 x2 I J Q) : Met l yX10_stopOf (Cond.code yX10_stopOf cX10_stopOf 4 (some .int) :: sw_T) rm_X10_stopOf (sw_Pc D cy sz [.ref (sz + 131), .ref (sz + b1), .int x2] G I J) (sw_Q D cy sz (sw_qi G Q)) 0 0 (fun q => sz ≤ q) :=
  sw_met (by decide) (fun q => by cases q) (Nat.le_of_ble_eq_true rfl) rfl (t_X10_stopOf hG hb1 h)
-- X10_travels
abbrev rm_X10_travels : Room := { frames := 5, cells := 0, slots := 0, locals := 115 }
def wB_X10_travels_87 (b1 : Nat) (n1 : Nat) (K13 : Int32 → Int32 → Int32 → Int32 → sw_I → sw_J → Prop) (Q : Int32 → sw_I → sw_J → Prop) (x2 : Int32) (x3 : Int32) (x4 : Int32) (x5 : Int32) (I : sw_I) (J : sw_J) : Prop :=
  ∀ y_1 : Int32, y_1 = x5 + 1 → K13 x2 x3 x4 y_1 I J
def wB_X10_travels_84 (b1 : Nat) (n1 : Nat) (K13 : Int32 → Int32 → Int32 → Int32 → sw_I → sw_J → Prop) (Q : Int32 → sw_I → sw_J → Prop) (x2 : Int32) (x3 : Int32) (x5 : Int32) (s0 : Int32) (s1 : Int32) (I : sw_I) (J : sw_J) : Prop :=
  ∀ y_1 : Int32, y_1 = s0 ||| s1 → wB_X10_travels_87 b1 n1 K13 Q x2 x3 y_1 x5 I J
def wB_X10_travels_62 (b1 : Nat) (n1 : Nat) (K13 : Int32 → Int32 → Int32 → Int32 → sw_I → sw_J → Prop) (Q : Int32 → sw_I → sw_J → Prop) (x2 : Int32) (x3 : Int32) (x4 : Int32) (x5 : Int32) (s1 : Int32) (s2 : Int32) (I : sw_I) (J : sw_J) : Prop :=
  vp_in s1 n1 ∧ ∀ I_2 : sw_I, I_2 = sw_up I b1 s1.toNatClampNeg s2 → vp_in x5 10 ∧ sw_if ((I_2 133 x5.toNatClampNeg) = x3) (wB_X10_travels_84 b1 n1 K13 Q x2 x3 x5 x4 ((1 : Int32) <<< (x5 &&& 31)) I_2 J) (wB_X10_travels_84 b1 n1 K13 Q x2 x3 x5 x4 0 I_2 J)
def wb_X10_travels_13 (b1 : Nat) (n1 : Nat) (K13 : Int32 → Int32 → Int32 → Int32 → sw_I → sw_J → Prop) (Q : Int32 → sw_I → sw_J → Prop) (x2 : Int32) (x3 : Int32) (x4 : Int32) (x5 : Int32) (I : sw_I) (J : sw_J) : Prop :=
  sw_if (x5 < (I 131 4)) (wp_X10_has x2 x5 I J (fun r_12 I_13 J_14 => sw_if (r_12 = 0) (wB_X10_travels_87 b1 n1 K13 Q x2 x3 x4 x5 I_13 J_14) (vp_in ((20 : Int32) + x5) n1 ∧ vp_in ((20 : Int32) + x5) n1 ∧ ∀ I_18 : sw_I, I_18 = sw_up I_13 b1 ((20 : Int32) + x5).toNatClampNeg ((I_13 b1 ((20 : Int32) + x5).toNatClampNeg) + (1 : Int32)) → vp_in x5 10 ∧ sw_if ((I_18 133 x5.toNatClampNeg) = x3) (wB_X10_travels_62 b1 n1 K13 Q x2 x3 x4 x5 x5 9 I_18 J_14) (wB_X10_travels_62 b1 n1 K13 Q x2 x3 x4 x5 x5 x3 I_18 J_14)))) (vp_in (30 : Int32) n1 ∧ ∀ I_3 : sw_I, I_3 = sw_up I b1 (30 : Int32).toNatClampNeg (x2 &&& (x4 ^^^ (-1 : Int32))) → vp_in (31 : Int32) n1 ∧ ∀ I_6 : sw_I, I_6 = sw_up I_3 b1 (31 : Int32).toNatClampNeg x3 → vp_in (32 : Int32) n1 ∧ vp_in (32 : Int32) n1 ∧ ∀ I_10 : sw_I, I_10 = sw_up I_6 b1 (32 : Int32).toNatClampNeg ((I_6 b1 (32 : Int32).toNatClampNeg) + (1 : Int32)) → Q x4 I_10 J)
def wl_X10_travels_13 (b1 : Nat) (n1 : Nat)  (Q : Int32 → sw_I → sw_J → Prop) : Nat → Int32 → Int32 → Int32 → Int32 → sw_I → sw_J → Prop
  | 0 => fun _ _ _ _ _ _ => False
  | n + 1 => fun x2 x3 x4 x5 I J => wb_X10_travels_13 b1 n1 (wl_X10_travels_13 b1 n1  Q n) Q x2 x3 x4 x5 I J
def wp_X10_travels (b1 : Nat) (n1 : Nat) (x2 : Int32) (I : sw_I) (J : sw_J) (Q : Int32 → sw_I → sw_J → Prop) : Prop :=
  wp_X10_stopOf b1 n1 x2 I J (fun r_1 I_2 J_3 => ∃ n_4 : Nat, wl_X10_travels_13 b1 n1  Q n_4 x2 r_1 0 0 I_2 J_3)
set_option maxRecDepth 20000 in
theorem t_X10_travels_87 {l : Launch} {D : va_G} {cy : Nat → ClassId} {sz : Nat} {G : sw_G} (hG : sw_lay G) {b1 : Nat} {n1 : Nat} (hb1 : sw_ia G b1 n1) {Q : Int32 → sw_I → sw_J → Prop} {K13 : Int32 → Int32 → Int32 → Int32 → sw_I → sw_J → Prop} (hK13 : ∀ (x2 : Int32) (x3 : Int32) (x4 : Int32) (x5 : Int32) (I : sw_I) (J : sw_J), K13 x2 x3 x4 x5 I J → AW l D cy sz RX10 cX10_travels 6 (some .int) false rm_X10_travels 0 0 (sw_qi G Q) 0 0 G I J 13 [(0, .ref (sz + 131)), (1, .ref (sz + b1)), (2, .int x2), (3, .int x3), (4, .int x4), (5, .int x5)] []) {x2 : Int32} {x3 : Int32} {x4 : Int32} {x5 : Int32} {I : sw_I} {J : sw_J} (h : wB_X10_travels_87 b1 n1 K13 Q x2 x3 x4 x5 I J) : AW l D cy sz RX10 cX10_travels 6 (some .int) false rm_X10_travels 0 0 (sw_qi G Q) 0 0 G I J 87 [(0, .ref (sz + 131)), (1, .ref (sz + b1)), (2, .int x2), (3, .int x3), (4, .int x4), (5, .int x5)] [] := by
  unfold wB_X10_travels_87 at h
  obtain ⟨y_1, e_2⟩ : ∃ q : Int32, q = x5 + 1 := ⟨_, rfl⟩
  have h := h y_1 e_2
  refine aw_iinc (lv' := [(5, .int y_1), (0, .ref (sz + 131)), (1, .ref (sz + b1)), (2, .int x2), (3, .int x3), (4, .int x4)]) 5 dX10_travels_87 rfl (by rw [e_2]; rfl) (by decide) rfl ?_
  refine aw_goto 13 dX10_travels_90 (by decide) ?_
  refine aw_sub [1, 2, 3, 4, 5, 0] rfl ?_
  exact hK13 x2 x3 x4 y_1 I J h
set_option maxRecDepth 20000 in
theorem t_X10_travels_84 {l : Launch} {D : va_G} {cy : Nat → ClassId} {sz : Nat} {G : sw_G} (hG : sw_lay G) {b1 : Nat} {n1 : Nat} (hb1 : sw_ia G b1 n1) {Q : Int32 → sw_I → sw_J → Prop} {K13 : Int32 → Int32 → Int32 → Int32 → sw_I → sw_J → Prop} (hK13 : ∀ (x2 : Int32) (x3 : Int32) (x4 : Int32) (x5 : Int32) (I : sw_I) (J : sw_J), K13 x2 x3 x4 x5 I J → AW l D cy sz RX10 cX10_travels 6 (some .int) false rm_X10_travels 0 0 (sw_qi G Q) 0 0 G I J 13 [(0, .ref (sz + 131)), (1, .ref (sz + b1)), (2, .int x2), (3, .int x3), (4, .int x4), (5, .int x5)] []) {x2 : Int32} {x3 : Int32} {x5 : Int32} {s0 : Int32} {s1 : Int32} {I : sw_I} {J : sw_J} (h : wB_X10_travels_84 b1 n1 K13 Q x2 x3 x5 s0 s1 I J) : AW l D cy sz RX10 cX10_travels 6 (some .int) false rm_X10_travels 0 0 (sw_qi G Q) 0 0 G I J 84 [(0, .ref (sz + 131)), (1, .ref (sz + b1)), (2, .int x2), (3, .int x3), (5, .int x5)] [.int s1, .int s0] := by
  unfold wB_X10_travels_84 at h
  refine aw_ior dX10_travels_84 ?_
  refine aw_topi (fun y_1 e_2 => ?_)
  have h := h y_1 e_2
  refine aw_istore (lv' := [(4, .int y_1), (0, .ref (sz + 131)), (1, .ref (sz + b1)), (2, .int x2), (3, .int x3), (5, .int x5)]) dX10_travels_85 (by decide) rfl ?_
  refine aw_sub [1, 2, 3, 4, 0, 5] rfl ?_
  exact t_X10_travels_87 hG hb1 hK13 h
set_option maxRecDepth 20000 in
theorem t_X10_travels_62 {l : Launch} {D : va_G} {cy : Nat → ClassId} {sz : Nat} {G : sw_G} (hG : sw_lay G) {b1 : Nat} {n1 : Nat} (hb1 : sw_ia G b1 n1) {Q : Int32 → sw_I → sw_J → Prop} {K13 : Int32 → Int32 → Int32 → Int32 → sw_I → sw_J → Prop} (hK13 : ∀ (x2 : Int32) (x3 : Int32) (x4 : Int32) (x5 : Int32) (I : sw_I) (J : sw_J), K13 x2 x3 x4 x5 I J → AW l D cy sz RX10 cX10_travels 6 (some .int) false rm_X10_travels 0 0 (sw_qi G Q) 0 0 G I J 13 [(0, .ref (sz + 131)), (1, .ref (sz + b1)), (2, .int x2), (3, .int x3), (4, .int x4), (5, .int x5)] []) {x2 : Int32} {x3 : Int32} {x4 : Int32} {x5 : Int32} {s1 : Int32} {s2 : Int32} {I : sw_I} {J : sw_J} (h : wB_X10_travels_62 b1 n1 K13 Q x2 x3 x4 x5 s1 s2 I J) : AW l D cy sz RX10 cX10_travels 6 (some .int) false rm_X10_travels 0 0 (sw_qi G Q) 0 0 G I J 62 [(0, .ref (sz + 131)), (1, .ref (sz + b1)), (2, .int x2), (3, .int x3), (4, .int x4), (5, .int x5)] [.int s2, .int s1, .ref (sz + b1)] := by
  unfold wB_X10_travels_62 at h
  obtain ⟨hi_1, h⟩ := h
  refine aw_ist dX10_travels_62 hb1.1 hb1.2 hi_1 (aw_nameI fun I_2 e_3 => ?_)
  have h := h I_2 e_3
  refine aw_iload 4 dX10_travels_63 rfl ?_
  refine aw_aload_n 0 dX10_travels_65 rfl rfl ?_
  refine gf_X10_7 fl_X10_135 (lk131 hG) (lr131_7 hG) dX10_travels_66 ?_
  refine aw_iload 5 dX10_travels_69 rfl ?_
  obtain ⟨hi_4, h⟩ := h
  refine aw_ild dX10_travels_71 (lk133 hG) (ln133 hG) hi_4 ?_
  refine aw_iload_n 3 dX10_travels_72 rfl rfl ?_
  refine aw_jne 83 dX10_travels_73 (by decide) (fun c_5 => ?_) (fun c_5 => ?_)
  · have h := sw_if.f h c_5
    refine aw_iconst (v := 0) dX10_travels_83 (by decide) ?_
    refine aw_sub [0, 1, 2, 3, 5] rfl ?_
    exact t_X10_travels_84 hG hb1 hK13 h
  · have h := sw_if.t h c_5
    refine aw_iconst (v := 1) dX10_travels_76 (by decide) ?_
    refine aw_iload 5 dX10_travels_77 rfl ?_
    refine aw_ishl dX10_travels_79 ?_
    refine aw_goto 84 dX10_travels_80 (by decide) ?_
    refine aw_sub [0, 1, 2, 3, 5] rfl ?_
    exact t_X10_travels_84 hG hb1 hK13 h
set_option maxRecDepth 20000 in
theorem tb_X10_travels_13 {l : Launch} {D : va_G} {cy : Nat → ClassId} {sz : Nat} {G : sw_G} (hG : sw_lay G) {b1 : Nat} {n1 : Nat} (hb1 : sw_ia G b1 n1) {Q : Int32 → sw_I → sw_J → Prop} {K13 : Int32 → Int32 → Int32 → Int32 → sw_I → sw_J → Prop} (hK13 : ∀ (x2 : Int32) (x3 : Int32) (x4 : Int32) (x5 : Int32) (I : sw_I) (J : sw_J), K13 x2 x3 x4 x5 I J → AW l D cy sz RX10 cX10_travels 6 (some .int) false rm_X10_travels 0 0 (sw_qi G Q) 0 0 G I J 13 [(0, .ref (sz + 131)), (1, .ref (sz + b1)), (2, .int x2), (3, .int x3), (4, .int x4), (5, .int x5)] []) {x2 : Int32} {x3 : Int32} {x4 : Int32} {x5 : Int32} {I : sw_I} {J : sw_J} (h : wb_X10_travels_13 b1 n1 K13 Q x2 x3 x4 x5 I J) : AW l D cy sz RX10 cX10_travels 6 (some .int) false rm_X10_travels 0 0 (sw_qi G Q) 0 0 G I J 13 [(0, .ref (sz + 131)), (1, .ref (sz + b1)), (2, .int x2), (3, .int x3), (4, .int x4), (5, .int x5)] [] := by
  unfold wb_X10_travels_13 at h
  refine aw_iload 5 dX10_travels_13 rfl ?_
  refine aw_aload_n 0 dX10_travels_15 rfl rfl ?_
  refine gf_X10_4 fl_X10_29 (lk131 hG) dX10_travels_16 ?_
  refine aw_jge 93 dX10_travels_19 (by decide) (fun c_1 => ?_) (fun c_1 => ?_)
  · have h := sw_if.f h c_1
    refine aw_aload_n 1 dX10_travels_93 rfl rfl ?_
    refine aw_bipush (v := 30) dX10_travels_94 (by decide) ?_
    refine aw_iload_n 2 dX10_travels_96 rfl rfl ?_
    refine aw_iload 4 dX10_travels_97 rfl ?_
    refine aw_iconst (v := (-1)) dX10_travels_99 (by decide) ?_
    refine aw_ixor dX10_travels_100 ?_
    refine aw_iand dX10_travels_101 ?_
    obtain ⟨hi_2, h⟩ := h
    refine aw_ist dX10_travels_102 hb1.1 hb1.2 hi_2 (aw_nameI fun I_3 e_4 => ?_)
    have h := h I_3 e_4
    refine aw_aload_n 1 dX10_travels_103 rfl rfl ?_
    refine aw_bipush (v := 31) dX10_travels_104 (by decide) ?_
    refine aw_iload_n 3 dX10_travels_106 rfl rfl ?_
    obtain ⟨hi_5, h⟩ := h
    refine aw_ist dX10_travels_107 hb1.1 hb1.2 hi_5 (aw_nameI fun I_6 e_7 => ?_)
    have h := h I_6 e_7
    refine aw_aload_n 1 dX10_travels_108 rfl rfl ?_
    refine aw_bipush (v := 32) dX10_travels_109 (by decide) ?_
    refine aw_dup2 dX10_travels_111 rfl rfl ?_
    obtain ⟨hi_8, h⟩ := h
    refine aw_ild dX10_travels_112 hb1.1 hb1.2 hi_8 ?_
    refine aw_iconst (v := 1) dX10_travels_113 (by decide) ?_
    refine aw_iadd dX10_travels_114 ?_
    obtain ⟨hi_9, h⟩ := h
    refine aw_ist dX10_travels_115 hb1.1 hb1.2 hi_9 (aw_nameI fun I_10 e_11 => ?_)
    have h := h I_10 e_11
    refine aw_iload 4 dX10_travels_116 rfl ?_
    exact aw_iret rfl dX10_travels_118 ⟨rfl, _, rfl, h⟩
  · have h := sw_if.t h c_1
    refine aw_iload_n 2 dX10_travels_22 rfl rfl ?_
    refine aw_iload 5 dX10_travels_23 rfl ?_
    refine aw_callS wv_X10_has (M_X10_has trivial  h) ml_X10_195 rfl rfl (Nat.le_of_ble_eq_true rfl) ⟨rfl, rfl⟩ ⟨Nat.le_of_ble_eq_true rfl, Nat.le_of_ble_eq_true rfl⟩ ⟨Nat.le_refl _, Nat.le_refl _⟩ dX10_travels_25 (aw_ki fun r_12 I_13 J_14 h => ?_)
    refine aw_zeq 87 dX10_travels_28 (by decide) (fun c_15 => ?_) (fun c_15 => ?_)
    · have h := sw_if.t h c_15
      refine aw_sub [0, 1, 2, 3, 4, 5] rfl ?_
      exact t_X10_travels_87 hG hb1 hK13 h
    · have h := sw_if.f h c_15
      refine aw_aload_n 1 dX10_travels_31 rfl rfl ?_
      refine aw_bipush (v := 20) dX10_travels_32 (by decide) ?_
      refine aw_iload 5 dX10_travels_34 rfl ?_
      refine aw_iadd dX10_travels_36 ?_
      refine aw_dup2 dX10_travels_37 rfl rfl ?_
      obtain ⟨hi_16, h⟩ := h
      refine aw_ild dX10_travels_38 hb1.1 hb1.2 hi_16 ?_
      refine aw_iconst (v := 1) dX10_travels_39 (by decide) ?_
      refine aw_iadd dX10_travels_40 ?_
      obtain ⟨hi_17, h⟩ := h
      refine aw_ist dX10_travels_41 hb1.1 hb1.2 hi_17 (aw_nameI fun I_18 e_19 => ?_)
      have h := h I_18 e_19
      refine aw_aload_n 1 dX10_travels_42 rfl rfl ?_
      refine aw_iload 5 dX10_travels_43 rfl ?_
      refine aw_aload_n 0 dX10_travels_45 rfl rfl ?_
      refine gf_X10_7 fl_X10_135 (lk131 hG) (lr131_7 hG) dX10_travels_46 ?_
      refine aw_iload 5 dX10_travels_49 rfl ?_
      obtain ⟨hi_20, h⟩ := h
      refine aw_ild dX10_travels_51 (lk133 hG) (ln133 hG) hi_20 ?_
      refine aw_iload_n 3 dX10_travels_52 rfl rfl ?_
      refine aw_jne 61 dX10_travels_53 (by decide) (fun c_21 => ?_) (fun c_21 => ?_)
      · have h := sw_if.f h c_21
        refine aw_iload_n 3 dX10_travels_61 rfl rfl ?_
        refine aw_sub [0, 1, 2, 3, 4, 5] rfl ?_
        exact t_X10_travels_62 hG hb1 hK13 h
      · have h := sw_if.t h c_21
        refine aw_bipush (v := 9) dX10_travels_56 (by decide) ?_
        refine aw_goto 62 dX10_travels_58 (by decide) ?_
        refine aw_sub [0, 1, 2, 3, 4, 5] rfl ?_
        exact t_X10_travels_62 hG hb1 hK13 h
set_option maxRecDepth 20000 in
theorem tl_X10_travels_13 {l : Launch} {D : va_G} {cy : Nat → ClassId} {sz : Nat} {G : sw_G} (hG : sw_lay G) {b1 : Nat} {n1 : Nat} (hb1 : sw_ia G b1 n1) {Q : Int32 → sw_I → sw_J → Prop} : ∀ (n : Nat) (x2 : Int32) (x3 : Int32) (x4 : Int32) (x5 : Int32) (I : sw_I) (J : sw_J), wl_X10_travels_13 b1 n1  Q n x2 x3 x4 x5 I J → AW l D cy sz RX10 cX10_travels 6 (some .int) false rm_X10_travels 0 0 (sw_qi G Q) 0 0 G I J 13 [(0, .ref (sz + 131)), (1, .ref (sz + b1)), (2, .int x2), (3, .int x3), (4, .int x4), (5, .int x5)] [] := by
  intro n
  induction n with
  | zero => intro x2 x3 x4 x5 I J h; exact False.elim h
  | succ n ih => intro x2 x3 x4 x5 I J h; exact tb_X10_travels_13 hG hb1 ih h
set_option maxRecDepth 20000 in
theorem t_X10_travels {l : Launch} {D : va_G} {cy : Nat → ClassId} {sz : Nat} {G : sw_G} (hG : sw_lay G) {b1 : Nat} {n1 : Nat} (hb1 : sw_ia G b1 n1) {Q : Int32 → sw_I → sw_J → Prop} {x2 : Int32} {I : sw_I} {J : sw_J} (h : wp_X10_travels b1 n1 x2 I J Q) : AW l D cy sz RX10 cX10_travels 6 (some .int) false rm_X10_travels 0 0 (sw_qi G Q) 0 0 G I J 0 [(0, .ref (sz + 131)), (1, .ref (sz + b1)), (2, .int x2)] [] := by
  unfold wp_X10_travels at h
  refine aw_aload_n 0 dX10_travels_0 rfl rfl ?_
  refine aw_aload_n 1 dX10_travels_1 rfl rfl ?_
  refine aw_iload_n 2 dX10_travels_2 rfl rfl ?_
  refine aw_callV wv_X10_stopOf (M_X10_stopOf hG ⟨hb1.1, hb1.2⟩ h) ml_X10_222 rfl (by decide) (lk131 hG) rfl rfl (Nat.le_of_ble_eq_true rfl) ⟨rfl, rfl⟩ ⟨Nat.le_of_ble_eq_true rfl, Nat.le_of_ble_eq_true rfl⟩ ⟨Nat.le_refl _, Nat.le_refl _⟩ dX10_travels_3 (aw_ki fun r_1 I_2 J_3 h => ?_)
  refine aw_istore_n (lv' := [(3, .int r_1), (0, .ref (sz + 131)), (1, .ref (sz + b1)), (2, .int x2)]) dX10_travels_6 rfl (by decide) rfl ?_
  refine aw_iconst (v := 0) dX10_travels_7 (by decide) ?_
  refine aw_istore (lv' := [(4, .int 0), (3, .int r_1), (0, .ref (sz + 131)), (1, .ref (sz + b1)), (2, .int x2)]) dX10_travels_8 (by decide) rfl ?_
  refine aw_iconst (v := 0) dX10_travels_10 (by decide) ?_
  refine aw_istore (lv' := [(5, .int 0), (4, .int 0), (3, .int r_1), (0, .ref (sz + 131)), (1, .ref (sz + b1)), (2, .int x2)]) dX10_travels_11 (by decide) rfl ?_
  refine aw_sub [3, 4, 5, 2, 1, 0] rfl ?_
  obtain ⟨n_4, h⟩ := h
  exact tl_X10_travels_13 hG hb1  n_4 x2 r_1 0 0 I_2 J_3 h
theorem M_X10_travels {l : Launch} {D : va_G} {cy : Nat → ClassId} {sz : Nat} {G : sw_G} (hG : sw_lay G) {b1 : Nat} {n1 : Nat} (hb1 : sw_ia G b1 n1) {Q : Int32 → sw_I → sw_J → Prop} {x2 : Int32} {I : sw_I} {J : sw_J} (h : wp_X10_travels b1 n1 x2 I J Q) : Met l yX10_travels (Cond.code yX10_travels cX10_travels 6 (some .int) :: sw_T) rm_X10_travels (sw_Pc D cy sz [.ref (sz + 131), .ref (sz + b1), .int x2] G I J) (sw_Q D cy sz (sw_qi G Q)) 0 0 (fun q => sz ≤ q) :=
  sw_met (by decide) (fun q => by cases q) (Nat.le_of_ble_eq_true rfl) rfl (t_X10_travels hG hb1 h)
-- X10_ride
abbrev rm_X10_ride : Room := { frames := 6, cells := 0, slots := 0, locals := 140 }
def wp_X10_ride  (I : sw_I) (J : sw_J) (Q : Int32 → sw_I → sw_J → Prop) : Prop :=
  ∀ I_1 : sw_I, I_1 = sw_up I 131 0 (0 : Int32) → wp_X10_putsBy  I_1 J (fun I_4 J_5 => wp_X10_travels 135 33 (I_4 135 (30 : Int32).toNatClampNeg) I_4 J_5 (fun r_7 I_8 J_9 => wp_X10_adds  I_8 J_9 (fun I_11 J_12 => ∀ I_13 : sw_I, I_13 = sw_up I_11 131 1 (0 : Int32) → wp_X10_enters r_7.toInt64 I_13 J_12 (fun I_16 J_17 => Q (I_16 135 (31 : Int32).toNatClampNeg) I_16 J_17))))
set_option maxRecDepth 20000 in
theorem t_X10_ride {l : Launch} {D : va_G} {cy : Nat → ClassId} {sz : Nat} {G : sw_G} (hG : sw_lay G)   {Q : Int32 → sw_I → sw_J → Prop}  {I : sw_I} {J : sw_J} (h : wp_X10_ride  I J Q) : AW l D cy sz RX10 cX10_ride 2 (some .int) false rm_X10_ride 0 0 (sw_qi G Q) 0 0 G I J 0 [(0, .ref (sz + 131))] [] := by
  unfold wp_X10_ride at h
  refine aw_aload_n 0 dX10_ride_0 rfl rfl ?_
  refine aw_iconst (v := 0) dX10_ride_1 (by decide) ?_
  refine pf_X10_0 fl_X10_3 (lk131 hG) dX10_ride_2 (aw_nameI fun I_1 e_2 => ?_)
  have h := h I_1 e_2
  refine aw_aload_n 0 dX10_ride_5 rfl rfl ?_
  refine aw_callV wv_X10_putsBy (M_X10_putsBy hG  h) ml_X10_251 rfl (by decide) (lk131 hG) rfl rfl (Nat.le_of_ble_eq_true rfl) ⟨rfl, rfl⟩ ⟨Nat.le_of_ble_eq_true rfl, Nat.le_of_ble_eq_true rfl⟩ ⟨Nat.le_refl _, Nat.le_refl _⟩ dX10_ride_6 (aw_kv fun I_4 J_5 h => ?_)
  refine aw_aload_n 0 dX10_ride_9 rfl rfl ?_
  refine aw_aload_n 0 dX10_ride_10 rfl rfl ?_
  refine gf_X10_9 fl_X10_79 (lk131 hG) (lr131_9 hG) dX10_ride_11 ?_
  refine aw_aload_n 0 dX10_ride_14 rfl rfl ?_
  refine gf_X10_9 fl_X10_79 (lk131 hG) (lr131_9 hG) dX10_ride_15 ?_
  refine aw_bipush (v := 30) dX10_ride_18 (by decide) ?_
  refine aw_ild dX10_ride_20 (lk135 hG) (ln135 hG) (by unfold vp_in; decide) ?_
  refine aw_callV wv_X10_travels (M_X10_travels hG ⟨(lk135 hG), (ln135 hG)⟩ h) ml_X10_261 rfl (by decide) (lk131 hG) rfl rfl (Nat.le_of_ble_eq_true rfl) ⟨rfl, rfl⟩ ⟨Nat.le_of_ble_eq_true rfl, Nat.le_of_ble_eq_true rfl⟩ ⟨Nat.le_refl _, Nat.le_refl _⟩ dX10_ride_21 (aw_ki fun r_7 I_8 J_9 h => ?_)
  refine aw_istore_n (lv' := [(1, .int r_7), (0, .ref (sz + 131))]) dX10_ride_24 rfl (by decide) rfl ?_
  refine aw_aload_n 1 dX10_ride_25 rfl rfl ?_
  refine aw_callV wv_X10_adds (M_X10_adds hG  h) ml_X10_255 rfl (by decide) (lk131 hG) rfl rfl (Nat.le_of_ble_eq_true rfl) ⟨rfl, rfl⟩ ⟨Nat.le_of_ble_eq_true rfl, Nat.le_of_ble_eq_true rfl⟩ ⟨Nat.le_refl _, Nat.le_refl _⟩ dX10_ride_26 (aw_kv fun I_11 J_12 h => ?_)
  refine aw_aload_n 1 dX10_ride_29 rfl rfl ?_
  refine aw_iconst (v := 0) dX10_ride_30 (by decide) ?_
  refine pf_X10_1 fl_X10_15 (lk131 hG) dX10_ride_31 (aw_nameI fun I_13 e_14 => ?_)
  have h := h I_13 e_14
  refine aw_aload_n 1 dX10_ride_34 rfl rfl ?_
  refine aw_iload_n 0 dX10_ride_35 rfl rfl ?_
  refine aw_i2l dX10_ride_36 ?_
  refine aw_callV wv_X10_enters (M_X10_enters hG  h) ml_X10_18 rfl (by decide) (lk131 hG) rfl rfl (Nat.le_of_ble_eq_true rfl) ⟨rfl, rfl⟩ ⟨Nat.le_of_ble_eq_true rfl, Nat.le_of_ble_eq_true rfl⟩ ⟨Nat.le_refl _, Nat.le_refl _⟩ dX10_ride_37 (aw_kv fun I_16 J_17 h => ?_)
  refine aw_aload_n 1 dX10_ride_40 rfl rfl ?_
  refine gf_X10_9 fl_X10_79 (lk131 hG) (lr131_9 hG) dX10_ride_41 ?_
  refine aw_bipush (v := 31) dX10_ride_44 (by decide) ?_
  refine aw_ild dX10_ride_46 (lk135 hG) (ln135 hG) (by unfold vp_in; decide) ?_
  exact aw_iret rfl dX10_ride_47 ⟨rfl, _, rfl, h⟩
theorem M_X10_ride {l : Launch} {D : va_G} {cy : Nat → ClassId} {sz : Nat} {G : sw_G} (hG : sw_lay G)   {Q : Int32 → sw_I → sw_J → Prop}  {I : sw_I} {J : sw_J} (h : wp_X10_ride  I J Q) : Met l yX10_ride (Cond.code yX10_ride cX10_ride 2 (some .int) :: sw_T) rm_X10_ride (sw_Pc D cy sz [.ref (sz + 131)] G I J) (sw_Q D cy sz (sw_qi G Q)) 0 0 (fun q => sz ≤ q) :=
  sw_met (by decide) (fun q => by cases q) (Nat.le_of_ble_eq_true rfl) rfl (t_X10_ride hG  h)
-- X10_rides
abbrev rm_X10_rides : Room := { frames := 6, cells := 0, slots := 0, locals := 140 }
def wB_X10_rides_74   (Q : Int32 → sw_I → sw_J → Prop) (x2 : Int32) (x3 : Int32) (I : sw_I) (J : sw_J) : Prop :=
  ∀ I_1 : sw_I, I_1 = sw_up I 131 1 (0 : Int32) → wp_X10_enters x3.toInt64 I_1 J (fun I_4 J_5 => wp_X10_enters ((I_4 135 (31 : Int32).toNatClampNeg).toInt64) I_4 J_5 (fun I_8 J_9 => Q x2 I_8 J_9))
def wB_X10_rides_66   (Q : Int32 → sw_I → sw_J → Prop) (x2 : Int32) (x3 : Int32) (I : sw_I) (J : sw_J) : Prop :=
  sw_if (0 < x2) (wp_X10_adds  I J (fun I_3 J_4 => wB_X10_rides_74   Q x2 x3 I_3 J_4)) (wB_X10_rides_74   Q x2 x3 I J)
def wb_X10_rides_27  (K27 : Int32 → Int32 → Int32 → sw_I → sw_J → Prop) (Q : Int32 → sw_I → sw_J → Prop) (x1 : Int32) (x2 : Int32) (x3 : Int32) (I : sw_I) (J : sw_J) : Prop :=
  sw_if (x2 < x1) (sw_if ((I 135 (30 : Int32).toNatClampNeg) = 0) (wB_X10_rides_66   Q x2 x3 I J) (wp_X10_travels 135 33 (I 135 (30 : Int32).toNatClampNeg) I J (fun r_5 I_6 J_7 => ∀ y_8 : Int32, y_8 = x3 ||| r_5 → ∀ y_10 : Int32, y_10 = x2 + 1 → K27 x1 y_10 y_8 I_6 J_7))) (wB_X10_rides_66   Q x2 x3 I J)
def wl_X10_rides_27   (Q : Int32 → sw_I → sw_J → Prop) : Nat → Int32 → Int32 → Int32 → sw_I → sw_J → Prop
  | 0 => fun _ _ _ _ _ => False
  | n + 1 => fun x1 x2 x3 I J => wb_X10_rides_27  (wl_X10_rides_27   Q n) Q x1 x2 x3 I J
def wp_X10_rides (x1 : Int32) (I : sw_I) (J : sw_J) (Q : Int32 → sw_I → sw_J → Prop) : Prop :=
  ∀ I_1 : sw_I, I_1 = sw_up I 131 0 (0 : Int32) → wp_X10_in x1.toInt64 0 60 I_1 J (fun r_3 I_4 J_5 => sw_if (r_3 = 0) (Q (-1 : Int32) I_4 J_5) (wp_X10_putsBy  I_4 J_5 (fun I_8 J_9 => ∃ n_10 : Nat, wl_X10_rides_27   Q n_10 x1 0 0 I_8 J_9)))
set_option maxRecDepth 20000 in
theorem t_X10_rides_74 {l : Launch} {D : va_G} {cy : Nat → ClassId} {sz : Nat} {G : sw_G} (hG : sw_lay G)   {Q : Int32 → sw_I → sw_J → Prop} {x2 : Int32} {x3 : Int32} {I : sw_I} {J : sw_J} (h : wB_X10_rides_74   Q x2 x3 I J) : AW l D cy sz RX10 cX10_rides 4 (some .int) false rm_X10_rides 0 0 (sw_qi G Q) 0 0 G I J 74 [(0, .ref (sz + 131)), (2, .int x2), (3, .int x3)] [] := by
  unfold wB_X10_rides_74 at h
  refine aw_aload_n 0 dX10_rides_74 rfl rfl ?_
  refine aw_iconst (v := 0) dX10_rides_75 (by decide) ?_
  refine pf_X10_1 fl_X10_15 (lk131 hG) dX10_rides_76 (aw_nameI fun I_1 e_2 => ?_)
  have h := h I_1 e_2
  refine aw_aload_n 0 dX10_rides_79 rfl rfl ?_
  refine aw_iload_n 2 dX10_rides_80 rfl rfl ?_
  refine aw_i2l dX10_rides_81 ?_
  refine aw_callV wv_X10_enters (M_X10_enters hG  h) ml_X10_18 rfl (by decide) (lk131 hG) rfl rfl (Nat.le_of_ble_eq_true rfl) ⟨rfl, rfl⟩ ⟨Nat.le_of_ble_eq_true rfl, Nat.le_of_ble_eq_true rfl⟩ ⟨Nat.le_refl _, Nat.le_refl _⟩ dX10_rides_82 (aw_kv fun I_4 J_5 h => ?_)
  refine aw_aload_n 0 dX10_rides_85 rfl rfl ?_
  refine aw_aload_n 0 dX10_rides_86 rfl rfl ?_
  refine gf_X10_9 fl_X10_79 (lk131 hG) (lr131_9 hG) dX10_rides_87 ?_
  refine aw_bipush (v := 31) dX10_rides_90 (by decide) ?_
  refine aw_ild dX10_rides_92 (lk135 hG) (ln135 hG) (by unfold vp_in; decide) ?_
  refine aw_i2l dX10_rides_93 ?_
  refine aw_callV wv_X10_enters (M_X10_enters hG  h) ml_X10_18 rfl (by decide) (lk131 hG) rfl rfl (Nat.le_of_ble_eq_true rfl) ⟨rfl, rfl⟩ ⟨Nat.le_of_ble_eq_true rfl, Nat.le_of_ble_eq_true rfl⟩ ⟨Nat.le_refl _, Nat.le_refl _⟩ dX10_rides_94 (aw_kv fun I_8 J_9 h => ?_)
  refine aw_iload_n 1 dX10_rides_97 rfl rfl ?_
  exact aw_iret rfl dX10_rides_98 ⟨rfl, _, rfl, h⟩
set_option maxRecDepth 20000 in
theorem t_X10_rides_66 {l : Launch} {D : va_G} {cy : Nat → ClassId} {sz : Nat} {G : sw_G} (hG : sw_lay G)   {Q : Int32 → sw_I → sw_J → Prop} {x2 : Int32} {x3 : Int32} {I : sw_I} {J : sw_J} (h : wB_X10_rides_66   Q x2 x3 I J) : AW l D cy sz RX10 cX10_rides 4 (some .int) false rm_X10_rides 0 0 (sw_qi G Q) 0 0 G I J 66 [(0, .ref (sz + 131)), (2, .int x2), (3, .int x3)] [] := by
  unfold wB_X10_rides_66 at h
  refine aw_iload_n 1 dX10_rides_66 rfl rfl ?_
  refine aw_zle 74 dX10_rides_67 (by decide) (fun c_1 => ?_) (fun c_1 => ?_)
  · have h := sw_if.f h c_1
    refine aw_sub [0, 1, 2] rfl ?_
    exact t_X10_rides_74 hG   h
  · have h := sw_if.t h c_1
    refine aw_aload_n 0 dX10_rides_70 rfl rfl ?_
    refine aw_callV wv_X10_adds (M_X10_adds hG  h) ml_X10_255 rfl (by decide) (lk131 hG) rfl rfl (Nat.le_of_ble_eq_true rfl) ⟨rfl, rfl⟩ ⟨Nat.le_of_ble_eq_true rfl, Nat.le_of_ble_eq_true rfl⟩ ⟨Nat.le_refl _, Nat.le_refl _⟩ dX10_rides_71 (aw_kv fun I_3 J_4 h => ?_)
    refine aw_sub [0, 1, 2] rfl ?_
    exact t_X10_rides_74 hG   h
set_option maxRecDepth 20000 in
theorem tb_X10_rides_27 {l : Launch} {D : va_G} {cy : Nat → ClassId} {sz : Nat} {G : sw_G} (hG : sw_lay G)   {Q : Int32 → sw_I → sw_J → Prop} {K27 : Int32 → Int32 → Int32 → sw_I → sw_J → Prop} (hK27 : ∀ (x1 : Int32) (x2 : Int32) (x3 : Int32) (I : sw_I) (J : sw_J), K27 x1 x2 x3 I J → AW l D cy sz RX10 cX10_rides 4 (some .int) false rm_X10_rides 0 0 (sw_qi G Q) 0 0 G I J 27 [(0, .ref (sz + 131)), (1, .int x1), (2, .int x2), (3, .int x3)] []) {x1 : Int32} {x2 : Int32} {x3 : Int32} {I : sw_I} {J : sw_J} (h : wb_X10_rides_27  K27 Q x1 x2 x3 I J) : AW l D cy sz RX10 cX10_rides 4 (some .int) false rm_X10_rides 0 0 (sw_qi G Q) 0 0 G I J 27 [(0, .ref (sz + 131)), (1, .int x1), (2, .int x2), (3, .int x3)] [] := by
  unfold wb_X10_rides_27 at h
  refine aw_iload_n 2 dX10_rides_27 rfl rfl ?_
  refine aw_iload_n 1 dX10_rides_28 rfl rfl ?_
  refine aw_jge 66 dX10_rides_29 (by decide) (fun c_1 => ?_) (fun c_1 => ?_)
  · have h := sw_if.f h c_1
    refine aw_sub [0, 2, 3] rfl ?_
    exact t_X10_rides_66 hG   h
  · have h := sw_if.t h c_1
    refine aw_aload_n 0 dX10_rides_32 rfl rfl ?_
    refine gf_X10_9 fl_X10_79 (lk131 hG) (lr131_9 hG) dX10_rides_33 ?_
    refine aw_bipush (v := 30) dX10_rides_36 (by decide) ?_
    refine aw_ild dX10_rides_38 (lk135 hG) (ln135 hG) (by unfold vp_in; decide) ?_
    refine aw_zeq 66 dX10_rides_39 (by decide) (fun c_3 => ?_) (fun c_3 => ?_)
    · have h := sw_if.t h c_3
      refine aw_sub [0, 2, 3] rfl ?_
      exact t_X10_rides_66 hG   h
    · have h := sw_if.f h c_3
      refine aw_iload_n 3 dX10_rides_42 rfl rfl ?_
      refine aw_aload_n 0 dX10_rides_43 rfl rfl ?_
      refine aw_aload_n 0 dX10_rides_44 rfl rfl ?_
      refine gf_X10_9 fl_X10_79 (lk131 hG) (lr131_9 hG) dX10_rides_45 ?_
      refine aw_aload_n 0 dX10_rides_48 rfl rfl ?_
      refine gf_X10_9 fl_X10_79 (lk131 hG) (lr131_9 hG) dX10_rides_49 ?_
      refine aw_bipush (v := 30) dX10_rides_52 (by decide) ?_
      refine aw_ild dX10_rides_54 (lk135 hG) (ln135 hG) (by unfold vp_in; decide) ?_
      refine aw_callV wv_X10_travels (M_X10_travels hG ⟨(lk135 hG), (ln135 hG)⟩ h) ml_X10_261 rfl (by decide) (lk131 hG) rfl rfl (Nat.le_of_ble_eq_true rfl) ⟨rfl, rfl⟩ ⟨Nat.le_of_ble_eq_true rfl, Nat.le_of_ble_eq_true rfl⟩ ⟨Nat.le_refl _, Nat.le_refl _⟩ dX10_rides_55 (aw_ki fun r_5 I_6 J_7 h => ?_)
      refine aw_ior dX10_rides_58 ?_
      refine aw_topi (fun y_8 e_9 => ?_)
      have h := h y_8 e_9
      refine aw_istore_n (lv' := [(3, .int y_8), (0, .ref (sz + 131)), (1, .int x1), (2, .int x2)]) dX10_rides_59 rfl (by decide) rfl ?_
      obtain ⟨y_10, e_11⟩ : ∃ q : Int32, q = x2 + 1 := ⟨_, rfl⟩
      have h := h y_10 e_11
      refine aw_iinc (lv' := [(2, .int y_10), (3, .int y_8), (0, .ref (sz + 131)), (1, .int x1)]) 3 dX10_rides_60 rfl (by rw [e_11]; rfl) (by decide) rfl ?_
      refine aw_goto 27 dX10_rides_63 (by decide) ?_
      refine aw_sub [2, 3, 0, 1] rfl ?_
      exact hK27 x1 y_10 y_8 I_6 J_7 h
set_option maxRecDepth 20000 in
theorem tl_X10_rides_27 {l : Launch} {D : va_G} {cy : Nat → ClassId} {sz : Nat} {G : sw_G} (hG : sw_lay G)   {Q : Int32 → sw_I → sw_J → Prop} : ∀ (n : Nat) (x1 : Int32) (x2 : Int32) (x3 : Int32) (I : sw_I) (J : sw_J), wl_X10_rides_27   Q n x1 x2 x3 I J → AW l D cy sz RX10 cX10_rides 4 (some .int) false rm_X10_rides 0 0 (sw_qi G Q) 0 0 G I J 27 [(0, .ref (sz + 131)), (1, .int x1), (2, .int x2), (3, .int x3)] [] := by
  intro n
  induction n with
  | zero => intro x1 x2 x3 I J h; exact False.elim h
  | succ n ih => intro x1 x2 x3 I J h; exact tb_X10_rides_27 hG  ih h
set_option maxRecDepth 20000 in
theorem t_X10_rides {l : Launch} {D : va_G} {cy : Nat → ClassId} {sz : Nat} {G : sw_G} (hG : sw_lay G)   {Q : Int32 → sw_I → sw_J → Prop} {x1 : Int32} {I : sw_I} {J : sw_J} (h : wp_X10_rides x1 I J Q) : AW l D cy sz RX10 cX10_rides 4 (some .int) false rm_X10_rides 0 0 (sw_qi G Q) 0 0 G I J 0 [(0, .ref (sz + 131)), (1, .int x1)] [] := by
  unfold wp_X10_rides at h
  refine aw_aload_n 0 dX10_rides_0 rfl rfl ?_
  refine aw_iconst (v := 0) dX10_rides_1 (by decide) ?_
  refine pf_X10_0 fl_X10_3 (lk131 hG) dX10_rides_2 (aw_nameI fun I_1 e_2 => ?_)
  have h := h I_1 e_2
  refine aw_iload_n 1 dX10_rides_5 rfl rfl ?_
  refine aw_i2l dX10_rides_6 ?_
  refine aw_lconst (v := 0) dX10_rides_7 (by decide) ?_
  refine aw_ldc2 (v := 60) dX10_rides_8 k_X10_264 ?_
  refine aw_callS wv_X10_in (M_X10_in trivial  h) ml_X10_25 rfl rfl (Nat.le_of_ble_eq_true rfl) ⟨rfl, rfl⟩ ⟨Nat.le_of_ble_eq_true rfl, Nat.le_of_ble_eq_true rfl⟩ ⟨Nat.le_refl _, Nat.le_refl _⟩ dX10_rides_11 (aw_ki fun r_3 I_4 J_5 h => ?_)
  refine aw_zne 19 dX10_rides_14 (by decide) (fun c_6 => ?_) (fun c_6 => ?_)
  · have h := sw_if.f h c_6
    refine aw_aload_n 0 dX10_rides_19 rfl rfl ?_
    refine aw_callV wv_X10_putsBy (M_X10_putsBy hG  h) ml_X10_251 rfl (by decide) (lk131 hG) rfl rfl (Nat.le_of_ble_eq_true rfl) ⟨rfl, rfl⟩ ⟨Nat.le_of_ble_eq_true rfl, Nat.le_of_ble_eq_true rfl⟩ ⟨Nat.le_refl _, Nat.le_refl _⟩ dX10_rides_20 (aw_kv fun I_8 J_9 h => ?_)
    refine aw_iconst (v := 0) dX10_rides_23 (by decide) ?_
    refine aw_istore_n (lv' := [(2, .int 0), (0, .ref (sz + 131)), (1, .int x1)]) dX10_rides_24 rfl (by decide) rfl ?_
    refine aw_iconst (v := 0) dX10_rides_25 (by decide) ?_
    refine aw_istore_n (lv' := [(3, .int 0), (2, .int 0), (0, .ref (sz + 131)), (1, .int x1)]) dX10_rides_26 rfl (by decide) rfl ?_
    refine aw_sub [2, 3, 1, 0] rfl ?_
    obtain ⟨n_10, h⟩ := h
    exact tl_X10_rides_27 hG   n_10 x1 0 0 I_8 J_9 h
  · have h := sw_if.t h c_6
    refine aw_iconst (v := (-1)) dX10_rides_17 (by decide) ?_
    exact aw_iret rfl dX10_rides_18 ⟨rfl, _, rfl, h⟩
theorem M_X10_rides {l : Launch} {D : va_G} {cy : Nat → ClassId} {sz : Nat} {G : sw_G} (hG : sw_lay G)   {Q : Int32 → sw_I → sw_J → Prop} {x1 : Int32} {I : sw_I} {J : sw_J} (h : wp_X10_rides x1 I J Q) : Met l yX10_rides (Cond.code yX10_rides cX10_rides 4 (some .int) :: sw_T) rm_X10_rides (sw_Pc D cy sz [.ref (sz + 131), .int x1] G I J) (sw_Q D cy sz (sw_qi G Q)) 0 0 (fun q => sz ≤ q) :=
  sw_met (by decide) (fun q => by cases q) (Nat.le_of_ble_eq_true rfl) rfl (t_X10_rides hG  h)
