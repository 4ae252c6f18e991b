-- X10_readsRider
abbrev rm_X10_readsRider : Room := { frames := 3, cells := 0, slots := 0, locals := 66 }
def wB_X10_readsRider_154   (Q : Int32 → sw_I → sw_J → Prop)  (I : sw_I) (J : sw_J) : Prop :=
  ∀ I_1 : sw_I, I_1 = sw_up I 131 19 ((I 131 19) + (1 : Int32)) → Q 1 I_1 J
def wB_X10_readsRider_85   (Q : Int32 → sw_I → sw_J → Prop) (x1 : Int32) (I : sw_I) (J : sw_J) : Prop :=
  wp_X10_takes 64 I J (fun r_1 I_2 J_3 => sw_if (r_1 = 0) (Q 0 I_2 J_3) (wp_X10_readsFloor  I_2 J_3 (fun r_5 I_6 J_7 => vp_in x1 10 ∧ ∀ I_9 : sw_I, I_9 = sw_up I_6 140 x1.toNatClampNeg r_5 → vp_in x1 10 ∧ sw_if ((I_9 140 x1.toNatClampNeg) < 0) (Q 0 I_9 J_7) (vp_in x1 10 ∧ sw_if ((I_9 140 x1.toNatClampNeg) = (I_9 135 (31 : Int32).toNatClampNeg)) (wp_X10_takes 33 I_9 J_7 (fun r_16 I_17 J_18 => sw_if (r_16 = 0) (wB_X10_readsRider_154   Q  I_17 J_18) (∀ I_20 : sw_I, I_20 = sw_up I_17 131 20 ((I_17 131 20) ||| ((1 : Int32) <<< (x1 &&& 31))) → wB_X10_readsRider_154   Q  I_20 J_18))) (wB_X10_readsRider_154   Q  I_9 J_7)))))
def wp_X10_readsRider  (I : sw_I) (J : sw_J) (Q : Int32 → sw_I → sw_J → Prop) : Prop :=
  ∀ y_1 : Int32, y_1 = (I 131 4) + (I 131 19) → sw_if (y_1 = (10 : Int32)) (Q 0 I J) (wp_X10_readsFloor  I J (fun r_4 I_5 J_6 => vp_in y_1 10 ∧ ∀ I_8 : sw_I, I_8 = sw_up I_5 138 y_1.toNatClampNeg r_4 → vp_in y_1 10 ∧ sw_if ((I_8 138 y_1.toNatClampNeg) < 0) (Q 0 I_8 J_6) (wp_X10_takes 62 I_8 J_6 (fun r_12 I_13 J_14 => sw_if (r_12 = 0) (Q 0 I_13 J_14) (vp_in y_1 10 ∧ ∀ I_17 : sw_I, I_17 = sw_up I_13 139 y_1.toNatClampNeg (-1 : Int32) → wp_X10_takes 45 I_17 J_14 (fun r_19 I_20 J_21 => sw_if (r_19 = 0) (wp_X10_readsFloor  I_20 J_21 (fun r_23 I_24 J_25 => vp_in y_1 10 ∧ ∀ I_27 : sw_I, I_27 = sw_up I_24 139 y_1.toNatClampNeg r_23 → vp_in y_1 10 ∧ sw_if ((I_27 139 y_1.toNatClampNeg) < 0) (Q 0 I_27 J_25) (wB_X10_readsRider_85   Q y_1 I_27 J_25))) (wB_X10_readsRider_85   Q y_1 I_20 J_21)))))))
set_option maxRecDepth 20000 in
theorem t_X10_readsRider_154 {l : Launch} {D : va_G} {cy : Nat → ClassId} {sz : Nat} {G : sw_G} (hG : sw_lay G)   {Q : Int32 → sw_I → sw_J → Prop}  {I : sw_I} {J : sw_J} (h : wB_X10_readsRider_154   Q  I J) : AW l D cy sz RX10 cX10_readsRider 2 (some .boolean) false rm_X10_readsRider 0 0 (sw_qi G Q) 0 0 G I J 154 [(0, .ref (sz + 131))] [] := by
  unfold wB_X10_readsRider_154 at h
  refine aw_aload_n 0 dX10_readsRider_154 rfl rfl ?_
  refine aw_dup dX10_readsRider_155 rfl ?_
  refine gf_X10_19 fl_X10_99 (lk131 hG) dX10_readsRider_156 ?_
  refine aw_iconst (v := 1) dX10_readsRider_159 (by decide) ?_
  refine aw_iadd dX10_readsRider_160 ?_
  refine pf_X10_19 fl_X10_99 (lk131 hG) dX10_readsRider_161 (aw_nameI fun I_1 e_2 => ?_)
  have h := h I_1 e_2
  refine aw_iconst (v := 1) dX10_readsRider_164 (by decide) ?_
  exact aw_zret rfl rfl dX10_readsRider_165 ⟨rfl, _, rfl, h⟩
set_option maxRecDepth 20000 in
theorem t_X10_readsRider_85 {l : Launch} {D : va_G} {cy : Nat → ClassId} {sz : Nat} {G : sw_G} (hG : sw_lay G)   {Q : Int32 → sw_I → sw_J → Prop} {x1 : Int32} {I : sw_I} {J : sw_J} (h : wB_X10_readsRider_85   Q x1 I J) : AW l D cy sz RX10 cX10_readsRider 2 (some .boolean) false rm_X10_readsRider 0 0 (sw_qi G Q) 0 0 G I J 85 [(0, .ref (sz + 131)), (1, .int x1)] [] := by
  unfold wB_X10_readsRider_85 at h
  refine aw_aload_n 0 dX10_readsRider_85 rfl rfl ?_
  refine aw_bipush (v := 64) dX10_readsRider_86 (by decide) ?_
  refine aw_callV wv_X10_takes (M_X10_takes hG  h) ml_X10_108 rfl (by decide) (lk131 hG) rfl rfl (Nat.le_of_ble_eq_true rfl) ⟨rfl, rfl⟩ ⟨Nat.le_of_ble_eq_true rfl, Nat.le_of_ble_eq_true rfl⟩ ⟨Nat.le_refl _, Nat.le_refl _⟩ dX10_readsRider_88 (aw_ki fun r_1 I_2 J_3 h => ?_)
  refine aw_zne 96 dX10_readsRider_91 (by decide) (fun c_4 => ?_) (fun c_4 => ?_)
  · have h := sw_if.f h c_4
    refine aw_aload_n 0 dX10_readsRider_96 rfl rfl ?_
    refine gf_X10_18 fl_X10_114 (lk131 hG) (lr131_18 hG) dX10_readsRider_97 ?_
    refine aw_iload_n 1 dX10_readsRider_100 rfl rfl ?_
    refine aw_aload_n 0 dX10_readsRider_101 rfl rfl ?_
    refine aw_callV wv_X10_readsFloor (M_X10_readsFloor hG  h) ml_X10_105 rfl (by decide) (lk131 hG) rfl rfl (Nat.le_of_ble_eq_true rfl) ⟨rfl, rfl⟩ ⟨Nat.le_of_ble_eq_true rfl, Nat.le_of_ble_eq_true rfl⟩ ⟨Nat.le_refl _, Nat.le_refl _⟩ dX10_readsRider_102 (aw_ki fun r_5 I_6 J_7 h => ?_)
    obtain ⟨hi_8, h⟩ := h
    refine aw_ist dX10_readsRider_105 (lk140 hG) (ln140 hG) hi_8 (aw_nameI fun I_9 e_10 => ?_)
    have h := h I_9 e_10
    refine aw_aload_n 0 dX10_readsRider_106 rfl rfl ?_
    refine gf_X10_18 fl_X10_114 (lk131 hG) (lr131_18 hG) dX10_readsRider_107 ?_
    refine aw_iload_n 1 dX10_readsRider_110 rfl rfl ?_
    obtain ⟨hi_11, h⟩ := h
    refine aw_ild dX10_readsRider_111 (lk140 hG) (ln140 hG) hi_11 ?_
    refine aw_zge 117 dX10_readsRider_112 (by decide) (fun c_12 => ?_) (fun c_12 => ?_)
    · have h := sw_if.f h c_12
      refine aw_aload_n 0 dX10_readsRider_117 rfl rfl ?_
      refine gf_X10_18 fl_X10_114 (lk131 hG) (lr131_18 hG) dX10_readsRider_118 ?_
      refine aw_iload_n 1 dX10_readsRider_121 rfl rfl ?_
      obtain ⟨hi_13, h⟩ := h
      refine aw_ild dX10_readsRider_122 (lk140 hG) (ln140 hG) hi_13 ?_
      refine aw_aload_n 0 dX10_readsRider_123 rfl rfl ?_
      refine gf_X10_9 fl_X10_79 (lk131 hG) (lr131_9 hG) dX10_readsRider_124 ?_
      refine aw_bipush (v := 31) dX10_readsRider_127 (by decide) ?_
      refine aw_ild dX10_readsRider_129 (lk135 hG) (ln135 hG) (by unfold vp_in; decide) ?_
      refine aw_jne 154 dX10_readsRider_130 (by decide) (fun c_15 => ?_) (fun c_15 => ?_)
      · have h := sw_if.f h c_15
        refine aw_sub [0] rfl ?_
        exact t_X10_readsRider_154 hG   h
      · have h := sw_if.t h c_15
        refine aw_aload_n 0 dX10_readsRider_133 rfl rfl ?_
        refine aw_bipush (v := 33) dX10_readsRider_134 (by decide) ?_
        refine aw_callV wv_X10_takes (M_X10_takes hG  h) ml_X10_108 rfl (by decide) (lk131 hG) rfl rfl (Nat.le_of_ble_eq_true rfl) ⟨rfl, rfl⟩ ⟨Nat.le_of_ble_eq_true rfl, Nat.le_of_ble_eq_true rfl⟩ ⟨Nat.le_refl _, Nat.le_refl _⟩ dX10_readsRider_136 (aw_ki fun r_16 I_17 J_18 h => ?_)
        refine aw_zeq 154 dX10_readsRider_139 (by decide) (fun c_19 => ?_) (fun c_19 => ?_)
        · have h := sw_if.t h c_19
          refine aw_sub [0] rfl ?_
          exact t_X10_readsRider_154 hG   h
        · have h := sw_if.f h c_19
          refine aw_aload_n 0 dX10_readsRider_142 rfl rfl ?_
          refine aw_dup dX10_readsRider_143 rfl ?_
          refine gf_X10_20 fl_X10_117 (lk131 hG) dX10_readsRider_144 ?_
          refine aw_iconst (v := 1) dX10_readsRider_147 (by decide) ?_
          refine aw_iload_n 1 dX10_readsRider_148 rfl rfl ?_
          refine aw_ishl dX10_readsRider_149 ?_
          refine aw_ior dX10_readsRider_150 ?_
          refine pf_X10_20 fl_X10_117 (lk131 hG) dX10_readsRider_151 (aw_nameI fun I_20 e_21 => ?_)
          have h := h I_20 e_21
          refine aw_sub [0] rfl ?_
          exact t_X10_readsRider_154 hG   h
    · have h := sw_if.t h c_12
      refine aw_iconst (v := 0) dX10_readsRider_115 (by decide) ?_
      exact aw_zret rfl rfl dX10_readsRider_116 ⟨rfl, _, rfl, h⟩
  · have h := sw_if.t h c_4
    refine aw_iconst (v := 0) dX10_readsRider_94 (by decide) ?_
    exact aw_zret rfl rfl dX10_readsRider_95 ⟨rfl, _, rfl, h⟩
set_option maxRecDepth 20000 in
theorem t_X10_readsRider {l : Launch} {D : va_G} {cy : Nat → ClassId} {sz : Nat} {G : sw_G} (hG : sw_lay G)   {Q : Int32 → sw_I → sw_J → Prop}  {I : sw_I} {J : sw_J} (h : wp_X10_readsRider  I J Q) : AW l D cy sz RX10 cX10_readsRider 2 (some .boolean) false rm_X10_readsRider 0 0 (sw_qi G Q) 0 0 G I J 0 [(0, .ref (sz + 131))] [] := by
  unfold wp_X10_readsRider at h
  refine aw_aload_n 0 dX10_readsRider_0 rfl rfl ?_
  refine gf_X10_4 fl_X10_29 (lk131 hG) dX10_readsRider_1 ?_
  refine aw_aload_n 0 dX10_readsRider_4 rfl rfl ?_
  refine gf_X10_19 fl_X10_99 (lk131 hG) dX10_readsRider_5 ?_
  refine aw_iadd dX10_readsRider_8 ?_
  refine aw_topi (fun y_1 e_2 => ?_)
  have h := h y_1 e_2
  refine aw_istore_n (lv' := [(1, .int y_1), (0, .ref (sz + 131))]) dX10_readsRider_9 rfl (by decide) rfl ?_
  refine aw_iload_n 0 dX10_readsRider_10 rfl rfl ?_
  refine aw_bipush (v := 10) dX10_readsRider_11 (by decide) ?_
  refine aw_jne 18 dX10_readsRider_13 (by decide) (fun c_3 => ?_) (fun c_3 => ?_)
  · have h := sw_if.f h c_3
    refine aw_aload_n 1 dX10_readsRider_18 rfl rfl ?_
    refine gf_X10_16 fl_X10_102 (lk131 hG) (lr131_16 hG) dX10_readsRider_19 ?_
    refine aw_iload_n 0 dX10_readsRider_22 rfl rfl ?_
    refine aw_aload_n 1 dX10_readsRider_23 rfl rfl ?_
    refine aw_callV wv_X10_readsFloor (M_X10_readsFloor hG  h) ml_X10_105 rfl (by decide) (lk131 hG) rfl rfl (Nat.le_of_ble_eq_true rfl) ⟨rfl, rfl⟩ ⟨Nat.le_of_ble_eq_true rfl, Nat.le_of_ble_eq_true rfl⟩ ⟨Nat.le_refl _, Nat.le_refl _⟩ dX10_readsRider_24 (aw_ki fun r_4 I_5 J_6 h => ?_)
    obtain ⟨hi_7, h⟩ := h
    refine aw_ist dX10_readsRider_27 (lk138 hG) (ln138 hG) hi_7 (aw_nameI fun I_8 e_9 => ?_)
    have h := h I_8 e_9
    refine aw_aload_n 1 dX10_readsRider_28 rfl rfl ?_
    refine gf_X10_16 fl_X10_102 (lk131 hG) (lr131_16 hG) dX10_readsRider_29 ?_
    refine aw_iload_n 0 dX10_readsRider_32 rfl rfl ?_
    obtain ⟨hi_10, h⟩ := h
    refine aw_ild dX10_readsRider_33 (lk138 hG) (ln138 hG) hi_10 ?_
    refine aw_zlt 46 dX10_readsRider_34 (by decide) (fun c_11 => ?_) (fun c_11 => ?_)
    · have h := sw_if.t h c_11
      refine aw_iconst (v := 0) dX10_readsRider_46 (by decide) ?_
      exact aw_zret rfl rfl dX10_readsRider_47 ⟨rfl, _, rfl, h⟩
    · have h := sw_if.f h c_11
      refine aw_aload_n 1 dX10_readsRider_37 rfl rfl ?_
      refine aw_bipush (v := 62) dX10_readsRider_38 (by decide) ?_
      refine aw_callV wv_X10_takes (M_X10_takes hG  h) ml_X10_108 rfl (by decide) (lk131 hG) rfl rfl (Nat.le_of_ble_eq_true rfl) ⟨rfl, rfl⟩ ⟨Nat.le_of_ble_eq_true rfl, Nat.le_of_ble_eq_true rfl⟩ ⟨Nat.le_refl _, Nat.le_refl _⟩ dX10_readsRider_40 (aw_ki fun r_12 I_13 J_14 h => ?_)
      refine aw_zne 48 dX10_readsRider_43 (by decide) (fun c_15 => ?_) (fun c_15 => ?_)
      · have h := sw_if.f h c_15
        refine aw_aload_n 1 dX10_readsRider_48 rfl rfl ?_
        refine gf_X10_17 fl_X10_111 (lk131 hG) (lr131_17 hG) dX10_readsRider_49 ?_
        refine aw_iload_n 0 dX10_readsRider_52 rfl rfl ?_
        refine aw_iconst (v := (-1)) dX10_readsRider_53 (by decide) ?_
        obtain ⟨hi_16, h⟩ := h
        refine aw_ist dX10_readsRider_54 (lk139 hG) (ln139 hG) hi_16 (aw_nameI fun I_17 e_18 => ?_)
        have h := h I_17 e_18
        refine aw_aload_n 1 dX10_readsRider_55 rfl rfl ?_
        refine aw_bipush (v := 45) dX10_readsRider_56 (by decide) ?_
        refine aw_callV wv_X10_takes (M_X10_takes hG  h) ml_X10_108 rfl (by decide) (lk131 hG) rfl rfl (Nat.le_of_ble_eq_true rfl) ⟨rfl, rfl⟩ ⟨Nat.le_of_ble_eq_true rfl, Nat.le_of_ble_eq_true rfl⟩ ⟨Nat.le_refl _, Nat.le_refl _⟩ dX10_readsRider_58 (aw_ki fun r_19 I_20 J_21 h => ?_)
        refine aw_zne 85 dX10_readsRider_61 (by decide) (fun c_22 => ?_) (fun c_22 => ?_)
        · have h := sw_if.f h c_22
          refine aw_sub [1, 0] rfl ?_
          exact t_X10_readsRider_85 hG   h
        · have h := sw_if.t h c_22
          refine aw_aload_n 1 dX10_readsRider_64 rfl rfl ?_
          refine gf_X10_17 fl_X10_111 (lk131 hG) (lr131_17 hG) dX10_readsRider_65 ?_
          refine aw_iload_n 0 dX10_readsRider_68 rfl rfl ?_
          refine aw_aload_n 1 dX10_readsRider_69 rfl rfl ?_
          refine aw_callV wv_X10_readsFloor (M_X10_readsFloor hG  h) ml_X10_105 rfl (by decide) (lk131 hG) rfl rfl (Nat.le_of_ble_eq_true rfl) ⟨rfl, rfl⟩ ⟨Nat.le_of_ble_eq_true rfl, Nat.le_of_ble_eq_true rfl⟩ ⟨Nat.le_refl _, Nat.le_refl _⟩ dX10_readsRider_70 (aw_ki fun r_23 I_24 J_25 h => ?_)
          obtain ⟨hi_26, h⟩ := h
          refine aw_ist dX10_readsRider_73 (lk139 hG) (ln139 hG) hi_26 (aw_nameI fun I_27 e_28 => ?_)
          have h := h I_27 e_28
          refine aw_aload_n 1 dX10_readsRider_74 rfl rfl ?_
          refine gf_X10_17 fl_X10_111 (lk131 hG) (lr131_17 hG) dX10_readsRider_75 ?_
          refine aw_iload_n 0 dX10_readsRider_78 rfl rfl ?_
          obtain ⟨hi_29, h⟩ := h
          refine aw_ild dX10_readsRider_79 (lk139 hG) (ln139 hG) hi_29 ?_
          refine aw_zge 85 dX10_readsRider_80 (by decide) (fun c_30 => ?_) (fun c_30 => ?_)
          · have h := sw_if.f h c_30
            refine aw_sub [1, 0] rfl ?_
            exact t_X10_readsRider_85 hG   h
          · have h := sw_if.t h c_30
            refine aw_iconst (v := 0) dX10_readsRider_83 (by decide) ?_
            exact aw_zret rfl rfl dX10_readsRider_84 ⟨rfl, _, rfl, h⟩
      · have h := sw_if.t h c_15
        refine aw_iconst (v := 0) dX10_readsRider_46 (by decide) ?_
        exact aw_zret rfl rfl dX10_readsRider_47 ⟨rfl, _, rfl, h⟩
  · have h := sw_if.t h c_3
    refine aw_iconst (v := 0) dX10_readsRider_16 (by decide) ?_
    exact aw_zret rfl rfl dX10_readsRider_17 ⟨rfl, _, rfl, h⟩
theorem M_X10_readsRider {l : Launch} {D : va_G} {cy : Nat → ClassId} {sz : Nat} {G : sw_G} (hG : sw_lay G)   {Q : Int32 → sw_I → sw_J → Prop}  {I : sw_I} {J : sw_J} (h : wp_X10_readsRider  I J Q) : Met l yX10_readsRider (Cond.code yX10_readsRider cX10_readsRider 2 (some .boolean) :: sw_T) rm_X10_readsRider (sw_Pc D cy sz [.ref (sz + 131)] G I J) (sw_Q D cy sz (sw_qi G Q)) 0 0 (fun q => sz ≤ q) :=
  sw_met (by decide) (fun q => by cases q) (Nat.le_of_ble_eq_true rfl) rfl (t_X10_readsRider hG  h)
-- X10_comes
abbrev rm_X10_comes : Room := { frames := 0, cells := 0, slots := 0, locals := 0 }
def wp_X10_comes (x1 : Int32) (x2 : Int32) (x3 : Int32) (x4 : Int32) (I : sw_I) (J : sw_J) (Q : sw_I → sw_J → Prop) : Prop :=
  vp_in x1 10 ∧ ∀ I_2 : sw_I, I_2 = sw_up I 133 x1.toNatClampNeg x2 → vp_in x1 10 ∧ ∀ I_5 : sw_I, I_5 = sw_up I_2 134 x1.toNatClampNeg (10 : Int32) → vp_in x1 33 ∧ ∀ I_8 : sw_I, I_8 = sw_up I_5 135 x1.toNatClampNeg x4 → vp_in ((10 : Int32) + x1) 33 ∧ ∀ I_11 : sw_I, I_11 = sw_up I_8 135 ((10 : Int32) + x1).toNatClampNeg x3 → vp_in ((20 : Int32) + x1) 33 ∧ ∀ I_14 : sw_I, I_14 = sw_up I_11 135 ((20 : Int32) + x1).toNatClampNeg (0 : Int32) → Q I_14 J
set_option maxRecDepth 20000 in
theorem t_X10_comes {l : Launch} {D : va_G} {cy : Nat → ClassId} {sz : Nat} {G : sw_G} (hG : sw_lay G)   {Q : sw_I → sw_J → Prop} {x1 : Int32} {x2 : Int32} {x3 : Int32} {x4 : Int32} {I : sw_I} {J : sw_J} (h : wp_X10_comes x1 x2 x3 x4 I J Q) : AW l D cy sz RX10 cX10_comes 5 none false rm_X10_comes 0 0 (sw_qv G Q) 0 0 G I J 0 [(0, .ref (sz + 131)), (1, .int x1), (2, .int x2), (3, .int x3), (4, .int x4)] [] := by
  unfold wp_X10_comes at h
  refine aw_aload_n 0 dX10_comes_0 rfl rfl ?_
  refine gf_X10_7 fl_X10_135 (lk131 hG) (lr131_7 hG) dX10_comes_1 ?_
  refine aw_iload_n 1 dX10_comes_4 rfl rfl ?_
  refine aw_iload_n 2 dX10_comes_5 rfl rfl ?_
  obtain ⟨hi_1, h⟩ := h
  refine aw_ist dX10_comes_6 (lk133 hG) (ln133 hG) hi_1 (aw_nameI fun I_2 e_3 => ?_)
  have h := h I_2 e_3
  refine aw_aload_n 0 dX10_comes_7 rfl rfl ?_
  refine gf_X10_8 fl_X10_138 (lk131 hG) (lr131_8 hG) dX10_comes_8 ?_
  refine aw_iload_n 1 dX10_comes_11 rfl rfl ?_
  refine aw_bipush (v := 10) dX10_comes_12 (by decide) ?_
  obtain ⟨hi_4, h⟩ := h
  refine aw_ist dX10_comes_14 (lk134 hG) (ln134 hG) hi_4 (aw_nameI fun I_5 e_6 => ?_)
  have h := h I_5 e_6
  refine aw_aload_n 0 dX10_comes_15 rfl rfl ?_
  refine gf_X10_9 fl_X10_79 (lk131 hG) (lr131_9 hG) dX10_comes_16 ?_
  refine aw_iload_n 1 dX10_comes_19 rfl rfl ?_
  refine aw_iload 4 dX10_comes_20 rfl ?_
  obtain ⟨hi_7, h⟩ := h
  refine aw_ist dX10_comes_22 (lk135 hG) (ln135 hG) hi_7 (aw_nameI fun I_8 e_9 => ?_)
  have h := h I_8 e_9
  refine aw_aload_n 0 dX10_comes_23 rfl rfl ?_
  refine gf_X10_9 fl_X10_79 (lk131 hG) (lr131_9 hG) dX10_comes_24 ?_
  refine aw_bipush (v := 10) dX10_comes_27 (by decide) ?_
  refine aw_iload_n 1 dX10_comes_29 rfl rfl ?_
  refine aw_iadd dX10_comes_30 ?_
  refine aw_iload_n 3 dX10_comes_31 rfl rfl ?_
  obtain ⟨hi_10, h⟩ := h
  refine aw_ist dX10_comes_32 (lk135 hG) (ln135 hG) hi_10 (aw_nameI fun I_11 e_12 => ?_)
  have h := h I_11 e_12
  refine aw_aload_n 0 dX10_comes_33 rfl rfl ?_
  refine gf_X10_9 fl_X10_79 (lk131 hG) (lr131_9 hG) dX10_comes_34 ?_
  refine aw_bipush (v := 20) dX10_comes_37 (by decide) ?_
  refine aw_iload_n 1 dX10_comes_39 rfl rfl ?_
  refine aw_iadd dX10_comes_40 ?_
  refine aw_iconst (v := 0) dX10_comes_41 (by decide) ?_
  obtain ⟨hi_13, h⟩ := h
  refine aw_ist dX10_comes_42 (lk135 hG) (ln135 hG) hi_13 (aw_nameI fun I_14 e_15 => ?_)
  have h := h I_14 e_15
  exact aw_vret rfl dX10_comes_43 ⟨rfl, rfl, h⟩
theorem M_X10_comes {l : Launch} {D : va_G} {cy : Nat → ClassId} {sz : Nat} {G : sw_G} (hG : sw_lay G)   {Q : sw_I → sw_J → Prop} {x1 : Int32} {x2 : Int32} {x3 : Int32} {x4 : Int32} {I : sw_I} {J : sw_J} (h : wp_X10_comes x1 x2 x3 x4 I J Q) : Met l yX10_comes (Cond.code yX10_comes cX10_comes 5 none :: sw_T) rm_X10_comes (sw_Pc D cy sz [.ref (sz + 131), .int x1, .int x2, .int x3, .int x4] G I J) (sw_Q D cy sz (sw_qv G Q)) 0 0 (fun q => sz ≤ q) :=
  sw_met (by decide) (fun q => by cases q) (Nat.le_of_ble_eq_true rfl) rfl (t_X10_comes hG  h)
-- X10_codes
abbrev rm_X10_codes : Room := { frames := 0, cells := 0, slots := 0, locals := 0 }
def wp_X10_codes (x1 : Int32) (I : sw_I) (J : sw_J) (Q : sw_I → sw_J → Prop) : Prop :=
  vp_in (I 131 24) 80 ∧ ∀ I_2 : sw_I, I_2 = sw_up I 142 (I 131 24).toNatClampNeg x1 → ∀ I_4 : sw_I, I_4 = sw_up I_2 131 24 ((I_2 131 24) + (1 : Int32)) → Q I_4 J
set_option maxRecDepth 20000 in
theorem t_X10_codes {l : Launch} {D : va_G} {cy : Nat → ClassId} {sz : Nat} {G : sw_G} (hG : sw_lay G)   {Q : sw_I → sw_J → Prop} {x1 : Int32} {I : sw_I} {J : sw_J} (h : wp_X10_codes x1 I J Q) : AW l D cy sz RX10 cX10_codes 2 none false rm_X10_codes 0 0 (sw_qv G Q) 0 0 G I J 0 [(0, .ref (sz + 131)), (1, .int x1)] [] := by
  unfold wp_X10_codes at h
  refine aw_aload_n 0 dX10_codes_0 rfl rfl ?_
  refine gf_X10_22 fl_X10_141 (lk131 hG) (lr131_22 hG) dX10_codes_1 ?_
  refine aw_aload_n 0 dX10_codes_4 rfl rfl ?_
  refine gf_X10_24 fl_X10_144 (lk131 hG) dX10_codes_5 ?_
  refine aw_iload_n 1 dX10_codes_8 rfl rfl ?_
  obtain ⟨hi_1, h⟩ := h
  refine aw_ist dX10_codes_9 (lk142 hG) (ln142 hG) hi_1 (aw_nameI fun I_2 e_3 => ?_)
  have h := h I_2 e_3
  refine aw_aload_n 0 dX10_codes_10 rfl rfl ?_
  refine aw_dup dX10_codes_11 rfl ?_
  refine gf_X10_24 fl_X10_144 (lk131 hG) dX10_codes_12 ?_
  refine aw_iconst (v := 1) dX10_codes_15 (by decide) ?_
  refine aw_iadd dX10_codes_16 ?_
  refine pf_X10_24 fl_X10_144 (lk131 hG) dX10_codes_17 (aw_nameI fun I_4 e_5 => ?_)
  have h := h I_4 e_5
  exact aw_vret rfl dX10_codes_20 ⟨rfl, rfl, h⟩
theorem M_X10_codes {l : Launch} {D : va_G} {cy : Nat → ClassId} {sz : Nat} {G : sw_G} (hG : sw_lay G)   {Q : sw_I → sw_J → Prop} {x1 : Int32} {I : sw_I} {J : sw_J} (h : wp_X10_codes x1 I J Q) : Met l yX10_codes (Cond.code yX10_codes cX10_codes 2 none :: sw_T) rm_X10_codes (sw_Pc D cy sz [.ref (sz + 131), .int x1] G I J) (sw_Q D cy sz (sw_qv G Q)) 0 0 (fun q => sz ≤ q) :=
  sw_met (by decide) (fun q => by cases q) (Nat.le_of_ble_eq_true rfl) rfl (t_X10_codes hG  h)
-- X10_countsRides
abbrev rm_X10_countsRides : Room := { frames := 0, cells := 0, slots := 0, locals := 0 }
def wB_X10_countsRides_33  (K4 : Int32 → Int32 → sw_I → sw_J → Prop) (Q : Int32 → sw_I → sw_J → Prop) (x2 : Int32) (s0 : Int32) (I : sw_I) (J : sw_J) : Prop :=
  ∀ y_1 : Int32, y_1 = x2 + 1 → K4 s0 y_1 I J
def wB_X10_countsRides_28  (K4 : Int32 → Int32 → sw_I → sw_J → Prop) (Q : Int32 → sw_I → sw_J → Prop) (x2 : Int32) (I : sw_I) (J : sw_J) : Prop :=
  wB_X10_countsRides_33  K4 Q x2 1 I J
def wb_X10_countsRides_4  (K4 : Int32 → Int32 → sw_I → sw_J → Prop) (Q : Int32 → sw_I → sw_J → Prop) (x1 : Int32) (x2 : Int32) (I : sw_I) (J : sw_J) : Prop :=
  sw_if (x2 < (I 131 23)) (sw_if (x1 = 0) (vp_in x2 80 ∧ sw_if ((I 141 x2.toNatClampNeg) = (1005 : Int32)) (wB_X10_countsRides_28  K4 Q x2 I J) (wB_X10_countsRides_33  K4 Q x2 0 I J)) (wB_X10_countsRides_28  K4 Q x2 I J)) ((x1 = 0 ∨ x1 = 1) ∧ Q x1 I J)
def wl_X10_countsRides_4   (Q : Int32 → sw_I → sw_J → Prop) : Nat → Int32 → Int32 → sw_I → sw_J → Prop
  | 0 => fun _ _ _ _ => False
  | n + 1 => fun x1 x2 I J => wb_X10_countsRides_4  (wl_X10_countsRides_4   Q n) Q x1 x2 I J
def wp_X10_countsRides  (I : sw_I) (J : sw_J) (Q : Int32 → sw_I → sw_J → Prop) : Prop :=
  ∃ n_1 : Nat, wl_X10_countsRides_4   Q n_1 0 0 I J
set_option maxRecDepth 20000 in
theorem t_X10_countsRides_33 {l : Launch} {D : va_G} {cy : Nat → ClassId} {sz : Nat} {G : sw_G} (hG : sw_lay G)   {Q : Int32 → sw_I → sw_J → Prop} {K4 : Int32 → Int32 → sw_I → sw_J → Prop} (hK4 : ∀ (x1 : Int32) (x2 : Int32) (I : sw_I) (J : sw_J), K4 x1 x2 I J → AW l D cy sz RX10 cX10_countsRides 3 (some .boolean) false rm_X10_countsRides 0 0 (sw_qi G Q) 0 0 G I J 4 [(0, .ref (sz + 131)), (1, .int x1), (2, .int x2)] []) {x2 : Int32} {s0 : Int32} {I : sw_I} {J : sw_J} (h : wB_X10_countsRides_33  K4 Q x2 s0 I J) : AW l D cy sz RX10 cX10_countsRides 3 (some .boolean) false rm_X10_countsRides 0 0 (sw_qi G Q) 0 0 G I J 33 [(0, .ref (sz + 131)), (2, .int x2)] [.int s0] := by
  unfold wB_X10_countsRides_33 at h
  refine aw_istore_n (lv' := [(1, .int s0), (0, .ref (sz + 131)), (2, .int x2)]) dX10_countsRides_33 rfl (by decide) rfl ?_
  obtain ⟨y_1, e_2⟩ : ∃ q : Int32, q = x2 + 1 := ⟨_, rfl⟩
  have h := h y_1 e_2
  refine aw_iinc (lv' := [(2, .int y_1), (1, .int s0), (0, .ref (sz + 131))]) 2 dX10_countsRides_34 rfl (by rw [e_2]; rfl) (by decide) rfl ?_
  refine aw_goto 4 dX10_countsRides_37 (by decide) ?_
  refine aw_sub [2, 1, 0] rfl ?_
  exact hK4 s0 y_1 I J h
set_option maxRecDepth 20000 in
theorem t_X10_countsRides_28 {l : Launch} {D : va_G} {cy : Nat → ClassId} {sz : Nat} {G : sw_G} (hG : sw_lay G)   {Q : Int32 → sw_I → sw_J → Prop} {K4 : Int32 → Int32 → sw_I → sw_J → Prop} (hK4 : ∀ (x1 : Int32) (x2 : Int32) (I : sw_I) (J : sw_J), K4 x1 x2 I J → AW l D cy sz RX10 cX10_countsRides 3 (some .boolean) false rm_X10_countsRides 0 0 (sw_qi G Q) 0 0 G I J 4 [(0, .ref (sz + 131)), (1, .int x1), (2, .int x2)] []) {x2 : Int32} {I : sw_I} {J : sw_J} (h : wB_X10_countsRides_28  K4 Q x2 I J) : AW l D cy sz RX10 cX10_countsRides 3 (some .boolean) false rm_X10_countsRides 0 0 (sw_qi G Q) 0 0 G I J 28 [(0, .ref (sz + 131)), (2, .int x2)] [] := by
  unfold wB_X10_countsRides_28 at h
  refine aw_iconst (v := 1) dX10_countsRides_28 (by decide) ?_
  refine aw_goto 33 dX10_countsRides_29 (by decide) ?_
  refine aw_sub [0, 1] rfl ?_
  exact t_X10_countsRides_33 hG  hK4 h
set_option maxRecDepth 20000 in
theorem tb_X10_countsRides_4 {l : Launch} {D : va_G} {cy : Nat → ClassId} {sz : Nat} {G : sw_G} (hG : sw_lay G)   {Q : Int32 → sw_I → sw_J → Prop} {K4 : Int32 → Int32 → sw_I → sw_J → Prop} (hK4 : ∀ (x1 : Int32) (x2 : Int32) (I : sw_I) (J : sw_J), K4 x1 x2 I J → AW l D cy sz RX10 cX10_countsRides 3 (some .boolean) false rm_X10_countsRides 0 0 (sw_qi G Q) 0 0 G I J 4 [(0, .ref (sz + 131)), (1, .int x1), (2, .int x2)] []) {x1 : Int32} {x2 : Int32} {I : sw_I} {J : sw_J} (h : wb_X10_countsRides_4  K4 Q x1 x2 I J) : AW l D cy sz RX10 cX10_countsRides 3 (some .boolean) false rm_X10_countsRides 0 0 (sw_qi G Q) 0 0 G I J 4 [(0, .ref (sz + 131)), (1, .int x1), (2, .int x2)] [] := by
  unfold wb_X10_countsRides_4 at h
  refine aw_iload_n 2 dX10_countsRides_4 rfl rfl ?_
  refine aw_aload_n 0 dX10_countsRides_5 rfl rfl ?_
  refine gf_X10_23 fl_X10_169 (lk131 hG) dX10_countsRides_6 ?_
  refine aw_jge 40 dX10_countsRides_9 (by decide) (fun c_1 => ?_) (fun c_1 => ?_)
  · have h := sw_if.f h c_1
    refine aw_iload_n 1 dX10_countsRides_40 rfl rfl ?_
    exact aw_zret rfl (sw_bool h.1).1 dX10_countsRides_41 ⟨rfl, _, rfl, h.2⟩
  · have h := sw_if.t h c_1
    refine aw_iload_n 1 dX10_countsRides_12 rfl rfl ?_
    refine aw_zne 28 dX10_countsRides_13 (by decide) (fun c_2 => ?_) (fun c_2 => ?_)
    · have h := sw_if.f h c_2
      refine aw_sub [0, 2] rfl ?_
      exact t_X10_countsRides_28 hG  hK4 h
    · have h := sw_if.t h c_2
      refine aw_aload_n 0 dX10_countsRides_16 rfl rfl ?_
      refine gf_X10_21 fl_X10_172 (lk131 hG) (lr131_21 hG) dX10_countsRides_17 ?_
      refine aw_iload_n 2 dX10_countsRides_20 rfl rfl ?_
      obtain ⟨hi_3, h⟩ := h
      refine aw_ild dX10_countsRides_21 (lk141 hG) (ln141 hG) hi_3 ?_
      refine aw_sipush (v := 1005) dX10_countsRides_22 (by decide) ?_
      refine aw_jne 32 dX10_countsRides_25 (by decide) (fun c_4 => ?_) (fun c_4 => ?_)
      · have h := sw_if.f h c_4
        refine aw_iconst (v := 0) dX10_countsRides_32 (by decide) ?_
        refine aw_sub [0, 2] rfl ?_
        exact t_X10_countsRides_33 hG  hK4 h
      · have h := sw_if.t h c_4
        refine aw_sub [0, 2] rfl ?_
        exact t_X10_countsRides_28 hG  hK4 h
set_option maxRecDepth 20000 in
theorem tl_X10_countsRides_4 {l : Launch} {D : va_G} {cy : Nat → ClassId} {sz : Nat} {G : sw_G} (hG : sw_lay G)   {Q : Int32 → sw_I → sw_J → Prop} : ∀ (n : Nat) (x1 : Int32) (x2 : Int32) (I : sw_I) (J : sw_J), wl_X10_countsRides_4   Q n x1 x2 I J → AW l D cy sz RX10 cX10_countsRides 3 (some .boolean) false rm_X10_countsRides 0 0 (sw_qi G Q) 0 0 G I J 4 [(0, .ref (sz + 131)), (1, .int x1), (2, .int x2)] [] := by
  intro n
  induction n with
  | zero => intro x1 x2 I J h; exact False.elim h
  | succ n ih => intro x1 x2 I J h; exact tb_X10_countsRides_4 hG  ih h
set_option maxRecDepth 20000 in
theorem t_X10_countsRides {l : Launch} {D : va_G} {cy : Nat → ClassId} {sz : Nat} {G : sw_G} (hG : sw_lay G)   {Q : Int32 → sw_I → sw_J → Prop}  {I : sw_I} {J : sw_J} (h : wp_X10_countsRides  I J Q) : AW l D cy sz RX10 cX10_countsRides 3 (some .boolean) false rm_X10_countsRides 0 0 (sw_qi G Q) 0 0 G I J 0 [(0, .ref (sz + 131))] [] := by
  unfold wp_X10_countsRides at h
  refine aw_iconst (v := 0) dX10_countsRides_0 (by decide) ?_
  refine aw_istore_n (lv' := [(1, .int 0), (0, .ref (sz + 131))]) dX10_countsRides_1 rfl (by decide) rfl ?_
  refine aw_iconst (v := 0) dX10_countsRides_2 (by decide) ?_
  refine aw_istore_n (lv' := [(2, .int 0), (1, .int 0), (0, .ref (sz + 131))]) dX10_countsRides_3 rfl (by decide) rfl ?_
  refine aw_sub [2, 1, 0] rfl ?_
  obtain ⟨n_1, h⟩ := h
  exact tl_X10_countsRides_4 hG   n_1 0 0 I J h
theorem M_X10_countsRides {l : Launch} {D : va_G} {cy : Nat → ClassId} {sz : Nat} {G : sw_G} (hG : sw_lay G)   {Q : Int32 → sw_I → sw_J → Prop}  {I : sw_I} {J : sw_J} (h : wp_X10_countsRides  I J Q) : Met l yX10_countsRides (Cond.code yX10_countsRides cX10_countsRides 3 (some .boolean) :: sw_T) rm_X10_countsRides (sw_Pc D cy sz [.ref (sz + 131)] G I J) (sw_Q D cy sz (sw_qi G Q)) 0 0 (fun q => sz ≤ q) :=
  sw_met (by decide) (fun q => by cases q) (Nat.le_of_ble_eq_true rfl) rfl (t_X10_countsRides hG  h)
-- X10_thingOf
abbrev rm_X10_thingOf : Room := { frames := 1, cells := 0, slots := 0, locals := 21 }
def wp_X10_thingOf (x1 : Int32) (x2 : Int32) (I : sw_I) (J : sw_J) (Q : Int32 → sw_I → sw_J → Prop) : Prop :=
  sw_if (x2 = 0) (Q x1 I J) (sw_if (x2 = 1) (vp_in x1 9 ∧ Q (I 144 x1.toNatClampNeg) I J) (sw_if (x2 = 2) (Q (if 0 ≤ (x1 - (I 131 29)) then (x1 - (I 131 29)) else 0 - (x1 - (I 131 29))) I J) (sw_if (x2 = 3) (vp_in x1 9 ∧ Q (I 145 x1.toNatClampNeg) I J) (sw_if (x2 = 4) (Q (I 131 28) I J) (sw_if (x2 = 5) (Q (I 131 30) I J) (Q (I 131 29) I J))))))
set_option maxRecDepth 20000 in
theorem t_X10_thingOf {l : Launch} {D : va_G} {cy : Nat → ClassId} {sz : Nat} {G : sw_G} (hG : sw_lay G)   {Q : Int32 → sw_I → sw_J → Prop} {x1 : Int32} {x2 : Int32} {I : sw_I} {J : sw_J} (h : wp_X10_thingOf x1 x2 I J Q) : AW l D cy sz RX10 cX10_thingOf 3 (some .int) false rm_X10_thingOf 0 0 (sw_qi G Q) 0 0 G I J 0 [(0, .ref (sz + 131)), (1, .int x1), (2, .int x2)] [] := by
  unfold wp_X10_thingOf at h
  refine aw_iload_n 2 dX10_thingOf_0 rfl rfl ?_
  by_cases c_1 : x2 = 0
  · have h := sw_if.t h c_1; refine aw_tableIn 40 dX10_thingOf_1 (by rw [c_1]; decide) (by rw [c_1]; decide) (by rw [c_1]; rfl) (by decide) ?_
    refine aw_iload_n 1 dX10_thingOf_40 rfl rfl ?_
    exact aw_iret rfl dX10_thingOf_41 ⟨rfl, _, rfl, h⟩
  · have h := sw_if.f h c_1
    by_cases c_2 : x2 = 1
    · have h := sw_if.t h c_2; refine aw_tableIn 42 dX10_thingOf_1 (by rw [c_2]; decide) (by rw [c_2]; decide) (by rw [c_2]; rfl) (by decide) ?_
      refine aw_aload_n 0 dX10_thingOf_42 rfl rfl ?_
      refine gf_X10_26 fl_X10_189 (lk131 hG) (lr131_26 hG) dX10_thingOf_43 ?_
      refine aw_iload_n 1 dX10_thingOf_46 rfl rfl ?_
      obtain ⟨hi_3, h⟩ := h
      refine aw_ild dX10_thingOf_47 (lk144 hG) (ln144 hG) hi_3 ?_
      exact aw_iret rfl dX10_thingOf_48 ⟨rfl, _, rfl, h⟩
    · have h := sw_if.f h c_2
      by_cases c_4 : x2 = 2
      · have h := sw_if.t h c_4; refine aw_tableIn 49 dX10_thingOf_1 (by rw [c_4]; decide) (by rw [c_4]; decide) (by rw [c_4]; rfl) (by decide) ?_
        refine aw_iload_n 1 dX10_thingOf_49 rfl rfl ?_
        refine aw_aload_n 0 dX10_thingOf_50 rfl rfl ?_
        refine gf_X10_29 fl_X10_183 (lk131 hG) dX10_thingOf_51 ?_
        refine aw_isub dX10_thingOf_54 ?_
        refine aw_mabs mm_X10_199 wm_abs (Nat.le_of_ble_eq_true rfl) (Nat.le_of_ble_eq_true rfl) ⟨Nat.le_refl _, Nat.le_refl _⟩ dX10_thingOf_55 ?_
        exact aw_iret rfl dX10_thingOf_58 ⟨rfl, _, rfl, h⟩
      · have h := sw_if.f h c_4
        by_cases c_5 : x2 = 3
        · have h := sw_if.t h c_5; refine aw_tableIn 59 dX10_thingOf_1 (by rw [c_5]; decide) (by rw [c_5]; decide) (by rw [c_5]; rfl) (by decide) ?_
          refine aw_aload_n 0 dX10_thingOf_59 rfl rfl ?_
          refine gf_X10_27 fl_X10_192 (lk131 hG) (lr131_27 hG) dX10_thingOf_60 ?_
          refine aw_iload_n 1 dX10_thingOf_63 rfl rfl ?_
          obtain ⟨hi_6, h⟩ := h
          refine aw_ild dX10_thingOf_64 (lk145 hG) (ln145 hG) hi_6 ?_
          exact aw_iret rfl dX10_thingOf_65 ⟨rfl, _, rfl, h⟩
        · have h := sw_if.f h c_5
          by_cases c_7 : x2 = 4
          · have h := sw_if.t h c_7; refine aw_tableIn 66 dX10_thingOf_1 (by rw [c_7]; decide) (by rw [c_7]; decide) (by rw [c_7]; rfl) (by decide) ?_
            refine aw_aload_n 0 dX10_thingOf_66 rfl rfl ?_
            refine gf_X10_28 fl_X10_180 (lk131 hG) dX10_thingOf_67 ?_
            exact aw_iret rfl dX10_thingOf_70 ⟨rfl, _, rfl, h⟩
          · have h := sw_if.f h c_7
            by_cases c_8 : x2 = 5
            · have h := sw_if.t h c_8; refine aw_tableIn 71 dX10_thingOf_1 (by rw [c_8]; decide) (by rw [c_8]; decide) (by rw [c_8]; rfl) (by decide) ?_
              refine aw_aload_n 0 dX10_thingOf_71 rfl rfl ?_
              refine gf_X10_30 fl_X10_186 (lk131 hG) dX10_thingOf_72 ?_
              exact aw_iret rfl dX10_thingOf_75 ⟨rfl, _, rfl, h⟩
            · have h := sw_if.f h c_8
              refine aw_tableOut 76 dX10_thingOf_1 (by have g0 := sw_ne c_1 (by decide : (0 : Int32).toInt = 0); have g1 := sw_ne c_2 (by decide : (1 : Int32).toInt = 1); have g2 := sw_ne c_4 (by decide : (2 : Int32).toInt = 2); have g3 := sw_ne c_5 (by decide : (3 : Int32).toInt = 3); have g4 := sw_ne c_7 (by decide : (4 : Int32).toInt = 4); have g5 := sw_ne c_8 (by decide : (5 : Int32).toInt = 5); omega) (by decide) ?_
              refine aw_aload_n 0 dX10_thingOf_76 rfl rfl ?_
              refine gf_X10_29 fl_X10_183 (lk131 hG) dX10_thingOf_77 ?_
              exact aw_iret rfl dX10_thingOf_80 ⟨rfl, _, rfl, h⟩
theorem M_X10_thingOf {l : Launch} {D : va_G} {cy : Nat → ClassId} {sz : Nat} {G : sw_G} (hG : sw_lay G)   {Q : Int32 → sw_I → sw_J → Prop} {x1 : Int32} {x2 : Int32} {I : sw_I} {J : sw_J} (h : wp_X10_thingOf x1 x2 I J Q) : Met l yX10_thingOf (Cond.code yX10_thingOf cX10_thingOf 3 (some .int) :: sw_T) rm_X10_thingOf (sw_Pc D cy sz [.ref (sz + 131), .int x1, .int x2] G I J) (sw_Q D cy sz (sw_qi G Q)) 0 0 (fun q => sz ≤ q) :=
  sw_met (by decide) (fun q => by cases q) (Nat.le_of_ble_eq_true rfl) rfl (t_X10_thingOf hG  h)
-- X10_worked
abbrev rm_X10_worked : Room := { frames := 1, cells := 0, slots := 0, locals := 20 }
def wB_X10_worked_50   (Q : Int32 → sw_I → sw_J → Prop) (s0 : Int32) (I : sw_I) (J : sw_J) : Prop :=
  wp_X10_flag s0 I J (fun r_1 I_2 J_3 => Q r_1 I_2 J_3)
def wB_X10_worked_64   (Q : Int32 → sw_I → sw_J → Prop) (s0 : Int32) (I : sw_I) (J : sw_J) : Prop :=
  wp_X10_flag s0 I J (fun r_1 I_2 J_3 => Q r_1 I_2 J_3)
def wB_X10_worked_78   (Q : Int32 → sw_I → sw_J → Prop) (s0 : Int32) (I : sw_I) (J : sw_J) : Prop :=
  wp_X10_flag s0 I J (fun r_1 I_2 J_3 => Q r_1 I_2 J_3)
def wp_X10_worked (x0 : Int32) (x1 : Int32) (x2 : Int32) (I : sw_I) (J : sw_J) (Q : Int32 → sw_I → sw_J → Prop) : Prop :=
  sw_if (x0 = 0) (sw_if (x1 < x2) (wB_X10_worked_50   Q 1 I J) (wB_X10_worked_50   Q 0 I J)) (sw_if (x0 = 1) (sw_if (x2 < x1) (wB_X10_worked_64   Q 1 I J) (wB_X10_worked_64   Q 0 I J)) (sw_if (x0 = 2) (sw_if (x1 = x2) (wB_X10_worked_78   Q 1 I J) (wB_X10_worked_78   Q 0 I J)) (sw_if (x0 = 3) (Q (x1 + x2) I J) (sw_if (x0 = 4) (Q (x1 - x2) I J) (sw_if (x0 = 5) (Q (x1 * x2) I J) (sw_if (x2 = 0) (Q (0 : Int32) I J) (¬ x2 = 0 ∧ Q (x1 / x2) I J)))))))
set_option maxRecDepth 20000 in
theorem t_X10_worked_50 {l : Launch} {D : va_G} {cy : Nat → ClassId} {sz : Nat} {G : sw_G} (hG : True)   {Q : Int32 → sw_I → sw_J → Prop} {s0 : Int32} {I : sw_I} {J : sw_J} (h : wB_X10_worked_50   Q s0 I J) : AW l D cy sz RX10 cX10_worked 3 (some .int) false rm_X10_worked 0 0 (sw_qi G Q) 0 0 G I J 50 [] [.int s0] := by
  unfold wB_X10_worked_50 at h
  refine aw_callS wv_X10_flag (M_X10_flag trivial  h) ml_X10_54 rfl rfl (Nat.le_of_ble_eq_true rfl) ⟨rfl, rfl⟩ ⟨Nat.le_of_ble_eq_true rfl, Nat.le_of_ble_eq_true rfl⟩ ⟨Nat.le_refl _, Nat.le_refl _⟩ dX10_worked_50 (aw_ki fun r_1 I_2 J_3 h => ?_)
  exact aw_iret rfl dX10_worked_53 ⟨rfl, _, rfl, h⟩
set_option maxRecDepth 20000 in
theorem t_X10_worked_64 {l : Launch} {D : va_G} {cy : Nat → ClassId} {sz : Nat} {G : sw_G} (hG : True)   {Q : Int32 → sw_I → sw_J → Prop} {s0 : Int32} {I : sw_I} {J : sw_J} (h : wB_X10_worked_64   Q s0 I J) : AW l D cy sz RX10 cX10_worked 3 (some .int) false rm_X10_worked 0 0 (sw_qi G Q) 0 0 G I J 64 [] [.int s0] := by
  unfold wB_X10_worked_64 at h
  refine aw_callS wv_X10_flag (M_X10_flag trivial  h) ml_X10_54 rfl rfl (Nat.le_of_ble_eq_true rfl) ⟨rfl, rfl⟩ ⟨Nat.le_of_ble_eq_true rfl, Nat.le_of_ble_eq_true rfl⟩ ⟨Nat.le_refl _, Nat.le_refl _⟩ dX10_worked_64 (aw_ki fun r_1 I_2 J_3 h => ?_)
  exact aw_iret rfl dX10_worked_67 ⟨rfl, _, rfl, h⟩
set_option maxRecDepth 20000 in
theorem t_X10_worked_78 {l : Launch} {D : va_G} {cy : Nat → ClassId} {sz : Nat} {G : sw_G} (hG : True)   {Q : Int32 → sw_I → sw_J → Prop} {s0 : Int32} {I : sw_I} {J : sw_J} (h : wB_X10_worked_78   Q s0 I J) : AW l D cy sz RX10 cX10_worked 3 (some .int) false rm_X10_worked 0 0 (sw_qi G Q) 0 0 G I J 78 [] [.int s0] := by
  unfold wB_X10_worked_78 at h
  refine aw_callS wv_X10_flag (M_X10_flag trivial  h) ml_X10_54 rfl rfl (Nat.le_of_ble_eq_true rfl) ⟨rfl, rfl⟩ ⟨Nat.le_of_ble_eq_true rfl, Nat.le_of_ble_eq_true rfl⟩ ⟨Nat.le_refl _, Nat.le_refl _⟩ dX10_worked_78 (aw_ki fun r_1 I_2 J_3 h => ?_)
  exact aw_iret rfl dX10_worked_81 ⟨rfl, _, rfl, h⟩
set_option maxRecDepth 20000 in
theorem t_X10_worked {l : Launch} {D : va_G} {cy : Nat → ClassId} {sz : Nat} {G : sw_G} (hG : True)   {Q : Int32 → sw_I → sw_J → Prop} {x0 : Int32} {x1 : Int32} {x2 : Int32} {I : sw_I} {J : sw_J} (h : wp_X10_worked x0 x1 x2 I J Q) : AW l D cy sz RX10 cX10_worked 3 (some .int) false rm_X10_worked 0 0 (sw_qi G Q) 0 0 G I J 0 [(0, .int x0), (1, .int x1), (2, .int x2)] [] := by
  unfold wp_X10_worked at h
  refine aw_iload_n 0 dX10_worked_0 rfl rfl ?_
  by_cases c_1 : x0 = 0
  · have h := sw_if.t h c_1; refine aw_tableIn 40 dX10_worked_1 (by rw [c_1]; decide) (by rw [c_1]; decide) (by rw [c_1]; rfl) (by decide) ?_
    refine aw_iload_n 1 dX10_worked_40 rfl rfl ?_
    refine aw_iload_n 2 dX10_worked_41 rfl rfl ?_
    refine aw_jge 49 dX10_worked_42 (by decide) (fun c_2 => ?_) (fun c_2 => ?_)
    · have h := sw_if.f h c_2
      refine aw_iconst (v := 0) dX10_worked_49 (by decide) ?_
      refine aw_sub [] rfl ?_
      exact t_X10_worked_50 hG   h
    · have h := sw_if.t h c_2
      refine aw_iconst (v := 1) dX10_worked_45 (by decide) ?_
      refine aw_goto 50 dX10_worked_46 (by decide) ?_
      refine aw_sub [] rfl ?_
      exact t_X10_worked_50 hG   h
  · have h := sw_if.f h c_1
    by_cases c_3 : x0 = 1
    · have h := sw_if.t h c_3; refine aw_tableIn 54 dX10_worked_1 (by rw [c_3]; decide) (by rw [c_3]; decide) (by rw [c_3]; rfl) (by decide) ?_
      refine aw_iload_n 1 dX10_worked_54 rfl rfl ?_
      refine aw_iload_n 2 dX10_worked_55 rfl rfl ?_
      refine aw_jle 63 dX10_worked_56 (by decide) (fun c_4 => ?_) (fun c_4 => ?_)
      · have h := sw_if.f h c_4
        refine aw_iconst (v := 0) dX10_worked_63 (by decide) ?_
        refine aw_sub [] rfl ?_
        exact t_X10_worked_64 hG   h
      · have h := sw_if.t h c_4
        refine aw_iconst (v := 1) dX10_worked_59 (by decide) ?_
        refine aw_goto 64 dX10_worked_60 (by decide) ?_
        refine aw_sub [] rfl ?_
        exact t_X10_worked_64 hG   h
    · have h := sw_if.f h c_3
      by_cases c_5 : x0 = 2
      · have h := sw_if.t h c_5; refine aw_tableIn 68 dX10_worked_1 (by rw [c_5]; decide) (by rw [c_5]; decide) (by rw [c_5]; rfl) (by decide) ?_
        refine aw_iload_n 1 dX10_worked_68 rfl rfl ?_
        refine aw_iload_n 2 dX10_worked_69 rfl rfl ?_
        refine aw_jne 77 dX10_worked_70 (by decide) (fun c_6 => ?_) (fun c_6 => ?_)
        · have h := sw_if.f h c_6
          refine aw_iconst (v := 0) dX10_worked_77 (by decide) ?_
          refine aw_sub [] rfl ?_
          exact t_X10_worked_78 hG   h
        · have h := sw_if.t h c_6
          refine aw_iconst (v := 1) dX10_worked_73 (by decide) ?_
          refine aw_goto 78 dX10_worked_74 (by decide) ?_
          refine aw_sub [] rfl ?_
          exact t_X10_worked_78 hG   h
      · have h := sw_if.f h c_5
        by_cases c_7 : x0 = 3
        · have h := sw_if.t h c_7; refine aw_tableIn 82 dX10_worked_1 (by rw [c_7]; decide) (by rw [c_7]; decide) (by rw [c_7]; rfl) (by decide) ?_
          refine aw_iload_n 1 dX10_worked_82 rfl rfl ?_
          refine aw_iload_n 2 dX10_worked_83 rfl rfl ?_
          refine aw_iadd dX10_worked_84 ?_
          exact aw_iret rfl dX10_worked_85 ⟨rfl, _, rfl, h⟩
        · have h := sw_if.f h c_7
          by_cases c_8 : x0 = 4
          · have h := sw_if.t h c_8; refine aw_tableIn 86 dX10_worked_1 (by rw [c_8]; decide) (by rw [c_8]; decide) (by rw [c_8]; rfl) (by decide) ?_
            refine aw_iload_n 1 dX10_worked_86 rfl rfl ?_
            refine aw_iload_n 2 dX10_worked_87 rfl rfl ?_
            refine aw_isub dX10_worked_88 ?_
            exact aw_iret rfl dX10_worked_89 ⟨rfl, _, rfl, h⟩
          · have h := sw_if.f h c_8
            by_cases c_9 : x0 = 5
            · have h := sw_if.t h c_9; refine aw_tableIn 90 dX10_worked_1 (by rw [c_9]; decide) (by rw [c_9]; decide) (by rw [c_9]; rfl) (by decide) ?_
              refine aw_iload_n 1 dX10_worked_90 rfl rfl ?_
              refine aw_iload_n 2 dX10_worked_91 rfl rfl ?_
              refine aw_imul dX10_worked_92 ?_
              exact aw_iret rfl dX10_worked_93 ⟨rfl, _, rfl, h⟩
            · have h := sw_if.f h c_9
              refine aw_tableOut 94 dX10_worked_1 (by have g0 := sw_ne c_1 (by decide : (0 : Int32).toInt = 0); have g1 := sw_ne c_3 (by decide : (1 : Int32).toInt = 1); have g2 := sw_ne c_5 (by decide : (2 : Int32).toInt = 2); have g3 := sw_ne c_7 (by decide : (3 : Int32).toInt = 3); have g4 := sw_ne c_8 (by decide : (4 : Int32).toInt = 4); have g5 := sw_ne c_9 (by decide : (5 : Int32).toInt = 5); omega) (by decide) ?_
              refine aw_iload_n 2 dX10_worked_94 rfl rfl ?_
              refine aw_zne 102 dX10_worked_95 (by decide) (fun c_10 => ?_) (fun c_10 => ?_)
              · have h := sw_if.f h c_10
                refine aw_iload_n 1 dX10_worked_102 rfl rfl ?_
                refine aw_iload_n 2 dX10_worked_103 rfl rfl ?_
                obtain ⟨hz_11, h⟩ := h
                refine aw_idiv dX10_worked_104 hz_11 ?_
                exact aw_iret rfl dX10_worked_105 ⟨rfl, _, rfl, h⟩
              · have h := sw_if.t h c_10
                refine aw_iconst (v := 0) dX10_worked_98 (by decide) ?_
                refine aw_goto 105 dX10_worked_99 (by decide) ?_
                exact aw_iret rfl dX10_worked_105 ⟨rfl, _, rfl, h⟩
theorem M_X10_worked {l : Launch} {D : va_G} {cy : Nat → ClassId} {sz : Nat} {G : sw_G} (hG : True)   {Q : Int32 → sw_I → sw_J → Prop} {x0 : Int32} {x1 : Int32} {x2 : Int32} {I : sw_I} {J : sw_J} (h : wp_X10_worked x0 x1 x2 I J Q) : Met l yX10_worked (Cond.code yX10_worked cX10_worked 3 (some .int) :: sw_T) rm_X10_worked (sw_Pc D cy sz [.int x0, .int x1, .int x2] G I J) (sw_Q D cy sz (sw_qi G Q)) 0 0 (fun q => sz ≤ q) :=
  sw_met (by decide) (fun q => by cases q) (Nat.le_of_ble_eq_true rfl) rfl (t_X10_worked hG  h)
-- X10_lawFor
abbrev rm_X10_lawFor : Room := { frames := 2, cells := 0, slots := 0, locals := 43 }
def wB_X10_lawFor_140  (K18 : Int32 → Int32 → Int32 → sw_I → sw_J → Prop) (Q : Int32 → sw_I → sw_J → Prop) (x1 : Int32) (x2 : Int32) (x3 : Int32) (I : sw_I) (J : sw_J) : Prop :=
  ∀ y_1 : Int32, y_1 = x3 + 1 → K18 x1 x2 y_1 I J
def wB_X10_lawFor_136  (K18 : Int32 → Int32 → Int32 → sw_I → sw_J → Prop) (Q : Int32 → sw_I → sw_J → Prop) (x1 : Int32) (x2 : Int32) (x3 : Int32) (s1 : Int32) (s2 : Int32) (I : sw_I) (J : sw_J) : Prop :=
  vp_in s1 80 ∧ ∀ I_2 : sw_I, I_2 = sw_up I 143 s1.toNatClampNeg s2 → ∀ y_4 : Int32, y_4 = x2 + 1 → wB_X10_lawFor_140  K18 Q x1 y_4 x3 I_2 J
def wb_X10_lawFor_18  (K18 : Int32 → Int32 → Int32 → sw_I → sw_J → Prop) (Q : Int32 → sw_I → sw_J → Prop) (x1 : Int32) (x2 : Int32) (x3 : Int32) (I : sw_I) (J : sw_J) : Prop :=
  sw_if (x3 < (I 131 23)) (vp_in x3 80 ∧ ∀ y_4 : Int32, y_4 = (I 141 x3.toNatClampNeg) → sw_if (y_4 = (3000 : Int32)) (vp_in (x2 - (1 : Int32)) 80 ∧ vp_in (x2 - (1 : Int32)) 80 ∧ ∀ I_24 : sw_I, I_24 = sw_up I 143 (x2 - (1 : Int32)).toNatClampNeg (-(I 143 (x2 - (1 : Int32)).toNatClampNeg)) → wB_X10_lawFor_140  K18 Q x1 x2 x3 I_24 J) (sw_if (y_4 < (2000 : Int32)) (sw_if (y_4 < (1000 : Int32)) (wB_X10_lawFor_136  K18 Q x1 x2 x3 x2 y_4 I J) (wp_X10_thingOf x1 (y_4 - (1000 : Int32)) I J (fun r_9 I_10 J_11 => wB_X10_lawFor_136  K18 Q x1 x2 x3 x2 r_9 I_10 J_11))) (∀ y_12 : Int32, y_12 = x2 + (-1) → vp_in (y_12 - (1 : Int32)) 80 ∧ vp_in y_12 80 ∧ wp_X10_worked (y_4 - (2000 : Int32)) (I 143 (y_12 - (1 : Int32)).toNatClampNeg) (I 143 y_12.toNatClampNeg) I J (fun r_16 I_17 J_18 => vp_in (y_12 - (1 : Int32)) 80 ∧ ∀ I_20 : sw_I, I_20 = sw_up I_17 143 (y_12 - (1 : Int32)).toNatClampNeg r_16 → wB_X10_lawFor_140  K18 Q x1 y_12 x3 I_20 J_18)))) (Q (I 143 (0 : Int32).toNatClampNeg) I J)
def wl_X10_lawFor_18   (Q : Int32 → sw_I → sw_J → Prop) : Nat → Int32 → Int32 → Int32 → sw_I → sw_J → Prop
  | 0 => fun _ _ _ _ _ => False
  | n + 1 => fun x1 x2 x3 I J => wb_X10_lawFor_18  (wl_X10_lawFor_18   Q n) Q x1 x2 x3 I J
def wp_X10_lawFor (x1 : Int32) (I : sw_I) (J : sw_J) (Q : Int32 → sw_I → sw_J → Prop) : Prop :=
  sw_if ((I 131 23) = 0) (vp_in x1 9 ∧ Q (I 144 x1.toNatClampNeg) I J) (∃ n_2 : Nat, wl_X10_lawFor_18   Q n_2 x1 0 0 I J)
set_option maxRecDepth 20000 in
theorem t_X10_lawFor_140 {l : Launch} {D : va_G} {cy : Nat → ClassId} {sz : Nat} {G : sw_G} (hG : sw_lay G)   {Q : Int32 → sw_I → sw_J → Prop} {K18 : Int32 → Int32 → Int32 → sw_I → sw_J → Prop} (hK18 : ∀ (x1 : Int32) (x2 : Int32) (x3 : Int32) (I : sw_I) (J : sw_J), K18 x1 x2 x3 I J → AW l D cy sz RX10 cX10_lawFor 5 (some .int) false rm_X10_lawFor 0 0 (sw_qi G Q) 0 0 G I J 18 [(0, .ref (sz + 131)), (1, .int x1), (2, .int x2), (3, .int x3)] []) {x1 : Int32} {x2 : Int32} {x3 : Int32} {I : sw_I} {J : sw_J} (h : wB_X10_lawFor_140  K18 Q x1 x2 x3 I J) : AW l D cy sz RX10 cX10_lawFor 5 (some .int) false rm_X10_lawFor 0 0 (sw_qi G Q) 0 0 G I J 140 [(0, .ref (sz + 131)), (1, .int x1), (2, .int x2), (3, .int x3)] [] := by
  unfold wB_X10_lawFor_140 at h
  obtain ⟨y_1, e_2⟩ : ∃ q : Int32, q = x3 + 1 := ⟨_, rfl⟩
  have h := h y_1 e_2
  refine aw_iinc (lv' := [(3, .int y_1), (0, .ref (sz + 131)), (1, .int x1), (2, .int x2)]) 3 dX10_lawFor_140 rfl (by rw [e_2]; rfl) (by decide) rfl ?_
  refine aw_goto 18 dX10_lawFor_143 (by decide) ?_
  refine aw_sub [1, 2, 3, 0] rfl ?_
  exact hK18 x1 x2 y_1 I J h
set_option maxRecDepth 20000 in
theorem t_X10_lawFor_136 {l : Launch} {D : va_G} {cy : Nat → ClassId} {sz : Nat} {G : sw_G} (hG : sw_lay G)   {Q : Int32 → sw_I → sw_J → Prop} {K18 : Int32 → Int32 → Int32 → sw_I → sw_J → Prop} (hK18 : ∀ (x1 : Int32) (x2 : Int32) (x3 : Int32) (I : sw_I) (J : sw_J), K18 x1 x2 x3 I J → AW l D cy sz RX10 cX10_lawFor 5 (some .int) false rm_X10_lawFor 0 0 (sw_qi G Q) 0 0 G I J 18 [(0, .ref (sz + 131)), (1, .int x1), (2, .int x2), (3, .int x3)] []) {x1 : Int32} {x2 : Int32} {x3 : Int32} {s1 : Int32} {s2 : Int32} {I : sw_I} {J : sw_J} (h : wB_X10_lawFor_136  K18 Q x1 x2 x3 s1 s2 I J) : AW l D cy sz RX10 cX10_lawFor 5 (some .int) false rm_X10_lawFor 0 0 (sw_qi G Q) 0 0 G I J 136 [(0, .ref (sz + 131)), (1, .int x1), (2, .int x2), (3, .int x3)] [.int s2, .int s1, .ref (sz + 143)] := by
  unfold wB_X10_lawFor_136 at h
  obtain ⟨hi_1, h⟩ := h
  refine aw_ist dX10_lawFor_136 (lk143 hG) (ln143 hG) hi_1 (aw_nameI fun I_2 e_3 => ?_)
  have h := h I_2 e_3
  obtain ⟨y_4, e_5⟩ : ∃ q : Int32, q = x2 + 1 := ⟨_, rfl⟩
  have h := h y_4 e_5
  refine aw_iinc (lv' := [(2, .int y_4), (0, .ref (sz + 131)), (1, .int x1), (3, .int x3)]) 2 dX10_lawFor_137 rfl (by rw [e_5]; rfl) (by decide) rfl ?_
  refine aw_sub [1, 2, 0, 3] rfl ?_
  exact t_X10_lawFor_140 hG  hK18 h
set_option maxRecDepth 20000 in
theorem tb_X10_lawFor_18 {l : Launch} {D : va_G} {cy : Nat → ClassId} {sz : Nat} {G : sw_G} (hG : sw_lay G)   {Q : Int32 → sw_I → sw_J → Prop} {K18 : Int32 → Int32 → Int32 → sw_I → sw_J → Prop} (hK18 : ∀ (x1 : Int32) (x2 : Int32) (x3 : Int32) (I : sw_I) (J : sw_J), K18 x1 x2 x3 I J → AW l D cy sz RX10 cX10_lawFor 5 (some .int) false rm_X10_lawFor 0 0 (sw_qi G Q) 0 0 G I J 18 [(0, .ref (sz + 131)), (1, .int x1), (2, .int x2), (3, .int x3)] []) {x1 : Int32} {x2 : Int32} {x3 : Int32} {I : sw_I} {J : sw_J} (h : wb_X10_lawFor_18  K18 Q x1 x2 x3 I J) : AW l D cy sz RX10 cX10_lawFor 5 (some .int) false rm_X10_lawFor 0 0 (sw_qi G Q) 0 0 G I J 18 [(0, .ref (sz + 131)), (1, .int x1), (2, .int x2), (3, .int x3)] [] := by
  unfold wb_X10_lawFor_18 at h
  refine aw_iload_n 3 dX10_lawFor_18 rfl rfl ?_
  refine aw_aload_n 0 dX10_lawFor_19 rfl rfl ?_
  refine gf_X10_23 fl_X10_169 (lk131 hG) dX10_lawFor_20 ?_
  refine aw_jge 146 dX10_lawFor_23 (by decide) (fun c_1 => ?_) (fun c_1 => ?_)
  · have h := sw_if.f h c_1
    refine aw_aload_n 0 dX10_lawFor_146 rfl rfl ?_
    refine gf_X10_25 fl_X10_202 (lk131 hG) (lr131_25 hG) dX10_lawFor_147 ?_
    refine aw_iconst (v := 0) dX10_lawFor_150 (by decide) ?_
    refine aw_ild dX10_lawFor_151 (lk143 hG) (ln143 hG) (by unfold vp_in; decide) ?_
    exact aw_iret rfl dX10_lawFor_152 ⟨rfl, _, rfl, h⟩
  · have h := sw_if.t h c_1
    refine aw_aload_n 0 dX10_lawFor_26 rfl rfl ?_
    refine gf_X10_21 fl_X10_172 (lk131 hG) (lr131_21 hG) dX10_lawFor_27 ?_
    refine aw_iload_n 3 dX10_lawFor_30 rfl rfl ?_
    obtain ⟨hi_3, h⟩ := h
    refine aw_ild dX10_lawFor_31 (lk141 hG) (ln141 hG) hi_3 ?_
    refine aw_topi (fun y_4 e_5 => ?_)
    have h := h y_4 e_5
    refine aw_istore (lv' := [(4, .int y_4), (0, .ref (sz + 131)), (1, .int x1), (2, .int x2), (3, .int x3)]) dX10_lawFor_32 (by decide) rfl ?_
    refine aw_iload 0 dX10_lawFor_34 rfl ?_
    refine aw_sipush (v := 3000) dX10_lawFor_36 (by decide) ?_
    refine aw_jne 62 dX10_lawFor_39 (by decide) (fun c_6 => ?_) (fun c_6 => ?_)
    · have h := sw_if.f h c_6
      refine aw_iload 0 dX10_lawFor_62 rfl ?_
      refine aw_sipush (v := 2000) dX10_lawFor_64 (by decide) ?_
      refine aw_jlt 107 dX10_lawFor_67 (by decide) (fun c_7 => ?_) (fun c_7 => ?_)
      · have h := sw_if.t h c_7
        refine aw_aload_n 1 dX10_lawFor_107 rfl rfl ?_
        refine gf_X10_25 fl_X10_202 (lk131 hG) (lr131_25 hG) dX10_lawFor_108 ?_
        refine aw_iload_n 3 dX10_lawFor_111 rfl rfl ?_
        refine aw_iload 0 dX10_lawFor_112 rfl ?_
        refine aw_sipush (v := 1000) dX10_lawFor_114 (by decide) ?_
        refine aw_jlt 134 dX10_lawFor_117 (by decide) (fun c_8 => ?_) (fun c_8 => ?_)
        · have h := sw_if.t h c_8
          refine aw_iload 0 dX10_lawFor_134 rfl ?_
          refine aw_sub [1, 2, 3, 4] rfl ?_
          exact t_X10_lawFor_136 hG  hK18 h
        · have h := sw_if.f h c_8
          refine aw_aload_n 1 dX10_lawFor_120 rfl rfl ?_
          refine aw_iload_n 2 dX10_lawFor_121 rfl rfl ?_
          refine aw_iload 0 dX10_lawFor_122 rfl ?_
          refine aw_sipush (v := 1000) dX10_lawFor_124 (by decide) ?_
          refine aw_isub dX10_lawFor_127 ?_
          refine aw_callV wv_X10_thingOf (M_X10_thingOf hG  h) ml_X10_209 rfl (by decide) (lk131 hG) rfl rfl (Nat.le_of_ble_eq_true rfl) ⟨rfl, rfl⟩ ⟨Nat.le_of_ble_eq_true rfl, Nat.le_of_ble_eq_true rfl⟩ ⟨Nat.le_refl _, Nat.le_refl _⟩ dX10_lawFor_128 (aw_ki fun r_9 I_10 J_11 h => ?_)
          refine aw_goto 136 dX10_lawFor_131 (by decide) ?_
          refine aw_sub [1, 2, 3, 4] rfl ?_
          exact t_X10_lawFor_136 hG  hK18 h
      · have h := sw_if.f h c_7
        obtain ⟨y_12, e_13⟩ : ∃ q : Int32, q = x2 + (-1) := ⟨_, rfl⟩
        have h := h y_12 e_13
        refine aw_iinc (lv' := [(2, .int y_12), (4, .int y_4), (0, .ref (sz + 131)), (1, .int x1), (3, .int x3)]) 3 dX10_lawFor_70 rfl (by rw [e_13]; rfl) (by decide) rfl ?_
        refine aw_aload_n 2 dX10_lawFor_73 rfl rfl ?_
        refine gf_X10_25 fl_X10_202 (lk131 hG) (lr131_25 hG) dX10_lawFor_74 ?_
        refine aw_iload_n 0 dX10_lawFor_77 rfl rfl ?_
        refine aw_iconst (v := 1) dX10_lawFor_78 (by decide) ?_
        refine aw_isub dX10_lawFor_79 ?_
        refine aw_iload 1 dX10_lawFor_80 rfl ?_
        refine aw_sipush (v := 2000) dX10_lawFor_82 (by decide) ?_
        refine aw_isub dX10_lawFor_85 ?_
        refine aw_aload_n 2 dX10_lawFor_86 rfl rfl ?_
        refine gf_X10_25 fl_X10_202 (lk131 hG) (lr131_25 hG) dX10_lawFor_87 ?_
        refine aw_iload_n 0 dX10_lawFor_90 rfl rfl ?_
        refine aw_iconst (v := 1) dX10_lawFor_91 (by decide) ?_
        refine aw_isub dX10_lawFor_92 ?_
        obtain ⟨hi_14, h⟩ := h
        refine aw_ild dX10_lawFor_93 (lk143 hG) (ln143 hG) hi_14 ?_
        refine aw_aload_n 2 dX10_lawFor_94 rfl rfl ?_
        refine gf_X10_25 fl_X10_202 (lk131 hG) (lr131_25 hG) dX10_lawFor_95 ?_
        refine aw_iload_n 0 dX10_lawFor_98 rfl rfl ?_
        obtain ⟨hi_15, h⟩ := h
        refine aw_ild dX10_lawFor_99 (lk143 hG) (ln143 hG) hi_15 ?_
        refine aw_callS wv_X10_worked (M_X10_worked trivial  h) ml_X10_205 rfl rfl (Nat.le_of_ble_eq_true rfl) ⟨rfl, rfl⟩ ⟨Nat.le_of_ble_eq_true rfl, Nat.le_of_ble_eq_true rfl⟩ ⟨Nat.le_refl _, Nat.le_refl _⟩ dX10_lawFor_100 (aw_ki fun r_16 I_17 J_18 h => ?_)
        obtain ⟨hi_19, h⟩ := h
        refine aw_ist dX10_lawFor_103 (lk143 hG) (ln143 hG) hi_19 (aw_nameI fun I_20 e_21 => ?_)
        have h := h I_20 e_21
        refine aw_goto 140 dX10_lawFor_104 (by decide) ?_
        refine aw_sub [2, 3, 0, 4] rfl ?_
        exact t_X10_lawFor_140 hG  hK18 h
    · have h := sw_if.t h c_6
      refine aw_aload_n 1 dX10_lawFor_42 rfl rfl ?_
      refine gf_X10_25 fl_X10_202 (lk131 hG) (lr131_25 hG) dX10_lawFor_43 ?_
      refine aw_iload_n 3 dX10_lawFor_46 rfl rfl ?_
      refine aw_iconst (v := 1) dX10_lawFor_47 (by decide) ?_
      refine aw_isub dX10_lawFor_48 ?_
      refine aw_aload_n 1 dX10_lawFor_49 rfl rfl ?_
      refine gf_X10_25 fl_X10_202 (lk131 hG) (lr131_25 hG) dX10_lawFor_50 ?_
      refine aw_iload_n 3 dX10_lawFor_53 rfl rfl ?_
      refine aw_iconst (v := 1) dX10_lawFor_54 (by decide) ?_
      refine aw_isub dX10_lawFor_55 ?_
      obtain ⟨hi_22, h⟩ := h
      refine aw_ild dX10_lawFor_56 (lk143 hG) (ln143 hG) hi_22 ?_
      refine aw_ineg dX10_lawFor_57 ?_
      obtain ⟨hi_23, h⟩ := h
      refine aw_ist dX10_lawFor_58 (lk143 hG) (ln143 hG) hi_23 (aw_nameI fun I_24 e_25 => ?_)
      have h := h I_24 e_25
      refine aw_goto 140 dX10_lawFor_59 (by decide) ?_
      refine aw_sub [1, 2, 3, 4] rfl ?_
      exact t_X10_lawFor_140 hG  hK18 h
set_option maxRecDepth 20000 in
theorem tl_X10_lawFor_18 {l : Launch} {D : va_G} {cy : Nat → ClassId} {sz : Nat} {G : sw_G} (hG : sw_lay G)   {Q : Int32 → sw_I → sw_J → Prop} : ∀ (n : Nat) (x1 : Int32) (x2 : Int32) (x3 : Int32) (I : sw_I) (J : sw_J), wl_X10_lawFor_18   Q n x1 x2 x3 I J → AW l D cy sz RX10 cX10_lawFor 5 (some .int) false rm_X10_lawFor 0 0 (sw_qi G Q) 0 0 G I J 18 [(0, .ref (sz + 131)), (1, .int x1), (2, .int x2), (3, .int x3)] [] := by
  intro n
  induction n with
  | zero => intro x1 x2 x3 I J h; exact False.elim h
  | succ n ih => intro x1 x2 x3 I J h; exact tb_X10_lawFor_18 hG  ih h
set_option maxRecDepth 20000 in
theorem t_X10_lawFor {l : Launch} {D : va_G} {cy : Nat → ClassId} {sz : Nat} {G : sw_G} (hG : sw_lay G)   {Q : Int32 → sw_I → sw_J → Prop} {x1 : Int32} {I : sw_I} {J : sw_J} (h : wp_X10_lawFor x1 I J Q) : AW l D cy sz RX10 cX10_lawFor 5 (some .int) false rm_X10_lawFor 0 0 (sw_qi G Q) 0 0 G I J 0 [(0, .ref (sz + 131)), (1, .int x1)] [] := by
  unfold wp_X10_lawFor at h
  refine aw_aload_n 0 dX10_lawFor_0 rfl rfl ?_
  refine gf_X10_23 fl_X10_169 (lk131 hG) dX10_lawFor_1 ?_
  refine aw_zne 14 dX10_lawFor_4 (by decide) (fun c_1 => ?_) (fun c_1 => ?_)
  · have h := sw_if.f h c_1
    refine aw_iconst (v := 0) dX10_lawFor_14 (by decide) ?_
    refine aw_istore_n (lv' := [(2, .int 0), (0, .ref (sz + 131)), (1, .int x1)]) dX10_lawFor_15 rfl (by decide) rfl ?_
    refine aw_iconst (v := 0) dX10_lawFor_16 (by decide) ?_
    refine aw_istore_n (lv' := [(3, .int 0), (2, .int 0), (0, .ref (sz + 131)), (1, .int x1)]) dX10_lawFor_17 rfl (by decide) rfl ?_
    refine aw_sub [2, 3, 1, 0] rfl ?_
    obtain ⟨n_2, h⟩ := h
    exact tl_X10_lawFor_18 hG   n_2 x1 0 0 I J h
  · have h := sw_if.t h c_1
    refine aw_aload_n 0 dX10_lawFor_7 rfl rfl ?_
    refine gf_X10_26 fl_X10_189 (lk131 hG) (lr131_26 hG) dX10_lawFor_8 ?_
    refine aw_iload_n 1 dX10_lawFor_11 rfl rfl ?_
    obtain ⟨hi_3, h⟩ := h
    refine aw_ild dX10_lawFor_12 (lk144 hG) (ln144 hG) hi_3 ?_
    exact aw_iret rfl dX10_lawFor_13 ⟨rfl, _, rfl, h⟩
theorem M_X10_lawFor {l : Launch} {D : va_G} {cy : Nat → ClassId} {sz : Nat} {G : sw_G} (hG : sw_lay G)   {Q : Int32 → sw_I → sw_J → Prop} {x1 : Int32} {I : sw_I} {J : sw_J} (h : wp_X10_lawFor x1 I J Q) : Met l yX10_lawFor (Cond.code yX10_lawFor cX10_lawFor 5 (some .int) :: sw_T) rm_X10_lawFor (sw_Pc D cy sz [.ref (sz + 131), .int x1] G I J) (sw_Q D cy sz (sw_qi G Q)) 0 0 (fun q => sz ≤ q) :=
  sw_met (by decide) (fun q => by cases q) (Nat.le_of_ble_eq_true rfl) rfl (t_X10_lawFor hG  h)
-- X10_leastStop
abbrev rm_X10_leastStop : Room := { frames := 3, cells := 0, slots := 0, locals := 67 }
def wB_X10_leastStop_90  (K6 : Int32 → Int32 → Int32 → sw_I → sw_J → Prop) (Q : Int32 → sw_I → sw_J → Prop) (x1 : Int32) (x2 : Int32) (x3 : Int32) (I : sw_I) (J : sw_J) : Prop :=
  ∀ y_1 : Int32, y_1 = x3 + 1 → K6 x1 x2 y_1 I J
def wB_X10_leastStop_85  (K6 : Int32 → Int32 → Int32 → sw_I → sw_J → Prop) (Q : Int32 → sw_I → sw_J → Prop) (x3 : Int32) (x4 : Int32) (I : sw_I) (J : sw_J) : Prop :=
  wB_X10_leastStop_90  K6 Q x3 x4 x3 I J
def wB_X10_leastStop_68  (K6 : Int32 → Int32 → Int32 → sw_I → sw_J → Prop) (Q : Int32 → sw_I → sw_J → Prop) (x1 : Int32) (x2 : Int32) (x3 : Int32) (x4 : Int32) (s0 : Int32) (I : sw_I) (J : sw_J) : Prop :=
  sw_if (x1 < 0) (wB_X10_leastStop_85  K6 Q x3 x4 I J) (sw_if (x4 < x2) (wB_X10_leastStop_85  K6 Q x3 x4 I J) (sw_if (s0 = 0) (wB_X10_leastStop_90  K6 Q x1 x2 x3 I J) (wB_X10_leastStop_85  K6 Q x3 x4 I J)))
def wB_X10_leastStop_67  (K6 : Int32 → Int32 → Int32 → sw_I → sw_J → Prop) (Q : Int32 → sw_I → sw_J → Prop) (x1 : Int32) (x2 : Int32) (x3 : Int32) (x4 : Int32) (I : sw_I) (J : sw_J) : Prop :=
  wB_X10_leastStop_68  K6 Q x1 x2 x3 x4 0 I J
def wb_X10_leastStop_6  (K6 : Int32 → Int32 → Int32 → sw_I → sw_J → Prop) (Q : Int32 → sw_I → sw_J → Prop) (x1 : Int32) (x2 : Int32) (x3 : Int32) (I : sw_I) (J : sw_J) : Prop :=
  sw_if (x3 < (I 131 3)) (sw_if (x3 = (I 131 29)) (wB_X10_leastStop_90  K6 Q x1 x2 x3 I J) (wp_X10_lawFor x3 I J (fun r_3 I_4 J_5 => sw_if (x1 < 0) (wB_X10_leastStop_67  K6 Q x1 x2 x3 r_3 I_4 J_5) (sw_if (r_3 = x2) (sw_if ((if 0 ≤ (x3 - (I_4 131 29)) then (x3 - (I_4 131 29)) else 0 - (x3 - (I_4 131 29))) < (if 0 ≤ (x1 - (I_4 131 29)) then (x1 - (I_4 131 29)) else 0 - (x1 - (I_4 131 29)))) (wB_X10_leastStop_68  K6 Q x1 x2 x3 r_3 1 I_4 J_5) (wB_X10_leastStop_67  K6 Q x1 x2 x3 r_3 I_4 J_5)) (wB_X10_leastStop_67  K6 Q x1 x2 x3 r_3 I_4 J_5))))) (Q x1 I J)
def wl_X10_leastStop_6   (Q : Int32 → sw_I → sw_J → Prop) : Nat → Int32 → Int32 → Int32 → sw_I → sw_J → Prop
  | 0 => fun _ _ _ _ _ => False
  | n + 1 => fun x1 x2 x3 I J => wb_X10_leastStop_6  (wl_X10_leastStop_6   Q n) Q x1 x2 x3 I J
def wp_X10_leastStop  (I : sw_I) (J : sw_J) (Q : Int32 → sw_I → sw_J → Prop) : Prop :=
  ∃ n_1 : Nat, wl_X10_leastStop_6   Q n_1 (-1) 0 0 I J
set_option maxRecDepth 20000 in
theorem t_X10_leastStop_90 {l : Launch} {D : va_G} {cy : Nat → ClassId} {sz : Nat} {G : sw_G} (hG : sw_lay G)   {Q : Int32 → sw_I → sw_J → Prop} {K6 : Int32 → Int32 → Int32 → sw_I → sw_J → Prop} (hK6 : ∀ (x1 : Int32) (x2 : Int32) (x3 : Int32) (I : sw_I) (J : sw_J), K6 x1 x2 x3 I J → AW l D cy sz RX10 cX10_leastStop 6 (some .int) false rm_X10_leastStop 0 0 (sw_qi G Q) 0 0 G I J 6 [(0, .ref (sz + 131)), (1, .int x1), (2, .int x2), (3, .int x3)] []) {x1 : Int32} {x2 : Int32} {x3 : Int32} {I : sw_I} {J : sw_J} (h : wB_X10_leastStop_90  K6 Q x1 x2 x3 I J) : AW l D cy sz RX10 cX10_leastStop 6 (some .int) false rm_X10_leastStop 0 0 (sw_qi G Q) 0 0 G I J 90 [(0, .ref (sz + 131)), (1, .int x1), (2, .int x2), (3, .int x3)] [] := by
  unfold wB_X10_leastStop_90 at h
  obtain ⟨y_1, e_2⟩ : ∃ q : Int32, q = x3 + 1 := ⟨_, rfl⟩
  have h := h y_1 e_2
  refine aw_iinc (lv' := [(3, .int y_1), (0, .ref (sz + 131)), (1, .int x1), (2, .int x2)]) 3 dX10_leastStop_90 rfl (by rw [e_2]; rfl) (by decide) rfl ?_
  refine aw_goto 6 dX10_leastStop_93 (by decide) ?_
  refine aw_sub [1, 2, 3, 0] rfl ?_
  exact hK6 x1 x2 y_1 I J h
set_option maxRecDepth 20000 in
theorem t_X10_leastStop_85 {l : Launch} {D : va_G} {cy : Nat → ClassId} {sz : Nat} {G : sw_G} (hG : sw_lay G)   {Q : Int32 → sw_I → sw_J → Prop} {K6 : Int32 → Int32 → Int32 → sw_I → sw_J → Prop} (hK6 : ∀ (x1 : Int32) (x2 : Int32) (x3 : Int32) (I : sw_I) (J : sw_J), K6 x1 x2 x3 I J → AW l D cy sz RX10 cX10_leastStop 6 (some .int) false rm_X10_leastStop 0 0 (sw_qi G Q) 0 0 G I J 6 [(0, .ref (sz + 131)), (1, .int x1), (2, .int x2), (3, .int x3)] []) {x3 : Int32} {x4 : Int32} {I : sw_I} {J : sw_J} (h : wB_X10_leastStop_85  K6 Q x3 x4 I J) : AW l D cy sz RX10 cX10_leastStop 6 (some .int) false rm_X10_leastStop 0 0 (sw_qi G Q) 0 0 G I J 85 [(0, .ref (sz + 131)), (3, .int x3), (4, .int x4)] [] := by
  unfold wB_X10_leastStop_85 at h
  refine aw_iload_n 1 dX10_leastStop_85 rfl rfl ?_
  refine aw_istore_n (lv' := [(1, .int x3), (0, .ref (sz + 131)), (3, .int x3), (4, .int x4)]) dX10_leastStop_86 rfl (by decide) rfl ?_
  refine aw_iload 3 dX10_leastStop_87 rfl ?_
  refine aw_istore_n (lv' := [(2, .int x4), (1, .int x3), (0, .ref (sz + 131)), (3, .int x3), (4, .int x4)]) dX10_leastStop_89 rfl (by decide) rfl ?_
  refine aw_sub [2, 1, 0, 3] rfl ?_
  exact t_X10_leastStop_90 hG  hK6 h
set_option maxRecDepth 20000 in
theorem t_X10_leastStop_68 {l : Launch} {D : va_G} {cy : Nat → ClassId} {sz : Nat} {G : sw_G} (hG : sw_lay G)   {Q : Int32 → sw_I → sw_J → Prop} {K6 : Int32 → Int32 → Int32 → sw_I → sw_J → Prop} (hK6 : ∀ (x1 : Int32) (x2 : Int32) (x3 : Int32) (I : sw_I) (J : sw_J), K6 x1 x2 x3 I J → AW l D cy sz RX10 cX10_leastStop 6 (some .int) false rm_X10_leastStop 0 0 (sw_qi G Q) 0 0 G I J 6 [(0, .ref (sz + 131)), (1, .int x1), (2, .int x2), (3, .int x3)] []) {x1 : Int32} {x2 : Int32} {x3 : Int32} {x4 : Int32} {s0 : Int32} {I : sw_I} {J : sw_J} (h : wB_X10_leastStop_68  K6 Q x1 x2 x3 x4 s0 I J) : AW l D cy sz RX10 cX10_leastStop 6 (some .int) false rm_X10_leastStop 0 0 (sw_qi G Q) 0 0 G I J 68 [(0, .ref (sz + 131)), (1, .int x1), (2, .int x2), (3, .int x3), (4, .int x4)] [.int s0] := by
  unfold wB_X10_leastStop_68 at h
  refine aw_istore (lv' := [(5, .int s0), (0, .ref (sz + 131)), (1, .int x1), (2, .int x2), (3, .int x3), (4, .int x4)]) dX10_leastStop_68 (by decide) rfl ?_
  refine aw_iload_n 2 dX10_leastStop_70 rfl rfl ?_
  refine aw_zlt 85 dX10_leastStop_71 (by decide) (fun c_1 => ?_) (fun c_1 => ?_)
  · have h := sw_if.t h c_1
    refine aw_sub [1, 4, 5] rfl ?_
    exact t_X10_leastStop_85 hG  hK6 h
  · have h := sw_if.f h c_1
    refine aw_iload 5 dX10_leastStop_74 rfl ?_
    refine aw_iload_n 3 dX10_leastStop_76 rfl rfl ?_
    refine aw_jlt 85 dX10_leastStop_77 (by decide) (fun c_2 => ?_) (fun c_2 => ?_)
    · have h := sw_if.t h c_2
      refine aw_sub [1, 4, 5] rfl ?_
      exact t_X10_leastStop_85 hG  hK6 h
    · have h := sw_if.f h c_2
      refine aw_iload 0 dX10_leastStop_80 rfl ?_
      refine aw_zeq 90 dX10_leastStop_82 (by decide) (fun c_3 => ?_) (fun c_3 => ?_)
      · have h := sw_if.t h c_3
        refine aw_sub [1, 2, 3, 4] rfl ?_
        exact t_X10_leastStop_90 hG  hK6 h
      · have h := sw_if.f h c_3
        refine aw_sub [1, 4, 5] rfl ?_
        exact t_X10_leastStop_85 hG  hK6 h
set_option maxRecDepth 20000 in
theorem t_X10_leastStop_67 {l : Launch} {D : va_G} {cy : Nat → ClassId} {sz : Nat} {G : sw_G} (hG : sw_lay G)   {Q : Int32 → sw_I → sw_J → Prop} {K6 : Int32 → Int32 → Int32 → sw_I → sw_J → Prop} (hK6 : ∀ (x1 : Int32) (x2 : Int32) (x3 : Int32) (I : sw_I) (J : sw_J), K6 x1 x2 x3 I J → AW l D cy sz RX10 cX10_leastStop 6 (some .int) false rm_X10_leastStop 0 0 (sw_qi G Q) 0 0 G I J 6 [(0, .ref (sz + 131)), (1, .int x1), (2, .int x2), (3, .int x3)] []) {x1 : Int32} {x2 : Int32} {x3 : Int32} {x4 : Int32} {I : sw_I} {J : sw_J} (h : wB_X10_leastStop_67  K6 Q x1 x2 x3 x4 I J) : AW l D cy sz RX10 cX10_leastStop 6 (some .int) false rm_X10_leastStop 0 0 (sw_qi G Q) 0 0 G I J 67 [(0, .ref (sz + 131)), (1, .int x1), (2, .int x2), (3, .int x3), (4, .int x4)] [] := by
  unfold wB_X10_leastStop_67 at h
  refine aw_iconst (v := 0) dX10_leastStop_67 (by decide) ?_
  refine aw_sub [0, 1, 2, 3, 4] rfl ?_
  exact t_X10_leastStop_68 hG  hK6 h
set_option maxRecDepth 20000 in
theorem tb_X10_leastStop_6 {l : Launch} {D : va_G} {cy : Nat → ClassId} {sz : Nat} {G : sw_G} (hG : sw_lay G)   {Q : Int32 → sw_I → sw_J → Prop} {K6 : Int32 → Int32 → Int32 → sw_I → sw_J → Prop} (hK6 : ∀ (x1 : Int32) (x2 : Int32) (x3 : Int32) (I : sw_I) (J : sw_J), K6 x1 x2 x3 I J → AW l D cy sz RX10 cX10_leastStop 6 (some .int) false rm_X10_leastStop 0 0 (sw_qi G Q) 0 0 G I J 6 [(0, .ref (sz + 131)), (1, .int x1), (2, .int x2), (3, .int x3)] []) {x1 : Int32} {x2 : Int32} {x3 : Int32} {I : sw_I} {J : sw_J} (h : wb_X10_leastStop_6  K6 Q x1 x2 x3 I J) : AW l D cy sz RX10 cX10_leastStop 6 (some .int) false rm_X10_leastStop 0 0 (sw_qi G Q) 0 0 G I J 6 [(0, .ref (sz + 131)), (1, .int x1), (2, .int x2), (3, .int x3)] [] := by
  unfold wb_X10_leastStop_6 at h
  refine aw_iload_n 3 dX10_leastStop_6 rfl rfl ?_
  refine aw_aload_n 0 dX10_leastStop_7 rfl rfl ?_
  refine gf_X10_3 fl_X10_22 (lk131 hG) dX10_leastStop_8 ?_
  refine aw_jge 96 dX10_leastStop_11 (by decide) (fun c_1 => ?_) (fun c_1 => ?_)
  · have h := sw_if.f h c_1
    refine aw_iload_n 1 dX10_leastStop_96 rfl rfl ?_
    exact aw_iret rfl dX10_leastStop_97 ⟨rfl, _, rfl, h⟩
  · have h := sw_if.t h c_1
    refine aw_iload_n 3 dX10_leastStop_14 rfl rfl ?_
    refine aw_aload_n 0 dX10_leastStop_15 rfl rfl ?_
    refine gf_X10_29 fl_X10_183 (lk131 hG) dX10_leastStop_16 ?_
    refine aw_jne 25 dX10_leastStop_19 (by decide) (fun c_2 => ?_) (fun c_2 => ?_)
    · have h := sw_if.f h c_2
      refine aw_aload_n 0 dX10_leastStop_25 rfl rfl ?_
      refine aw_iload_n 3 dX10_leastStop_26 rfl rfl ?_
      refine aw_callV wv_X10_lawFor (M_X10_lawFor hG  h) ml_X10_212 rfl (by decide) (lk131 hG) rfl rfl (Nat.le_of_ble_eq_true rfl) ⟨rfl, rfl⟩ ⟨Nat.le_of_ble_eq_true rfl, Nat.le_of_ble_eq_true rfl⟩ ⟨Nat.le_refl _, Nat.le_refl _⟩ dX10_leastStop_27 (aw_ki fun r_3 I_4 J_5 h => ?_)
      refine aw_istore (lv' := [(4, .int r_3), (0, .ref (sz + 131)), (1, .int x1), (2, .int x2), (3, .int x3)]) dX10_leastStop_30 (by decide) rfl ?_
      refine aw_iload_n 2 dX10_leastStop_32 rfl rfl ?_
      refine aw_zlt 67 dX10_leastStop_33 (by decide) (fun c_6 => ?_) (fun c_6 => ?_)
      · have h := sw_if.t h c_6
        refine aw_sub [1, 2, 3, 4, 0] rfl ?_
        exact t_X10_leastStop_67 hG  hK6 h
      · have h := sw_if.f h c_6
        refine aw_iload 0 dX10_leastStop_36 rfl ?_
        refine aw_iload_n 3 dX10_leastStop_38 rfl rfl ?_
        refine aw_jne 67 dX10_leastStop_39 (by decide) (fun c_7 => ?_) (fun c_7 => ?_)
        · have h := sw_if.f h c_7
          refine aw_sub [1, 2, 3, 4, 0] rfl ?_
          exact t_X10_leastStop_67 hG  hK6 h
        · have h := sw_if.t h c_7
          refine aw_iload_n 4 dX10_leastStop_42 rfl rfl ?_
          refine aw_aload_n 1 dX10_leastStop_43 rfl rfl ?_
          refine gf_X10_29 fl_X10_183 (lk131 hG) dX10_leastStop_44 ?_
          refine aw_isub dX10_leastStop_47 ?_
          refine aw_mabs mm_X10_199 wm_abs (Nat.le_of_ble_eq_true rfl) (Nat.le_of_ble_eq_true rfl) ⟨Nat.le_refl _, Nat.le_refl _⟩ dX10_leastStop_48 ?_
          refine aw_iload_n 2 dX10_leastStop_51 rfl rfl ?_
          refine aw_aload_n 1 dX10_leastStop_52 rfl rfl ?_
          refine gf_X10_29 fl_X10_183 (lk131 hG) dX10_leastStop_53 ?_
          refine aw_isub dX10_leastStop_56 ?_
          refine aw_mabs mm_X10_199 wm_abs (Nat.le_of_ble_eq_true rfl) (Nat.le_of_ble_eq_true rfl) ⟨Nat.le_refl _, Nat.le_refl _⟩ dX10_leastStop_57 ?_
          refine aw_jge 67 dX10_leastStop_60 (by decide) (fun c_8 => ?_) (fun c_8 => ?_)
          · have h := sw_if.f h c_8
            refine aw_sub [1, 2, 3, 4, 0] rfl ?_
            exact t_X10_leastStop_67 hG  hK6 h
          · have h := sw_if.t h c_8
            refine aw_iconst (v := 1) dX10_leastStop_63 (by decide) ?_
            refine aw_goto 68 dX10_leastStop_64 (by decide) ?_
            refine aw_sub [1, 2, 3, 4, 0] rfl ?_
            exact t_X10_leastStop_68 hG  hK6 h
    · have h := sw_if.t h c_2
      refine aw_goto 90 dX10_leastStop_22 (by decide) ?_
      refine aw_sub [0, 1, 2, 3] rfl ?_
      exact t_X10_leastStop_90 hG  hK6 h
set_option maxRecDepth 20000 in
theorem tl_X10_leastStop_6 {l : Launch} {D : va_G} {cy : Nat → ClassId} {sz : Nat} {G : sw_G} (hG : sw_lay G)   {Q : Int32 → sw_I → sw_J → Prop} : ∀ (n : Nat) (x1 : Int32) (x2 : Int32) (x3 : Int32) (I : sw_I) (J : sw_J), wl_X10_leastStop_6   Q n x1 x2 x3 I J → AW l D cy sz RX10 cX10_leastStop 6 (some .int) false rm_X10_leastStop 0 0 (sw_qi G Q) 0 0 G I J 6 [(0, .ref (sz + 131)), (1, .int x1), (2, .int x2), (3, .int x3)] [] := by
  intro n
  induction n with
  | zero => intro x1 x2 x3 I J h; exact False.elim h
  | succ n ih => intro x1 x2 x3 I J h; exact tb_X10_leastStop_6 hG  ih h
set_option maxRecDepth 20000 in
theorem t_X10_leastStop {l : Launch} {D : va_G} {cy : Nat → ClassId} {sz : Nat} {G : sw_G} (hG : sw_lay G)   {Q : Int32 → sw_I → sw_J → Prop}  {I : sw_I} {J : sw_J} (h : wp_X10_leastStop  I J Q) : AW l D cy sz RX10 cX10_leastStop 6 (some .int) false rm_X10_leastStop 0 0 (sw_qi G Q) 0 0 G I J 0 [(0, .ref (sz + 131))] [] := by
  unfold wp_X10_leastStop at h
  refine aw_iconst (v := (-1)) dX10_leastStop_0 (by decide) ?_
  refine aw_istore_n (lv' := [(1, .int (-1)), (0, .ref (sz + 131))]) dX10_leastStop_1 rfl (by decide) rfl ?_
  refine aw_iconst (v := 0) dX10_leastStop_2 (by decide) ?_
  refine aw_istore_n (lv' := [(2, .int 0), (1, .int (-1)), (0, .ref (sz + 131))]) dX10_leastStop_3 rfl (by decide) rfl ?_
  refine aw_iconst (v := 0) dX10_leastStop_4 (by decide) ?_
  refine aw_istore_n (lv' := [(3, .int 0), (2, .int 0), (1, .int (-1)), (0, .ref (sz + 131))]) dX10_leastStop_5 rfl (by decide) rfl ?_
  refine aw_sub [3, 2, 1, 0] rfl ?_
  obtain ⟨n_1, h⟩ := h
  exact tl_X10_leastStop_6 hG   n_1 (-1) 0 0 I J h
theorem M_X10_leastStop {l : Launch} {D : va_G} {cy : Nat → ClassId} {sz : Nat} {G : sw_G} (hG : sw_lay G)   {Q : Int32 → sw_I → sw_J → Prop}  {I : sw_I} {J : sw_J} (h : wp_X10_leastStop  I J Q) : Met l yX10_leastStop (Cond.code yX10_leastStop cX10_leastStop 6 (some .int) :: sw_T) rm_X10_leastStop (sw_Pc D cy sz [.ref (sz + 131)] G I J) (sw_Q D cy sz (sw_qi G Q)) 0 0 (fun q => sz ≤ q) :=
  sw_met (by decide) (fun q => by cases q) (Nat.le_of_ble_eq_true rfl) rfl (t_X10_leastStop hG  h)
-- X10_there
abbrev rm_X10_there : Room := { frames := 0, cells := 0, slots := 0, locals := 0 }
def wB_X10_there_30 (b1 : Nat) (n1 : Nat) (K4 : Int32 → Int32 → sw_I → sw_J → Prop) (Q : Int32 → sw_I → sw_J → Prop) (x3 : Int32) (s0 : Int32) (s1 : Int32) (I : sw_I) (J : sw_J) : Prop :=
  ∀ y_1 : Int32, y_1 = s0 ||| s1 → ∀ y_3 : Int32, y_3 = x3 + 1 → K4 y_1 y_3 I J
def wb_X10_there_4 (b1 : Nat) (n1 : Nat) (K4 : Int32 → Int32 → sw_I → sw_J → Prop) (Q : Int32 → sw_I → sw_J → Prop) (x2 : Int32) (x3 : Int32) (I : sw_I) (J : sw_J) : Prop :=
  sw_if (x3 < (I 131 4)) (vp_in x3 n1 ∧ vp_in (31 : Int32) n1 ∧ sw_if ((I b1 x3.toNatClampNeg) = (I b1 (31 : Int32).toNatClampNeg)) (wB_X10_there_30 b1 n1 K4 Q x3 x2 ((1 : Int32) <<< (x3 &&& 31)) I J) (wB_X10_there_30 b1 n1 K4 Q x3 x2 0 I J)) (Q x2 I J)
def wl_X10_there_4 (b1 : Nat) (n1 : Nat)  (Q : Int32 → sw_I → sw_J → Prop) : Nat → Int32 → Int32 → sw_I → sw_J → Prop
  | 0 => fun _ _ _ _ => False
  | n + 1 => fun x2 x3 I J => wb_X10_there_4 b1 n1 (wl_X10_there_4 b1 n1  Q n) Q x2 x3 I J
def wp_X10_there (b1 : Nat) (n1 : Nat) (I : sw_I) (J : sw_J) (Q : Int32 → sw_I → sw_J → Prop) : Prop :=
  ∃ n_1 : Nat, wl_X10_there_4 b1 n1  Q n_1 0 0 I J
set_option maxRecDepth 20000 in
theorem t_X10_there_30 {l : Launch} {D : va_G} {cy : Nat → ClassId} {sz : Nat} {G : sw_G} (hG : sw_lay G) {b1 : Nat} {n1 : Nat} (hb1 : sw_ia G b1 n1) {Q : Int32 → sw_I → sw_J → Prop} {K4 : Int32 → Int32 → sw_I → sw_J → Prop} (hK4 : ∀ (x2 : Int32) (x3 : Int32) (I : sw_I) (J : sw_J), K4 x2 x3 I J → AW l D cy sz RX10 cX10_there 4 (some .int) false rm_X10_there 0 0 (sw_qi G Q) 0 0 G I J 4 [(0, .ref (sz + 131)), (1, .ref (sz + b1)), (2, .int x2), (3, .int x3)] []) {x3 : Int32} {s0 : Int32} {s1 : Int32} {I : sw_I} {J : sw_J} (h : wB_X10_there_30 b1 n1 K4 Q x3 s0 s1 I J) : AW l D cy sz RX10 cX10_there 4 (some .int) false rm_X10_there 0 0 (sw_qi G Q) 0 0 G I J 30 [(0, .ref (sz + 131)), (1, .ref (sz + b1)), (3, .int x3)] [.int s1, .int s0] := by
  unfold wB_X10_there_30 at h
  refine aw_ior dX10_there_30 ?_
  refine aw_topi (fun y_1 e_2 => ?_)
  have h := h y_1 e_2
  refine aw_istore_n (lv' := [(2, .int y_1), (0, .ref (sz + 131)), (1, .ref (sz + b1)), (3, .int x3)]) dX10_there_31 rfl (by decide) rfl ?_
  obtain ⟨y_3, e_4⟩ : ∃ q : Int32, q = x3 + 1 := ⟨_, rfl⟩
  have h := h y_3 e_4
  refine aw_iinc (lv' := [(3, .int y_3), (2, .int y_1), (0, .ref (sz + 131)), (1, .ref (sz + b1))]) 3 dX10_there_32 rfl (by rw [e_4]; rfl) (by decide) rfl ?_
  refine aw_goto 4 dX10_there_35 (by decide) ?_
  refine aw_sub [2, 3, 1, 0] rfl ?_
  exact hK4 y_1 y_3 I J h
set_option maxRecDepth 20000 in
theorem tb_X10_there_4 {l : Launch} {D : va_G} {cy : Nat → ClassId} {sz : Nat} {G : sw_G} (hG : sw_lay G) {b1 : Nat} {n1 : Nat} (hb1 : sw_ia G b1 n1) {Q : Int32 → sw_I → sw_J → Prop} {K4 : Int32 → Int32 → sw_I → sw_J → Prop} (hK4 : ∀ (x2 : Int32) (x3 : Int32) (I : sw_I) (J : sw_J), K4 x2 x3 I J → AW l D cy sz RX10 cX10_there 4 (some .int) false rm_X10_there 0 0 (sw_qi G Q) 0 0 G I J 4 [(0, .ref (sz + 131)), (1, .ref (sz + b1)), (2, .int x2), (3, .int x3)] []) {x2 : Int32} {x3 : Int32} {I : sw_I} {J : sw_J} (h : wb_X10_there_4 b1 n1 K4 Q x2 x3 I J) : AW l D cy sz RX10 cX10_there 4 (some .int) false rm_X10_there 0 0 (sw_qi G Q) 0 0 G I J 4 [(0, .ref (sz + 131)), (1, .ref (sz + b1)), (2, .int x2), (3, .int x3)] [] := by
  unfold wb_X10_there_4 at h
  refine aw_iload_n 3 dX10_there_4 rfl rfl ?_
  refine aw_aload_n 0 dX10_there_5 rfl rfl ?_
  refine gf_X10_4 fl_X10_29 (lk131 hG) dX10_there_6 ?_
  refine aw_jge 38 dX10_there_9 (by decide) (fun c_1 => ?_) (fun c_1 => ?_)
  · have h := sw_if.f h c_1
    refine aw_iload_n 2 dX10_there_38 rfl rfl ?_
    exact aw_iret rfl dX10_there_39 ⟨rfl, _, rfl, h⟩
  · have h := sw_if.t h c_1
    refine aw_iload_n 2 dX10_there_12 rfl rfl ?_
    refine aw_aload_n 1 dX10_there_13 rfl rfl ?_
    refine aw_iload_n 3 dX10_there_14 rfl rfl ?_
    obtain ⟨hi_2, h⟩ := h
    refine aw_ild dX10_there_15 hb1.1 hb1.2 hi_2 ?_
    refine aw_aload_n 1 dX10_there_16 rfl rfl ?_
    refine aw_bipush (v := 31) dX10_there_17 (by decide) ?_
    obtain ⟨hi_3, h⟩ := h
    refine aw_ild dX10_there_19 hb1.1 hb1.2 hi_3 ?_
    refine aw_jne 29 dX10_there_20 (by decide) (fun c_4 => ?_) (fun c_4 => ?_)
    · have h := sw_if.f h c_4
      refine aw_iconst (v := 0) dX10_there_29 (by decide) ?_
      refine aw_sub [0, 1, 3] rfl ?_
      exact t_X10_there_30 hG hb1 hK4 h
    · have h := sw_if.t h c_4
      refine aw_iconst (v := 1) dX10_there_23 (by decide) ?_
      refine aw_iload_n 3 dX10_there_24 rfl rfl ?_
      refine aw_ishl dX10_there_25 ?_
      refine aw_goto 30 dX10_there_26 (by decide) ?_
      refine aw_sub [0, 1, 3] rfl ?_
      exact t_X10_there_30 hG hb1 hK4 h
set_option maxRecDepth 20000 in
theorem tl_X10_there_4 {l : Launch} {D : va_G} {cy : Nat → ClassId} {sz : Nat} {G : sw_G} (hG : sw_lay G) {b1 : Nat} {n1 : Nat} (hb1 : sw_ia G b1 n1) {Q : Int32 → sw_I → sw_J → Prop} : ∀ (n : Nat) (x2 : Int32) (x3 : Int32) (I : sw_I) (J : sw_J), wl_X10_there_4 b1 n1  Q n x2 x3 I J → AW l D cy sz RX10 cX10_there 4 (some .int) false rm_X10_there 0 0 (sw_qi G Q) 0 0 G I J 4 [(0, .ref (sz + 131)), (1, .ref (sz + b1)), (2, .int x2), (3, .int x3)] [] := by
  intro n
  induction n with
  | zero => intro x2 x3 I J h; exact False.elim h
  | succ n ih => intro x2 x3 I J h; exact tb_X10_there_4 hG hb1 ih h
set_option maxRecDepth 20000 in
theorem t_X10_there {l : Launch} {D : va_G} {cy : Nat → ClassId} {sz : Nat} {G : sw_G} (hG : sw_lay G) {b1 : Nat} {n1 : Nat} (hb1 : sw_ia G b1 n1) {Q : Int32 → sw_I → sw_J → Prop}  {I : sw_I} {J : sw_J} (h : wp_X10_there b1 n1 I J Q) : AW l D cy sz RX10 cX10_there 4 (some .int) false rm_X10_there 0 0 (sw_qi G Q) 0 0 G I J 0 [(0, .ref (sz + 131)), (1, .ref (sz + b1))] [] := by
  unfold wp_X10_there at h
  refine aw_iconst (v := 0) dX10_there_0 (by decide) ?_
  refine aw_istore_n (lv' := [(2, .int 0), (0, .ref (sz + 131)), (1, .ref (sz + b1))]) dX10_there_1 rfl (by decide) rfl ?_
  refine aw_iconst (v := 0) dX10_there_2 (by decide) ?_
  refine aw_istore_n (lv' := [(3, .int 0), (2, .int 0), (0, .ref (sz + 131)), (1, .ref (sz + b1))]) dX10_there_3 rfl (by decide) rfl ?_
  refine aw_sub [2, 3, 1, 0] rfl ?_
  obtain ⟨n_1, h⟩ := h
  exact tl_X10_there_4 hG hb1  n_1 0 0 I J h
theorem M_X10_there {l : Launch} {D : va_G} {cy : Nat → ClassId} {sz : Nat} {G : sw_G} (hG : sw_lay G) {b1 : Nat} {n1 : Nat} (hb1 : sw_ia G b1 n1) {Q : Int32 → sw_I → sw_J → Prop}  {I : sw_I} {J : sw_J} (h : wp_X10_there b1 n1 I J Q) : Met l yX10_there (Cond.code yX10_there cX10_there 4 (some .int) :: sw_T) rm_X10_there (sw_Pc D cy sz [.ref (sz + 131), .ref (sz + b1)] G I J) (sw_Q D cy sz (sw_qi G Q)) 0 0 (fun q => sz ≤ q) :=
  sw_met (by decide) (fun q => by cases q) (Nat.le_of_ble_eq_true rfl) rfl (t_X10_there hG hb1 h)
-- X10_homeBits
abbrev rm_X10_homeBits : Room := { frames := 0, cells := 0, slots := 0, locals := 0 }
def wB_X10_homeBits_28 (b1 : Nat) (n1 : Nat) (K4 : Int32 → Int32 → sw_I → sw_J → Prop) (Q : Int32 → sw_I → sw_J → Prop) (x3 : Int32) (s0 : Int32) (s1 : Int32) (I : sw_I) (J : sw_J) : Prop :=
  ∀ y_1 : Int32, y_1 = s0 ||| s1 → ∀ y_3 : Int32, y_3 = x3 + 1 → K4 y_1 y_3 I J
def wb_X10_homeBits_4 (b1 : Nat) (n1 : Nat) (K4 : Int32 → Int32 → sw_I → sw_J → Prop) (Q : Int32 → sw_I → sw_J → Prop) (x2 : Int32) (x3 : Int32) (I : sw_I) (J : sw_J) : Prop :=
  sw_if (x3 < (I 131 4)) (vp_in x3 n1 ∧ sw_if ((I b1 x3.toNatClampNeg) = (9 : Int32)) (wB_X10_homeBits_28 b1 n1 K4 Q x3 x2 ((1 : Int32) <<< (x3 &&& 31)) I J) (wB_X10_homeBits_28 b1 n1 K4 Q x3 x2 0 I J)) (Q x2 I J)
def wl_X10_homeBits_4 (b1 : Nat) (n1 : Nat)  (Q : Int32 → sw_I → sw_J → Prop) : Nat → Int32 → Int32 → sw_I → sw_J → Prop
  | 0 => fun _ _ _ _ => False
  | n + 1 => fun x2 x3 I J => wb_X10_homeBits_4 b1 n1 (wl_X10_homeBits_4 b1 n1  Q n) Q x2 x3 I J
def wp_X10_homeBits (b1 : Nat) (n1 : Nat) (I : sw_I) (J : sw_J) (Q : Int32 → sw_I → sw_J → Prop) : Prop :=
  ∃ n_1 : Nat, wl_X10_homeBits_4 b1 n1  Q n_1 0 0 I J
set_option maxRecDepth 20000 in
theorem t_X10_homeBits_28 {l : Launch} {D : va_G} {cy : Nat → ClassId} {sz : Nat} {G : sw_G} (hG : sw_lay G) {b1 : Nat} {n1 : Nat} (hb1 : sw_ia G b1 n1) {Q : Int32 → sw_I → sw_J → Prop} {K4 : Int32 → Int32 → sw_I → sw_J → Prop} (hK4 : ∀ (x2 : Int32) (x3 : Int32) (I : sw_I) (J : sw_J), K4 x2 x3 I J → AW l D cy sz RX10 cX10_homeBits 4 (some .int) false rm_X10_homeBits 0 0 (sw_qi G Q) 0 0 G I J 4 [(0, .ref (sz + 131)), (1, .ref (sz + b1)), (2, .int x2), (3, .int x3)] []) {x3 : Int32} {s0 : Int32} {s1 : Int32} {I : sw_I} {J : sw_J} (h : wB_X10_homeBits_28 b1 n1 K4 Q x3 s0 s1 I J) : AW l D cy sz RX10 cX10_homeBits 4 (some .int) false rm_X10_homeBits 0 0 (sw_qi G Q) 0 0 G I J 28 [(0, .ref (sz + 131)), (1, .ref (sz + b1)), (3, .int x3)] [.int s1, .int s0] := by
  unfold wB_X10_homeBits_28 at h
  refine aw_ior dX10_homeBits_28 ?_
  refine aw_topi (fun y_1 e_2 => ?_)
  have h := h y_1 e_2
  refine aw_istore_n (lv' := [(2, .int y_1), (0, .ref (sz + 131)), (1, .ref (sz + b1)), (3, .int x3)]) dX10_homeBits_29 rfl (by decide) rfl ?_
  obtain ⟨y_3, e_4⟩ : ∃ q : Int32, q = x3 + 1 := ⟨_, rfl⟩
  have h := h y_3 e_4
  refine aw_iinc (lv' := [(3, .int y_3), (2, .int y_1), (0, .ref (sz + 131)), (1, .ref (sz + b1))]) 3 dX10_homeBits_30 rfl (by rw [e_4]; rfl) (by decide) rfl ?_
  refine aw_goto 4 dX10_homeBits_33 (by decide) ?_
  refine aw_sub [2, 3, 1, 0] rfl ?_
  exact hK4 y_1 y_3 I J h
set_option maxRecDepth 20000 in
theorem tb_X10_homeBits_4 {l : Launch} {D : va_G} {cy : Nat → ClassId} {sz : Nat} {G : sw_G} (hG : sw_lay G) {b1 : Nat} {n1 : Nat} (hb1 : sw_ia G b1 n1) {Q : Int32 → sw_I → sw_J → Prop} {K4 : Int32 → Int32 → sw_I → sw_J → Prop} (hK4 : ∀ (x2 : Int32) (x3 : Int32) (I : sw_I) (J : sw_J), K4 x2 x3 I J → AW l D cy sz RX10 cX10_homeBits 4 (some .int) false rm_X10_homeBits 0 0 (sw_qi G Q) 0 0 G I J 4 [(0, .ref (sz + 131)), (1, .ref (sz + b1)), (2, .int x2), (3, .int x3)] []) {x2 : Int32} {x3 : Int32} {I : sw_I} {J : sw_J} (h : wb_X10_homeBits_4 b1 n1 K4 Q x2 x3 I J) : AW l D cy sz RX10 cX10_homeBits 4 (some .int) false rm_X10_homeBits 0 0 (sw_qi G Q) 0 0 G I J 4 [(0, .ref (sz + 131)), (1, .ref (sz + b1)), (2, .int x2), (3, .int x3)] [] := by
  unfold wb_X10_homeBits_4 at h
  refine aw_iload_n 3 dX10_homeBits_4 rfl rfl ?_
  refine aw_aload_n 0 dX10_homeBits_5 rfl rfl ?_
  refine gf_X10_4 fl_X10_29 (lk131 hG) dX10_homeBits_6 ?_
  refine aw_jge 36 dX10_homeBits_9 (by decide) (fun c_1 => ?_) (fun c_1 => ?_)
  · have h := sw_if.f h c_1
    refine aw_iload_n 2 dX10_homeBits_36 rfl rfl ?_
    exact aw_iret rfl dX10_homeBits_37 ⟨rfl, _, rfl, h⟩
  · have h := sw_if.t h c_1
    refine aw_iload_n 2 dX10_homeBits_12 rfl rfl ?_
    refine aw_aload_n 1 dX10_homeBits_13 rfl rfl ?_
    refine aw_iload_n 3 dX10_homeBits_14 rfl rfl ?_
    obtain ⟨hi_2, h⟩ := h
    refine aw_ild dX10_homeBits_15 hb1.1 hb1.2 hi_2 ?_
    refine aw_bipush (v := 9) dX10_homeBits_16 (by decide) ?_
    refine aw_jne 27 dX10_homeBits_18 (by decide) (fun c_3 => ?_) (fun c_3 => ?_)
    · have h := sw_if.f h c_3
      refine aw_iconst (v := 0) dX10_homeBits_27 (by decide) ?_
      refine aw_sub [0, 1, 3] rfl ?_
      exact t_X10_homeBits_28 hG hb1 hK4 h
    · have h := sw_if.t h c_3
      refine aw_iconst (v := 1) dX10_homeBits_21 (by decide) ?_
      refine aw_iload_n 3 dX10_homeBits_22 rfl rfl ?_
      refine aw_ishl dX10_homeBits_23 ?_
      refine aw_goto 28 dX10_homeBits_24 (by decide) ?_
      refine aw_sub [0, 1, 3] rfl ?_
      exact t_X10_homeBits_28 hG hb1 hK4 h
set_option maxRecDepth 20000 in
theorem tl_X10_homeBits_4 {l : Launch} {D : va_G} {cy : Nat → ClassId} {sz : Nat} {G : sw_G} (hG : sw_lay G) {b1 : Nat} {n1 : Nat} (hb1 : sw_ia G b1 n1) {Q : Int32 → sw_I → sw_J → Prop} : ∀ (n : Nat) (x2 : Int32) (x3 : Int32) (I : sw_I) (J : sw_J), wl_X10_homeBits_4 b1 n1  Q n x2 x3 I J → AW l D cy sz RX10 cX10_homeBits 4 (some .int) false rm_X10_homeBits 0 0 (sw_qi G Q) 0 0 G I J 4 [(0, .ref (sz + 131)), (1, .ref (sz + b1)), (2, .int x2), (3, .int x3)] [] := by
  intro n
  induction n with
  | zero => intro x2 x3 I J h; exact False.elim h
  | succ n ih => intro x2 x3 I J h; exact tb_X10_homeBits_4 hG hb1 ih h
set_option maxRecDepth 20000 in
theorem t_X10_homeBits {l : Launch} {D : va_G} {cy : Nat → ClassId} {sz : Nat} {G : sw_G} (hG : sw_lay G) {b1 : Nat} {n1 : Nat} (hb1 : sw_ia G b1 n1) {Q : Int32 → sw_I → sw_J → Prop}  {I : sw_I} {J : sw_J} (h : wp_X10_homeBits b1 n1 I J Q) : AW l D cy sz RX10 cX10_homeBits 4 (some .int) false rm_X10_homeBits 0 0 (sw_qi G Q) 0 0 G I J 0 [(0, .ref (sz + 131)), (1, .ref (sz + b1))] [] := by
  unfold wp_X10_homeBits at h
  refine aw_iconst (v := 0) dX10_homeBits_0 (by decide) ?_
  refine aw_istore_n (lv' := [(2, .int 0), (0, .ref (sz + 131)), (1, .ref (sz + b1))]) dX10_homeBits_1 rfl (by decide) rfl ?_
  refine aw_iconst (v := 0) dX10_homeBits_2 (by decide) ?_
  refine aw_istore_n (lv' := [(3, .int 0), (2, .int 0), (0, .ref (sz + 131)), (1, .ref (sz + b1))]) dX10_homeBits_3 rfl (by decide) rfl ?_
  refine aw_sub [2, 3, 1, 0] rfl ?_
  obtain ⟨n_1, h⟩ := h
  exact tl_X10_homeBits_4 hG hb1  n_1 0 0 I J h
theorem M_X10_homeBits {l : Launch} {D : va_G} {cy : Nat → ClassId} {sz : Nat} {G : sw_G} (hG : sw_lay G) {b1 : Nat} {n1 : Nat} (hb1 : sw_ia G b1 n1) {Q : Int32 → sw_I → sw_J → Prop}  {I : sw_I} {J : sw_J} (h : wp_X10_homeBits b1 n1 I J Q) : Met l yX10_homeBits (Cond.code yX10_homeBits cX10_homeBits 4 (some .int) :: sw_T) rm_X10_homeBits (sw_Pc D cy sz [.ref (sz + 131), .ref (sz + b1)] G I J) (sw_Q D cy sz (sw_qi G Q)) 0 0 (fun q => sz ≤ q) :=
  sw_met (by decide) (fun q => by cases q) (Nat.le_of_ble_eq_true rfl) rfl (t_X10_homeBits hG hb1 h)
-- X10_of
abbrev rm_X10_of : Room := { frames := 2, cells := 0, slots := 0, locals := 46 }
def wB_X10_of_25   (Q : Int32 → sw_I → sw_J → Prop)  (I : sw_I) (J : sw_J) : Prop :=
  wp_X10_refuse  I J (fun r_1 I_2 J_3 => Q r_1 I_2 J_3)
def wp_X10_of (x1 : Int32) (x2 : Int32) (I : sw_I) (J : sw_J) (Q : Int32 → sw_I → sw_J → Prop) : Prop :=
  ∀ I_1 : sw_I, I_1 = sw_up I 131 0 (0 : Int32) → wp_X10_isRider x1 I_1 J (fun r_3 I_4 J_5 => sw_if (r_3 = 0) (wB_X10_of_25   Q  I_4 J_5) (wp_X10_in x2.toInt64 0 5 I_4 J_5 (fun r_7 I_8 J_9 => sw_if (r_7 = 0) (wB_X10_of_25   Q  I_8 J_9) (sw_if (x2 = 0) (vp_in x1 10 ∧ Q (I_8 133 x1.toNatClampNeg) I_8 J_9) (sw_if (x2 = 1) (vp_in ((10 : Int32) + x1) 33 ∧ Q (I_8 135 ((10 : Int32) + x1).toNatClampNeg) I_8 J_9) (sw_if (x2 = 2) (vp_in x1 10 ∧ Q (I_8 134 x1.toNatClampNeg) I_8 J_9) (sw_if (x2 = 3) (vp_in x1 33 ∧ sw_if ((I_8 135 x1.toNatClampNeg) = (9 : Int32)) (Q (-1 : Int32) I_8 J_9) (vp_in x1 33 ∧ Q (I_8 135 x1.toNatClampNeg) I_8 J_9)) (sw_if (x2 = 4) (wp_X10_has (I_8 135 (30 : Int32).toNatClampNeg) x1 I_8 J_9 (fun r_23 I_24 J_25 => wp_X10_flag r_23 I_24 J_25 (fun r_26 I_27 J_28 => Q r_26 I_27 J_28))) (vp_in ((20 : Int32) + x1) 33 ∧ Q (I_8 135 ((20 : Int32) + x1).toNatClampNeg) I_8 J_9)))))))))
set_option maxRecDepth 20000 in
theorem t_X10_of_25 {l : Launch} {D : va_G} {cy : Nat → ClassId} {sz : Nat} {G : sw_G} (hG : sw_lay G)   {Q : Int32 → sw_I → sw_J → Prop}  {I : sw_I} {J : sw_J} (h : wB_X10_of_25   Q  I J) : AW l D cy sz RX10 cX10_of 3 (some .int) false rm_X10_of 0 0 (sw_qi G Q) 0 0 G I J 25 [(0, .ref (sz + 131))] [] := by
  unfold wB_X10_of_25 at h
  refine aw_aload_n 0 dX10_of_25 rfl rfl ?_
  refine aw_callV wv_X10_refuse (M_X10_refuse hG  h) ml_X10_231 rfl (by decide) (lk131 hG) rfl rfl (Nat.le_of_ble_eq_true rfl) ⟨rfl, rfl⟩ ⟨Nat.le_of_ble_eq_true rfl, Nat.le_of_ble_eq_true rfl⟩ ⟨Nat.le_refl _, Nat.le_refl _⟩ dX10_of_26 (aw_ki fun r_1 I_2 J_3 h => ?_)
  exact aw_iret rfl dX10_of_29 ⟨rfl, _, rfl, h⟩
set_option maxRecDepth 20000 in
theorem t_X10_of {l : Launch} {D : va_G} {cy : Nat → ClassId} {sz : Nat} {G : sw_G} (hG : sw_lay G)   {Q : Int32 → sw_I → sw_J → Prop} {x1 : Int32} {x2 : Int32} {I : sw_I} {J : sw_J} (h : wp_X10_of x1 x2 I J Q) : AW l D cy sz RX10 cX10_of 3 (some .int) false rm_X10_of 0 0 (sw_qi G Q) 0 0 G I J 0 [(0, .ref (sz + 131)), (1, .int x1), (2, .int x2)] [] := by
  unfold wp_X10_of at h
  refine aw_aload_n 0 dX10_of_0 rfl rfl ?_
  refine aw_iconst (v := 0) dX10_of_1 (by decide) ?_
  refine pf_X10_0 fl_X10_3 (lk131 hG) dX10_of_2 (aw_nameI fun I_1 e_2 => ?_)
  have h := h I_1 e_2
  refine aw_aload_n 0 dX10_of_5 rfl rfl ?_
  refine aw_iload_n 1 dX10_of_6 rfl rfl ?_
  refine aw_callV wv_X10_isRider (M_X10_isRider hG  h) ml_X10_226 rfl (by decide) (lk131 hG) rfl rfl (Nat.le_of_ble_eq_true rfl) ⟨rfl, rfl⟩ ⟨Nat.le_of_ble_eq_true rfl, Nat.le_of_ble_eq_true rfl⟩ ⟨Nat.le_refl _, Nat.le_refl _⟩ dX10_of_7 (aw_ki fun r_3 I_4 J_5 h => ?_)
  refine aw_zeq 25 dX10_of_10 (by decide) (fun c_6 => ?_) (fun c_6 => ?_)
  · have h := sw_if.t h c_6
    refine aw_sub [0] rfl ?_
    exact t_X10_of_25 hG   h
  · have h := sw_if.f h c_6
    refine aw_iload_n 2 dX10_of_13 rfl rfl ?_
    refine aw_i2l dX10_of_14 ?_
    refine aw_lconst (v := 0) dX10_of_15 (by decide) ?_
    refine aw_ldc2 (v := 5) dX10_of_16 k_X10_229 ?_
    refine aw_callS wv_X10_in (M_X10_in trivial  h) ml_X10_25 rfl rfl (Nat.le_of_ble_eq_true rfl) ⟨rfl, rfl⟩ ⟨Nat.le_of_ble_eq_true rfl, Nat.le_of_ble_eq_true rfl⟩ ⟨Nat.le_refl _, Nat.le_refl _⟩ dX10_of_19 (aw_ki fun r_7 I_8 J_9 h => ?_)
    refine aw_zne 30 dX10_of_22 (by decide) (fun c_10 => ?_) (fun c_10 => ?_)
    · have h := sw_if.f h c_10
      refine aw_iload_n 2 dX10_of_30 rfl rfl ?_
      by_cases c_11 : x2 = 0
      · have h := sw_if.t h c_11; refine aw_tableIn 64 dX10_of_31 (by rw [c_11]; decide) (by rw [c_11]; decide) (by rw [c_11]; rfl) (by decide) ?_
        refine aw_aload_n 0 dX10_of_64 rfl rfl ?_
        refine gf_X10_7 fl_X10_135 (lk131 hG) (lr131_7 hG) dX10_of_65 ?_
        refine aw_iload_n 1 dX10_of_68 rfl rfl ?_
        obtain ⟨hi_12, h⟩ := h
        refine aw_ild dX10_of_69 (lk133 hG) (ln133 hG) hi_12 ?_
        exact aw_iret rfl dX10_of_70 ⟨rfl, _, rfl, h⟩
      · have h := sw_if.f h c_11
        by_cases c_13 : x2 = 1
        · have h := sw_if.t h c_13; refine aw_tableIn 71 dX10_of_31 (by rw [c_13]; decide) (by rw [c_13]; decide) (by rw [c_13]; rfl) (by decide) ?_
          refine aw_aload_n 0 dX10_of_71 rfl rfl ?_
          refine gf_X10_9 fl_X10_79 (lk131 hG) (lr131_9 hG) dX10_of_72 ?_
          refine aw_bipush (v := 10) dX10_of_75 (by decide) ?_
          refine aw_iload_n 1 dX10_of_77 rfl rfl ?_
          refine aw_iadd dX10_of_78 ?_
          obtain ⟨hi_14, h⟩ := h
          refine aw_ild dX10_of_79 (lk135 hG) (ln135 hG) hi_14 ?_
          exact aw_iret rfl dX10_of_80 ⟨rfl, _, rfl, h⟩
        · have h := sw_if.f h c_13
          by_cases c_15 : x2 = 2
          · have h := sw_if.t h c_15; refine aw_tableIn 81 dX10_of_31 (by rw [c_15]; decide) (by rw [c_15]; decide) (by rw [c_15]; rfl) (by decide) ?_
            refine aw_aload_n 0 dX10_of_81 rfl rfl ?_
            refine gf_X10_8 fl_X10_138 (lk131 hG) (lr131_8 hG) dX10_of_82 ?_
            refine aw_iload_n 1 dX10_of_85 rfl rfl ?_
            obtain ⟨hi_16, h⟩ := h
            refine aw_ild dX10_of_86 (lk134 hG) (ln134 hG) hi_16 ?_
            exact aw_iret rfl dX10_of_87 ⟨rfl, _, rfl, h⟩
          · have h := sw_if.f h c_15
            by_cases c_17 : x2 = 3
            · have h := sw_if.t h c_17; refine aw_tableIn 88 dX10_of_31 (by rw [c_17]; decide) (by rw [c_17]; decide) (by rw [c_17]; rfl) (by decide) ?_
              refine aw_aload_n 0 dX10_of_88 rfl rfl ?_
              refine gf_X10_9 fl_X10_79 (lk131 hG) (lr131_9 hG) dX10_of_89 ?_
              refine aw_iload_n 1 dX10_of_92 rfl rfl ?_
              obtain ⟨hi_18, h⟩ := h
              refine aw_ild dX10_of_93 (lk135 hG) (ln135 hG) hi_18 ?_
              refine aw_bipush (v := 9) dX10_of_94 (by decide) ?_
              refine aw_jne 103 dX10_of_96 (by decide) (fun c_19 => ?_) (fun c_19 => ?_)
              · have h := sw_if.f h c_19
                refine aw_aload_n 0 dX10_of_103 rfl rfl ?_
                refine gf_X10_9 fl_X10_79 (lk131 hG) (lr131_9 hG) dX10_of_104 ?_
                refine aw_iload_n 1 dX10_of_107 rfl rfl ?_
                obtain ⟨hi_20, h⟩ := h
                refine aw_ild dX10_of_108 (lk135 hG) (ln135 hG) hi_20 ?_
                exact aw_iret rfl dX10_of_109 ⟨rfl, _, rfl, h⟩
              · have h := sw_if.t h c_19
                refine aw_iconst (v := (-1)) dX10_of_99 (by decide) ?_
                refine aw_goto 109 dX10_of_100 (by decide) ?_
                exact aw_iret rfl dX10_of_109 ⟨rfl, _, rfl, h⟩
            · have h := sw_if.f h c_17
              by_cases c_21 : x2 = 4
              · have h := sw_if.t h c_21; refine aw_tableIn 110 dX10_of_31 (by rw [c_21]; decide) (by rw [c_21]; decide) (by rw [c_21]; rfl) (by decide) ?_
                refine aw_aload_n 0 dX10_of_110 rfl rfl ?_
                refine gf_X10_9 fl_X10_79 (lk131 hG) (lr131_9 hG) dX10_of_111 ?_
                refine aw_bipush (v := 30) dX10_of_114 (by decide) ?_
                refine aw_ild dX10_of_116 (lk135 hG) (ln135 hG) (by unfold vp_in; decide) ?_
                refine aw_iload_n 1 dX10_of_117 rfl rfl ?_
                refine aw_callS wv_X10_has (M_X10_has trivial  h) ml_X10_195 rfl rfl (Nat.le_of_ble_eq_true rfl) ⟨rfl, rfl⟩ ⟨Nat.le_of_ble_eq_true rfl, Nat.le_of_ble_eq_true rfl⟩ ⟨Nat.le_refl _, Nat.le_refl _⟩ dX10_of_118 (aw_ki fun r_23 I_24 J_25 h => ?_)
                refine aw_callS wv_X10_flag (M_X10_flag trivial  h) ml_X10_54 rfl rfl (Nat.le_of_ble_eq_true rfl) ⟨rfl, rfl⟩ ⟨Nat.le_of_ble_eq_true rfl, Nat.le_of_ble_eq_true rfl⟩ ⟨Nat.le_refl _, Nat.le_refl _⟩ dX10_of_121 (aw_ki fun r_26 I_27 J_28 h => ?_)
                exact aw_iret rfl dX10_of_124 ⟨rfl, _, rfl, h⟩
              · have h := sw_if.f h c_21
                refine aw_tableOut 125 dX10_of_31 (by have g0 := sw_ne c_11 (by decide : (0 : Int32).toInt = 0); have g1 := sw_ne c_13 (by decide : (1 : Int32).toInt = 1); have g2 := sw_ne c_15 (by decide : (2 : Int32).toInt = 2); have g3 := sw_ne c_17 (by decide : (3 : Int32).toInt = 3); have g4 := sw_ne c_21 (by decide : (4 : Int32).toInt = 4); omega) (by decide) ?_
                refine aw_aload_n 0 dX10_of_125 rfl rfl ?_
                refine gf_X10_9 fl_X10_79 (lk131 hG) (lr131_9 hG) dX10_of_126 ?_
                refine aw_bipush (v := 20) dX10_of_129 (by decide) ?_
                refine aw_iload_n 1 dX10_of_131 rfl rfl ?_
                refine aw_iadd dX10_of_132 ?_
                obtain ⟨hi_29, h⟩ := h
                refine aw_ild dX10_of_133 (lk135 hG) (ln135 hG) hi_29 ?_
                exact aw_iret rfl dX10_of_134 ⟨rfl, _, rfl, h⟩
    · have h := sw_if.t h c_10
      refine aw_sub [0] rfl ?_
      exact t_X10_of_25 hG   h
theorem M_X10_of {l : Launch} {D : va_G} {cy : Nat → ClassId} {sz : Nat} {G : sw_G} (hG : sw_lay G)   {Q : Int32 → sw_I → sw_J → Prop} {x1 : Int32} {x2 : Int32} {I : sw_I} {J : sw_J} (h : wp_X10_of x1 x2 I J Q) : Met l yX10_of (Cond.code yX10_of cX10_of 3 (some .int) :: sw_T) rm_X10_of (sw_Pc D cy sz [.ref (sz + 131), .int x1, .int x2] G I J) (sw_Q D cy sz (sw_qi G Q)) 0 0 (fun q => sz ≤ q) :=
  sw_met (by decide) (fun q => by cases q) (Nat.le_of_ble_eq_true rfl) rfl (t_X10_of hG  h)
-- X10_set
abbrev rm_X10_set : Room := { frames := 2, cells := 0, slots := 0, locals := 46 }
def wB_X10_set_65   (Q : Int32 → sw_I → sw_J → Prop) (x1 : Int32) (x2 : Int32) (x3 : Int32) (s0 : Int32) (I : sw_I) (J : sw_J) : Prop :=
  wp_X10_isRider x2 I J (fun r_1 I_2 J_3 => sw_if (r_1 = 0) (Q 0 I_2 J_3) (sw_if (s0 = 0) (Q 0 I_2 J_3) (sw_if (x1 = 0) (vp_in x2 10 ∧ ∀ I_15 : sw_I, I_15 = sw_up I_2 133 x2.toNatClampNeg x3 → Q 1 I_15 J_3) (sw_if (x1 = (1 : Int32)) (vp_in ((10 : Int32) + x2) 33 ∧ ∀ I_12 : sw_I, I_12 = sw_up I_2 135 ((10 : Int32) + x2).toNatClampNeg x3 → Q 1 I_12 J_3) (vp_in x2 10 ∧ ∀ I_9 : sw_I, I_9 = sw_up I_2 134 x2.toNatClampNeg x3 → Q 1 I_9 J_3)))))
def wB_X10_set_64   (Q : Int32 → sw_I → sw_J → Prop) (x1 : Int32) (x2 : Int32) (x3 : Int32) (I : sw_I) (J : sw_J) : Prop :=
  wB_X10_set_65   Q x1 x2 x3 0 I J
def wB_X10_set_35   (Q : Int32 → sw_I → sw_J → Prop) (x1 : Int32) (x2 : Int32) (x3 : Int32) (I : sw_I) (J : sw_J) : Prop :=
  wB_X10_set_65   Q x1 x2 x3 1 I J
def wp_X10_set (x1 : Int32) (x2 : Int32) (x3 : Int32) (I : sw_I) (J : sw_J) (Q : Int32 → sw_I → sw_J → Prop) : Prop :=
  ∀ I_1 : sw_I, I_1 = sw_up I 131 0 (0 : Int32) → sw_if (x1 = 0) (wp_X10_isFloor x3 I_1 J (fun r_15 I_16 J_17 => wB_X10_set_65   Q x1 x2 x3 r_15 I_16 J_17)) (sw_if (x1 = (1 : Int32)) (sw_if (x3 = (-1 : Int32)) (wB_X10_set_35   Q x1 x2 x3 I_1 J) (wp_X10_isFloor x3 I_1 J (fun r_11 I_12 J_13 => sw_if (r_11 = 0) (wB_X10_set_65   Q x1 x2 x3 0 I_12 J_13) (wB_X10_set_35   Q x1 x2 x3 I_12 J_13)))) (sw_if (x1 = (2 : Int32)) (wp_X10_in x3.toInt64 0 10 I_1 J (fun r_6 I_7 J_8 => sw_if (r_6 = 0) (wB_X10_set_64   Q x1 x2 x3 I_7 J_8) (wB_X10_set_65   Q x1 x2 x3 1 I_7 J_8))) (wB_X10_set_64   Q x1 x2 x3 I_1 J)))
set_option maxRecDepth 20000 in
theorem t_X10_set_65 {l : Launch} {D : va_G} {cy : Nat → ClassId} {sz : Nat} {G : sw_G} (hG : sw_lay G)   {Q : Int32 → sw_I → sw_J → Prop} {x1 : Int32} {x2 : Int32} {x3 : Int32} {s0 : Int32} {I : sw_I} {J : sw_J} (h : wB_X10_set_65   Q x1 x2 x3 s0 I J) : AW l D cy sz RX10 cX10_set 5 (some .boolean) false rm_X10_set 0 0 (sw_qi G Q) 0 0 G I J 65 [(0, .ref (sz + 131)), (1, .int x1), (2, .int x2), (3, .int x3)] [.int s0] := by
  unfold wB_X10_set_65 at h
  refine aw_istore (lv' := [(4, .int s0), (0, .ref (sz + 131)), (1, .int x1), (2, .int x2), (3, .int x3)]) dX10_set_65 (by decide) rfl ?_
  refine aw_aload_n 1 dX10_set_67 rfl rfl ?_
  refine aw_iload_n 3 dX10_set_68 rfl rfl ?_
  refine aw_callV wv_X10_isRider (M_X10_isRider hG  h) ml_X10_226 rfl (by decide) (lk131 hG) rfl rfl (Nat.le_of_ble_eq_true rfl) ⟨rfl, rfl⟩ ⟨Nat.le_of_ble_eq_true rfl, Nat.le_of_ble_eq_true rfl⟩ ⟨Nat.le_refl _, Nat.le_refl _⟩ dX10_set_69 (aw_ki fun r_1 I_2 J_3 h => ?_)
  refine aw_zeq 80 dX10_set_72 (by decide) (fun c_4 => ?_) (fun c_4 => ?_)
  · have h := sw_if.t h c_4
    refine aw_iconst (v := 0) dX10_set_80 (by decide) ?_
    exact aw_zret rfl rfl dX10_set_81 ⟨rfl, _, rfl, h⟩
  · have h := sw_if.f h c_4
    refine aw_iload 0 dX10_set_75 rfl ?_
    refine aw_zne 82 dX10_set_77 (by decide) (fun c_5 => ?_) (fun c_5 => ?_)
    · have h := sw_if.f h c_5
      refine aw_iload_n 2 dX10_set_82 rfl rfl ?_
      refine aw_zne 96 dX10_set_83 (by decide) (fun c_6 => ?_) (fun c_6 => ?_)
      · have h := sw_if.f h c_6
        refine aw_iload_n 2 dX10_set_96 rfl rfl ?_
        refine aw_iconst (v := 1) dX10_set_97 (by decide) ?_
        refine aw_jne 114 dX10_set_98 (by decide) (fun c_7 => ?_) (fun c_7 => ?_)
        · have h := sw_if.f h c_7
          refine aw_aload_n 1 dX10_set_114 rfl rfl ?_
          refine gf_X10_8 fl_X10_138 (lk131 hG) (lr131_8 hG) dX10_set_115 ?_
          refine aw_iload_n 3 dX10_set_118 rfl rfl ?_
          refine aw_iload_n 4 dX10_set_119 rfl rfl ?_
          obtain ⟨hi_8, h⟩ := h
          refine aw_ist dX10_set_120 (lk134 hG) (ln134 hG) hi_8 (aw_nameI fun I_9 e_10 => ?_)
          have h := h I_9 e_10
          refine aw_iconst (v := 1) dX10_set_121 (by decide) ?_
          exact aw_zret rfl rfl dX10_set_122 ⟨rfl, _, rfl, h⟩
        · have h := sw_if.t h c_7
          refine aw_aload_n 1 dX10_set_101 rfl rfl ?_
          refine gf_X10_9 fl_X10_79 (lk131 hG) (lr131_9 hG) dX10_set_102 ?_
          refine aw_bipush (v := 10) dX10_set_105 (by decide) ?_
          refine aw_iload_n 3 dX10_set_107 rfl rfl ?_
          refine aw_iadd dX10_set_108 ?_
          refine aw_iload_n 4 dX10_set_109 rfl rfl ?_
          obtain ⟨hi_11, h⟩ := h
          refine aw_ist dX10_set_110 (lk135 hG) (ln135 hG) hi_11 (aw_nameI fun I_12 e_13 => ?_)
          have h := h I_12 e_13
          refine aw_goto 121 dX10_set_111 (by decide) ?_
          refine aw_iconst (v := 1) dX10_set_121 (by decide) ?_
          exact aw_zret rfl rfl dX10_set_122 ⟨rfl, _, rfl, h⟩
      · have h := sw_if.t h c_6
        refine aw_aload_n 1 dX10_set_86 rfl rfl ?_
        refine gf_X10_7 fl_X10_135 (lk131 hG) (lr131_7 hG) dX10_set_87 ?_
        refine aw_iload_n 3 dX10_set_90 rfl rfl ?_
        refine aw_iload_n 4 dX10_set_91 rfl rfl ?_
        obtain ⟨hi_14, h⟩ := h
        refine aw_ist dX10_set_92 (lk133 hG) (ln133 hG) hi_14 (aw_nameI fun I_15 e_16 => ?_)
        have h := h I_15 e_16
        refine aw_goto 121 dX10_set_93 (by decide) ?_
        refine aw_iconst (v := 1) dX10_set_121 (by decide) ?_
        exact aw_zret rfl rfl dX10_set_122 ⟨rfl, _, rfl, h⟩
    · have h := sw_if.t h c_5
      refine aw_iconst (v := 0) dX10_set_80 (by decide) ?_
      exact aw_zret rfl rfl dX10_set_81 ⟨rfl, _, rfl, h⟩
set_option maxRecDepth 20000 in
theorem t_X10_set_64 {l : Launch} {D : va_G} {cy : Nat → ClassId} {sz : Nat} {G : sw_G} (hG : sw_lay G)   {Q : Int32 → sw_I → sw_J → Prop} {x1 : Int32} {x2 : Int32} {x3 : Int32} {I : sw_I} {J : sw_J} (h : wB_X10_set_64   Q x1 x2 x3 I J) : AW l D cy sz RX10 cX10_set 5 (some .boolean) false rm_X10_set 0 0 (sw_qi G Q) 0 0 G I J 64 [(0, .ref (sz + 131)), (1, .int x1), (2, .int x2), (3, .int x3)] [] := by
  unfold wB_X10_set_64 at h
  refine aw_iconst (v := 0) dX10_set_64 (by decide) ?_
  refine aw_sub [0, 1, 2, 3] rfl ?_
  exact t_X10_set_65 hG   h
set_option maxRecDepth 20000 in
theorem t_X10_set_35 {l : Launch} {D : va_G} {cy : Nat → ClassId} {sz : Nat} {G : sw_G} (hG : sw_lay G)   {Q : Int32 → sw_I → sw_J → Prop} {x1 : Int32} {x2 : Int32} {x3 : Int32} {I : sw_I} {J : sw_J} (h : wB_X10_set_35   Q x1 x2 x3 I J) : AW l D cy sz RX10 cX10_set 5 (some .boolean) false rm_X10_set 0 0 (sw_qi G Q) 0 0 G I J 35 [(0, .ref (sz + 131)), (1, .int x1), (2, .int x2), (3, .int x3)] [] := by
  unfold wB_X10_set_35 at h
  refine aw_iconst (v := 1) dX10_set_35 (by decide) ?_
  refine aw_goto 65 dX10_set_36 (by decide) ?_
  refine aw_sub [0, 1, 2, 3] rfl ?_
  exact t_X10_set_65 hG   h
set_option maxRecDepth 20000 in
theorem t_X10_set {l : Launch} {D : va_G} {cy : Nat → ClassId} {sz : Nat} {G : sw_G} (hG : sw_lay G)   {Q : Int32 → sw_I → sw_J → Prop} {x1 : Int32} {x2 : Int32} {x3 : Int32} {I : sw_I} {J : sw_J} (h : wp_X10_set x1 x2 x3 I J Q) : AW l D cy sz RX10 cX10_set 5 (some .boolean) false rm_X10_set 0 0 (sw_qi G Q) 0 0 G I J 0 [(0, .ref (sz + 131)), (1, .int x1), (2, .int x2), (3, .int x3)] [] := by
  unfold wp_X10_set at h
  refine aw_aload_n 0 dX10_set_0 rfl rfl ?_
  refine aw_iconst (v := 0) dX10_set_1 (by decide) ?_
  refine pf_X10_0 fl_X10_3 (lk131 hG) dX10_set_2 (aw_nameI fun I_1 e_2 => ?_)
  have h := h I_1 e_2
  refine aw_iload_n 1 dX10_set_5 rfl rfl ?_
  refine aw_zne 17 dX10_set_6 (by decide) (fun c_3 => ?_) (fun c_3 => ?_)
  · have h := sw_if.f h c_3
    refine aw_iload_n 1 dX10_set_17 rfl rfl ?_
    refine aw_iconst (v := 1) dX10_set_18 (by decide) ?_
    refine aw_jne 43 dX10_set_19 (by decide) (fun c_4 => ?_) (fun c_4 => ?_)
    · have h := sw_if.f h c_4
      refine aw_iload_n 1 dX10_set_43 rfl rfl ?_
      refine aw_iconst (v := 2) dX10_set_44 (by decide) ?_
      refine aw_jne 64 dX10_set_45 (by decide) (fun c_5 => ?_) (fun c_5 => ?_)
      · have h := sw_if.f h c_5
        refine aw_sub [0, 1, 2, 3] rfl ?_
        exact t_X10_set_64 hG   h
      · have h := sw_if.t h c_5
        refine aw_iload_n 3 dX10_set_48 rfl rfl ?_
        refine aw_i2l dX10_set_49 ?_
        refine aw_lconst (v := 0) dX10_set_50 (by decide) ?_
        refine aw_ldc2 (v := 10) dX10_set_51 k_X10_234 ?_
        refine aw_callS wv_X10_in (M_X10_in trivial  h) ml_X10_25 rfl rfl (Nat.le_of_ble_eq_true rfl) ⟨rfl, rfl⟩ ⟨Nat.le_of_ble_eq_true rfl, Nat.le_of_ble_eq_true rfl⟩ ⟨Nat.le_refl _, Nat.le_refl _⟩ dX10_set_54 (aw_ki fun r_6 I_7 J_8 h => ?_)
        refine aw_zeq 64 dX10_set_57 (by decide) (fun c_9 => ?_) (fun c_9 => ?_)
        · have h := sw_if.t h c_9
          refine aw_sub [0, 1, 2, 3] rfl ?_
          exact t_X10_set_64 hG   h
        · have h := sw_if.f h c_9
          refine aw_iconst (v := 1) dX10_set_60 (by decide) ?_
          refine aw_goto 65 dX10_set_61 (by decide) ?_
          refine aw_sub [0, 1, 2, 3] rfl ?_
          exact t_X10_set_65 hG   h
    · have h := sw_if.t h c_4
      refine aw_iload_n 3 dX10_set_22 rfl rfl ?_
      refine aw_iconst (v := (-1)) dX10_set_23 (by decide) ?_
      refine aw_jeq 35 dX10_set_24 (by decide) (fun c_10 => ?_) (fun c_10 => ?_)
      · have h := sw_if.t h c_10
        refine aw_sub [0, 1, 2, 3] rfl ?_
        exact t_X10_set_35 hG   h
      · have h := sw_if.f h c_10
        refine aw_aload_n 0 dX10_set_27 rfl rfl ?_
        refine aw_iload_n 3 dX10_set_28 rfl rfl ?_
        refine aw_callV wv_X10_isFloor (M_X10_isFloor hG  h) ml_X10_95 rfl (by decide) (lk131 hG) rfl rfl (Nat.le_of_ble_eq_true rfl) ⟨rfl, rfl⟩ ⟨Nat.le_of_ble_eq_true rfl, Nat.le_of_ble_eq_true rfl⟩ ⟨Nat.le_refl _, Nat.le_refl _⟩ dX10_set_29 (aw_ki fun r_11 I_12 J_13 h => ?_)
        refine aw_zeq 39 dX10_set_32 (by decide) (fun c_14 => ?_) (fun c_14 => ?_)
        · have h := sw_if.t h c_14
          refine aw_iconst (v := 0) dX10_set_39 (by decide) ?_
          refine aw_goto 65 dX10_set_40 (by decide) ?_
          refine aw_sub [0, 1, 2, 3] rfl ?_
          exact t_X10_set_65 hG   h
        · have h := sw_if.f h c_14
          refine aw_sub [0, 1, 2, 3] rfl ?_
          exact t_X10_set_35 hG   h
  · have h := sw_if.t h c_3
    refine aw_aload_n 0 dX10_set_9 rfl rfl ?_
    refine aw_iload_n 3 dX10_set_10 rfl rfl ?_
    refine aw_callV wv_X10_isFloor (M_X10_isFloor hG  h) ml_X10_95 rfl (by decide) (lk131 hG) rfl rfl (Nat.le_of_ble_eq_true rfl) ⟨rfl, rfl⟩ ⟨Nat.le_of_ble_eq_true rfl, Nat.le_of_ble_eq_true rfl⟩ ⟨Nat.le_refl _, Nat.le_refl _⟩ dX10_set_11 (aw_ki fun r_15 I_16 J_17 h => ?_)
    refine aw_goto 65 dX10_set_14 (by decide) ?_
    refine aw_sub [0, 1, 2, 3] rfl ?_
    exact t_X10_set_65 hG   h
theorem M_X10_set {l : Launch} {D : va_G} {cy : Nat → ClassId} {sz : Nat} {G : sw_G} (hG : sw_lay G)   {Q : Int32 → sw_I → sw_J → Prop} {x1 : Int32} {x2 : Int32} {x3 : Int32} {I : sw_I} {J : sw_J} (h : wp_X10_set x1 x2 x3 I J Q) : Met l yX10_set (Cond.code yX10_set cX10_set 5 (some .boolean) :: sw_T) rm_X10_set (sw_Pc D cy sz [.ref (sz + 131), .int x1, .int x2, .int x3] G I J) (sw_Q D cy sz (sw_qi G Q)) 0 0 (fun q => sz ≤ q) :=
  sw_met (by decide) (fun q => by cases q) (Nat.le_of_ble_eq_true rfl) rfl (t_X10_set hG  h)
-- X10_sheet
abbrev rm_X10_sheet : Room := { frames := 2, cells := 0, slots := 0, locals := 46 }
def wB_X10_sheet_127  (K46 : Int32 → Int32 → Int32 → Int32 → Int32 → Int32 → sw_I → sw_J → Prop) (Q : Int32 → sw_I → sw_J → Prop) (x1 : Int32) (x2 : Int32) (x4 : Int32) (x5 : Int32) (x6 : Int32) (x7 : Int32) (x9 : Int32) (s1 : Int32) (s2 : Int32) (I : sw_I) (J : sw_J) : Prop :=
  vp_in s1 33 ∧ ∀ I_2 : sw_I, I_2 = sw_up I 135 s1.toNatClampNeg s2 → wp_X10_flag x9 I_2 J (fun r_4 I_5 J_6 => ∀ y_7 : Int32, y_7 = x5 + r_4 → ∀ y_9 : Int32, y_9 = x6 + x4 → ∀ y_11 : Int32, y_11 = x7 + 1 → K46 x1 x2 x4 y_7 y_9 y_11 I_5 J_6)
def wB_X10_sheet_105  (K46 : Int32 → Int32 → Int32 → Int32 → Int32 → Int32 → sw_I → sw_J → Prop) (Q : Int32 → sw_I → sw_J → Prop) (x1 : Int32) (x2 : Int32) (x4 : Int32) (x5 : Int32) (x6 : Int32) (x7 : Int32) (x8 : Int32) (s0 : Int32) (I : sw_I) (J : sw_J) : Prop :=
  sw_if (s0 = 0) (wB_X10_sheet_127  K46 Q x1 x2 x4 x5 x6 x7 s0 ((10 : Int32) + x7) (-1) I J) (wB_X10_sheet_127  K46 Q x1 x2 x4 x5 x6 x7 s0 ((10 : Int32) + x7) x8 I J)
def wB_X10_sheet_104  (K46 : Int32 → Int32 → Int32 → Int32 → Int32 → Int32 → sw_I → sw_J → Prop) (Q : Int32 → sw_I → sw_J → Prop) (x1 : Int32) (x2 : Int32) (x4 : Int32) (x5 : Int32) (x6 : Int32) (x7 : Int32) (x8 : Int32) (I : sw_I) (J : sw_J) : Prop :=
  wB_X10_sheet_105  K46 Q x1 x2 x4 x5 x6 x7 x8 0 I J
def wB_X10_sheet_78  (K46 : Int32 → Int32 → Int32 → Int32 → Int32 → Int32 → sw_I → sw_J → Prop) (Q : Int32 → sw_I → sw_J → Prop) (x1 : Int32) (x2 : Int32) (x4 : Int32) (x5 : Int32) (x6 : Int32) (x7 : Int32) (s0 : Int32) (I : sw_I) (J : sw_J) : Prop :=
  sw_if (x1 = (3 : Int32)) (wB_X10_sheet_104  K46 Q x1 x2 x4 x5 x6 x7 s0 I J) (sw_if (x7 < x2) (wp_X10_isFloor s0 I J (fun r_3 I_4 J_5 => sw_if (r_3 = 0) (wB_X10_sheet_104  K46 Q x1 x2 x4 x5 x6 x7 s0 I_4 J_5) (wB_X10_sheet_105  K46 Q x1 x2 x4 x5 x6 x7 s0 1 I_4 J_5))) (wB_X10_sheet_104  K46 Q x1 x2 x4 x5 x6 x7 s0 I J))
def wb_X10_sheet_46  (K46 : Int32 → Int32 → Int32 → Int32 → Int32 → Int32 → sw_I → sw_J → Prop) (Q : Int32 → sw_I → sw_J → Prop) (x1 : Int32) (x2 : Int32) (x4 : Int32) (x5 : Int32) (x6 : Int32) (x7 : Int32) (I : sw_I) (J : sw_J) : Prop :=
  sw_if (x7 < (I 131 4)) (sw_if (x1 = 0) (wB_X10_sheet_78  K46 Q x1 x2 x4 x5 x6 x7 x6.toInt8.toInt32 I J) (sw_if (x1 = (1 : Int32)) (wB_X10_sheet_78  K46 Q x1 x2 x4 x5 x6 x7 x6.toInt16.toInt32 I J) (wB_X10_sheet_78  K46 Q x1 x2 x4 x5 x6 x7 x6 I J))) (sw_if (x1 = (3 : Int32)) (Q (-3 : Int32) I J) (Q x5 I J))
def wl_X10_sheet_46   (Q : Int32 → sw_I → sw_J → Prop) : Nat → Int32 → Int32 → Int32 → Int32 → Int32 → Int32 → sw_I → sw_J → Prop
  | 0 => fun _ _ _ _ _ _ _ _ => False
  | n + 1 => fun x1 x2 x4 x5 x6 x7 I J => wb_X10_sheet_46  (wl_X10_sheet_46   Q n) Q x1 x2 x4 x5 x6 x7 I J
def wB_X10_sheet_37   (Q : Int32 → sw_I → sw_J → Prop) (x1 : Int32) (x2 : Int32) (x3 : Int32) (x4 : Int32) (I : sw_I) (J : sw_J) : Prop :=
  ∃ n_1 : Nat, wl_X10_sheet_46   Q n_1 x1 x2 x4 0 x3 0 I J
def wp_X10_sheet (x1 : Int32) (x2 : Int32) (x3 : Int32) (x4 : Int32) (I : sw_I) (J : sw_J) (Q : Int32 → sw_I → sw_J → Prop) : Prop :=
  ∀ I_1 : sw_I, I_1 = sw_up I 131 0 (0 : Int32) → wp_X10_in x1.toInt64 0 3 I_1 J (fun r_3 I_4 J_5 => sw_if (r_3 = 0) (Q (-1 : Int32) I_4 J_5) (sw_if ((10 : Int32) < x2) (Q (-1 : Int32) I_4 J_5) (sw_if (x1 = (3 : Int32)) (wB_X10_sheet_37   Q x1 x2 x3 x4 I_4 J_5) (sw_if (x2 < 0) (Q (-2 : Int32) I_4 J_5) (wB_X10_sheet_37   Q x1 x2 x3 x4 I_4 J_5)))))
set_option maxRecDepth 20000 in
theorem t_X10_sheet_127 {l : Launch} {D : va_G} {cy : Nat → ClassId} {sz : Nat} {G : sw_G} (hG : sw_lay G)   {Q : Int32 → sw_I → sw_J → Prop} {K46 : Int32 → Int32 → Int32 → Int32 → Int32 → Int32 → sw_I → sw_J → Prop} (hK46 : ∀ (x1 : Int32) (x2 : Int32) (x4 : Int32) (x5 : Int32) (x6 : Int32) (x7 : Int32) (I : sw_I) (J : sw_J), K46 x1 x2 x4 x5 x6 x7 I J → AW l D cy sz RX10 cX10_sheet 10 (some .int) false rm_X10_sheet 0 0 (sw_qi G Q) 0 0 G I J 46 [(0, .ref (sz + 131)), (1, .int x1), (2, .int x2), (4, .int x4), (5, .int x5), (6, .int x6), (7, .int x7)] []) {x1 : Int32} {x2 : Int32} {x4 : Int32} {x5 : Int32} {x6 : Int32} {x7 : Int32} {x9 : Int32} {s1 : Int32} {s2 : Int32} {I : sw_I} {J : sw_J} (h : wB_X10_sheet_127  K46 Q x1 x2 x4 x5 x6 x7 x9 s1 s2 I J) : AW l D cy sz RX10 cX10_sheet 10 (some .int) false rm_X10_sheet 0 0 (sw_qi G Q) 0 0 G I J 127 [(0, .ref (sz + 131)), (1, .int x1), (2, .int x2), (4, .int x4), (5, .int x5), (6, .int x6), (7, .int x7), (9, .int x9)] [.int s2, .int s1, .ref (sz + 135)] := by
  unfold wB_X10_sheet_127 at h
  obtain ⟨hi_1, h⟩ := h
  refine aw_ist dX10_sheet_127 (lk135 hG) (ln135 hG) hi_1 (aw_nameI fun I_2 e_3 => ?_)
  have h := h I_2 e_3
  refine aw_iload 4 dX10_sheet_128 rfl ?_
  refine aw_iload 7 dX10_sheet_130 rfl ?_
  refine aw_callS wv_X10_flag (M_X10_flag trivial  h) ml_X10_54 rfl rfl (Nat.le_of_ble_eq_true rfl) ⟨rfl, rfl⟩ ⟨Nat.le_of_ble_eq_true rfl, Nat.le_of_ble_eq_true rfl⟩ ⟨Nat.le_refl _, Nat.le_refl _⟩ dX10_sheet_132 (aw_ki fun r_4 I_5 J_6 h => ?_)
  refine aw_iadd dX10_sheet_135 ?_
  refine aw_topi (fun y_7 e_8 => ?_)
  have h := h y_7 e_8
  refine aw_istore (lv' := [(5, .int y_7), (0, .ref (sz + 131)), (1, .int x1), (2, .int x2), (4, .int x4), (6, .int x6), (7, .int x7), (9, .int x9)]) dX10_sheet_136 (by decide) rfl ?_
  refine aw_iload 5 dX10_sheet_138 rfl ?_
  refine aw_iload 4 dX10_sheet_140 rfl ?_
  refine aw_iadd dX10_sheet_142 ?_
  refine aw_topi (fun y_9 e_10 => ?_)
  have h := h y_9 e_10
  refine aw_istore (lv' := [(6, .int y_9), (5, .int y_7), (0, .ref (sz + 131)), (1, .int x1), (2, .int x2), (4, .int x4), (7, .int x7), (9, .int x9)]) dX10_sheet_143 (by decide) rfl ?_
  obtain ⟨y_11, e_12⟩ : ∃ q : Int32, q = x7 + 1 := ⟨_, rfl⟩
  have h := h y_11 e_12
  refine aw_iinc (lv' := [(7, .int y_11), (6, .int y_9), (5, .int y_7), (0, .ref (sz + 131)), (1, .int x1), (2, .int x2), (4, .int x4), (9, .int x9)]) 6 dX10_sheet_145 rfl (by rw [e_12]; rfl) (by decide) rfl ?_
  refine aw_goto 46 dX10_sheet_148 (by decide) ?_
  refine aw_sub [3, 4, 5, 6, 2, 1, 0] rfl ?_
  exact hK46 x1 x2 x4 y_7 y_9 y_11 I_5 J_6 h
set_option maxRecDepth 20000 in
theorem t_X10_sheet_105 {l : Launch} {D : va_G} {cy : Nat → ClassId} {sz : Nat} {G : sw_G} (hG : sw_lay G)   {Q : Int32 → sw_I → sw_J → Prop} {K46 : Int32 → Int32 → Int32 → Int32 → Int32 → Int32 → sw_I → sw_J → Prop} (hK46 : ∀ (x1 : Int32) (x2 : Int32) (x4 : Int32) (x5 : Int32) (x6 : Int32) (x7 : Int32) (I : sw_I) (J : sw_J), K46 x1 x2 x4 x5 x6 x7 I J → AW l D cy sz RX10 cX10_sheet 10 (some .int) false rm_X10_sheet 0 0 (sw_qi G Q) 0 0 G I J 46 [(0, .ref (sz + 131)), (1, .int x1), (2, .int x2), (4, .int x4), (5, .int x5), (6, .int x6), (7, .int x7)] []) {x1 : Int32} {x2 : Int32} {x4 : Int32} {x5 : Int32} {x6 : Int32} {x7 : Int32} {x8 : Int32} {s0 : Int32} {I : sw_I} {J : sw_J} (h : wB_X10_sheet_105  K46 Q x1 x2 x4 x5 x6 x7 x8 s0 I J) : AW l D cy sz RX10 cX10_sheet 10 (some .int) false rm_X10_sheet 0 0 (sw_qi G Q) 0 0 G I J 105 [(0, .ref (sz + 131)), (1, .int x1), (2, .int x2), (4, .int x4), (5, .int x5), (6, .int x6), (7, .int x7), (8, .int x8)] [.int s0] := by
  unfold wB_X10_sheet_105 at h
  refine aw_istore (lv' := [(9, .int s0), (0, .ref (sz + 131)), (1, .int x1), (2, .int x2), (4, .int x4), (5, .int x5), (6, .int x6), (7, .int x7), (8, .int x8)]) dX10_sheet_105 (by decide) rfl ?_
  refine aw_aload_n 1 dX10_sheet_107 rfl rfl ?_
  refine gf_X10_9 fl_X10_79 (lk131 hG) (lr131_9 hG) dX10_sheet_108 ?_
  refine aw_bipush (v := 10) dX10_sheet_111 (by decide) ?_
  refine aw_iload 7 dX10_sheet_113 rfl ?_
  refine aw_iadd dX10_sheet_115 ?_
  refine aw_iload 0 dX10_sheet_116 rfl ?_
  refine aw_zeq 126 dX10_sheet_118 (by decide) (fun c_1 => ?_) (fun c_1 => ?_)
  · have h := sw_if.t h c_1
    refine aw_iconst (v := (-1)) dX10_sheet_126 (by decide) ?_
    refine aw_sub [1, 2, 3, 4, 5, 6, 7, 0] rfl ?_
    exact t_X10_sheet_127 hG  hK46 h
  · have h := sw_if.f h c_1
    refine aw_iload 8 dX10_sheet_121 rfl ?_
    refine aw_goto 127 dX10_sheet_123 (by decide) ?_
    refine aw_sub [1, 2, 3, 4, 5, 6, 7, 0] rfl ?_
    exact t_X10_sheet_127 hG  hK46 h
set_option maxRecDepth 20000 in
theorem t_X10_sheet_104 {l : Launch} {D : va_G} {cy : Nat → ClassId} {sz : Nat} {G : sw_G} (hG : sw_lay G)   {Q : Int32 → sw_I → sw_J → Prop} {K46 : Int32 → Int32 → Int32 → Int32 → Int32 → Int32 → sw_I → sw_J → Prop} (hK46 : ∀ (x1 : Int32) (x2 : Int32) (x4 : Int32) (x5 : Int32) (x6 : Int32) (x7 : Int32) (I : sw_I) (J : sw_J), K46 x1 x2 x4 x5 x6 x7 I J → AW l D cy sz RX10 cX10_sheet 10 (some .int) false rm_X10_sheet 0 0 (sw_qi G Q) 0 0 G I J 46 [(0, .ref (sz + 131)), (1, .int x1), (2, .int x2), (4, .int x4), (5, .int x5), (6, .int x6), (7, .int x7)] []) {x1 : Int32} {x2 : Int32} {x4 : Int32} {x5 : Int32} {x6 : Int32} {x7 : Int32} {x8 : Int32} {I : sw_I} {J : sw_J} (h : wB_X10_sheet_104  K46 Q x1 x2 x4 x5 x6 x7 x8 I J) : AW l D cy sz RX10 cX10_sheet 10 (some .int) false rm_X10_sheet 0 0 (sw_qi G Q) 0 0 G I J 104 [(0, .ref (sz + 131)), (1, .int x1), (2, .int x2), (4, .int x4), (5, .int x5), (6, .int x6), (7, .int x7), (8, .int x8)] [] := by
  unfold wB_X10_sheet_104 at h
  refine aw_iconst (v := 0) dX10_sheet_104 (by decide) ?_
  refine aw_sub [0, 1, 2, 3, 4, 5, 6, 7] rfl ?_
  exact t_X10_sheet_105 hG  hK46 h
set_option maxRecDepth 20000 in
theorem t_X10_sheet_78 {l : Launch} {D : va_G} {cy : Nat → ClassId} {sz : Nat} {G : sw_G} (hG : sw_lay G)   {Q : Int32 → sw_I → sw_J → Prop} {K46 : Int32 → Int32 → Int32 → Int32 → Int32 → Int32 → sw_I → sw_J → Prop} (hK46 : ∀ (x1 : Int32) (x2 : Int32) (x4 : Int32) (x5 : Int32) (x6 : Int32) (x7 : Int32) (I : sw_I) (J : sw_J), K46 x1 x2 x4 x5 x6 x7 I J → AW l D cy sz RX10 cX10_sheet 10 (some .int) false rm_X10_sheet 0 0 (sw_qi G Q) 0 0 G I J 46 [(0, .ref (sz + 131)), (1, .int x1), (2, .int x2), (4, .int x4), (5, .int x5), (6, .int x6), (7, .int x7)] []) {x1 : Int32} {x2 : Int32} {x4 : Int32} {x5 : Int32} {x6 : Int32} {x7 : Int32} {s0 : Int32} {I : sw_I} {J : sw_J} (h : wB_X10_sheet_78  K46 Q x1 x2 x4 x5 x6 x7 s0 I J) : AW l D cy sz RX10 cX10_sheet 10 (some .int) false rm_X10_sheet 0 0 (sw_qi G Q) 0 0 G I J 78 [(0, .ref (sz + 131)), (1, .int x1), (2, .int x2), (4, .int x4), (5, .int x5), (6, .int x6), (7, .int x7)] [.int s0] := by
  unfold wB_X10_sheet_78 at h
  refine aw_istore (lv' := [(8, .int s0), (0, .ref (sz + 131)), (1, .int x1), (2, .int x2), (4, .int x4), (5, .int x5), (6, .int x6), (7, .int x7)]) dX10_sheet_78 (by decide) rfl ?_
  refine aw_iload_n 2 dX10_sheet_80 rfl rfl ?_
  refine aw_iconst (v := 3) dX10_sheet_81 (by decide) ?_
  refine aw_jeq 104 dX10_sheet_82 (by decide) (fun c_1 => ?_) (fun c_1 => ?_)
  · have h := sw_if.t h c_1
    refine aw_sub [1, 2, 3, 4, 5, 6, 7, 0] rfl ?_
    exact t_X10_sheet_104 hG  hK46 h
  · have h := sw_if.f h c_1
    refine aw_iload 7 dX10_sheet_85 rfl ?_
    refine aw_iload_n 3 dX10_sheet_87 rfl rfl ?_
    refine aw_jge 104 dX10_sheet_88 (by decide) (fun c_2 => ?_) (fun c_2 => ?_)
    · have h := sw_if.f h c_2
      refine aw_sub [1, 2, 3, 4, 5, 6, 7, 0] rfl ?_
      exact t_X10_sheet_104 hG  hK46 h
    · have h := sw_if.t h c_2
      refine aw_aload_n 1 dX10_sheet_91 rfl rfl ?_
      refine aw_iload 0 dX10_sheet_92 rfl ?_
      refine aw_callV wv_X10_isFloor (M_X10_isFloor hG  h) ml_X10_95 rfl (by decide) (lk131 hG) rfl rfl (Nat.le_of_ble_eq_true rfl) ⟨rfl, rfl⟩ ⟨Nat.le_of_ble_eq_true rfl, Nat.le_of_ble_eq_true rfl⟩ ⟨Nat.le_refl _, Nat.le_refl _⟩ dX10_sheet_94 (aw_ki fun r_3 I_4 J_5 h => ?_)
      refine aw_zeq 104 dX10_sheet_97 (by decide) (fun c_6 => ?_) (fun c_6 => ?_)
      · have h := sw_if.t h c_6
        refine aw_sub [1, 2, 3, 4, 5, 6, 7, 0] rfl ?_
        exact t_X10_sheet_104 hG  hK46 h
      · have h := sw_if.f h c_6
        refine aw_iconst (v := 1) dX10_sheet_100 (by decide) ?_
        refine aw_goto 105 dX10_sheet_101 (by decide) ?_
        refine aw_sub [1, 2, 3, 4, 5, 6, 7, 0] rfl ?_
        exact t_X10_sheet_105 hG  hK46 h
set_option maxRecDepth 20000 in
theorem tb_X10_sheet_46 {l : Launch} {D : va_G} {cy : Nat → ClassId} {sz : Nat} {G : sw_G} (hG : sw_lay G)   {Q : Int32 → sw_I → sw_J → Prop} {K46 : Int32 → Int32 → Int32 → Int32 → Int32 → Int32 → sw_I → sw_J → Prop} (hK46 : ∀ (x1 : Int32) (x2 : Int32) (x4 : Int32) (x5 : Int32) (x6 : Int32) (x7 : Int32) (I : sw_I) (J : sw_J), K46 x1 x2 x4 x5 x6 x7 I J → AW l D cy sz RX10 cX10_sheet 10 (some .int) false rm_X10_sheet 0 0 (sw_qi G Q) 0 0 G I J 46 [(0, .ref (sz + 131)), (1, .int x1), (2, .int x2), (4, .int x4), (5, .int x5), (6, .int x6), (7, .int x7)] []) {x1 : Int32} {x2 : Int32} {x4 : Int32} {x5 : Int32} {x6 : Int32} {x7 : Int32} {I : sw_I} {J : sw_J} (h : wb_X10_sheet_46  K46 Q x1 x2 x4 x5 x6 x7 I J) : AW l D cy sz RX10 cX10_sheet 10 (some .int) false rm_X10_sheet 0 0 (sw_qi G Q) 0 0 G I J 46 [(0, .ref (sz + 131)), (1, .int x1), (2, .int x2), (4, .int x4), (5, .int x5), (6, .int x6), (7, .int x7)] [] := by
  unfold wb_X10_sheet_46 at h
  refine aw_iload 6 dX10_sheet_46 rfl ?_
  refine aw_aload_n 0 dX10_sheet_48 rfl rfl ?_
  refine gf_X10_4 fl_X10_29 (lk131 hG) dX10_sheet_49 ?_
  refine aw_jge 151 dX10_sheet_52 (by decide) (fun c_1 => ?_) (fun c_1 => ?_)
  · have h := sw_if.f h c_1
    refine aw_iload_n 1 dX10_sheet_151 rfl rfl ?_
    refine aw_iconst (v := 3) dX10_sheet_152 (by decide) ?_
    refine aw_jne 161 dX10_sheet_153 (by decide) (fun c_2 => ?_) (fun c_2 => ?_)
    · have h := sw_if.f h c_2
      refine aw_iload 4 dX10_sheet_161 rfl ?_
      exact aw_iret rfl dX10_sheet_163 ⟨rfl, _, rfl, h⟩
    · have h := sw_if.t h c_2
      refine aw_bipush (v := (-3)) dX10_sheet_156 (by decide) ?_
      refine aw_goto 163 dX10_sheet_158 (by decide) ?_
      exact aw_iret rfl dX10_sheet_163 ⟨rfl, _, rfl, h⟩
  · have h := sw_if.t h c_1
    refine aw_iload_n 1 dX10_sheet_55 rfl rfl ?_
    refine aw_zne 65 dX10_sheet_56 (by decide) (fun c_3 => ?_) (fun c_3 => ?_)
    · have h := sw_if.f h c_3
      refine aw_iload_n 1 dX10_sheet_65 rfl rfl ?_
      refine aw_iconst (v := 1) dX10_sheet_66 (by decide) ?_
      refine aw_jne 76 dX10_sheet_67 (by decide) (fun c_4 => ?_) (fun c_4 => ?_)
      · have h := sw_if.f h c_4
        refine aw_iload 5 dX10_sheet_76 rfl ?_
        refine aw_sub [0, 1, 2, 3, 4, 5, 6] rfl ?_
        exact t_X10_sheet_78 hG  hK46 h
      · have h := sw_if.t h c_4
        refine aw_iload 5 dX10_sheet_70 rfl ?_
        refine aw_i2s dX10_sheet_72 ?_
        refine aw_goto 78 dX10_sheet_73 (by decide) ?_
        refine aw_sub [0, 1, 2, 3, 4, 5, 6] rfl ?_
        exact t_X10_sheet_78 hG  hK46 h
    · have h := sw_if.t h c_3
      refine aw_iload 5 dX10_sheet_59 rfl ?_
      refine aw_i2b dX10_sheet_61 ?_
      refine aw_goto 78 dX10_sheet_62 (by decide) ?_
      refine aw_sub [0, 1, 2, 3, 4, 5, 6] rfl ?_
      exact t_X10_sheet_78 hG  hK46 h
set_option maxRecDepth 20000 in
theorem tl_X10_sheet_46 {l : Launch} {D : va_G} {cy : Nat → ClassId} {sz : Nat} {G : sw_G} (hG : sw_lay G)   {Q : Int32 → sw_I → sw_J → Prop} : ∀ (n : Nat) (x1 : Int32) (x2 : Int32) (x4 : Int32) (x5 : Int32) (x6 : Int32) (x7 : Int32) (I : sw_I) (J : sw_J), wl_X10_sheet_46   Q n x1 x2 x4 x5 x6 x7 I J → AW l D cy sz RX10 cX10_sheet 10 (some .int) false rm_X10_sheet 0 0 (sw_qi G Q) 0 0 G I J 46 [(0, .ref (sz + 131)), (1, .int x1), (2, .int x2), (4, .int x4), (5, .int x5), (6, .int x6), (7, .int x7)] [] := by
  intro n
  induction n with
  | zero => intro x1 x2 x4 x5 x6 x7 I J h; exact False.elim h
  | succ n ih => intro x1 x2 x4 x5 x6 x7 I J h; exact tb_X10_sheet_46 hG  ih h
set_option maxRecDepth 20000 in
theorem t_X10_sheet_37 {l : Launch} {D : va_G} {cy : Nat → ClassId} {sz : Nat} {G : sw_G} (hG : sw_lay G)   {Q : Int32 → sw_I → sw_J → Prop} {x1 : Int32} {x2 : Int32} {x3 : Int32} {x4 : Int32} {I : sw_I} {J : sw_J} (h : wB_X10_sheet_37   Q x1 x2 x3 x4 I J) : AW l D cy sz RX10 cX10_sheet 10 (some .int) false rm_X10_sheet 0 0 (sw_qi G Q) 0 0 G I J 37 [(0, .ref (sz + 131)), (1, .int x1), (2, .int x2), (3, .int x3), (4, .int x4)] [] := by
  unfold wB_X10_sheet_37 at h
  refine aw_iconst (v := 0) dX10_sheet_37 (by decide) ?_
  refine aw_istore (lv' := [(5, .int 0), (0, .ref (sz + 131)), (1, .int x1), (2, .int x2), (3, .int x3), (4, .int x4)]) dX10_sheet_38 (by decide) rfl ?_
  refine aw_iload_n 4 dX10_sheet_40 rfl rfl ?_
  refine aw_istore (lv' := [(6, .int x3), (5, .int 0), (0, .ref (sz + 131)), (1, .int x1), (2, .int x2), (3, .int x3), (4, .int x4)]) dX10_sheet_41 (by decide) rfl ?_
  refine aw_iconst (v := 0) dX10_sheet_43 (by decide) ?_
  refine aw_istore (lv' := [(7, .int 0), (6, .int x3), (5, .int 0), (0, .ref (sz + 131)), (1, .int x1), (2, .int x2), (3, .int x3), (4, .int x4)]) dX10_sheet_44 (by decide) rfl ?_
  refine aw_sub [3, 4, 5, 7, 2, 1, 0] rfl ?_
  obtain ⟨n_1, h⟩ := h
  exact tl_X10_sheet_46 hG   n_1 x1 x2 x4 0 x3 0 I J h
set_option maxRecDepth 20000 in
theorem t_X10_sheet {l : Launch} {D : va_G} {cy : Nat → ClassId} {sz : Nat} {G : sw_G} (hG : sw_lay G)   {Q : Int32 → sw_I → sw_J → Prop} {x1 : Int32} {x2 : Int32} {x3 : Int32} {x4 : Int32} {I : sw_I} {J : sw_J} (h : wp_X10_sheet x1 x2 x3 x4 I J Q) : AW l D cy sz RX10 cX10_sheet 10 (some .int) false rm_X10_sheet 0 0 (sw_qi G Q) 0 0 G I J 0 [(0, .ref (sz + 131)), (1, .int x1), (2, .int x2), (3, .int x3), (4, .int x4)] [] := by
  unfold wp_X10_sheet at h
  refine aw_aload_n 0 dX10_sheet_0 rfl rfl ?_
  refine aw_iconst (v := 0) dX10_sheet_1 (by decide) ?_
  refine pf_X10_0 fl_X10_3 (lk131 hG) dX10_sheet_2 (aw_nameI fun I_1 e_2 => ?_)
  have h := h I_1 e_2
  refine aw_iload_n 1 dX10_sheet_5 rfl rfl ?_
  refine aw_i2l dX10_sheet_6 ?_
  refine aw_lconst (v := 0) dX10_sheet_7 (by decide) ?_
  refine aw_ldc2 (v := 3) dX10_sheet_8 k_X10_236 ?_
  refine aw_callS wv_X10_in (M_X10_in trivial  h) ml_X10_25 rfl rfl (Nat.le_of_ble_eq_true rfl) ⟨rfl, rfl⟩ ⟨Nat.le_of_ble_eq_true rfl, Nat.le_of_ble_eq_true rfl⟩ ⟨Nat.le_refl _, Nat.le_refl _⟩ dX10_sheet_11 (aw_ki fun r_3 I_4 J_5 h => ?_)
  refine aw_zeq 23 dX10_sheet_14 (by decide) (fun c_6 => ?_) (fun c_6 => ?_)
  · have h := sw_if.t h c_6
    refine aw_iconst (v := (-1)) dX10_sheet_23 (by decide) ?_
    exact aw_iret rfl dX10_sheet_24 ⟨rfl, _, rfl, h⟩
  · have h := sw_if.f h c_6
    refine aw_iload_n 2 dX10_sheet_17 rfl rfl ?_
    refine aw_bipush (v := 10) dX10_sheet_18 (by decide) ?_
    refine aw_jle 25 dX10_sheet_20 (by decide) (fun c_7 => ?_) (fun c_7 => ?_)
    · have h := sw_if.f h c_7
      refine aw_iload_n 1 dX10_sheet_25 rfl rfl ?_
      refine aw_iconst (v := 3) dX10_sheet_26 (by decide) ?_
      refine aw_jeq 37 dX10_sheet_27 (by decide) (fun c_8 => ?_) (fun c_8 => ?_)
      · have h := sw_if.t h c_8
        refine aw_sub [0, 1, 2, 3, 4] rfl ?_
        exact t_X10_sheet_37 hG   h
      · have h := sw_if.f h c_8
        refine aw_iload_n 2 dX10_sheet_30 rfl rfl ?_
        refine aw_zge 37 dX10_sheet_31 (by decide) (fun c_9 => ?_) (fun c_9 => ?_)
        · have h := sw_if.f h c_9
          refine aw_sub [0, 1, 2, 3, 4] rfl ?_
          exact t_X10_sheet_37 hG   h
        · have h := sw_if.t h c_9
          refine aw_bipush (v := (-2)) dX10_sheet_34 (by decide) ?_
          exact aw_iret rfl dX10_sheet_36 ⟨rfl, _, rfl, h⟩
    · have h := sw_if.t h c_7
      refine aw_iconst (v := (-1)) dX10_sheet_23 (by decide) ?_
      exact aw_iret rfl dX10_sheet_24 ⟨rfl, _, rfl, h⟩
theorem M_X10_sheet {l : Launch} {D : va_G} {cy : Nat → ClassId} {sz : Nat} {G : sw_G} (hG : sw_lay G)   {Q : Int32 → sw_I → sw_J → Prop} {x1 : Int32} {x2 : Int32} {x3 : Int32} {x4 : Int32} {I : sw_I} {J : sw_J} (h : wp_X10_sheet x1 x2 x3 x4 I J Q) : Met l yX10_sheet (Cond.code yX10_sheet cX10_sheet 10 (some .int) :: sw_T) rm_X10_sheet (sw_Pc D cy sz [.ref (sz + 131), .int x1, .int x2, .int x3, .int x4] G I J) (sw_Q D cy sz (sw_qi G Q)) 0 0 (fun q => sz ≤ q) :=
  sw_met (by decide) (fun q => by cases q) (Nat.le_of_ble_eq_true rfl) rfl (t_X10_sheet hG  h)
-- X10_dog
abbrev rm_X10_dog : Room := { frames := 2, cells := 0, slots := 0, locals := 46 }
def wp_X10_dog (x1 : Int32) (I : sw_I) (J : sw_J) (Q : Int32 → sw_I → sw_J → Prop) : Prop :=
  ∀ I_1 : sw_I, I_1 = sw_up I 131 0 (0 : Int32) → sw_if (x1 = (-1 : Int32)) (∀ I_4 : sw_I, I_4 = sw_up I_1 131 5 x1 → Q 1 I_4 J) (wp_X10_isFloor x1 I_1 J (fun r_6 I_7 J_8 => sw_if (r_6 = 0) (Q 0 I_7 J_8) (∀ I_10 : sw_I, I_10 = sw_up I_7 131 5 x1 → Q 1 I_10 J_8)))
set_option maxRecDepth 20000 in
theorem t_X10_dog {l : Launch} {D : va_G} {cy : Nat → ClassId} {sz : Nat} {G : sw_G} (hG : sw_lay G)   {Q : Int32 → sw_I → sw_J → Prop} {x1 : Int32} {I : sw_I} {J : sw_J} (h : wp_X10_dog x1 I J Q) : AW l D cy sz RX10 cX10_dog 2 (some .boolean) false rm_X10_dog 0 0 (sw_qi G Q) 0 0 G I J 0 [(0, .ref (sz + 131)), (1, .int x1)] [] := by
  unfold wp_X10_dog at h
  refine aw_aload_n 0 dX10_dog_0 rfl rfl ?_
  refine aw_iconst (v := 0) dX10_dog_1 (by decide) ?_
  refine pf_X10_0 fl_X10_3 (lk131 hG) dX10_dog_2 (aw_nameI fun I_1 e_2 => ?_)
  have h := h I_1 e_2
  refine aw_iload_n 1 dX10_dog_5 rfl rfl ?_
  refine aw_iconst (v := (-1)) dX10_dog_6 (by decide) ?_
  refine aw_jeq 20 dX10_dog_7 (by decide) (fun c_3 => ?_) (fun c_3 => ?_)
  · have h := sw_if.t h c_3
    refine aw_aload_n 0 dX10_dog_20 rfl rfl ?_
    refine aw_iload_n 1 dX10_dog_21 rfl rfl ?_
    refine pf_X10_5 fl_X10_76 (lk131 hG) dX10_dog_22 (aw_nameI fun I_4 e_5 => ?_)
    have h := h I_4 e_5
    refine aw_iconst (v := 1) dX10_dog_25 (by decide) ?_
    exact aw_zret rfl rfl dX10_dog_26 ⟨rfl, _, rfl, h⟩
  · have h := sw_if.f h c_3
    refine aw_aload_n 0 dX10_dog_10 rfl rfl ?_
    refine aw_iload_n 1 dX10_dog_11 rfl rfl ?_
    refine aw_callV wv_X10_isFloor (M_X10_isFloor hG  h) ml_X10_95 rfl (by decide) (lk131 hG) rfl rfl (Nat.le_of_ble_eq_true rfl) ⟨rfl, rfl⟩ ⟨Nat.le_of_ble_eq_true rfl, Nat.le_of_ble_eq_true rfl⟩ ⟨Nat.le_refl _, Nat.le_refl _⟩ dX10_dog_12 (aw_ki fun r_6 I_7 J_8 h => ?_)
    refine aw_zne 20 dX10_dog_15 (by decide) (fun c_9 => ?_) (fun c_9 => ?_)
    · have h := sw_if.f h c_9
      refine aw_aload_n 0 dX10_dog_20 rfl rfl ?_
      refine aw_iload_n 1 dX10_dog_21 rfl rfl ?_
      refine pf_X10_5 fl_X10_76 (lk131 hG) dX10_dog_22 (aw_nameI fun I_10 e_11 => ?_)
      have h := h I_10 e_11
      refine aw_iconst (v := 1) dX10_dog_25 (by decide) ?_
      exact aw_zret rfl rfl dX10_dog_26 ⟨rfl, _, rfl, h⟩
    · have h := sw_if.t h c_9
      refine aw_iconst (v := 0) dX10_dog_18 (by decide) ?_
      exact aw_zret rfl rfl dX10_dog_19 ⟨rfl, _, rfl, h⟩
theorem M_X10_dog {l : Launch} {D : va_G} {cy : Nat → ClassId} {sz : Nat} {G : sw_G} (hG : sw_lay G)   {Q : Int32 → sw_I → sw_J → Prop} {x1 : Int32} {I : sw_I} {J : sw_J} (h : wp_X10_dog x1 I J Q) : Met l yX10_dog (Cond.code yX10_dog cX10_dog 2 (some .boolean) :: sw_T) rm_X10_dog (sw_Pc D cy sz [.ref (sz + 131), .int x1] G I J) (sw_Q D cy sz (sw_qi G Q)) 0 0 (fun q => sz ≤ q) :=
  sw_met (by decide) (fun q => by cases q) (Nat.le_of_ble_eq_true rfl) rfl (t_X10_dog hG  h)
-- X10_draws
abbrev rm_X10_draws : Room := { frames := 0, cells := 0, slots := 0, locals := 0 }
def wp_X10_draws (x1 : Int32) (I : sw_I) (J : sw_J) (Q : Int32 → sw_I → sw_J → Prop) : Prop :=
  ∀ I_1 : sw_I, I_1 = sw_up I 131 31 (((I 131 31) * (1103515245 : Int32)) + (12345 : Int32)) → ¬ x1 = 0 ∧ Q ((((I_1 131 31).toUInt32 >>> ((16 : Int32).toUInt32 &&& Int32.toUInt32 31)).toInt32) - (((I_1 131 31).toUInt32 >>> ((16 : Int32).toUInt32 &&& Int32.toUInt32 31)).toInt32) / x1 * x1) I_1 J
set_option maxRecDepth 20000 in
theorem t_X10_draws {l : Launch} {D : va_G} {cy : Nat → ClassId} {sz : Nat} {G : sw_G} (hG : sw_lay G)   {Q : Int32 → sw_I → sw_J → Prop} {x1 : Int32} {I : sw_I} {J : sw_J} (h : wp_X10_draws x1 I J Q) : AW l D cy sz RX10 cX10_draws 2 (some .int) false rm_X10_draws 0 0 (sw_qi G Q) 0 0 G I J 0 [(0, .ref (sz + 131)), (1, .int x1)] [] := by
  unfold wp_X10_draws at h
  refine aw_aload_n 0 dX10_draws_0 rfl rfl ?_
  refine aw_aload_n 0 dX10_draws_1 rfl rfl ?_
  refine gf_X10_31 fl_X10_238 (lk131 hG) dX10_draws_2 ?_
  refine aw_ldc (v := 1103515245) dX10_draws_5 k_X10_241 ?_
  refine aw_imul dX10_draws_7 ?_
  refine aw_sipush (v := 12345) dX10_draws_8 (by decide) ?_
  refine aw_iadd dX10_draws_11 ?_
  refine pf_X10_31 fl_X10_238 (lk131 hG) dX10_draws_12 (aw_nameI fun I_1 e_2 => ?_)
  have h := h I_1 e_2
  refine aw_aload_n 0 dX10_draws_15 rfl rfl ?_
  refine gf_X10_31 fl_X10_238 (lk131 hG) dX10_draws_16 ?_
  refine aw_bipush (v := 16) dX10_draws_19 (by decide) ?_
  refine aw_iushr dX10_draws_21 ?_
  refine aw_iload_n 1 dX10_draws_22 rfl rfl ?_
  obtain ⟨hz_3, h⟩ := h
  refine aw_irem dX10_draws_23 hz_3 ?_
  exact aw_iret rfl dX10_draws_24 ⟨rfl, _, rfl, h⟩
theorem M_X10_draws {l : Launch} {D : va_G} {cy : Nat → ClassId} {sz : Nat} {G : sw_G} (hG : sw_lay G)   {Q : Int32 → sw_I → sw_J → Prop} {x1 : Int32} {I : sw_I} {J : sw_J} (h : wp_X10_draws x1 I J Q) : Met l yX10_draws (Cond.code yX10_draws cX10_draws 2 (some .int) :: sw_T) rm_X10_draws (sw_Pc D cy sz [.ref (sz + 131), .int x1] G I J) (sw_Q D cy sz (sw_qi G Q)) 0 0 (fun q => sz ≤ q) :=
  sw_met (by decide) (fun q => by cases q) (Nat.le_of_ble_eq_true rfl) rfl (t_X10_draws hG  h)
-- X10_crowd
abbrev rm_X10_crowd : Room := { frames := 1, cells := 0, slots := 0, locals := 25 }
def wb_X10_crowd_26  (K26 : Int32 → Int32 → sw_I → sw_J → Prop) (Q : Int32 → sw_I → sw_J → Prop) (x2 : Int32) (x3 : Int32) (I : sw_I) (J : sw_J) : Prop :=
  sw_if ((I 131 4) < x2) (wp_X10_draws (I 131 3) I J (fun r_7 I_8 J_9 => wp_X10_draws (I_8 131 3) I_8 J_9 (fun r_10 I_11 J_12 => wp_X10_draws (I_11 131 3) I_11 J_12 (fun r_13 I_14 J_15 => wp_X10_comes (I_11 131 4) r_7 r_10 r_13 I_14 J_15 (fun I_17 J_18 => ∀ I_19 : sw_I, I_19 = sw_up I_17 131 4 ((I_17 131 4) + (1 : Int32)) → ∀ y_21 : Int32, y_21 = x3 + 1 → K26 x2 y_21 I_19 J_18))))) (sw_if (0 < x3) (∀ I_3 : sw_I, I_3 = sw_up I 131 32 (0 : Int32) → ∀ I_5 : sw_I, I_5 = sw_up I_3 131 6 ((I_3 131 6) + (1 : Int32)) → Q x3 I_5 J) (Q x3 I J))
def wl_X10_crowd_26   (Q : Int32 → sw_I → sw_J → Prop) : Nat → Int32 → Int32 → sw_I → sw_J → Prop
  | 0 => fun _ _ _ _ => False
  | n + 1 => fun x2 x3 I J => wb_X10_crowd_26  (wl_X10_crowd_26   Q n) Q x2 x3 I J
def wp_X10_crowd (x1 : Int32) (x2 : Int32) (I : sw_I) (J : sw_J) (Q : Int32 → sw_I → sw_J → Prop) : Prop :=
  ∀ I_1 : sw_I, I_1 = sw_up I 131 0 (0 : Int32) → wp_X10_in x2.toInt64 0 10 I_1 J (fun r_3 I_4 J_5 => sw_if (r_3 = 0) (Q (-1 : Int32) I_4 J_5) (∀ I_7 : sw_I, I_7 = sw_up I_4 131 31 x1 → ∃ n_9 : Nat, wl_X10_crowd_26   Q n_9 x2 0 I_7 J_5))
set_option maxRecDepth 20000 in
theorem tb_X10_crowd_26 {l : Launch} {D : va_G} {cy : Nat → ClassId} {sz : Nat} {G : sw_G} (hG : sw_lay G)   {Q : Int32 → sw_I → sw_J → Prop} {K26 : Int32 → Int32 → sw_I → sw_J → Prop} (hK26 : ∀ (x2 : Int32) (x3 : Int32) (I : sw_I) (J : sw_J), K26 x2 x3 I J → AW l D cy sz RX10 cX10_crowd 6 (some .int) false rm_X10_crowd 0 0 (sw_qi G Q) 0 0 G I J 26 [(0, .ref (sz + 131)), (2, .int x2), (3, .int x3)] []) {x2 : Int32} {x3 : Int32} {I : sw_I} {J : sw_J} (h : wb_X10_crowd_26  K26 Q x2 x3 I J) : AW l D cy sz RX10 cX10_crowd 6 (some .int) false rm_X10_crowd 0 0 (sw_qi G Q) 0 0 G I J 26 [(0, .ref (sz + 131)), (2, .int x2), (3, .int x3)] [] := by
  unfold wb_X10_crowd_26 at h
  refine aw_aload_n 0 dX10_crowd_26 rfl rfl ?_
  refine gf_X10_4 fl_X10_29 (lk131 hG) dX10_crowd_27 ?_
  refine aw_iload_n 1 dX10_crowd_30 rfl rfl ?_
  refine aw_jge 90 dX10_crowd_31 (by decide) (fun c_1 => ?_) (fun c_1 => ?_)
  · have h := sw_if.f h c_1
    refine aw_iload_n 2 dX10_crowd_90 rfl rfl ?_
    refine aw_zle 109 dX10_crowd_91 (by decide) (fun c_2 => ?_) (fun c_2 => ?_)
    · have h := sw_if.f h c_2
      refine aw_iload_n 2 dX10_crowd_109 rfl rfl ?_
      exact aw_iret rfl dX10_crowd_110 ⟨rfl, _, rfl, h⟩
    · have h := sw_if.t h c_2
      refine aw_aload_n 0 dX10_crowd_94 rfl rfl ?_
      refine aw_iconst (v := 0) dX10_crowd_95 (by decide) ?_
      refine pf_X10_32 fl_X10_82 (lk131 hG) dX10_crowd_96 (aw_nameI fun I_3 e_4 => ?_)
      have h := h I_3 e_4
      refine aw_aload_n 0 dX10_crowd_99 rfl rfl ?_
      refine aw_dup dX10_crowd_100 rfl ?_
      refine gf_X10_6 fl_X10_88 (lk131 hG) dX10_crowd_101 ?_
      refine aw_iconst (v := 1) dX10_crowd_104 (by decide) ?_
      refine aw_iadd dX10_crowd_105 ?_
      refine pf_X10_6 fl_X10_88 (lk131 hG) dX10_crowd_106 (aw_nameI fun I_5 e_6 => ?_)
      have h := h I_5 e_6
      refine aw_iload_n 2 dX10_crowd_109 rfl rfl ?_
      exact aw_iret rfl dX10_crowd_110 ⟨rfl, _, rfl, h⟩
  · have h := sw_if.t h c_1
    refine aw_aload_n 0 dX10_crowd_34 rfl rfl ?_
    refine aw_aload_n 0 dX10_crowd_35 rfl rfl ?_
    refine gf_X10_3 fl_X10_22 (lk131 hG) dX10_crowd_36 ?_
    refine aw_callV wv_X10_draws (M_X10_draws hG  h) ml_X10_242 rfl (by decide) (lk131 hG) rfl rfl (Nat.le_of_ble_eq_true rfl) ⟨rfl, rfl⟩ ⟨Nat.le_of_ble_eq_true rfl, Nat.le_of_ble_eq_true rfl⟩ ⟨Nat.le_refl _, Nat.le_refl _⟩ dX10_crowd_39 (aw_ki fun r_7 I_8 J_9 h => ?_)
    refine aw_istore (lv' := [(4, .int r_7), (0, .ref (sz + 131)), (2, .int x2), (3, .int x3)]) dX10_crowd_42 (by decide) rfl ?_
    refine aw_aload_n 1 dX10_crowd_44 rfl rfl ?_
    refine aw_aload_n 1 dX10_crowd_45 rfl rfl ?_
    refine gf_X10_3 fl_X10_22 (lk131 hG) dX10_crowd_46 ?_
    refine aw_callV wv_X10_draws (M_X10_draws hG  h) ml_X10_242 rfl (by decide) (lk131 hG) rfl rfl (Nat.le_of_ble_eq_true rfl) ⟨rfl, rfl⟩ ⟨Nat.le_of_ble_eq_true rfl, Nat.le_of_ble_eq_true rfl⟩ ⟨Nat.le_refl _, Nat.le_refl _⟩ dX10_crowd_49 (aw_ki fun r_10 I_11 J_12 h => ?_)
    refine aw_istore (lv' := [(5, .int r_10), (4, .int r_7), (0, .ref (sz + 131)), (2, .int x2), (3, .int x3)]) dX10_crowd_52 (by decide) rfl ?_
    refine aw_aload_n 2 dX10_crowd_54 rfl rfl ?_
    refine aw_aload_n 2 dX10_crowd_55 rfl rfl ?_
    refine gf_X10_4 fl_X10_29 (lk131 hG) dX10_crowd_56 ?_
    refine aw_iload 1 dX10_crowd_59 rfl ?_
    refine aw_iload 0 dX10_crowd_61 rfl ?_
    refine aw_aload_n 2 dX10_crowd_63 rfl rfl ?_
    refine aw_aload_n 2 dX10_crowd_64 rfl rfl ?_
    refine gf_X10_3 fl_X10_22 (lk131 hG) dX10_crowd_65 ?_
    refine aw_callV wv_X10_draws (M_X10_draws hG  h) ml_X10_242 rfl (by decide) (lk131 hG) rfl rfl (Nat.le_of_ble_eq_true rfl) ⟨rfl, rfl⟩ ⟨Nat.le_of_ble_eq_true rfl, Nat.le_of_ble_eq_true rfl⟩ ⟨Nat.le_refl _, Nat.le_refl _⟩ dX10_crowd_68 (aw_ki fun r_13 I_14 J_15 h => ?_)
    refine aw_callV wv_X10_comes (M_X10_comes hG  h) ml_X10_131 rfl (by decide) (lk131 hG) rfl rfl (Nat.le_of_ble_eq_true rfl) ⟨rfl, rfl⟩ ⟨Nat.le_of_ble_eq_true rfl, Nat.le_of_ble_eq_true rfl⟩ ⟨Nat.le_refl _, Nat.le_refl _⟩ dX10_crowd_71 (aw_kv fun I_17 J_18 h => ?_)
    refine aw_aload_n 2 dX10_crowd_74 rfl rfl ?_
    refine aw_dup dX10_crowd_75 rfl ?_
    refine gf_X10_4 fl_X10_29 (lk131 hG) dX10_crowd_76 ?_
    refine aw_iconst (v := 1) dX10_crowd_79 (by decide) ?_
    refine aw_iadd dX10_crowd_80 ?_
    refine pf_X10_4 fl_X10_29 (lk131 hG) dX10_crowd_81 (aw_nameI fun I_19 e_20 => ?_)
    have h := h I_19 e_20
    obtain ⟨y_21, e_22⟩ : ∃ q : Int32, q = x3 + 1 := ⟨_, rfl⟩
    have h := h y_21 e_22
    refine aw_iinc (lv' := [(3, .int y_21), (5, .int r_10), (4, .int r_7), (0, .ref (sz + 131)), (2, .int x2)]) 4 dX10_crowd_84 rfl (by rw [e_22]; rfl) (by decide) rfl ?_
    refine aw_goto 26 dX10_crowd_87 (by decide) ?_
    refine aw_sub [3, 4, 0] rfl ?_
    exact hK26 x2 y_21 I_19 J_18 h
set_option maxRecDepth 20000 in
theorem tl_X10_crowd_26 {l : Launch} {D : va_G} {cy : Nat → ClassId} {sz : Nat} {G : sw_G} (hG : sw_lay G)   {Q : Int32 → sw_I → sw_J → Prop} : ∀ (n : Nat) (x2 : Int32) (x3 : Int32) (I : sw_I) (J : sw_J), wl_X10_crowd_26   Q n x2 x3 I J → AW l D cy sz RX10 cX10_crowd 6 (some .int) false rm_X10_crowd 0 0 (sw_qi G Q) 0 0 G I J 26 [(0, .ref (sz + 131)), (2, .int x2), (3, .int x3)] [] := by
  intro n
  induction n with
  | zero => intro x2 x3 I J h; exact False.elim h
  | succ n ih => intro x2 x3 I J h; exact tb_X10_crowd_26 hG  ih h
set_option maxRecDepth 20000 in
theorem t_X10_crowd {l : Launch} {D : va_G} {cy : Nat → ClassId} {sz : Nat} {G : sw_G} (hG : sw_lay G)   {Q : Int32 → sw_I → sw_J → Prop} {x1 : Int32} {x2 : Int32} {I : sw_I} {J : sw_J} (h : wp_X10_crowd x1 x2 I J Q) : AW l D cy sz RX10 cX10_crowd 6 (some .int) false rm_X10_crowd 0 0 (sw_qi G Q) 0 0 G I J 0 [(0, .ref (sz + 131)), (1, .int x1), (2, .int x2)] [] := by
  unfold wp_X10_crowd at h
  refine aw_aload_n 0 dX10_crowd_0 rfl rfl ?_
  refine aw_iconst (v := 0) dX10_crowd_1 (by decide) ?_
  refine pf_X10_0 fl_X10_3 (lk131 hG) dX10_crowd_2 (aw_nameI fun I_1 e_2 => ?_)
  have h := h I_1 e_2
  refine aw_iload_n 2 dX10_crowd_5 rfl rfl ?_
  refine aw_i2l dX10_crowd_6 ?_
  refine aw_lconst (v := 0) dX10_crowd_7 (by decide) ?_
  refine aw_ldc2 (v := 10) dX10_crowd_8 k_X10_234 ?_
  refine aw_callS wv_X10_in (M_X10_in trivial  h) ml_X10_25 rfl rfl (Nat.le_of_ble_eq_true rfl) ⟨rfl, rfl⟩ ⟨Nat.le_of_ble_eq_true rfl, Nat.le_of_ble_eq_true rfl⟩ ⟨Nat.le_refl _, Nat.le_refl _⟩ dX10_crowd_11 (aw_ki fun r_3 I_4 J_5 h => ?_)
  refine aw_zne 19 dX10_crowd_14 (by decide) (fun c_6 => ?_) (fun c_6 => ?_)
  · have h := sw_if.f h c_6
    refine aw_aload_n 0 dX10_crowd_19 rfl rfl ?_
    refine aw_iload_n 1 dX10_crowd_20 rfl rfl ?_
    refine pf_X10_31 fl_X10_238 (lk131 hG) dX10_crowd_21 (aw_nameI fun I_7 e_8 => ?_)
    have h := h I_7 e_8
    refine aw_iconst (v := 0) dX10_crowd_24 (by decide) ?_
    refine aw_istore_n (lv' := [(3, .int 0), (0, .ref (sz + 131)), (1, .int x1), (2, .int x2)]) dX10_crowd_25 rfl (by decide) rfl ?_
    refine aw_sub [1, 3, 0] rfl ?_
    obtain ⟨n_9, h⟩ := h
    exact tl_X10_crowd_26 hG   n_9 x2 0 I_7 J_5 h
  · have h := sw_if.t h c_6
    refine aw_iconst (v := (-1)) dX10_crowd_17 (by decide) ?_
    exact aw_iret rfl dX10_crowd_18 ⟨rfl, _, rfl, h⟩
theorem M_X10_crowd {l : Launch} {D : va_G} {cy : Nat → ClassId} {sz : Nat} {G : sw_G} (hG : sw_lay G)   {Q : Int32 → sw_I → sw_J → Prop} {x1 : Int32} {x2 : Int32} {I : sw_I} {J : sw_J} (h : wp_X10_crowd x1 x2 I J Q) : Met l yX10_crowd (Cond.code yX10_crowd cX10_crowd 6 (some .int) :: sw_T) rm_X10_crowd (sw_Pc D cy sz [.ref (sz + 131), .int x1, .int x2] G I J) (sw_Q D cy sz (sw_qi G Q)) 0 0 (fun q => sz ≤ q) :=
  sw_met (by decide) (fun q => by cases q) (Nat.le_of_ble_eq_true rfl) rfl (t_X10_crowd hG  h)
-- X10_putsBy
abbrev rm_X10_putsBy : Room := { frames := 0, cells := 0, slots := 0, locals := 0 }
def wb_X10_putsBy_2  (K2 : Int32 → sw_I → sw_J → Prop) (Q : sw_I → sw_J → Prop) (x1 : Int32) (I : sw_I) (J : sw_J) : Prop :=
  sw_if (x1 < (33 : Int32)) (vp_in x1 33 ∧ vp_in (((33 : Int32) * (I 131 32)) + x1) 693 ∧ ∀ I_4 : sw_I, I_4 = sw_up I 146 (((33 : Int32) * (I 131 32)) + x1).toNatClampNeg (I 135 x1.toNatClampNeg) → ∀ y_6 : Int32, y_6 = x1 + 1 → K2 y_6 I_4 J) (Q I J)
def wl_X10_putsBy_2   (Q : sw_I → sw_J → Prop) : Nat → Int32 → sw_I → sw_J → Prop
  | 0 => fun _ _ _ => False
  | n + 1 => fun x1 I J => wb_X10_putsBy_2  (wl_X10_putsBy_2   Q n) Q x1 I J
def wp_X10_putsBy  (I : sw_I) (J : sw_J) (Q : sw_I → sw_J → Prop) : Prop :=
  ∃ n_1 : Nat, wl_X10_putsBy_2   Q n_1 0 I J
set_option maxRecDepth 20000 in
theorem tb_X10_putsBy_2 {l : Launch} {D : va_G} {cy : Nat → ClassId} {sz : Nat} {G : sw_G} (hG : sw_lay G)   {Q : sw_I → sw_J → Prop} {K2 : Int32 → sw_I → sw_J → Prop} (hK2 : ∀ (x1 : Int32) (I : sw_I) (J : sw_J), K2 x1 I J → AW l D cy sz RX10 cX10_putsBy 2 none false rm_X10_putsBy 0 0 (sw_qv G Q) 0 0 G I J 2 [(0, .ref (sz + 131)), (1, .int x1)] []) {x1 : Int32} {I : sw_I} {J : sw_J} (h : wb_X10_putsBy_2  K2 Q x1 I J) : AW l D cy sz RX10 cX10_putsBy 2 none false rm_X10_putsBy 0 0 (sw_qv G Q) 0 0 G I J 2 [(0, .ref (sz + 131)), (1, .int x1)] [] := by
  unfold wb_X10_putsBy_2 at h
  refine aw_iload_n 1 dX10_putsBy_2 rfl rfl ?_
  refine aw_bipush (v := 33) dX10_putsBy_3 (by decide) ?_
  refine aw_jge 34 dX10_putsBy_5 (by decide) (fun c_1 => ?_) (fun c_1 => ?_)
  · have h := sw_if.f h c_1
    exact aw_vret rfl dX10_putsBy_34 ⟨rfl, rfl, h⟩
  · have h := sw_if.t h c_1
    refine aw_aload_n 0 dX10_putsBy_8 rfl rfl ?_
    refine gf_X10_33 fl_X10_245 (lk131 hG) (lr131_33 hG) dX10_putsBy_9 ?_
    refine aw_bipush (v := 33) dX10_putsBy_12 (by decide) ?_
    refine aw_aload_n 0 dX10_putsBy_14 rfl rfl ?_
    refine gf_X10_32 fl_X10_82 (lk131 hG) dX10_putsBy_15 ?_
    refine aw_imul dX10_putsBy_18 ?_
    refine aw_iload_n 1 dX10_putsBy_19 rfl rfl ?_
    refine aw_iadd dX10_putsBy_20 ?_
    refine aw_aload_n 0 dX10_putsBy_21 rfl rfl ?_
    refine gf_X10_9 fl_X10_79 (lk131 hG) (lr131_9 hG) dX10_putsBy_22 ?_
    refine aw_iload_n 1 dX10_putsBy_25 rfl rfl ?_
    obtain ⟨hi_2, h⟩ := h
    refine aw_ild dX10_putsBy_26 (lk135 hG) (ln135 hG) hi_2 ?_
    obtain ⟨hi_3, h⟩ := h
    refine aw_ist dX10_putsBy_27 (lk146 hG) (ln146 hG) hi_3 (aw_nameI fun I_4 e_5 => ?_)
    have h := h I_4 e_5
    obtain ⟨y_6, e_7⟩ : ∃ q : Int32, q = x1 + 1 := ⟨_, rfl⟩
    have h := h y_6 e_7
    refine aw_iinc (lv' := [(1, .int y_6), (0, .ref (sz + 131))]) 1 dX10_putsBy_28 rfl (by rw [e_7]; rfl) (by decide) rfl ?_
    refine aw_goto 2 dX10_putsBy_31 (by decide) ?_
    refine aw_sub [1, 0] rfl ?_
    exact hK2 y_6 I_4 J h
set_option maxRecDepth 20000 in
theorem tl_X10_putsBy_2 {l : Launch} {D : va_G} {cy : Nat → ClassId} {sz : Nat} {G : sw_G} (hG : sw_lay G)   {Q : sw_I → sw_J → Prop} : ∀ (n : Nat) (x1 : Int32) (I : sw_I) (J : sw_J), wl_X10_putsBy_2   Q n x1 I J → AW l D cy sz RX10 cX10_putsBy 2 none false rm_X10_putsBy 0 0 (sw_qv G Q) 0 0 G I J 2 [(0, .ref (sz + 131)), (1, .int x1)] [] := by
  intro n
  induction n with
  | zero => intro x1 I J h; exact False.elim h
  | succ n ih => intro x1 I J h; exact tb_X10_putsBy_2 hG  ih h
set_option maxRecDepth 20000 in
theorem t_X10_putsBy {l : Launch} {D : va_G} {cy : Nat → ClassId} {sz : Nat} {G : sw_G} (hG : sw_lay G)   {Q : sw_I → sw_J → Prop}  {I : sw_I} {J : sw_J} (h : wp_X10_putsBy  I J Q) : AW l D cy sz RX10 cX10_putsBy 2 none false rm_X10_putsBy 0 0 (sw_qv G Q) 0 0 G I J 0 [(0, .ref (sz + 131))] [] := by
  unfold wp_X10_putsBy at h
  refine aw_iconst (v := 0) dX10_putsBy_0 (by decide) ?_
  refine aw_istore_n (lv' := [(1, .int 0), (0, .ref (sz + 131))]) dX10_putsBy_1 rfl (by decide) rfl ?_
  refine aw_sub [1, 0] rfl ?_
  obtain ⟨n_1, h⟩ := h
  exact tl_X10_putsBy_2 hG   n_1 0 I J h
theorem M_X10_putsBy {l : Launch} {D : va_G} {cy : Nat → ClassId} {sz : Nat} {G : sw_G} (hG : sw_lay G)   {Q : sw_I → sw_J → Prop}  {I : sw_I} {J : sw_J} (h : wp_X10_putsBy  I J Q) : Met l yX10_putsBy (Cond.code yX10_putsBy cX10_putsBy 2 none :: sw_T) rm_X10_putsBy (sw_Pc D cy sz [.ref (sz + 131)] G I J) (sw_Q D cy sz (sw_qv G Q)) 0 0 (fun q => sz ≤ q) :=
  sw_met (by decide) (fun q => by cases q) (Nat.le_of_ble_eq_true rfl) rfl (t_X10_putsBy hG  h)
-- X10_adds
abbrev rm_X10_adds : Room := { frames := 0, cells := 0, slots := 0, locals := 0 }
def wb_X10_adds_21  (K21 : Int32 → sw_I → sw_J → Prop) (Q : sw_I → sw_J → Prop) (x1 : Int32) (I : sw_I) (J : sw_J) : Prop :=
  sw_if (x1 < (660 : Int32)) (vp_in (x1 + (33 : Int32)) 693 ∧ vp_in x1 693 ∧ ∀ I_6 : sw_I, I_6 = sw_up I 146 x1.toNatClampNeg (I 146 (x1 + (33 : Int32)).toNatClampNeg) → ∀ y_8 : Int32, y_8 = x1 + 1 → K21 y_8 I_6 J) (∀ I_2 : sw_I, I_2 = sw_up I 131 32 ((I 131 32) - (1 : Int32)) → Q I_2 J)
def wl_X10_adds_21   (Q : sw_I → sw_J → Prop) : Nat → Int32 → sw_I → sw_J → Prop
  | 0 => fun _ _ _ => False
  | n + 1 => fun x1 I J => wb_X10_adds_21  (wl_X10_adds_21   Q n) Q x1 I J
def wp_X10_adds  (I : sw_I) (J : sw_J) (Q : sw_I → sw_J → Prop) : Prop :=
  ∀ I_1 : sw_I, I_1 = sw_up I 131 32 ((I 131 32) + (1 : Int32)) → sw_if ((20 : Int32) < (I_1 131 32)) (∃ n_4 : Nat, wl_X10_adds_21   Q n_4 0 I_1 J) (Q I_1 J)
set_option maxRecDepth 20000 in
theorem tb_X10_adds_21 {l : Launch} {D : va_G} {cy : Nat → ClassId} {sz : Nat} {G : sw_G} (hG : sw_lay G)   {Q : sw_I → sw_J → Prop} {K21 : Int32 → sw_I → sw_J → Prop} (hK21 : ∀ (x1 : Int32) (I : sw_I) (J : sw_J), K21 x1 I J → AW l D cy sz RX10 cX10_adds 2 none false rm_X10_adds 0 0 (sw_qv G Q) 0 0 G I J 21 [(0, .ref (sz + 131)), (1, .int x1)] []) {x1 : Int32} {I : sw_I} {J : sw_J} (h : wb_X10_adds_21  K21 Q x1 I J) : AW l D cy sz RX10 cX10_adds 2 none false rm_X10_adds 0 0 (sw_qv G Q) 0 0 G I J 21 [(0, .ref (sz + 131)), (1, .int x1)] [] := by
  unfold wb_X10_adds_21 at h
  refine aw_iload_n 1 dX10_adds_21 rfl rfl ?_
  refine aw_sipush (v := 660) dX10_adds_22 (by decide) ?_
  refine aw_jge 49 dX10_adds_25 (by decide) (fun c_1 => ?_) (fun c_1 => ?_)
  · have h := sw_if.f h c_1
    refine aw_aload_n 0 dX10_adds_49 rfl rfl ?_
    refine aw_dup dX10_adds_50 rfl ?_
    refine gf_X10_32 fl_X10_82 (lk131 hG) dX10_adds_51 ?_
    refine aw_iconst (v := 1) dX10_adds_54 (by decide) ?_
    refine aw_isub dX10_adds_55 ?_
    refine pf_X10_32 fl_X10_82 (lk131 hG) dX10_adds_56 (aw_nameI fun I_2 e_3 => ?_)
    have h := h I_2 e_3
    exact aw_vret rfl dX10_adds_59 ⟨rfl, rfl, h⟩
  · have h := sw_if.t h c_1
    refine aw_aload_n 0 dX10_adds_28 rfl rfl ?_
    refine gf_X10_33 fl_X10_245 (lk131 hG) (lr131_33 hG) dX10_adds_29 ?_
    refine aw_iload_n 1 dX10_adds_32 rfl rfl ?_
    refine aw_aload_n 0 dX10_adds_33 rfl rfl ?_
    refine gf_X10_33 fl_X10_245 (lk131 hG) (lr131_33 hG) dX10_adds_34 ?_
    refine aw_iload_n 1 dX10_adds_37 rfl rfl ?_
    refine aw_bipush (v := 33) dX10_adds_38 (by decide) ?_
    refine aw_iadd dX10_adds_40 ?_
    obtain ⟨hi_4, h⟩ := h
    refine aw_ild dX10_adds_41 (lk146 hG) (ln146 hG) hi_4 ?_
    obtain ⟨hi_5, h⟩ := h
    refine aw_ist dX10_adds_42 (lk146 hG) (ln146 hG) hi_5 (aw_nameI fun I_6 e_7 => ?_)
    have h := h I_6 e_7
    obtain ⟨y_8, e_9⟩ : ∃ q : Int32, q = x1 + 1 := ⟨_, rfl⟩
    have h := h y_8 e_9
    refine aw_iinc (lv' := [(1, .int y_8), (0, .ref (sz + 131))]) 1 dX10_adds_43 rfl (by rw [e_9]; rfl) (by decide) rfl ?_
    refine aw_goto 21 dX10_adds_46 (by decide) ?_
    refine aw_sub [1, 0] rfl ?_
    exact hK21 y_8 I_6 J h
set_option maxRecDepth 20000 in
theorem tl_X10_adds_21 {l : Launch} {D : va_G} {cy : Nat → ClassId} {sz : Nat} {G : sw_G} (hG : sw_lay G)   {Q : sw_I → sw_J → Prop} : ∀ (n : Nat) (x1 : Int32) (I : sw_I) (J : sw_J), wl_X10_adds_21   Q n x1 I J → AW l D cy sz RX10 cX10_adds 2 none false rm_X10_adds 0 0 (sw_qv G Q) 0 0 G I J 21 [(0, .ref (sz + 131)), (1, .int x1)] [] := by
  intro n
  induction n with
  | zero => intro x1 I J h; exact False.elim h
  | succ n ih => intro x1 I J h; exact tb_X10_adds_21 hG  ih h
set_option maxRecDepth 20000 in
theorem t_X10_adds {l : Launch} {D : va_G} {cy : Nat → ClassId} {sz : Nat} {G : sw_G} (hG : sw_lay G)   {Q : sw_I → sw_J → Prop}  {I : sw_I} {J : sw_J} (h : wp_X10_adds  I J Q) : AW l D cy sz RX10 cX10_adds 2 none false rm_X10_adds 0 0 (sw_qv G Q) 0 0 G I J 0 [(0, .ref (sz + 131))] [] := by
  unfold wp_X10_adds at h
  refine aw_aload_n 0 dX10_adds_0 rfl rfl ?_
  refine aw_dup dX10_adds_1 rfl ?_
  refine gf_X10_32 fl_X10_82 (lk131 hG) dX10_adds_2 ?_
  refine aw_iconst (v := 1) dX10_adds_5 (by decide) ?_
  refine aw_iadd dX10_adds_6 ?_
  refine pf_X10_32 fl_X10_82 (lk131 hG) dX10_adds_7 (aw_nameI fun I_1 e_2 => ?_)
  have h := h I_1 e_2
  refine aw_aload_n 0 dX10_adds_10 rfl rfl ?_
  refine gf_X10_32 fl_X10_82 (lk131 hG) dX10_adds_11 ?_
  refine aw_bipush (v := 20) dX10_adds_14 (by decide) ?_
  refine aw_jle 59 dX10_adds_16 (by decide) (fun c_3 => ?_) (fun c_3 => ?_)
  · have h := sw_if.f h c_3
    exact aw_vret rfl dX10_adds_59 ⟨rfl, rfl, h⟩
  · have h := sw_if.t h c_3
    refine aw_iconst (v := 0) dX10_adds_19 (by decide) ?_
    refine aw_istore_n (lv' := [(1, .int 0), (0, .ref (sz + 131))]) dX10_adds_20 rfl (by decide) rfl ?_
    refine aw_sub [1, 0] rfl ?_
    obtain ⟨n_4, h⟩ := h
    exact tl_X10_adds_21 hG   n_4 0 I_1 J h
theorem M_X10_adds {l : Launch} {D : va_G} {cy : Nat → ClassId} {sz : Nat} {G : sw_G} (hG : sw_lay G)   {Q : sw_I → sw_J → Prop}  {I : sw_I} {J : sw_J} (h : wp_X10_adds  I J Q) : Met l yX10_adds (Cond.code yX10_adds cX10_adds 2 none :: sw_T) rm_X10_adds (sw_Pc D cy sz [.ref (sz + 131)] G I J) (sw_Q D cy sz (sw_qv G Q)) 0 0 (fun q => sz ≤ q) :=
  sw_met (by decide) (fun q => by cases q) (Nat.le_of_ble_eq_true rfl) rfl (t_X10_adds hG  h)
-- X10_undo
abbrev rm_X10_undo : Room := { frames := 0, cells := 0, slots := 0, locals := 0 }
def wb_X10_undo_26  (K26 : Int32 → sw_I → sw_J → Prop) (Q : Int32 → sw_I → sw_J → Prop) (x1 : Int32) (I : sw_I) (J : sw_J) : Prop :=
  sw_if (x1 < (33 : Int32)) (vp_in (((33 : Int32) * (I 131 32)) + x1) 693 ∧ vp_in x1 33 ∧ ∀ I_4 : sw_I, I_4 = sw_up I 135 x1.toNatClampNeg (I 146 (((33 : Int32) * (I 131 32)) + x1).toNatClampNeg) → ∀ y_6 : Int32, y_6 = x1 + 1 → K26 y_6 I_4 J) (Q (I 131 32) I J)
def wl_X10_undo_26   (Q : Int32 → sw_I → sw_J → Prop) : Nat → Int32 → sw_I → sw_J → Prop
  | 0 => fun _ _ _ => False
  | n + 1 => fun x1 I J => wb_X10_undo_26  (wl_X10_undo_26   Q n) Q x1 I J
def wp_X10_undo  (I : sw_I) (J : sw_J) (Q : Int32 → sw_I → sw_J → Prop) : Prop :=
  ∀ I_1 : sw_I, I_1 = sw_up I 131 0 (0 : Int32) → sw_if ((I_1 131 32) = 0) (Q (-1 : Int32) I_1 J) (∀ I_4 : sw_I, I_4 = sw_up I_1 131 32 ((I_1 131 32) - (1 : Int32)) → ∃ n_6 : Nat, wl_X10_undo_26   Q n_6 0 I_4 J)
set_option maxRecDepth 20000 in
theorem tb_X10_undo_26 {l : Launch} {D : va_G} {cy : Nat → ClassId} {sz : Nat} {G : sw_G} (hG : sw_lay G)   {Q : Int32 → sw_I → sw_J → Prop} {K26 : Int32 → sw_I → sw_J → Prop} (hK26 : ∀ (x1 : Int32) (I : sw_I) (J : sw_J), K26 x1 I J → AW l D cy sz RX10 cX10_undo 2 (some .int) false rm_X10_undo 0 0 (sw_qi G Q) 0 0 G I J 26 [(0, .ref (sz + 131)), (1, .int x1)] []) {x1 : Int32} {I : sw_I} {J : sw_J} (h : wb_X10_undo_26  K26 Q x1 I J) : AW l D cy sz RX10 cX10_undo 2 (some .int) false rm_X10_undo 0 0 (sw_qi G Q) 0 0 G I J 26 [(0, .ref (sz + 131)), (1, .int x1)] [] := by
  unfold wb_X10_undo_26 at h
  refine aw_iload_n 1 dX10_undo_26 rfl rfl ?_
  refine aw_bipush (v := 33) dX10_undo_27 (by decide) ?_
  refine aw_jge 58 dX10_undo_29 (by decide) (fun c_1 => ?_) (fun c_1 => ?_)
  · have h := sw_if.f h c_1
    refine aw_aload_n 0 dX10_undo_58 rfl rfl ?_
    refine gf_X10_32 fl_X10_82 (lk131 hG) dX10_undo_59 ?_
    exact aw_iret rfl dX10_undo_62 ⟨rfl, _, rfl, h⟩
  · have h := sw_if.t h c_1
    refine aw_aload_n 0 dX10_undo_32 rfl rfl ?_
    refine gf_X10_9 fl_X10_79 (lk131 hG) (lr131_9 hG) dX10_undo_33 ?_
    refine aw_iload_n 1 dX10_undo_36 rfl rfl ?_
    refine aw_aload_n 0 dX10_undo_37 rfl rfl ?_
    refine gf_X10_33 fl_X10_245 (lk131 hG) (lr131_33 hG) dX10_undo_38 ?_
    refine aw_bipush (v := 33) dX10_undo_41 (by decide) ?_
    refine aw_aload_n 0 dX10_undo_43 rfl rfl ?_
    refine gf_X10_32 fl_X10_82 (lk131 hG) dX10_undo_44 ?_
    refine aw_imul dX10_undo_47 ?_
    refine aw_iload_n 1 dX10_undo_48 rfl rfl ?_
    refine aw_iadd dX10_undo_49 ?_
    obtain ⟨hi_2, h⟩ := h
    refine aw_ild dX10_undo_50 (lk146 hG) (ln146 hG) hi_2 ?_
    obtain ⟨hi_3, h⟩ := h
    refine aw_ist dX10_undo_51 (lk135 hG) (ln135 hG) hi_3 (aw_nameI fun I_4 e_5 => ?_)
    have h := h I_4 e_5
    obtain ⟨y_6, e_7⟩ : ∃ q : Int32, q = x1 + 1 := ⟨_, rfl⟩
    have h := h y_6 e_7
    refine aw_iinc (lv' := [(1, .int y_6), (0, .ref (sz + 131))]) 1 dX10_undo_52 rfl (by rw [e_7]; rfl) (by decide) rfl ?_
    refine aw_goto 26 dX10_undo_55 (by decide) ?_
    refine aw_sub [1, 0] rfl ?_
    exact hK26 y_6 I_4 J h
set_option maxRecDepth 20000 in
theorem tl_X10_undo_26 {l : Launch} {D : va_G} {cy : Nat → ClassId} {sz : Nat} {G : sw_G} (hG : sw_lay G)   {Q : Int32 → sw_I → sw_J → Prop} : ∀ (n : Nat) (x1 : Int32) (I : sw_I) (J : sw_J), wl_X10_undo_26   Q n x1 I J → AW l D cy sz RX10 cX10_undo 2 (some .int) false rm_X10_undo 0 0 (sw_qi G Q) 0 0 G I J 26 [(0, .ref (sz + 131)), (1, .int x1)] [] := by
  intro n
  induction n with
  | zero => intro x1 I J h; exact False.elim h
  | succ n ih => intro x1 I J h; exact tb_X10_undo_26 hG  ih h
set_option maxRecDepth 20000 in
theorem t_X10_undo {l : Launch} {D : va_G} {cy : Nat → ClassId} {sz : Nat} {G : sw_G} (hG : sw_lay G)   {Q : Int32 → sw_I → sw_J → Prop}  {I : sw_I} {J : sw_J} (h : wp_X10_undo  I J Q) : AW l D cy sz RX10 cX10_undo 2 (some .int) false rm_X10_undo 0 0 (sw_qi G Q) 0 0 G I J 0 [(0, .ref (sz + 131))] [] := by
  unfold wp_X10_undo at h
  refine aw_aload_n 0 dX10_undo_0 rfl rfl ?_
  refine aw_iconst (v := 0) dX10_undo_1 (by decide) ?_
  refine pf_X10_0 fl_X10_3 (lk131 hG) dX10_undo_2 (aw_nameI fun I_1 e_2 => ?_)
  have h := h I_1 e_2
  refine aw_aload_n 0 dX10_undo_5 rfl rfl ?_
  refine gf_X10_32 fl_X10_82 (lk131 hG) dX10_undo_6 ?_
  refine aw_zne 14 dX10_undo_9 (by decide) (fun c_3 => ?_) (fun c_3 => ?_)
  · have h := sw_if.f h c_3
    refine aw_aload_n 0 dX10_undo_14 rfl rfl ?_
    refine aw_dup dX10_undo_15 rfl ?_
    refine gf_X10_32 fl_X10_82 (lk131 hG) dX10_undo_16 ?_
    refine aw_iconst (v := 1) dX10_undo_19 (by decide) ?_
    refine aw_isub dX10_undo_20 ?_
    refine pf_X10_32 fl_X10_82 (lk131 hG) dX10_undo_21 (aw_nameI fun I_4 e_5 => ?_)
    have h := h I_4 e_5
    refine aw_iconst (v := 0) dX10_undo_24 (by decide) ?_
    refine aw_istore_n (lv' := [(1, .int 0), (0, .ref (sz + 131))]) dX10_undo_25 rfl (by decide) rfl ?_
    refine aw_sub [1, 0] rfl ?_
    obtain ⟨n_6, h⟩ := h
    exact tl_X10_undo_26 hG   n_6 0 I_4 J h
  · have h := sw_if.t h c_3
    refine aw_iconst (v := (-1)) dX10_undo_12 (by decide) ?_
    exact aw_iret rfl dX10_undo_13 ⟨rfl, _, rfl, h⟩
theorem M_X10_undo {l : Launch} {D : va_G} {cy : Nat → ClassId} {sz : Nat} {G : sw_G} (hG : sw_lay G)   {Q : Int32 → sw_I → sw_J → Prop}  {I : sw_I} {J : sw_J} (h : wp_X10_undo  I J Q) : Met l yX10_undo (Cond.code yX10_undo cX10_undo 2 (some .int) :: sw_T) rm_X10_undo (sw_Pc D cy sz [.ref (sz + 131)] G I J) (sw_Q D cy sz (sw_qi G Q)) 0 0 (fun q => sz ≤ q) :=
  sw_met (by decide) (fun q => by cases q) (Nat.le_of_ble_eq_true rfl) rfl (t_X10_undo hG  h)
-- X10_canEnter
abbrev rm_X10_canEnter : Room := { frames := 2, cells := 0, slots := 0, locals := 46 }
def wp_X10_canEnter (x1 : Int32) (I : sw_I) (J : sw_J) (Q : Int32 → sw_I → sw_J → Prop) : Prop :=
  wp_X10_isRider x1 I J (fun r_1 I_2 J_3 => sw_if (r_1 = 0) (Q 0 I_2 J_3) (vp_in x1 33 ∧ sw_if ((I_2 135 x1.toNatClampNeg) = (I_2 135 (31 : Int32).toNatClampNeg)) (wp_X10_has (I_2 135 (30 : Int32).toNatClampNeg) x1 I_2 J_3 (fun r_9 I_10 J_11 => sw_if (r_9 = 0) (Q 1 I_10 J_11) (Q 0 I_10 J_11))) (Q 0 I_2 J_3)))
set_option maxRecDepth 20000 in
theorem t_X10_canEnter {l : Launch} {D : va_G} {cy : Nat → ClassId} {sz : Nat} {G : sw_G} (hG : sw_lay G)   {Q : Int32 → sw_I → sw_J → Prop} {x1 : Int32} {I : sw_I} {J : sw_J} (h : wp_X10_canEnter x1 I J Q) : AW l D cy sz RX10 cX10_canEnter 2 (some .boolean) false rm_X10_canEnter 0 0 (sw_qi G Q) 0 0 G I J 0 [(0, .ref (sz + 131)), (1, .int x1)] [] := by
  unfold wp_X10_canEnter at h
  refine aw_aload_n 0 dX10_canEnter_0 rfl rfl ?_
  refine aw_iload_n 1 dX10_canEnter_1 rfl rfl ?_
  refine aw_callV wv_X10_isRider (M_X10_isRider hG  h) ml_X10_226 rfl (by decide) (lk131 hG) rfl rfl (Nat.le_of_ble_eq_true rfl) ⟨rfl, rfl⟩ ⟨Nat.le_of_ble_eq_true rfl, Nat.le_of_ble_eq_true rfl⟩ ⟨Nat.le_refl _, Nat.le_refl _⟩ dX10_canEnter_2 (aw_ki fun r_1 I_2 J_3 h => ?_)
  refine aw_zeq 42 dX10_canEnter_5 (by decide) (fun c_4 => ?_) (fun c_4 => ?_)
  · have h := sw_if.t h c_4
    refine aw_iconst (v := 0) dX10_canEnter_42 (by decide) ?_
    exact aw_zret rfl rfl dX10_canEnter_43 ⟨rfl, _, rfl, h⟩
  · have h := sw_if.f h c_4
    refine aw_aload_n 0 dX10_canEnter_8 rfl rfl ?_
    refine gf_X10_9 fl_X10_79 (lk131 hG) (lr131_9 hG) dX10_canEnter_9 ?_
    refine aw_iload_n 1 dX10_canEnter_12 rfl rfl ?_
    obtain ⟨hi_5, h⟩ := h
    refine aw_ild dX10_canEnter_13 (lk135 hG) (ln135 hG) hi_5 ?_
    refine aw_aload_n 0 dX10_canEnter_14 rfl rfl ?_
    refine gf_X10_9 fl_X10_79 (lk131 hG) (lr131_9 hG) dX10_canEnter_15 ?_
    refine aw_bipush (v := 31) dX10_canEnter_18 (by decide) ?_
    refine aw_ild dX10_canEnter_20 (lk135 hG) (ln135 hG) (by unfold vp_in; decide) ?_
    refine aw_jne 42 dX10_canEnter_21 (by decide) (fun c_7 => ?_) (fun c_7 => ?_)
    · have h := sw_if.f h c_7
      refine aw_iconst (v := 0) dX10_canEnter_42 (by decide) ?_
      exact aw_zret rfl rfl dX10_canEnter_43 ⟨rfl, _, rfl, h⟩
    · have h := sw_if.t h c_7
      refine aw_aload_n 0 dX10_canEnter_24 rfl rfl ?_
      refine gf_X10_9 fl_X10_79 (lk131 hG) (lr131_9 hG) dX10_canEnter_25 ?_
      refine aw_bipush (v := 30) dX10_canEnter_28 (by decide) ?_
      refine aw_ild dX10_canEnter_30 (lk135 hG) (ln135 hG) (by unfold vp_in; decide) ?_
      refine aw_iload_n 1 dX10_canEnter_31 rfl rfl ?_
      refine aw_callS wv_X10_has (M_X10_has trivial  h) ml_X10_195 rfl rfl (Nat.le_of_ble_eq_true rfl) ⟨rfl, rfl⟩ ⟨Nat.le_of_ble_eq_true rfl, Nat.le_of_ble_eq_true rfl⟩ ⟨Nat.le_refl _, Nat.le_refl _⟩ dX10_canEnter_32 (aw_ki fun r_9 I_10 J_11 h => ?_)
      refine aw_zne 42 dX10_canEnter_35 (by decide) (fun c_12 => ?_) (fun c_12 => ?_)
      · have h := sw_if.f h c_12
        refine aw_iconst (v := 0) dX10_canEnter_42 (by decide) ?_
        exact aw_zret rfl rfl dX10_canEnter_43 ⟨rfl, _, rfl, h⟩
      · have h := sw_if.t h c_12
        refine aw_iconst (v := 1) dX10_canEnter_38 (by decide) ?_
        refine aw_goto 43 dX10_canEnter_39 (by decide) ?_
        exact aw_zret rfl rfl dX10_canEnter_43 ⟨rfl, _, rfl, h⟩
theorem M_X10_canEnter {l : Launch} {D : va_G} {cy : Nat → ClassId} {sz : Nat} {G : sw_G} (hG : sw_lay G)   {Q : Int32 → sw_I → sw_J → Prop} {x1 : Int32} {I : sw_I} {J : sw_J} (h : wp_X10_canEnter x1 I J Q) : Met l yX10_canEnter (Cond.code yX10_canEnter cX10_canEnter 2 (some .boolean) :: sw_T) rm_X10_canEnter (sw_Pc D cy sz [.ref (sz + 131), .int x1] G I J) (sw_Q D cy sz (sw_qi G Q)) 0 0 (fun q => sz ≤ q) :=
  sw_met (by decide) (fun q => by cases q) (Nat.le_of_ble_eq_true rfl) rfl (t_X10_canEnter hG  h)
-- X10_canLeave
abbrev rm_X10_canLeave : Room := { frames := 2, cells := 0, slots := 0, locals := 46 }
def wp_X10_canLeave (x1 : Int32) (I : sw_I) (J : sw_J) (Q : Int32 → sw_I → sw_J → Prop) : Prop :=
  wp_X10_isRider x1 I J (fun r_1 I_2 J_3 => sw_if (r_1 = 0) (Q 0 I_2 J_3) (wp_X10_has (I_2 135 (30 : Int32).toNatClampNeg) x1 I_2 J_3 (fun r_6 I_7 J_8 => sw_if (r_6 = 0) (Q 0 I_7 J_8) (Q 1 I_7 J_8))))
set_option maxRecDepth 20000 in
theorem t_X10_canLeave {l : Launch} {D : va_G} {cy : Nat → ClassId} {sz : Nat} {G : sw_G} (hG : sw_lay G)   {Q : Int32 → sw_I → sw_J → Prop} {x1 : Int32} {I : sw_I} {J : sw_J} (h : wp_X10_canLeave x1 I J Q) : AW l D cy sz RX10 cX10_canLeave 2 (some .boolean) false rm_X10_canLeave 0 0 (sw_qi G Q) 0 0 G I J 0 [(0, .ref (sz + 131)), (1, .int x1)] [] := by
  unfold wp_X10_canLeave at h
  refine aw_aload_n 0 dX10_canLeave_0 rfl rfl ?_
  refine aw_iload_n 1 dX10_canLeave_1 rfl rfl ?_
  refine aw_callV wv_X10_isRider (M_X10_isRider hG  h) ml_X10_226 rfl (by decide) (lk131 hG) rfl rfl (Nat.le_of_ble_eq_true rfl) ⟨rfl, rfl⟩ ⟨Nat.le_of_ble_eq_true rfl, Nat.le_of_ble_eq_true rfl⟩ ⟨Nat.le_refl _, Nat.le_refl _⟩ dX10_canLeave_2 (aw_ki fun r_1 I_2 J_3 h => ?_)
  refine aw_zeq 26 dX10_canLeave_5 (by decide) (fun c_4 => ?_) (fun c_4 => ?_)
  · have h := sw_if.t h c_4
    refine aw_iconst (v := 0) dX10_canLeave_26 (by decide) ?_
    exact aw_zret rfl rfl dX10_canLeave_27 ⟨rfl, _, rfl, h⟩
  · have h := sw_if.f h c_4
    refine aw_aload_n 0 dX10_canLeave_8 rfl rfl ?_
    refine gf_X10_9 fl_X10_79 (lk131 hG) (lr131_9 hG) dX10_canLeave_9 ?_
    refine aw_bipush (v := 30) dX10_canLeave_12 (by decide) ?_
    refine aw_ild dX10_canLeave_14 (lk135 hG) (ln135 hG) (by unfold vp_in; decide) ?_
    refine aw_iload_n 1 dX10_canLeave_15 rfl rfl ?_
    refine aw_callS wv_X10_has (M_X10_has trivial  h) ml_X10_195 rfl rfl (Nat.le_of_ble_eq_true rfl) ⟨rfl, rfl⟩ ⟨Nat.le_of_ble_eq_true rfl, Nat.le_of_ble_eq_true rfl⟩ ⟨Nat.le_refl _, Nat.le_refl _⟩ dX10_canLeave_16 (aw_ki fun r_6 I_7 J_8 h => ?_)
    refine aw_zeq 26 dX10_canLeave_19 (by decide) (fun c_9 => ?_) (fun c_9 => ?_)
    · have h := sw_if.t h c_9
      refine aw_iconst (v := 0) dX10_canLeave_26 (by decide) ?_
      exact aw_zret rfl rfl dX10_canLeave_27 ⟨rfl, _, rfl, h⟩
    · have h := sw_if.f h c_9
      refine aw_iconst (v := 1) dX10_canLeave_22 (by decide) ?_
      refine aw_goto 27 dX10_canLeave_23 (by decide) ?_
      exact aw_zret rfl rfl dX10_canLeave_27 ⟨rfl, _, rfl, h⟩
theorem M_X10_canLeave {l : Launch} {D : va_G} {cy : Nat → ClassId} {sz : Nat} {G : sw_G} (hG : sw_lay G)   {Q : Int32 → sw_I → sw_J → Prop} {x1 : Int32} {I : sw_I} {J : sw_J} (h : wp_X10_canLeave x1 I J Q) : Met l yX10_canLeave (Cond.code yX10_canLeave cX10_canLeave 2 (some .boolean) :: sw_T) rm_X10_canLeave (sw_Pc D cy sz [.ref (sz + 131), .int x1] G I J) (sw_Q D cy sz (sw_qi G Q)) 0 0 (fun q => sz ≤ q) :=
  sw_met (by decide) (fun q => by cases q) (Nat.le_of_ble_eq_true rfl) rfl (t_X10_canLeave hG  h)
