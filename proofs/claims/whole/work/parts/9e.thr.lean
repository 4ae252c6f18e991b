-- X9_of
abbrev rm_X9_of : Room := { frames := 6, cells := 1, slots := 6, locals := 89 }
def wp_X9_of (x1 : Int32) (x2 : Int32) (I : sw_I) (J : sw_J) (Q : Int32 → sw_I → sw_J → Prop) (X : sw_I → sw_J → Prop) : Prop :=
  wp_X1_hasRider x1 I J (fun r_1 I_2 J_3 => sw_if (r_1 = 0) (X I_2 J_3) (sw_if (x2 = 0) (vp_in x1 10 ∧ Q (I_2 4 x1.toNatClampNeg) I_2 J_3) (sw_if (x2 = 1) (vp_in x1 10 ∧ Q (I_2 15 x1.toNatClampNeg) I_2 J_3) (sw_if (x2 = 2) (vp_in x1 10 ∧ Q (I_2 5 x1.toNatClampNeg) I_2 J_3) (sw_if (x2 = 3) (vp_in x1 10 ∧ Q (I_2 14 x1.toNatClampNeg) I_2 J_3) (sw_if (x2 = 4) (Q (((I_2 13 3) >>> (x1 &&& 31)) &&& (1 : Int32)) I_2 J_3) (sw_if (x2 = 5) (vp_in x1 10 ∧ Q (I_2 16 x1.toNatClampNeg) I_2 J_3) (X I_2 J_3))))))))
set_option maxRecDepth 20000 in
theorem t_X9_of {l : Launch} {D : va_G} {cy : Nat → ClassId} {sz : Nat} {G : sw_G} (hl : l.stackTraces = false) (hG : sw_lay G)   {Q : Int32 → sw_I → sw_J → Prop} {X : sw_I → sw_J → Prop} {x1 : Int32} {x2 : Int32} {I : sw_I} {J : sw_J} (h : wp_X9_of x1 x2 I J Q X) : AX l D cy sz RX9 cX9_of 3 (some .int) false rm_X9_of 1 6 (sw_qxi G Q X) 0 0 G I J 0 [(0, .ref (sz + 0)), (1, .int x1), (2, .int x2)] [] := by
  unfold wp_X9_of at h
  refine ax_aload_n 0 dX9_of_0 rfl rfl ?_
  refine gx_X9_1 fl_X9_19 (lk0 hG) (lr0_1 hG) dX9_of_1 ?_
  refine ax_iload_n 1 dX9_of_4 rfl rfl ?_
  refine ax_callV wv_X1_hasRider (M_X1_hasRider hG  h) ml_X9_122 rfl (by decide) (lk3 hG) rfl rfl (Nat.le_of_ble_eq_true rfl) ⟨rfl, rfl⟩ ⟨Nat.le_of_ble_eq_true rfl, Nat.le_of_ble_eq_true rfl⟩ ⟨Nat.le_of_ble_eq_true rfl, Nat.le_of_ble_eq_true rfl⟩ dX9_of_5 (ax_ki fun r_1 I_2 J_3 h => ?_)
  refine ax_zne 19 dX9_of_8 (by decide) (fun c_4 => ?_) (fun c_4 => ?_)
  · have h := sw_if.f h c_4
    refine ax_iload_n 2 dX9_of_19 rfl rfl ?_
    by_cases c_5 : x2 = 0
    · have h := sw_if.t h c_5; refine ax_tableIn 60 dX9_of_20 (by rw [c_5]; decide) (by rw [c_5]; decide) (by rw [c_5]; rfl) (by decide) ?_
      refine ax_aload_n 0 dX9_of_60 rfl rfl ?_
      refine gx_X9_1 fl_X9_19 (lk0 hG) (lr0_1 hG) dX9_of_61 ?_
      refine gx_X1_3 fl_X9_129 (lk3 hG) (lr3_3 hG) dX9_of_64 ?_
      refine ax_iload_n 1 dX9_of_67 rfl rfl ?_
      obtain ⟨hi_6, h⟩ := h
      refine ax_ild dX9_of_68 (lk4 hG) (ln4 hG) hi_6 ?_
      exact ax_lift (Nat.le_of_ble_eq_true rfl) (Nat.le_of_ble_eq_true rfl) (aw_iret rfl dX9_of_69 ⟨rfl, rfl, Or.inl ⟨_, rfl, h⟩⟩)
    · have h := sw_if.f h c_5
      by_cases c_7 : x2 = 1
      · have h := sw_if.t h c_7; refine ax_tableIn 70 dX9_of_20 (by rw [c_7]; decide) (by rw [c_7]; decide) (by rw [c_7]; rfl) (by decide) ?_
        refine ax_aload_n 0 dX9_of_70 rfl rfl ?_
        refine gx_X9_2 fl_X9_26 (lk0 hG) (lr0_2 hG) dX9_of_71 ?_
        refine gx_X3_1 fl_X9_133 (lk13 hG) (lr13_1 hG) dX9_of_74 ?_
        refine ax_iload_n 1 dX9_of_77 rfl rfl ?_
        obtain ⟨hi_8, h⟩ := h
        refine ax_ild dX9_of_78 (lk15 hG) (ln15 hG) hi_8 ?_
        exact ax_lift (Nat.le_of_ble_eq_true rfl) (Nat.le_of_ble_eq_true rfl) (aw_iret rfl dX9_of_79 ⟨rfl, rfl, Or.inl ⟨_, rfl, h⟩⟩)
      · have h := sw_if.f h c_7
        by_cases c_9 : x2 = 2
        · have h := sw_if.t h c_9; refine ax_tableIn 80 dX9_of_20 (by rw [c_9]; decide) (by rw [c_9]; decide) (by rw [c_9]; rfl) (by decide) ?_
          refine ax_aload_n 0 dX9_of_80 rfl rfl ?_
          refine gx_X9_1 fl_X9_19 (lk0 hG) (lr0_1 hG) dX9_of_81 ?_
          refine gx_X1_4 fl_X9_136 (lk3 hG) (lr3_4 hG) dX9_of_84 ?_
          refine ax_iload_n 1 dX9_of_87 rfl rfl ?_
          obtain ⟨hi_10, h⟩ := h
          refine ax_ild dX9_of_88 (lk5 hG) (ln5 hG) hi_10 ?_
          exact ax_lift (Nat.le_of_ble_eq_true rfl) (Nat.le_of_ble_eq_true rfl) (aw_iret rfl dX9_of_89 ⟨rfl, rfl, Or.inl ⟨_, rfl, h⟩⟩)
        · have h := sw_if.f h c_9
          by_cases c_11 : x2 = 3
          · have h := sw_if.t h c_11; refine ax_tableIn 90 dX9_of_20 (by rw [c_11]; decide) (by rw [c_11]; decide) (by rw [c_11]; rfl) (by decide) ?_
            refine ax_aload_n 0 dX9_of_90 rfl rfl ?_
            refine gx_X9_2 fl_X9_26 (lk0 hG) (lr0_2 hG) dX9_of_91 ?_
            refine gx_X3_0 fl_X9_139 (lk13 hG) (lr13_0 hG) dX9_of_94 ?_
            refine ax_iload_n 1 dX9_of_97 rfl rfl ?_
            obtain ⟨hi_12, h⟩ := h
            refine ax_ild dX9_of_98 (lk14 hG) (ln14 hG) hi_12 ?_
            exact ax_lift (Nat.le_of_ble_eq_true rfl) (Nat.le_of_ble_eq_true rfl) (aw_iret rfl dX9_of_99 ⟨rfl, rfl, Or.inl ⟨_, rfl, h⟩⟩)
          · have h := sw_if.f h c_11
            by_cases c_13 : x2 = 4
            · have h := sw_if.t h c_13; refine ax_tableIn 100 dX9_of_20 (by rw [c_13]; decide) (by rw [c_13]; decide) (by rw [c_13]; rfl) (by decide) ?_
              refine ax_aload_n 0 dX9_of_100 rfl rfl ?_
              refine gx_X9_2 fl_X9_26 (lk0 hG) (lr0_2 hG) dX9_of_101 ?_
              refine gx_X3_3 fl_X9_142 (lk13 hG) dX9_of_104 ?_
              refine ax_iload_n 1 dX9_of_107 rfl rfl ?_
              refine ax_ishr dX9_of_108 ?_
              refine ax_iconst (v := 1) dX9_of_109 (by decide) ?_
              refine ax_iand dX9_of_110 ?_
              exact ax_lift (Nat.le_of_ble_eq_true rfl) (Nat.le_of_ble_eq_true rfl) (aw_iret rfl dX9_of_111 ⟨rfl, rfl, Or.inl ⟨_, rfl, h⟩⟩)
            · have h := sw_if.f h c_13
              by_cases c_14 : x2 = 5
              · have h := sw_if.t h c_14; refine ax_tableIn 112 dX9_of_20 (by rw [c_14]; decide) (by rw [c_14]; decide) (by rw [c_14]; rfl) (by decide) ?_
                refine ax_aload_n 0 dX9_of_112 rfl rfl ?_
                refine gx_X9_2 fl_X9_26 (lk0 hG) (lr0_2 hG) dX9_of_113 ?_
                refine gx_X3_2 fl_X9_145 (lk13 hG) (lr13_2 hG) dX9_of_116 ?_
                refine ax_iload_n 1 dX9_of_119 rfl rfl ?_
                obtain ⟨hi_15, h⟩ := h
                refine ax_ild dX9_of_120 (lk16 hG) (ln16 hG) hi_15 ?_
                exact ax_lift (Nat.le_of_ble_eq_true rfl) (Nat.le_of_ble_eq_true rfl) (aw_iret rfl dX9_of_121 ⟨rfl, rfl, Or.inl ⟨_, rfl, h⟩⟩)
              · have h := sw_if.f h c_14
                refine ax_tableOut 122 dX9_of_20 (by have g0 := sw_ne c_5 (by decide : (0 : Int32).toInt = 0); have g1 := sw_ne c_7 (by decide : (1 : Int32).toInt = 1); have g2 := sw_ne c_9 (by decide : (2 : Int32).toInt = 2); have g3 := sw_ne c_11 (by decide : (3 : Int32).toInt = 3); have g4 := sw_ne c_13 (by decide : (4 : Int32).toInt = 4); have g5 := sw_ne c_14 (by decide : (5 : Int32).toInt = 5); omega) (by decide) ?_
                exact ax_throw hl rfl hG.1 dX9_of_122 dX9_of_125 dX9_of_126 dX9_of_129 (Nat.le_of_ble_eq_true rfl) (Nat.le_of_ble_eq_true rfl) (Nat.le_of_ble_eq_true rfl) (Nat.le_of_ble_eq_true rfl) (Nat.le_of_ble_eq_true rfl) (Nat.le_of_ble_eq_true rfl) ⟨rfl, Or.inr ⟨rfl, h⟩⟩
  · have h := sw_if.t h c_4
    exact ax_throw hl rfl hG.1 dX9_of_11 dX9_of_14 dX9_of_15 dX9_of_18 (Nat.le_of_ble_eq_true rfl) (Nat.le_of_ble_eq_true rfl) (Nat.le_of_ble_eq_true rfl) (Nat.le_of_ble_eq_true rfl) (Nat.le_of_ble_eq_true rfl) (Nat.le_of_ble_eq_true rfl) ⟨rfl, Or.inr ⟨rfl, h⟩⟩
theorem M_X9_of {l : Launch} {D : va_G} {cy : Nat → ClassId} {sz : Nat} {G : sw_G} (hl : l.stackTraces = false) (hG : sw_lay G) {Q : Int32 → sw_I → sw_J → Prop} {X : sw_I → sw_J → Prop} {x1 : Int32} {x2 : Int32} {I : sw_I} {J : sw_J} (h : wp_X9_of x1 x2 I J Q X) : vx_Met l yX9_of (Cond.code yX9_of cX9_of 3 (some .int) :: sw_T) rm_X9_of (sw_Pc D cy sz [.ref (sz + 0), .int x1, .int x2] G I J) (sw_Q D cy sz (ax_q (sw_qxi G Q X))) (ax_XC D cy sz (sw_qxi G Q X)) 1 6 (fun q => sz ≤ q) :=
  ax_met (by decide) (fun q => by cases q) (Nat.le_of_ble_eq_true rfl) rfl (t_X9_of hl hG h)

-- X9_worthOf
abbrev rm_X9_worthOf : Room := { frames := 6, cells := 1, slots := 6, locals := 89 }
def wp_X9_worthOf (x1 : Int32) (I : sw_I) (J : sw_J) (Q : Int32 → sw_I → sw_J → Prop) (X : sw_I → sw_J → Prop) : Prop :=
  wp_X1_hasFloor x1 I J (fun r_1 I_2 J_3 => sw_if (r_1 = 0) (X I_2 J_3) (wp_X1_look 13 (I_2 13 3) I_2 J_3 (fun I_6 J_7 => wp_X2_worth x1 I_6 J_7 (fun r_8 I_9 J_10 => Q r_8 I_9 J_10))))
set_option maxRecDepth 20000 in
theorem t_X9_worthOf {l : Launch} {D : va_G} {cy : Nat → ClassId} {sz : Nat} {G : sw_G} (hl : l.stackTraces = false) (hG : sw_lay G)   {Q : Int32 → sw_I → sw_J → Prop} {X : sw_I → sw_J → Prop} {x1 : Int32} {I : sw_I} {J : sw_J} (h : wp_X9_worthOf x1 I J Q X) : AX l D cy sz RX9 cX9_worthOf 2 (some .int) false rm_X9_worthOf 1 6 (sw_qxi G Q X) 0 0 G I J 0 [(0, .ref (sz + 0)), (1, .int x1)] [] := by
  unfold wp_X9_worthOf at h
  refine ax_aload_n 0 dX9_worthOf_0 rfl rfl ?_
  refine gx_X9_1 fl_X9_19 (lk0 hG) (lr0_1 hG) dX9_worthOf_1 ?_
  refine ax_iload_n 1 dX9_worthOf_4 rfl rfl ?_
  refine ax_callV wv_X1_hasFloor (M_X1_hasFloor hG  h) ml_X9_148 rfl (by decide) (lk3 hG) rfl rfl (Nat.le_of_ble_eq_true rfl) ⟨rfl, rfl⟩ ⟨Nat.le_of_ble_eq_true rfl, Nat.le_of_ble_eq_true rfl⟩ ⟨Nat.le_of_ble_eq_true rfl, Nat.le_of_ble_eq_true rfl⟩ dX9_worthOf_5 (ax_ki fun r_1 I_2 J_3 h => ?_)
  refine ax_zne 19 dX9_worthOf_8 (by decide) (fun c_4 => ?_) (fun c_4 => ?_)
  · have h := sw_if.f h c_4
    refine ax_aload_n 0 dX9_worthOf_19 rfl rfl ?_
    refine gx_X9_1 fl_X9_19 (lk0 hG) (lr0_1 hG) dX9_worthOf_20 ?_
    refine ax_aload_n 0 dX9_worthOf_23 rfl rfl ?_
    refine gx_X9_2 fl_X9_26 (lk0 hG) (lr0_2 hG) dX9_worthOf_24 ?_
    refine ax_aload_n 0 dX9_worthOf_27 rfl rfl ?_
    refine gx_X9_2 fl_X9_26 (lk0 hG) (lr0_2 hG) dX9_worthOf_28 ?_
    refine gx_X3_3 fl_X9_142 (lk13 hG) dX9_worthOf_31 ?_
    refine ax_callV wv_X1_look (M_X1_look hG (lm13 hG) h) ml_X9_225 rfl (by decide) (lk3 hG) rfl rfl (Nat.le_of_ble_eq_true rfl) ⟨rfl, rfl⟩ ⟨Nat.le_of_ble_eq_true rfl, Nat.le_of_ble_eq_true rfl⟩ ⟨Nat.le_of_ble_eq_true rfl, Nat.le_of_ble_eq_true rfl⟩ dX9_worthOf_34 (ax_kv fun I_6 J_7 h => ?_)
    refine ax_aload_n 0 dX9_worthOf_37 rfl rfl ?_
    refine gx_X9_1 fl_X9_19 (lk0 hG) (lr0_1 hG) dX9_worthOf_38 ?_
    refine gx_X1_5 fl_X9_108 (lk3 hG) (lr3_5 hG) dX9_worthOf_41 ?_
    refine ax_aload_n 0 dX9_worthOf_44 rfl rfl ?_
    refine gx_X9_1 fl_X9_19 (lk0 hG) (lr0_1 hG) dX9_worthOf_45 ?_
    refine gx_X1_6 fl_X9_232 (lk3 hG) (lr3_6 hG) dX9_worthOf_48 ?_
    refine ax_iload_n 1 dX9_worthOf_51 rfl rfl ?_
    refine ax_callV wv_X2_worth (M_X2_worth hG  h) ml_X9_236 rfl (by decide) (lk6 hG) rfl rfl (Nat.le_of_ble_eq_true rfl) ⟨rfl, rfl⟩ ⟨Nat.le_of_ble_eq_true rfl, Nat.le_of_ble_eq_true rfl⟩ ⟨Nat.le_of_ble_eq_true rfl, Nat.le_of_ble_eq_true rfl⟩ dX9_worthOf_52 (ax_ki fun r_8 I_9 J_10 h => ?_)
    exact ax_lift (Nat.le_of_ble_eq_true rfl) (Nat.le_of_ble_eq_true rfl) (aw_iret rfl dX9_worthOf_55 ⟨rfl, rfl, Or.inl ⟨_, rfl, h⟩⟩)
  · have h := sw_if.t h c_4
    exact ax_throw hl rfl hG.1 dX9_worthOf_11 dX9_worthOf_14 dX9_worthOf_15 dX9_worthOf_18 (Nat.le_of_ble_eq_true rfl) (Nat.le_of_ble_eq_true rfl) (Nat.le_of_ble_eq_true rfl) (Nat.le_of_ble_eq_true rfl) (Nat.le_of_ble_eq_true rfl) (Nat.le_of_ble_eq_true rfl) ⟨rfl, Or.inr ⟨rfl, h⟩⟩
theorem M_X9_worthOf {l : Launch} {D : va_G} {cy : Nat → ClassId} {sz : Nat} {G : sw_G} (hl : l.stackTraces = false) (hG : sw_lay G) {Q : Int32 → sw_I → sw_J → Prop} {X : sw_I → sw_J → Prop} {x1 : Int32} {I : sw_I} {J : sw_J} (h : wp_X9_worthOf x1 I J Q X) : vx_Met l yX9_worthOf (Cond.code yX9_worthOf cX9_worthOf 2 (some .int) :: sw_T) rm_X9_worthOf (sw_Pc D cy sz [.ref (sz + 0), .int x1] G I J) (sw_Q D cy sz (ax_q (sw_qxi G Q X))) (ax_XC D cy sz (sw_qxi G Q X)) 1 6 (fun q => sz ≤ q) :=
  ax_met (by decide) (fun q => by cases q) (Nat.le_of_ble_eq_true rfl) rfl (t_X9_worthOf hl hG h)

-- X9_ballast
abbrev rm_X9_ballast : Room := { frames := 6, cells := 1, slots := 6, locals := 122 }
def wp_X9_ballast (x1 : Int32) (x2 : Int32) (I : sw_I) (J : sw_J) (Q : Int32 → sw_I → sw_J → Prop) (X : sw_I → sw_J → Prop) : Prop :=
  wp_X3_isIn 13 x1 I J (fun r_1 I_2 J_3 => sw_if (r_1 = 0) (X I_2 J_3) (sw_if (x2 < 0) (X I_2 J_3) (sw_if ((40 : Int32) < x2) (X I_2 J_3) (∀ y_7 : Int32, y_7 = ((1 : Int32) <<< (x1 &&& 31)) ^^^ (-1 : Int32) → wp_X9_comeHome (I_2 13 3) x2 I_2 J_3 (fun r_9 I_10 J_11 => ∀ y_12 : Int32, y_12 = r_9 &&& y_7 → wp_X9_comeHome ((I_10 13 3) &&& y_7) x2 I_10 J_11 (fun r_14 I_15 J_16 => wp_J6_bitCount_0f7a4 y_12 I_15 J_16 (fun r_17 I_18 J_19 => wp_J6_bitCount_0f7a4 r_14 I_18 J_19 (fun r_20 I_21 J_22 => Q (r_17 - r_20) I_21 J_22))))))))
set_option maxRecDepth 20000 in
theorem t_X9_ballast {l : Launch} {D : va_G} {cy : Nat → ClassId} {sz : Nat} {G : sw_G} (hl : l.stackTraces = false) (hG : sw_lay G)   {Q : Int32 → sw_I → sw_J → Prop} {X : sw_I → sw_J → Prop} {x1 : Int32} {x2 : Int32} {I : sw_I} {J : sw_J} (h : wp_X9_ballast x1 x2 I J Q X) : AX l D cy sz RX9 cX9_ballast 6 (some .int) false rm_X9_ballast 1 6 (sw_qxi G Q X) 0 0 G I J 0 [(0, .ref (sz + 0)), (1, .int x1), (2, .int x2)] [] := by
  unfold wp_X9_ballast at h
  refine ax_aload_n 0 dX9_ballast_0 rfl rfl ?_
  refine gx_X9_2 fl_X9_26 (lk0 hG) (lr0_2 hG) dX9_ballast_1 ?_
  refine ax_iload_n 1 dX9_ballast_4 rfl rfl ?_
  refine ax_callV wv_X3_isIn (M_X3_isIn trivial (lm13 hG) h) ml_X9_185 rfl (by decide) (lk13 hG) rfl rfl (Nat.le_of_ble_eq_true rfl) ⟨rfl, rfl⟩ ⟨Nat.le_of_ble_eq_true rfl, Nat.le_of_ble_eq_true rfl⟩ ⟨Nat.le_of_ble_eq_true rfl, Nat.le_of_ble_eq_true rfl⟩ dX9_ballast_5 (ax_ki fun r_1 I_2 J_3 h => ?_)
  refine ax_zeq 21 dX9_ballast_8 (by decide) (fun c_4 => ?_) (fun c_4 => ?_)
  · have h := sw_if.t h c_4
    exact ax_throw hl rfl hG.1 dX9_ballast_21 dX9_ballast_24 dX9_ballast_25 dX9_ballast_28 (Nat.le_of_ble_eq_true rfl) (Nat.le_of_ble_eq_true rfl) (Nat.le_of_ble_eq_true rfl) (Nat.le_of_ble_eq_true rfl) (Nat.le_of_ble_eq_true rfl) (Nat.le_of_ble_eq_true rfl) ⟨rfl, Or.inr ⟨rfl, h⟩⟩
  · have h := sw_if.f h c_4
    refine ax_iload_n 2 dX9_ballast_11 rfl rfl ?_
    refine ax_zlt 21 dX9_ballast_12 (by decide) (fun c_5 => ?_) (fun c_5 => ?_)
    · have h := sw_if.t h c_5
      exact ax_throw hl rfl hG.1 dX9_ballast_21 dX9_ballast_24 dX9_ballast_25 dX9_ballast_28 (Nat.le_of_ble_eq_true rfl) (Nat.le_of_ble_eq_true rfl) (Nat.le_of_ble_eq_true rfl) (Nat.le_of_ble_eq_true rfl) (Nat.le_of_ble_eq_true rfl) (Nat.le_of_ble_eq_true rfl) ⟨rfl, Or.inr ⟨rfl, h⟩⟩
    · have h := sw_if.f h c_5
      refine ax_iload_n 2 dX9_ballast_15 rfl rfl ?_
      refine ax_bipush (v := 40) dX9_ballast_16 (by decide) ?_
      refine ax_jle 29 dX9_ballast_18 (by decide) (fun c_6 => ?_) (fun c_6 => ?_)
      · have h := sw_if.f h c_6
        refine ax_iconst (v := 1) dX9_ballast_29 (by decide) ?_
        refine ax_iload_n 1 dX9_ballast_30 rfl rfl ?_
        refine ax_ishl dX9_ballast_31 ?_
        refine ax_iconst (v := (-1)) dX9_ballast_32 (by decide) ?_
        refine ax_ixor dX9_ballast_33 ?_
        refine ax_topi (fun y_7 e_8 => ?_)
        have h := h y_7 e_8
        refine ax_istore_n (lv' := [(3, .int y_7), (0, .ref (sz + 0)), (1, .int x1), (2, .int x2)]) dX9_ballast_34 rfl (by decide) rfl ?_
        refine ax_aload_n 1 dX9_ballast_35 rfl rfl ?_
        refine ax_aload_n 1 dX9_ballast_36 rfl rfl ?_
        refine gx_X9_2 fl_X9_26 (lk0 hG) (lr0_2 hG) dX9_ballast_37 ?_
        refine gx_X3_3 fl_X9_142 (lk13 hG) dX9_ballast_40 ?_
        refine ax_iload_n 3 dX9_ballast_43 rfl rfl ?_
        refine ax_callV wv_X9_comeHome (M_X9_comeHome hG  h) ml_X9_281 rfl (by decide) (lk0 hG) rfl rfl (Nat.le_of_ble_eq_true rfl) ⟨rfl, rfl⟩ ⟨Nat.le_of_ble_eq_true rfl, Nat.le_of_ble_eq_true rfl⟩ ⟨Nat.le_of_ble_eq_true rfl, Nat.le_of_ble_eq_true rfl⟩ dX9_ballast_44 (ax_ki fun r_9 I_10 J_11 h => ?_)
        refine ax_iload_n 0 dX9_ballast_47 rfl rfl ?_
        refine ax_iand dX9_ballast_48 ?_
        refine ax_topi (fun y_12 e_13 => ?_)
        have h := h y_12 e_13
        refine ax_istore (lv' := [(4, .int y_12), (3, .int y_7), (0, .ref (sz + 0)), (1, .int x1), (2, .int x2)]) dX9_ballast_49 (by decide) rfl ?_
        refine ax_aload_n 2 dX9_ballast_51 rfl rfl ?_
        refine ax_aload_n 2 dX9_ballast_52 rfl rfl ?_
        refine gx_X9_2 fl_X9_26 (lk0 hG) (lr0_2 hG) dX9_ballast_53 ?_
        refine gx_X3_3 fl_X9_142 (lk13 hG) dX9_ballast_56 ?_
        refine ax_iload_n 1 dX9_ballast_59 rfl rfl ?_
        refine ax_iand dX9_ballast_60 ?_
        refine ax_iload_n 4 dX9_ballast_61 rfl rfl ?_
        refine ax_callV wv_X9_comeHome (M_X9_comeHome hG  h) ml_X9_281 rfl (by decide) (lk0 hG) rfl rfl (Nat.le_of_ble_eq_true rfl) ⟨rfl, rfl⟩ ⟨Nat.le_of_ble_eq_true rfl, Nat.le_of_ble_eq_true rfl⟩ ⟨Nat.le_of_ble_eq_true rfl, Nat.le_of_ble_eq_true rfl⟩ dX9_ballast_62 (ax_ki fun r_14 I_15 J_16 h => ?_)
        refine ax_istore (lv' := [(5, .int r_14), (4, .int y_12), (3, .int y_7), (0, .ref (sz + 0)), (1, .int x1), (2, .int x2)]) dX9_ballast_65 (by decide) rfl ?_
        refine ax_iload 1 dX9_ballast_67 rfl ?_
        refine ax_callS wv_J6_bitCount_0f7a4 (M_J6_bitCount_0f7a4 trivial  h) ml_X9_272 rfl rfl (Nat.le_of_ble_eq_true rfl) ⟨rfl, rfl⟩ ⟨Nat.le_of_ble_eq_true rfl, Nat.le_of_ble_eq_true rfl⟩ ⟨Nat.le_of_ble_eq_true rfl, Nat.le_of_ble_eq_true rfl⟩ dX9_ballast_69 (ax_ki fun r_17 I_18 J_19 h => ?_)
        refine ax_iload 0 dX9_ballast_72 rfl ?_
        refine ax_callS wv_J6_bitCount_0f7a4 (M_J6_bitCount_0f7a4 trivial  h) ml_X9_272 rfl rfl (Nat.le_of_ble_eq_true rfl) ⟨rfl, rfl⟩ ⟨Nat.le_of_ble_eq_true rfl, Nat.le_of_ble_eq_true rfl⟩ ⟨Nat.le_of_ble_eq_true rfl, Nat.le_of_ble_eq_true rfl⟩ dX9_ballast_74 (ax_ki fun r_20 I_21 J_22 h => ?_)
        refine ax_isub dX9_ballast_77 ?_
        exact ax_lift (Nat.le_of_ble_eq_true rfl) (Nat.le_of_ble_eq_true rfl) (aw_iret rfl dX9_ballast_78 ⟨rfl, rfl, Or.inl ⟨_, rfl, h⟩⟩)
      · have h := sw_if.t h c_6
        exact ax_throw hl rfl hG.1 dX9_ballast_21 dX9_ballast_24 dX9_ballast_25 dX9_ballast_28 (Nat.le_of_ble_eq_true rfl) (Nat.le_of_ble_eq_true rfl) (Nat.le_of_ble_eq_true rfl) (Nat.le_of_ble_eq_true rfl) (Nat.le_of_ble_eq_true rfl) (Nat.le_of_ble_eq_true rfl) ⟨rfl, Or.inr ⟨rfl, h⟩⟩
theorem M_X9_ballast {l : Launch} {D : va_G} {cy : Nat → ClassId} {sz : Nat} {G : sw_G} (hl : l.stackTraces = false) (hG : sw_lay G) {Q : Int32 → sw_I → sw_J → Prop} {X : sw_I → sw_J → Prop} {x1 : Int32} {x2 : Int32} {I : sw_I} {J : sw_J} (h : wp_X9_ballast x1 x2 I J Q X) : vx_Met l yX9_ballast (Cond.code yX9_ballast cX9_ballast 6 (some .int) :: sw_T) rm_X9_ballast (sw_Pc D cy sz [.ref (sz + 0), .int x1, .int x2] G I J) (sw_Q D cy sz (ax_q (sw_qxi G Q X))) (ax_XC D cy sz (sw_qxi G Q X)) 1 6 (fun q => sz ≤ q) :=
  ax_met (by decide) (fun q => by cases q) (Nat.le_of_ble_eq_true rfl) rfl (t_X9_ballast hl hG h)

-- X9_row
abbrev rm_X9_row : Room := { frames := 6, cells := 1, slots := 6, locals := 89 }
def wp_X9_row (x1 : Int32) (I : sw_I) (J : sw_J) (Q : Int64 → sw_I → sw_J → Prop) (X : sw_I → sw_J → Prop) : Prop :=
  sw_if (x1 < 0) (X I J) (sw_if (x1 < (I 0 10)) (vp_in x1 12 ∧ Q (J 118 x1.toNatClampNeg) I J) (X I J))
set_option maxRecDepth 20000 in
theorem t_X9_row {l : Launch} {D : va_G} {cy : Nat → ClassId} {sz : Nat} {G : sw_G} (hl : l.stackTraces = false) (hG : sw_lay G)   {Q : Int64 → sw_I → sw_J → Prop} {X : sw_I → sw_J → Prop} {x1 : Int32} {I : sw_I} {J : sw_J} (h : wp_X9_row x1 I J Q X) : AX l D cy sz RX9 cX9_row 2 (some .long) false rm_X9_row 1 6 (sw_qxl G Q X) 0 0 G I J 0 [(0, .ref (sz + 0)), (1, .int x1)] [] := by
  unfold wp_X9_row at h
  refine ax_iload_n 1 dX9_row_0 rfl rfl ?_
  refine ax_zlt 12 dX9_row_1 (by decide) (fun c_1 => ?_) (fun c_1 => ?_)
  · have h := sw_if.t h c_1
    exact ax_throw hl rfl hG.1 dX9_row_12 dX9_row_15 dX9_row_16 dX9_row_19 (Nat.le_of_ble_eq_true rfl) (Nat.le_of_ble_eq_true rfl) (Nat.le_of_ble_eq_true rfl) (Nat.le_of_ble_eq_true rfl) (Nat.le_of_ble_eq_true rfl) (Nat.le_of_ble_eq_true rfl) ⟨rfl, Or.inr ⟨rfl, h⟩⟩
  · have h := sw_if.f h c_1
    refine ax_iload_n 1 dX9_row_4 rfl rfl ?_
    refine ax_aload_n 0 dX9_row_5 rfl rfl ?_
    refine gx_X9_10 fl_X9_62 (lk0 hG) dX9_row_6 ?_
    refine ax_jlt 20 dX9_row_9 (by decide) (fun c_2 => ?_) (fun c_2 => ?_)
    · have h := sw_if.t h c_2
      refine ax_aload_n 0 dX9_row_20 rfl rfl ?_
      refine gx_X9_9 fl_X9_59 (lk0 hG) (lr0_9 hG) dX9_row_21 ?_
      refine ax_iload_n 1 dX9_row_24 rfl rfl ?_
      obtain ⟨hi_3, h⟩ := h
      refine ax_lld dX9_row_25 (lk118 hG) (ln118 hG) hi_3 ?_
      exact ax_lift (Nat.le_of_ble_eq_true rfl) (Nat.le_of_ble_eq_true rfl) (aw_lret rfl dX9_row_26 ⟨rfl, rfl, Or.inl ⟨_, rfl, h⟩⟩)
    · have h := sw_if.f h c_2
      exact ax_throw hl rfl hG.1 dX9_row_12 dX9_row_15 dX9_row_16 dX9_row_19 (Nat.le_of_ble_eq_true rfl) (Nat.le_of_ble_eq_true rfl) (Nat.le_of_ble_eq_true rfl) (Nat.le_of_ble_eq_true rfl) (Nat.le_of_ble_eq_true rfl) (Nat.le_of_ble_eq_true rfl) ⟨rfl, Or.inr ⟨rfl, h⟩⟩
theorem M_X9_row {l : Launch} {D : va_G} {cy : Nat → ClassId} {sz : Nat} {G : sw_G} (hl : l.stackTraces = false) (hG : sw_lay G) {Q : Int64 → sw_I → sw_J → Prop} {X : sw_I → sw_J → Prop} {x1 : Int32} {I : sw_I} {J : sw_J} (h : wp_X9_row x1 I J Q X) : vx_Met l yX9_row (Cond.code yX9_row cX9_row 2 (some .long) :: sw_T) rm_X9_row (sw_Pc D cy sz [.ref (sz + 0), .int x1] G I J) (sw_Q D cy sz (ax_q (sw_qxl G Q X))) (ax_XC D cy sz (sw_qxl G Q X)) 1 6 (fun q => sz ≤ q) :=
  ax_met (by decide) (fun q => by cases q) (Nat.le_of_ble_eq_true rfl) rfl (t_X9_row hl hG h)
