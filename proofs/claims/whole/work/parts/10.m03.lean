-- X10_sheet
abbrev rm_X10_sheet : Room := { frames := 2, cells := 0, slots := 0, locals := 46 }
def wB_X10_sheet_127  (K46 : Int32 → Int32 → Int32 → Int32 → Int32 → Int32 → sw_I → sw_J → Prop) (Q : Int32 → sw_I → sw_J → Prop) (x1 : Int32) (x2 : Int32) (x4 : Int32) (x5 : Int32) (x6 : Int32) (x7 : Int32) (x9 : Int32) (s1 : Int32) (s2 : Int32) (I : sw_I) (J : sw_J) : Prop :=
  vp_in s1 33 ∧ ∀ I_2 : sw_I, I_2 = sw_up I 144 s1.toNatClampNeg s2 → wp_X10_flag x9 I_2 J (fun r_4 I_5 J_6 => ∀ y_7 : Int32, y_7 = x5 + r_4 → ∀ y_9 : Int32, y_9 = x6 + x4 → ∀ y_11 : Int32, y_11 = x7 + 1 → K46 x1 x2 x4 y_7 y_9 y_11 I_5 J_6)
def wB_X10_sheet_105  (K46 : Int32 → Int32 → Int32 → Int32 → Int32 → Int32 → sw_I → sw_J → Prop) (Q : Int32 → sw_I → sw_J → Prop) (x1 : Int32) (x2 : Int32) (x4 : Int32) (x5 : Int32) (x6 : Int32) (x7 : Int32) (x8 : Int32) (s0 : Int32) (I : sw_I) (J : sw_J) : Prop :=
  sw_if (s0 = 0) (wB_X10_sheet_127  K46 Q x1 x2 x4 x5 x6 x7 s0 ((10 : Int32) + x7) (-1) I J) (wB_X10_sheet_127  K46 Q x1 x2 x4 x5 x6 x7 s0 ((10 : Int32) + x7) x8 I J)
def wB_X10_sheet_104  (K46 : Int32 → Int32 → Int32 → Int32 → Int32 → Int32 → sw_I → sw_J → Prop) (Q : Int32 → sw_I → sw_J → Prop) (x1 : Int32) (x2 : Int32) (x4 : Int32) (x5 : Int32) (x6 : Int32) (x7 : Int32) (x8 : Int32) (I : sw_I) (J : sw_J) : Prop :=
  wB_X10_sheet_105  K46 Q x1 x2 x4 x5 x6 x7 x8 0 I J
def wB_X10_sheet_78  (K46 : Int32 → Int32 → Int32 → Int32 → Int32 → Int32 → sw_I → sw_J → Prop) (Q : Int32 → sw_I → sw_J → Prop) (x1 : Int32) (x2 : Int32) (x4 : Int32) (x5 : Int32) (x6 : Int32) (x7 : Int32) (s0 : Int32) (I : sw_I) (J : sw_J) : Prop :=
  sw_if (x1 = (3 : Int32)) (wB_X10_sheet_104  K46 Q x1 x2 x4 x5 x6 x7 s0 I J) (sw_if (x7 < x2) (wp_X10_isFloor s0 I J (fun r_3 I_4 J_5 => sw_if (r_3 = 0) (wB_X10_sheet_104  K46 Q x1 x2 x4 x5 x6 x7 s0 I_4 J_5) (wB_X10_sheet_105  K46 Q x1 x2 x4 x5 x6 x7 s0 1 I_4 J_5))) (wB_X10_sheet_104  K46 Q x1 x2 x4 x5 x6 x7 s0 I J))
def wb_X10_sheet_46  (K46 : Int32 → Int32 → Int32 → Int32 → Int32 → Int32 → sw_I → sw_J → Prop) (Q : Int32 → sw_I → sw_J → Prop) (x1 : Int32) (x2 : Int32) (x4 : Int32) (x5 : Int32) (x6 : Int32) (x7 : Int32) (I : sw_I) (J : sw_J) : Prop :=
  sw_if (x7 < (I 140 4)) (sw_if (x1 = 0) (wB_X10_sheet_78  K46 Q x1 x2 x4 x5 x6 x7 x6.toInt8.toInt32 I J) (sw_if (x1 = (1 : Int32)) (wB_X10_sheet_78  K46 Q x1 x2 x4 x5 x6 x7 x6.toInt16.toInt32 I J) (wB_X10_sheet_78  K46 Q x1 x2 x4 x5 x6 x7 x6 I J))) (sw_if (x1 = (3 : Int32)) (Q (-3 : Int32) I J) (Q x5 I J))
def wl_X10_sheet_46   (Q : Int32 → sw_I → sw_J → Prop) : Nat → Int32 → Int32 → Int32 → Int32 → Int32 → Int32 → sw_I → sw_J → Prop
  | 0 => fun _ _ _ _ _ _ _ _ => False
  | n + 1 => fun x1 x2 x4 x5 x6 x7 I J => wb_X10_sheet_46  (wl_X10_sheet_46   Q n) Q x1 x2 x4 x5 x6 x7 I J
def wB_X10_sheet_37   (Q : Int32 → sw_I → sw_J → Prop) (x1 : Int32) (x2 : Int32) (x3 : Int32) (x4 : Int32) (I : sw_I) (J : sw_J) : Prop :=
  ∃ n_1 : Nat, wl_X10_sheet_46   Q n_1 x1 x2 x4 0 x3 0 I J
def wp_X10_sheet (x1 : Int32) (x2 : Int32) (x3 : Int32) (x4 : Int32) (I : sw_I) (J : sw_J) (Q : Int32 → sw_I → sw_J → Prop) : Prop :=
  ∀ I_1 : sw_I, I_1 = sw_up I 140 0 (0 : Int32) → wp_X10_in x1.toInt64 0 3 I_1 J (fun r_3 I_4 J_5 => sw_if (r_3 = 0) (Q (-1 : Int32) I_4 J_5) (sw_if ((10 : Int32) < x2) (Q (-1 : Int32) I_4 J_5) (sw_if (x1 = (3 : Int32)) (wB_X10_sheet_37   Q x1 x2 x3 x4 I_4 J_5) (sw_if (x2 < 0) (Q (-2 : Int32) I_4 J_5) (wB_X10_sheet_37   Q x1 x2 x3 x4 I_4 J_5)))))
set_option maxRecDepth 20000 in
theorem t_X10_sheet_127 {l : Launch} {D : va_G} {cy : Nat → ClassId} {sz : Nat} {G : sw_G} (hG : sw_lay G)   {Q : Int32 → sw_I → sw_J → Prop} {K46 : Int32 → Int32 → Int32 → Int32 → Int32 → Int32 → sw_I → sw_J → Prop} (hK46 : ∀ (x1 : Int32) (x2 : Int32) (x4 : Int32) (x5 : Int32) (x6 : Int32) (x7 : Int32) (I : sw_I) (J : sw_J), K46 x1 x2 x4 x5 x6 x7 I J → AW l D cy sz RX10 cX10_sheet 10 (some .int) false rm_X10_sheet 0 0 (sw_qi G Q) 0 0 G I J 46 [(0, .ref (sz + 140)), (1, .int x1), (2, .int x2), (4, .int x4), (5, .int x5), (6, .int x6), (7, .int x7)] []) {x1 : Int32} {x2 : Int32} {x4 : Int32} {x5 : Int32} {x6 : Int32} {x7 : Int32} {x9 : Int32} {s1 : Int32} {s2 : Int32} {I : sw_I} {J : sw_J} (h : wB_X10_sheet_127  K46 Q x1 x2 x4 x5 x6 x7 x9 s1 s2 I J) : AW l D cy sz RX10 cX10_sheet 10 (some .int) false rm_X10_sheet 0 0 (sw_qi G Q) 0 0 G I J 127 [(0, .ref (sz + 140)), (1, .int x1), (2, .int x2), (4, .int x4), (5, .int x5), (6, .int x6), (7, .int x7), (9, .int x9)] [.int s2, .int s1, .ref (sz + 144)] := by
  unfold wB_X10_sheet_127 at h
  obtain ⟨hi_1, h⟩ := h
  refine aw_ist dX10_sheet_127 (lk144 hG) (ln144 hG) hi_1 (aw_nameI fun I_2 e_3 => ?_)
  have h := h I_2 e_3
  refine aw_iload 4 dX10_sheet_128 rfl ?_
  refine aw_iload 7 dX10_sheet_130 rfl ?_
  refine aw_callS wv_X10_flag (M_X10_flag trivial  h) ml_X10_54 rfl rfl (Nat.le_of_ble_eq_true rfl) ⟨rfl, rfl⟩ ⟨Nat.le_of_ble_eq_true rfl, Nat.le_of_ble_eq_true rfl⟩ ⟨Nat.le_refl _, Nat.le_refl _⟩ dX10_sheet_132 (aw_ki fun r_4 I_5 J_6 h => ?_)
  refine aw_iadd dX10_sheet_135 ?_
  refine aw_topi (fun y_7 e_8 => ?_)
  have h := h y_7 e_8
  refine aw_istore (lv' := [(5, .int y_7), (0, .ref (sz + 140)), (1, .int x1), (2, .int x2), (4, .int x4), (6, .int x6), (7, .int x7), (9, .int x9)]) dX10_sheet_136 (by decide) rfl ?_
  refine aw_iload 5 dX10_sheet_138 rfl ?_
  refine aw_iload 4 dX10_sheet_140 rfl ?_
  refine aw_iadd dX10_sheet_142 ?_
  refine aw_topi (fun y_9 e_10 => ?_)
  have h := h y_9 e_10
  refine aw_istore (lv' := [(6, .int y_9), (5, .int y_7), (0, .ref (sz + 140)), (1, .int x1), (2, .int x2), (4, .int x4), (7, .int x7), (9, .int x9)]) dX10_sheet_143 (by decide) rfl ?_
  obtain ⟨y_11, e_12⟩ : ∃ q : Int32, q = x7 + 1 := ⟨_, rfl⟩
  have h := h y_11 e_12
  refine aw_iinc (lv' := [(7, .int y_11), (6, .int y_9), (5, .int y_7), (0, .ref (sz + 140)), (1, .int x1), (2, .int x2), (4, .int x4), (9, .int x9)]) 6 dX10_sheet_145 rfl (by rw [e_12]; rfl) (by decide) rfl ?_
  refine aw_goto 46 dX10_sheet_148 (by decide) ?_
  refine aw_sub [3, 4, 5, 6, 2, 1, 0] rfl ?_
  exact hK46 x1 x2 x4 y_7 y_9 y_11 I_5 J_6 h
set_option maxRecDepth 20000 in
theorem t_X10_sheet_105 {l : Launch} {D : va_G} {cy : Nat → ClassId} {sz : Nat} {G : sw_G} (hG : sw_lay G)   {Q : Int32 → sw_I → sw_J → Prop} {K46 : Int32 → Int32 → Int32 → Int32 → Int32 → Int32 → sw_I → sw_J → Prop} (hK46 : ∀ (x1 : Int32) (x2 : Int32) (x4 : Int32) (x5 : Int32) (x6 : Int32) (x7 : Int32) (I : sw_I) (J : sw_J), K46 x1 x2 x4 x5 x6 x7 I J → AW l D cy sz RX10 cX10_sheet 10 (some .int) false rm_X10_sheet 0 0 (sw_qi G Q) 0 0 G I J 46 [(0, .ref (sz + 140)), (1, .int x1), (2, .int x2), (4, .int x4), (5, .int x5), (6, .int x6), (7, .int x7)] []) {x1 : Int32} {x2 : Int32} {x4 : Int32} {x5 : Int32} {x6 : Int32} {x7 : Int32} {x8 : Int32} {s0 : Int32} {I : sw_I} {J : sw_J} (h : wB_X10_sheet_105  K46 Q x1 x2 x4 x5 x6 x7 x8 s0 I J) : AW l D cy sz RX10 cX10_sheet 10 (some .int) false rm_X10_sheet 0 0 (sw_qi G Q) 0 0 G I J 105 [(0, .ref (sz + 140)), (1, .int x1), (2, .int x2), (4, .int x4), (5, .int x5), (6, .int x6), (7, .int x7), (8, .int x8)] [.int s0] := by
  unfold wB_X10_sheet_105 at h
  refine aw_istore (lv' := [(9, .int s0), (0, .ref (sz + 140)), (1, .int x1), (2, .int x2), (4, .int x4), (5, .int x5), (6, .int x6), (7, .int x7), (8, .int x8)]) dX10_sheet_105 (by decide) rfl ?_
  refine aw_aload_n 1 dX10_sheet_107 rfl rfl ?_
  refine gf_X10_9 fl_X10_79 (lk140 hG) (lr140_9 hG) dX10_sheet_108 ?_
  refine aw_bipush (v := 10) dX10_sheet_111 (by decide) ?_
  refine aw_iload 7 dX10_sheet_113 rfl ?_
  refine aw_iadd dX10_sheet_115 ?_
  refine aw_iload 0 dX10_sheet_116 rfl ?_
  refine aw_zeq 126 dX10_sheet_118 (by decide) (fun c_1 => ?_) (fun c_1 => ?_)
  · have h := sw_if.t h c_1
    refine aw_iconst (v := (-1)) dX10_sheet_126 (by decide) ?_
    refine aw_sub [1, 2, 3, 4, 5, 6, 7, 0] rfl ?_
    exact t_X10_sheet_127 hG  hK46 h
  · have h := sw_if.f h c_1
    refine aw_iload 8 dX10_sheet_121 rfl ?_
    refine aw_goto 127 dX10_sheet_123 (by decide) ?_
    refine aw_sub [1, 2, 3, 4, 5, 6, 7, 0] rfl ?_
    exact t_X10_sheet_127 hG  hK46 h
set_option maxRecDepth 20000 in
theorem t_X10_sheet_104 {l : Launch} {D : va_G} {cy : Nat → ClassId} {sz : Nat} {G : sw_G} (hG : sw_lay G)   {Q : Int32 → sw_I → sw_J → Prop} {K46 : Int32 → Int32 → Int32 → Int32 → Int32 → Int32 → sw_I → sw_J → Prop} (hK46 : ∀ (x1 : Int32) (x2 : Int32) (x4 : Int32) (x5 : Int32) (x6 : Int32) (x7 : Int32) (I : sw_I) (J : sw_J), K46 x1 x2 x4 x5 x6 x7 I J → AW l D cy sz RX10 cX10_sheet 10 (some .int) false rm_X10_sheet 0 0 (sw_qi G Q) 0 0 G I J 46 [(0, .ref (sz + 140)), (1, .int x1), (2, .int x2), (4, .int x4), (5, .int x5), (6, .int x6), (7, .int x7)] []) {x1 : Int32} {x2 : Int32} {x4 : Int32} {x5 : Int32} {x6 : Int32} {x7 : Int32} {x8 : Int32} {I : sw_I} {J : sw_J} (h : wB_X10_sheet_104  K46 Q x1 x2 x4 x5 x6 x7 x8 I J) : AW l D cy sz RX10 cX10_sheet 10 (some .int) false rm_X10_sheet 0 0 (sw_qi G Q) 0 0 G I J 104 [(0, .ref (sz + 140)), (1, .int x1), (2, .int x2), (4, .int x4), (5, .int x5), (6, .int x6), (7, .int x7), (8, .int x8)] [] := by
  unfold wB_X10_sheet_104 at h
  refine aw_iconst (v := 0) dX10_sheet_104 (by decide) ?_
  refine aw_sub [0, 1, 2, 3, 4, 5, 6, 7] rfl ?_
  exact t_X10_sheet_105 hG  hK46 h
set_option maxRecDepth 20000 in
theorem t_X10_sheet_78 {l : Launch} {D : va_G} {cy : Nat → ClassId} {sz : Nat} {G : sw_G} (hG : sw_lay G)   {Q : Int32 → sw_I → sw_J → Prop} {K46 : Int32 → Int32 → Int32 → Int32 → Int32 → Int32 → sw_I → sw_J → Prop} (hK46 : ∀ (x1 : Int32) (x2 : Int32) (x4 : Int32) (x5 : Int32) (x6 : Int32) (x7 : Int32) (I : sw_I) (J : sw_J), K46 x1 x2 x4 x5 x6 x7 I J → AW l D cy sz RX10 cX10_sheet 10 (some .int) false rm_X10_sheet 0 0 (sw_qi G Q) 0 0 G I J 46 [(0, .ref (sz + 140)), (1, .int x1), (2, .int x2), (4, .int x4), (5, .int x5), (6, .int x6), (7, .int x7)] []) {x1 : Int32} {x2 : Int32} {x4 : Int32} {x5 : Int32} {x6 : Int32} {x7 : Int32} {s0 : Int32} {I : sw_I} {J : sw_J} (h : wB_X10_sheet_78  K46 Q x1 x2 x4 x5 x6 x7 s0 I J) : AW l D cy sz RX10 cX10_sheet 10 (some .int) false rm_X10_sheet 0 0 (sw_qi G Q) 0 0 G I J 78 [(0, .ref (sz + 140)), (1, .int x1), (2, .int x2), (4, .int x4), (5, .int x5), (6, .int x6), (7, .int x7)] [.int s0] := by
  unfold wB_X10_sheet_78 at h
  refine aw_istore (lv' := [(8, .int s0), (0, .ref (sz + 140)), (1, .int x1), (2, .int x2), (4, .int x4), (5, .int x5), (6, .int x6), (7, .int x7)]) dX10_sheet_78 (by decide) rfl ?_
  refine aw_iload_n 2 dX10_sheet_80 rfl rfl ?_
  refine aw_iconst (v := 3) dX10_sheet_81 (by decide) ?_
  refine aw_jeq 104 dX10_sheet_82 (by decide) (fun c_1 => ?_) (fun c_1 => ?_)
  · have h := sw_if.t h c_1
    refine aw_sub [1, 2, 3, 4, 5, 6, 7, 0] rfl ?_
    exact t_X10_sheet_104 hG  hK46 h
  · have h := sw_if.f h c_1
    refine aw_iload 7 dX10_sheet_85 rfl ?_
    refine aw_iload_n 3 dX10_sheet_87 rfl rfl ?_
    refine aw_jge 104 dX10_sheet_88 (by decide) (fun c_2 => ?_) (fun c_2 => ?_)
    · have h := sw_if.f h c_2
      refine aw_sub [1, 2, 3, 4, 5, 6, 7, 0] rfl ?_
      exact t_X10_sheet_104 hG  hK46 h
    · have h := sw_if.t h c_2
      refine aw_aload_n 1 dX10_sheet_91 rfl rfl ?_
      refine aw_iload 0 dX10_sheet_92 rfl ?_
      refine aw_callV wv_X10_isFloor (M_X10_isFloor hG  h) ml_X10_95 rfl (by decide) (lk140 hG) rfl rfl (Nat.le_of_ble_eq_true rfl) ⟨rfl, rfl⟩ ⟨Nat.le_of_ble_eq_true rfl, Nat.le_of_ble_eq_true rfl⟩ ⟨Nat.le_refl _, Nat.le_refl _⟩ dX10_sheet_94 (aw_ki fun r_3 I_4 J_5 h => ?_)
      refine aw_zeq 104 dX10_sheet_97 (by decide) (fun c_6 => ?_) (fun c_6 => ?_)
      · have h := sw_if.t h c_6
        refine aw_sub [1, 2, 3, 4, 5, 6, 7, 0] rfl ?_
        exact t_X10_sheet_104 hG  hK46 h
      · have h := sw_if.f h c_6
        refine aw_iconst (v := 1) dX10_sheet_100 (by decide) ?_
        refine aw_goto 105 dX10_sheet_101 (by decide) ?_
        refine aw_sub [1, 2, 3, 4, 5, 6, 7, 0] rfl ?_
        exact t_X10_sheet_105 hG  hK46 h
set_option maxRecDepth 20000 in
theorem tb_X10_sheet_46 {l : Launch} {D : va_G} {cy : Nat → ClassId} {sz : Nat} {G : sw_G} (hG : sw_lay G)   {Q : Int32 → sw_I → sw_J → Prop} {K46 : Int32 → Int32 → Int32 → Int32 → Int32 → Int32 → sw_I → sw_J → Prop} (hK46 : ∀ (x1 : Int32) (x2 : Int32) (x4 : Int32) (x5 : Int32) (x6 : Int32) (x7 : Int32) (I : sw_I) (J : sw_J), K46 x1 x2 x4 x5 x6 x7 I J → AW l D cy sz RX10 cX10_sheet 10 (some .int) false rm_X10_sheet 0 0 (sw_qi G Q) 0 0 G I J 46 [(0, .ref (sz + 140)), (1, .int x1), (2, .int x2), (4, .int x4), (5, .int x5), (6, .int x6), (7, .int x7)] []) {x1 : Int32} {x2 : Int32} {x4 : Int32} {x5 : Int32} {x6 : Int32} {x7 : Int32} {I : sw_I} {J : sw_J} (h : wb_X10_sheet_46  K46 Q x1 x2 x4 x5 x6 x7 I J) : AW l D cy sz RX10 cX10_sheet 10 (some .int) false rm_X10_sheet 0 0 (sw_qi G Q) 0 0 G I J 46 [(0, .ref (sz + 140)), (1, .int x1), (2, .int x2), (4, .int x4), (5, .int x5), (6, .int x6), (7, .int x7)] [] := by
  unfold wb_X10_sheet_46 at h
  refine aw_iload 6 dX10_sheet_46 rfl ?_
  refine aw_aload_n 0 dX10_sheet_48 rfl rfl ?_
  refine gf_X10_4 fl_X10_29 (lk140 hG) dX10_sheet_49 ?_
  refine aw_jge 151 dX10_sheet_52 (by decide) (fun c_1 => ?_) (fun c_1 => ?_)
  · have h := sw_if.f h c_1
    refine aw_iload_n 1 dX10_sheet_151 rfl rfl ?_
    refine aw_iconst (v := 3) dX10_sheet_152 (by decide) ?_
    refine aw_jne 161 dX10_sheet_153 (by decide) (fun c_2 => ?_) (fun c_2 => ?_)
    · have h := sw_if.f h c_2
      refine aw_iload 4 dX10_sheet_161 rfl ?_
      exact aw_iret rfl dX10_sheet_163 ⟨rfl, _, rfl, h⟩
    · have h := sw_if.t h c_2
      refine aw_bipush (v := (-3)) dX10_sheet_156 (by decide) ?_
      refine aw_goto 163 dX10_sheet_158 (by decide) ?_
      exact aw_iret rfl dX10_sheet_163 ⟨rfl, _, rfl, h⟩
  · have h := sw_if.t h c_1
    refine aw_iload_n 1 dX10_sheet_55 rfl rfl ?_
    refine aw_zne 65 dX10_sheet_56 (by decide) (fun c_3 => ?_) (fun c_3 => ?_)
    · have h := sw_if.f h c_3
      refine aw_iload_n 1 dX10_sheet_65 rfl rfl ?_
      refine aw_iconst (v := 1) dX10_sheet_66 (by decide) ?_
      refine aw_jne 76 dX10_sheet_67 (by decide) (fun c_4 => ?_) (fun c_4 => ?_)
      · have h := sw_if.f h c_4
        refine aw_iload 5 dX10_sheet_76 rfl ?_
        refine aw_sub [0, 1, 2, 3, 4, 5, 6] rfl ?_
        exact t_X10_sheet_78 hG  hK46 h
      · have h := sw_if.t h c_4
        refine aw_iload 5 dX10_sheet_70 rfl ?_
        refine aw_i2s dX10_sheet_72 ?_
        refine aw_goto 78 dX10_sheet_73 (by decide) ?_
        refine aw_sub [0, 1, 2, 3, 4, 5, 6] rfl ?_
        exact t_X10_sheet_78 hG  hK46 h
    · have h := sw_if.t h c_3
      refine aw_iload 5 dX10_sheet_59 rfl ?_
      refine aw_i2b dX10_sheet_61 ?_
      refine aw_goto 78 dX10_sheet_62 (by decide) ?_
      refine aw_sub [0, 1, 2, 3, 4, 5, 6] rfl ?_
      exact t_X10_sheet_78 hG  hK46 h
set_option maxRecDepth 20000 in
theorem tl_X10_sheet_46 {l : Launch} {D : va_G} {cy : Nat → ClassId} {sz : Nat} {G : sw_G} (hG : sw_lay G)   {Q : Int32 → sw_I → sw_J → Prop} : ∀ (n : Nat) (x1 : Int32) (x2 : Int32) (x4 : Int32) (x5 : Int32) (x6 : Int32) (x7 : Int32) (I : sw_I) (J : sw_J), wl_X10_sheet_46   Q n x1 x2 x4 x5 x6 x7 I J → AW l D cy sz RX10 cX10_sheet 10 (some .int) false rm_X10_sheet 0 0 (sw_qi G Q) 0 0 G I J 46 [(0, .ref (sz + 140)), (1, .int x1), (2, .int x2), (4, .int x4), (5, .int x5), (6, .int x6), (7, .int x7)] [] := by
  intro n
  induction n with
  | zero => intro x1 x2 x4 x5 x6 x7 I J h; exact False.elim h
  | succ n ih => intro x1 x2 x4 x5 x6 x7 I J h; exact tb_X10_sheet_46 hG  ih h
set_option maxRecDepth 20000 in
theorem t_X10_sheet_37 {l : Launch} {D : va_G} {cy : Nat → ClassId} {sz : Nat} {G : sw_G} (hG : sw_lay G)   {Q : Int32 → sw_I → sw_J → Prop} {x1 : Int32} {x2 : Int32} {x3 : Int32} {x4 : Int32} {I : sw_I} {J : sw_J} (h : wB_X10_sheet_37   Q x1 x2 x3 x4 I J) : AW l D cy sz RX10 cX10_sheet 10 (some .int) false rm_X10_sheet 0 0 (sw_qi G Q) 0 0 G I J 37 [(0, .ref (sz + 140)), (1, .int x1), (2, .int x2), (3, .int x3), (4, .int x4)] [] := by
  unfold wB_X10_sheet_37 at h
  refine aw_iconst (v := 0) dX10_sheet_37 (by decide) ?_
  refine aw_istore (lv' := [(5, .int 0), (0, .ref (sz + 140)), (1, .int x1), (2, .int x2), (3, .int x3), (4, .int x4)]) dX10_sheet_38 (by decide) rfl ?_
  refine aw_iload_n 4 dX10_sheet_40 rfl rfl ?_
  refine aw_istore (lv' := [(6, .int x3), (5, .int 0), (0, .ref (sz + 140)), (1, .int x1), (2, .int x2), (3, .int x3), (4, .int x4)]) dX10_sheet_41 (by decide) rfl ?_
  refine aw_iconst (v := 0) dX10_sheet_43 (by decide) ?_
  refine aw_istore (lv' := [(7, .int 0), (6, .int x3), (5, .int 0), (0, .ref (sz + 140)), (1, .int x1), (2, .int x2), (3, .int x3), (4, .int x4)]) dX10_sheet_44 (by decide) rfl ?_
  refine aw_sub [3, 4, 5, 7, 2, 1, 0] rfl ?_
  obtain ⟨n_1, h⟩ := h
  exact tl_X10_sheet_46 hG   n_1 x1 x2 x4 0 x3 0 I J h
set_option maxRecDepth 20000 in
theorem t_X10_sheet {l : Launch} {D : va_G} {cy : Nat → ClassId} {sz : Nat} {G : sw_G} (hG : sw_lay G)   {Q : Int32 → sw_I → sw_J → Prop} {x1 : Int32} {x2 : Int32} {x3 : Int32} {x4 : Int32} {I : sw_I} {J : sw_J} (h : wp_X10_sheet x1 x2 x3 x4 I J Q) : AW l D cy sz RX10 cX10_sheet 10 (some .int) false rm_X10_sheet 0 0 (sw_qi G Q) 0 0 G I J 0 [(0, .ref (sz + 140)), (1, .int x1), (2, .int x2), (3, .int x3), (4, .int x4)] [] := by
  unfold wp_X10_sheet at h
  refine aw_aload_n 0 dX10_sheet_0 rfl rfl ?_
  refine aw_iconst (v := 0) dX10_sheet_1 (by decide) ?_
  refine pf_X10_0 fl_X10_3 (lk140 hG) dX10_sheet_2 (aw_nameI fun I_1 e_2 => ?_)
  have h := h I_1 e_2
  refine aw_iload_n 1 dX10_sheet_5 rfl rfl ?_
  refine aw_i2l dX10_sheet_6 ?_
  refine aw_lconst (v := 0) dX10_sheet_7 (by decide) ?_
  refine aw_ldc2 (v := 3) dX10_sheet_8 k_X10_236 ?_
  refine aw_callS wv_X10_in (M_X10_in trivial  h) ml_X10_25 rfl rfl (Nat.le_of_ble_eq_true rfl) ⟨rfl, rfl⟩ ⟨Nat.le_of_ble_eq_true rfl, Nat.le_of_ble_eq_true rfl⟩ ⟨Nat.le_refl _, Nat.le_refl _⟩ dX10_sheet_11 (aw_ki fun r_3 I_4 J_5 h => ?_)
  refine aw_zeq 23 dX10_sheet_14 (by decide) (fun c_6 => ?_) (fun c_6 => ?_)
  · have h := sw_if.t h c_6
    refine aw_iconst (v := (-1)) dX10_sheet_23 (by decide) ?_
    exact aw_iret rfl dX10_sheet_24 ⟨rfl, _, rfl, h⟩
  · have h := sw_if.f h c_6
    refine aw_iload_n 2 dX10_sheet_17 rfl rfl ?_
    refine aw_bipush (v := 10) dX10_sheet_18 (by decide) ?_
    refine aw_jle 25 dX10_sheet_20 (by decide) (fun c_7 => ?_) (fun c_7 => ?_)
    · have h := sw_if.f h c_7
      refine aw_iload_n 1 dX10_sheet_25 rfl rfl ?_
      refine aw_iconst (v := 3) dX10_sheet_26 (by decide) ?_
      refine aw_jeq 37 dX10_sheet_27 (by decide) (fun c_8 => ?_) (fun c_8 => ?_)
      · have h := sw_if.t h c_8
        refine aw_sub [0, 1, 2, 3, 4] rfl ?_
        exact t_X10_sheet_37 hG   h
      · have h := sw_if.f h c_8
        refine aw_iload_n 2 dX10_sheet_30 rfl rfl ?_
        refine aw_zge 37 dX10_sheet_31 (by decide) (fun c_9 => ?_) (fun c_9 => ?_)
        · have h := sw_if.f h c_9
          refine aw_sub [0, 1, 2, 3, 4] rfl ?_
          exact t_X10_sheet_37 hG   h
        · have h := sw_if.t h c_9
          refine aw_bipush (v := (-2)) dX10_sheet_34 (by decide) ?_
          exact aw_iret rfl dX10_sheet_36 ⟨rfl, _, rfl, h⟩
    · have h := sw_if.t h c_7
      refine aw_iconst (v := (-1)) dX10_sheet_23 (by decide) ?_
      exact aw_iret rfl dX10_sheet_24 ⟨rfl, _, rfl, h⟩
theorem M_X10_sheet {l : Launch} {D : va_G} {cy : Nat → ClassId} {sz : Nat} {G : sw_G} (hG : sw_lay G)   {Q : Int32 → sw_I → sw_J → Prop} {x1 : Int32} {x2 : Int32} {x3 : Int32} {x4 : Int32} {I : sw_I} {J : sw_J} (h : wp_X10_sheet x1 x2 x3 x4 I J Q) : Met l yX10_sheet (Cond.code yX10_sheet cX10_sheet 10 (some .int) :: sw_T) rm_X10_sheet (sw_Pc D cy sz [.ref (sz + 140), .int x1, .int x2, .int x3, .int x4] G I J) (sw_Q D cy sz (sw_qi G Q)) 0 0 (fun q => sz ≤ q) :=
  sw_met (by decide) (fun q => by cases q) (Nat.le_of_ble_eq_true rfl) rfl (t_X10_sheet hG  h)
-- X10_dog
abbrev rm_X10_dog : Room := { frames := 2, cells := 0, slots := 0, locals := 46 }
def wp_X10_dog (x1 : Int32) (I : sw_I) (J : sw_J) (Q : Int32 → sw_I → sw_J → Prop) : Prop :=
  ∀ I_1 : sw_I, I_1 = sw_up I 140 0 (0 : Int32) → sw_if (x1 = (-1 : Int32)) (∀ I_4 : sw_I, I_4 = sw_up I_1 140 5 x1 → Q 1 I_4 J) (wp_X10_isFloor x1 I_1 J (fun r_6 I_7 J_8 => sw_if (r_6 = 0) (Q 0 I_7 J_8) (∀ I_10 : sw_I, I_10 = sw_up I_7 140 5 x1 → Q 1 I_10 J_8)))
set_option maxRecDepth 20000 in
theorem t_X10_dog {l : Launch} {D : va_G} {cy : Nat → ClassId} {sz : Nat} {G : sw_G} (hG : sw_lay G)   {Q : Int32 → sw_I → sw_J → Prop} {x1 : Int32} {I : sw_I} {J : sw_J} (h : wp_X10_dog x1 I J Q) : AW l D cy sz RX10 cX10_dog 2 (some .boolean) false rm_X10_dog 0 0 (sw_qi G Q) 0 0 G I J 0 [(0, .ref (sz + 140)), (1, .int x1)] [] := by
  unfold wp_X10_dog at h
  refine aw_aload_n 0 dX10_dog_0 rfl rfl ?_
  refine aw_iconst (v := 0) dX10_dog_1 (by decide) ?_
  refine pf_X10_0 fl_X10_3 (lk140 hG) dX10_dog_2 (aw_nameI fun I_1 e_2 => ?_)
  have h := h I_1 e_2
  refine aw_iload_n 1 dX10_dog_5 rfl rfl ?_
  refine aw_iconst (v := (-1)) dX10_dog_6 (by decide) ?_
  refine aw_jeq 20 dX10_dog_7 (by decide) (fun c_3 => ?_) (fun c_3 => ?_)
  · have h := sw_if.t h c_3
    refine aw_aload_n 0 dX10_dog_20 rfl rfl ?_
    refine aw_iload_n 1 dX10_dog_21 rfl rfl ?_
    refine pf_X10_5 fl_X10_76 (lk140 hG) dX10_dog_22 (aw_nameI fun I_4 e_5 => ?_)
    have h := h I_4 e_5
    refine aw_iconst (v := 1) dX10_dog_25 (by decide) ?_
    exact aw_zret rfl rfl dX10_dog_26 ⟨rfl, _, rfl, h⟩
  · have h := sw_if.f h c_3
    refine aw_aload_n 0 dX10_dog_10 rfl rfl ?_
    refine aw_iload_n 1 dX10_dog_11 rfl rfl ?_
    refine aw_callV wv_X10_isFloor (M_X10_isFloor hG  h) ml_X10_95 rfl (by decide) (lk140 hG) rfl rfl (Nat.le_of_ble_eq_true rfl) ⟨rfl, rfl⟩ ⟨Nat.le_of_ble_eq_true rfl, Nat.le_of_ble_eq_true rfl⟩ ⟨Nat.le_refl _, Nat.le_refl _⟩ dX10_dog_12 (aw_ki fun r_6 I_7 J_8 h => ?_)
    refine aw_zne 20 dX10_dog_15 (by decide) (fun c_9 => ?_) (fun c_9 => ?_)
    · have h := sw_if.f h c_9
      refine aw_aload_n 0 dX10_dog_20 rfl rfl ?_
      refine aw_iload_n 1 dX10_dog_21 rfl rfl ?_
      refine pf_X10_5 fl_X10_76 (lk140 hG) dX10_dog_22 (aw_nameI fun I_10 e_11 => ?_)
      have h := h I_10 e_11
      refine aw_iconst (v := 1) dX10_dog_25 (by decide) ?_
      exact aw_zret rfl rfl dX10_dog_26 ⟨rfl, _, rfl, h⟩
    · have h := sw_if.t h c_9
      refine aw_iconst (v := 0) dX10_dog_18 (by decide) ?_
      exact aw_zret rfl rfl dX10_dog_19 ⟨rfl, _, rfl, h⟩
theorem M_X10_dog {l : Launch} {D : va_G} {cy : Nat → ClassId} {sz : Nat} {G : sw_G} (hG : sw_lay G)   {Q : Int32 → sw_I → sw_J → Prop} {x1 : Int32} {I : sw_I} {J : sw_J} (h : wp_X10_dog x1 I J Q) : Met l yX10_dog (Cond.code yX10_dog cX10_dog 2 (some .boolean) :: sw_T) rm_X10_dog (sw_Pc D cy sz [.ref (sz + 140), .int x1] G I J) (sw_Q D cy sz (sw_qi G Q)) 0 0 (fun q => sz ≤ q) :=
  sw_met (by decide) (fun q => by cases q) (Nat.le_of_ble_eq_true rfl) rfl (t_X10_dog hG  h)
-- X10_draws
abbrev rm_X10_draws : Room := { frames := 0, cells := 0, slots := 0, locals := 0 }
def wp_X10_draws (x1 : Int32) (I : sw_I) (J : sw_J) (Q : Int32 → sw_I → sw_J → Prop) : Prop :=
  ∀ I_1 : sw_I, I_1 = sw_up I 140 31 (((I 140 31) * (1103515245 : Int32)) + (12345 : Int32)) → ¬ x1 = 0 ∧ Q ((((I_1 140 31).toUInt32 >>> ((16 : Int32).toUInt32 &&& Int32.toUInt32 31)).toInt32) - (((I_1 140 31).toUInt32 >>> ((16 : Int32).toUInt32 &&& Int32.toUInt32 31)).toInt32) / x1 * x1) I_1 J
set_option maxRecDepth 20000 in
theorem t_X10_draws {l : Launch} {D : va_G} {cy : Nat → ClassId} {sz : Nat} {G : sw_G} (hG : sw_lay G)   {Q : Int32 → sw_I → sw_J → Prop} {x1 : Int32} {I : sw_I} {J : sw_J} (h : wp_X10_draws x1 I J Q) : AW l D cy sz RX10 cX10_draws 2 (some .int) false rm_X10_draws 0 0 (sw_qi G Q) 0 0 G I J 0 [(0, .ref (sz + 140)), (1, .int x1)] [] := by
  unfold wp_X10_draws at h
  refine aw_aload_n 0 dX10_draws_0 rfl rfl ?_
  refine aw_aload_n 0 dX10_draws_1 rfl rfl ?_
  refine gf_X10_31 fl_X10_238 (lk140 hG) dX10_draws_2 ?_
  refine aw_ldc (v := 1103515245) dX10_draws_5 k_X10_241 ?_
  refine aw_imul dX10_draws_7 ?_
  refine aw_sipush (v := 12345) dX10_draws_8 (by decide) ?_
  refine aw_iadd dX10_draws_11 ?_
  refine pf_X10_31 fl_X10_238 (lk140 hG) dX10_draws_12 (aw_nameI fun I_1 e_2 => ?_)
  have h := h I_1 e_2
  refine aw_aload_n 0 dX10_draws_15 rfl rfl ?_
  refine gf_X10_31 fl_X10_238 (lk140 hG) dX10_draws_16 ?_
  refine aw_bipush (v := 16) dX10_draws_19 (by decide) ?_
  refine aw_iushr dX10_draws_21 ?_
  refine aw_iload_n 1 dX10_draws_22 rfl rfl ?_
  obtain ⟨hz_3, h⟩ := h
  refine aw_irem dX10_draws_23 hz_3 ?_
  exact aw_iret rfl dX10_draws_24 ⟨rfl, _, rfl, h⟩
theorem M_X10_draws {l : Launch} {D : va_G} {cy : Nat → ClassId} {sz : Nat} {G : sw_G} (hG : sw_lay G)   {Q : Int32 → sw_I → sw_J → Prop} {x1 : Int32} {I : sw_I} {J : sw_J} (h : wp_X10_draws x1 I J Q) : Met l yX10_draws (Cond.code yX10_draws cX10_draws 2 (some .int) :: sw_T) rm_X10_draws (sw_Pc D cy sz [.ref (sz + 140), .int x1] G I J) (sw_Q D cy sz (sw_qi G Q)) 0 0 (fun q => sz ≤ q) :=
  sw_met (by decide) (fun q => by cases q) (Nat.le_of_ble_eq_true rfl) rfl (t_X10_draws hG  h)
-- X10_crowd
abbrev rm_X10_crowd : Room := { frames := 1, cells := 0, slots := 0, locals := 25 }
def wb_X10_crowd_26  (K26 : Int32 → Int32 → sw_I → sw_J → Prop) (Q : Int32 → sw_I → sw_J → Prop) (x2 : Int32) (x3 : Int32) (I : sw_I) (J : sw_J) : Prop :=
  sw_if ((I 140 4) < x2) (wp_X10_draws (I 140 3) I J (fun r_7 I_8 J_9 => wp_X10_draws (I_8 140 3) I_8 J_9 (fun r_10 I_11 J_12 => wp_X10_draws (I_11 140 3) I_11 J_12 (fun r_13 I_14 J_15 => wp_X10_comes (I_11 140 4) r_7 r_10 r_13 I_14 J_15 (fun I_17 J_18 => ∀ I_19 : sw_I, I_19 = sw_up I_17 140 4 ((I_17 140 4) + (1 : Int32)) → ∀ y_21 : Int32, y_21 = x3 + 1 → K26 x2 y_21 I_19 J_18))))) (sw_if (0 < x3) (∀ I_3 : sw_I, I_3 = sw_up I 140 32 (0 : Int32) → ∀ I_5 : sw_I, I_5 = sw_up I_3 140 6 ((I_3 140 6) + (1 : Int32)) → Q x3 I_5 J) (Q x3 I J))
def wl_X10_crowd_26   (Q : Int32 → sw_I → sw_J → Prop) : Nat → Int32 → Int32 → sw_I → sw_J → Prop
  | 0 => fun _ _ _ _ => False
  | n + 1 => fun x2 x3 I J => wb_X10_crowd_26  (wl_X10_crowd_26   Q n) Q x2 x3 I J
def wp_X10_crowd (x1 : Int32) (x2 : Int32) (I : sw_I) (J : sw_J) (Q : Int32 → sw_I → sw_J → Prop) : Prop :=
  ∀ I_1 : sw_I, I_1 = sw_up I 140 0 (0 : Int32) → wp_X10_in x2.toInt64 0 10 I_1 J (fun r_3 I_4 J_5 => sw_if (r_3 = 0) (Q (-1 : Int32) I_4 J_5) (∀ I_7 : sw_I, I_7 = sw_up I_4 140 31 x1 → ∃ n_9 : Nat, wl_X10_crowd_26   Q n_9 x2 0 I_7 J_5))
set_option maxRecDepth 20000 in
theorem tb_X10_crowd_26 {l : Launch} {D : va_G} {cy : Nat → ClassId} {sz : Nat} {G : sw_G} (hG : sw_lay G)   {Q : Int32 → sw_I → sw_J → Prop} {K26 : Int32 → Int32 → sw_I → sw_J → Prop} (hK26 : ∀ (x2 : Int32) (x3 : Int32) (I : sw_I) (J : sw_J), K26 x2 x3 I J → AW l D cy sz RX10 cX10_crowd 6 (some .int) false rm_X10_crowd 0 0 (sw_qi G Q) 0 0 G I J 26 [(0, .ref (sz + 140)), (2, .int x2), (3, .int x3)] []) {x2 : Int32} {x3 : Int32} {I : sw_I} {J : sw_J} (h : wb_X10_crowd_26  K26 Q x2 x3 I J) : AW l D cy sz RX10 cX10_crowd 6 (some .int) false rm_X10_crowd 0 0 (sw_qi G Q) 0 0 G I J 26 [(0, .ref (sz + 140)), (2, .int x2), (3, .int x3)] [] := by
  unfold wb_X10_crowd_26 at h
  refine aw_aload_n 0 dX10_crowd_26 rfl rfl ?_
  refine gf_X10_4 fl_X10_29 (lk140 hG) dX10_crowd_27 ?_
  refine aw_iload_n 1 dX10_crowd_30 rfl rfl ?_
  refine aw_jge 90 dX10_crowd_31 (by decide) (fun c_1 => ?_) (fun c_1 => ?_)
  · have h := sw_if.f h c_1
    refine aw_iload_n 2 dX10_crowd_90 rfl rfl ?_
    refine aw_zle 109 dX10_crowd_91 (by decide) (fun c_2 => ?_) (fun c_2 => ?_)
    · have h := sw_if.f h c_2
      refine aw_iload_n 2 dX10_crowd_109 rfl rfl ?_
      exact aw_iret rfl dX10_crowd_110 ⟨rfl, _, rfl, h⟩
    · have h := sw_if.t h c_2
      refine aw_aload_n 0 dX10_crowd_94 rfl rfl ?_
      refine aw_iconst (v := 0) dX10_crowd_95 (by decide) ?_
      refine pf_X10_32 fl_X10_82 (lk140 hG) dX10_crowd_96 (aw_nameI fun I_3 e_4 => ?_)
      have h := h I_3 e_4
      refine aw_aload_n 0 dX10_crowd_99 rfl rfl ?_
      refine aw_dup dX10_crowd_100 rfl ?_
      refine gf_X10_6 fl_X10_88 (lk140 hG) dX10_crowd_101 ?_
      refine aw_iconst (v := 1) dX10_crowd_104 (by decide) ?_
      refine aw_iadd dX10_crowd_105 ?_
      refine pf_X10_6 fl_X10_88 (lk140 hG) dX10_crowd_106 (aw_nameI fun I_5 e_6 => ?_)
      have h := h I_5 e_6
      refine aw_iload_n 2 dX10_crowd_109 rfl rfl ?_
      exact aw_iret rfl dX10_crowd_110 ⟨rfl, _, rfl, h⟩
  · have h := sw_if.t h c_1
    refine aw_aload_n 0 dX10_crowd_34 rfl rfl ?_
    refine aw_aload_n 0 dX10_crowd_35 rfl rfl ?_
    refine gf_X10_3 fl_X10_22 (lk140 hG) dX10_crowd_36 ?_
    refine aw_callV wv_X10_draws (M_X10_draws hG  h) ml_X10_242 rfl (by decide) (lk140 hG) rfl rfl (Nat.le_of_ble_eq_true rfl) ⟨rfl, rfl⟩ ⟨Nat.le_of_ble_eq_true rfl, Nat.le_of_ble_eq_true rfl⟩ ⟨Nat.le_refl _, Nat.le_refl _⟩ dX10_crowd_39 (aw_ki fun r_7 I_8 J_9 h => ?_)
    refine aw_istore (lv' := [(4, .int r_7), (0, .ref (sz + 140)), (2, .int x2), (3, .int x3)]) dX10_crowd_42 (by decide) rfl ?_
    refine aw_aload_n 1 dX10_crowd_44 rfl rfl ?_
    refine aw_aload_n 1 dX10_crowd_45 rfl rfl ?_
    refine gf_X10_3 fl_X10_22 (lk140 hG) dX10_crowd_46 ?_
    refine aw_callV wv_X10_draws (M_X10_draws hG  h) ml_X10_242 rfl (by decide) (lk140 hG) rfl rfl (Nat.le_of_ble_eq_true rfl) ⟨rfl, rfl⟩ ⟨Nat.le_of_ble_eq_true rfl, Nat.le_of_ble_eq_true rfl⟩ ⟨Nat.le_refl _, Nat.le_refl _⟩ dX10_crowd_49 (aw_ki fun r_10 I_11 J_12 h => ?_)
    refine aw_istore (lv' := [(5, .int r_10), (4, .int r_7), (0, .ref (sz + 140)), (2, .int x2), (3, .int x3)]) dX10_crowd_52 (by decide) rfl ?_
    refine aw_aload_n 2 dX10_crowd_54 rfl rfl ?_
    refine aw_aload_n 2 dX10_crowd_55 rfl rfl ?_
    refine gf_X10_4 fl_X10_29 (lk140 hG) dX10_crowd_56 ?_
    refine aw_iload 1 dX10_crowd_59 rfl ?_
    refine aw_iload 0 dX10_crowd_61 rfl ?_
    refine aw_aload_n 2 dX10_crowd_63 rfl rfl ?_
    refine aw_aload_n 2 dX10_crowd_64 rfl rfl ?_
    refine gf_X10_3 fl_X10_22 (lk140 hG) dX10_crowd_65 ?_
    refine aw_callV wv_X10_draws (M_X10_draws hG  h) ml_X10_242 rfl (by decide) (lk140 hG) rfl rfl (Nat.le_of_ble_eq_true rfl) ⟨rfl, rfl⟩ ⟨Nat.le_of_ble_eq_true rfl, Nat.le_of_ble_eq_true rfl⟩ ⟨Nat.le_refl _, Nat.le_refl _⟩ dX10_crowd_68 (aw_ki fun r_13 I_14 J_15 h => ?_)
    refine aw_callV wv_X10_comes (M_X10_comes hG  h) ml_X10_131 rfl (by decide) (lk140 hG) rfl rfl (Nat.le_of_ble_eq_true rfl) ⟨rfl, rfl⟩ ⟨Nat.le_of_ble_eq_true rfl, Nat.le_of_ble_eq_true rfl⟩ ⟨Nat.le_refl _, Nat.le_refl _⟩ dX10_crowd_71 (aw_kv fun I_17 J_18 h => ?_)
    refine aw_aload_n 2 dX10_crowd_74 rfl rfl ?_
    refine aw_dup dX10_crowd_75 rfl ?_
    refine gf_X10_4 fl_X10_29 (lk140 hG) dX10_crowd_76 ?_
    refine aw_iconst (v := 1) dX10_crowd_79 (by decide) ?_
    refine aw_iadd dX10_crowd_80 ?_
    refine pf_X10_4 fl_X10_29 (lk140 hG) dX10_crowd_81 (aw_nameI fun I_19 e_20 => ?_)
    have h := h I_19 e_20
    obtain ⟨y_21, e_22⟩ : ∃ q : Int32, q = x3 + 1 := ⟨_, rfl⟩
    have h := h y_21 e_22
    refine aw_iinc (lv' := [(3, .int y_21), (5, .int r_10), (4, .int r_7), (0, .ref (sz + 140)), (2, .int x2)]) 4 dX10_crowd_84 rfl (by rw [e_22]; rfl) (by decide) rfl ?_
    refine aw_goto 26 dX10_crowd_87 (by decide) ?_
    refine aw_sub [3, 4, 0] rfl ?_
    exact hK26 x2 y_21 I_19 J_18 h
set_option maxRecDepth 20000 in
theorem tl_X10_crowd_26 {l : Launch} {D : va_G} {cy : Nat → ClassId} {sz : Nat} {G : sw_G} (hG : sw_lay G)   {Q : Int32 → sw_I → sw_J → Prop} : ∀ (n : Nat) (x2 : Int32) (x3 : Int32) (I : sw_I) (J : sw_J), wl_X10_crowd_26   Q n x2 x3 I J → AW l D cy sz RX10 cX10_crowd 6 (some .int) false rm_X10_crowd 0 0 (sw_qi G Q) 0 0 G I J 26 [(0, .ref (sz + 140)), (2, .int x2), (3, .int x3)] [] := by
  intro n
  induction n with
  | zero => intro x2 x3 I J h; exact False.elim h
  | succ n ih => intro x2 x3 I J h; exact tb_X10_crowd_26 hG  ih h
set_option maxRecDepth 20000 in
theorem t_X10_crowd {l : Launch} {D : va_G} {cy : Nat → ClassId} {sz : Nat} {G : sw_G} (hG : sw_lay G)   {Q : Int32 → sw_I → sw_J → Prop} {x1 : Int32} {x2 : Int32} {I : sw_I} {J : sw_J} (h : wp_X10_crowd x1 x2 I J Q) : AW l D cy sz RX10 cX10_crowd 6 (some .int) false rm_X10_crowd 0 0 (sw_qi G Q) 0 0 G I J 0 [(0, .ref (sz + 140)), (1, .int x1), (2, .int x2)] [] := by
  unfold wp_X10_crowd at h
  refine aw_aload_n 0 dX10_crowd_0 rfl rfl ?_
  refine aw_iconst (v := 0) dX10_crowd_1 (by decide) ?_
  refine pf_X10_0 fl_X10_3 (lk140 hG) dX10_crowd_2 (aw_nameI fun I_1 e_2 => ?_)
  have h := h I_1 e_2
  refine aw_iload_n 2 dX10_crowd_5 rfl rfl ?_
  refine aw_i2l dX10_crowd_6 ?_
  refine aw_lconst (v := 0) dX10_crowd_7 (by decide) ?_
  refine aw_ldc2 (v := 10) dX10_crowd_8 k_X10_234 ?_
  refine aw_callS wv_X10_in (M_X10_in trivial  h) ml_X10_25 rfl rfl (Nat.le_of_ble_eq_true rfl) ⟨rfl, rfl⟩ ⟨Nat.le_of_ble_eq_true rfl, Nat.le_of_ble_eq_true rfl⟩ ⟨Nat.le_refl _, Nat.le_refl _⟩ dX10_crowd_11 (aw_ki fun r_3 I_4 J_5 h => ?_)
  refine aw_zne 19 dX10_crowd_14 (by decide) (fun c_6 => ?_) (fun c_6 => ?_)
  · have h := sw_if.f h c_6
    refine aw_aload_n 0 dX10_crowd_19 rfl rfl ?_
    refine aw_iload_n 1 dX10_crowd_20 rfl rfl ?_
    refine pf_X10_31 fl_X10_238 (lk140 hG) dX10_crowd_21 (aw_nameI fun I_7 e_8 => ?_)
    have h := h I_7 e_8
    refine aw_iconst (v := 0) dX10_crowd_24 (by decide) ?_
    refine aw_istore_n (lv' := [(3, .int 0), (0, .ref (sz + 140)), (1, .int x1), (2, .int x2)]) dX10_crowd_25 rfl (by decide) rfl ?_
    refine aw_sub [1, 3, 0] rfl ?_
    obtain ⟨n_9, h⟩ := h
    exact tl_X10_crowd_26 hG   n_9 x2 0 I_7 J_5 h
  · have h := sw_if.t h c_6
    refine aw_iconst (v := (-1)) dX10_crowd_17 (by decide) ?_
    exact aw_iret rfl dX10_crowd_18 ⟨rfl, _, rfl, h⟩
theorem M_X10_crowd {l : Launch} {D : va_G} {cy : Nat → ClassId} {sz : Nat} {G : sw_G} (hG : sw_lay G)   {Q : Int32 → sw_I → sw_J → Prop} {x1 : Int32} {x2 : Int32} {I : sw_I} {J : sw_J} (h : wp_X10_crowd x1 x2 I J Q) : Met l yX10_crowd (Cond.code yX10_crowd cX10_crowd 6 (some .int) :: sw_T) rm_X10_crowd (sw_Pc D cy sz [.ref (sz + 140), .int x1, .int x2] G I J) (sw_Q D cy sz (sw_qi G Q)) 0 0 (fun q => sz ≤ q) :=
  sw_met (by decide) (fun q => by cases q) (Nat.le_of_ble_eq_true rfl) rfl (t_X10_crowd hG  h)
-- X10_putsBy
abbrev rm_X10_putsBy : Room := { frames := 0, cells := 0, slots := 0, locals := 0 }
def wb_X10_putsBy_2  (K2 : Int32 → sw_I → sw_J → Prop) (Q : sw_I → sw_J → Prop) (x1 : Int32) (I : sw_I) (J : sw_J) : Prop :=
  sw_if (x1 < (33 : Int32)) (vp_in x1 33 ∧ vp_in (((33 : Int32) * (I 140 32)) + x1) 693 ∧ ∀ I_4 : sw_I, I_4 = sw_up I 155 (((33 : Int32) * (I 140 32)) + x1).toNatClampNeg (I 144 x1.toNatClampNeg) → ∀ y_6 : Int32, y_6 = x1 + 1 → K2 y_6 I_4 J) (Q I J)
def wl_X10_putsBy_2   (Q : sw_I → sw_J → Prop) : Nat → Int32 → sw_I → sw_J → Prop
  | 0 => fun _ _ _ => False
  | n + 1 => fun x1 I J => wb_X10_putsBy_2  (wl_X10_putsBy_2   Q n) Q x1 I J
def wp_X10_putsBy  (I : sw_I) (J : sw_J) (Q : sw_I → sw_J → Prop) : Prop :=
  ∃ n_1 : Nat, wl_X10_putsBy_2   Q n_1 0 I J
set_option maxRecDepth 20000 in
theorem tb_X10_putsBy_2 {l : Launch} {D : va_G} {cy : Nat → ClassId} {sz : Nat} {G : sw_G} (hG : sw_lay G)   {Q : sw_I → sw_J → Prop} {K2 : Int32 → sw_I → sw_J → Prop} (hK2 : ∀ (x1 : Int32) (I : sw_I) (J : sw_J), K2 x1 I J → AW l D cy sz RX10 cX10_putsBy 2 none false rm_X10_putsBy 0 0 (sw_qv G Q) 0 0 G I J 2 [(0, .ref (sz + 140)), (1, .int x1)] []) {x1 : Int32} {I : sw_I} {J : sw_J} (h : wb_X10_putsBy_2  K2 Q x1 I J) : AW l D cy sz RX10 cX10_putsBy 2 none false rm_X10_putsBy 0 0 (sw_qv G Q) 0 0 G I J 2 [(0, .ref (sz + 140)), (1, .int x1)] [] := by
  unfold wb_X10_putsBy_2 at h
  refine aw_iload_n 1 dX10_putsBy_2 rfl rfl ?_
  refine aw_bipush (v := 33) dX10_putsBy_3 (by decide) ?_
  refine aw_jge 34 dX10_putsBy_5 (by decide) (fun c_1 => ?_) (fun c_1 => ?_)
  · have h := sw_if.f h c_1
    exact aw_vret rfl dX10_putsBy_34 ⟨rfl, rfl, h⟩
  · have h := sw_if.t h c_1
    refine aw_aload_n 0 dX10_putsBy_8 rfl rfl ?_
    refine gf_X10_33 fl_X10_245 (lk140 hG) (lr140_33 hG) dX10_putsBy_9 ?_
    refine aw_bipush (v := 33) dX10_putsBy_12 (by decide) ?_
    refine aw_aload_n 0 dX10_putsBy_14 rfl rfl ?_
    refine gf_X10_32 fl_X10_82 (lk140 hG) dX10_putsBy_15 ?_
    refine aw_imul dX10_putsBy_18 ?_
    refine aw_iload_n 1 dX10_putsBy_19 rfl rfl ?_
    refine aw_iadd dX10_putsBy_20 ?_
    refine aw_aload_n 0 dX10_putsBy_21 rfl rfl ?_
    refine gf_X10_9 fl_X10_79 (lk140 hG) (lr140_9 hG) dX10_putsBy_22 ?_
    refine aw_iload_n 1 dX10_putsBy_25 rfl rfl ?_
    obtain ⟨hi_2, h⟩ := h
    refine aw_ild dX10_putsBy_26 (lk144 hG) (ln144 hG) hi_2 ?_
    obtain ⟨hi_3, h⟩ := h
    refine aw_ist dX10_putsBy_27 (lk155 hG) (ln155 hG) hi_3 (aw_nameI fun I_4 e_5 => ?_)
    have h := h I_4 e_5
    obtain ⟨y_6, e_7⟩ : ∃ q : Int32, q = x1 + 1 := ⟨_, rfl⟩
    have h := h y_6 e_7
    refine aw_iinc (lv' := [(1, .int y_6), (0, .ref (sz + 140))]) 1 dX10_putsBy_28 rfl (by rw [e_7]; rfl) (by decide) rfl ?_
    refine aw_goto 2 dX10_putsBy_31 (by decide) ?_
    refine aw_sub [1, 0] rfl ?_
    exact hK2 y_6 I_4 J h
set_option maxRecDepth 20000 in
theorem tl_X10_putsBy_2 {l : Launch} {D : va_G} {cy : Nat → ClassId} {sz : Nat} {G : sw_G} (hG : sw_lay G)   {Q : sw_I → sw_J → Prop} : ∀ (n : Nat) (x1 : Int32) (I : sw_I) (J : sw_J), wl_X10_putsBy_2   Q n x1 I J → AW l D cy sz RX10 cX10_putsBy 2 none false rm_X10_putsBy 0 0 (sw_qv G Q) 0 0 G I J 2 [(0, .ref (sz + 140)), (1, .int x1)] [] := by
  intro n
  induction n with
  | zero => intro x1 I J h; exact False.elim h
  | succ n ih => intro x1 I J h; exact tb_X10_putsBy_2 hG  ih h
set_option maxRecDepth 20000 in
theorem t_X10_putsBy {l : Launch} {D : va_G} {cy : Nat → ClassId} {sz : Nat} {G : sw_G} (hG : sw_lay G)   {Q : sw_I → sw_J → Prop}  {I : sw_I} {J : sw_J} (h : wp_X10_putsBy  I J Q) : AW l D cy sz RX10 cX10_putsBy 2 none false rm_X10_putsBy 0 0 (sw_qv G Q) 0 0 G I J 0 [(0, .ref (sz + 140))] [] := by
  unfold wp_X10_putsBy at h
  refine aw_iconst (v := 0) dX10_putsBy_0 (by decide) ?_
  refine aw_istore_n (lv' := [(1, .int 0), (0, .ref (sz + 140))]) dX10_putsBy_1 rfl (by decide) rfl ?_
  refine aw_sub [1, 0] rfl ?_
  obtain ⟨n_1, h⟩ := h
  exact tl_X10_putsBy_2 hG   n_1 0 I J h
theorem M_X10_putsBy {l : Launch} {D : va_G} {cy : Nat → ClassId} {sz : Nat} {G : sw_G} (hG : sw_lay G)   {Q : sw_I → sw_J → Prop}  {I : sw_I} {J : sw_J} (h : wp_X10_putsBy  I J Q) : Met l yX10_putsBy (Cond.code yX10_putsBy cX10_putsBy 2 none :: sw_T) rm_X10_putsBy (sw_Pc D cy sz [.ref (sz + 140)] G I J) (sw_Q D cy sz (sw_qv G Q)) 0 0 (fun q => sz ≤ q) :=
  sw_met (by decide) (fun q => by cases q) (Nat.le_of_ble_eq_true rfl) rfl (t_X10_putsBy hG  h)
-- X10_adds
abbrev rm_X10_adds : Room := { frames := 0, cells := 0, slots := 0, locals := 0 }
def wb_X10_adds_21  (K21 : Int32 → sw_I → sw_J → Prop) (Q : sw_I → sw_J → Prop) (x1 : Int32) (I : sw_I) (J : sw_J) : Prop :=
  sw_if (x1 < (660 : Int32)) (vp_in (x1 + (33 : Int32)) 693 ∧ vp_in x1 693 ∧ ∀ I_6 : sw_I, I_6 = sw_up I 155 x1.toNatClampNeg (I 155 (x1 + (33 : Int32)).toNatClampNeg) → ∀ y_8 : Int32, y_8 = x1 + 1 → K21 y_8 I_6 J) (∀ I_2 : sw_I, I_2 = sw_up I 140 32 ((I 140 32) - (1 : Int32)) → Q I_2 J)
def wl_X10_adds_21   (Q : sw_I → sw_J → Prop) : Nat → Int32 → sw_I → sw_J → Prop
  | 0 => fun _ _ _ => False
  | n + 1 => fun x1 I J => wb_X10_adds_21  (wl_X10_adds_21   Q n) Q x1 I J
def wp_X10_adds  (I : sw_I) (J : sw_J) (Q : sw_I → sw_J → Prop) : Prop :=
  ∀ I_1 : sw_I, I_1 = sw_up I 140 32 ((I 140 32) + (1 : Int32)) → sw_if ((20 : Int32) < (I_1 140 32)) (∃ n_4 : Nat, wl_X10_adds_21   Q n_4 0 I_1 J) (Q I_1 J)
set_option maxRecDepth 20000 in
theorem tb_X10_adds_21 {l : Launch} {D : va_G} {cy : Nat → ClassId} {sz : Nat} {G : sw_G} (hG : sw_lay G)   {Q : sw_I → sw_J → Prop} {K21 : Int32 → sw_I → sw_J → Prop} (hK21 : ∀ (x1 : Int32) (I : sw_I) (J : sw_J), K21 x1 I J → AW l D cy sz RX10 cX10_adds 2 none false rm_X10_adds 0 0 (sw_qv G Q) 0 0 G I J 21 [(0, .ref (sz + 140)), (1, .int x1)] []) {x1 : Int32} {I : sw_I} {J : sw_J} (h : wb_X10_adds_21  K21 Q x1 I J) : AW l D cy sz RX10 cX10_adds 2 none false rm_X10_adds 0 0 (sw_qv G Q) 0 0 G I J 21 [(0, .ref (sz + 140)), (1, .int x1)] [] := by
  unfold wb_X10_adds_21 at h
  refine aw_iload_n 1 dX10_adds_21 rfl rfl ?_
  refine aw_sipush (v := 660) dX10_adds_22 (by decide) ?_
  refine aw_jge 49 dX10_adds_25 (by decide) (fun c_1 => ?_) (fun c_1 => ?_)
  · have h := sw_if.f h c_1
    refine aw_aload_n 0 dX10_adds_49 rfl rfl ?_
    refine aw_dup dX10_adds_50 rfl ?_
    refine gf_X10_32 fl_X10_82 (lk140 hG) dX10_adds_51 ?_
    refine aw_iconst (v := 1) dX10_adds_54 (by decide) ?_
    refine aw_isub dX10_adds_55 ?_
    refine pf_X10_32 fl_X10_82 (lk140 hG) dX10_adds_56 (aw_nameI fun I_2 e_3 => ?_)
    have h := h I_2 e_3
    exact aw_vret rfl dX10_adds_59 ⟨rfl, rfl, h⟩
  · have h := sw_if.t h c_1
    refine aw_aload_n 0 dX10_adds_28 rfl rfl ?_
    refine gf_X10_33 fl_X10_245 (lk140 hG) (lr140_33 hG) dX10_adds_29 ?_
    refine aw_iload_n 1 dX10_adds_32 rfl rfl ?_
    refine aw_aload_n 0 dX10_adds_33 rfl rfl ?_
    refine gf_X10_33 fl_X10_245 (lk140 hG) (lr140_33 hG) dX10_adds_34 ?_
    refine aw_iload_n 1 dX10_adds_37 rfl rfl ?_
    refine aw_bipush (v := 33) dX10_adds_38 (by decide) ?_
    refine aw_iadd dX10_adds_40 ?_
    obtain ⟨hi_4, h⟩ := h
    refine aw_ild dX10_adds_41 (lk155 hG) (ln155 hG) hi_4 ?_
    obtain ⟨hi_5, h⟩ := h
    refine aw_ist dX10_adds_42 (lk155 hG) (ln155 hG) hi_5 (aw_nameI fun I_6 e_7 => ?_)
    have h := h I_6 e_7
    obtain ⟨y_8, e_9⟩ : ∃ q : Int32, q = x1 + 1 := ⟨_, rfl⟩
    have h := h y_8 e_9
    refine aw_iinc (lv' := [(1, .int y_8), (0, .ref (sz + 140))]) 1 dX10_adds_43 rfl (by rw [e_9]; rfl) (by decide) rfl ?_
    refine aw_goto 21 dX10_adds_46 (by decide) ?_
    refine aw_sub [1, 0] rfl ?_
    exact hK21 y_8 I_6 J h
set_option maxRecDepth 20000 in
theorem tl_X10_adds_21 {l : Launch} {D : va_G} {cy : Nat → ClassId} {sz : Nat} {G : sw_G} (hG : sw_lay G)   {Q : sw_I → sw_J → Prop} : ∀ (n : Nat) (x1 : Int32) (I : sw_I) (J : sw_J), wl_X10_adds_21   Q n x1 I J → AW l D cy sz RX10 cX10_adds 2 none false rm_X10_adds 0 0 (sw_qv G Q) 0 0 G I J 21 [(0, .ref (sz + 140)), (1, .int x1)] [] := by
  intro n
  induction n with
  | zero => intro x1 I J h; exact False.elim h
  | succ n ih => intro x1 I J h; exact tb_X10_adds_21 hG  ih h
set_option maxRecDepth 20000 in
theorem t_X10_adds {l : Launch} {D : va_G} {cy : Nat → ClassId} {sz : Nat} {G : sw_G} (hG : sw_lay G)   {Q : sw_I → sw_J → Prop}  {I : sw_I} {J : sw_J} (h : wp_X10_adds  I J Q) : AW l D cy sz RX10 cX10_adds 2 none false rm_X10_adds 0 0 (sw_qv G Q) 0 0 G I J 0 [(0, .ref (sz + 140))] [] := by
  unfold wp_X10_adds at h
  refine aw_aload_n 0 dX10_adds_0 rfl rfl ?_
  refine aw_dup dX10_adds_1 rfl ?_
  refine gf_X10_32 fl_X10_82 (lk140 hG) dX10_adds_2 ?_
  refine aw_iconst (v := 1) dX10_adds_5 (by decide) ?_
  refine aw_iadd dX10_adds_6 ?_
  refine pf_X10_32 fl_X10_82 (lk140 hG) dX10_adds_7 (aw_nameI fun I_1 e_2 => ?_)
  have h := h I_1 e_2
  refine aw_aload_n 0 dX10_adds_10 rfl rfl ?_
  refine gf_X10_32 fl_X10_82 (lk140 hG) dX10_adds_11 ?_
  refine aw_bipush (v := 20) dX10_adds_14 (by decide) ?_
  refine aw_jle 59 dX10_adds_16 (by decide) (fun c_3 => ?_) (fun c_3 => ?_)
  · have h := sw_if.f h c_3
    exact aw_vret rfl dX10_adds_59 ⟨rfl, rfl, h⟩
  · have h := sw_if.t h c_3
    refine aw_iconst (v := 0) dX10_adds_19 (by decide) ?_
    refine aw_istore_n (lv' := [(1, .int 0), (0, .ref (sz + 140))]) dX10_adds_20 rfl (by decide) rfl ?_
    refine aw_sub [1, 0] rfl ?_
    obtain ⟨n_4, h⟩ := h
    exact tl_X10_adds_21 hG   n_4 0 I_1 J h
theorem M_X10_adds {l : Launch} {D : va_G} {cy : Nat → ClassId} {sz : Nat} {G : sw_G} (hG : sw_lay G)   {Q : sw_I → sw_J → Prop}  {I : sw_I} {J : sw_J} (h : wp_X10_adds  I J Q) : Met l yX10_adds (Cond.code yX10_adds cX10_adds 2 none :: sw_T) rm_X10_adds (sw_Pc D cy sz [.ref (sz + 140)] G I J) (sw_Q D cy sz (sw_qv G Q)) 0 0 (fun q => sz ≤ q) :=
  sw_met (by decide) (fun q => by cases q) (Nat.le_of_ble_eq_true rfl) rfl (t_X10_adds hG  h)
-- X10_undo
abbrev rm_X10_undo : Room := { frames := 0, cells := 0, slots := 0, locals := 0 }
def wb_X10_undo_26  (K26 : Int32 → sw_I → sw_J → Prop) (Q : Int32 → sw_I → sw_J → Prop) (x1 : Int32) (I : sw_I) (J : sw_J) : Prop :=
  sw_if (x1 < (33 : Int32)) (vp_in (((33 : Int32) * (I 140 32)) + x1) 693 ∧ vp_in x1 33 ∧ ∀ I_4 : sw_I, I_4 = sw_up I 144 x1.toNatClampNeg (I 155 (((33 : Int32) * (I 140 32)) + x1).toNatClampNeg) → ∀ y_6 : Int32, y_6 = x1 + 1 → K26 y_6 I_4 J) (Q (I 140 32) I J)
def wl_X10_undo_26   (Q : Int32 → sw_I → sw_J → Prop) : Nat → Int32 → sw_I → sw_J → Prop
  | 0 => fun _ _ _ => False
  | n + 1 => fun x1 I J => wb_X10_undo_26  (wl_X10_undo_26   Q n) Q x1 I J
def wp_X10_undo  (I : sw_I) (J : sw_J) (Q : Int32 → sw_I → sw_J → Prop) : Prop :=
  ∀ I_1 : sw_I, I_1 = sw_up I 140 0 (0 : Int32) → sw_if ((I_1 140 32) = 0) (Q (-1 : Int32) I_1 J) (∀ I_4 : sw_I, I_4 = sw_up I_1 140 32 ((I_1 140 32) - (1 : Int32)) → ∃ n_6 : Nat, wl_X10_undo_26   Q n_6 0 I_4 J)
set_option maxRecDepth 20000 in
theorem tb_X10_undo_26 {l : Launch} {D : va_G} {cy : Nat → ClassId} {sz : Nat} {G : sw_G} (hG : sw_lay G)   {Q : Int32 → sw_I → sw_J → Prop} {K26 : Int32 → sw_I → sw_J → Prop} (hK26 : ∀ (x1 : Int32) (I : sw_I) (J : sw_J), K26 x1 I J → AW l D cy sz RX10 cX10_undo 2 (some .int) false rm_X10_undo 0 0 (sw_qi G Q) 0 0 G I J 26 [(0, .ref (sz + 140)), (1, .int x1)] []) {x1 : Int32} {I : sw_I} {J : sw_J} (h : wb_X10_undo_26  K26 Q x1 I J) : AW l D cy sz RX10 cX10_undo 2 (some .int) false rm_X10_undo 0 0 (sw_qi G Q) 0 0 G I J 26 [(0, .ref (sz + 140)), (1, .int x1)] [] := by
  unfold wb_X10_undo_26 at h
  refine aw_iload_n 1 dX10_undo_26 rfl rfl ?_
  refine aw_bipush (v := 33) dX10_undo_27 (by decide) ?_
  refine aw_jge 58 dX10_undo_29 (by decide) (fun c_1 => ?_) (fun c_1 => ?_)
  · have h := sw_if.f h c_1
    refine aw_aload_n 0 dX10_undo_58 rfl rfl ?_
    refine gf_X10_32 fl_X10_82 (lk140 hG) dX10_undo_59 ?_
    exact aw_iret rfl dX10_undo_62 ⟨rfl, _, rfl, h⟩
  · have h := sw_if.t h c_1
    refine aw_aload_n 0 dX10_undo_32 rfl rfl ?_
    refine gf_X10_9 fl_X10_79 (lk140 hG) (lr140_9 hG) dX10_undo_33 ?_
    refine aw_iload_n 1 dX10_undo_36 rfl rfl ?_
    refine aw_aload_n 0 dX10_undo_37 rfl rfl ?_
    refine gf_X10_33 fl_X10_245 (lk140 hG) (lr140_33 hG) dX10_undo_38 ?_
    refine aw_bipush (v := 33) dX10_undo_41 (by decide) ?_
    refine aw_aload_n 0 dX10_undo_43 rfl rfl ?_
    refine gf_X10_32 fl_X10_82 (lk140 hG) dX10_undo_44 ?_
    refine aw_imul dX10_undo_47 ?_
    refine aw_iload_n 1 dX10_undo_48 rfl rfl ?_
    refine aw_iadd dX10_undo_49 ?_
    obtain ⟨hi_2, h⟩ := h
    refine aw_ild dX10_undo_50 (lk155 hG) (ln155 hG) hi_2 ?_
    obtain ⟨hi_3, h⟩ := h
    refine aw_ist dX10_undo_51 (lk144 hG) (ln144 hG) hi_3 (aw_nameI fun I_4 e_5 => ?_)
    have h := h I_4 e_5
    obtain ⟨y_6, e_7⟩ : ∃ q : Int32, q = x1 + 1 := ⟨_, rfl⟩
    have h := h y_6 e_7
    refine aw_iinc (lv' := [(1, .int y_6), (0, .ref (sz + 140))]) 1 dX10_undo_52 rfl (by rw [e_7]; rfl) (by decide) rfl ?_
    refine aw_goto 26 dX10_undo_55 (by decide) ?_
    refine aw_sub [1, 0] rfl ?_
    exact hK26 y_6 I_4 J h
set_option maxRecDepth 20000 in
theorem tl_X10_undo_26 {l : Launch} {D : va_G} {cy : Nat → ClassId} {sz : Nat} {G : sw_G} (hG : sw_lay G)   {Q : Int32 → sw_I → sw_J → Prop} : ∀ (n : Nat) (x1 : Int32) (I : sw_I) (J : sw_J), wl_X10_undo_26   Q n x1 I J → AW l D cy sz RX10 cX10_undo 2 (some .int) false rm_X10_undo 0 0 (sw_qi G Q) 0 0 G I J 26 [(0, .ref (sz + 140)), (1, .int x1)] [] := by
  intro n
  induction n with
  | zero => intro x1 I J h; exact False.elim h
  | succ n ih => intro x1 I J h; exact tb_X10_undo_26 hG  ih h
set_option maxRecDepth 20000 in
theorem t_X10_undo {l : Launch} {D : va_G} {cy : Nat → ClassId} {sz : Nat} {G : sw_G} (hG : sw_lay G)   {Q : Int32 → sw_I → sw_J → Prop}  {I : sw_I} {J : sw_J} (h : wp_X10_undo  I J Q) : AW l D cy sz RX10 cX10_undo 2 (some .int) false rm_X10_undo 0 0 (sw_qi G Q) 0 0 G I J 0 [(0, .ref (sz + 140))] [] := by
  unfold wp_X10_undo at h
  refine aw_aload_n 0 dX10_undo_0 rfl rfl ?_
  refine aw_iconst (v := 0) dX10_undo_1 (by decide) ?_
  refine pf_X10_0 fl_X10_3 (lk140 hG) dX10_undo_2 (aw_nameI fun I_1 e_2 => ?_)
  have h := h I_1 e_2
  refine aw_aload_n 0 dX10_undo_5 rfl rfl ?_
  refine gf_X10_32 fl_X10_82 (lk140 hG) dX10_undo_6 ?_
  refine aw_zne 14 dX10_undo_9 (by decide) (fun c_3 => ?_) (fun c_3 => ?_)
  · have h := sw_if.f h c_3
    refine aw_aload_n 0 dX10_undo_14 rfl rfl ?_
    refine aw_dup dX10_undo_15 rfl ?_
    refine gf_X10_32 fl_X10_82 (lk140 hG) dX10_undo_16 ?_
    refine aw_iconst (v := 1) dX10_undo_19 (by decide) ?_
    refine aw_isub dX10_undo_20 ?_
    refine pf_X10_32 fl_X10_82 (lk140 hG) dX10_undo_21 (aw_nameI fun I_4 e_5 => ?_)
    have h := h I_4 e_5
    refine aw_iconst (v := 0) dX10_undo_24 (by decide) ?_
    refine aw_istore_n (lv' := [(1, .int 0), (0, .ref (sz + 140))]) dX10_undo_25 rfl (by decide) rfl ?_
    refine aw_sub [1, 0] rfl ?_
    obtain ⟨n_6, h⟩ := h
    exact tl_X10_undo_26 hG   n_6 0 I_4 J h
  · have h := sw_if.t h c_3
    refine aw_iconst (v := (-1)) dX10_undo_12 (by decide) ?_
    exact aw_iret rfl dX10_undo_13 ⟨rfl, _, rfl, h⟩
theorem M_X10_undo {l : Launch} {D : va_G} {cy : Nat → ClassId} {sz : Nat} {G : sw_G} (hG : sw_lay G)   {Q : Int32 → sw_I → sw_J → Prop}  {I : sw_I} {J : sw_J} (h : wp_X10_undo  I J Q) : Met l yX10_undo (Cond.code yX10_undo cX10_undo 2 (some .int) :: sw_T) rm_X10_undo (sw_Pc D cy sz [.ref (sz + 140)] G I J) (sw_Q D cy sz (sw_qi G Q)) 0 0 (fun q => sz ≤ q) :=
  sw_met (by decide) (fun q => by cases q) (Nat.le_of_ble_eq_true rfl) rfl (t_X10_undo hG  h)
-- X10_canEnter
abbrev rm_X10_canEnter : Room := { frames := 2, cells := 0, slots := 0, locals := 46 }
def wp_X10_canEnter (x1 : Int32) (I : sw_I) (J : sw_J) (Q : Int32 → sw_I → sw_J → Prop) : Prop :=
  wp_X10_isRider x1 I J (fun r_1 I_2 J_3 => sw_if (r_1 = 0) (Q 0 I_2 J_3) (vp_in x1 33 ∧ sw_if ((I_2 144 x1.toNatClampNeg) = (I_2 144 (31 : Int32).toNatClampNeg)) (wp_X10_has (I_2 144 (30 : Int32).toNatClampNeg) x1 I_2 J_3 (fun r_9 I_10 J_11 => sw_if (r_9 = 0) (Q 1 I_10 J_11) (Q 0 I_10 J_11))) (Q 0 I_2 J_3)))
set_option maxRecDepth 20000 in
theorem t_X10_canEnter {l : Launch} {D : va_G} {cy : Nat → ClassId} {sz : Nat} {G : sw_G} (hG : sw_lay G)   {Q : Int32 → sw_I → sw_J → Prop} {x1 : Int32} {I : sw_I} {J : sw_J} (h : wp_X10_canEnter x1 I J Q) : AW l D cy sz RX10 cX10_canEnter 2 (some .boolean) false rm_X10_canEnter 0 0 (sw_qi G Q) 0 0 G I J 0 [(0, .ref (sz + 140)), (1, .int x1)] [] := by
  unfold wp_X10_canEnter at h
  refine aw_aload_n 0 dX10_canEnter_0 rfl rfl ?_
  refine aw_iload_n 1 dX10_canEnter_1 rfl rfl ?_
  refine aw_callV wv_X10_isRider (M_X10_isRider hG  h) ml_X10_226 rfl (by decide) (lk140 hG) rfl rfl (Nat.le_of_ble_eq_true rfl) ⟨rfl, rfl⟩ ⟨Nat.le_of_ble_eq_true rfl, Nat.le_of_ble_eq_true rfl⟩ ⟨Nat.le_refl _, Nat.le_refl _⟩ dX10_canEnter_2 (aw_ki fun r_1 I_2 J_3 h => ?_)
  refine aw_zeq 42 dX10_canEnter_5 (by decide) (fun c_4 => ?_) (fun c_4 => ?_)
  · have h := sw_if.t h c_4
    refine aw_iconst (v := 0) dX10_canEnter_42 (by decide) ?_
    exact aw_zret rfl rfl dX10_canEnter_43 ⟨rfl, _, rfl, h⟩
  · have h := sw_if.f h c_4
    refine aw_aload_n 0 dX10_canEnter_8 rfl rfl ?_
    refine gf_X10_9 fl_X10_79 (lk140 hG) (lr140_9 hG) dX10_canEnter_9 ?_
    refine aw_iload_n 1 dX10_canEnter_12 rfl rfl ?_
    obtain ⟨hi_5, h⟩ := h
    refine aw_ild dX10_canEnter_13 (lk144 hG) (ln144 hG) hi_5 ?_
    refine aw_aload_n 0 dX10_canEnter_14 rfl rfl ?_
    refine gf_X10_9 fl_X10_79 (lk140 hG) (lr140_9 hG) dX10_canEnter_15 ?_
    refine aw_bipush (v := 31) dX10_canEnter_18 (by decide) ?_
    refine aw_ild dX10_canEnter_20 (lk144 hG) (ln144 hG) (by unfold vp_in; decide) ?_
    refine aw_jne 42 dX10_canEnter_21 (by decide) (fun c_7 => ?_) (fun c_7 => ?_)
    · have h := sw_if.f h c_7
      refine aw_iconst (v := 0) dX10_canEnter_42 (by decide) ?_
      exact aw_zret rfl rfl dX10_canEnter_43 ⟨rfl, _, rfl, h⟩
    · have h := sw_if.t h c_7
      refine aw_aload_n 0 dX10_canEnter_24 rfl rfl ?_
      refine gf_X10_9 fl_X10_79 (lk140 hG) (lr140_9 hG) dX10_canEnter_25 ?_
      refine aw_bipush (v := 30) dX10_canEnter_28 (by decide) ?_
      refine aw_ild dX10_canEnter_30 (lk144 hG) (ln144 hG) (by unfold vp_in; decide) ?_
      refine aw_iload_n 1 dX10_canEnter_31 rfl rfl ?_
      refine aw_callS wv_X10_has (M_X10_has trivial  h) ml_X10_195 rfl rfl (Nat.le_of_ble_eq_true rfl) ⟨rfl, rfl⟩ ⟨Nat.le_of_ble_eq_true rfl, Nat.le_of_ble_eq_true rfl⟩ ⟨Nat.le_refl _, Nat.le_refl _⟩ dX10_canEnter_32 (aw_ki fun r_9 I_10 J_11 h => ?_)
      refine aw_zne 42 dX10_canEnter_35 (by decide) (fun c_12 => ?_) (fun c_12 => ?_)
      · have h := sw_if.f h c_12
        refine aw_iconst (v := 0) dX10_canEnter_42 (by decide) ?_
        exact aw_zret rfl rfl dX10_canEnter_43 ⟨rfl, _, rfl, h⟩
      · have h := sw_if.t h c_12
        refine aw_iconst (v := 1) dX10_canEnter_38 (by decide) ?_
        refine aw_goto 43 dX10_canEnter_39 (by decide) ?_
        exact aw_zret rfl rfl dX10_canEnter_43 ⟨rfl, _, rfl, h⟩
theorem M_X10_canEnter {l : Launch} {D : va_G} {cy : Nat → ClassId} {sz : Nat} {G : sw_G} (hG : sw_lay G)   {Q : Int32 → sw_I → sw_J → Prop} {x1 : Int32} {I : sw_I} {J : sw_J} (h : wp_X10_canEnter x1 I J Q) : Met l yX10_canEnter (Cond.code yX10_canEnter cX10_canEnter 2 (some .boolean) :: sw_T) rm_X10_canEnter (sw_Pc D cy sz [.ref (sz + 140), .int x1] G I J) (sw_Q D cy sz (sw_qi G Q)) 0 0 (fun q => sz ≤ q) :=
  sw_met (by decide) (fun q => by cases q) (Nat.le_of_ble_eq_true rfl) rfl (t_X10_canEnter hG  h)
-- X10_canLeave
abbrev rm_X10_canLeave : Room := { frames := 2, cells := 0, slots := 0, locals := 46 }
def wp_X10_canLeave (x1 : Int32) (I : sw_I) (J : sw_J) (Q : Int32 → sw_I → sw_J → Prop) : Prop :=
  wp_X10_isRider x1 I J (fun r_1 I_2 J_3 => sw_if (r_1 = 0) (Q 0 I_2 J_3) (wp_X10_has (I_2 144 (30 : Int32).toNatClampNeg) x1 I_2 J_3 (fun r_6 I_7 J_8 => sw_if (r_6 = 0) (Q 0 I_7 J_8) (Q 1 I_7 J_8))))
set_option maxRecDepth 20000 in
theorem t_X10_canLeave {l : Launch} {D : va_G} {cy : Nat → ClassId} {sz : Nat} {G : sw_G} (hG : sw_lay G)   {Q : Int32 → sw_I → sw_J → Prop} {x1 : Int32} {I : sw_I} {J : sw_J} (h : wp_X10_canLeave x1 I J Q) : AW l D cy sz RX10 cX10_canLeave 2 (some .boolean) false rm_X10_canLeave 0 0 (sw_qi G Q) 0 0 G I J 0 [(0, .ref (sz + 140)), (1, .int x1)] [] := by
  unfold wp_X10_canLeave at h
  refine aw_aload_n 0 dX10_canLeave_0 rfl rfl ?_
  refine aw_iload_n 1 dX10_canLeave_1 rfl rfl ?_
  refine aw_callV wv_X10_isRider (M_X10_isRider hG  h) ml_X10_226 rfl (by decide) (lk140 hG) rfl rfl (Nat.le_of_ble_eq_true rfl) ⟨rfl, rfl⟩ ⟨Nat.le_of_ble_eq_true rfl, Nat.le_of_ble_eq_true rfl⟩ ⟨Nat.le_refl _, Nat.le_refl _⟩ dX10_canLeave_2 (aw_ki fun r_1 I_2 J_3 h => ?_)
  refine aw_zeq 26 dX10_canLeave_5 (by decide) (fun c_4 => ?_) (fun c_4 => ?_)
  · have h := sw_if.t h c_4
    refine aw_iconst (v := 0) dX10_canLeave_26 (by decide) ?_
    exact aw_zret rfl rfl dX10_canLeave_27 ⟨rfl, _, rfl, h⟩
  · have h := sw_if.f h c_4
    refine aw_aload_n 0 dX10_canLeave_8 rfl rfl ?_
    refine gf_X10_9 fl_X10_79 (lk140 hG) (lr140_9 hG) dX10_canLeave_9 ?_
    refine aw_bipush (v := 30) dX10_canLeave_12 (by decide) ?_
    refine aw_ild dX10_canLeave_14 (lk144 hG) (ln144 hG) (by unfold vp_in; decide) ?_
    refine aw_iload_n 1 dX10_canLeave_15 rfl rfl ?_
    refine aw_callS wv_X10_has (M_X10_has trivial  h) ml_X10_195 rfl rfl (Nat.le_of_ble_eq_true rfl) ⟨rfl, rfl⟩ ⟨Nat.le_of_ble_eq_true rfl, Nat.le_of_ble_eq_true rfl⟩ ⟨Nat.le_refl _, Nat.le_refl _⟩ dX10_canLeave_16 (aw_ki fun r_6 I_7 J_8 h => ?_)
    refine aw_zeq 26 dX10_canLeave_19 (by decide) (fun c_9 => ?_) (fun c_9 => ?_)
    · have h := sw_if.t h c_9
      refine aw_iconst (v := 0) dX10_canLeave_26 (by decide) ?_
      exact aw_zret rfl rfl dX10_canLeave_27 ⟨rfl, _, rfl, h⟩
    · have h := sw_if.f h c_9
      refine aw_iconst (v := 1) dX10_canLeave_22 (by decide) ?_
      refine aw_goto 27 dX10_canLeave_23 (by decide) ?_
      exact aw_zret rfl rfl dX10_canLeave_27 ⟨rfl, _, rfl, h⟩
theorem M_X10_canLeave {l : Launch} {D : va_G} {cy : Nat → ClassId} {sz : Nat} {G : sw_G} (hG : sw_lay G)   {Q : Int32 → sw_I → sw_J → Prop} {x1 : Int32} {I : sw_I} {J : sw_J} (h : wp_X10_canLeave x1 I J Q) : Met l yX10_canLeave (Cond.code yX10_canLeave cX10_canLeave 2 (some .boolean) :: sw_T) rm_X10_canLeave (sw_Pc D cy sz [.ref (sz + 140), .int x1] G I J) (sw_Q D cy sz (sw_qi G Q)) 0 0 (fun q => sz ≤ q) :=
  sw_met (by decide) (fun q => by cases q) (Nat.le_of_ble_eq_true rfl) rfl (t_X10_canLeave hG  h)
-- X10_enter
abbrev rm_X10_enter : Room := { frames := 3, cells := 0, slots := 0, locals := 67 }
def wp_X10_enter (x1 : Int32) (I : sw_I) (J : sw_J) (Q : Int32 → sw_I → sw_J → Prop) : Prop :=
  ∀ I_1 : sw_I, I_1 = sw_up I 140 0 (0 : Int32) → wp_X10_canEnter x1 I_1 J (fun r_3 I_4 J_5 => sw_if (r_3 = 0) (Q 0 I_4 J_5) (wp_X10_putsBy  I_4 J_5 (fun I_8 J_9 => ∀ I_12 : sw_I, I_12 = sw_up I_8 144 (30 : Int32).toNatClampNeg ((I_8 144 (30 : Int32).toNatClampNeg) ||| ((1 : Int32) <<< (x1 &&& 31))) → wp_X10_adds  I_12 J_9 (fun I_15 J_16 => Q 1 I_15 J_16))))
set_option maxRecDepth 20000 in
theorem t_X10_enter {l : Launch} {D : va_G} {cy : Nat → ClassId} {sz : Nat} {G : sw_G} (hG : sw_lay G)   {Q : Int32 → sw_I → sw_J → Prop} {x1 : Int32} {I : sw_I} {J : sw_J} (h : wp_X10_enter x1 I J Q) : AW l D cy sz RX10 cX10_enter 2 (some .boolean) false rm_X10_enter 0 0 (sw_qi G Q) 0 0 G I J 0 [(0, .ref (sz + 140)), (1, .int x1)] [] := by
  unfold wp_X10_enter at h
  refine aw_aload_n 0 dX10_enter_0 rfl rfl ?_
  refine aw_iconst (v := 0) dX10_enter_1 (by decide) ?_
  refine pf_X10_0 fl_X10_3 (lk140 hG) dX10_enter_2 (aw_nameI fun I_1 e_2 => ?_)
  have h := h I_1 e_2
  refine aw_aload_n 0 dX10_enter_5 rfl rfl ?_
  refine aw_iload_n 1 dX10_enter_6 rfl rfl ?_
  refine aw_callV wv_X10_canEnter (M_X10_canEnter hG  h) ml_X10_248 rfl (by decide) (lk140 hG) rfl rfl (Nat.le_of_ble_eq_true rfl) ⟨rfl, rfl⟩ ⟨Nat.le_of_ble_eq_true rfl, Nat.le_of_ble_eq_true rfl⟩ ⟨Nat.le_refl _, Nat.le_refl _⟩ dX10_enter_7 (aw_ki fun r_3 I_4 J_5 h => ?_)
  refine aw_zne 15 dX10_enter_10 (by decide) (fun c_6 => ?_) (fun c_6 => ?_)
  · have h := sw_if.f h c_6
    refine aw_aload_n 0 dX10_enter_15 rfl rfl ?_
    refine aw_callV wv_X10_putsBy (M_X10_putsBy hG  h) ml_X10_251 rfl (by decide) (lk140 hG) rfl rfl (Nat.le_of_ble_eq_true rfl) ⟨rfl, rfl⟩ ⟨Nat.le_of_ble_eq_true rfl, Nat.le_of_ble_eq_true rfl⟩ ⟨Nat.le_refl _, Nat.le_refl _⟩ dX10_enter_16 (aw_kv fun I_8 J_9 h => ?_)
    refine aw_aload_n 0 dX10_enter_19 rfl rfl ?_
    refine gf_X10_9 fl_X10_79 (lk140 hG) (lr140_9 hG) dX10_enter_20 ?_
    refine aw_bipush (v := 30) dX10_enter_23 (by decide) ?_
    refine aw_dup2 dX10_enter_25 rfl rfl ?_
    refine aw_ild dX10_enter_26 (lk144 hG) (ln144 hG) (by unfold vp_in; decide) ?_
    refine aw_iconst (v := 1) dX10_enter_27 (by decide) ?_
    refine aw_iload_n 1 dX10_enter_28 rfl rfl ?_
    refine aw_ishl dX10_enter_29 ?_
    refine aw_ior dX10_enter_30 ?_
    refine aw_ist dX10_enter_31 (lk144 hG) (ln144 hG) (by unfold vp_in; decide) (aw_nameI fun I_12 e_13 => ?_)
    have h := h I_12 e_13
    refine aw_aload_n 0 dX10_enter_32 rfl rfl ?_
    refine aw_callV wv_X10_adds (M_X10_adds hG  h) ml_X10_255 rfl (by decide) (lk140 hG) rfl rfl (Nat.le_of_ble_eq_true rfl) ⟨rfl, rfl⟩ ⟨Nat.le_of_ble_eq_true rfl, Nat.le_of_ble_eq_true rfl⟩ ⟨Nat.le_refl _, Nat.le_refl _⟩ dX10_enter_33 (aw_kv fun I_15 J_16 h => ?_)
    refine aw_iconst (v := 1) dX10_enter_36 (by decide) ?_
    exact aw_zret rfl rfl dX10_enter_37 ⟨rfl, _, rfl, h⟩
  · have h := sw_if.t h c_6
    refine aw_iconst (v := 0) dX10_enter_13 (by decide) ?_
    exact aw_zret rfl rfl dX10_enter_14 ⟨rfl, _, rfl, h⟩
theorem M_X10_enter {l : Launch} {D : va_G} {cy : Nat → ClassId} {sz : Nat} {G : sw_G} (hG : sw_lay G)   {Q : Int32 → sw_I → sw_J → Prop} {x1 : Int32} {I : sw_I} {J : sw_J} (h : wp_X10_enter x1 I J Q) : Met l yX10_enter (Cond.code yX10_enter cX10_enter 2 (some .boolean) :: sw_T) rm_X10_enter (sw_Pc D cy sz [.ref (sz + 140), .int x1] G I J) (sw_Q D cy sz (sw_qi G Q)) 0 0 (fun q => sz ≤ q) :=
  sw_met (by decide) (fun q => by cases q) (Nat.le_of_ble_eq_true rfl) rfl (t_X10_enter hG  h)
-- X10_leave
abbrev rm_X10_leave : Room := { frames := 3, cells := 0, slots := 0, locals := 67 }
def wp_X10_leave (x1 : Int32) (I : sw_I) (J : sw_J) (Q : Int32 → sw_I → sw_J → Prop) : Prop :=
  ∀ I_1 : sw_I, I_1 = sw_up I 140 0 (0 : Int32) → wp_X10_canLeave x1 I_1 J (fun r_3 I_4 J_5 => sw_if (r_3 = 0) (Q 0 I_4 J_5) (wp_X10_putsBy  I_4 J_5 (fun I_8 J_9 => ∀ I_12 : sw_I, I_12 = sw_up I_8 144 (30 : Int32).toNatClampNeg ((I_8 144 (30 : Int32).toNatClampNeg) &&& (((1 : Int32) <<< (x1 &&& 31)) ^^^ (-1 : Int32))) → wp_X10_adds  I_12 J_9 (fun I_15 J_16 => Q 1 I_15 J_16))))
set_option maxRecDepth 20000 in
theorem t_X10_leave {l : Launch} {D : va_G} {cy : Nat → ClassId} {sz : Nat} {G : sw_G} (hG : sw_lay G)   {Q : Int32 → sw_I → sw_J → Prop} {x1 : Int32} {I : sw_I} {J : sw_J} (h : wp_X10_leave x1 I J Q) : AW l D cy sz RX10 cX10_leave 2 (some .boolean) false rm_X10_leave 0 0 (sw_qi G Q) 0 0 G I J 0 [(0, .ref (sz + 140)), (1, .int x1)] [] := by
  unfold wp_X10_leave at h
  refine aw_aload_n 0 dX10_leave_0 rfl rfl ?_
  refine aw_iconst (v := 0) dX10_leave_1 (by decide) ?_
  refine pf_X10_0 fl_X10_3 (lk140 hG) dX10_leave_2 (aw_nameI fun I_1 e_2 => ?_)
  have h := h I_1 e_2
  refine aw_aload_n 0 dX10_leave_5 rfl rfl ?_
  refine aw_iload_n 1 dX10_leave_6 rfl rfl ?_
  refine aw_callV wv_X10_canLeave (M_X10_canLeave hG  h) ml_X10_258 rfl (by decide) (lk140 hG) rfl rfl (Nat.le_of_ble_eq_true rfl) ⟨rfl, rfl⟩ ⟨Nat.le_of_ble_eq_true rfl, Nat.le_of_ble_eq_true rfl⟩ ⟨Nat.le_refl _, Nat.le_refl _⟩ dX10_leave_7 (aw_ki fun r_3 I_4 J_5 h => ?_)
  refine aw_zne 15 dX10_leave_10 (by decide) (fun c_6 => ?_) (fun c_6 => ?_)
  · have h := sw_if.f h c_6
    refine aw_aload_n 0 dX10_leave_15 rfl rfl ?_
    refine aw_callV wv_X10_putsBy (M_X10_putsBy hG  h) ml_X10_251 rfl (by decide) (lk140 hG) rfl rfl (Nat.le_of_ble_eq_true rfl) ⟨rfl, rfl⟩ ⟨Nat.le_of_ble_eq_true rfl, Nat.le_of_ble_eq_true rfl⟩ ⟨Nat.le_refl _, Nat.le_refl _⟩ dX10_leave_16 (aw_kv fun I_8 J_9 h => ?_)
    refine aw_aload_n 0 dX10_leave_19 rfl rfl ?_
    refine gf_X10_9 fl_X10_79 (lk140 hG) (lr140_9 hG) dX10_leave_20 ?_
    refine aw_bipush (v := 30) dX10_leave_23 (by decide) ?_
    refine aw_dup2 dX10_leave_25 rfl rfl ?_
    refine aw_ild dX10_leave_26 (lk144 hG) (ln144 hG) (by unfold vp_in; decide) ?_
    refine aw_iconst (v := 1) dX10_leave_27 (by decide) ?_
    refine aw_iload_n 1 dX10_leave_28 rfl rfl ?_
    refine aw_ishl dX10_leave_29 ?_
    refine aw_iconst (v := (-1)) dX10_leave_30 (by decide) ?_
    refine aw_ixor dX10_leave_31 ?_
    refine aw_iand dX10_leave_32 ?_
    refine aw_ist dX10_leave_33 (lk144 hG) (ln144 hG) (by unfold vp_in; decide) (aw_nameI fun I_12 e_13 => ?_)
    have h := h I_12 e_13
    refine aw_aload_n 0 dX10_leave_34 rfl rfl ?_
    refine aw_callV wv_X10_adds (M_X10_adds hG  h) ml_X10_255 rfl (by decide) (lk140 hG) rfl rfl (Nat.le_of_ble_eq_true rfl) ⟨rfl, rfl⟩ ⟨Nat.le_of_ble_eq_true rfl, Nat.le_of_ble_eq_true rfl⟩ ⟨Nat.le_refl _, Nat.le_refl _⟩ dX10_leave_35 (aw_kv fun I_15 J_16 h => ?_)
    refine aw_iconst (v := 1) dX10_leave_38 (by decide) ?_
    exact aw_zret rfl rfl dX10_leave_39 ⟨rfl, _, rfl, h⟩
  · have h := sw_if.t h c_6
    refine aw_iconst (v := 0) dX10_leave_13 (by decide) ?_
    exact aw_zret rfl rfl dX10_leave_14 ⟨rfl, _, rfl, h⟩
theorem M_X10_leave {l : Launch} {D : va_G} {cy : Nat → ClassId} {sz : Nat} {G : sw_G} (hG : sw_lay G)   {Q : Int32 → sw_I → sw_J → Prop} {x1 : Int32} {I : sw_I} {J : sw_J} (h : wp_X10_leave x1 I J Q) : Met l yX10_leave (Cond.code yX10_leave cX10_leave 2 (some .boolean) :: sw_T) rm_X10_leave (sw_Pc D cy sz [.ref (sz + 140), .int x1] G I J) (sw_Q D cy sz (sw_qi G Q)) 0 0 (fun q => sz ≤ q) :=
  sw_met (by decide) (fun q => by cases q) (Nat.le_of_ble_eq_true rfl) rfl (t_X10_leave hG  h)
-- X10_readsAct
abbrev rm_X10_readsAct : Room := { frames := 5, cells := 0, slots := 0, locals := 107 }
def wB_X10_readsAct_275   (Q : Int32 → sw_I → sw_J → Prop)  (I : sw_I) (J : sw_J) : Prop :=
  ∀ I_1 : sw_I, I_1 = sw_up I 140 38 ((I 140 38) + (1 : Int32)) → Q 1 I_1 J
def wB_X10_readsAct_195   (Q : Int32 → sw_I → sw_J → Prop) (x1 : Int32) (x3 : Int32) (I : sw_I) (J : sw_J) : Prop :=
  vp_in (I 140 38) 60 ∧ ∀ I_2 : sw_I, I_2 = sw_up I 157 (I 140 38).toNatClampNeg x3 → sw_if (x3 = 0) (Q 0 I_2 J) (sw_if (x1 = (2 : Int32)) (vp_in (I_2 140 38) 60 ∧ ∀ I_7 : sw_I, I_7 = sw_up I_2 158 (I_2 140 38).toNatClampNeg (-1 : Int32) → wp_X10_takes 45 I_7 J (fun r_9 I_10 J_11 => sw_if (r_9 = 0) (wp_X10_isDigit  I_10 J_11 (fun r_13 I_14 J_15 => sw_if (r_13 = 0) (Q 0 I_14 J_15) (vp_in (I_14 140 13) 80 ∧ vp_in (I_14 140 38) 60 ∧ ∀ I_19 : sw_I, I_19 = sw_up I_14 158 (I_14 140 38).toNatClampNeg ((I_14 146 (I_14 140 13).toNatClampNeg) - (48 : Int32)) → ∀ I_21 : sw_I, I_21 = sw_up I_19 140 13 ((I_19 140 13) + (1 : Int32)) → wB_X10_readsAct_275   Q  I_21 J_15))) (wB_X10_readsAct_275   Q  I_10 J_11))) (wB_X10_readsAct_275   Q  I_2 J))
def wB_X10_readsAct_163  (K117 : Int32 → Int32 → Int32 → sw_I → sw_J → Prop) (Q : Int32 → sw_I → sw_J → Prop) (x1 : Int32) (x3 : Int32) (I : sw_I) (J : sw_J) : Prop :=
  vp_in (I 140 13) 80 ∧ ∀ y_2 : Int32, y_2 = (I 146 (I 140 13).toNatClampNeg) - (97 : Int32) → ∀ y_4 : Int32, y_4 = x3 ||| ((1 : Int32) <<< (y_2 &&& 31)) → ∀ I_6 : sw_I, I_6 = sw_up I 140 13 ((I 140 13) + (1 : Int32)) → K117 x1 y_2 y_4 I_6 J
def wb_X10_readsAct_117  (K117 : Int32 → Int32 → Int32 → sw_I → sw_J → Prop) (Q : Int32 → sw_I → sw_J → Prop) (x1 : Int32) (x2 : Int32) (x3 : Int32) (I : sw_I) (J : sw_J) : Prop :=
  sw_if ((I 140 13) < (I 140 14)) (vp_in (I 140 13) 80 ∧ wp_X10_in (((I 146 (I 140 13).toNatClampNeg) - (97 : Int32)).toInt64) ((x2 + (1 : Int32)).toInt64) 9 I J (fun r_3 I_4 J_5 => sw_if (r_3 = 0) (wB_X10_readsAct_195   Q x1 x3 I_4 J_5) (sw_if (x1 < (2 : Int32)) (wB_X10_readsAct_163  K117 Q x1 x3 I_4 J_5) (sw_if (x3 = 0) (wB_X10_readsAct_163  K117 Q x1 x3 I_4 J_5) (wB_X10_readsAct_195   Q x1 x3 I_4 J_5))))) (wB_X10_readsAct_195   Q x1 x3 I J)
def wl_X10_readsAct_117   (Q : Int32 → sw_I → sw_J → Prop) : Nat → Int32 → Int32 → Int32 → sw_I → sw_J → Prop
  | 0 => fun _ _ _ _ _ => False
  | n + 1 => fun x1 x2 x3 I J => wb_X10_readsAct_117  (wl_X10_readsAct_117   Q n) Q x1 x2 x3 I J
def wB_X10_readsAct_101   (Q : Int32 → sw_I → sw_J → Prop)  (I : sw_I) (J : sw_J) : Prop :=
  ∀ I_1 : sw_I, I_1 = sw_up I 140 38 ((I 140 38) + (1 : Int32)) → Q 1 I_1 J
def wp_X10_readsAct  (I : sw_I) (J : sw_J) (Q : Int32 → sw_I → sw_J → Prop) : Prop :=
  wp_X10_among 4 I J (fun r_1 I_2 J_3 => sw_if (r_1 < 0) (Q 0 I_2 J_3) (∀ I_5 : sw_I, I_5 = sw_up I_2 140 13 ((I_2 140 13) + (1 : Int32)) → vp_in (I_5 140 38) 60 ∧ ∀ I_8 : sw_I, I_8 = sw_up I_5 156 (I_5 140 38).toNatClampNeg r_1 → sw_if (r_1 = (3 : Int32)) (vp_in (I_8 140 38) 60 ∧ ∀ I_13 : sw_I, I_13 = sw_up I_8 159 (I_8 140 38).toNatClampNeg (1 : Int32) → wp_X10_isDigit  I_13 J_3 (fun r_15 I_16 J_17 => sw_if (r_15 = 0) (wB_X10_readsAct_101   Q  I_16 J_17) (vp_in (I_16 140 13) 80 ∧ sw_if ((I_16 146 (I_16 140 13).toNatClampNeg) = (48 : Int32)) (wB_X10_readsAct_101   Q  I_16 J_17) (vp_in (I_16 140 13) 80 ∧ vp_in (I_16 140 38) 60 ∧ ∀ I_23 : sw_I, I_23 = sw_up I_16 159 (I_16 140 38).toNatClampNeg ((I_16 146 (I_16 140 13).toNatClampNeg) - (48 : Int32)) → ∀ I_25 : sw_I, I_25 = sw_up I_23 140 13 ((I_23 140 13) + (1 : Int32)) → wB_X10_readsAct_101   Q  I_25 J_17)))) (∃ n_11 : Nat, wl_X10_readsAct_117   Q n_11 r_1 (-1) 0 I_8 J_3)))
set_option maxRecDepth 20000 in
theorem t_X10_readsAct_275 {l : Launch} {D : va_G} {cy : Nat → ClassId} {sz : Nat} {G : sw_G} (hG : sw_lay G)   {Q : Int32 → sw_I → sw_J → Prop}  {I : sw_I} {J : sw_J} (h : wB_X10_readsAct_275   Q  I J) : AW l D cy sz RX10 cX10_readsAct 4 (some .boolean) false rm_X10_readsAct 0 0 (sw_qi G Q) 0 0 G I J 275 [(0, .ref (sz + 140))] [] := by
  unfold wB_X10_readsAct_275 at h
  refine aw_aload_n 0 dX10_readsAct_275 rfl rfl ?_
  refine aw_dup dX10_readsAct_276 rfl ?_
  refine gf_X10_38 fl_X10_271 (lk140 hG) dX10_readsAct_277 ?_
  refine aw_iconst (v := 1) dX10_readsAct_280 (by decide) ?_
  refine aw_iadd dX10_readsAct_281 ?_
  refine pf_X10_38 fl_X10_271 (lk140 hG) dX10_readsAct_282 (aw_nameI fun I_1 e_2 => ?_)
  have h := h I_1 e_2
  refine aw_iconst (v := 1) dX10_readsAct_285 (by decide) ?_
  exact aw_zret rfl rfl dX10_readsAct_286 ⟨rfl, _, rfl, h⟩
set_option maxRecDepth 20000 in
theorem t_X10_readsAct_195 {l : Launch} {D : va_G} {cy : Nat → ClassId} {sz : Nat} {G : sw_G} (hG : sw_lay G)   {Q : Int32 → sw_I → sw_J → Prop} {x1 : Int32} {x3 : Int32} {I : sw_I} {J : sw_J} (h : wB_X10_readsAct_195   Q x1 x3 I J) : AW l D cy sz RX10 cX10_readsAct 4 (some .boolean) false rm_X10_readsAct 0 0 (sw_qi G Q) 0 0 G I J 195 [(0, .ref (sz + 140)), (1, .int x1), (3, .int x3)] [] := by
  unfold wB_X10_readsAct_195 at h
  refine aw_aload_n 0 dX10_readsAct_195 rfl rfl ?_
  refine gf_X10_35 fl_X10_277 (lk140 hG) (lr140_35 hG) dX10_readsAct_196 ?_
  refine aw_aload_n 0 dX10_readsAct_199 rfl rfl ?_
  refine gf_X10_38 fl_X10_271 (lk140 hG) dX10_readsAct_200 ?_
  refine aw_iload_n 2 dX10_readsAct_203 rfl rfl ?_
  obtain ⟨hi_1, h⟩ := h
  refine aw_ist dX10_readsAct_204 (lk157 hG) (ln157 hG) hi_1 (aw_nameI fun I_2 e_3 => ?_)
  have h := h I_2 e_3
  refine aw_iload_n 2 dX10_readsAct_205 rfl rfl ?_
  refine aw_zne 211 dX10_readsAct_206 (by decide) (fun c_4 => ?_) (fun c_4 => ?_)
  · have h := sw_if.f h c_4
    refine aw_iload_n 1 dX10_readsAct_211 rfl rfl ?_
    refine aw_iconst (v := 2) dX10_readsAct_212 (by decide) ?_
    refine aw_jne 275 dX10_readsAct_213 (by decide) (fun c_5 => ?_) (fun c_5 => ?_)
    · have h := sw_if.f h c_5
      refine aw_sub [0] rfl ?_
      exact t_X10_readsAct_275 hG   h
    · have h := sw_if.t h c_5
      refine aw_aload_n 0 dX10_readsAct_216 rfl rfl ?_
      refine gf_X10_36 fl_X10_280 (lk140 hG) (lr140_36 hG) dX10_readsAct_217 ?_
      refine aw_aload_n 0 dX10_readsAct_220 rfl rfl ?_
      refine gf_X10_38 fl_X10_271 (lk140 hG) dX10_readsAct_221 ?_
      refine aw_iconst (v := (-1)) dX10_readsAct_224 (by decide) ?_
      obtain ⟨hi_6, h⟩ := h
      refine aw_ist dX10_readsAct_225 (lk158 hG) (ln158 hG) hi_6 (aw_nameI fun I_7 e_8 => ?_)
      have h := h I_7 e_8
      refine aw_aload_n 0 dX10_readsAct_226 rfl rfl ?_
      refine aw_bipush (v := 45) dX10_readsAct_227 (by decide) ?_
      refine aw_callV wv_X10_takes (M_X10_takes hG  h) ml_X10_108 rfl (by decide) (lk140 hG) rfl rfl (Nat.le_of_ble_eq_true rfl) ⟨rfl, rfl⟩ ⟨Nat.le_of_ble_eq_true rfl, Nat.le_of_ble_eq_true rfl⟩ ⟨Nat.le_refl _, Nat.le_refl _⟩ dX10_readsAct_229 (aw_ki fun r_9 I_10 J_11 h => ?_)
      refine aw_zne 275 dX10_readsAct_232 (by decide) (fun c_12 => ?_) (fun c_12 => ?_)
      · have h := sw_if.f h c_12
        refine aw_sub [0] rfl ?_
        exact t_X10_readsAct_275 hG   h
      · have h := sw_if.t h c_12
        refine aw_aload_n 0 dX10_readsAct_235 rfl rfl ?_
        refine aw_callV wv_X10_isDigit (M_X10_isDigit hG  h) ml_X10_91 rfl (by decide) (lk140 hG) rfl rfl (Nat.le_of_ble_eq_true rfl) ⟨rfl, rfl⟩ ⟨Nat.le_of_ble_eq_true rfl, Nat.le_of_ble_eq_true rfl⟩ ⟨Nat.le_refl _, Nat.le_refl _⟩ dX10_readsAct_236 (aw_ki fun r_13 I_14 J_15 h => ?_)
        refine aw_zne 244 dX10_readsAct_239 (by decide) (fun c_16 => ?_) (fun c_16 => ?_)
        · have h := sw_if.f h c_16
          refine aw_aload_n 0 dX10_readsAct_244 rfl rfl ?_
          refine gf_X10_36 fl_X10_280 (lk140 hG) (lr140_36 hG) dX10_readsAct_245 ?_
          refine aw_aload_n 0 dX10_readsAct_248 rfl rfl ?_
          refine gf_X10_38 fl_X10_271 (lk140 hG) dX10_readsAct_249 ?_
          refine aw_aload_n 0 dX10_readsAct_252 rfl rfl ?_
          refine gf_X10_11 fl_X10_35 (lk140 hG) (lr140_11 hG) dX10_readsAct_253 ?_
          refine aw_aload_n 0 dX10_readsAct_256 rfl rfl ?_
          refine gf_X10_13 fl_X10_39 (lk140 hG) dX10_readsAct_257 ?_
          obtain ⟨hi_17, h⟩ := h
          refine aw_ild dX10_readsAct_260 (lk146 hG) (ln146 hG) hi_17 ?_
          refine aw_bipush (v := 48) dX10_readsAct_261 (by decide) ?_
          refine aw_isub dX10_readsAct_263 ?_
          obtain ⟨hi_18, h⟩ := h
          refine aw_ist dX10_readsAct_264 (lk158 hG) (ln158 hG) hi_18 (aw_nameI fun I_19 e_20 => ?_)
          have h := h I_19 e_20
          refine aw_aload_n 0 dX10_readsAct_265 rfl rfl ?_
          refine aw_dup dX10_readsAct_266 rfl ?_
          refine gf_X10_13 fl_X10_39 (lk140 hG) dX10_readsAct_267 ?_
          refine aw_iconst (v := 1) dX10_readsAct_270 (by decide) ?_
          refine aw_iadd dX10_readsAct_271 ?_
          refine pf_X10_13 fl_X10_39 (lk140 hG) dX10_readsAct_272 (aw_nameI fun I_21 e_22 => ?_)
          have h := h I_21 e_22
          refine aw_sub [0] rfl ?_
          exact t_X10_readsAct_275 hG   h
        · have h := sw_if.t h c_16
          refine aw_iconst (v := 0) dX10_readsAct_242 (by decide) ?_
          exact aw_zret rfl rfl dX10_readsAct_243 ⟨rfl, _, rfl, h⟩
  · have h := sw_if.t h c_4
    refine aw_iconst (v := 0) dX10_readsAct_209 (by decide) ?_
    exact aw_zret rfl rfl dX10_readsAct_210 ⟨rfl, _, rfl, h⟩
set_option maxRecDepth 20000 in
theorem t_X10_readsAct_163 {l : Launch} {D : va_G} {cy : Nat → ClassId} {sz : Nat} {G : sw_G} (hG : sw_lay G)   {Q : Int32 → sw_I → sw_J → Prop} {K117 : Int32 → Int32 → Int32 → sw_I → sw_J → Prop} (hK117 : ∀ (x1 : Int32) (x2 : Int32) (x3 : Int32) (I : sw_I) (J : sw_J), K117 x1 x2 x3 I J → AW l D cy sz RX10 cX10_readsAct 4 (some .boolean) false rm_X10_readsAct 0 0 (sw_qi G Q) 0 0 G I J 117 [(0, .ref (sz + 140)), (1, .int x1), (2, .int x2), (3, .int x3)] []) {x1 : Int32} {x3 : Int32} {I : sw_I} {J : sw_J} (h : wB_X10_readsAct_163  K117 Q x1 x3 I J) : AW l D cy sz RX10 cX10_readsAct 4 (some .boolean) false rm_X10_readsAct 0 0 (sw_qi G Q) 0 0 G I J 163 [(0, .ref (sz + 140)), (1, .int x1), (3, .int x3)] [] := by
  unfold wB_X10_readsAct_163 at h
  refine aw_aload_n 0 dX10_readsAct_163 rfl rfl ?_
  refine gf_X10_11 fl_X10_35 (lk140 hG) (lr140_11 hG) dX10_readsAct_164 ?_
  refine aw_aload_n 0 dX10_readsAct_167 rfl rfl ?_
  refine gf_X10_13 fl_X10_39 (lk140 hG) dX10_readsAct_168 ?_
  obtain ⟨hi_1, h⟩ := h
  refine aw_ild dX10_readsAct_171 (lk146 hG) (ln146 hG) hi_1 ?_
  refine aw_bipush (v := 97) dX10_readsAct_172 (by decide) ?_
  refine aw_isub dX10_readsAct_174 ?_
  refine aw_topi (fun y_2 e_3 => ?_)
  have h := h y_2 e_3
  refine aw_istore_n (lv' := [(2, .int y_2), (0, .ref (sz + 140)), (1, .int x1), (3, .int x3)]) dX10_readsAct_175 rfl (by decide) rfl ?_
  refine aw_iload_n 3 dX10_readsAct_176 rfl rfl ?_
  refine aw_iconst (v := 1) dX10_readsAct_177 (by decide) ?_
  refine aw_iload_n 0 dX10_readsAct_178 rfl rfl ?_
  refine aw_ishl dX10_readsAct_179 ?_
  refine aw_ior dX10_readsAct_180 ?_
  refine aw_topi (fun y_4 e_5 => ?_)
  have h := h y_4 e_5
  refine aw_istore_n (lv' := [(3, .int y_4), (2, .int y_2), (0, .ref (sz + 140)), (1, .int x1)]) dX10_readsAct_181 rfl (by decide) rfl ?_
  refine aw_aload_n 2 dX10_readsAct_182 rfl rfl ?_
  refine aw_dup dX10_readsAct_183 rfl ?_
  refine gf_X10_13 fl_X10_39 (lk140 hG) dX10_readsAct_184 ?_
  refine aw_iconst (v := 1) dX10_readsAct_187 (by decide) ?_
  refine aw_iadd dX10_readsAct_188 ?_
  refine pf_X10_13 fl_X10_39 (lk140 hG) dX10_readsAct_189 (aw_nameI fun I_6 e_7 => ?_)
  have h := h I_6 e_7
  refine aw_goto 117 dX10_readsAct_192 (by decide) ?_
  refine aw_sub [2, 3, 1, 0] rfl ?_
  exact hK117 x1 y_2 y_4 I_6 J h
set_option maxRecDepth 20000 in
theorem tb_X10_readsAct_117 {l : Launch} {D : va_G} {cy : Nat → ClassId} {sz : Nat} {G : sw_G} (hG : sw_lay G)   {Q : Int32 → sw_I → sw_J → Prop} {K117 : Int32 → Int32 → Int32 → sw_I → sw_J → Prop} (hK117 : ∀ (x1 : Int32) (x2 : Int32) (x3 : Int32) (I : sw_I) (J : sw_J), K117 x1 x2 x3 I J → AW l D cy sz RX10 cX10_readsAct 4 (some .boolean) false rm_X10_readsAct 0 0 (sw_qi G Q) 0 0 G I J 117 [(0, .ref (sz + 140)), (1, .int x1), (2, .int x2), (3, .int x3)] []) {x1 : Int32} {x2 : Int32} {x3 : Int32} {I : sw_I} {J : sw_J} (h : wb_X10_readsAct_117  K117 Q x1 x2 x3 I J) : AW l D cy sz RX10 cX10_readsAct 4 (some .boolean) false rm_X10_readsAct 0 0 (sw_qi G Q) 0 0 G I J 117 [(0, .ref (sz + 140)), (1, .int x1), (2, .int x2), (3, .int x3)] [] := by
  unfold wb_X10_readsAct_117 at h
  refine aw_aload_n 0 dX10_readsAct_117 rfl rfl ?_
  refine gf_X10_13 fl_X10_39 (lk140 hG) dX10_readsAct_118 ?_
  refine aw_aload_n 0 dX10_readsAct_121 rfl rfl ?_
  refine gf_X10_14 fl_X10_51 (lk140 hG) dX10_readsAct_122 ?_
  refine aw_jge 195 dX10_readsAct_125 (by decide) (fun c_1 => ?_) (fun c_1 => ?_)
  · have h := sw_if.f h c_1
    refine aw_sub [0, 1, 3] rfl ?_
    exact t_X10_readsAct_195 hG   h
  · have h := sw_if.t h c_1
    refine aw_aload_n 0 dX10_readsAct_128 rfl rfl ?_
    refine gf_X10_11 fl_X10_35 (lk140 hG) (lr140_11 hG) dX10_readsAct_129 ?_
    refine aw_aload_n 0 dX10_readsAct_132 rfl rfl ?_
    refine gf_X10_13 fl_X10_39 (lk140 hG) dX10_readsAct_133 ?_
    obtain ⟨hi_2, h⟩ := h
    refine aw_ild dX10_readsAct_136 (lk146 hG) (ln146 hG) hi_2 ?_
    refine aw_bipush (v := 97) dX10_readsAct_137 (by decide) ?_
    refine aw_isub dX10_readsAct_139 ?_
    refine aw_i2l dX10_readsAct_140 ?_
    refine aw_iload_n 2 dX10_readsAct_141 rfl rfl ?_
    refine aw_iconst (v := 1) dX10_readsAct_142 (by decide) ?_
    refine aw_iadd dX10_readsAct_143 ?_
    refine aw_i2l dX10_readsAct_144 ?_
    refine aw_ldc2 (v := 9) dX10_readsAct_145 k_X10_74 ?_
    refine aw_callS wv_X10_in (M_X10_in trivial  h) ml_X10_25 rfl rfl (Nat.le_of_ble_eq_true rfl) ⟨rfl, rfl⟩ ⟨Nat.le_of_ble_eq_true rfl, Nat.le_of_ble_eq_true rfl⟩ ⟨Nat.le_refl _, Nat.le_refl _⟩ dX10_readsAct_148 (aw_ki fun r_3 I_4 J_5 h => ?_)
    refine aw_zeq 195 dX10_readsAct_151 (by decide) (fun c_6 => ?_) (fun c_6 => ?_)
    · have h := sw_if.t h c_6
      refine aw_sub [0, 1, 3] rfl ?_
      exact t_X10_readsAct_195 hG   h
    · have h := sw_if.f h c_6
      refine aw_iload_n 1 dX10_readsAct_154 rfl rfl ?_
      refine aw_iconst (v := 2) dX10_readsAct_155 (by decide) ?_
      refine aw_jlt 163 dX10_readsAct_156 (by decide) (fun c_7 => ?_) (fun c_7 => ?_)
      · have h := sw_if.t h c_7
        refine aw_sub [0, 1, 3] rfl ?_
        exact t_X10_readsAct_163 hG  hK117 h
      · have h := sw_if.f h c_7
        refine aw_iload_n 3 dX10_readsAct_159 rfl rfl ?_
        refine aw_zne 195 dX10_readsAct_160 (by decide) (fun c_8 => ?_) (fun c_8 => ?_)
        · have h := sw_if.f h c_8
          refine aw_sub [0, 1, 3] rfl ?_
          exact t_X10_readsAct_195 hG   h
        · have h := sw_if.t h c_8
          refine aw_sub [0, 1, 3] rfl ?_
          exact t_X10_readsAct_163 hG  hK117 h
set_option maxRecDepth 20000 in
theorem tl_X10_readsAct_117 {l : Launch} {D : va_G} {cy : Nat → ClassId} {sz : Nat} {G : sw_G} (hG : sw_lay G)   {Q : Int32 → sw_I → sw_J → Prop} : ∀ (n : Nat) (x1 : Int32) (x2 : Int32) (x3 : Int32) (I : sw_I) (J : sw_J), wl_X10_readsAct_117   Q n x1 x2 x3 I J → AW l D cy sz RX10 cX10_readsAct 4 (some .boolean) false rm_X10_readsAct 0 0 (sw_qi G Q) 0 0 G I J 117 [(0, .ref (sz + 140)), (1, .int x1), (2, .int x2), (3, .int x3)] [] := by
  intro n
  induction n with
  | zero => intro x1 x2 x3 I J h; exact False.elim h
  | succ n ih => intro x1 x2 x3 I J h; exact tb_X10_readsAct_117 hG  ih h
set_option maxRecDepth 20000 in
theorem t_X10_readsAct_101 {l : Launch} {D : va_G} {cy : Nat → ClassId} {sz : Nat} {G : sw_G} (hG : sw_lay G)   {Q : Int32 → sw_I → sw_J → Prop}  {I : sw_I} {J : sw_J} (h : wB_X10_readsAct_101   Q  I J) : AW l D cy sz RX10 cX10_readsAct 4 (some .boolean) false rm_X10_readsAct 0 0 (sw_qi G Q) 0 0 G I J 101 [(0, .ref (sz + 140))] [] := by
  unfold wB_X10_readsAct_101 at h
  refine aw_aload_n 0 dX10_readsAct_101 rfl rfl ?_
  refine aw_dup dX10_readsAct_102 rfl ?_
  refine gf_X10_38 fl_X10_271 (lk140 hG) dX10_readsAct_103 ?_
  refine aw_iconst (v := 1) dX10_readsAct_106 (by decide) ?_
  refine aw_iadd dX10_readsAct_107 ?_
  refine pf_X10_38 fl_X10_271 (lk140 hG) dX10_readsAct_108 (aw_nameI fun I_1 e_2 => ?_)
  have h := h I_1 e_2
  refine aw_iconst (v := 1) dX10_readsAct_111 (by decide) ?_
  exact aw_zret rfl rfl dX10_readsAct_112 ⟨rfl, _, rfl, h⟩
set_option maxRecDepth 20000 in
theorem t_X10_readsAct {l : Launch} {D : va_G} {cy : Nat → ClassId} {sz : Nat} {G : sw_G} (hG : sw_lay G)   {Q : Int32 → sw_I → sw_J → Prop}  {I : sw_I} {J : sw_J} (h : wp_X10_readsAct  I J Q) : AW l D cy sz RX10 cX10_readsAct 4 (some .boolean) false rm_X10_readsAct 0 0 (sw_qi G Q) 0 0 G I J 0 [(0, .ref (sz + 140))] [] := by
  unfold wp_X10_readsAct at h
  refine aw_aload_n 0 dX10_readsAct_0 rfl rfl ?_
  refine aw_ldcSW (i := 4) rfl (by decide) rfl sw_sr4 dX10_readsAct_1 ?_
  refine aw_callV wv_X10_among (M_X10_among hG (by decide) h) ml_X10_156 rfl (by decide) (lk140 hG) rfl rfl (Nat.le_of_ble_eq_true rfl) ⟨rfl, rfl⟩ ⟨Nat.le_of_ble_eq_true rfl, Nat.le_of_ble_eq_true rfl⟩ ⟨Nat.le_refl _, Nat.le_refl _⟩ dX10_readsAct_4 (aw_ki fun r_1 I_2 J_3 h => ?_)
  refine aw_istore_n (lv' := [(1, .int r_1), (0, .ref (sz + 140))]) dX10_readsAct_7 rfl (by decide) rfl ?_
  refine aw_iload_n 0 dX10_readsAct_8 rfl rfl ?_
  refine aw_zge 14 dX10_readsAct_9 (by decide) (fun c_4 => ?_) (fun c_4 => ?_)
  · have h := sw_if.f h c_4
    refine aw_aload_n 1 dX10_readsAct_14 rfl rfl ?_
    refine aw_dup dX10_readsAct_15 rfl ?_
    refine gf_X10_13 fl_X10_39 (lk140 hG) dX10_readsAct_16 ?_
    refine aw_iconst (v := 1) dX10_readsAct_19 (by decide) ?_
    refine aw_iadd dX10_readsAct_20 ?_
    refine pf_X10_13 fl_X10_39 (lk140 hG) dX10_readsAct_21 (aw_nameI fun I_5 e_6 => ?_)
    have h := h I_5 e_6
    refine aw_aload_n 1 dX10_readsAct_24 rfl rfl ?_
    refine gf_X10_34 fl_X10_268 (lk140 hG) (lr140_34 hG) dX10_readsAct_25 ?_
    refine aw_aload_n 1 dX10_readsAct_28 rfl rfl ?_
    refine gf_X10_38 fl_X10_271 (lk140 hG) dX10_readsAct_29 ?_
    refine aw_iload_n 0 dX10_readsAct_32 rfl rfl ?_
    obtain ⟨hi_7, h⟩ := h
    refine aw_ist dX10_readsAct_33 (lk156 hG) (ln156 hG) hi_7 (aw_nameI fun I_8 e_9 => ?_)
    have h := h I_8 e_9
    refine aw_iload_n 0 dX10_readsAct_34 rfl rfl ?_
    refine aw_iconst (v := 3) dX10_readsAct_35 (by decide) ?_
    refine aw_jne 113 dX10_readsAct_36 (by decide) (fun c_10 => ?_) (fun c_10 => ?_)
    · have h := sw_if.f h c_10
      refine aw_iconst (v := (-1)) dX10_readsAct_113 (by decide) ?_
      refine aw_istore_n (lv' := [(2, .int (-1)), (1, .int r_1), (0, .ref (sz + 140))]) dX10_readsAct_114 rfl (by decide) rfl ?_
      refine aw_iconst (v := 0) dX10_readsAct_115 (by decide) ?_
      refine aw_istore_n (lv' := [(3, .int 0), (2, .int (-1)), (1, .int r_1), (0, .ref (sz + 140))]) dX10_readsAct_116 rfl (by decide) rfl ?_
      refine aw_sub [3, 2, 1, 0] rfl ?_
      obtain ⟨n_11, h⟩ := h
      exact tl_X10_readsAct_117 hG   n_11 r_1 (-1) 0 I_8 J_3 h
    · have h := sw_if.t h c_10
      refine aw_aload_n 1 dX10_readsAct_39 rfl rfl ?_
      refine gf_X10_37 fl_X10_274 (lk140 hG) (lr140_37 hG) dX10_readsAct_40 ?_
      refine aw_aload_n 1 dX10_readsAct_43 rfl rfl ?_
      refine gf_X10_38 fl_X10_271 (lk140 hG) dX10_readsAct_44 ?_
      refine aw_iconst (v := 1) dX10_readsAct_47 (by decide) ?_
      obtain ⟨hi_12, h⟩ := h
      refine aw_ist dX10_readsAct_48 (lk159 hG) (ln159 hG) hi_12 (aw_nameI fun I_13 e_14 => ?_)
      have h := h I_13 e_14
      refine aw_aload_n 1 dX10_readsAct_49 rfl rfl ?_
      refine aw_callV wv_X10_isDigit (M_X10_isDigit hG  h) ml_X10_91 rfl (by decide) (lk140 hG) rfl rfl (Nat.le_of_ble_eq_true rfl) ⟨rfl, rfl⟩ ⟨Nat.le_of_ble_eq_true rfl, Nat.le_of_ble_eq_true rfl⟩ ⟨Nat.le_refl _, Nat.le_refl _⟩ dX10_readsAct_50 (aw_ki fun r_15 I_16 J_17 h => ?_)
      refine aw_zeq 101 dX10_readsAct_53 (by decide) (fun c_18 => ?_) (fun c_18 => ?_)
      · have h := sw_if.t h c_18
        refine aw_sub [1] rfl ?_
        exact t_X10_readsAct_101 hG   h
      · have h := sw_if.f h c_18
        refine aw_aload_n 1 dX10_readsAct_56 rfl rfl ?_
        refine gf_X10_11 fl_X10_35 (lk140 hG) (lr140_11 hG) dX10_readsAct_57 ?_
        refine aw_aload_n 1 dX10_readsAct_60 rfl rfl ?_
        refine gf_X10_13 fl_X10_39 (lk140 hG) dX10_readsAct_61 ?_
        obtain ⟨hi_19, h⟩ := h
        refine aw_ild dX10_readsAct_64 (lk146 hG) (ln146 hG) hi_19 ?_
        refine aw_bipush (v := 48) dX10_readsAct_65 (by decide) ?_
        refine aw_jeq 101 dX10_readsAct_67 (by decide) (fun c_20 => ?_) (fun c_20 => ?_)
        · have h := sw_if.t h c_20
          refine aw_sub [1] rfl ?_
          exact t_X10_readsAct_101 hG   h
        · have h := sw_if.f h c_20
          refine aw_aload_n 1 dX10_readsAct_70 rfl rfl ?_
          refine gf_X10_37 fl_X10_274 (lk140 hG) (lr140_37 hG) dX10_readsAct_71 ?_
          refine aw_aload_n 1 dX10_readsAct_74 rfl rfl ?_
          refine gf_X10_38 fl_X10_271 (lk140 hG) dX10_readsAct_75 ?_
          refine aw_aload_n 1 dX10_readsAct_78 rfl rfl ?_
          refine gf_X10_11 fl_X10_35 (lk140 hG) (lr140_11 hG) dX10_readsAct_79 ?_
          refine aw_aload_n 1 dX10_readsAct_82 rfl rfl ?_
          refine gf_X10_13 fl_X10_39 (lk140 hG) dX10_readsAct_83 ?_
          obtain ⟨hi_21, h⟩ := h
          refine aw_ild dX10_readsAct_86 (lk146 hG) (ln146 hG) hi_21 ?_
          refine aw_bipush (v := 48) dX10_readsAct_87 (by decide) ?_
          refine aw_isub dX10_readsAct_89 ?_
          obtain ⟨hi_22, h⟩ := h
          refine aw_ist dX10_readsAct_90 (lk159 hG) (ln159 hG) hi_22 (aw_nameI fun I_23 e_24 => ?_)
          have h := h I_23 e_24
          refine aw_aload_n 1 dX10_readsAct_91 rfl rfl ?_
          refine aw_dup dX10_readsAct_92 rfl ?_
          refine gf_X10_13 fl_X10_39 (lk140 hG) dX10_readsAct_93 ?_
          refine aw_iconst (v := 1) dX10_readsAct_96 (by decide) ?_
          refine aw_iadd dX10_readsAct_97 ?_
          refine pf_X10_13 fl_X10_39 (lk140 hG) dX10_readsAct_98 (aw_nameI fun I_25 e_26 => ?_)
          have h := h I_25 e_26
          refine aw_sub [1] rfl ?_
          exact t_X10_readsAct_101 hG   h
  · have h := sw_if.t h c_4
    refine aw_iconst (v := 0) dX10_readsAct_12 (by decide) ?_
    exact aw_zret rfl rfl dX10_readsAct_13 ⟨rfl, _, rfl, h⟩
theorem M_X10_readsAct {l : Launch} {D : va_G} {cy : Nat → ClassId} {sz : Nat} {G : sw_G} (hG : sw_lay G)   {Q : Int32 → sw_I → sw_J → Prop}  {I : sw_I} {J : sw_J} (h : wp_X10_readsAct  I J Q) : Met l yX10_readsAct (Cond.code yX10_readsAct cX10_readsAct 4 (some .boolean) :: sw_T) rm_X10_readsAct (sw_Pc D cy sz [.ref (sz + 140)] G I J) (sw_Q D cy sz (sw_qi G Q)) 0 0 (fun q => sz ≤ q) :=
  sw_met (by decide) (fun q => by cases q) (Nat.le_of_ble_eq_true rfl) rfl (t_X10_readsAct hG  h)
-- X10_puts
abbrev rm_X10_puts : Room := { frames := 0, cells := 0, slots := 0, locals := 0 }
def wb_X10_puts_2 (b0 : Nat) (n0 : Nat) (b1 : Nat) (n1 : Nat) (K2 : Int32 → sw_I → sw_J → Prop) (Q : sw_I → sw_J → Prop) (x2 : Int32) (I : sw_I) (J : sw_J) : Prop :=
  sw_if (x2 < (33 : Int32)) (vp_in x2 n0 ∧ vp_in x2 n1 ∧ ∀ I_4 : sw_I, I_4 = sw_up I b1 x2.toNatClampNeg (I b0 x2.toNatClampNeg) → ∀ y_6 : Int32, y_6 = x2 + 1 → K2 y_6 I_4 J) (Q I J)
def wl_X10_puts_2 (b0 : Nat) (n0 : Nat) (b1 : Nat) (n1 : Nat)  (Q : sw_I → sw_J → Prop) : Nat → Int32 → sw_I → sw_J → Prop
  | 0 => fun _ _ _ => False
  | n + 1 => fun x2 I J => wb_X10_puts_2 b0 n0 b1 n1 (wl_X10_puts_2 b0 n0 b1 n1  Q n) Q x2 I J
def wp_X10_puts (b0 : Nat) (n0 : Nat) (b1 : Nat) (n1 : Nat) (I : sw_I) (J : sw_J) (Q : sw_I → sw_J → Prop) : Prop :=
  ∃ n_1 : Nat, wl_X10_puts_2 b0 n0 b1 n1  Q n_1 0 I J
set_option maxRecDepth 20000 in
theorem tb_X10_puts_2 {l : Launch} {D : va_G} {cy : Nat → ClassId} {sz : Nat} {G : sw_G} (hG : True) {b0 : Nat} {n0 : Nat} {b1 : Nat} {n1 : Nat} (hb0 : sw_ia G b0 n0) (hb1 : sw_ia G b1 n1) {Q : sw_I → sw_J → Prop} {K2 : Int32 → sw_I → sw_J → Prop} (hK2 : ∀ (x2 : Int32) (I : sw_I) (J : sw_J), K2 x2 I J → AW l D cy sz RX10 cX10_puts 3 none false rm_X10_puts 0 0 (sw_qv G Q) 0 0 G I J 2 [(0, .ref (sz + b0)), (1, .ref (sz + b1)), (2, .int x2)] []) {x2 : Int32} {I : sw_I} {J : sw_J} (h : wb_X10_puts_2 b0 n0 b1 n1 K2 Q x2 I J) : AW l D cy sz RX10 cX10_puts 3 none false rm_X10_puts 0 0 (sw_qv G Q) 0 0 G I J 2 [(0, .ref (sz + b0)), (1, .ref (sz + b1)), (2, .int x2)] [] := by
  unfold wb_X10_puts_2 at h
  refine aw_iload_n 2 dX10_puts_2 rfl rfl ?_
  refine aw_bipush (v := 33) dX10_puts_3 (by decide) ?_
  refine aw_jge 20 dX10_puts_5 (by decide) (fun c_1 => ?_) (fun c_1 => ?_)
  · have h := sw_if.f h c_1
    exact aw_vret rfl dX10_puts_20 ⟨rfl, rfl, h⟩
  · have h := sw_if.t h c_1
    refine aw_aload_n 1 dX10_puts_8 rfl rfl ?_
    refine aw_iload_n 2 dX10_puts_9 rfl rfl ?_
    refine aw_aload_n 0 dX10_puts_10 rfl rfl ?_
    refine aw_iload_n 2 dX10_puts_11 rfl rfl ?_
    obtain ⟨hi_2, h⟩ := h
    refine aw_ild dX10_puts_12 hb0.1 hb0.2 hi_2 ?_
    obtain ⟨hi_3, h⟩ := h
    refine aw_ist dX10_puts_13 hb1.1 hb1.2 hi_3 (aw_nameI fun I_4 e_5 => ?_)
    have h := h I_4 e_5
    obtain ⟨y_6, e_7⟩ : ∃ q : Int32, q = x2 + 1 := ⟨_, rfl⟩
    have h := h y_6 e_7
    refine aw_iinc (lv' := [(2, .int y_6), (0, .ref (sz + b0)), (1, .ref (sz + b1))]) 2 dX10_puts_14 rfl (by rw [e_7]; rfl) (by decide) rfl ?_
    refine aw_goto 2 dX10_puts_17 (by decide) ?_
    refine aw_sub [1, 2, 0] rfl ?_
    exact hK2 y_6 I_4 J h
set_option maxRecDepth 20000 in
theorem tl_X10_puts_2 {l : Launch} {D : va_G} {cy : Nat → ClassId} {sz : Nat} {G : sw_G} (hG : True) {b0 : Nat} {n0 : Nat} {b1 : Nat} {n1 : Nat} (hb0 : sw_ia G b0 n0) (hb1 : sw_ia G b1 n1) {Q : sw_I → sw_J → Prop} : ∀ (n : Nat) (x2 : Int32) (I : sw_I) (J : sw_J), wl_X10_puts_2 b0 n0 b1 n1  Q n x2 I J → AW l D cy sz RX10 cX10_puts 3 none false rm_X10_puts 0 0 (sw_qv G Q) 0 0 G I J 2 [(0, .ref (sz + b0)), (1, .ref (sz + b1)), (2, .int x2)] [] := by
  intro n
  induction n with
  | zero => intro x2 I J h; exact False.elim h
  | succ n ih => intro x2 I J h; exact tb_X10_puts_2 hG hb0 hb1 ih h
set_option maxRecDepth 20000 in
theorem t_X10_puts {l : Launch} {D : va_G} {cy : Nat → ClassId} {sz : Nat} {G : sw_G} (hG : True) {b0 : Nat} {n0 : Nat} {b1 : Nat} {n1 : Nat} (hb0 : sw_ia G b0 n0) (hb1 : sw_ia G b1 n1) {Q : sw_I → sw_J → Prop}  {I : sw_I} {J : sw_J} (h : wp_X10_puts b0 n0 b1 n1 I J Q) : AW l D cy sz RX10 cX10_puts 3 none false rm_X10_puts 0 0 (sw_qv G Q) 0 0 G I J 0 [(0, .ref (sz + b0)), (1, .ref (sz + b1))] [] := by
  unfold wp_X10_puts at h
  refine aw_iconst (v := 0) dX10_puts_0 (by decide) ?_
  refine aw_istore_n (lv' := [(2, .int 0), (0, .ref (sz + b0)), (1, .ref (sz + b1))]) dX10_puts_1 rfl (by decide) rfl ?_
  refine aw_sub [1, 2, 0] rfl ?_
  obtain ⟨n_1, h⟩ := h
  exact tl_X10_puts_2 hG hb0 hb1  n_1 0 I J h
theorem M_X10_puts {l : Launch} {D : va_G} {cy : Nat → ClassId} {sz : Nat} {G : sw_G} (hG : True) {b0 : Nat} {n0 : Nat} {b1 : Nat} {n1 : Nat} (hb0 : sw_ia G b0 n0) (hb1 : sw_ia G b1 n1) {Q : sw_I → sw_J → Prop}  {I : sw_I} {J : sw_J} (h : wp_X10_puts b0 n0 b1 n1 I J Q) : Met l yX10_puts (Cond.code yX10_puts cX10_puts 3 none :: sw_T) rm_X10_puts (sw_Pc D cy sz [.ref (sz + b0), .ref (sz + b1)] G I J) (sw_Q D cy sz (sw_qv G Q)) 0 0 (fun q => sz ≤ q) :=
  sw_met (by decide) (fun q => by cases q) (Nat.le_of_ble_eq_true rfl) rfl (t_X10_puts hG hb0 hb1 h)
-- X10_packed
abbrev rm_X10_packed : Room := { frames := 0, cells := 0, slots := 0, locals := 0 }
def wb_X10_packed_5 (b1 : Nat) (n1 : Nat) (K5 : Int64 → Int32 → sw_I → sw_J → Prop) (Q : Int64 → sw_I → sw_J → Prop) (w2 : Int64) (x4 : Int32) (I : sw_I) (J : sw_J) : Prop :=
  sw_if (x4 < (I 140 4)) (vp_in x4 n1 ∧ ∀ y_5 : Int64, y_5 = (w2 <<< ((4 : Int32).toInt64 &&& 63)) ||| ((I b1 x4.toNatClampNeg).toInt64) → ∀ y_7 : Int32, y_7 = x4 + 1 → K5 y_5 y_7 I J) (vp_in (31 : Int32) n1 ∧ vp_in (32 : Int32) n1 ∧ Q ((((w2 <<< ((4 : Int32).toInt64 &&& 63)) ||| ((I b1 (31 : Int32).toNatClampNeg).toInt64)) <<< ((3 : Int32).toInt64 &&& 63)) ||| (((I b1 (32 : Int32).toNatClampNeg) - (I b1 (32 : Int32).toNatClampNeg) / (7 : Int32) * (7 : Int32)).toInt64)) I J)
def wl_X10_packed_5 (b1 : Nat) (n1 : Nat)  (Q : Int64 → sw_I → sw_J → Prop) : Nat → Int64 → Int32 → sw_I → sw_J → Prop
  | 0 => fun _ _ _ _ => False
  | n + 1 => fun w2 x4 I J => wb_X10_packed_5 b1 n1 (wl_X10_packed_5 b1 n1  Q n) Q w2 x4 I J
def wp_X10_packed (b1 : Nat) (n1 : Nat) (I : sw_I) (J : sw_J) (Q : Int64 → sw_I → sw_J → Prop) : Prop :=
  ∃ n_1 : Nat, wl_X10_packed_5 b1 n1  Q n_1 0 0 I J
set_option maxRecDepth 20000 in
theorem tb_X10_packed_5 {l : Launch} {D : va_G} {cy : Nat → ClassId} {sz : Nat} {G : sw_G} (hG : sw_lay G) {b1 : Nat} {n1 : Nat} (hb1 : sw_ia G b1 n1) {Q : Int64 → sw_I → sw_J → Prop} {K5 : Int64 → Int32 → sw_I → sw_J → Prop} (hK5 : ∀ (w2 : Int64) (x4 : Int32) (I : sw_I) (J : sw_J), K5 w2 x4 I J → AW l D cy sz RX10 cX10_packed 5 (some .long) false rm_X10_packed 0 0 (sw_ql G Q) 0 0 G I J 5 [(0, .ref (sz + 140)), (1, .ref (sz + b1)), (2, .long w2), (4, .int x4)] []) {w2 : Int64} {x4 : Int32} {I : sw_I} {J : sw_J} (h : wb_X10_packed_5 b1 n1 K5 Q w2 x4 I J) : AW l D cy sz RX10 cX10_packed 5 (some .long) false rm_X10_packed 0 0 (sw_ql G Q) 0 0 G I J 5 [(0, .ref (sz + 140)), (1, .ref (sz + b1)), (2, .long w2), (4, .int x4)] [] := by
  unfold wb_X10_packed_5 at h
  refine aw_iload 3 dX10_packed_5 rfl ?_
  refine aw_aload_n 0 dX10_packed_7 rfl rfl ?_
  refine gf_X10_4 fl_X10_29 (lk140 hG) dX10_packed_8 ?_
  refine aw_jge 30 dX10_packed_11 (by decide) (fun c_1 => ?_) (fun c_1 => ?_)
  · have h := sw_if.f h c_1
    refine aw_lload_n 2 dX10_packed_30 rfl rfl ?_
    refine aw_iconst (v := 4) dX10_packed_31 (by decide) ?_
    refine aw_lshl dX10_packed_32 ?_
    refine aw_aload_n 1 dX10_packed_33 rfl rfl ?_
    refine aw_bipush (v := 31) dX10_packed_34 (by decide) ?_
    obtain ⟨hi_2, h⟩ := h
    refine aw_ild dX10_packed_36 hb1.1 hb1.2 hi_2 ?_
    refine aw_i2l dX10_packed_37 ?_
    refine aw_lor dX10_packed_38 ?_
    refine aw_iconst (v := 3) dX10_packed_39 (by decide) ?_
    refine aw_lshl dX10_packed_40 ?_
    refine aw_aload_n 1 dX10_packed_41 rfl rfl ?_
    refine aw_bipush (v := 32) dX10_packed_42 (by decide) ?_
    obtain ⟨hi_3, h⟩ := h
    refine aw_ild dX10_packed_44 hb1.1 hb1.2 hi_3 ?_
    refine aw_bipush (v := 7) dX10_packed_45 (by decide) ?_
    refine aw_irem dX10_packed_47 (by decide) ?_
    refine aw_i2l dX10_packed_48 ?_
    refine aw_lor dX10_packed_49 ?_
    exact aw_lret rfl dX10_packed_50 ⟨rfl, _, rfl, h⟩
  · have h := sw_if.t h c_1
    refine aw_lload_n 2 dX10_packed_14 rfl rfl ?_
    refine aw_iconst (v := 4) dX10_packed_15 (by decide) ?_
    refine aw_lshl dX10_packed_16 ?_
    refine aw_aload_n 1 dX10_packed_17 rfl rfl ?_
    refine aw_iload 3 dX10_packed_18 rfl ?_
    obtain ⟨hi_4, h⟩ := h
    refine aw_ild dX10_packed_20 hb1.1 hb1.2 hi_4 ?_
    refine aw_i2l dX10_packed_21 ?_
    refine aw_lor dX10_packed_22 ?_
    refine aw_topl (fun y_5 e_6 => ?_)
    have h := h y_5 e_6
    refine aw_lstore_n (lv' := [(2, .long y_5), (0, .ref (sz + 140)), (1, .ref (sz + b1)), (4, .int x4)]) dX10_packed_23 rfl (by decide) rfl ?_
    obtain ⟨y_7, e_8⟩ : ∃ q : Int32, q = x4 + 1 := ⟨_, rfl⟩
    have h := h y_7 e_8
    refine aw_iinc (lv' := [(4, .int y_7), (2, .long y_5), (0, .ref (sz + 140)), (1, .ref (sz + b1))]) 3 dX10_packed_24 rfl (by rw [e_8]; rfl) (by decide) rfl ?_
    refine aw_goto 5 dX10_packed_27 (by decide) ?_
    refine aw_sub [2, 3, 1, 0] rfl ?_
    exact hK5 y_5 y_7 I J h
set_option maxRecDepth 20000 in
theorem tl_X10_packed_5 {l : Launch} {D : va_G} {cy : Nat → ClassId} {sz : Nat} {G : sw_G} (hG : sw_lay G) {b1 : Nat} {n1 : Nat} (hb1 : sw_ia G b1 n1) {Q : Int64 → sw_I → sw_J → Prop} : ∀ (n : Nat) (w2 : Int64) (x4 : Int32) (I : sw_I) (J : sw_J), wl_X10_packed_5 b1 n1  Q n w2 x4 I J → AW l D cy sz RX10 cX10_packed 5 (some .long) false rm_X10_packed 0 0 (sw_ql G Q) 0 0 G I J 5 [(0, .ref (sz + 140)), (1, .ref (sz + b1)), (2, .long w2), (4, .int x4)] [] := by
  intro n
  induction n with
  | zero => intro w2 x4 I J h; exact False.elim h
  | succ n ih => intro w2 x4 I J h; exact tb_X10_packed_5 hG hb1 ih h
set_option maxRecDepth 20000 in
theorem t_X10_packed {l : Launch} {D : va_G} {cy : Nat → ClassId} {sz : Nat} {G : sw_G} (hG : sw_lay G) {b1 : Nat} {n1 : Nat} (hb1 : sw_ia G b1 n1) {Q : Int64 → sw_I → sw_J → Prop}  {I : sw_I} {J : sw_J} (h : wp_X10_packed b1 n1 I J Q) : AW l D cy sz RX10 cX10_packed 5 (some .long) false rm_X10_packed 0 0 (sw_ql G Q) 0 0 G I J 0 [(0, .ref (sz + 140)), (1, .ref (sz + b1))] [] := by
  unfold wp_X10_packed at h
  refine aw_lconst (v := 0) dX10_packed_0 (by decide) ?_
  refine aw_lstore_n (lv' := [(2, .long 0), (0, .ref (sz + 140)), (1, .ref (sz + b1))]) dX10_packed_1 rfl (by decide) rfl ?_
  refine aw_iconst (v := 0) dX10_packed_2 (by decide) ?_
  refine aw_istore (lv' := [(4, .int 0), (2, .long 0), (0, .ref (sz + 140)), (1, .ref (sz + b1))]) dX10_packed_3 (by decide) rfl ?_
  refine aw_sub [2, 3, 1, 0] rfl ?_
  obtain ⟨n_1, h⟩ := h
  exact tl_X10_packed_5 hG hb1  n_1 0 0 I J h
theorem M_X10_packed {l : Launch} {D : va_G} {cy : Nat → ClassId} {sz : Nat} {G : sw_G} (hG : sw_lay G) {b1 : Nat} {n1 : Nat} (hb1 : sw_ia G b1 n1) {Q : Int64 → sw_I → sw_J → Prop}  {I : sw_I} {J : sw_J} (h : wp_X10_packed b1 n1 I J Q) : Met l yX10_packed (Cond.code yX10_packed cX10_packed 5 (some .long) :: sw_T) rm_X10_packed (sw_Pc D cy sz [.ref (sz + 140), .ref (sz + b1)] G I J) (sw_Q D cy sz (sw_ql G Q)) 0 0 (fun q => sz ≤ q) :=
  sw_met (by decide) (fun q => by cases q) (Nat.le_of_ble_eq_true rfl) rfl (t_X10_packed hG hb1 h)
-- X10_unpacks
abbrev rm_X10_unpacks : Room := { frames := 0, cells := 0, slots := 0, locals := 0 }
def wb_X10_unpacks_48  (K48 : Int64 → Int32 → sw_I → sw_J → Prop) (Q : sw_I → sw_J → Prop) (w2 : Int64) (x4 : Int32) (I : sw_I) (J : sw_J) : Prop :=
  sw_if (x4 < 0) (∀ I_3 : sw_I, I_3 = sw_up I 145 (30 : Int32).toNatClampNeg (0 : Int32) → Q I_3 J) (vp_in x4 33 ∧ ∀ I_6 : sw_I, I_6 = sw_up I 145 x4.toNatClampNeg ((w2 &&& (15 : Int64)).toInt32) → ∀ y_8 : Int64, y_8 = w2 >>> ((4 : Int32).toInt64 &&& 63) → ∀ y_10 : Int32, y_10 = x4 + (-1) → K48 y_8 y_10 I_6 J)
def wl_X10_unpacks_48   (Q : sw_I → sw_J → Prop) : Nat → Int64 → Int32 → sw_I → sw_J → Prop
  | 0 => fun _ _ _ _ => False
  | n + 1 => fun w2 x4 I J => wb_X10_unpacks_48  (wl_X10_unpacks_48   Q n) Q w2 x4 I J
def wp_X10_unpacks (x1 : Int32) (I : sw_I) (J : sw_J) (Q : sw_I → sw_J → Prop) : Prop :=
  vp_in x1 3000 ∧ ∀ y_2 : Int64, y_2 = (J 161 x1.toNatClampNeg) → ∀ I_5 : sw_I, I_5 = sw_up I 145 (32 : Int32).toNatClampNeg ((y_2 &&& (7 : Int64)).toInt32) → ∀ I_8 : sw_I, I_8 = sw_up I_5 145 (31 : Int32).toNatClampNeg (((y_2 >>> ((3 : Int32).toInt64 &&& 63)) &&& (15 : Int64)).toInt32) → ∀ y_10 : Int64, y_10 = y_2 >>> ((7 : Int32).toInt64 &&& 63) → ∀ y_12 : Int32, y_12 = (I_8 140 4) - (1 : Int32) → ∃ n_14 : Nat, wl_X10_unpacks_48   Q n_14 y_10 y_12 I_8 J
set_option maxRecDepth 20000 in
theorem tb_X10_unpacks_48 {l : Launch} {D : va_G} {cy : Nat → ClassId} {sz : Nat} {G : sw_G} (hG : sw_lay G)   {Q : sw_I → sw_J → Prop} {K48 : Int64 → Int32 → sw_I → sw_J → Prop} (hK48 : ∀ (w2 : Int64) (x4 : Int32) (I : sw_I) (J : sw_J), K48 w2 x4 I J → AW l D cy sz RX10 cX10_unpacks 5 none false rm_X10_unpacks 0 0 (sw_qv G Q) 0 0 G I J 48 [(0, .ref (sz + 140)), (2, .long w2), (4, .int x4)] []) {w2 : Int64} {x4 : Int32} {I : sw_I} {J : sw_J} (h : wb_X10_unpacks_48  K48 Q w2 x4 I J) : AW l D cy sz RX10 cX10_unpacks 5 none false rm_X10_unpacks 0 0 (sw_qv G Q) 0 0 G I J 48 [(0, .ref (sz + 140)), (2, .long w2), (4, .int x4)] [] := by
  unfold wb_X10_unpacks_48 at h
  refine aw_iload 2 dX10_unpacks_48 rfl ?_
  refine aw_zlt 76 dX10_unpacks_50 (by decide) (fun c_1 => ?_) (fun c_1 => ?_)
  · have h := sw_if.t h c_1
    refine aw_aload_n 0 dX10_unpacks_76 rfl rfl ?_
    refine gf_X10_10 fl_X10_313 (lk140 hG) (lr140_10 hG) dX10_unpacks_77 ?_
    refine aw_bipush (v := 30) dX10_unpacks_80 (by decide) ?_
    refine aw_iconst (v := 0) dX10_unpacks_82 (by decide) ?_
    refine aw_ist dX10_unpacks_83 (lk145 hG) (ln145 hG) (by unfold vp_in; decide) (aw_nameI fun I_3 e_4 => ?_)
    have h := h I_3 e_4
    exact aw_vret rfl dX10_unpacks_84 ⟨rfl, rfl, h⟩
  · have h := sw_if.f h c_1
    refine aw_aload_n 0 dX10_unpacks_53 rfl rfl ?_
    refine gf_X10_10 fl_X10_313 (lk140 hG) (lr140_10 hG) dX10_unpacks_54 ?_
    refine aw_iload 2 dX10_unpacks_57 rfl ?_
    refine aw_lload_n 1 dX10_unpacks_59 rfl rfl ?_
    refine aw_ldc2 (v := 15) dX10_unpacks_60 k_X10_338 ?_
    refine aw_land dX10_unpacks_63 ?_
    refine aw_l2i dX10_unpacks_64 ?_
    obtain ⟨hi_5, h⟩ := h
    refine aw_ist dX10_unpacks_65 (lk145 hG) (ln145 hG) hi_5 (aw_nameI fun I_6 e_7 => ?_)
    have h := h I_6 e_7
    refine aw_lload_n 1 dX10_unpacks_66 rfl rfl ?_
    refine aw_iconst (v := 4) dX10_unpacks_67 (by decide) ?_
    refine aw_lshr dX10_unpacks_68 ?_
    refine aw_topl (fun y_8 e_9 => ?_)
    have h := h y_8 e_9
    refine aw_lstore_n (lv' := [(2, .long y_8), (0, .ref (sz + 140)), (4, .int x4)]) dX10_unpacks_69 rfl (by decide) rfl ?_
    obtain ⟨y_10, e_11⟩ : ∃ q : Int32, q = x4 + (-1) := ⟨_, rfl⟩
    have h := h y_10 e_11
    refine aw_iinc (lv' := [(4, .int y_10), (2, .long y_8), (0, .ref (sz + 140))]) 2 dX10_unpacks_70 rfl (by rw [e_11]; rfl) (by decide) rfl ?_
    refine aw_goto 48 dX10_unpacks_73 (by decide) ?_
    refine aw_sub [2, 1, 0] rfl ?_
    exact hK48 y_8 y_10 I_6 J h
set_option maxRecDepth 20000 in
theorem tl_X10_unpacks_48 {l : Launch} {D : va_G} {cy : Nat → ClassId} {sz : Nat} {G : sw_G} (hG : sw_lay G)   {Q : sw_I → sw_J → Prop} : ∀ (n : Nat) (w2 : Int64) (x4 : Int32) (I : sw_I) (J : sw_J), wl_X10_unpacks_48   Q n w2 x4 I J → AW l D cy sz RX10 cX10_unpacks 5 none false rm_X10_unpacks 0 0 (sw_qv G Q) 0 0 G I J 48 [(0, .ref (sz + 140)), (2, .long w2), (4, .int x4)] [] := by
  intro n
  induction n with
  | zero => intro w2 x4 I J h; exact False.elim h
  | succ n ih => intro w2 x4 I J h; exact tb_X10_unpacks_48 hG  ih h
set_option maxRecDepth 20000 in
theorem t_X10_unpacks {l : Launch} {D : va_G} {cy : Nat → ClassId} {sz : Nat} {G : sw_G} (hG : sw_lay G)   {Q : sw_I → sw_J → Prop} {x1 : Int32} {I : sw_I} {J : sw_J} (h : wp_X10_unpacks x1 I J Q) : AW l D cy sz RX10 cX10_unpacks 5 none false rm_X10_unpacks 0 0 (sw_qv G Q) 0 0 G I J 0 [(0, .ref (sz + 140)), (1, .int x1)] [] := by
  unfold wp_X10_unpacks at h
  refine aw_aload_n 0 dX10_unpacks_0 rfl rfl ?_
  refine gf_X10_43 fl_X10_333 (lk140 hG) (lr140_43 hG) dX10_unpacks_1 ?_
  refine aw_iload_n 1 dX10_unpacks_4 rfl rfl ?_
  obtain ⟨hi_1, h⟩ := h
  refine aw_lld dX10_unpacks_5 (lk161 hG) (ln161 hG) hi_1 ?_
  refine aw_topl (fun y_2 e_3 => ?_)
  have h := h y_2 e_3
  refine aw_lstore_n (lv' := [(2, .long y_2), (0, .ref (sz + 140)), (1, .int x1)]) dX10_unpacks_6 rfl (by decide) rfl ?_
  refine aw_aload_n 1 dX10_unpacks_7 rfl rfl ?_
  refine gf_X10_10 fl_X10_313 (lk140 hG) (lr140_10 hG) dX10_unpacks_8 ?_
  refine aw_bipush (v := 32) dX10_unpacks_11 (by decide) ?_
  refine aw_lload_n 0 dX10_unpacks_13 rfl rfl ?_
  refine aw_ldc2 (v := 7) dX10_unpacks_14 k_X10_336 ?_
  refine aw_land dX10_unpacks_17 ?_
  refine aw_l2i dX10_unpacks_18 ?_
  refine aw_ist dX10_unpacks_19 (lk145 hG) (ln145 hG) (by unfold vp_in; decide) (aw_nameI fun I_5 e_6 => ?_)
  have h := h I_5 e_6
  refine aw_aload_n 1 dX10_unpacks_20 rfl rfl ?_
  refine gf_X10_10 fl_X10_313 (lk140 hG) (lr140_10 hG) dX10_unpacks_21 ?_
  refine aw_bipush (v := 31) dX10_unpacks_24 (by decide) ?_
  refine aw_lload_n 0 dX10_unpacks_26 rfl rfl ?_
  refine aw_iconst (v := 3) dX10_unpacks_27 (by decide) ?_
  refine aw_lshr dX10_unpacks_28 ?_
  refine aw_ldc2 (v := 15) dX10_unpacks_29 k_X10_338 ?_
  refine aw_land dX10_unpacks_32 ?_
  refine aw_l2i dX10_unpacks_33 ?_
  refine aw_ist dX10_unpacks_34 (lk145 hG) (ln145 hG) (by unfold vp_in; decide) (aw_nameI fun I_8 e_9 => ?_)
  have h := h I_8 e_9
  refine aw_lload_n 0 dX10_unpacks_35 rfl rfl ?_
  refine aw_bipush (v := 7) dX10_unpacks_36 (by decide) ?_
  refine aw_lshr dX10_unpacks_38 ?_
  refine aw_topl (fun y_10 e_11 => ?_)
  have h := h y_10 e_11
  refine aw_lstore_n (lv' := [(2, .long y_10), (0, .ref (sz + 140)), (1, .int x1)]) dX10_unpacks_39 rfl (by decide) rfl ?_
  refine aw_aload_n 1 dX10_unpacks_40 rfl rfl ?_
  refine gf_X10_4 fl_X10_29 (lk140 hG) dX10_unpacks_41 ?_
  refine aw_iconst (v := 1) dX10_unpacks_44 (by decide) ?_
  refine aw_isub dX10_unpacks_45 ?_
  refine aw_topi (fun y_12 e_13 => ?_)
  have h := h y_12 e_13
  refine aw_istore (lv' := [(4, .int y_12), (2, .long y_10), (0, .ref (sz + 140)), (1, .int x1)]) dX10_unpacks_46 (by decide) rfl ?_
  refine aw_sub [2, 1, 0] rfl ?_
  obtain ⟨n_14, h⟩ := h
  exact tl_X10_unpacks_48 hG   n_14 y_10 y_12 I_8 J h
theorem M_X10_unpacks {l : Launch} {D : va_G} {cy : Nat → ClassId} {sz : Nat} {G : sw_G} (hG : sw_lay G)   {Q : sw_I → sw_J → Prop} {x1 : Int32} {I : sw_I} {J : sw_J} (h : wp_X10_unpacks x1 I J Q) : Met l yX10_unpacks (Cond.code yX10_unpacks cX10_unpacks 5 none :: sw_T) rm_X10_unpacks (sw_Pc D cy sz [.ref (sz + 140), .int x1] G I J) (sw_Q D cy sz (sw_qv G Q)) 0 0 (fun q => sz ≤ q) :=
  sw_met (by decide) (fun q => by cases q) (Nat.le_of_ble_eq_true rfl) rfl (t_X10_unpacks hG  h)
-- X10_slotOf
abbrev rm_X10_slotOf : Room := { frames := 0, cells := 0, slots := 0, locals := 0 }
def wb_X10_slotOf_20  (K20 : Int64 → Int32 → sw_I → sw_J → Prop) (Q : Int32 → sw_I → sw_J → Prop) (w1 : Int64) (x3 : Int32) (I : sw_I) (J : sw_J) : Prop :=
  vp_in x3 16384 ∧ sw_if ((I 165 x3.toNatClampNeg) < 0) (Q x3 I J) (vp_in x3 16384 ∧ vp_in (I 165 x3.toNatClampNeg) 3000 ∧ sw_if ((lg_cmp (J 161 (I 165 x3.toNatClampNeg).toNatClampNeg) w1) = 0) (Q x3 I J) (∀ y_6 : Int32, y_6 = (x3 + (1 : Int32)) - (x3 + (1 : Int32)) / (16384 : Int32) * (16384 : Int32) → K20 w1 y_6 I J))
def wl_X10_slotOf_20   (Q : Int32 → sw_I → sw_J → Prop) : Nat → Int64 → Int32 → sw_I → sw_J → Prop
  | 0 => fun _ _ _ _ => False
  | n + 1 => fun w1 x3 I J => wb_X10_slotOf_20  (wl_X10_slotOf_20   Q n) Q w1 x3 I J
def wp_X10_slotOf (w1 : Int64) (I : sw_I) (J : sw_J) (Q : Int32 → sw_I → sw_J → Prop) : Prop :=
  ∀ y_1 : Int32, y_1 = ((((w1 ^^^ ((w1.toUInt64 >>> ((23 : Int32).toInt64.toUInt64 &&& Int64.toUInt64 63)).toInt64)) * (31 : Int64)) &&& (9223372036854775807 : Int64)) - (((w1 ^^^ ((w1.toUInt64 >>> ((23 : Int32).toInt64.toUInt64 &&& Int64.toUInt64 63)).toInt64)) * (31 : Int64)) &&& (9223372036854775807 : Int64)) / (16384 : Int64) * (16384 : Int64)).toInt32 → ∃ n_3 : Nat, wl_X10_slotOf_20   Q n_3 w1 y_1 I J
set_option maxRecDepth 20000 in
theorem tb_X10_slotOf_20 {l : Launch} {D : va_G} {cy : Nat → ClassId} {sz : Nat} {G : sw_G} (hG : sw_lay G)   {Q : Int32 → sw_I → sw_J → Prop} {K20 : Int64 → Int32 → sw_I → sw_J → Prop} (hK20 : ∀ (w1 : Int64) (x3 : Int32) (I : sw_I) (J : sw_J), K20 w1 x3 I J → AW l D cy sz RX10 cX10_slotOf 4 (some .int) false rm_X10_slotOf 0 0 (sw_qi G Q) 0 0 G I J 20 [(0, .ref (sz + 140)), (1, .long w1), (3, .int x3)] []) {w1 : Int64} {x3 : Int32} {I : sw_I} {J : sw_J} (h : wb_X10_slotOf_20  K20 Q w1 x3 I J) : AW l D cy sz RX10 cX10_slotOf 4 (some .int) false rm_X10_slotOf 0 0 (sw_qi G Q) 0 0 G I J 20 [(0, .ref (sz + 140)), (1, .long w1), (3, .int x3)] [] := by
  unfold wb_X10_slotOf_20 at h
  refine aw_aload_n 0 dX10_slotOf_20 rfl rfl ?_
  refine gf_X10_47 fl_X10_348 (lk140 hG) (lr140_47 hG) dX10_slotOf_21 ?_
  refine aw_iload_n 2 dX10_slotOf_24 rfl rfl ?_
  obtain ⟨hi_1, h⟩ := h
  refine aw_ild dX10_slotOf_25 (lk165 hG) (ln165 hG) hi_1 ?_
  refine aw_zlt 56 dX10_slotOf_26 (by decide) (fun c_2 => ?_) (fun c_2 => ?_)
  · have h := sw_if.t h c_2
    refine aw_iload_n 2 dX10_slotOf_56 rfl rfl ?_
    exact aw_iret rfl dX10_slotOf_57 ⟨rfl, _, rfl, h⟩
  · have h := sw_if.f h c_2
    refine aw_aload_n 0 dX10_slotOf_29 rfl rfl ?_
    refine gf_X10_43 fl_X10_333 (lk140 hG) (lr140_43 hG) dX10_slotOf_30 ?_
    refine aw_aload_n 0 dX10_slotOf_33 rfl rfl ?_
    refine gf_X10_47 fl_X10_348 (lk140 hG) (lr140_47 hG) dX10_slotOf_34 ?_
    refine aw_iload_n 2 dX10_slotOf_37 rfl rfl ?_
    obtain ⟨hi_3, h⟩ := h
    refine aw_ild dX10_slotOf_38 (lk165 hG) (ln165 hG) hi_3 ?_
    obtain ⟨hi_4, h⟩ := h
    refine aw_lld dX10_slotOf_39 (lk161 hG) (ln161 hG) hi_4 ?_
    refine aw_lload_n 1 dX10_slotOf_40 rfl rfl ?_
    refine aw_lcmp dX10_slotOf_41 ?_
    refine aw_zeq 56 dX10_slotOf_42 (by decide) (fun c_5 => ?_) (fun c_5 => ?_)
    · have h := sw_if.t h c_5
      refine aw_iload_n 2 dX10_slotOf_56 rfl rfl ?_
      exact aw_iret rfl dX10_slotOf_57 ⟨rfl, _, rfl, h⟩
    · have h := sw_if.f h c_5
      refine aw_iload_n 2 dX10_slotOf_45 rfl rfl ?_
      refine aw_iconst (v := 1) dX10_slotOf_46 (by decide) ?_
      refine aw_iadd dX10_slotOf_47 ?_
      refine aw_sipush (v := 16384) dX10_slotOf_48 (by decide) ?_
      refine aw_irem dX10_slotOf_51 (by decide) ?_
      refine aw_topi (fun y_6 e_7 => ?_)
      have h := h y_6 e_7
      refine aw_istore_n (lv' := [(3, .int y_6), (0, .ref (sz + 140)), (1, .long w1)]) dX10_slotOf_52 rfl (by decide) rfl ?_
      refine aw_goto 20 dX10_slotOf_53 (by decide) ?_
      refine aw_sub [1, 2, 0] rfl ?_
      exact hK20 w1 y_6 I J h
set_option maxRecDepth 20000 in
theorem tl_X10_slotOf_20 {l : Launch} {D : va_G} {cy : Nat → ClassId} {sz : Nat} {G : sw_G} (hG : sw_lay G)   {Q : Int32 → sw_I → sw_J → Prop} : ∀ (n : Nat) (w1 : Int64) (x3 : Int32) (I : sw_I) (J : sw_J), wl_X10_slotOf_20   Q n w1 x3 I J → AW l D cy sz RX10 cX10_slotOf 4 (some .int) false rm_X10_slotOf 0 0 (sw_qi G Q) 0 0 G I J 20 [(0, .ref (sz + 140)), (1, .long w1), (3, .int x3)] [] := by
  intro n
  induction n with
  | zero => intro w1 x3 I J h; exact False.elim h
  | succ n ih => intro w1 x3 I J h; exact tb_X10_slotOf_20 hG  ih h
set_option maxRecDepth 20000 in
theorem t_X10_slotOf {l : Launch} {D : va_G} {cy : Nat → ClassId} {sz : Nat} {G : sw_G} (hG : sw_lay G)   {Q : Int32 → sw_I → sw_J → Prop} {w1 : Int64} {I : sw_I} {J : sw_J} (h : wp_X10_slotOf w1 I J Q) : AW l D cy sz RX10 cX10_slotOf 4 (some .int) false rm_X10_slotOf 0 0 (sw_qi G Q) 0 0 G I J 0 [(0, .ref (sz + 140)), (1, .long w1)] [] := by
  unfold wp_X10_slotOf at h
  refine aw_lload_n 1 dX10_slotOf_0 rfl rfl ?_
  refine aw_lload_n 1 dX10_slotOf_1 rfl rfl ?_
  refine aw_bipush (v := 23) dX10_slotOf_2 (by decide) ?_
  refine aw_lushr dX10_slotOf_4 ?_
  refine aw_lxor dX10_slotOf_5 ?_
  refine aw_ldc2 (v := 31) dX10_slotOf_6 k_X10_340 ?_
  refine aw_lmul dX10_slotOf_9 ?_
  refine aw_ldc2 (v := 9223372036854775807) dX10_slotOf_10 k_X10_344 ?_
  refine aw_land dX10_slotOf_13 ?_
  refine aw_ldc2 (v := 16384) dX10_slotOf_14 k_X10_346 ?_
  refine aw_lrem dX10_slotOf_17 (by decide) ?_
  refine aw_l2i dX10_slotOf_18 ?_
  refine aw_topi (fun y_1 e_2 => ?_)
  have h := h y_1 e_2
  refine aw_istore_n (lv' := [(3, .int y_1), (0, .ref (sz + 140)), (1, .long w1)]) dX10_slotOf_19 rfl (by decide) rfl ?_
  refine aw_sub [1, 2, 0] rfl ?_
  obtain ⟨n_3, h⟩ := h
  exact tl_X10_slotOf_20 hG   n_3 w1 y_1 I J h
theorem M_X10_slotOf {l : Launch} {D : va_G} {cy : Nat → ClassId} {sz : Nat} {G : sw_G} (hG : sw_lay G)   {Q : Int32 → sw_I → sw_J → Prop} {w1 : Int64} {I : sw_I} {J : sw_J} (h : wp_X10_slotOf w1 I J Q) : Met l yX10_slotOf (Cond.code yX10_slotOf cX10_slotOf 4 (some .int) :: sw_T) rm_X10_slotOf (sw_Pc D cy sz [.ref (sz + 140), .long w1] G I J) (sw_Q D cy sz (sw_qi G Q)) 0 0 (fun q => sz ≤ q) :=
  sw_met (by decide) (fun q => by cases q) (Nat.le_of_ble_eq_true rfl) rfl (t_X10_slotOf hG  h)
-- X10_finds
abbrev rm_X10_finds : Room := { frames := 1, cells := 0, slots := 0, locals := 24 }
def wB_X10_finds_97   (Q : sw_I → sw_J → Prop) (x5 : Int32) (s1 : Int32) (s2 : Int32) (I : sw_I) (J : sw_J) : Prop :=
  vp_in s1 3000 ∧ ∀ I_2 : sw_I, I_2 = sw_up I 164 s1.toNatClampNeg s2 → vp_in x5 16384 ∧ ∀ I_5 : sw_I, I_5 = sw_up I_2 165 x5.toNatClampNeg (I_2 140 48) → ∀ I_7 : sw_I, I_7 = sw_up I_5 140 48 ((I_5 140 48) + (1 : Int32)) → Q I_7 J
def wp_X10_finds (x1 : Int32) (x2 : Int32) (I : sw_I) (J : sw_J) (Q : sw_I → sw_J → Prop) : Prop :=
  wp_X10_packed 145 33 I J (fun r_1 I_2 J_3 => wp_X10_slotOf r_1 I_2 J_3 (fun r_4 I_5 J_6 => vp_in r_4 16384 ∧ sw_if ((I_5 165 r_4.toNatClampNeg) < 0) (sw_if ((I_5 140 48) = (3000 : Int32)) (∀ I_21 : sw_I, I_21 = sw_up I_5 140 49 (1 : Int32) → Q I_21 J_6) (vp_in (I_5 140 48) 3000 ∧ ∀ J_11 : sw_J, J_11 = sw_up J_6 161 (I_5 140 48).toNatClampNeg r_1 → vp_in (I_5 140 48) 3000 ∧ ∀ I_14 : sw_I, I_14 = sw_up I_5 162 (I_5 140 48).toNatClampNeg x1 → vp_in (I_14 140 48) 3000 ∧ ∀ I_17 : sw_I, I_17 = sw_up I_14 163 (I_14 140 48).toNatClampNeg x2 → sw_if (x1 < 0) (wB_X10_finds_97   Q r_4 (I_17 140 48) 0 I_17 J_11) (vp_in x1 3000 ∧ wB_X10_finds_97   Q r_4 (I_17 140 48) ((I_17 164 x1.toNatClampNeg) + (1 : Int32)) I_17 J_11))) (Q I_5 J_6)))
set_option maxRecDepth 20000 in
theorem t_X10_finds_97 {l : Launch} {D : va_G} {cy : Nat → ClassId} {sz : Nat} {G : sw_G} (hG : sw_lay G)   {Q : sw_I → sw_J → Prop} {x5 : Int32} {s1 : Int32} {s2 : Int32} {I : sw_I} {J : sw_J} (h : wB_X10_finds_97   Q x5 s1 s2 I J) : AW l D cy sz RX10 cX10_finds 6 none false rm_X10_finds 0 0 (sw_qv G Q) 0 0 G I J 97 [(0, .ref (sz + 140)), (5, .int x5)] [.int s2, .int s1, .ref (sz + 164)] := by
  unfold wB_X10_finds_97 at h
  obtain ⟨hi_1, h⟩ := h
  refine aw_ist dX10_finds_97 (lk164 hG) (ln164 hG) hi_1 (aw_nameI fun I_2 e_3 => ?_)
  have h := h I_2 e_3
  refine aw_aload_n 0 dX10_finds_98 rfl rfl ?_
  refine gf_X10_47 fl_X10_348 (lk140 hG) (lr140_47 hG) dX10_finds_99 ?_
  refine aw_iload 1 dX10_finds_102 rfl ?_
  refine aw_aload_n 0 dX10_finds_104 rfl rfl ?_
  refine gf_X10_48 fl_X10_359 (lk140 hG) dX10_finds_105 ?_
  obtain ⟨hi_4, h⟩ := h
  refine aw_ist dX10_finds_108 (lk165 hG) (ln165 hG) hi_4 (aw_nameI fun I_5 e_6 => ?_)
  have h := h I_5 e_6
  refine aw_aload_n 0 dX10_finds_109 rfl rfl ?_
  refine aw_dup dX10_finds_110 rfl ?_
  refine gf_X10_48 fl_X10_359 (lk140 hG) dX10_finds_111 ?_
  refine aw_iconst (v := 1) dX10_finds_114 (by decide) ?_
  refine aw_iadd dX10_finds_115 ?_
  refine pf_X10_48 fl_X10_359 (lk140 hG) dX10_finds_116 (aw_nameI fun I_7 e_8 => ?_)
  have h := h I_7 e_8
  exact aw_vret rfl dX10_finds_119 ⟨rfl, rfl, h⟩
set_option maxRecDepth 20000 in
theorem t_X10_finds {l : Launch} {D : va_G} {cy : Nat → ClassId} {sz : Nat} {G : sw_G} (hG : sw_lay G)   {Q : sw_I → sw_J → Prop} {x1 : Int32} {x2 : Int32} {I : sw_I} {J : sw_J} (h : wp_X10_finds x1 x2 I J Q) : AW l D cy sz RX10 cX10_finds 6 none false rm_X10_finds 0 0 (sw_qv G Q) 0 0 G I J 0 [(0, .ref (sz + 140)), (1, .int x1), (2, .int x2)] [] := by
  unfold wp_X10_finds at h
  refine aw_aload_n 0 dX10_finds_0 rfl rfl ?_
  refine aw_aload_n 0 dX10_finds_1 rfl rfl ?_
  refine gf_X10_10 fl_X10_313 (lk140 hG) (lr140_10 hG) dX10_finds_2 ?_
  refine aw_callV wv_X10_packed (M_X10_packed hG ⟨(lk145 hG), (ln145 hG)⟩ h) ml_X10_351 rfl (by decide) (lk140 hG) rfl rfl (Nat.le_of_ble_eq_true rfl) ⟨rfl, rfl⟩ ⟨Nat.le_of_ble_eq_true rfl, Nat.le_of_ble_eq_true rfl⟩ ⟨Nat.le_refl _, Nat.le_refl _⟩ dX10_finds_5 (aw_kl fun r_1 I_2 J_3 h => ?_)
  refine aw_lstore_n (lv' := [(3, .long r_1), (0, .ref (sz + 140)), (1, .int x1), (2, .int x2)]) dX10_finds_8 rfl (by decide) rfl ?_
  refine aw_aload_n 1 dX10_finds_9 rfl rfl ?_
  refine aw_lload_n 0 dX10_finds_10 rfl rfl ?_
  refine aw_callV wv_X10_slotOf (M_X10_slotOf hG  h) ml_X10_355 rfl (by decide) (lk140 hG) rfl rfl (Nat.le_of_ble_eq_true rfl) ⟨rfl, rfl⟩ ⟨Nat.le_of_ble_eq_true rfl, Nat.le_of_ble_eq_true rfl⟩ ⟨Nat.le_refl _, Nat.le_refl _⟩ dX10_finds_11 (aw_ki fun r_4 I_5 J_6 h => ?_)
  refine aw_istore (lv' := [(5, .int r_4), (3, .long r_1), (0, .ref (sz + 140)), (1, .int x1), (2, .int x2)]) dX10_finds_14 (by decide) rfl ?_
  refine aw_aload_n 2 dX10_finds_16 rfl rfl ?_
  refine gf_X10_47 fl_X10_348 (lk140 hG) (lr140_47 hG) dX10_finds_17 ?_
  refine aw_iload 0 dX10_finds_20 rfl ?_
  obtain ⟨hi_7, h⟩ := h
  refine aw_ild dX10_finds_22 (lk165 hG) (ln165 hG) hi_7 ?_
  refine aw_zlt 27 dX10_finds_23 (by decide) (fun c_8 => ?_) (fun c_8 => ?_)
  · have h := sw_if.t h c_8
    refine aw_aload_n 2 dX10_finds_27 rfl rfl ?_
    refine gf_X10_48 fl_X10_359 (lk140 hG) dX10_finds_28 ?_
    refine aw_sipush (v := 3000) dX10_finds_31 (by decide) ?_
    refine aw_jne 43 dX10_finds_34 (by decide) (fun c_9 => ?_) (fun c_9 => ?_)
    · have h := sw_if.f h c_9
      refine aw_aload_n 2 dX10_finds_43 rfl rfl ?_
      refine gf_X10_43 fl_X10_333 (lk140 hG) (lr140_43 hG) dX10_finds_44 ?_
      refine aw_aload_n 2 dX10_finds_47 rfl rfl ?_
      refine gf_X10_48 fl_X10_359 (lk140 hG) dX10_finds_48 ?_
      refine aw_lload_n 1 dX10_finds_51 rfl rfl ?_
      obtain ⟨hi_10, h⟩ := h
      refine aw_lst dX10_finds_52 (lk161 hG) (ln161 hG) hi_10 (aw_nameJ fun J_11 e_12 => ?_)
      have h := h J_11 e_12
      refine aw_aload_n 2 dX10_finds_53 rfl rfl ?_
      refine gf_X10_44 fl_X10_366 (lk140 hG) (lr140_44 hG) dX10_finds_54 ?_
      refine aw_aload_n 2 dX10_finds_57 rfl rfl ?_
      refine gf_X10_48 fl_X10_359 (lk140 hG) dX10_finds_58 ?_
      refine aw_iload_n 3 dX10_finds_61 rfl rfl ?_
      obtain ⟨hi_13, h⟩ := h
      refine aw_ist dX10_finds_62 (lk162 hG) (ln162 hG) hi_13 (aw_nameI fun I_14 e_15 => ?_)
      have h := h I_14 e_15
      refine aw_aload_n 2 dX10_finds_63 rfl rfl ?_
      refine gf_X10_45 fl_X10_369 (lk140 hG) (lr140_45 hG) dX10_finds_64 ?_
      refine aw_aload_n 2 dX10_finds_67 rfl rfl ?_
      refine gf_X10_48 fl_X10_359 (lk140 hG) dX10_finds_68 ?_
      refine aw_iload_n 4 dX10_finds_71 rfl rfl ?_
      obtain ⟨hi_16, h⟩ := h
      refine aw_ist dX10_finds_72 (lk163 hG) (ln163 hG) hi_16 (aw_nameI fun I_17 e_18 => ?_)
      have h := h I_17 e_18
      refine aw_aload_n 2 dX10_finds_73 rfl rfl ?_
      refine gf_X10_46 fl_X10_372 (lk140 hG) (lr140_46 hG) dX10_finds_74 ?_
      refine aw_aload_n 2 dX10_finds_77 rfl rfl ?_
      refine gf_X10_48 fl_X10_359 (lk140 hG) dX10_finds_78 ?_
      refine aw_iload_n 3 dX10_finds_81 rfl rfl ?_
      refine aw_zge 89 dX10_finds_82 (by decide) (fun c_19 => ?_) (fun c_19 => ?_)
      · have h := sw_if.f h c_19
        refine aw_aload_n 2 dX10_finds_89 rfl rfl ?_
        refine gf_X10_46 fl_X10_372 (lk140 hG) (lr140_46 hG) dX10_finds_90 ?_
        refine aw_iload_n 3 dX10_finds_93 rfl rfl ?_
        obtain ⟨hi_20, h⟩ := h
        refine aw_ild dX10_finds_94 (lk164 hG) (ln164 hG) hi_20 ?_
        refine aw_iconst (v := 1) dX10_finds_95 (by decide) ?_
        refine aw_iadd dX10_finds_96 ?_
        refine aw_sub [2, 0] rfl ?_
        exact t_X10_finds_97 hG   h
      · have h := sw_if.t h c_19
        refine aw_iconst (v := 0) dX10_finds_85 (by decide) ?_
        refine aw_goto 97 dX10_finds_86 (by decide) ?_
        refine aw_sub [2, 0] rfl ?_
        exact t_X10_finds_97 hG   h
    · have h := sw_if.t h c_9
      refine aw_aload_n 2 dX10_finds_37 rfl rfl ?_
      refine aw_iconst (v := 1) dX10_finds_38 (by decide) ?_
      refine pf_X10_49 (by decide) fl_X10_362 (lk140 hG) dX10_finds_39 (aw_nameI fun I_21 e_22 => ?_)
      have h := h I_21 e_22
      exact aw_vret rfl dX10_finds_42 ⟨rfl, rfl, h⟩
  · have h := sw_if.f h c_8
    exact aw_vret rfl dX10_finds_26 ⟨rfl, rfl, h⟩
theorem M_X10_finds {l : Launch} {D : va_G} {cy : Nat → ClassId} {sz : Nat} {G : sw_G} (hG : sw_lay G)   {Q : sw_I → sw_J → Prop} {x1 : Int32} {x2 : Int32} {I : sw_I} {J : sw_J} (h : wp_X10_finds x1 x2 I J Q) : Met l yX10_finds (Cond.code yX10_finds cX10_finds 6 none :: sw_T) rm_X10_finds (sw_Pc D cy sz [.ref (sz + 140), .int x1, .int x2] G I J) (sw_Q D cy sz (sw_qv G Q)) 0 0 (fun q => sz ≤ q) :=
  sw_met (by decide) (fun q => by cases q) (Nat.le_of_ble_eq_true rfl) rfl (t_X10_finds hG  h)
-- X10_findsFirst
abbrev rm_X10_findsFirst : Room := { frames := 2, cells := 0, slots := 0, locals := 49 }
def wb_X10_findsFirst_2  (K2 : Int32 → sw_I → sw_J → Prop) (Q : sw_I → sw_J → Prop) (x1 : Int32) (I : sw_I) (J : sw_J) : Prop :=
  sw_if (x1 < (16384 : Int32)) (vp_in x1 16384 ∧ ∀ I_13 : sw_I, I_13 = sw_up I 165 x1.toNatClampNeg (-1 : Int32) → ∀ y_15 : Int32, y_15 = x1 + 1 → K2 y_15 I_13 J) (∀ I_2 : sw_I, I_2 = sw_up I 140 48 (0 : Int32) → ∀ I_4 : sw_I, I_4 = sw_up I_2 140 49 (0 : Int32) → wp_X10_puts 144 33 145 33 I_4 J (fun I_7 J_8 => wp_X10_finds (-1) 0 I_7 J_8 (fun I_10 J_11 => Q I_10 J_11)))
def wl_X10_findsFirst_2   (Q : sw_I → sw_J → Prop) : Nat → Int32 → sw_I → sw_J → Prop
  | 0 => fun _ _ _ => False
  | n + 1 => fun x1 I J => wb_X10_findsFirst_2  (wl_X10_findsFirst_2   Q n) Q x1 I J
def wp_X10_findsFirst  (I : sw_I) (J : sw_J) (Q : sw_I → sw_J → Prop) : Prop :=
  ∃ n_1 : Nat, wl_X10_findsFirst_2   Q n_1 0 I J
set_option maxRecDepth 20000 in
theorem tb_X10_findsFirst_2 {l : Launch} {D : va_G} {cy : Nat → ClassId} {sz : Nat} {G : sw_G} (hG : sw_lay G)   {Q : sw_I → sw_J → Prop} {K2 : Int32 → sw_I → sw_J → Prop} (hK2 : ∀ (x1 : Int32) (I : sw_I) (J : sw_J), K2 x1 I J → AW l D cy sz RX10 cX10_findsFirst 2 none false rm_X10_findsFirst 0 0 (sw_qv G Q) 0 0 G I J 2 [(0, .ref (sz + 140)), (1, .int x1)] []) {x1 : Int32} {I : sw_I} {J : sw_J} (h : wb_X10_findsFirst_2  K2 Q x1 I J) : AW l D cy sz RX10 cX10_findsFirst 2 none false rm_X10_findsFirst 0 0 (sw_qv G Q) 0 0 G I J 2 [(0, .ref (sz + 140)), (1, .int x1)] [] := by
  unfold wb_X10_findsFirst_2 at h
  refine aw_iload_n 1 dX10_findsFirst_2 rfl rfl ?_
  refine aw_sipush (v := 16384) dX10_findsFirst_3 (by decide) ?_
  refine aw_jge 22 dX10_findsFirst_6 (by decide) (fun c_1 => ?_) (fun c_1 => ?_)
  · have h := sw_if.f h c_1
    refine aw_aload_n 0 dX10_findsFirst_22 rfl rfl ?_
    refine aw_iconst (v := 0) dX10_findsFirst_23 (by decide) ?_
    refine pf_X10_48 fl_X10_359 (lk140 hG) dX10_findsFirst_24 (aw_nameI fun I_2 e_3 => ?_)
    have h := h I_2 e_3
    refine aw_aload_n 0 dX10_findsFirst_27 rfl rfl ?_
    refine aw_iconst (v := 0) dX10_findsFirst_28 (by decide) ?_
    refine pf_X10_49 (by decide) fl_X10_362 (lk140 hG) dX10_findsFirst_29 (aw_nameI fun I_4 e_5 => ?_)
    have h := h I_4 e_5
    refine aw_aload_n 0 dX10_findsFirst_32 rfl rfl ?_
    refine gf_X10_9 fl_X10_79 (lk140 hG) (lr140_9 hG) dX10_findsFirst_33 ?_
    refine aw_aload_n 0 dX10_findsFirst_36 rfl rfl ?_
    refine gf_X10_10 fl_X10_313 (lk140 hG) (lr140_10 hG) dX10_findsFirst_37 ?_
    refine aw_callS wv_X10_puts (M_X10_puts trivial ⟨(lk144 hG), (ln144 hG)⟩ ⟨(lk145 hG), (ln145 hG)⟩ h) ml_X10_316 rfl rfl (Nat.le_of_ble_eq_true rfl) ⟨rfl, rfl⟩ ⟨Nat.le_of_ble_eq_true rfl, Nat.le_of_ble_eq_true rfl⟩ ⟨Nat.le_refl _, Nat.le_refl _⟩ dX10_findsFirst_40 (aw_kv fun I_7 J_8 h => ?_)
    refine aw_aload_n 0 dX10_findsFirst_43 rfl rfl ?_
    refine aw_iconst (v := (-1)) dX10_findsFirst_44 (by decide) ?_
    refine aw_iconst (v := 0) dX10_findsFirst_45 (by decide) ?_
    refine aw_callV wv_X10_finds (M_X10_finds hG  h) ml_X10_375 rfl (by decide) (lk140 hG) rfl rfl (Nat.le_of_ble_eq_true rfl) ⟨rfl, rfl⟩ ⟨Nat.le_of_ble_eq_true rfl, Nat.le_of_ble_eq_true rfl⟩ ⟨Nat.le_refl _, Nat.le_refl _⟩ dX10_findsFirst_46 (aw_kv fun I_10 J_11 h => ?_)
    exact aw_vret rfl dX10_findsFirst_49 ⟨rfl, rfl, h⟩
  · have h := sw_if.t h c_1
    refine aw_aload_n 0 dX10_findsFirst_9 rfl rfl ?_
    refine gf_X10_47 fl_X10_348 (lk140 hG) (lr140_47 hG) dX10_findsFirst_10 ?_
    refine aw_iload_n 1 dX10_findsFirst_13 rfl rfl ?_
    refine aw_iconst (v := (-1)) dX10_findsFirst_14 (by decide) ?_
    obtain ⟨hi_12, h⟩ := h
    refine aw_ist dX10_findsFirst_15 (lk165 hG) (ln165 hG) hi_12 (aw_nameI fun I_13 e_14 => ?_)
    have h := h I_13 e_14
    obtain ⟨y_15, e_16⟩ : ∃ q : Int32, q = x1 + 1 := ⟨_, rfl⟩
    have h := h y_15 e_16
    refine aw_iinc (lv' := [(1, .int y_15), (0, .ref (sz + 140))]) 1 dX10_findsFirst_16 rfl (by rw [e_16]; rfl) (by decide) rfl ?_
    refine aw_goto 2 dX10_findsFirst_19 (by decide) ?_
    refine aw_sub [1, 0] rfl ?_
    exact hK2 y_15 I_13 J h
set_option maxRecDepth 20000 in
theorem tl_X10_findsFirst_2 {l : Launch} {D : va_G} {cy : Nat → ClassId} {sz : Nat} {G : sw_G} (hG : sw_lay G)   {Q : sw_I → sw_J → Prop} : ∀ (n : Nat) (x1 : Int32) (I : sw_I) (J : sw_J), wl_X10_findsFirst_2   Q n x1 I J → AW l D cy sz RX10 cX10_findsFirst 2 none false rm_X10_findsFirst 0 0 (sw_qv G Q) 0 0 G I J 2 [(0, .ref (sz + 140)), (1, .int x1)] [] := by
  intro n
  induction n with
  | zero => intro x1 I J h; exact False.elim h
  | succ n ih => intro x1 I J h; exact tb_X10_findsFirst_2 hG  ih h
set_option maxRecDepth 20000 in
theorem t_X10_findsFirst {l : Launch} {D : va_G} {cy : Nat → ClassId} {sz : Nat} {G : sw_G} (hG : sw_lay G)   {Q : sw_I → sw_J → Prop}  {I : sw_I} {J : sw_J} (h : wp_X10_findsFirst  I J Q) : AW l D cy sz RX10 cX10_findsFirst 2 none false rm_X10_findsFirst 0 0 (sw_qv G Q) 0 0 G I J 0 [(0, .ref (sz + 140))] [] := by
  unfold wp_X10_findsFirst at h
  refine aw_iconst (v := 0) dX10_findsFirst_0 (by decide) ?_
  refine aw_istore_n (lv' := [(1, .int 0), (0, .ref (sz + 140))]) dX10_findsFirst_1 rfl (by decide) rfl ?_
  refine aw_sub [1, 0] rfl ?_
  obtain ⟨n_1, h⟩ := h
  exact tl_X10_findsFirst_2 hG   n_1 0 I J h
theorem M_X10_findsFirst {l : Launch} {D : va_G} {cy : Nat → ClassId} {sz : Nat} {G : sw_G} (hG : sw_lay G)   {Q : sw_I → sw_J → Prop}  {I : sw_I} {J : sw_J} (h : wp_X10_findsFirst  I J Q) : Met l yX10_findsFirst (Cond.code yX10_findsFirst cX10_findsFirst 2 none :: sw_T) rm_X10_findsFirst (sw_Pc D cy sz [.ref (sz + 140)] G I J) (sw_Q D cy sz (sw_qv G Q)) 0 0 (fun q => sz ≤ q) :=
  sw_met (by decide) (fun q => by cases q) (Nat.le_of_ble_eq_true rfl) rfl (t_X10_findsFirst hG  h)
-- X10_isAim
abbrev rm_X10_isAim : Room := { frames := 1, cells := 0, slots := 0, locals := 24 }
def wp_X10_isAim (x1 : Int32) (I : sw_I) (J : sw_J) (Q : Int32 → sw_I → sw_J → Prop) : Prop :=
  wp_X10_unpacks x1 I J (fun I_2 J_3 => sw_if ((I_2 140 50) = (2 : Int32)) (sw_if ((I_2 145 (31 : Int32).toNatClampNeg) = (I_2 140 52)) (wp_X10_there 145 33 I_2 J_3 (fun r_14 I_15 J_16 => sw_if (r_14 = (I_15 140 51)) (Q 1 I_15 J_16) (Q 0 I_15 J_16))) (Q 0 I_2 J_3)) (sw_if ((I_2 140 50) = 0) (wp_X10_homeBits 145 33 I_2 J_3 (fun r_8 I_9 J_10 => sw_if (r_8 = (((1 : Int32) <<< ((I_9 140 4) &&& 31)) - (1 : Int32))) (Q 1 I_9 J_10) (Q 0 I_9 J_10))) (vp_in (I_2 140 51) 33 ∧ sw_if ((I_2 145 (I_2 140 51).toNatClampNeg) = (9 : Int32)) (Q 1 I_2 J_3) (Q 0 I_2 J_3))))
set_option maxRecDepth 20000 in
theorem t_X10_isAim {l : Launch} {D : va_G} {cy : Nat → ClassId} {sz : Nat} {G : sw_G} (hG : sw_lay G)   {Q : Int32 → sw_I → sw_J → Prop} {x1 : Int32} {I : sw_I} {J : sw_J} (h : wp_X10_isAim x1 I J Q) : AW l D cy sz RX10 cX10_isAim 2 (some .boolean) false rm_X10_isAim 0 0 (sw_qi G Q) 0 0 G I J 0 [(0, .ref (sz + 140)), (1, .int x1)] [] := by
  unfold wp_X10_isAim at h
  refine aw_aload_n 0 dX10_isAim_0 rfl rfl ?_
  refine aw_iload_n 1 dX10_isAim_1 rfl rfl ?_
  refine aw_callV wv_X10_unpacks (M_X10_unpacks hG  h) ml_X10_379 rfl (by decide) (lk140 hG) rfl rfl (Nat.le_of_ble_eq_true rfl) ⟨rfl, rfl⟩ ⟨Nat.le_of_ble_eq_true rfl, Nat.le_of_ble_eq_true rfl⟩ ⟨Nat.le_refl _, Nat.le_refl _⟩ dX10_isAim_2 (aw_kv fun I_2 J_3 h => ?_)
  refine aw_aload_n 0 dX10_isAim_5 rfl rfl ?_
  refine gf_X10_50 fl_X10_382 (lk140 hG) dX10_isAim_6 ?_
  refine aw_iconst (v := 2) dX10_isAim_9 (by decide) ?_
  refine aw_jne 48 dX10_isAim_10 (by decide) (fun c_4 => ?_) (fun c_4 => ?_)
  · have h := sw_if.f h c_4
    refine aw_aload_n 0 dX10_isAim_48 rfl rfl ?_
    refine gf_X10_50 fl_X10_382 (lk140 hG) dX10_isAim_49 ?_
    refine aw_zne 82 dX10_isAim_52 (by decide) (fun c_5 => ?_) (fun c_5 => ?_)
    · have h := sw_if.f h c_5
      refine aw_aload_n 0 dX10_isAim_82 rfl rfl ?_
      refine gf_X10_10 fl_X10_313 (lk140 hG) (lr140_10 hG) dX10_isAim_83 ?_
      refine aw_aload_n 0 dX10_isAim_86 rfl rfl ?_
      refine gf_X10_51 fl_X10_388 (lk140 hG) dX10_isAim_87 ?_
      obtain ⟨hi_6, h⟩ := h
      refine aw_ild dX10_isAim_90 (lk145 hG) (ln145 hG) hi_6 ?_
      refine aw_bipush (v := 9) dX10_isAim_91 (by decide) ?_
      refine aw_jne 100 dX10_isAim_93 (by decide) (fun c_7 => ?_) (fun c_7 => ?_)
      · have h := sw_if.f h c_7
        refine aw_iconst (v := 0) dX10_isAim_100 (by decide) ?_
        exact aw_zret rfl rfl dX10_isAim_101 ⟨rfl, _, rfl, h⟩
      · have h := sw_if.t h c_7
        refine aw_iconst (v := 1) dX10_isAim_96 (by decide) ?_
        refine aw_goto 101 dX10_isAim_97 (by decide) ?_
        exact aw_zret rfl rfl dX10_isAim_101 ⟨rfl, _, rfl, h⟩
    · have h := sw_if.t h c_5
      refine aw_aload_n 0 dX10_isAim_55 rfl rfl ?_
      refine aw_aload_n 0 dX10_isAim_56 rfl rfl ?_
      refine gf_X10_10 fl_X10_313 (lk140 hG) (lr140_10 hG) dX10_isAim_57 ?_
      refine aw_callV wv_X10_homeBits (M_X10_homeBits hG ⟨(lk145 hG), (ln145 hG)⟩ h) ml_X10_391 rfl (by decide) (lk140 hG) rfl rfl (Nat.le_of_ble_eq_true rfl) ⟨rfl, rfl⟩ ⟨Nat.le_of_ble_eq_true rfl, Nat.le_of_ble_eq_true rfl⟩ ⟨Nat.le_refl _, Nat.le_refl _⟩ dX10_isAim_60 (aw_ki fun r_8 I_9 J_10 h => ?_)
      refine aw_iconst (v := 1) dX10_isAim_63 (by decide) ?_
      refine aw_aload_n 0 dX10_isAim_64 rfl rfl ?_
      refine gf_X10_4 fl_X10_29 (lk140 hG) dX10_isAim_65 ?_
      refine aw_ishl dX10_isAim_68 ?_
      refine aw_iconst (v := 1) dX10_isAim_69 (by decide) ?_
      refine aw_isub dX10_isAim_70 ?_
      refine aw_jne 78 dX10_isAim_71 (by decide) (fun c_11 => ?_) (fun c_11 => ?_)
      · have h := sw_if.f h c_11
        refine aw_iconst (v := 0) dX10_isAim_78 (by decide) ?_
        refine aw_goto 101 dX10_isAim_79 (by decide) ?_
        exact aw_zret rfl rfl dX10_isAim_101 ⟨rfl, _, rfl, h⟩
      · have h := sw_if.t h c_11
        refine aw_iconst (v := 1) dX10_isAim_74 (by decide) ?_
        refine aw_goto 101 dX10_isAim_75 (by decide) ?_
        exact aw_zret rfl rfl dX10_isAim_101 ⟨rfl, _, rfl, h⟩
  · have h := sw_if.t h c_4
    refine aw_aload_n 0 dX10_isAim_13 rfl rfl ?_
    refine gf_X10_10 fl_X10_313 (lk140 hG) (lr140_10 hG) dX10_isAim_14 ?_
    refine aw_bipush (v := 31) dX10_isAim_17 (by decide) ?_
    refine aw_ild dX10_isAim_19 (lk145 hG) (ln145 hG) (by unfold vp_in; decide) ?_
    refine aw_aload_n 0 dX10_isAim_20 rfl rfl ?_
    refine gf_X10_52 fl_X10_385 (lk140 hG) dX10_isAim_21 ?_
    refine aw_jne 46 dX10_isAim_24 (by decide) (fun c_13 => ?_) (fun c_13 => ?_)
    · have h := sw_if.f h c_13
      refine aw_iconst (v := 0) dX10_isAim_46 (by decide) ?_
      exact aw_zret rfl rfl dX10_isAim_47 ⟨rfl, _, rfl, h⟩
    · have h := sw_if.t h c_13
      refine aw_aload_n 0 dX10_isAim_27 rfl rfl ?_
      refine aw_aload_n 0 dX10_isAim_28 rfl rfl ?_
      refine gf_X10_10 fl_X10_313 (lk140 hG) (lr140_10 hG) dX10_isAim_29 ?_
      refine aw_callV wv_X10_there (M_X10_there hG ⟨(lk145 hG), (ln145 hG)⟩ h) ml_X10_295 rfl (by decide) (lk140 hG) rfl rfl (Nat.le_of_ble_eq_true rfl) ⟨rfl, rfl⟩ ⟨Nat.le_of_ble_eq_true rfl, Nat.le_of_ble_eq_true rfl⟩ ⟨Nat.le_refl _, Nat.le_refl _⟩ dX10_isAim_32 (aw_ki fun r_14 I_15 J_16 h => ?_)
      refine aw_aload_n 0 dX10_isAim_35 rfl rfl ?_
      refine gf_X10_51 fl_X10_388 (lk140 hG) dX10_isAim_36 ?_
      refine aw_jne 46 dX10_isAim_39 (by decide) (fun c_17 => ?_) (fun c_17 => ?_)
      · have h := sw_if.f h c_17
        refine aw_iconst (v := 0) dX10_isAim_46 (by decide) ?_
        exact aw_zret rfl rfl dX10_isAim_47 ⟨rfl, _, rfl, h⟩
      · have h := sw_if.t h c_17
        refine aw_iconst (v := 1) dX10_isAim_42 (by decide) ?_
        refine aw_goto 47 dX10_isAim_43 (by decide) ?_
        exact aw_zret rfl rfl dX10_isAim_47 ⟨rfl, _, rfl, h⟩
theorem M_X10_isAim {l : Launch} {D : va_G} {cy : Nat → ClassId} {sz : Nat} {G : sw_G} (hG : sw_lay G)   {Q : Int32 → sw_I → sw_J → Prop} {x1 : Int32} {I : sw_I} {J : sw_J} (h : wp_X10_isAim x1 I J Q) : Met l yX10_isAim (Cond.code yX10_isAim cX10_isAim 2 (some .boolean) :: sw_T) rm_X10_isAim (sw_Pc D cy sz [.ref (sz + 140), .int x1] G I J) (sw_Q D cy sz (sw_qi G Q)) 0 0 (fun q => sz ≤ q) :=
  sw_met (by decide) (fun q => by cases q) (Nat.le_of_ble_eq_true rfl) rfl (t_X10_isAim hG  h)
-- X10_tellsWay
abbrev rm_X10_tellsWay : Room := { frames := 1, cells := 0, slots := 0, locals := 22 }
def wb_X10_tellsWay_59  (K59 : Int32 → Int32 → sw_I → sw_J → Prop) (Q : Int32 → sw_I → sw_J → Prop) (x2 : Int32) (x4 : Int32) (I : sw_I) (J : sw_J) : Prop :=
  sw_if (x4 < x2) (sw_if (x4 < (10 : Int32)) (vp_in x4 3000 ∧ wp_X10_enters ((I 166 x4.toNatClampNeg).toInt64) I J (fun I_5 J_6 => ∀ y_7 : Int32, y_7 = x4 + 1 → K59 x2 y_7 I_5 J_6)) (Q x2 I J)) (Q x2 I J)
def wl_X10_tellsWay_59   (Q : Int32 → sw_I → sw_J → Prop) : Nat → Int32 → Int32 → sw_I → sw_J → Prop
  | 0 => fun _ _ _ _ => False
  | n + 1 => fun x2 x4 I J => wb_X10_tellsWay_59  (wl_X10_tellsWay_59   Q n) Q x2 x4 I J
def wb_X10_tellsWay_20  (K20 : Int32 → Int32 → Int32 → sw_I → sw_J → Prop) (Q : Int32 → sw_I → sw_J → Prop) (x2 : Int32) (x3 : Int32) (x4 : Int32) (I : sw_I) (J : sw_J) : Prop :=
  sw_if (x4 < 0) (∀ I_2 : sw_I, I_2 = sw_up I 140 1 (0 : Int32) → ∃ n_4 : Nat, wl_X10_tellsWay_59   Q n_4 x2 0 I_2 J) (vp_in x3 3000 ∧ vp_in x4 3000 ∧ ∀ I_7 : sw_I, I_7 = sw_up I 166 x4.toNatClampNeg (I 163 x3.toNatClampNeg) → vp_in x3 3000 ∧ ∀ y_10 : Int32, y_10 = (I_7 162 x3.toNatClampNeg) → ∀ y_12 : Int32, y_12 = x4 + (-1) → K20 x2 y_10 y_12 I_7 J)
def wl_X10_tellsWay_20   (Q : Int32 → sw_I → sw_J → Prop) : Nat → Int32 → Int32 → Int32 → sw_I → sw_J → Prop
  | 0 => fun _ _ _ _ _ => False
  | n + 1 => fun x2 x3 x4 I J => wb_X10_tellsWay_20  (wl_X10_tellsWay_20   Q n) Q x2 x3 x4 I J
def wp_X10_tellsWay (x1 : Int32) (I : sw_I) (J : sw_J) (Q : Int32 → sw_I → sw_J → Prop) : Prop :=
  sw_if (x1 < 0) (Q x1 I J) (vp_in x1 3000 ∧ ∀ y_3 : Int32, y_3 = (I 164 x1.toNatClampNeg) → ∀ y_5 : Int32, y_5 = y_3 - (1 : Int32) → ∃ n_7 : Nat, wl_X10_tellsWay_20   Q n_7 y_3 x1 y_5 I J)
set_option maxRecDepth 20000 in
theorem tb_X10_tellsWay_59 {l : Launch} {D : va_G} {cy : Nat → ClassId} {sz : Nat} {G : sw_G} (hG : sw_lay G)   {Q : Int32 → sw_I → sw_J → Prop} {K59 : Int32 → Int32 → sw_I → sw_J → Prop} (hK59 : ∀ (x2 : Int32) (x4 : Int32) (I : sw_I) (J : sw_J), K59 x2 x4 I J → AW l D cy sz RX10 cX10_tellsWay 5 (some .int) false rm_X10_tellsWay 0 0 (sw_qi G Q) 0 0 G I J 59 [(0, .ref (sz + 140)), (2, .int x2), (4, .int x4)] []) {x2 : Int32} {x4 : Int32} {I : sw_I} {J : sw_J} (h : wb_X10_tellsWay_59  K59 Q x2 x4 I J) : AW l D cy sz RX10 cX10_tellsWay 5 (some .int) false rm_X10_tellsWay 0 0 (sw_qi G Q) 0 0 G I J 59 [(0, .ref (sz + 140)), (2, .int x2), (4, .int x4)] [] := by
  unfold wb_X10_tellsWay_59 at h
  refine aw_iload 2 dX10_tellsWay_59 rfl ?_
  refine aw_iload_n 1 dX10_tellsWay_61 rfl rfl ?_
  refine aw_jge 90 dX10_tellsWay_62 (by decide) (fun c_1 => ?_) (fun c_1 => ?_)
  · have h := sw_if.f h c_1
    refine aw_iload_n 1 dX10_tellsWay_90 rfl rfl ?_
    exact aw_iret rfl dX10_tellsWay_91 ⟨rfl, _, rfl, h⟩
  · have h := sw_if.t h c_1
    refine aw_iload 2 dX10_tellsWay_65 rfl ?_
    refine aw_bipush (v := 10) dX10_tellsWay_67 (by decide) ?_
    refine aw_jge 90 dX10_tellsWay_69 (by decide) (fun c_2 => ?_) (fun c_2 => ?_)
    · have h := sw_if.f h c_2
      refine aw_iload_n 1 dX10_tellsWay_90 rfl rfl ?_
      exact aw_iret rfl dX10_tellsWay_91 ⟨rfl, _, rfl, h⟩
    · have h := sw_if.t h c_2
      refine aw_aload_n 0 dX10_tellsWay_72 rfl rfl ?_
      refine aw_aload_n 0 dX10_tellsWay_73 rfl rfl ?_
      refine gf_X10_53 fl_X10_403 (lk140 hG) (lr140_53 hG) dX10_tellsWay_74 ?_
      refine aw_iload 2 dX10_tellsWay_77 rfl ?_
      obtain ⟨hi_3, h⟩ := h
      refine aw_ild dX10_tellsWay_79 (lk166 hG) (ln166 hG) hi_3 ?_
      refine aw_i2l dX10_tellsWay_80 ?_
      refine aw_callV wv_X10_enters (M_X10_enters hG  h) ml_X10_18 rfl (by decide) (lk140 hG) rfl rfl (Nat.le_of_ble_eq_true rfl) ⟨rfl, rfl⟩ ⟨Nat.le_of_ble_eq_true rfl, Nat.le_of_ble_eq_true rfl⟩ ⟨Nat.le_refl _, Nat.le_refl _⟩ dX10_tellsWay_81 (aw_kv fun I_5 J_6 h => ?_)
      obtain ⟨y_7, e_8⟩ : ∃ q : Int32, q = x4 + 1 := ⟨_, rfl⟩
      have h := h y_7 e_8
      refine aw_iinc (lv' := [(4, .int y_7), (0, .ref (sz + 140)), (2, .int x2)]) 2 dX10_tellsWay_84 rfl (by rw [e_8]; rfl) (by decide) rfl ?_
      refine aw_goto 59 dX10_tellsWay_87 (by decide) ?_
      refine aw_sub [1, 2, 0] rfl ?_
      exact hK59 x2 y_7 I_5 J_6 h
set_option maxRecDepth 20000 in
theorem tl_X10_tellsWay_59 {l : Launch} {D : va_G} {cy : Nat → ClassId} {sz : Nat} {G : sw_G} (hG : sw_lay G)   {Q : Int32 → sw_I → sw_J → Prop} : ∀ (n : Nat) (x2 : Int32) (x4 : Int32) (I : sw_I) (J : sw_J), wl_X10_tellsWay_59   Q n x2 x4 I J → AW l D cy sz RX10 cX10_tellsWay 5 (some .int) false rm_X10_tellsWay 0 0 (sw_qi G Q) 0 0 G I J 59 [(0, .ref (sz + 140)), (2, .int x2), (4, .int x4)] [] := by
  intro n
  induction n with
  | zero => intro x2 x4 I J h; exact False.elim h
  | succ n ih => intro x2 x4 I J h; exact tb_X10_tellsWay_59 hG  ih h
set_option maxRecDepth 20000 in
theorem tb_X10_tellsWay_20 {l : Launch} {D : va_G} {cy : Nat → ClassId} {sz : Nat} {G : sw_G} (hG : sw_lay G)   {Q : Int32 → sw_I → sw_J → Prop} {K20 : Int32 → Int32 → Int32 → sw_I → sw_J → Prop} (hK20 : ∀ (x2 : Int32) (x3 : Int32) (x4 : Int32) (I : sw_I) (J : sw_J), K20 x2 x3 x4 I J → AW l D cy sz RX10 cX10_tellsWay 5 (some .int) false rm_X10_tellsWay 0 0 (sw_qi G Q) 0 0 G I J 20 [(0, .ref (sz + 140)), (2, .int x2), (3, .int x3), (4, .int x4)] []) {x2 : Int32} {x3 : Int32} {x4 : Int32} {I : sw_I} {J : sw_J} (h : wb_X10_tellsWay_20  K20 Q x2 x3 x4 I J) : AW l D cy sz RX10 cX10_tellsWay 5 (some .int) false rm_X10_tellsWay 0 0 (sw_qi G Q) 0 0 G I J 20 [(0, .ref (sz + 140)), (2, .int x2), (3, .int x3), (4, .int x4)] [] := by
  unfold wb_X10_tellsWay_20 at h
  refine aw_iload 3 dX10_tellsWay_20 rfl ?_
  refine aw_zlt 51 dX10_tellsWay_22 (by decide) (fun c_1 => ?_) (fun c_1 => ?_)
  · have h := sw_if.t h c_1
    refine aw_aload_n 0 dX10_tellsWay_51 rfl rfl ?_
    refine aw_iconst (v := 0) dX10_tellsWay_52 (by decide) ?_
    refine pf_X10_1 fl_X10_15 (lk140 hG) dX10_tellsWay_53 (aw_nameI fun I_2 e_3 => ?_)
    have h := h I_2 e_3
    refine aw_iconst (v := 0) dX10_tellsWay_56 (by decide) ?_
    refine aw_istore (lv' := [(4, .int 0), (0, .ref (sz + 140)), (2, .int x2), (3, .int x3)]) dX10_tellsWay_57 (by decide) rfl ?_
    refine aw_sub [1, 2, 0] rfl ?_
    obtain ⟨n_4, h⟩ := h
    exact tl_X10_tellsWay_59 hG   n_4 x2 0 I_2 J h
  · have h := sw_if.f h c_1
    refine aw_aload_n 0 dX10_tellsWay_25 rfl rfl ?_
    refine gf_X10_53 fl_X10_403 (lk140 hG) (lr140_53 hG) dX10_tellsWay_26 ?_
    refine aw_iload 3 dX10_tellsWay_29 rfl ?_
    refine aw_aload_n 0 dX10_tellsWay_31 rfl rfl ?_
    refine gf_X10_45 fl_X10_369 (lk140 hG) (lr140_45 hG) dX10_tellsWay_32 ?_
    refine aw_iload_n 2 dX10_tellsWay_35 rfl rfl ?_
    obtain ⟨hi_5, h⟩ := h
    refine aw_ild dX10_tellsWay_36 (lk163 hG) (ln163 hG) hi_5 ?_
    obtain ⟨hi_6, h⟩ := h
    refine aw_ist dX10_tellsWay_37 (lk166 hG) (ln166 hG) hi_6 (aw_nameI fun I_7 e_8 => ?_)
    have h := h I_7 e_8
    refine aw_aload_n 0 dX10_tellsWay_38 rfl rfl ?_
    refine gf_X10_44 fl_X10_366 (lk140 hG) (lr140_44 hG) dX10_tellsWay_39 ?_
    refine aw_iload_n 2 dX10_tellsWay_42 rfl rfl ?_
    obtain ⟨hi_9, h⟩ := h
    refine aw_ild dX10_tellsWay_43 (lk162 hG) (ln162 hG) hi_9 ?_
    refine aw_topi (fun y_10 e_11 => ?_)
    have h := h y_10 e_11
    refine aw_istore_n (lv' := [(3, .int y_10), (0, .ref (sz + 140)), (2, .int x2), (4, .int x4)]) dX10_tellsWay_44 rfl (by decide) rfl ?_
    obtain ⟨y_12, e_13⟩ : ∃ q : Int32, q = x4 + (-1) := ⟨_, rfl⟩
    have h := h y_12 e_13
    refine aw_iinc (lv' := [(4, .int y_12), (3, .int y_10), (0, .ref (sz + 140)), (2, .int x2)]) 3 dX10_tellsWay_45 rfl (by rw [e_13]; rfl) (by decide) rfl ?_
    refine aw_goto 20 dX10_tellsWay_48 (by decide) ?_
    refine aw_sub [2, 3, 1, 0] rfl ?_
    exact hK20 x2 y_10 y_12 I_7 J h
set_option maxRecDepth 20000 in
theorem tl_X10_tellsWay_20 {l : Launch} {D : va_G} {cy : Nat → ClassId} {sz : Nat} {G : sw_G} (hG : sw_lay G)   {Q : Int32 → sw_I → sw_J → Prop} : ∀ (n : Nat) (x2 : Int32) (x3 : Int32) (x4 : Int32) (I : sw_I) (J : sw_J), wl_X10_tellsWay_20   Q n x2 x3 x4 I J → AW l D cy sz RX10 cX10_tellsWay 5 (some .int) false rm_X10_tellsWay 0 0 (sw_qi G Q) 0 0 G I J 20 [(0, .ref (sz + 140)), (2, .int x2), (3, .int x3), (4, .int x4)] [] := by
  intro n
  induction n with
  | zero => intro x2 x3 x4 I J h; exact False.elim h
  | succ n ih => intro x2 x3 x4 I J h; exact tb_X10_tellsWay_20 hG  ih h
set_option maxRecDepth 20000 in
theorem t_X10_tellsWay {l : Launch} {D : va_G} {cy : Nat → ClassId} {sz : Nat} {G : sw_G} (hG : sw_lay G)   {Q : Int32 → sw_I → sw_J → Prop} {x1 : Int32} {I : sw_I} {J : sw_J} (h : wp_X10_tellsWay x1 I J Q) : AW l D cy sz RX10 cX10_tellsWay 5 (some .int) false rm_X10_tellsWay 0 0 (sw_qi G Q) 0 0 G I J 0 [(0, .ref (sz + 140)), (1, .int x1)] [] := by
  unfold wp_X10_tellsWay at h
  refine aw_iload_n 1 dX10_tellsWay_0 rfl rfl ?_
  refine aw_zge 6 dX10_tellsWay_1 (by decide) (fun c_1 => ?_) (fun c_1 => ?_)
  · have h := sw_if.f h c_1
    refine aw_aload_n 0 dX10_tellsWay_6 rfl rfl ?_
    refine gf_X10_46 fl_X10_372 (lk140 hG) (lr140_46 hG) dX10_tellsWay_7 ?_
    refine aw_iload_n 1 dX10_tellsWay_10 rfl rfl ?_
    obtain ⟨hi_2, h⟩ := h
    refine aw_ild dX10_tellsWay_11 (lk164 hG) (ln164 hG) hi_2 ?_
    refine aw_topi (fun y_3 e_4 => ?_)
    have h := h y_3 e_4
    refine aw_istore_n (lv' := [(2, .int y_3), (0, .ref (sz + 140)), (1, .int x1)]) dX10_tellsWay_12 rfl (by decide) rfl ?_
    refine aw_iload_n 2 dX10_tellsWay_13 rfl rfl ?_
    refine aw_istore_n (lv' := [(3, .int x1), (2, .int y_3), (0, .ref (sz + 140)), (1, .int x1)]) dX10_tellsWay_14 rfl (by decide) rfl ?_
    refine aw_iload_n 1 dX10_tellsWay_15 rfl rfl ?_
    refine aw_iconst (v := 1) dX10_tellsWay_16 (by decide) ?_
    refine aw_isub dX10_tellsWay_17 ?_
    refine aw_topi (fun y_5 e_6 => ?_)
    have h := h y_5 e_6
    refine aw_istore (lv' := [(4, .int y_5), (3, .int x1), (2, .int y_3), (0, .ref (sz + 140)), (1, .int x1)]) dX10_tellsWay_18 (by decide) rfl ?_
    refine aw_sub [3, 2, 1, 0] rfl ?_
    obtain ⟨n_7, h⟩ := h
    exact tl_X10_tellsWay_20 hG   n_7 y_3 x1 y_5 I J h
  · have h := sw_if.t h c_1
    refine aw_iload_n 1 dX10_tellsWay_4 rfl rfl ?_
    exact aw_iret rfl dX10_tellsWay_5 ⟨rfl, _, rfl, h⟩
theorem M_X10_tellsWay {l : Launch} {D : va_G} {cy : Nat → ClassId} {sz : Nat} {G : sw_G} (hG : sw_lay G)   {Q : Int32 → sw_I → sw_J → Prop} {x1 : Int32} {I : sw_I} {J : sw_J} (h : wp_X10_tellsWay x1 I J Q) : Met l yX10_tellsWay (Cond.code yX10_tellsWay cX10_tellsWay 5 (some .int) :: sw_T) rm_X10_tellsWay (sw_Pc D cy sz [.ref (sz + 140), .int x1] G I J) (sw_Q D cy sz (sw_qi G Q)) 0 0 (fun q => sz ≤ q) :=
  sw_met (by decide) (fun q => by cases q) (Nat.le_of_ble_eq_true rfl) rfl (t_X10_tellsWay hG  h)
-- X10_saw
abbrev rm_X10_saw : Room := { frames := 2, cells := 0, slots := 0, locals := 46 }
def wp_X10_saw (x1 : Int32) (x2 : Int32) (x3 : Int32) (I : sw_I) (J : sw_J) (Q : Int32 → sw_I → sw_J → Prop) : Prop :=
  ∀ I_1 : sw_I, I_1 = sw_up I 140 0 (0 : Int32) → wp_X10_isFloor x1 I_1 J (fun r_3 I_4 J_5 => sw_if (r_3 = 0) (Q (-1 : Int32) I_4 J_5) (wp_X10_isFloor x3 I_4 J_5 (fun r_7 I_8 J_9 => sw_if (r_7 = 0) (Q (-1 : Int32) I_8 J_9) (sw_if (x1 = x3) (Q (-1 : Int32) I_8 J_9) (wp_X10_in x2.toInt64 0 ((((1 : Int32) <<< ((I_8 140 4) &&& 31)) - (1 : Int32)).toInt64) I_8 J_9 (fun r_12 I_13 J_14 => sw_if (r_12 = 0) (Q (-1 : Int32) I_13 J_14) (sw_if ((I_13 140 54) = (8 : Int32)) (Q (-1 : Int32) I_13 J_14) (vp_in (I_13 140 54) 8 ∧ ∀ I_18 : sw_I, I_18 = sw_up I_13 167 (I_13 140 54).toNatClampNeg x1 → vp_in (I_18 140 54) 8 ∧ ∀ I_21 : sw_I, I_21 = sw_up I_18 168 (I_18 140 54).toNatClampNeg x2 → vp_in (I_21 140 54) 8 ∧ ∀ I_24 : sw_I, I_24 = sw_up I_21 169 (I_21 140 54).toNatClampNeg x3 → ∀ I_26 : sw_I, I_26 = sw_up I_24 140 54 ((I_24 140 54) + (1 : Int32)) → Q (I_26 140 54) I_26 J_14))))))))
set_option maxRecDepth 20000 in
theorem t_X10_saw {l : Launch} {D : va_G} {cy : Nat → ClassId} {sz : Nat} {G : sw_G} (hG : sw_lay G)   {Q : Int32 → sw_I → sw_J → Prop} {x1 : Int32} {x2 : Int32} {x3 : Int32} {I : sw_I} {J : sw_J} (h : wp_X10_saw x1 x2 x3 I J Q) : AW l D cy sz RX10 cX10_saw 4 (some .int) false rm_X10_saw 0 0 (sw_qi G Q) 0 0 G I J 0 [(0, .ref (sz + 140)), (1, .int x1), (2, .int x2), (3, .int x3)] [] := by
  unfold wp_X10_saw at h
  refine aw_aload_n 0 dX10_saw_0 rfl rfl ?_
  refine aw_iconst (v := 0) dX10_saw_1 (by decide) ?_
  refine pf_X10_0 fl_X10_3 (lk140 hG) dX10_saw_2 (aw_nameI fun I_1 e_2 => ?_)
  have h := h I_1 e_2
  refine aw_aload_n 0 dX10_saw_5 rfl rfl ?_
  refine aw_iload_n 1 dX10_saw_6 rfl rfl ?_
  refine aw_callV wv_X10_isFloor (M_X10_isFloor hG  h) ml_X10_95 rfl (by decide) (lk140 hG) rfl rfl (Nat.le_of_ble_eq_true rfl) ⟨rfl, rfl⟩ ⟨Nat.le_of_ble_eq_true rfl, Nat.le_of_ble_eq_true rfl⟩ ⟨Nat.le_refl _, Nat.le_refl _⟩ dX10_saw_7 (aw_ki fun r_3 I_4 J_5 h => ?_)
  refine aw_zeq 53 dX10_saw_10 (by decide) (fun c_6 => ?_) (fun c_6 => ?_)
  · have h := sw_if.t h c_6
    refine aw_iconst (v := (-1)) dX10_saw_53 (by decide) ?_
    exact aw_iret rfl dX10_saw_54 ⟨rfl, _, rfl, h⟩
  · have h := sw_if.f h c_6
    refine aw_aload_n 0 dX10_saw_13 rfl rfl ?_
    refine aw_iload_n 3 dX10_saw_14 rfl rfl ?_
    refine aw_callV wv_X10_isFloor (M_X10_isFloor hG  h) ml_X10_95 rfl (by decide) (lk140 hG) rfl rfl (Nat.le_of_ble_eq_true rfl) ⟨rfl, rfl⟩ ⟨Nat.le_of_ble_eq_true rfl, Nat.le_of_ble_eq_true rfl⟩ ⟨Nat.le_refl _, Nat.le_refl _⟩ dX10_saw_15 (aw_ki fun r_7 I_8 J_9 h => ?_)
    refine aw_zeq 53 dX10_saw_18 (by decide) (fun c_10 => ?_) (fun c_10 => ?_)
    · have h := sw_if.t h c_10
      refine aw_iconst (v := (-1)) dX10_saw_53 (by decide) ?_
      exact aw_iret rfl dX10_saw_54 ⟨rfl, _, rfl, h⟩
    · have h := sw_if.f h c_10
      refine aw_iload_n 1 dX10_saw_21 rfl rfl ?_
      refine aw_iload_n 3 dX10_saw_22 rfl rfl ?_
      refine aw_jeq 53 dX10_saw_23 (by decide) (fun c_11 => ?_) (fun c_11 => ?_)
      · have h := sw_if.t h c_11
        refine aw_iconst (v := (-1)) dX10_saw_53 (by decide) ?_
        exact aw_iret rfl dX10_saw_54 ⟨rfl, _, rfl, h⟩
      · have h := sw_if.f h c_11
        refine aw_iload_n 2 dX10_saw_26 rfl rfl ?_
        refine aw_i2l dX10_saw_27 ?_
        refine aw_lconst (v := 0) dX10_saw_28 (by decide) ?_
        refine aw_iconst (v := 1) dX10_saw_29 (by decide) ?_
        refine aw_aload_n 0 dX10_saw_30 rfl rfl ?_
        refine gf_X10_4 fl_X10_29 (lk140 hG) dX10_saw_31 ?_
        refine aw_ishl dX10_saw_34 ?_
        refine aw_iconst (v := 1) dX10_saw_35 (by decide) ?_
        refine aw_isub dX10_saw_36 ?_
        refine aw_i2l dX10_saw_37 ?_
        refine aw_callS wv_X10_in (M_X10_in trivial  h) ml_X10_25 rfl rfl (Nat.le_of_ble_eq_true rfl) ⟨rfl, rfl⟩ ⟨Nat.le_of_ble_eq_true rfl, Nat.le_of_ble_eq_true rfl⟩ ⟨Nat.le_refl _, Nat.le_refl _⟩ dX10_saw_38 (aw_ki fun r_12 I_13 J_14 h => ?_)
        refine aw_zeq 53 dX10_saw_41 (by decide) (fun c_15 => ?_) (fun c_15 => ?_)
        · have h := sw_if.t h c_15
          refine aw_iconst (v := (-1)) dX10_saw_53 (by decide) ?_
          exact aw_iret rfl dX10_saw_54 ⟨rfl, _, rfl, h⟩
        · have h := sw_if.f h c_15
          refine aw_aload_n 0 dX10_saw_44 rfl rfl ?_
          refine gf_X10_54 fl_X10_85 (lk140 hG) dX10_saw_45 ?_
          refine aw_bipush (v := 8) dX10_saw_48 (by decide) ?_
          refine aw_jne 55 dX10_saw_50 (by decide) (fun c_16 => ?_) (fun c_16 => ?_)
          · have h := sw_if.f h c_16
            refine aw_aload_n 0 dX10_saw_55 rfl rfl ?_
            refine gf_X10_55 fl_X10_418 (lk140 hG) (lr140_55 hG) dX10_saw_56 ?_
            refine aw_aload_n 0 dX10_saw_59 rfl rfl ?_
            refine gf_X10_54 fl_X10_85 (lk140 hG) dX10_saw_60 ?_
            refine aw_iload_n 1 dX10_saw_63 rfl rfl ?_
            obtain ⟨hi_17, h⟩ := h
            refine aw_ist dX10_saw_64 (lk167 hG) (ln167 hG) hi_17 (aw_nameI fun I_18 e_19 => ?_)
            have h := h I_18 e_19
            refine aw_aload_n 0 dX10_saw_65 rfl rfl ?_
            refine gf_X10_56 fl_X10_421 (lk140 hG) (lr140_56 hG) dX10_saw_66 ?_
            refine aw_aload_n 0 dX10_saw_69 rfl rfl ?_
            refine gf_X10_54 fl_X10_85 (lk140 hG) dX10_saw_70 ?_
            refine aw_iload_n 2 dX10_saw_73 rfl rfl ?_
            obtain ⟨hi_20, h⟩ := h
            refine aw_ist dX10_saw_74 (lk168 hG) (ln168 hG) hi_20 (aw_nameI fun I_21 e_22 => ?_)
            have h := h I_21 e_22
            refine aw_aload_n 0 dX10_saw_75 rfl rfl ?_
            refine gf_X10_57 fl_X10_424 (lk140 hG) (lr140_57 hG) dX10_saw_76 ?_
            refine aw_aload_n 0 dX10_saw_79 rfl rfl ?_
            refine gf_X10_54 fl_X10_85 (lk140 hG) dX10_saw_80 ?_
            refine aw_iload_n 3 dX10_saw_83 rfl rfl ?_
            obtain ⟨hi_23, h⟩ := h
            refine aw_ist dX10_saw_84 (lk169 hG) (ln169 hG) hi_23 (aw_nameI fun I_24 e_25 => ?_)
            have h := h I_24 e_25
            refine aw_aload_n 0 dX10_saw_85 rfl rfl ?_
            refine aw_dup dX10_saw_86 rfl ?_
            refine gf_X10_54 fl_X10_85 (lk140 hG) dX10_saw_87 ?_
            refine aw_iconst (v := 1) dX10_saw_90 (by decide) ?_
            refine aw_iadd dX10_saw_91 ?_
            refine pf_X10_54 fl_X10_85 (lk140 hG) dX10_saw_92 (aw_nameI fun I_26 e_27 => ?_)
            have h := h I_26 e_27
            refine aw_aload_n 0 dX10_saw_95 rfl rfl ?_
            refine gf_X10_54 fl_X10_85 (lk140 hG) dX10_saw_96 ?_
            exact aw_iret rfl dX10_saw_99 ⟨rfl, _, rfl, h⟩
          · have h := sw_if.t h c_16
            refine aw_iconst (v := (-1)) dX10_saw_53 (by decide) ?_
            exact aw_iret rfl dX10_saw_54 ⟨rfl, _, rfl, h⟩
theorem M_X10_saw {l : Launch} {D : va_G} {cy : Nat → ClassId} {sz : Nat} {G : sw_G} (hG : sw_lay G)   {Q : Int32 → sw_I → sw_J → Prop} {x1 : Int32} {x2 : Int32} {x3 : Int32} {I : sw_I} {J : sw_J} (h : wp_X10_saw x1 x2 x3 I J Q) : Met l yX10_saw (Cond.code yX10_saw cX10_saw 4 (some .int) :: sw_T) rm_X10_saw (sw_Pc D cy sz [.ref (sz + 140), .int x1, .int x2, .int x3] G I J) (sw_Q D cy sz (sw_qi G Q)) 0 0 (fun q => sz ≤ q) :=
  sw_met (by decide) (fun q => by cases q) (Nat.le_of_ble_eq_true rfl) rfl (t_X10_saw hG  h)
-- X10_forget
abbrev rm_X10_forget : Room := { frames := 0, cells := 0, slots := 0, locals := 0 }
def wp_X10_forget  (I : sw_I) (J : sw_J) (Q : Int32 → sw_I → sw_J → Prop) : Prop :=
  ∀ I_1 : sw_I, I_1 = sw_up I 140 0 (0 : Int32) → ∀ y_3 : Int32, y_3 = (I_1 140 54) → ∀ I_5 : sw_I, I_5 = sw_up I_1 140 54 (0 : Int32) → Q y_3 I_5 J
set_option maxRecDepth 20000 in
theorem t_X10_forget {l : Launch} {D : va_G} {cy : Nat → ClassId} {sz : Nat} {G : sw_G} (hG : sw_lay G)   {Q : Int32 → sw_I → sw_J → Prop}  {I : sw_I} {J : sw_J} (h : wp_X10_forget  I J Q) : AW l D cy sz RX10 cX10_forget 2 (some .int) false rm_X10_forget 0 0 (sw_qi G Q) 0 0 G I J 0 [(0, .ref (sz + 140))] [] := by
  unfold wp_X10_forget at h
  refine aw_aload_n 0 dX10_forget_0 rfl rfl ?_
  refine aw_iconst (v := 0) dX10_forget_1 (by decide) ?_
  refine pf_X10_0 fl_X10_3 (lk140 hG) dX10_forget_2 (aw_nameI fun I_1 e_2 => ?_)
  have h := h I_1 e_2
  refine aw_aload_n 0 dX10_forget_5 rfl rfl ?_
  refine gf_X10_54 fl_X10_85 (lk140 hG) dX10_forget_6 ?_
  refine aw_topi (fun y_3 e_4 => ?_)
  have h := h y_3 e_4
  refine aw_istore_n (lv' := [(1, .int y_3), (0, .ref (sz + 140))]) dX10_forget_9 rfl (by decide) rfl ?_
  refine aw_aload_n 1 dX10_forget_10 rfl rfl ?_
  refine aw_iconst (v := 0) dX10_forget_11 (by decide) ?_
  refine pf_X10_54 fl_X10_85 (lk140 hG) dX10_forget_12 (aw_nameI fun I_5 e_6 => ?_)
  have h := h I_5 e_6
  refine aw_iload_n 0 dX10_forget_15 rfl rfl ?_
  exact aw_iret rfl dX10_forget_16 ⟨rfl, _, rfl, h⟩
theorem M_X10_forget {l : Launch} {D : va_G} {cy : Nat → ClassId} {sz : Nat} {G : sw_G} (hG : sw_lay G)   {Q : Int32 → sw_I → sw_J → Prop}  {I : sw_I} {J : sw_J} (h : wp_X10_forget  I J Q) : Met l yX10_forget (Cond.code yX10_forget cX10_forget 2 (some .int) :: sw_T) rm_X10_forget (sw_Pc D cy sz [.ref (sz + 140)] G I J) (sw_Q D cy sz (sw_qi G Q)) 0 0 (fun q => sz ≤ q) :=
  sw_met (by decide) (fun q => by cases q) (Nat.le_of_ble_eq_true rfl) rfl (t_X10_forget hG  h)
-- X10_keep
abbrev rm_X10_keep : Room := { frames := 1, cells := 0, slots := 0, locals := 25 }
def wb_X10_keep_38  (K38 : Int32 → Int32 → sw_I → sw_J → Prop) (Q : Int32 → sw_I → sw_J → Prop) (x1 : Int32) (x2 : Int32) (I : sw_I) (J : sw_J) : Prop :=
  sw_if (x2 < (33 : Int32)) (vp_in x2 33 ∧ vp_in (((33 : Int32) * x1) + x2) 99 ∧ ∀ I_4 : sw_I, I_4 = sw_up I 173 (((33 : Int32) * x1) + x2).toNatClampNeg (I 144 x2.toNatClampNeg) → ∀ y_6 : Int32, y_6 = x2 + 1 → K38 x1 y_6 I_4 J) (Q 1 I J)
def wl_X10_keep_38   (Q : Int32 → sw_I → sw_J → Prop) : Nat → Int32 → Int32 → sw_I → sw_J → Prop
  | 0 => fun _ _ _ _ => False
  | n + 1 => fun x1 x2 I J => wb_X10_keep_38  (wl_X10_keep_38   Q n) Q x1 x2 I J
def wp_X10_keep (x1 : Int32) (I : sw_I) (J : sw_J) (Q : Int32 → sw_I → sw_J → Prop) : Prop :=
  ∀ I_1 : sw_I, I_1 = sw_up I 140 0 (0 : Int32) → wp_X10_in x1.toInt64 0 2 I_1 J (fun r_3 I_4 J_5 => sw_if (r_3 = 0) (Q 0 I_4 J_5) (vp_in x1 3 ∧ ∀ I_8 : sw_I, I_8 = sw_up I_4 171 x1.toNatClampNeg (1 : Int32) → vp_in x1 3 ∧ ∀ I_11 : sw_I, I_11 = sw_up I_8 172 x1.toNatClampNeg (I_8 140 6) → ∃ n_13 : Nat, wl_X10_keep_38   Q n_13 x1 0 I_11 J_5))
set_option maxRecDepth 20000 in
theorem tb_X10_keep_38 {l : Launch} {D : va_G} {cy : Nat → ClassId} {sz : Nat} {G : sw_G} (hG : sw_lay G)   {Q : Int32 → sw_I → sw_J → Prop} {K38 : Int32 → Int32 → sw_I → sw_J → Prop} (hK38 : ∀ (x1 : Int32) (x2 : Int32) (I : sw_I) (J : sw_J), K38 x1 x2 I J → AW l D cy sz RX10 cX10_keep 3 (some .boolean) false rm_X10_keep 0 0 (sw_qi G Q) 0 0 G I J 38 [(0, .ref (sz + 140)), (1, .int x1), (2, .int x2)] []) {x1 : Int32} {x2 : Int32} {I : sw_I} {J : sw_J} (h : wb_X10_keep_38  K38 Q x1 x2 I J) : AW l D cy sz RX10 cX10_keep 3 (some .boolean) false rm_X10_keep 0 0 (sw_qi G Q) 0 0 G I J 38 [(0, .ref (sz + 140)), (1, .int x1), (2, .int x2)] [] := by
  unfold wb_X10_keep_38 at h
  refine aw_iload_n 2 dX10_keep_38 rfl rfl ?_
  refine aw_bipush (v := 33) dX10_keep_39 (by decide) ?_
  refine aw_jge 67 dX10_keep_41 (by decide) (fun c_1 => ?_) (fun c_1 => ?_)
  · have h := sw_if.f h c_1
    refine aw_iconst (v := 1) dX10_keep_67 (by decide) ?_
    exact aw_zret rfl rfl dX10_keep_68 ⟨rfl, _, rfl, h⟩
  · have h := sw_if.t h c_1
    refine aw_aload_n 0 dX10_keep_44 rfl rfl ?_
    refine gf_X10_61 fl_X10_465 (lk140 hG) (lr140_61 hG) dX10_keep_45 ?_
    refine aw_bipush (v := 33) dX10_keep_48 (by decide) ?_
    refine aw_iload_n 1 dX10_keep_50 rfl rfl ?_
    refine aw_imul dX10_keep_51 ?_
    refine aw_iload_n 2 dX10_keep_52 rfl rfl ?_
    refine aw_iadd dX10_keep_53 ?_
    refine aw_aload_n 0 dX10_keep_54 rfl rfl ?_
    refine gf_X10_9 fl_X10_79 (lk140 hG) (lr140_9 hG) dX10_keep_55 ?_
    refine aw_iload_n 2 dX10_keep_58 rfl rfl ?_
    obtain ⟨hi_2, h⟩ := h
    refine aw_ild dX10_keep_59 (lk144 hG) (ln144 hG) hi_2 ?_
    obtain ⟨hi_3, h⟩ := h
    refine aw_ist dX10_keep_60 (lk173 hG) (ln173 hG) hi_3 (aw_nameI fun I_4 e_5 => ?_)
    have h := h I_4 e_5
    obtain ⟨y_6, e_7⟩ : ∃ q : Int32, q = x2 + 1 := ⟨_, rfl⟩
    have h := h y_6 e_7
    refine aw_iinc (lv' := [(2, .int y_6), (0, .ref (sz + 140)), (1, .int x1)]) 2 dX10_keep_61 rfl (by rw [e_7]; rfl) (by decide) rfl ?_
    refine aw_goto 38 dX10_keep_64 (by decide) ?_
    refine aw_sub [1, 2, 0] rfl ?_
    exact hK38 x1 y_6 I_4 J h
set_option maxRecDepth 20000 in
theorem tl_X10_keep_38 {l : Launch} {D : va_G} {cy : Nat → ClassId} {sz : Nat} {G : sw_G} (hG : sw_lay G)   {Q : Int32 → sw_I → sw_J → Prop} : ∀ (n : Nat) (x1 : Int32) (x2 : Int32) (I : sw_I) (J : sw_J), wl_X10_keep_38   Q n x1 x2 I J → AW l D cy sz RX10 cX10_keep 3 (some .boolean) false rm_X10_keep 0 0 (sw_qi G Q) 0 0 G I J 38 [(0, .ref (sz + 140)), (1, .int x1), (2, .int x2)] [] := by
  intro n
  induction n with
  | zero => intro x1 x2 I J h; exact False.elim h
  | succ n ih => intro x1 x2 I J h; exact tb_X10_keep_38 hG  ih h
set_option maxRecDepth 20000 in
theorem t_X10_keep {l : Launch} {D : va_G} {cy : Nat → ClassId} {sz : Nat} {G : sw_G} (hG : sw_lay G)   {Q : Int32 → sw_I → sw_J → Prop} {x1 : Int32} {I : sw_I} {J : sw_J} (h : wp_X10_keep x1 I J Q) : AW l D cy sz RX10 cX10_keep 3 (some .boolean) false rm_X10_keep 0 0 (sw_qi G Q) 0 0 G I J 0 [(0, .ref (sz + 140)), (1, .int x1)] [] := by
  unfold wp_X10_keep at h
  refine aw_aload_n 0 dX10_keep_0 rfl rfl ?_
  refine aw_iconst (v := 0) dX10_keep_1 (by decide) ?_
  refine pf_X10_0 fl_X10_3 (lk140 hG) dX10_keep_2 (aw_nameI fun I_1 e_2 => ?_)
  have h := h I_1 e_2
  refine aw_iload_n 1 dX10_keep_5 rfl rfl ?_
  refine aw_i2l dX10_keep_6 ?_
  refine aw_lconst (v := 0) dX10_keep_7 (by decide) ?_
  refine aw_ldc2 (v := 2) dX10_keep_8 k_X10_72 ?_
  refine aw_callS wv_X10_in (M_X10_in trivial  h) ml_X10_25 rfl rfl (Nat.le_of_ble_eq_true rfl) ⟨rfl, rfl⟩ ⟨Nat.le_of_ble_eq_true rfl, Nat.le_of_ble_eq_true rfl⟩ ⟨Nat.le_refl _, Nat.le_refl _⟩ dX10_keep_11 (aw_ki fun r_3 I_4 J_5 h => ?_)
  refine aw_zne 19 dX10_keep_14 (by decide) (fun c_6 => ?_) (fun c_6 => ?_)
  · have h := sw_if.f h c_6
    refine aw_aload_n 0 dX10_keep_19 rfl rfl ?_
    refine gf_X10_59 fl_X10_458 (lk140 hG) (lr140_59 hG) dX10_keep_20 ?_
    refine aw_iload_n 1 dX10_keep_23 rfl rfl ?_
    refine aw_iconst (v := 1) dX10_keep_24 (by decide) ?_
    obtain ⟨hi_7, h⟩ := h
    refine aw_zst dX10_keep_25 (lk171 hG) (ln171 hG) hi_7 rfl (aw_nameI fun I_8 e_9 => ?_)
    have h := h I_8 e_9
    refine aw_aload_n 0 dX10_keep_26 rfl rfl ?_
    refine gf_X10_60 fl_X10_462 (lk140 hG) (lr140_60 hG) dX10_keep_27 ?_
    refine aw_iload_n 1 dX10_keep_30 rfl rfl ?_
    refine aw_aload_n 0 dX10_keep_31 rfl rfl ?_
    refine gf_X10_6 fl_X10_88 (lk140 hG) dX10_keep_32 ?_
    obtain ⟨hi_10, h⟩ := h
    refine aw_ist dX10_keep_35 (lk172 hG) (ln172 hG) hi_10 (aw_nameI fun I_11 e_12 => ?_)
    have h := h I_11 e_12
    refine aw_iconst (v := 0) dX10_keep_36 (by decide) ?_
    refine aw_istore_n (lv' := [(2, .int 0), (0, .ref (sz + 140)), (1, .int x1)]) dX10_keep_37 rfl (by decide) rfl ?_
    refine aw_sub [1, 2, 0] rfl ?_
    obtain ⟨n_13, h⟩ := h
    exact tl_X10_keep_38 hG   n_13 x1 0 I_11 J_5 h
  · have h := sw_if.t h c_6
    refine aw_iconst (v := 0) dX10_keep_17 (by decide) ?_
    exact aw_zret rfl rfl dX10_keep_18 ⟨rfl, _, rfl, h⟩
theorem M_X10_keep {l : Launch} {D : va_G} {cy : Nat → ClassId} {sz : Nat} {G : sw_G} (hG : sw_lay G)   {Q : Int32 → sw_I → sw_J → Prop} {x1 : Int32} {I : sw_I} {J : sw_J} (h : wp_X10_keep x1 I J Q) : Met l yX10_keep (Cond.code yX10_keep cX10_keep 3 (some .boolean) :: sw_T) rm_X10_keep (sw_Pc D cy sz [.ref (sz + 140), .int x1] G I J) (sw_Q D cy sz (sw_qi G Q)) 0 0 (fun q => sz ≤ q) :=
  sw_met (by decide) (fun q => by cases q) (Nat.le_of_ble_eq_true rfl) rfl (t_X10_keep hG  h)
