-- X9_rests
abbrev rm_X9_rests : Room := { frames := 6, cells := 0, slots := 0, locals := 149 }
def wb_X9_rests_102  (K102 : Int32 → Int32 → sw_I → sw_J → Prop) (Q : Int32 → sw_I → sw_J → Prop) (x2 : Int32) (x4 : Int32) (I : sw_I) (J : sw_J) : Prop :=
  sw_if (x4 < (I 3 2)) (vp_in x4 10 ∧ wp_X9_tell ((I 19 x4.toNatClampNeg).toInt64) I J (fun I_4 J_5 => ∀ y_6 : Int32, y_6 = x4 + 1 → K102 x2 y_6 I_4 J_5)) (Q x2 I J)
def wl_X9_rests_102   (Q : Int32 → sw_I → sw_J → Prop) : Nat → Int32 → Int32 → sw_I → sw_J → Prop
  | 0 => fun _ _ _ _ => False
  | n + 1 => fun x2 x4 I J => wb_X9_rests_102  (wl_X9_rests_102   Q n) Q x2 x4 I J
def wB_X9_rests_73   (Q : Int32 → sw_I → sw_J → Prop) (x2 : Int32) (t1 : Int64) (I : sw_I) (J : sw_J) : Prop :=
  wp_X9_tell t1 I J (fun I_2 J_3 => wp_X1_nextStop 17 (I_2 17 3) I_2 J_3 (fun r_4 I_5 J_6 => wp_X9_tell r_4.toInt64 I_5 J_6 (fun I_8 J_9 => ∃ n_10 : Nat, wl_X9_rests_102   Q n_10 x2 0 I_8 J_9)))
def wB_X9_rests_59   (Q : Int32 → sw_I → sw_J → Prop) (x2 : Int32) (x3 : Int32) (I : sw_I) (J : sw_J) : Prop :=
  wp_X9_clearRow  I J (fun I_2 J_3 => sw_if (x3 = 0) (wB_X9_rests_73   Q x2 0 I_2 J_3) (wB_X9_rests_73   Q x2 1 I_2 J_3))
def wB_X9_rests_52  (K27 : Int32 → Int32 → Int32 → sw_I → sw_J → Prop) (Q : Int32 → sw_I → sw_J → Prop) (x1 : Int32) (x2 : Int32) (s0 : Int32) (I : sw_I) (J : sw_J) : Prop :=
  ∀ y_1 : Int32, y_1 = x2 + 1 → K27 x1 y_1 s0 I J
def wb_X9_rests_27  (K27 : Int32 → Int32 → Int32 → sw_I → sw_J → Prop) (Q : Int32 → sw_I → sw_J → Prop) (x1 : Int32) (x2 : Int32) (x3 : Int32) (I : sw_I) (J : sw_J) : Prop :=
  sw_if (x2 < x1) (sw_if (x3 = 0) (wp_X9_tellAnew 17 I J (fun r_3 I_4 J_5 => sw_if (r_3 = 0) (wB_X9_rests_52  K27 Q x1 x2 1 I_4 J_5) (wB_X9_rests_52  K27 Q x1 x2 0 I_4 J_5))) (wB_X9_rests_59   Q x2 x3 I J)) (wB_X9_rests_59   Q x2 x3 I J)
def wl_X9_rests_27   (Q : Int32 → sw_I → sw_J → Prop) : Nat → Int32 → Int32 → Int32 → sw_I → sw_J → Prop
  | 0 => fun _ _ _ _ _ => False
  | n + 1 => fun x1 x2 x3 I J => wb_X9_rests_27  (wl_X9_rests_27   Q n) Q x1 x2 x3 I J
def wp_X9_rests (x1 : Int32) (I : sw_I) (J : sw_J) (Q : Int32 → sw_I → sw_J → Prop) : Prop :=
  sw_if (x1 < 0) (Q (-1 : Int32) I J) (sw_if ((30 : Int32) < x1) (Q (-1 : Int32) I J) (wp_X3_copy 17 13 I J (fun I_4 J_5 => ∃ n_6 : Nat, wl_X9_rests_27   Q n_6 x1 0 0 I_4 J_5)))
set_option maxRecDepth 20000 in
theorem tb_X9_rests_102 {l : Launch} {D : va_G} {cy : Nat → ClassId} {sz : Nat} {G : sw_G} (hG : sw_lay G)   {Q : Int32 → sw_I → sw_J → Prop} {K102 : Int32 → Int32 → sw_I → sw_J → Prop} (hK102 : ∀ (x2 : Int32) (x4 : Int32) (I : sw_I) (J : sw_J), K102 x2 x4 I J → AW l D cy sz RX9 cX9_rests 5 (some .int) false rm_X9_rests 0 0 (sw_qi G Q) 0 0 G I J 102 [(0, .ref (sz + 0)), (2, .int x2), (4, .int x4)] []) {x2 : Int32} {x4 : Int32} {I : sw_I} {J : sw_J} (h : wb_X9_rests_102  K102 Q x2 x4 I J) : AW l D cy sz RX9 cX9_rests 5 (some .int) false rm_X9_rests 0 0 (sw_qi G Q) 0 0 G I J 102 [(0, .ref (sz + 0)), (2, .int x2), (4, .int x4)] [] := by
  unfold wb_X9_rests_102 at h
  refine aw_iload 2 dX9_rests_102 rfl ?_
  refine aw_aload_n 0 dX9_rests_104 rfl rfl ?_
  refine gf_X9_1 fl_X9_19 (lk0 hG) (lr0_1 hG) dX9_rests_105 ?_
  refine gf_X1_2 fl_X9_144 (lk3 hG) dX9_rests_108 ?_
  refine aw_jge 135 dX9_rests_111 (by decide) (fun c_1 => ?_) (fun c_1 => ?_)
  · have h := sw_if.f h c_1
    refine aw_iload_n 1 dX9_rests_135 rfl rfl ?_
    exact aw_iret rfl dX9_rests_136 ⟨rfl, _, rfl, h⟩
  · have h := sw_if.t h c_1
    refine aw_aload_n 0 dX9_rests_114 rfl rfl ?_
    refine aw_aload_n 0 dX9_rests_115 rfl rfl ?_
    refine gf_X9_3 fl_X9_30 (lk0 hG) (lr0_3 hG) dX9_rests_116 ?_
    refine gf_X3_1 fl_X9_123 (lk17 hG) (lr17_1 hG) dX9_rests_119 ?_
    refine aw_iload 2 dX9_rests_122 rfl ?_
    obtain ⟨hi_2, h⟩ := h
    refine aw_ild dX9_rests_124 (lk19 hG) (ln19 hG) hi_2 ?_
    refine aw_i2l dX9_rests_125 ?_
    refine aw_callV wv_X9_tell (M_X9_tell hG  h) ml_X9_185 rfl (by decide) (lk0 hG) rfl rfl (Nat.le_of_ble_eq_true rfl) ⟨rfl, rfl⟩ ⟨Nat.le_of_ble_eq_true rfl, Nat.le_of_ble_eq_true rfl⟩ ⟨Nat.le_refl _, Nat.le_refl _⟩ dX9_rests_126 (aw_kv fun I_4 J_5 h => ?_)
    obtain ⟨y_6, e_7⟩ : ∃ q : Int32, q = x4 + 1 := ⟨_, rfl⟩
    have h := h y_6 e_7
    refine aw_iinc (lv' := [(4, .int y_6), (0, .ref (sz + 0)), (2, .int x2)]) 2 dX9_rests_129 rfl (by rw [e_7]; rfl) (by decide) rfl ?_
    refine aw_goto 102 dX9_rests_132 (by decide) ?_
    refine aw_sub [1, 2, 0] rfl ?_
    exact hK102 x2 y_6 I_4 J_5 h
set_option maxRecDepth 20000 in
theorem tl_X9_rests_102 {l : Launch} {D : va_G} {cy : Nat → ClassId} {sz : Nat} {G : sw_G} (hG : sw_lay G)   {Q : Int32 → sw_I → sw_J → Prop} : ∀ (n : Nat) (x2 : Int32) (x4 : Int32) (I : sw_I) (J : sw_J), wl_X9_rests_102   Q n x2 x4 I J → AW l D cy sz RX9 cX9_rests 5 (some .int) false rm_X9_rests 0 0 (sw_qi G Q) 0 0 G I J 102 [(0, .ref (sz + 0)), (2, .int x2), (4, .int x4)] [] := by
  intro n
  induction n with
  | zero => intro x2 x4 I J h; exact False.elim h
  | succ n ih => intro x2 x4 I J h; exact tb_X9_rests_102 hG  ih h
set_option maxRecDepth 20000 in
theorem t_X9_rests_73 {l : Launch} {D : va_G} {cy : Nat → ClassId} {sz : Nat} {G : sw_G} (hG : sw_lay G)   {Q : Int32 → sw_I → sw_J → Prop} {x2 : Int32} {t1 : Int64} {I : sw_I} {J : sw_J} (h : wB_X9_rests_73   Q x2 t1 I J) : AW l D cy sz RX9 cX9_rests 5 (some .int) false rm_X9_rests 0 0 (sw_qi G Q) 0 0 G I J 73 [(0, .ref (sz + 0)), (2, .int x2)] [.long t1, .ref (sz + 0)] := by
  unfold wB_X9_rests_73 at h
  refine aw_callV wv_X9_tell (M_X9_tell hG  h) ml_X9_185 rfl (by decide) (lk0 hG) rfl rfl (Nat.le_of_ble_eq_true rfl) ⟨rfl, rfl⟩ ⟨Nat.le_of_ble_eq_true rfl, Nat.le_of_ble_eq_true rfl⟩ ⟨Nat.le_refl _, Nat.le_refl _⟩ dX9_rests_73 (aw_kv fun I_2 J_3 h => ?_)
  refine aw_aload_n 0 dX9_rests_76 rfl rfl ?_
  refine aw_aload_n 0 dX9_rests_77 rfl rfl ?_
  refine gf_X9_1 fl_X9_19 (lk0 hG) (lr0_1 hG) dX9_rests_78 ?_
  refine aw_aload_n 0 dX9_rests_81 rfl rfl ?_
  refine gf_X9_3 fl_X9_30 (lk0 hG) (lr0_3 hG) dX9_rests_82 ?_
  refine aw_aload_n 0 dX9_rests_85 rfl rfl ?_
  refine gf_X9_3 fl_X9_30 (lk0 hG) (lr0_3 hG) dX9_rests_86 ?_
  refine gf_X3_3 fl_X9_132 (lk17 hG) dX9_rests_89 ?_
  refine aw_callV wv_X1_nextStop (M_X1_nextStop hG (lm17 hG) h) ml_X9_213 rfl (by decide) (lk3 hG) rfl rfl (Nat.le_of_ble_eq_true rfl) ⟨rfl, rfl⟩ ⟨Nat.le_of_ble_eq_true rfl, Nat.le_of_ble_eq_true rfl⟩ ⟨Nat.le_refl _, Nat.le_refl _⟩ dX9_rests_92 (aw_ki fun r_4 I_5 J_6 h => ?_)
  refine aw_i2l dX9_rests_95 ?_
  refine aw_callV wv_X9_tell (M_X9_tell hG  h) ml_X9_185 rfl (by decide) (lk0 hG) rfl rfl (Nat.le_of_ble_eq_true rfl) ⟨rfl, rfl⟩ ⟨Nat.le_of_ble_eq_true rfl, Nat.le_of_ble_eq_true rfl⟩ ⟨Nat.le_refl _, Nat.le_refl _⟩ dX9_rests_96 (aw_kv fun I_8 J_9 h => ?_)
  refine aw_iconst (v := 0) dX9_rests_99 (by decide) ?_
  refine aw_istore (lv' := [(4, .int 0), (0, .ref (sz + 0)), (2, .int x2)]) dX9_rests_100 (by decide) rfl ?_
  refine aw_sub [1, 2, 0] rfl ?_
  obtain ⟨n_10, h⟩ := h
  exact tl_X9_rests_102 hG   n_10 x2 0 I_8 J_9 h
set_option maxRecDepth 20000 in
theorem t_X9_rests_59 {l : Launch} {D : va_G} {cy : Nat → ClassId} {sz : Nat} {G : sw_G} (hG : sw_lay G)   {Q : Int32 → sw_I → sw_J → Prop} {x2 : Int32} {x3 : Int32} {I : sw_I} {J : sw_J} (h : wB_X9_rests_59   Q x2 x3 I J) : AW l D cy sz RX9 cX9_rests 5 (some .int) false rm_X9_rests 0 0 (sw_qi G Q) 0 0 G I J 59 [(0, .ref (sz + 0)), (2, .int x2), (3, .int x3)] [] := by
  unfold wB_X9_rests_59 at h
  refine aw_aload_n 0 dX9_rests_59 rfl rfl ?_
  refine aw_callV wv_X9_clearRow (M_X9_clearRow hG  h) ml_X9_182 rfl (by decide) (lk0 hG) rfl rfl (Nat.le_of_ble_eq_true rfl) ⟨rfl, rfl⟩ ⟨Nat.le_of_ble_eq_true rfl, Nat.le_of_ble_eq_true rfl⟩ ⟨Nat.le_refl _, Nat.le_refl _⟩ dX9_rests_60 (aw_kv fun I_2 J_3 h => ?_)
  refine aw_aload_n 0 dX9_rests_63 rfl rfl ?_
  refine aw_iload_n 2 dX9_rests_64 rfl rfl ?_
  refine aw_zeq 72 dX9_rests_65 (by decide) (fun c_4 => ?_) (fun c_4 => ?_)
  · have h := sw_if.t h c_4
    refine aw_lconst (v := 0) dX9_rests_72 (by decide) ?_
    refine aw_sub [0, 1] rfl ?_
    exact t_X9_rests_73 hG   h
  · have h := sw_if.f h c_4
    refine aw_lconst (v := 1) dX9_rests_68 (by decide) ?_
    refine aw_goto 73 dX9_rests_69 (by decide) ?_
    refine aw_sub [0, 1] rfl ?_
    exact t_X9_rests_73 hG   h
set_option maxRecDepth 20000 in
theorem t_X9_rests_52 {l : Launch} {D : va_G} {cy : Nat → ClassId} {sz : Nat} {G : sw_G} (hG : sw_lay G)   {Q : Int32 → sw_I → sw_J → Prop} {K27 : Int32 → Int32 → Int32 → sw_I → sw_J → Prop} (hK27 : ∀ (x1 : Int32) (x2 : Int32) (x3 : Int32) (I : sw_I) (J : sw_J), K27 x1 x2 x3 I J → AW l D cy sz RX9 cX9_rests 5 (some .int) false rm_X9_rests 0 0 (sw_qi G Q) 0 0 G I J 27 [(0, .ref (sz + 0)), (1, .int x1), (2, .int x2), (3, .int x3)] []) {x1 : Int32} {x2 : Int32} {s0 : Int32} {I : sw_I} {J : sw_J} (h : wB_X9_rests_52  K27 Q x1 x2 s0 I J) : AW l D cy sz RX9 cX9_rests 5 (some .int) false rm_X9_rests 0 0 (sw_qi G Q) 0 0 G I J 52 [(0, .ref (sz + 0)), (1, .int x1), (2, .int x2)] [.int s0] := by
  unfold wB_X9_rests_52 at h
  refine aw_istore_n (lv' := [(3, .int s0), (0, .ref (sz + 0)), (1, .int x1), (2, .int x2)]) dX9_rests_52 rfl (by decide) rfl ?_
  obtain ⟨y_1, e_2⟩ : ∃ q : Int32, q = x2 + 1 := ⟨_, rfl⟩
  have h := h y_1 e_2
  refine aw_iinc (lv' := [(2, .int y_1), (3, .int s0), (0, .ref (sz + 0)), (1, .int x1)]) 3 dX9_rests_53 rfl (by rw [e_2]; rfl) (by decide) rfl ?_
  refine aw_goto 27 dX9_rests_56 (by decide) ?_
  refine aw_sub [2, 3, 0, 1] rfl ?_
  exact hK27 x1 y_1 s0 I J h
set_option maxRecDepth 20000 in
theorem tb_X9_rests_27 {l : Launch} {D : va_G} {cy : Nat → ClassId} {sz : Nat} {G : sw_G} (hG : sw_lay G)   {Q : Int32 → sw_I → sw_J → Prop} {K27 : Int32 → Int32 → Int32 → sw_I → sw_J → Prop} (hK27 : ∀ (x1 : Int32) (x2 : Int32) (x3 : Int32) (I : sw_I) (J : sw_J), K27 x1 x2 x3 I J → AW l D cy sz RX9 cX9_rests 5 (some .int) false rm_X9_rests 0 0 (sw_qi G Q) 0 0 G I J 27 [(0, .ref (sz + 0)), (1, .int x1), (2, .int x2), (3, .int x3)] []) {x1 : Int32} {x2 : Int32} {x3 : Int32} {I : sw_I} {J : sw_J} (h : wb_X9_rests_27  K27 Q x1 x2 x3 I J) : AW l D cy sz RX9 cX9_rests 5 (some .int) false rm_X9_rests 0 0 (sw_qi G Q) 0 0 G I J 27 [(0, .ref (sz + 0)), (1, .int x1), (2, .int x2), (3, .int x3)] [] := by
  unfold wb_X9_rests_27 at h
  refine aw_iload_n 2 dX9_rests_27 rfl rfl ?_
  refine aw_iload_n 1 dX9_rests_28 rfl rfl ?_
  refine aw_jge 59 dX9_rests_29 (by decide) (fun c_1 => ?_) (fun c_1 => ?_)
  · have h := sw_if.f h c_1
    refine aw_sub [0, 2, 3] rfl ?_
    exact t_X9_rests_59 hG   h
  · have h := sw_if.t h c_1
    refine aw_iload_n 3 dX9_rests_32 rfl rfl ?_
    refine aw_zne 59 dX9_rests_33 (by decide) (fun c_2 => ?_) (fun c_2 => ?_)
    · have h := sw_if.f h c_2
      refine aw_sub [0, 2, 3] rfl ?_
      exact t_X9_rests_59 hG   h
    · have h := sw_if.t h c_2
      refine aw_aload_n 0 dX9_rests_36 rfl rfl ?_
      refine aw_aload_n 0 dX9_rests_37 rfl rfl ?_
      refine gf_X9_3 fl_X9_30 (lk0 hG) (lr0_3 hG) dX9_rests_38 ?_
      refine aw_callV wv_X9_tellAnew (M_X9_tellAnew hG (lm17 hG) h) ml_X9_264 rfl (by decide) (lk0 hG) rfl rfl (Nat.le_of_ble_eq_true rfl) ⟨rfl, rfl⟩ ⟨Nat.le_of_ble_eq_true rfl, Nat.le_of_ble_eq_true rfl⟩ ⟨Nat.le_refl _, Nat.le_refl _⟩ dX9_rests_41 (aw_ki fun r_3 I_4 J_5 h => ?_)
      refine aw_zne 51 dX9_rests_44 (by decide) (fun c_6 => ?_) (fun c_6 => ?_)
      · have h := sw_if.f h c_6
        refine aw_iconst (v := 0) dX9_rests_51 (by decide) ?_
        refine aw_sub [0, 1, 2] rfl ?_
        exact t_X9_rests_52 hG  hK27 h
      · have h := sw_if.t h c_6
        refine aw_iconst (v := 1) dX9_rests_47 (by decide) ?_
        refine aw_goto 52 dX9_rests_48 (by decide) ?_
        refine aw_sub [0, 1, 2] rfl ?_
        exact t_X9_rests_52 hG  hK27 h
set_option maxRecDepth 20000 in
theorem tl_X9_rests_27 {l : Launch} {D : va_G} {cy : Nat → ClassId} {sz : Nat} {G : sw_G} (hG : sw_lay G)   {Q : Int32 → sw_I → sw_J → Prop} : ∀ (n : Nat) (x1 : Int32) (x2 : Int32) (x3 : Int32) (I : sw_I) (J : sw_J), wl_X9_rests_27   Q n x1 x2 x3 I J → AW l D cy sz RX9 cX9_rests 5 (some .int) false rm_X9_rests 0 0 (sw_qi G Q) 0 0 G I J 27 [(0, .ref (sz + 0)), (1, .int x1), (2, .int x2), (3, .int x3)] [] := by
  intro n
  induction n with
  | zero => intro x1 x2 x3 I J h; exact False.elim h
  | succ n ih => intro x1 x2 x3 I J h; exact tb_X9_rests_27 hG  ih h
set_option maxRecDepth 20000 in
theorem t_X9_rests {l : Launch} {D : va_G} {cy : Nat → ClassId} {sz : Nat} {G : sw_G} (hG : sw_lay G)   {Q : Int32 → sw_I → sw_J → Prop} {x1 : Int32} {I : sw_I} {J : sw_J} (h : wp_X9_rests x1 I J Q) : AW l D cy sz RX9 cX9_rests 5 (some .int) false rm_X9_rests 0 0 (sw_qi G Q) 0 0 G I J 0 [(0, .ref (sz + 0)), (1, .int x1)] [] := by
  unfold wp_X9_rests at h
  refine aw_iload_n 1 dX9_rests_0 rfl rfl ?_
  refine aw_zlt 10 dX9_rests_1 (by decide) (fun c_1 => ?_) (fun c_1 => ?_)
  · have h := sw_if.t h c_1
    refine aw_iconst (v := (-1)) dX9_rests_10 (by decide) ?_
    exact aw_iret rfl dX9_rests_11 ⟨rfl, _, rfl, h⟩
  · have h := sw_if.f h c_1
    refine aw_iload_n 1 dX9_rests_4 rfl rfl ?_
    refine aw_bipush (v := 30) dX9_rests_5 (by decide) ?_
    refine aw_jle 12 dX9_rests_7 (by decide) (fun c_2 => ?_) (fun c_2 => ?_)
    · have h := sw_if.f h c_2
      refine aw_aload_n 0 dX9_rests_12 rfl rfl ?_
      refine gf_X9_3 fl_X9_30 (lk0 hG) (lr0_3 hG) dX9_rests_13 ?_
      refine aw_aload_n 0 dX9_rests_16 rfl rfl ?_
      refine gf_X9_2 fl_X9_26 (lk0 hG) (lr0_2 hG) dX9_rests_17 ?_
      refine aw_callV wv_X3_copy (M_X3_copy hG (lm17 hG) (lm13 hG) h) ml_X9_254 rfl (by decide) (lk17 hG) rfl rfl (Nat.le_of_ble_eq_true rfl) ⟨rfl, rfl⟩ ⟨Nat.le_of_ble_eq_true rfl, Nat.le_of_ble_eq_true rfl⟩ ⟨Nat.le_refl _, Nat.le_refl _⟩ dX9_rests_20 (aw_kv fun I_4 J_5 h => ?_)
      refine aw_iconst (v := 0) dX9_rests_23 (by decide) ?_
      refine aw_istore_n (lv' := [(2, .int 0), (0, .ref (sz + 0)), (1, .int x1)]) dX9_rests_24 rfl (by decide) rfl ?_
      refine aw_iconst (v := 0) dX9_rests_25 (by decide) ?_
      refine aw_istore_n (lv' := [(3, .int 0), (2, .int 0), (0, .ref (sz + 0)), (1, .int x1)]) dX9_rests_26 rfl (by decide) rfl ?_
      refine aw_sub [2, 3, 1, 0] rfl ?_
      obtain ⟨n_6, h⟩ := h
      exact tl_X9_rests_27 hG   n_6 x1 0 0 I_4 J_5 h
    · have h := sw_if.t h c_2
      refine aw_iconst (v := (-1)) dX9_rests_10 (by decide) ?_
      exact aw_iret rfl dX9_rests_11 ⟨rfl, _, rfl, h⟩
theorem M_X9_rests {l : Launch} {D : va_G} {cy : Nat → ClassId} {sz : Nat} {G : sw_G} (hG : sw_lay G)   {Q : Int32 → sw_I → sw_J → Prop} {x1 : Int32} {I : sw_I} {J : sw_J} (h : wp_X9_rests x1 I J Q) : Met l yX9_rests (Cond.code yX9_rests cX9_rests 5 (some .int) :: sw_T) rm_X9_rests (sw_Pc D cy sz [.ref (sz + 0), .int x1] G I J) (sw_Q D cy sz (sw_qi G Q)) 0 0 (fun q => sz ≤ q) :=
  sw_met (by decide) (fun q => by cases q) (Nat.le_of_ble_eq_true rfl) rfl (t_X9_rests hG  h)
-- X9_hinders
abbrev rm_X9_hinders : Room := { frames := 5, cells := 0, slots := 0, locals := 122 }
def wB_X9_hinders_79  (K19 : Int32 → Int32 → Int32 → Int32 → sw_I → sw_J → Prop) (Q : Int32 → sw_I → sw_J → Prop) (x1 : Int32) (x2 : Int32) (x3 : Int32) (x4 : Int32) (I : sw_I) (J : sw_J) : Prop :=
  ∀ y_1 : Int32, y_1 = x4 + 1 → K19 x1 x2 x3 y_1 I J
def wb_X9_hinders_19  (K19 : Int32 → Int32 → Int32 → Int32 → sw_I → sw_J → Prop) (Q : Int32 → sw_I → sw_J → Prop) (x1 : Int32) (x2 : Int32) (x3 : Int32) (x4 : Int32) (I : sw_I) (J : sw_J) : Prop :=
  sw_if (x4 < (I 3 2)) (wp_X3_isIn 13 x4 I J (fun r_9 I_10 J_11 => sw_if (r_9 = 0) (wB_X9_hinders_79  K19 Q x1 x2 x3 x4 I_10 J_11) (wp_X9_comeHome ((I_10 13 3) &&& (((1 : Int32) <<< (x4 &&& 31)) ^^^ (-1 : Int32))) x1 I_10 J_11 (fun r_13 I_14 J_15 => wp_J6_bitCount_0f7a4 r_13 I_14 J_15 (fun r_16 I_17 J_18 => sw_if (x3 < r_16) (wB_X9_hinders_79  K19 Q x1 x4 r_16 x4 I_17 J_18) (wB_X9_hinders_79  K19 Q x1 x2 x3 x4 I_17 J_18)))))) (sw_if (x2 = (-1 : Int32)) (Q (-2 : Int32) I J) (wp_X9_clearRow  I J (fun I_4 J_5 => wp_X9_tell x3.toInt64 I_4 J_5 (fun I_7 J_8 => Q x2 I_7 J_8))))
def wl_X9_hinders_19   (Q : Int32 → sw_I → sw_J → Prop) : Nat → Int32 → Int32 → Int32 → Int32 → sw_I → sw_J → Prop
  | 0 => fun _ _ _ _ _ _ => False
  | n + 1 => fun x1 x2 x3 x4 I J => wb_X9_hinders_19  (wl_X9_hinders_19   Q n) Q x1 x2 x3 x4 I J
def wp_X9_hinders (x1 : Int32) (I : sw_I) (J : sw_J) (Q : Int32 → sw_I → sw_J → Prop) : Prop :=
  sw_if (x1 < 0) (Q (-1 : Int32) I J) (sw_if ((40 : Int32) < x1) (Q (-1 : Int32) I J) (∃ n_3 : Nat, wl_X9_hinders_19   Q n_3 x1 (-1) (-1) 0 I J))
set_option maxRecDepth 20000 in
theorem t_X9_hinders_79 {l : Launch} {D : va_G} {cy : Nat → ClassId} {sz : Nat} {G : sw_G} (hG : sw_lay G)   {Q : Int32 → sw_I → sw_J → Prop} {K19 : Int32 → Int32 → Int32 → Int32 → sw_I → sw_J → Prop} (hK19 : ∀ (x1 : Int32) (x2 : Int32) (x3 : Int32) (x4 : Int32) (I : sw_I) (J : sw_J), K19 x1 x2 x3 x4 I J → AW l D cy sz RX9 cX9_hinders 6 (some .int) false rm_X9_hinders 0 0 (sw_qi G Q) 0 0 G I J 19 [(0, .ref (sz + 0)), (1, .int x1), (2, .int x2), (3, .int x3), (4, .int x4)] []) {x1 : Int32} {x2 : Int32} {x3 : Int32} {x4 : Int32} {I : sw_I} {J : sw_J} (h : wB_X9_hinders_79  K19 Q x1 x2 x3 x4 I J) : AW l D cy sz RX9 cX9_hinders 6 (some .int) false rm_X9_hinders 0 0 (sw_qi G Q) 0 0 G I J 79 [(0, .ref (sz + 0)), (1, .int x1), (2, .int x2), (3, .int x3), (4, .int x4)] [] := by
  unfold wB_X9_hinders_79 at h
  obtain ⟨y_1, e_2⟩ : ∃ q : Int32, q = x4 + 1 := ⟨_, rfl⟩
  have h := h y_1 e_2
  refine aw_iinc (lv' := [(4, .int y_1), (0, .ref (sz + 0)), (1, .int x1), (2, .int x2), (3, .int x3)]) 4 dX9_hinders_79 rfl (by rw [e_2]; rfl) (by decide) rfl ?_
  refine aw_goto 19 dX9_hinders_82 (by decide) ?_
  refine aw_sub [1, 2, 3, 4, 0] rfl ?_
  exact hK19 x1 x2 x3 y_1 I J h
set_option maxRecDepth 20000 in
theorem tb_X9_hinders_19 {l : Launch} {D : va_G} {cy : Nat → ClassId} {sz : Nat} {G : sw_G} (hG : sw_lay G)   {Q : Int32 → sw_I → sw_J → Prop} {K19 : Int32 → Int32 → Int32 → Int32 → sw_I → sw_J → Prop} (hK19 : ∀ (x1 : Int32) (x2 : Int32) (x3 : Int32) (x4 : Int32) (I : sw_I) (J : sw_J), K19 x1 x2 x3 x4 I J → AW l D cy sz RX9 cX9_hinders 6 (some .int) false rm_X9_hinders 0 0 (sw_qi G Q) 0 0 G I J 19 [(0, .ref (sz + 0)), (1, .int x1), (2, .int x2), (3, .int x3), (4, .int x4)] []) {x1 : Int32} {x2 : Int32} {x3 : Int32} {x4 : Int32} {I : sw_I} {J : sw_J} (h : wb_X9_hinders_19  K19 Q x1 x2 x3 x4 I J) : AW l D cy sz RX9 cX9_hinders 6 (some .int) false rm_X9_hinders 0 0 (sw_qi G Q) 0 0 G I J 19 [(0, .ref (sz + 0)), (1, .int x1), (2, .int x2), (3, .int x3), (4, .int x4)] [] := by
  unfold wb_X9_hinders_19 at h
  refine aw_iload 4 dX9_hinders_19 rfl ?_
  refine aw_aload_n 0 dX9_hinders_21 rfl rfl ?_
  refine gf_X9_1 fl_X9_19 (lk0 hG) (lr0_1 hG) dX9_hinders_22 ?_
  refine gf_X1_2 fl_X9_144 (lk3 hG) dX9_hinders_25 ?_
  refine aw_jge 85 dX9_hinders_28 (by decide) (fun c_1 => ?_) (fun c_1 => ?_)
  · have h := sw_if.f h c_1
    refine aw_iload_n 2 dX9_hinders_85 rfl rfl ?_
    refine aw_iconst (v := (-1)) dX9_hinders_86 (by decide) ?_
    refine aw_jne 93 dX9_hinders_87 (by decide) (fun c_2 => ?_) (fun c_2 => ?_)
    · have h := sw_if.f h c_2
      refine aw_aload_n 0 dX9_hinders_93 rfl rfl ?_
      refine aw_callV wv_X9_clearRow (M_X9_clearRow hG  h) ml_X9_182 rfl (by decide) (lk0 hG) rfl rfl (Nat.le_of_ble_eq_true rfl) ⟨rfl, rfl⟩ ⟨Nat.le_of_ble_eq_true rfl, Nat.le_of_ble_eq_true rfl⟩ ⟨Nat.le_refl _, Nat.le_refl _⟩ dX9_hinders_94 (aw_kv fun I_4 J_5 h => ?_)
      refine aw_aload_n 0 dX9_hinders_97 rfl rfl ?_
      refine aw_iload_n 3 dX9_hinders_98 rfl rfl ?_
      refine aw_i2l dX9_hinders_99 ?_
      refine aw_callV wv_X9_tell (M_X9_tell hG  h) ml_X9_185 rfl (by decide) (lk0 hG) rfl rfl (Nat.le_of_ble_eq_true rfl) ⟨rfl, rfl⟩ ⟨Nat.le_of_ble_eq_true rfl, Nat.le_of_ble_eq_true rfl⟩ ⟨Nat.le_refl _, Nat.le_refl _⟩ dX9_hinders_100 (aw_kv fun I_7 J_8 h => ?_)
      refine aw_iload_n 2 dX9_hinders_103 rfl rfl ?_
      exact aw_iret rfl dX9_hinders_104 ⟨rfl, _, rfl, h⟩
    · have h := sw_if.t h c_2
      refine aw_bipush (v := (-2)) dX9_hinders_90 (by decide) ?_
      exact aw_iret rfl dX9_hinders_92 ⟨rfl, _, rfl, h⟩
  · have h := sw_if.t h c_1
    refine aw_aload_n 0 dX9_hinders_31 rfl rfl ?_
    refine gf_X9_2 fl_X9_26 (lk0 hG) (lr0_2 hG) dX9_hinders_32 ?_
    refine aw_iload 4 dX9_hinders_35 rfl ?_
    refine aw_callV wv_X3_isIn (M_X3_isIn trivial (lm13 hG) h) ml_X9_175 rfl (by decide) (lk13 hG) rfl rfl (Nat.le_of_ble_eq_true rfl) ⟨rfl, rfl⟩ ⟨Nat.le_of_ble_eq_true rfl, Nat.le_of_ble_eq_true rfl⟩ ⟨Nat.le_refl _, Nat.le_refl _⟩ dX9_hinders_37 (aw_ki fun r_9 I_10 J_11 h => ?_)
    refine aw_zeq 79 dX9_hinders_40 (by decide) (fun c_12 => ?_) (fun c_12 => ?_)
    · have h := sw_if.t h c_12
      refine aw_sub [0, 1, 2, 3, 4] rfl ?_
      exact t_X9_hinders_79 hG  hK19 h
    · have h := sw_if.f h c_12
      refine aw_aload_n 0 dX9_hinders_43 rfl rfl ?_
      refine aw_aload_n 0 dX9_hinders_44 rfl rfl ?_
      refine gf_X9_2 fl_X9_26 (lk0 hG) (lr0_2 hG) dX9_hinders_45 ?_
      refine gf_X3_3 fl_X9_132 (lk13 hG) dX9_hinders_48 ?_
      refine aw_iconst (v := 1) dX9_hinders_51 (by decide) ?_
      refine aw_iload 4 dX9_hinders_52 rfl ?_
      refine aw_ishl dX9_hinders_54 ?_
      refine aw_iconst (v := (-1)) dX9_hinders_55 (by decide) ?_
      refine aw_ixor dX9_hinders_56 ?_
      refine aw_iand dX9_hinders_57 ?_
      refine aw_iload_n 1 dX9_hinders_58 rfl rfl ?_
      refine aw_callV wv_X9_comeHome (M_X9_comeHome hG  h) ml_X9_276 rfl (by decide) (lk0 hG) rfl rfl (Nat.le_of_ble_eq_true rfl) ⟨rfl, rfl⟩ ⟨Nat.le_of_ble_eq_true rfl, Nat.le_of_ble_eq_true rfl⟩ ⟨Nat.le_refl _, Nat.le_refl _⟩ dX9_hinders_59 (aw_ki fun r_13 I_14 J_15 h => ?_)
      refine aw_callS wv_J6_bitCount_0f7a4 (M_J6_bitCount_0f7a4 trivial  h) ml_X9_267 rfl rfl (Nat.le_of_ble_eq_true rfl) ⟨rfl, rfl⟩ ⟨Nat.le_of_ble_eq_true rfl, Nat.le_of_ble_eq_true rfl⟩ ⟨Nat.le_refl _, Nat.le_refl _⟩ dX9_hinders_62 (aw_ki fun r_16 I_17 J_18 h => ?_)
      refine aw_istore (lv' := [(5, .int r_16), (0, .ref (sz + 0)), (1, .int x1), (2, .int x2), (3, .int x3), (4, .int x4)]) dX9_hinders_65 (by decide) rfl ?_
      refine aw_iload 0 dX9_hinders_67 rfl ?_
      refine aw_iload_n 4 dX9_hinders_69 rfl rfl ?_
      refine aw_jle 79 dX9_hinders_70 (by decide) (fun c_19 => ?_) (fun c_19 => ?_)
      · have h := sw_if.f h c_19
        refine aw_sub [1, 2, 3, 4, 5] rfl ?_
        exact t_X9_hinders_79 hG  hK19 h
      · have h := sw_if.t h c_19
        refine aw_iload 0 dX9_hinders_73 rfl ?_
        refine aw_istore_n (lv' := [(3, .int r_16), (5, .int r_16), (0, .ref (sz + 0)), (1, .int x1), (2, .int x2), (4, .int x4)]) dX9_hinders_75 rfl (by decide) rfl ?_
        refine aw_iload 5 dX9_hinders_76 rfl ?_
        refine aw_istore_n (lv' := [(2, .int x4), (3, .int r_16), (5, .int r_16), (0, .ref (sz + 0)), (1, .int x1), (4, .int x4)]) dX9_hinders_78 rfl (by decide) rfl ?_
        refine aw_sub [3, 4, 0, 1, 5] rfl ?_
        exact t_X9_hinders_79 hG  hK19 h
set_option maxRecDepth 20000 in
theorem tl_X9_hinders_19 {l : Launch} {D : va_G} {cy : Nat → ClassId} {sz : Nat} {G : sw_G} (hG : sw_lay G)   {Q : Int32 → sw_I → sw_J → Prop} : ∀ (n : Nat) (x1 : Int32) (x2 : Int32) (x3 : Int32) (x4 : Int32) (I : sw_I) (J : sw_J), wl_X9_hinders_19   Q n x1 x2 x3 x4 I J → AW l D cy sz RX9 cX9_hinders 6 (some .int) false rm_X9_hinders 0 0 (sw_qi G Q) 0 0 G I J 19 [(0, .ref (sz + 0)), (1, .int x1), (2, .int x2), (3, .int x3), (4, .int x4)] [] := by
  intro n
  induction n with
  | zero => intro x1 x2 x3 x4 I J h; exact False.elim h
  | succ n ih => intro x1 x2 x3 x4 I J h; exact tb_X9_hinders_19 hG  ih h
set_option maxRecDepth 20000 in
theorem t_X9_hinders {l : Launch} {D : va_G} {cy : Nat → ClassId} {sz : Nat} {G : sw_G} (hG : sw_lay G)   {Q : Int32 → sw_I → sw_J → Prop} {x1 : Int32} {I : sw_I} {J : sw_J} (h : wp_X9_hinders x1 I J Q) : AW l D cy sz RX9 cX9_hinders 6 (some .int) false rm_X9_hinders 0 0 (sw_qi G Q) 0 0 G I J 0 [(0, .ref (sz + 0)), (1, .int x1)] [] := by
  unfold wp_X9_hinders at h
  refine aw_iload_n 1 dX9_hinders_0 rfl rfl ?_
  refine aw_zlt 10 dX9_hinders_1 (by decide) (fun c_1 => ?_) (fun c_1 => ?_)
  · have h := sw_if.t h c_1
    refine aw_iconst (v := (-1)) dX9_hinders_10 (by decide) ?_
    exact aw_iret rfl dX9_hinders_11 ⟨rfl, _, rfl, h⟩
  · have h := sw_if.f h c_1
    refine aw_iload_n 1 dX9_hinders_4 rfl rfl ?_
    refine aw_bipush (v := 40) dX9_hinders_5 (by decide) ?_
    refine aw_jle 12 dX9_hinders_7 (by decide) (fun c_2 => ?_) (fun c_2 => ?_)
    · have h := sw_if.f h c_2
      refine aw_iconst (v := (-1)) dX9_hinders_12 (by decide) ?_
      refine aw_istore_n (lv' := [(2, .int (-1)), (0, .ref (sz + 0)), (1, .int x1)]) dX9_hinders_13 rfl (by decide) rfl ?_
      refine aw_iconst (v := (-1)) dX9_hinders_14 (by decide) ?_
      refine aw_istore_n (lv' := [(3, .int (-1)), (2, .int (-1)), (0, .ref (sz + 0)), (1, .int x1)]) dX9_hinders_15 rfl (by decide) rfl ?_
      refine aw_iconst (v := 0) dX9_hinders_16 (by decide) ?_
      refine aw_istore (lv' := [(4, .int 0), (3, .int (-1)), (2, .int (-1)), (0, .ref (sz + 0)), (1, .int x1)]) dX9_hinders_17 (by decide) rfl ?_
      refine aw_sub [3, 4, 2, 1, 0] rfl ?_
      obtain ⟨n_3, h⟩ := h
      exact tl_X9_hinders_19 hG   n_3 x1 (-1) (-1) 0 I J h
    · have h := sw_if.t h c_2
      refine aw_iconst (v := (-1)) dX9_hinders_10 (by decide) ?_
      exact aw_iret rfl dX9_hinders_11 ⟨rfl, _, rfl, h⟩
theorem M_X9_hinders {l : Launch} {D : va_G} {cy : Nat → ClassId} {sz : Nat} {G : sw_G} (hG : sw_lay G)   {Q : Int32 → sw_I → sw_J → Prop} {x1 : Int32} {I : sw_I} {J : sw_J} (h : wp_X9_hinders x1 I J Q) : Met l yX9_hinders (Cond.code yX9_hinders cX9_hinders 6 (some .int) :: sw_T) rm_X9_hinders (sw_Pc D cy sz [.ref (sz + 0), .int x1] G I J) (sw_Q D cy sz (sw_qi G Q)) 0 0 (fun q => sz ≤ q) :=
  sw_met (by decide) (fun q => by cases q) (Nat.le_of_ble_eq_true rfl) rfl (t_X9_hinders hG  h)
-- X9_lies
abbrev rm_X9_lies : Room := { frames := 6, cells := 0, slots := 0, locals := 151 }
def wB_X9_lies_79  (K56 : Int32 → Int32 → Int32 → sw_I → sw_J → Prop) (Q : Int32 → sw_I → sw_J → Prop) (x1 : Int32) (x2 : Int32) (x3 : Int32) (I : sw_I) (J : sw_J) : Prop :=
  ∀ y_1 : Int32, y_1 = x3 + 1 → K56 x1 x2 y_1 I J
def wb_X9_lies_56  (K49 : Int32 → Int32 → sw_I → sw_J → Prop) (K56 : Int32 → Int32 → Int32 → sw_I → sw_J → Prop) (Q : Int32 → sw_I → sw_J → Prop) (x1 : Int32) (x2 : Int32) (x3 : Int32) (I : sw_I) (J : sw_J) : Prop :=
  sw_if (x1 < x3) (∀ y_2 : Int32, y_2 = x2 + 1 → K49 x1 y_2 I J) (wp_J6_bitCount_0f7a4 x3 I J (fun r_4 I_5 J_6 => sw_if (r_4 = x2) (wp_X9_explainedBy x3 I_5 J_6 (fun r_8 I_9 J_10 => sw_if (r_8 = 0) (wB_X9_lies_79  K56 Q x1 x2 x3 I_9 J_10) (Q x2 I_9 J_10))) (wB_X9_lies_79  K56 Q x1 x2 x3 I_5 J_6)))
def wl_X9_lies_56  (K49 : Int32 → Int32 → sw_I → sw_J → Prop) (Q : Int32 → sw_I → sw_J → Prop) : Nat → Int32 → Int32 → Int32 → sw_I → sw_J → Prop
  | 0 => fun _ _ _ _ _ => False
  | n + 1 => fun x1 x2 x3 I J => wb_X9_lies_56  K49 (wl_X9_lies_56  K49 Q n) Q x1 x2 x3 I J
def wb_X9_lies_49  (K49 : Int32 → Int32 → sw_I → sw_J → Prop) (Q : Int32 → sw_I → sw_J → Prop) (x1 : Int32) (x2 : Int32) (I : sw_I) (J : sw_J) : Prop :=
  sw_if ((2 : Int32) < x2) (Q (-2 : Int32) I J) (∃ n_2 : Nat, wl_X9_lies_56  K49 Q n_2 x1 x2 1 I J)
def wl_X9_lies_49   (Q : Int32 → sw_I → sw_J → Prop) : Nat → Int32 → Int32 → sw_I → sw_J → Prop
  | 0 => fun _ _ _ _ => False
  | n + 1 => fun x1 x2 I J => wb_X9_lies_49  (wl_X9_lies_49   Q n) Q x1 x2 I J
def wp_X9_lies  (I : sw_I) (J : sw_J) (Q : Int32 → sw_I → sw_J → Prop) : Prop :=
  wp_X7_believe 15 10 I J (fun I_2 J_3 => wp_X7_allSo  I_2 J_3 (fun r_4 I_5 J_6 => sw_if (r_4 = 0) (wp_X1_everybody  I_5 J_6 (fun r_8 I_9 J_10 => ∃ n_11 : Nat, wl_X9_lies_49   Q n_11 r_8 1 I_9 J_10)) (wp_X9_clearRow  I_5 J_6 (fun I_13 J_14 => wp_X9_tell 0 I_13 J_14 (fun I_16 J_17 => Q (0 : Int32) I_16 J_17)))))
set_option maxRecDepth 20000 in
theorem t_X9_lies_79 {l : Launch} {D : va_G} {cy : Nat → ClassId} {sz : Nat} {G : sw_G} (hG : sw_lay G)   {Q : Int32 → sw_I → sw_J → Prop} {K56 : Int32 → Int32 → Int32 → sw_I → sw_J → Prop} (hK56 : ∀ (x1 : Int32) (x2 : Int32) (x3 : Int32) (I : sw_I) (J : sw_J), K56 x1 x2 x3 I J → AW l D cy sz RX9 cX9_lies 4 (some .int) false rm_X9_lies 0 0 (sw_qi G Q) 0 0 G I J 56 [(0, .ref (sz + 0)), (1, .int x1), (2, .int x2), (3, .int x3)] []) {x1 : Int32} {x2 : Int32} {x3 : Int32} {I : sw_I} {J : sw_J} (h : wB_X9_lies_79  K56 Q x1 x2 x3 I J) : AW l D cy sz RX9 cX9_lies 4 (some .int) false rm_X9_lies 0 0 (sw_qi G Q) 0 0 G I J 79 [(0, .ref (sz + 0)), (1, .int x1), (2, .int x2), (3, .int x3)] [] := by
  unfold wB_X9_lies_79 at h
  obtain ⟨y_1, e_2⟩ : ∃ q : Int32, q = x3 + 1 := ⟨_, rfl⟩
  have h := h y_1 e_2
  refine aw_iinc (lv' := [(3, .int y_1), (0, .ref (sz + 0)), (1, .int x1), (2, .int x2)]) 3 dX9_lies_79 rfl (by rw [e_2]; rfl) (by decide) rfl ?_
  refine aw_goto 56 dX9_lies_82 (by decide) ?_
  refine aw_sub [1, 2, 3, 0] rfl ?_
  exact hK56 x1 x2 y_1 I J h
set_option maxRecDepth 20000 in
theorem tb_X9_lies_56 {l : Launch} {D : va_G} {cy : Nat → ClassId} {sz : Nat} {G : sw_G} (hG : sw_lay G)   {Q : Int32 → sw_I → sw_J → Prop} {K49 : Int32 → Int32 → sw_I → sw_J → Prop} (hK49 : ∀ (x1 : Int32) (x2 : Int32) (I : sw_I) (J : sw_J), K49 x1 x2 I J → AW l D cy sz RX9 cX9_lies 4 (some .int) false rm_X9_lies 0 0 (sw_qi G Q) 0 0 G I J 49 [(0, .ref (sz + 0)), (1, .int x1), (2, .int x2)] []) {K56 : Int32 → Int32 → Int32 → sw_I → sw_J → Prop} (hK56 : ∀ (x1 : Int32) (x2 : Int32) (x3 : Int32) (I : sw_I) (J : sw_J), K56 x1 x2 x3 I J → AW l D cy sz RX9 cX9_lies 4 (some .int) false rm_X9_lies 0 0 (sw_qi G Q) 0 0 G I J 56 [(0, .ref (sz + 0)), (1, .int x1), (2, .int x2), (3, .int x3)] []) {x1 : Int32} {x2 : Int32} {x3 : Int32} {I : sw_I} {J : sw_J} (h : wb_X9_lies_56  K49 K56 Q x1 x2 x3 I J) : AW l D cy sz RX9 cX9_lies 4 (some .int) false rm_X9_lies 0 0 (sw_qi G Q) 0 0 G I J 56 [(0, .ref (sz + 0)), (1, .int x1), (2, .int x2), (3, .int x3)] [] := by
  unfold wb_X9_lies_56 at h
  refine aw_iload_n 3 dX9_lies_56 rfl rfl ?_
  refine aw_iload_n 1 dX9_lies_57 rfl rfl ?_
  refine aw_jgt 85 dX9_lies_58 (by decide) (fun c_1 => ?_) (fun c_1 => ?_)
  · have h := sw_if.t h c_1
    obtain ⟨y_2, e_3⟩ : ∃ q : Int32, q = x2 + 1 := ⟨_, rfl⟩
    have h := h y_2 e_3
    refine aw_iinc (lv' := [(2, .int y_2), (0, .ref (sz + 0)), (1, .int x1), (3, .int x3)]) 2 dX9_lies_85 rfl (by rw [e_3]; rfl) (by decide) rfl ?_
    refine aw_goto 49 dX9_lies_88 (by decide) ?_
    refine aw_sub [1, 2, 0] rfl ?_
    exact hK49 x1 y_2 I J h
  · have h := sw_if.f h c_1
    refine aw_iload_n 3 dX9_lies_61 rfl rfl ?_
    refine aw_callS wv_J6_bitCount_0f7a4 (M_J6_bitCount_0f7a4 trivial  h) ml_X9_267 rfl rfl (Nat.le_of_ble_eq_true rfl) ⟨rfl, rfl⟩ ⟨Nat.le_of_ble_eq_true rfl, Nat.le_of_ble_eq_true rfl⟩ ⟨Nat.le_refl _, Nat.le_refl _⟩ dX9_lies_62 (aw_ki fun r_4 I_5 J_6 h => ?_)
    refine aw_iload_n 2 dX9_lies_65 rfl rfl ?_
    refine aw_jne 79 dX9_lies_66 (by decide) (fun c_7 => ?_) (fun c_7 => ?_)
    · have h := sw_if.f h c_7
      refine aw_sub [0, 1, 2, 3] rfl ?_
      exact t_X9_lies_79 hG  hK56 h
    · have h := sw_if.t h c_7
      refine aw_aload_n 0 dX9_lies_69 rfl rfl ?_
      refine aw_iload_n 3 dX9_lies_70 rfl rfl ?_
      refine aw_callV wv_X9_explainedBy (M_X9_explainedBy hG  h) ml_X9_336 rfl (by decide) (lk0 hG) rfl rfl (Nat.le_of_ble_eq_true rfl) ⟨rfl, rfl⟩ ⟨Nat.le_of_ble_eq_true rfl, Nat.le_of_ble_eq_true rfl⟩ ⟨Nat.le_refl _, Nat.le_refl _⟩ dX9_lies_71 (aw_ki fun r_8 I_9 J_10 h => ?_)
      refine aw_zeq 79 dX9_lies_74 (by decide) (fun c_11 => ?_) (fun c_11 => ?_)
      · have h := sw_if.t h c_11
        refine aw_sub [0, 1, 2, 3] rfl ?_
        exact t_X9_lies_79 hG  hK56 h
      · have h := sw_if.f h c_11
        refine aw_iload_n 2 dX9_lies_77 rfl rfl ?_
        exact aw_iret rfl dX9_lies_78 ⟨rfl, _, rfl, h⟩
set_option maxRecDepth 20000 in
theorem tl_X9_lies_56 {l : Launch} {D : va_G} {cy : Nat → ClassId} {sz : Nat} {G : sw_G} (hG : sw_lay G)   {Q : Int32 → sw_I → sw_J → Prop} {K49 : Int32 → Int32 → sw_I → sw_J → Prop} (hK49 : ∀ (x1 : Int32) (x2 : Int32) (I : sw_I) (J : sw_J), K49 x1 x2 I J → AW l D cy sz RX9 cX9_lies 4 (some .int) false rm_X9_lies 0 0 (sw_qi G Q) 0 0 G I J 49 [(0, .ref (sz + 0)), (1, .int x1), (2, .int x2)] []) : ∀ (n : Nat) (x1 : Int32) (x2 : Int32) (x3 : Int32) (I : sw_I) (J : sw_J), wl_X9_lies_56  K49 Q n x1 x2 x3 I J → AW l D cy sz RX9 cX9_lies 4 (some .int) false rm_X9_lies 0 0 (sw_qi G Q) 0 0 G I J 56 [(0, .ref (sz + 0)), (1, .int x1), (2, .int x2), (3, .int x3)] [] := by
  intro n
  induction n with
  | zero => intro x1 x2 x3 I J h; exact False.elim h
  | succ n ih => intro x1 x2 x3 I J h; exact tb_X9_lies_56 hG  hK49 ih h
set_option maxRecDepth 20000 in
theorem tb_X9_lies_49 {l : Launch} {D : va_G} {cy : Nat → ClassId} {sz : Nat} {G : sw_G} (hG : sw_lay G)   {Q : Int32 → sw_I → sw_J → Prop} {K49 : Int32 → Int32 → sw_I → sw_J → Prop} (hK49 : ∀ (x1 : Int32) (x2 : Int32) (I : sw_I) (J : sw_J), K49 x1 x2 I J → AW l D cy sz RX9 cX9_lies 4 (some .int) false rm_X9_lies 0 0 (sw_qi G Q) 0 0 G I J 49 [(0, .ref (sz + 0)), (1, .int x1), (2, .int x2)] []) {x1 : Int32} {x2 : Int32} {I : sw_I} {J : sw_J} (h : wb_X9_lies_49  K49 Q x1 x2 I J) : AW l D cy sz RX9 cX9_lies 4 (some .int) false rm_X9_lies 0 0 (sw_qi G Q) 0 0 G I J 49 [(0, .ref (sz + 0)), (1, .int x1), (2, .int x2)] [] := by
  unfold wb_X9_lies_49 at h
  refine aw_iload_n 2 dX9_lies_49 rfl rfl ?_
  refine aw_iconst (v := 2) dX9_lies_50 (by decide) ?_
  refine aw_jgt 91 dX9_lies_51 (by decide) (fun c_1 => ?_) (fun c_1 => ?_)
  · have h := sw_if.t h c_1
    refine aw_bipush (v := (-2)) dX9_lies_91 (by decide) ?_
    exact aw_iret rfl dX9_lies_93 ⟨rfl, _, rfl, h⟩
  · have h := sw_if.f h c_1
    refine aw_iconst (v := 1) dX9_lies_54 (by decide) ?_
    refine aw_istore_n (lv' := [(3, .int 1), (0, .ref (sz + 0)), (1, .int x1), (2, .int x2)]) dX9_lies_55 rfl (by decide) rfl ?_
    refine aw_sub [1, 2, 3, 0] rfl ?_
    obtain ⟨n_2, h⟩ := h
    exact tl_X9_lies_56 hG  hK49 n_2 x1 x2 1 I J h
set_option maxRecDepth 20000 in
theorem tl_X9_lies_49 {l : Launch} {D : va_G} {cy : Nat → ClassId} {sz : Nat} {G : sw_G} (hG : sw_lay G)   {Q : Int32 → sw_I → sw_J → Prop} : ∀ (n : Nat) (x1 : Int32) (x2 : Int32) (I : sw_I) (J : sw_J), wl_X9_lies_49   Q n x1 x2 I J → AW l D cy sz RX9 cX9_lies 4 (some .int) false rm_X9_lies 0 0 (sw_qi G Q) 0 0 G I J 49 [(0, .ref (sz + 0)), (1, .int x1), (2, .int x2)] [] := by
  intro n
  induction n with
  | zero => intro x1 x2 I J h; exact False.elim h
  | succ n ih => intro x1 x2 I J h; exact tb_X9_lies_49 hG  ih h
set_option maxRecDepth 20000 in
theorem t_X9_lies {l : Launch} {D : va_G} {cy : Nat → ClassId} {sz : Nat} {G : sw_G} (hG : sw_lay G)   {Q : Int32 → sw_I → sw_J → Prop}  {I : sw_I} {J : sw_J} (h : wp_X9_lies  I J Q) : AW l D cy sz RX9 cX9_lies 4 (some .int) false rm_X9_lies 0 0 (sw_qi G Q) 0 0 G I J 0 [(0, .ref (sz + 0))] [] := by
  unfold wp_X9_lies at h
  refine aw_aload_n 0 dX9_lies_0 rfl rfl ?_
  refine gf_X9_7 fl_X9_51 (lk0 hG) (lr0_7 hG) dX9_lies_1 ?_
  refine aw_aload_n 0 dX9_lies_4 rfl rfl ?_
  refine gf_X9_2 fl_X9_26 (lk0 hG) (lr0_2 hG) dX9_lies_5 ?_
  refine gf_X3_1 fl_X9_123 (lk13 hG) (lr13_1 hG) dX9_lies_8 ?_
  refine aw_callV wv_X7_believe (M_X7_believe hG ⟨(lk15 hG), (ln15 hG)⟩ h) ml_X9_320 rfl (by decide) (lk109 hG) rfl rfl (Nat.le_of_ble_eq_true rfl) ⟨rfl, rfl⟩ ⟨Nat.le_of_ble_eq_true rfl, Nat.le_of_ble_eq_true rfl⟩ ⟨Nat.le_refl _, Nat.le_refl _⟩ dX9_lies_11 (aw_kv fun I_2 J_3 h => ?_)
  refine aw_aload_n 0 dX9_lies_14 rfl rfl ?_
  refine gf_X9_7 fl_X9_51 (lk0 hG) (lr0_7 hG) dX9_lies_15 ?_
  refine aw_aload_n 0 dX9_lies_18 rfl rfl ?_
  refine gf_X9_1 fl_X9_19 (lk0 hG) (lr0_1 hG) dX9_lies_19 ?_
  refine aw_callV wv_X7_allSo (M_X7_allSo hG  h) ml_X9_332 rfl (by decide) (lk109 hG) rfl rfl (Nat.le_of_ble_eq_true rfl) ⟨rfl, rfl⟩ ⟨Nat.le_of_ble_eq_true rfl, Nat.le_of_ble_eq_true rfl⟩ ⟨Nat.le_refl _, Nat.le_refl _⟩ dX9_lies_22 (aw_ki fun r_4 I_5 J_6 h => ?_)
  refine aw_zeq 39 dX9_lies_25 (by decide) (fun c_7 => ?_) (fun c_7 => ?_)
  · have h := sw_if.t h c_7
    refine aw_aload_n 0 dX9_lies_39 rfl rfl ?_
    refine gf_X9_1 fl_X9_19 (lk0 hG) (lr0_1 hG) dX9_lies_40 ?_
    refine aw_callV wv_X1_everybody (M_X1_everybody hG  h) ml_X9_279 rfl (by decide) (lk3 hG) rfl rfl (Nat.le_of_ble_eq_true rfl) ⟨rfl, rfl⟩ ⟨Nat.le_of_ble_eq_true rfl, Nat.le_of_ble_eq_true rfl⟩ ⟨Nat.le_refl _, Nat.le_refl _⟩ dX9_lies_43 (aw_ki fun r_8 I_9 J_10 h => ?_)
    refine aw_istore_n (lv' := [(1, .int r_8), (0, .ref (sz + 0))]) dX9_lies_46 rfl (by decide) rfl ?_
    refine aw_iconst (v := 1) dX9_lies_47 (by decide) ?_
    refine aw_istore_n (lv' := [(2, .int 1), (1, .int r_8), (0, .ref (sz + 0))]) dX9_lies_48 rfl (by decide) rfl ?_
    refine aw_sub [2, 1, 0] rfl ?_
    obtain ⟨n_11, h⟩ := h
    exact tl_X9_lies_49 hG   n_11 r_8 1 I_9 J_10 h
  · have h := sw_if.f h c_7
    refine aw_aload_n 0 dX9_lies_28 rfl rfl ?_
    refine aw_callV wv_X9_clearRow (M_X9_clearRow hG  h) ml_X9_182 rfl (by decide) (lk0 hG) rfl rfl (Nat.le_of_ble_eq_true rfl) ⟨rfl, rfl⟩ ⟨Nat.le_of_ble_eq_true rfl, Nat.le_of_ble_eq_true rfl⟩ ⟨Nat.le_refl _, Nat.le_refl _⟩ dX9_lies_29 (aw_kv fun I_13 J_14 h => ?_)
    refine aw_aload_n 0 dX9_lies_32 rfl rfl ?_
    refine aw_lconst (v := 0) dX9_lies_33 (by decide) ?_
    refine aw_callV wv_X9_tell (M_X9_tell hG  h) ml_X9_185 rfl (by decide) (lk0 hG) rfl rfl (Nat.le_of_ble_eq_true rfl) ⟨rfl, rfl⟩ ⟨Nat.le_of_ble_eq_true rfl, Nat.le_of_ble_eq_true rfl⟩ ⟨Nat.le_refl _, Nat.le_refl _⟩ dX9_lies_34 (aw_kv fun I_16 J_17 h => ?_)
    refine aw_iconst (v := 0) dX9_lies_37 (by decide) ?_
    exact aw_iret rfl dX9_lies_38 ⟨rfl, _, rfl, h⟩
theorem M_X9_lies {l : Launch} {D : va_G} {cy : Nat → ClassId} {sz : Nat} {G : sw_G} (hG : sw_lay G)   {Q : Int32 → sw_I → sw_J → Prop}  {I : sw_I} {J : sw_J} (h : wp_X9_lies  I J Q) : Met l yX9_lies (Cond.code yX9_lies cX9_lies 4 (some .int) :: sw_T) rm_X9_lies (sw_Pc D cy sz [.ref (sz + 0)] G I J) (sw_Q D cy sz (sw_qi G Q)) 0 0 (fun q => sz ≤ q) :=
  sw_met (by decide) (fun q => by cases q) (Nat.le_of_ble_eq_true rfl) rfl (t_X9_lies hG  h)
-- X9_odds
abbrev rm_X9_odds : Room := { frames := 4, cells := 0, slots := 0, locals := 101 }
def wp_X9_odds (x1 : Int32) (I : sw_I) (J : sw_J) (Q : Int32 → sw_I → sw_J → Prop) : Prop :=
  wp_X1_hasFloor x1 I J (fun r_1 I_2 J_3 => sw_if (r_1 = 0) (Q (-1 : Int32) I_2 J_3) (wp_X9_weighStops  I_2 J_3 (fun r_5 I_6 J_7 => wp_X9_clearRow  I_6 J_7 (fun I_9 J_10 => vp_in x1 9 ∧ wp_X9_tellFraction (J_10 117 x1.toNatClampNeg) r_5 I_9 J_10 (fun I_13 J_14 => Q (0 : Int32) I_13 J_14)))))
set_option maxRecDepth 20000 in
theorem t_X9_odds {l : Launch} {D : va_G} {cy : Nat → ClassId} {sz : Nat} {G : sw_G} (hG : sw_lay G)   {Q : Int32 → sw_I → sw_J → Prop} {x1 : Int32} {I : sw_I} {J : sw_J} (h : wp_X9_odds x1 I J Q) : AW l D cy sz RX9 cX9_odds 4 (some .int) false rm_X9_odds 0 0 (sw_qi G Q) 0 0 G I J 0 [(0, .ref (sz + 0)), (1, .int x1)] [] := by
  unfold wp_X9_odds at h
  refine aw_aload_n 0 dX9_odds_0 rfl rfl ?_
  refine gf_X9_1 fl_X9_19 (lk0 hG) (lr0_1 hG) dX9_odds_1 ?_
  refine aw_iload_n 1 dX9_odds_4 rfl rfl ?_
  refine aw_callV wv_X1_hasFloor (M_X1_hasFloor hG  h) ml_X9_138 rfl (by decide) (lk3 hG) rfl rfl (Nat.le_of_ble_eq_true rfl) ⟨rfl, rfl⟩ ⟨Nat.le_of_ble_eq_true rfl, Nat.le_of_ble_eq_true rfl⟩ ⟨Nat.le_refl _, Nat.le_refl _⟩ dX9_odds_5 (aw_ki fun r_1 I_2 J_3 h => ?_)
  refine aw_zne 13 dX9_odds_8 (by decide) (fun c_4 => ?_) (fun c_4 => ?_)
  · have h := sw_if.f h c_4
    refine aw_aload_n 0 dX9_odds_13 rfl rfl ?_
    refine aw_callV wv_X9_weighStops (M_X9_weighStops hG  h) ml_X9_342 rfl (by decide) (lk0 hG) rfl rfl (Nat.le_of_ble_eq_true rfl) ⟨rfl, rfl⟩ ⟨Nat.le_of_ble_eq_true rfl, Nat.le_of_ble_eq_true rfl⟩ ⟨Nat.le_refl _, Nat.le_refl _⟩ dX9_odds_14 (aw_kl fun r_5 I_6 J_7 h => ?_)
    refine aw_lstore_n (lv' := [(2, .long r_5), (0, .ref (sz + 0)), (1, .int x1)]) dX9_odds_17 rfl (by decide) rfl ?_
    refine aw_aload_n 1 dX9_odds_18 rfl rfl ?_
    refine aw_callV wv_X9_clearRow (M_X9_clearRow hG  h) ml_X9_182 rfl (by decide) (lk0 hG) rfl rfl (Nat.le_of_ble_eq_true rfl) ⟨rfl, rfl⟩ ⟨Nat.le_of_ble_eq_true rfl, Nat.le_of_ble_eq_true rfl⟩ ⟨Nat.le_refl _, Nat.le_refl _⟩ dX9_odds_19 (aw_kv fun I_9 J_10 h => ?_)
    refine aw_aload_n 1 dX9_odds_22 rfl rfl ?_
    refine aw_aload_n 1 dX9_odds_23 rfl rfl ?_
    refine gf_X9_8 fl_X9_55 (lk0 hG) (lr0_8 hG) dX9_odds_24 ?_
    refine aw_iload_n 2 dX9_odds_27 rfl rfl ?_
    obtain ⟨hi_11, h⟩ := h
    refine aw_lld dX9_odds_28 (lk117 hG) (ln117 hG) hi_11 ?_
    refine aw_lload_n 0 dX9_odds_29 rfl rfl ?_
    refine aw_callV wv_X9_tellFraction (M_X9_tellFraction hG  h) ml_X9_346 rfl (by decide) (lk0 hG) rfl rfl (Nat.le_of_ble_eq_true rfl) ⟨rfl, rfl⟩ ⟨Nat.le_of_ble_eq_true rfl, Nat.le_of_ble_eq_true rfl⟩ ⟨Nat.le_refl _, Nat.le_refl _⟩ dX9_odds_30 (aw_kv fun I_13 J_14 h => ?_)
    refine aw_iconst (v := 0) dX9_odds_33 (by decide) ?_
    exact aw_iret rfl dX9_odds_34 ⟨rfl, _, rfl, h⟩
  · have h := sw_if.t h c_4
    refine aw_iconst (v := (-1)) dX9_odds_11 (by decide) ?_
    exact aw_iret rfl dX9_odds_12 ⟨rfl, _, rfl, h⟩
theorem M_X9_odds {l : Launch} {D : va_G} {cy : Nat → ClassId} {sz : Nat} {G : sw_G} (hG : sw_lay G)   {Q : Int32 → sw_I → sw_J → Prop} {x1 : Int32} {I : sw_I} {J : sw_J} (h : wp_X9_odds x1 I J Q) : Met l yX9_odds (Cond.code yX9_odds cX9_odds 4 (some .int) :: sw_T) rm_X9_odds (sw_Pc D cy sz [.ref (sz + 0), .int x1] G I J) (sw_Q D cy sz (sw_qi G Q)) 0 0 (fun q => sz ≤ q) :=
  sw_met (by decide) (fun q => by cases q) (Nat.le_of_ble_eq_true rfl) rfl (t_X9_odds hG  h)
-- X9_likely
abbrev rm_X9_likely : Room := { frames := 4, cells := 0, slots := 0, locals := 101 }
def wB_X9_likely_42  (K10 : Int64 → Int32 → Int32 → sw_I → sw_J → Prop) (Q : Int32 → sw_I → sw_J → Prop) (w1 : Int64) (x3 : Int32) (x4 : Int32) (I : sw_I) (J : sw_J) : Prop :=
  ∀ y_1 : Int32, y_1 = x4 + 1 → K10 w1 x3 y_1 I J
def wb_X9_likely_10  (K10 : Int64 → Int32 → Int32 → sw_I → sw_J → Prop) (Q : Int32 → sw_I → sw_J → Prop) (w1 : Int64) (x3 : Int32) (x4 : Int32) (I : sw_I) (J : sw_J) : Prop :=
  sw_if (x4 < (I 3 0)) (vp_in x4 9 ∧ vp_in x3 9 ∧ sw_if (0 < (lg_cmp (J 117 x4.toNatClampNeg) (J 117 x3.toNatClampNeg))) (wB_X9_likely_42  K10 Q w1 x4 x4 I J) (wB_X9_likely_42  K10 Q w1 x3 x4 I J)) (wp_X9_clearRow  I J (fun I_3 J_4 => vp_in x3 9 ∧ wp_X9_tellFraction (J_4 117 x3.toNatClampNeg) w1 I_3 J_4 (fun I_7 J_8 => Q x3 I_7 J_8)))
def wl_X9_likely_10   (Q : Int32 → sw_I → sw_J → Prop) : Nat → Int64 → Int32 → Int32 → sw_I → sw_J → Prop
  | 0 => fun _ _ _ _ _ => False
  | n + 1 => fun w1 x3 x4 I J => wb_X9_likely_10  (wl_X9_likely_10   Q n) Q w1 x3 x4 I J
def wp_X9_likely  (I : sw_I) (J : sw_J) (Q : Int32 → sw_I → sw_J → Prop) : Prop :=
  wp_X9_weighStops  I J (fun r_1 I_2 J_3 => ∃ n_4 : Nat, wl_X9_likely_10   Q n_4 r_1 0 1 I_2 J_3)
set_option maxRecDepth 20000 in
theorem t_X9_likely_42 {l : Launch} {D : va_G} {cy : Nat → ClassId} {sz : Nat} {G : sw_G} (hG : sw_lay G)   {Q : Int32 → sw_I → sw_J → Prop} {K10 : Int64 → Int32 → Int32 → sw_I → sw_J → Prop} (hK10 : ∀ (w1 : Int64) (x3 : Int32) (x4 : Int32) (I : sw_I) (J : sw_J), K10 w1 x3 x4 I J → AW l D cy sz RX9 cX9_likely 5 (some .int) false rm_X9_likely 0 0 (sw_qi G Q) 0 0 G I J 10 [(0, .ref (sz + 0)), (1, .long w1), (3, .int x3), (4, .int x4)] []) {w1 : Int64} {x3 : Int32} {x4 : Int32} {I : sw_I} {J : sw_J} (h : wB_X9_likely_42  K10 Q w1 x3 x4 I J) : AW l D cy sz RX9 cX9_likely 5 (some .int) false rm_X9_likely 0 0 (sw_qi G Q) 0 0 G I J 42 [(0, .ref (sz + 0)), (1, .long w1), (3, .int x3), (4, .int x4)] [] := by
  unfold wB_X9_likely_42 at h
  obtain ⟨y_1, e_2⟩ : ∃ q : Int32, q = x4 + 1 := ⟨_, rfl⟩
  have h := h y_1 e_2
  refine aw_iinc (lv' := [(4, .int y_1), (0, .ref (sz + 0)), (1, .long w1), (3, .int x3)]) 3 dX9_likely_42 rfl (by rw [e_2]; rfl) (by decide) rfl ?_
  refine aw_goto 10 dX9_likely_45 (by decide) ?_
  refine aw_sub [1, 2, 3, 0] rfl ?_
  exact hK10 w1 x3 y_1 I J h
set_option maxRecDepth 20000 in
theorem tb_X9_likely_10 {l : Launch} {D : va_G} {cy : Nat → ClassId} {sz : Nat} {G : sw_G} (hG : sw_lay G)   {Q : Int32 → sw_I → sw_J → Prop} {K10 : Int64 → Int32 → Int32 → sw_I → sw_J → Prop} (hK10 : ∀ (w1 : Int64) (x3 : Int32) (x4 : Int32) (I : sw_I) (J : sw_J), K10 w1 x3 x4 I J → AW l D cy sz RX9 cX9_likely 5 (some .int) false rm_X9_likely 0 0 (sw_qi G Q) 0 0 G I J 10 [(0, .ref (sz + 0)), (1, .long w1), (3, .int x3), (4, .int x4)] []) {w1 : Int64} {x3 : Int32} {x4 : Int32} {I : sw_I} {J : sw_J} (h : wb_X9_likely_10  K10 Q w1 x3 x4 I J) : AW l D cy sz RX9 cX9_likely 5 (some .int) false rm_X9_likely 0 0 (sw_qi G Q) 0 0 G I J 10 [(0, .ref (sz + 0)), (1, .long w1), (3, .int x3), (4, .int x4)] [] := by
  unfold wb_X9_likely_10 at h
  refine aw_iload 3 dX9_likely_10 rfl ?_
  refine aw_aload_n 0 dX9_likely_12 rfl rfl ?_
  refine gf_X9_1 fl_X9_19 (lk0 hG) (lr0_1 hG) dX9_likely_13 ?_
  refine gf_X1_0 fl_X9_224 (lk3 hG) dX9_likely_16 ?_
  refine aw_jge 48 dX9_likely_19 (by decide) (fun c_1 => ?_) (fun c_1 => ?_)
  · have h := sw_if.f h c_1
    refine aw_aload_n 0 dX9_likely_48 rfl rfl ?_
    refine aw_callV wv_X9_clearRow (M_X9_clearRow hG  h) ml_X9_182 rfl (by decide) (lk0 hG) rfl rfl (Nat.le_of_ble_eq_true rfl) ⟨rfl, rfl⟩ ⟨Nat.le_of_ble_eq_true rfl, Nat.le_of_ble_eq_true rfl⟩ ⟨Nat.le_refl _, Nat.le_refl _⟩ dX9_likely_49 (aw_kv fun I_3 J_4 h => ?_)
    refine aw_aload_n 0 dX9_likely_52 rfl rfl ?_
    refine aw_aload_n 0 dX9_likely_53 rfl rfl ?_
    refine gf_X9_8 fl_X9_55 (lk0 hG) (lr0_8 hG) dX9_likely_54 ?_
    refine aw_iload_n 2 dX9_likely_57 rfl rfl ?_
    obtain ⟨hi_5, h⟩ := h
    refine aw_lld dX9_likely_58 (lk117 hG) (ln117 hG) hi_5 ?_
    refine aw_lload_n 1 dX9_likely_59 rfl rfl ?_
    refine aw_callV wv_X9_tellFraction (M_X9_tellFraction hG  h) ml_X9_346 rfl (by decide) (lk0 hG) rfl rfl (Nat.le_of_ble_eq_true rfl) ⟨rfl, rfl⟩ ⟨Nat.le_of_ble_eq_true rfl, Nat.le_of_ble_eq_true rfl⟩ ⟨Nat.le_refl _, Nat.le_refl _⟩ dX9_likely_60 (aw_kv fun I_7 J_8 h => ?_)
    refine aw_iload_n 2 dX9_likely_63 rfl rfl ?_
    exact aw_iret rfl dX9_likely_64 ⟨rfl, _, rfl, h⟩
  · have h := sw_if.t h c_1
    refine aw_aload_n 0 dX9_likely_22 rfl rfl ?_
    refine gf_X9_8 fl_X9_55 (lk0 hG) (lr0_8 hG) dX9_likely_23 ?_
    refine aw_iload 3 dX9_likely_26 rfl ?_
    obtain ⟨hi_9, h⟩ := h
    refine aw_lld dX9_likely_28 (lk117 hG) (ln117 hG) hi_9 ?_
    refine aw_aload_n 0 dX9_likely_29 rfl rfl ?_
    refine gf_X9_8 fl_X9_55 (lk0 hG) (lr0_8 hG) dX9_likely_30 ?_
    refine aw_iload_n 2 dX9_likely_33 rfl rfl ?_
    obtain ⟨hi_10, h⟩ := h
    refine aw_lld dX9_likely_34 (lk117 hG) (ln117 hG) hi_10 ?_
    refine aw_lcmp dX9_likely_35 ?_
    refine aw_zle 42 dX9_likely_36 (by decide) (fun c_11 => ?_) (fun c_11 => ?_)
    · have h := sw_if.f h c_11
      refine aw_sub [0, 1, 2, 3] rfl ?_
      exact t_X9_likely_42 hG  hK10 h
    · have h := sw_if.t h c_11
      refine aw_iload 3 dX9_likely_39 rfl ?_
      refine aw_istore_n (lv' := [(3, .int x4), (0, .ref (sz + 0)), (1, .long w1), (4, .int x4)]) dX9_likely_41 rfl (by decide) rfl ?_
      refine aw_sub [1, 2, 0, 3] rfl ?_
      exact t_X9_likely_42 hG  hK10 h
set_option maxRecDepth 20000 in
theorem tl_X9_likely_10 {l : Launch} {D : va_G} {cy : Nat → ClassId} {sz : Nat} {G : sw_G} (hG : sw_lay G)   {Q : Int32 → sw_I → sw_J → Prop} : ∀ (n : Nat) (w1 : Int64) (x3 : Int32) (x4 : Int32) (I : sw_I) (J : sw_J), wl_X9_likely_10   Q n w1 x3 x4 I J → AW l D cy sz RX9 cX9_likely 5 (some .int) false rm_X9_likely 0 0 (sw_qi G Q) 0 0 G I J 10 [(0, .ref (sz + 0)), (1, .long w1), (3, .int x3), (4, .int x4)] [] := by
  intro n
  induction n with
  | zero => intro w1 x3 x4 I J h; exact False.elim h
  | succ n ih => intro w1 x3 x4 I J h; exact tb_X9_likely_10 hG  ih h
set_option maxRecDepth 20000 in
theorem t_X9_likely {l : Launch} {D : va_G} {cy : Nat → ClassId} {sz : Nat} {G : sw_G} (hG : sw_lay G)   {Q : Int32 → sw_I → sw_J → Prop}  {I : sw_I} {J : sw_J} (h : wp_X9_likely  I J Q) : AW l D cy sz RX9 cX9_likely 5 (some .int) false rm_X9_likely 0 0 (sw_qi G Q) 0 0 G I J 0 [(0, .ref (sz + 0))] [] := by
  unfold wp_X9_likely at h
  refine aw_aload_n 0 dX9_likely_0 rfl rfl ?_
  refine aw_callV wv_X9_weighStops (M_X9_weighStops hG  h) ml_X9_342 rfl (by decide) (lk0 hG) rfl rfl (Nat.le_of_ble_eq_true rfl) ⟨rfl, rfl⟩ ⟨Nat.le_of_ble_eq_true rfl, Nat.le_of_ble_eq_true rfl⟩ ⟨Nat.le_refl _, Nat.le_refl _⟩ dX9_likely_1 (aw_kl fun r_1 I_2 J_3 h => ?_)
  refine aw_lstore_n (lv' := [(1, .long r_1), (0, .ref (sz + 0))]) dX9_likely_4 rfl (by decide) rfl ?_
  refine aw_iconst (v := 0) dX9_likely_5 (by decide) ?_
  refine aw_istore_n (lv' := [(3, .int 0), (1, .long r_1), (0, .ref (sz + 0))]) dX9_likely_6 rfl (by decide) rfl ?_
  refine aw_iconst (v := 1) dX9_likely_7 (by decide) ?_
  refine aw_istore (lv' := [(4, .int 1), (3, .int 0), (1, .long r_1), (0, .ref (sz + 0))]) dX9_likely_8 (by decide) rfl ?_
  refine aw_sub [3, 2, 1, 0] rfl ?_
  obtain ⟨n_4, h⟩ := h
  exact tl_X9_likely_10 hG   n_4 r_1 0 1 I_2 J_3 h
theorem M_X9_likely {l : Launch} {D : va_G} {cy : Nat → ClassId} {sz : Nat} {G : sw_G} (hG : sw_lay G)   {Q : Int32 → sw_I → sw_J → Prop}  {I : sw_I} {J : sw_J} (h : wp_X9_likely  I J Q) : Met l yX9_likely (Cond.code yX9_likely cX9_likely 5 (some .int) :: sw_T) rm_X9_likely (sw_Pc D cy sz [.ref (sz + 0)] G I J) (sw_Q D cy sz (sw_qi G Q)) 0 0 (fun q => sz ≤ q) :=
  sw_met (by decide) (fun q => by cases q) (Nat.le_of_ble_eq_true rfl) rfl (t_X9_likely hG  h)
-- X0_live
abbrev rm_X0_live : Room := { frames := 5, cells := 0, slots := 0, locals := 123 }
def wB_X0_live_63 (a0 : Nat) (K4 : Int32 → Int32 → sw_I → sw_J → Prop) (Q : Int32 → sw_I → sw_J → Prop) (x2 : Int32) (x3 : Int32) (I : sw_I) (J : sw_J) : Prop :=
  ∀ y_1 : Int32, y_1 = x3 + 1 → K4 x2 y_1 I J
def wB_X0_live_37 (a0 : Nat) (K4 : Int32 → Int32 → sw_I → sw_J → Prop) (Q : Int32 → sw_I → sw_J → Prop) (x2 : Int32) (x3 : Int32) (I : sw_I) (J : sw_J) : Prop :=
  wp_X0_act a0 x2 x3 I J (fun r_1 I_2 J_3 => sw_if (r_1 = 0) (Q 0 I_2 J_3) (∀ I_5 : sw_I, I_5 = sw_up I_2 a0 2 ((I_2 a0 2) + (1 : Int32)) → ∀ y_7 : Int32, y_7 = x3 + (1 : Int32) → wB_X0_live_63 a0 K4 Q y_7 x3 I_5 J_3))
def wb_X0_live_4 (a0 : Nat) (K4 : Int32 → Int32 → sw_I → sw_J → Prop) (Q : Int32 → sw_I → sw_J → Prop) (x2 : Int32) (x3 : Int32) (I : sw_I) (J : sw_J) : Prop :=
  sw_if ((I 1 1) < x3) (Q 1 I J) (sw_if (0 < (I 1 1)) (sw_if (x3 = (I 1 1)) (wB_X0_live_37 a0 K4 Q x2 x3 I J) (wp_X8_at x3 I J (fun r_4 I_5 J_6 => sw_if (r_4 = (59 : Int32)) (wB_X0_live_37 a0 K4 Q x2 x3 I_5 J_6) (wB_X0_live_63 a0 K4 Q x2 x3 I_5 J_6)))) (Q 1 I J))
def wl_X0_live_4 (a0 : Nat)  (Q : Int32 → sw_I → sw_J → Prop) : Nat → Int32 → Int32 → sw_I → sw_J → Prop
  | 0 => fun _ _ _ _ => False
  | n + 1 => fun x2 x3 I J => wb_X0_live_4 a0 (wl_X0_live_4 a0  Q n) Q x2 x3 I J
def wp_X0_live (a0 : Nat) (I : sw_I) (J : sw_J) (Q : Int32 → sw_I → sw_J → Prop) : Prop :=
  ∃ n_1 : Nat, wl_X0_live_4 a0  Q n_1 0 0 I J
set_option maxRecDepth 20000 in
theorem t_X0_live_63 {l : Launch} {D : va_G} {cy : Nat → ClassId} {sz : Nat} {G : sw_G} (hG : sw_lay G) {a0 : Nat} (ha0 : sw_day G a0) {Q : Int32 → sw_I → sw_J → Prop} {K4 : Int32 → Int32 → sw_I → sw_J → Prop} (hK4 : ∀ (x2 : Int32) (x3 : Int32) (I : sw_I) (J : sw_J), K4 x2 x3 I J → AW l D cy sz RX0 cX0_live 4 (some .boolean) false rm_X0_live 0 0 (sw_qi G Q) 0 0 G I J 4 [(0, .ref (sz + a0)), (1, .ref (sz + 1)), (2, .int x2), (3, .int x3)] []) {x2 : Int32} {x3 : Int32} {I : sw_I} {J : sw_J} (h : wB_X0_live_63 a0 K4 Q x2 x3 I J) : AW l D cy sz RX0 cX0_live 4 (some .boolean) false rm_X0_live 0 0 (sw_qi G Q) 0 0 G I J 63 [(0, .ref (sz + a0)), (1, .ref (sz + 1)), (2, .int x2), (3, .int x3)] [] := by
  unfold wB_X0_live_63 at h
  obtain ⟨y_1, e_2⟩ : ∃ q : Int32, q = x3 + 1 := ⟨_, rfl⟩
  have h := h y_1 e_2
  refine aw_iinc (lv' := [(3, .int y_1), (0, .ref (sz + a0)), (1, .ref (sz + 1)), (2, .int x2)]) 3 dX0_live_63 rfl (by rw [e_2]; rfl) (by decide) rfl ?_
  refine aw_goto 4 dX0_live_66 (by decide) ?_
  refine aw_sub [1, 2, 3, 0] rfl ?_
  exact hK4 x2 y_1 I J h
set_option maxRecDepth 20000 in
theorem t_X0_live_37 {l : Launch} {D : va_G} {cy : Nat → ClassId} {sz : Nat} {G : sw_G} (hG : sw_lay G) {a0 : Nat} (ha0 : sw_day G a0) {Q : Int32 → sw_I → sw_J → Prop} {K4 : Int32 → Int32 → sw_I → sw_J → Prop} (hK4 : ∀ (x2 : Int32) (x3 : Int32) (I : sw_I) (J : sw_J), K4 x2 x3 I J → AW l D cy sz RX0 cX0_live 4 (some .boolean) false rm_X0_live 0 0 (sw_qi G Q) 0 0 G I J 4 [(0, .ref (sz + a0)), (1, .ref (sz + 1)), (2, .int x2), (3, .int x3)] []) {x2 : Int32} {x3 : Int32} {I : sw_I} {J : sw_J} (h : wB_X0_live_37 a0 K4 Q x2 x3 I J) : AW l D cy sz RX0 cX0_live 4 (some .boolean) false rm_X0_live 0 0 (sw_qi G Q) 0 0 G I J 37 [(0, .ref (sz + a0)), (1, .ref (sz + 1)), (2, .int x2), (3, .int x3)] [] := by
  unfold wB_X0_live_37 at h
  refine aw_aload_n 0 dX0_live_37 rfl rfl ?_
  refine aw_aload_n 1 dX0_live_38 rfl rfl ?_
  refine aw_iload_n 2 dX0_live_39 rfl rfl ?_
  refine aw_iload_n 3 dX0_live_40 rfl rfl ?_
  refine aw_callV wv_X0_act (M_X0_act hG ha0 h) ml_X0_59 rfl (by decide) ha0.1 rfl rfl (Nat.le_of_ble_eq_true rfl) ⟨rfl, rfl⟩ ⟨Nat.le_of_ble_eq_true rfl, Nat.le_of_ble_eq_true rfl⟩ ⟨Nat.le_refl _, Nat.le_refl _⟩ dX0_live_41 (aw_ki fun r_1 I_2 J_3 h => ?_)
  refine aw_zne 49 dX0_live_44 (by decide) (fun c_4 => ?_) (fun c_4 => ?_)
  · have h := sw_if.f h c_4
    refine aw_aload_n 0 dX0_live_49 rfl rfl ?_
    refine aw_dup dX0_live_50 rfl ?_
    refine gf_X0_2 fl_X0_9 ha0.1 dX0_live_51 ?_
    refine aw_iconst (v := 1) dX0_live_54 (by decide) ?_
    refine aw_iadd dX0_live_55 ?_
    refine pf_X0_2 fl_X0_9 ha0.1 dX0_live_56 (aw_nameI fun I_5 e_6 => ?_)
    have h := h I_5 e_6
    refine aw_iload_n 3 dX0_live_59 rfl rfl ?_
    refine aw_iconst (v := 1) dX0_live_60 (by decide) ?_
    refine aw_iadd dX0_live_61 ?_
    refine aw_topi (fun y_7 e_8 => ?_)
    have h := h y_7 e_8
    refine aw_istore_n (lv' := [(2, .int y_7), (0, .ref (sz + a0)), (1, .ref (sz + 1)), (3, .int x3)]) dX0_live_62 rfl (by decide) rfl ?_
    refine aw_sub [1, 2, 0, 3] rfl ?_
    exact t_X0_live_63 hG ha0 hK4 h
  · have h := sw_if.t h c_4
    refine aw_iconst (v := 0) dX0_live_47 (by decide) ?_
    exact aw_zret rfl rfl dX0_live_48 ⟨rfl, _, rfl, h⟩
set_option maxRecDepth 20000 in
theorem tb_X0_live_4 {l : Launch} {D : va_G} {cy : Nat → ClassId} {sz : Nat} {G : sw_G} (hG : sw_lay G) {a0 : Nat} (ha0 : sw_day G a0) {Q : Int32 → sw_I → sw_J → Prop} {K4 : Int32 → Int32 → sw_I → sw_J → Prop} (hK4 : ∀ (x2 : Int32) (x3 : Int32) (I : sw_I) (J : sw_J), K4 x2 x3 I J → AW l D cy sz RX0 cX0_live 4 (some .boolean) false rm_X0_live 0 0 (sw_qi G Q) 0 0 G I J 4 [(0, .ref (sz + a0)), (1, .ref (sz + 1)), (2, .int x2), (3, .int x3)] []) {x2 : Int32} {x3 : Int32} {I : sw_I} {J : sw_J} (h : wb_X0_live_4 a0 K4 Q x2 x3 I J) : AW l D cy sz RX0 cX0_live 4 (some .boolean) false rm_X0_live 0 0 (sw_qi G Q) 0 0 G I J 4 [(0, .ref (sz + a0)), (1, .ref (sz + 1)), (2, .int x2), (3, .int x3)] [] := by
  unfold wb_X0_live_4 at h
  refine aw_iload_n 3 dX0_live_4 rfl rfl ?_
  refine aw_aload_n 1 dX0_live_5 rfl rfl ?_
  refine gf_X8_1 fl_X0_29 (lk1 hG) dX0_live_6 ?_
  refine aw_jgt 69 dX0_live_9 (by decide) (fun c_1 => ?_) (fun c_1 => ?_)
  · have h := sw_if.t h c_1
    refine aw_iconst (v := 1) dX0_live_69 (by decide) ?_
    exact aw_zret rfl rfl dX0_live_70 ⟨rfl, _, rfl, h⟩
  · have h := sw_if.f h c_1
    refine aw_aload_n 1 dX0_live_12 rfl rfl ?_
    refine gf_X8_1 fl_X0_29 (lk1 hG) dX0_live_13 ?_
    refine aw_zle 69 dX0_live_16 (by decide) (fun c_2 => ?_) (fun c_2 => ?_)
    · have h := sw_if.f h c_2
      refine aw_iconst (v := 1) dX0_live_69 (by decide) ?_
      exact aw_zret rfl rfl dX0_live_70 ⟨rfl, _, rfl, h⟩
    · have h := sw_if.t h c_2
      refine aw_iload_n 3 dX0_live_19 rfl rfl ?_
      refine aw_aload_n 1 dX0_live_20 rfl rfl ?_
      refine gf_X8_1 fl_X0_29 (lk1 hG) dX0_live_21 ?_
      refine aw_jeq 37 dX0_live_24 (by decide) (fun c_3 => ?_) (fun c_3 => ?_)
      · have h := sw_if.t h c_3
        refine aw_sub [0, 1, 2, 3] rfl ?_
        exact t_X0_live_37 hG ha0 hK4 h
      · have h := sw_if.f h c_3
        refine aw_aload_n 1 dX0_live_27 rfl rfl ?_
        refine aw_iload_n 3 dX0_live_28 rfl rfl ?_
        refine aw_callV wv_X8_at (M_X8_at hG  h) ml_X0_40 rfl (by decide) (lk1 hG) rfl rfl (Nat.le_of_ble_eq_true rfl) ⟨rfl, rfl⟩ ⟨Nat.le_of_ble_eq_true rfl, Nat.le_of_ble_eq_true rfl⟩ ⟨Nat.le_refl _, Nat.le_refl _⟩ dX0_live_29 (aw_ki fun r_4 I_5 J_6 h => ?_)
        refine aw_bipush (v := 59) dX0_live_32 (by decide) ?_
        refine aw_jne 63 dX0_live_34 (by decide) (fun c_7 => ?_) (fun c_7 => ?_)
        · have h := sw_if.f h c_7
          refine aw_sub [0, 1, 2, 3] rfl ?_
          exact t_X0_live_63 hG ha0 hK4 h
        · have h := sw_if.t h c_7
          refine aw_sub [0, 1, 2, 3] rfl ?_
          exact t_X0_live_37 hG ha0 hK4 h
set_option maxRecDepth 20000 in
theorem tl_X0_live_4 {l : Launch} {D : va_G} {cy : Nat → ClassId} {sz : Nat} {G : sw_G} (hG : sw_lay G) {a0 : Nat} (ha0 : sw_day G a0) {Q : Int32 → sw_I → sw_J → Prop} : ∀ (n : Nat) (x2 : Int32) (x3 : Int32) (I : sw_I) (J : sw_J), wl_X0_live_4 a0  Q n x2 x3 I J → AW l D cy sz RX0 cX0_live 4 (some .boolean) false rm_X0_live 0 0 (sw_qi G Q) 0 0 G I J 4 [(0, .ref (sz + a0)), (1, .ref (sz + 1)), (2, .int x2), (3, .int x3)] [] := by
  intro n
  induction n with
  | zero => intro x2 x3 I J h; exact False.elim h
  | succ n ih => intro x2 x3 I J h; exact tb_X0_live_4 hG ha0 ih h
set_option maxRecDepth 20000 in
theorem t_X0_live {l : Launch} {D : va_G} {cy : Nat → ClassId} {sz : Nat} {G : sw_G} (hG : sw_lay G) {a0 : Nat} (ha0 : sw_day G a0) {Q : Int32 → sw_I → sw_J → Prop}  {I : sw_I} {J : sw_J} (h : wp_X0_live a0 I J Q) : AW l D cy sz RX0 cX0_live 4 (some .boolean) false rm_X0_live 0 0 (sw_qi G Q) 0 0 G I J 0 [(0, .ref (sz + a0)), (1, .ref (sz + 1))] [] := by
  unfold wp_X0_live at h
  refine aw_iconst (v := 0) dX0_live_0 (by decide) ?_
  refine aw_istore_n (lv' := [(2, .int 0), (0, .ref (sz + a0)), (1, .ref (sz + 1))]) dX0_live_1 rfl (by decide) rfl ?_
  refine aw_iconst (v := 0) dX0_live_2 (by decide) ?_
  refine aw_istore_n (lv' := [(3, .int 0), (2, .int 0), (0, .ref (sz + a0)), (1, .ref (sz + 1))]) dX0_live_3 rfl (by decide) rfl ?_
  refine aw_sub [2, 3, 1, 0] rfl ?_
  obtain ⟨n_1, h⟩ := h
  exact tl_X0_live_4 hG ha0  n_1 0 0 I J h
theorem M_X0_live {l : Launch} {D : va_G} {cy : Nat → ClassId} {sz : Nat} {G : sw_G} (hG : sw_lay G) {a0 : Nat} (ha0 : sw_day G a0) {Q : Int32 → sw_I → sw_J → Prop}  {I : sw_I} {J : sw_J} (h : wp_X0_live a0 I J Q) : Met l yX0_live (Cond.code yX0_live cX0_live 4 (some .boolean) :: sw_T) rm_X0_live (sw_Pc D cy sz [.ref (sz + a0), .ref (sz + 1)] G I J) (sw_Q D cy sz (sw_qi G Q)) 0 0 (fun q => sz ≤ q) :=
  sw_met (by decide) (fun q => by cases q) (Nat.le_of_ble_eq_true rfl) rfl (t_X0_live hG ha0 h)
