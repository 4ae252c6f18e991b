-- X9_then
abbrev rm_X9_then : Room := { frames := 4, cells := 0, slots := 0, locals := 98 }
def wb_X9_then_31  (K31 : Int32 → Int32 → Int32 → sw_I → sw_J → Prop) (Q : Int32 → sw_I → sw_J → Prop) (x1 : Int32) (x2 : Int32) (x3 : Int32) (I : sw_I) (J : sw_J) : Prop :=
  sw_if (x3 < x1) (wp_X1_carry 17 I J (fun r_5 I_6 J_7 => ∀ y_8 : Int32, y_8 = x2 ||| r_5 → wp_X9_tell ((I_6 17 4).toInt64) I_6 J_7 (fun I_11 J_12 => ∀ y_13 : Int32, y_13 = x3 + 1 → K31 x1 y_8 y_13 I_11 J_12))) (wp_J6_bitCount_0f7a4 x2 I J (fun r_2 I_3 J_4 => Q r_2 I_3 J_4))
def wl_X9_then_31   (Q : Int32 → sw_I → sw_J → Prop) : Nat → Int32 → Int32 → Int32 → sw_I → sw_J → Prop
  | 0 => fun _ _ _ _ _ => False
  | n + 1 => fun x1 x2 x3 I J => wb_X9_then_31  (wl_X9_then_31   Q n) Q x1 x2 x3 I J
def wp_X9_then (x1 : Int32) (I : sw_I) (J : sw_J) (Q : Int32 → sw_I → sw_J → Prop) : Prop :=
  sw_if (x1 < 0) (Q (-1 : Int32) I J) (sw_if ((12 : Int32) < x1) (Q (-1 : Int32) I J) (wp_X3_copy 17 13 I J (fun I_4 J_5 => wp_X9_clearRow  I_4 J_5 (fun I_7 J_8 => ∃ n_9 : Nat, wl_X9_then_31   Q n_9 x1 0 0 I_7 J_8))))
set_option maxRecDepth 20000 in
theorem tb_X9_then_31 {l : Launch} {D : va_G} {cy : Nat → ClassId} {sz : Nat} {G : sw_G} (hG : sw_lay G)   {Q : Int32 → sw_I → sw_J → Prop} {K31 : Int32 → Int32 → Int32 → sw_I → sw_J → Prop} (hK31 : ∀ (x1 : Int32) (x2 : Int32) (x3 : Int32) (I : sw_I) (J : sw_J), K31 x1 x2 x3 I J → AW l D cy sz RX9 cX9_then 4 (some .int) false rm_X9_then 0 0 (sw_qi G Q) 0 0 G I J 31 [(0, .ref (sz + 0)), (1, .int x1), (2, .int x2), (3, .int x3)] []) {x1 : Int32} {x2 : Int32} {x3 : Int32} {I : sw_I} {J : sw_J} (h : wb_X9_then_31  K31 Q x1 x2 x3 I J) : AW l D cy sz RX9 cX9_then 4 (some .int) false rm_X9_then 0 0 (sw_qi G Q) 0 0 G I J 31 [(0, .ref (sz + 0)), (1, .int x1), (2, .int x2), (3, .int x3)] [] := by
  unfold wb_X9_then_31 at h
  refine aw_iload_n 3 dX9_then_31 rfl rfl ?_
  refine aw_iload_n 1 dX9_then_32 rfl rfl ?_
  refine aw_jge 68 dX9_then_33 (by decide) (fun c_1 => ?_) (fun c_1 => ?_)
  · have h := sw_if.f h c_1
    refine aw_iload_n 2 dX9_then_68 rfl rfl ?_
    refine aw_callS wv_J6_bitCount_0f7a4 (M_J6_bitCount_0f7a4 trivial  h) ml_X9_267 rfl rfl (Nat.le_of_ble_eq_true rfl) ⟨rfl, rfl⟩ ⟨Nat.le_of_ble_eq_true rfl, Nat.le_of_ble_eq_true rfl⟩ ⟨Nat.le_refl _, Nat.le_refl _⟩ dX9_then_69 (aw_ki fun r_2 I_3 J_4 h => ?_)
    exact aw_iret rfl dX9_then_72 ⟨rfl, _, rfl, h⟩
  · have h := sw_if.t h c_1
    refine aw_iload_n 2 dX9_then_36 rfl rfl ?_
    refine aw_aload_n 0 dX9_then_37 rfl rfl ?_
    refine gf_X9_1 fl_X9_19 (lk0 hG) (lr0_1 hG) dX9_then_38 ?_
    refine aw_aload_n 0 dX9_then_41 rfl rfl ?_
    refine gf_X9_3 fl_X9_30 (lk0 hG) (lr0_3 hG) dX9_then_42 ?_
    refine aw_callV wv_X1_carry (M_X1_carry hG (lm17 hG) h) ml_X9_178 rfl (by decide) (lk3 hG) rfl rfl (Nat.le_of_ble_eq_true rfl) ⟨rfl, rfl⟩ ⟨Nat.le_of_ble_eq_true rfl, Nat.le_of_ble_eq_true rfl⟩ ⟨Nat.le_refl _, Nat.le_refl _⟩ dX9_then_45 (aw_ki fun r_5 I_6 J_7 h => ?_)
    refine aw_ior dX9_then_48 ?_
    refine aw_topi (fun y_8 e_9 => ?_)
    have h := h y_8 e_9
    refine aw_istore_n (lv' := [(2, .int y_8), (0, .ref (sz + 0)), (1, .int x1), (3, .int x3)]) dX9_then_49 rfl (by decide) rfl ?_
    refine aw_aload_n 1 dX9_then_50 rfl rfl ?_
    refine aw_aload_n 1 dX9_then_51 rfl rfl ?_
    refine gf_X9_3 fl_X9_30 (lk0 hG) (lr0_3 hG) dX9_then_52 ?_
    refine gf_X3_4 fl_X9_87 (lk17 hG) dX9_then_55 ?_
    refine aw_i2l dX9_then_58 ?_
    refine aw_callV wv_X9_tell (M_X9_tell hG  h) ml_X9_185 rfl (by decide) (lk0 hG) rfl rfl (Nat.le_of_ble_eq_true rfl) ⟨rfl, rfl⟩ ⟨Nat.le_of_ble_eq_true rfl, Nat.le_of_ble_eq_true rfl⟩ ⟨Nat.le_refl _, Nat.le_refl _⟩ dX9_then_59 (aw_kv fun I_11 J_12 h => ?_)
    obtain ⟨y_13, e_14⟩ : ∃ q : Int32, q = x3 + 1 := ⟨_, rfl⟩
    have h := h y_13 e_14
    refine aw_iinc (lv' := [(3, .int y_13), (2, .int y_8), (0, .ref (sz + 0)), (1, .int x1)]) 3 dX9_then_62 rfl (by rw [e_14]; rfl) (by decide) rfl ?_
    refine aw_goto 31 dX9_then_65 (by decide) ?_
    refine aw_sub [2, 3, 1, 0] rfl ?_
    exact hK31 x1 y_8 y_13 I_11 J_12 h
set_option maxRecDepth 20000 in
theorem tl_X9_then_31 {l : Launch} {D : va_G} {cy : Nat → ClassId} {sz : Nat} {G : sw_G} (hG : sw_lay G)   {Q : Int32 → sw_I → sw_J → Prop} : ∀ (n : Nat) (x1 : Int32) (x2 : Int32) (x3 : Int32) (I : sw_I) (J : sw_J), wl_X9_then_31   Q n x1 x2 x3 I J → AW l D cy sz RX9 cX9_then 4 (some .int) false rm_X9_then 0 0 (sw_qi G Q) 0 0 G I J 31 [(0, .ref (sz + 0)), (1, .int x1), (2, .int x2), (3, .int x3)] [] := by
  intro n
  induction n with
  | zero => intro x1 x2 x3 I J h; exact False.elim h
  | succ n ih => intro x1 x2 x3 I J h; exact tb_X9_then_31 hG  ih h
set_option maxRecDepth 20000 in
theorem t_X9_then {l : Launch} {D : va_G} {cy : Nat → ClassId} {sz : Nat} {G : sw_G} (hG : sw_lay G)   {Q : Int32 → sw_I → sw_J → Prop} {x1 : Int32} {I : sw_I} {J : sw_J} (h : wp_X9_then x1 I J Q) : AW l D cy sz RX9 cX9_then 4 (some .int) false rm_X9_then 0 0 (sw_qi G Q) 0 0 G I J 0 [(0, .ref (sz + 0)), (1, .int x1)] [] := by
  unfold wp_X9_then at h
  refine aw_iload_n 1 dX9_then_0 rfl rfl ?_
  refine aw_zlt 10 dX9_then_1 (by decide) (fun c_1 => ?_) (fun c_1 => ?_)
  · have h := sw_if.t h c_1
    refine aw_iconst (v := (-1)) dX9_then_10 (by decide) ?_
    exact aw_iret rfl dX9_then_11 ⟨rfl, _, rfl, h⟩
  · have h := sw_if.f h c_1
    refine aw_iload_n 1 dX9_then_4 rfl rfl ?_
    refine aw_bipush (v := 12) dX9_then_5 (by decide) ?_
    refine aw_jle 12 dX9_then_7 (by decide) (fun c_2 => ?_) (fun c_2 => ?_)
    · have h := sw_if.f h c_2
      refine aw_aload_n 0 dX9_then_12 rfl rfl ?_
      refine gf_X9_3 fl_X9_30 (lk0 hG) (lr0_3 hG) dX9_then_13 ?_
      refine aw_aload_n 0 dX9_then_16 rfl rfl ?_
      refine gf_X9_2 fl_X9_26 (lk0 hG) (lr0_2 hG) dX9_then_17 ?_
      refine aw_callV wv_X3_copy (M_X3_copy hG (lm17 hG) (lm13 hG) h) ml_X9_254 rfl (by decide) (lk17 hG) rfl rfl (Nat.le_of_ble_eq_true rfl) ⟨rfl, rfl⟩ ⟨Nat.le_of_ble_eq_true rfl, Nat.le_of_ble_eq_true rfl⟩ ⟨Nat.le_refl _, Nat.le_refl _⟩ dX9_then_20 (aw_kv fun I_4 J_5 h => ?_)
      refine aw_aload_n 0 dX9_then_23 rfl rfl ?_
      refine aw_callV wv_X9_clearRow (M_X9_clearRow hG  h) ml_X9_182 rfl (by decide) (lk0 hG) rfl rfl (Nat.le_of_ble_eq_true rfl) ⟨rfl, rfl⟩ ⟨Nat.le_of_ble_eq_true rfl, Nat.le_of_ble_eq_true rfl⟩ ⟨Nat.le_refl _, Nat.le_refl _⟩ dX9_then_24 (aw_kv fun I_7 J_8 h => ?_)
      refine aw_iconst (v := 0) dX9_then_27 (by decide) ?_
      refine aw_istore_n (lv' := [(2, .int 0), (0, .ref (sz + 0)), (1, .int x1)]) dX9_then_28 rfl (by decide) rfl ?_
      refine aw_iconst (v := 0) dX9_then_29 (by decide) ?_
      refine aw_istore_n (lv' := [(3, .int 0), (2, .int 0), (0, .ref (sz + 0)), (1, .int x1)]) dX9_then_30 rfl (by decide) rfl ?_
      refine aw_sub [2, 3, 1, 0] rfl ?_
      obtain ⟨n_9, h⟩ := h
      exact tl_X9_then_31 hG   n_9 x1 0 0 I_7 J_8 h
    · have h := sw_if.t h c_2
      refine aw_iconst (v := (-1)) dX9_then_10 (by decide) ?_
      exact aw_iret rfl dX9_then_11 ⟨rfl, _, rfl, h⟩
theorem M_X9_then {l : Launch} {D : va_G} {cy : Nat → ClassId} {sz : Nat} {G : sw_G} (hG : sw_lay G)   {Q : Int32 → sw_I → sw_J → Prop} {x1 : Int32} {I : sw_I} {J : sw_J} (h : wp_X9_then x1 I J Q) : Met l yX9_then (Cond.code yX9_then cX9_then 4 (some .int) :: sw_T) rm_X9_then (sw_Pc D cy sz [.ref (sz + 0), .int x1] G I J) (sw_Q D cy sz (sw_qi G Q)) 0 0 (fun q => sz ≤ q) :=
  sw_met (by decide) (fun q => by cases q) (Nat.le_of_ble_eq_true rfl) rfl (t_X9_then hG  h)
-- X9_since
abbrev rm_X9_since : Room := { frames := 4, cells := 0, slots := 0, locals := 98 }
def wb_X9_since_42  (K42 : Int32 → Int32 → sw_I → sw_J → Prop) (Q : Int32 → sw_I → sw_J → Prop) (x1 : Int32) (x2 : Int32) (I : sw_I) (J : sw_J) : Prop :=
  sw_if ((630 : Int32) < x2) (Q (-2 : Int32) I J) (wp_X1_carry 17 I J (fun r_2 I_3 J_4 => wp_X3_isIn 17 x1 I_3 J_4 (fun r_5 I_6 J_7 => sw_if (r_5 = 0) (Q x2 I_6 J_7) (∀ y_9 : Int32, y_9 = x2 + 1 → K42 x1 y_9 I_6 J_7))))
def wl_X9_since_42   (Q : Int32 → sw_I → sw_J → Prop) : Nat → Int32 → Int32 → sw_I → sw_J → Prop
  | 0 => fun _ _ _ _ => False
  | n + 1 => fun x1 x2 I J => wb_X9_since_42  (wl_X9_since_42   Q n) Q x1 x2 I J
def wp_X9_since (x1 : Int32) (I : sw_I) (J : sw_J) (Q : Int32 → sw_I → sw_J → Prop) : Prop :=
  wp_X3_isIn 13 x1 I J (fun r_1 I_2 J_3 => sw_if (r_1 = 0) (Q (-1 : Int32) I_2 J_3) (sw_if ((I_2 6 5) = 0) (wp_X3_copy 17 13 I_2 J_3 (fun I_7 J_8 => ∃ n_9 : Nat, wl_X9_since_42   Q n_9 x1 1 I_7 J_8)) (Q (-4 : Int32) I_2 J_3)))
set_option maxRecDepth 20000 in
theorem tb_X9_since_42 {l : Launch} {D : va_G} {cy : Nat → ClassId} {sz : Nat} {G : sw_G} (hG : sw_lay G)   {Q : Int32 → sw_I → sw_J → Prop} {K42 : Int32 → Int32 → sw_I → sw_J → Prop} (hK42 : ∀ (x1 : Int32) (x2 : Int32) (I : sw_I) (J : sw_J), K42 x1 x2 I J → AW l D cy sz RX9 cX9_since 3 (some .int) false rm_X9_since 0 0 (sw_qi G Q) 0 0 G I J 42 [(0, .ref (sz + 0)), (1, .int x1), (2, .int x2)] []) {x1 : Int32} {x2 : Int32} {I : sw_I} {J : sw_J} (h : wb_X9_since_42  K42 Q x1 x2 I J) : AW l D cy sz RX9 cX9_since 3 (some .int) false rm_X9_since 0 0 (sw_qi G Q) 0 0 G I J 42 [(0, .ref (sz + 0)), (1, .int x1), (2, .int x2)] [] := by
  unfold wb_X9_since_42 at h
  refine aw_iload_n 2 dX9_since_42 rfl rfl ?_
  refine aw_sipush (v := 630) dX9_since_43 (by decide) ?_
  refine aw_jgt 80 dX9_since_46 (by decide) (fun c_1 => ?_) (fun c_1 => ?_)
  · have h := sw_if.t h c_1
    refine aw_bipush (v := (-2)) dX9_since_80 (by decide) ?_
    exact aw_iret rfl dX9_since_82 ⟨rfl, _, rfl, h⟩
  · have h := sw_if.f h c_1
    refine aw_aload_n 0 dX9_since_49 rfl rfl ?_
    refine gf_X9_1 fl_X9_19 (lk0 hG) (lr0_1 hG) dX9_since_50 ?_
    refine aw_aload_n 0 dX9_since_53 rfl rfl ?_
    refine gf_X9_3 fl_X9_30 (lk0 hG) (lr0_3 hG) dX9_since_54 ?_
    refine aw_callV wv_X1_carry (M_X1_carry hG (lm17 hG) h) ml_X9_178 rfl (by decide) (lk3 hG) rfl rfl (Nat.le_of_ble_eq_true rfl) ⟨rfl, rfl⟩ ⟨Nat.le_of_ble_eq_true rfl, Nat.le_of_ble_eq_true rfl⟩ ⟨Nat.le_refl _, Nat.le_refl _⟩ dX9_since_57 (aw_ki fun r_2 I_3 J_4 h => ?_)
    refine aw_pop dX9_since_60 rfl ?_
    refine aw_aload_n 0 dX9_since_61 rfl rfl ?_
    refine gf_X9_3 fl_X9_30 (lk0 hG) (lr0_3 hG) dX9_since_62 ?_
    refine aw_iload_n 1 dX9_since_65 rfl rfl ?_
    refine aw_callV wv_X3_isIn (M_X3_isIn trivial (lm17 hG) h) ml_X9_175 rfl (by decide) (lk17 hG) rfl rfl (Nat.le_of_ble_eq_true rfl) ⟨rfl, rfl⟩ ⟨Nat.le_of_ble_eq_true rfl, Nat.le_of_ble_eq_true rfl⟩ ⟨Nat.le_refl _, Nat.le_refl _⟩ dX9_since_66 (aw_ki fun r_5 I_6 J_7 h => ?_)
    refine aw_zne 74 dX9_since_69 (by decide) (fun c_8 => ?_) (fun c_8 => ?_)
    · have h := sw_if.f h c_8
      obtain ⟨y_9, e_10⟩ : ∃ q : Int32, q = x2 + 1 := ⟨_, rfl⟩
      have h := h y_9 e_10
      refine aw_iinc (lv' := [(2, .int y_9), (0, .ref (sz + 0)), (1, .int x1)]) 2 dX9_since_74 rfl (by rw [e_10]; rfl) (by decide) rfl ?_
      refine aw_goto 42 dX9_since_77 (by decide) ?_
      refine aw_sub [1, 2, 0] rfl ?_
      exact hK42 x1 y_9 I_6 J_7 h
    · have h := sw_if.t h c_8
      refine aw_iload_n 2 dX9_since_72 rfl rfl ?_
      exact aw_iret rfl dX9_since_73 ⟨rfl, _, rfl, h⟩
set_option maxRecDepth 20000 in
theorem tl_X9_since_42 {l : Launch} {D : va_G} {cy : Nat → ClassId} {sz : Nat} {G : sw_G} (hG : sw_lay G)   {Q : Int32 → sw_I → sw_J → Prop} : ∀ (n : Nat) (x1 : Int32) (x2 : Int32) (I : sw_I) (J : sw_J), wl_X9_since_42   Q n x1 x2 I J → AW l D cy sz RX9 cX9_since 3 (some .int) false rm_X9_since 0 0 (sw_qi G Q) 0 0 G I J 42 [(0, .ref (sz + 0)), (1, .int x1), (2, .int x2)] [] := by
  intro n
  induction n with
  | zero => intro x1 x2 I J h; exact False.elim h
  | succ n ih => intro x1 x2 I J h; exact tb_X9_since_42 hG  ih h
set_option maxRecDepth 20000 in
theorem t_X9_since {l : Launch} {D : va_G} {cy : Nat → ClassId} {sz : Nat} {G : sw_G} (hG : sw_lay G)   {Q : Int32 → sw_I → sw_J → Prop} {x1 : Int32} {I : sw_I} {J : sw_J} (h : wp_X9_since x1 I J Q) : AW l D cy sz RX9 cX9_since 3 (some .int) false rm_X9_since 0 0 (sw_qi G Q) 0 0 G I J 0 [(0, .ref (sz + 0)), (1, .int x1)] [] := by
  unfold wp_X9_since at h
  refine aw_aload_n 0 dX9_since_0 rfl rfl ?_
  refine gf_X9_2 fl_X9_26 (lk0 hG) (lr0_2 hG) dX9_since_1 ?_
  refine aw_iload_n 1 dX9_since_4 rfl rfl ?_
  refine aw_callV wv_X3_isIn (M_X3_isIn trivial (lm13 hG) h) ml_X9_175 rfl (by decide) (lk13 hG) rfl rfl (Nat.le_of_ble_eq_true rfl) ⟨rfl, rfl⟩ ⟨Nat.le_of_ble_eq_true rfl, Nat.le_of_ble_eq_true rfl⟩ ⟨Nat.le_refl _, Nat.le_refl _⟩ dX9_since_5 (aw_ki fun r_1 I_2 J_3 h => ?_)
  refine aw_zne 13 dX9_since_8 (by decide) (fun c_4 => ?_) (fun c_4 => ?_)
  · have h := sw_if.f h c_4
    refine aw_aload_n 0 dX9_since_13 rfl rfl ?_
    refine gf_X9_1 fl_X9_19 (lk0 hG) (lr0_1 hG) dX9_since_14 ?_
    refine gf_X1_5 fl_X9_98 (lk3 hG) (lr3_5 hG) dX9_since_17 ?_
    refine gf_X2_5 fl_X9_272 (lk6 hG) dX9_since_20 ?_
    refine aw_zeq 29 dX9_since_23 (by decide) (fun c_5 => ?_) (fun c_5 => ?_)
    · have h := sw_if.t h c_5
      refine aw_aload_n 0 dX9_since_29 rfl rfl ?_
      refine gf_X9_3 fl_X9_30 (lk0 hG) (lr0_3 hG) dX9_since_30 ?_
      refine aw_aload_n 0 dX9_since_33 rfl rfl ?_
      refine gf_X9_2 fl_X9_26 (lk0 hG) (lr0_2 hG) dX9_since_34 ?_
      refine aw_callV wv_X3_copy (M_X3_copy hG (lm17 hG) (lm13 hG) h) ml_X9_254 rfl (by decide) (lk17 hG) rfl rfl (Nat.le_of_ble_eq_true rfl) ⟨rfl, rfl⟩ ⟨Nat.le_of_ble_eq_true rfl, Nat.le_of_ble_eq_true rfl⟩ ⟨Nat.le_refl _, Nat.le_refl _⟩ dX9_since_37 (aw_kv fun I_7 J_8 h => ?_)
      refine aw_iconst (v := 1) dX9_since_40 (by decide) ?_
      refine aw_istore_n (lv' := [(2, .int 1), (0, .ref (sz + 0)), (1, .int x1)]) dX9_since_41 rfl (by decide) rfl ?_
      refine aw_sub [1, 2, 0] rfl ?_
      obtain ⟨n_9, h⟩ := h
      exact tl_X9_since_42 hG   n_9 x1 1 I_7 J_8 h
    · have h := sw_if.f h c_5
      refine aw_bipush (v := (-4)) dX9_since_26 (by decide) ?_
      exact aw_iret rfl dX9_since_28 ⟨rfl, _, rfl, h⟩
  · have h := sw_if.t h c_4
    refine aw_iconst (v := (-1)) dX9_since_11 (by decide) ?_
    exact aw_iret rfl dX9_since_12 ⟨rfl, _, rfl, h⟩
theorem M_X9_since {l : Launch} {D : va_G} {cy : Nat → ClassId} {sz : Nat} {G : sw_G} (hG : sw_lay G)   {Q : Int32 → sw_I → sw_J → Prop} {x1 : Int32} {I : sw_I} {J : sw_J} (h : wp_X9_since x1 I J Q) : Met l yX9_since (Cond.code yX9_since cX9_since 3 (some .int) :: sw_T) rm_X9_since (sw_Pc D cy sz [.ref (sz + 0), .int x1] G I J) (sw_Q D cy sz (sw_qi G Q)) 0 0 (fun q => sz ≤ q) :=
  sw_met (by decide) (fun q => by cases q) (Nat.le_of_ble_eq_true rfl) rfl (t_X9_since hG  h)
-- X9_believed
abbrev rm_X9_believed : Room := { frames := 4, cells := 0, slots := 0, locals := 97 }
def wp_X9_believed  (I : sw_I) (J : sw_J) (Q : Int32 → sw_I → sw_J → Prop) : Prop :=
  wp_X7_believe 15 10 I J (fun I_2 J_3 => wp_X7_notSo  I_2 J_3 (fun r_4 I_5 J_6 => wp_X9_clearRow  I_5 J_6 (fun I_8 J_9 => wp_X9_tell r_4.toInt64 I_8 J_9 (fun I_11 J_12 => sw_if (r_4 = 0) (Q (1 : Int32) I_11 J_12) (Q (0 : Int32) I_11 J_12)))))
set_option maxRecDepth 20000 in
theorem t_X9_believed {l : Launch} {D : va_G} {cy : Nat → ClassId} {sz : Nat} {G : sw_G} (hG : sw_lay G)   {Q : Int32 → sw_I → sw_J → Prop}  {I : sw_I} {J : sw_J} (h : wp_X9_believed  I J Q) : AW l D cy sz RX9 cX9_believed 2 (some .int) false rm_X9_believed 0 0 (sw_qi G Q) 0 0 G I J 0 [(0, .ref (sz + 0))] [] := by
  unfold wp_X9_believed at h
  refine aw_aload_n 0 dX9_believed_0 rfl rfl ?_
  refine gf_X9_7 fl_X9_51 (lk0 hG) (lr0_7 hG) dX9_believed_1 ?_
  refine aw_aload_n 0 dX9_believed_4 rfl rfl ?_
  refine gf_X9_2 fl_X9_26 (lk0 hG) (lr0_2 hG) dX9_believed_5 ?_
  refine gf_X3_1 fl_X9_123 (lk13 hG) (lr13_1 hG) dX9_believed_8 ?_
  refine aw_callV wv_X7_believe (M_X7_believe hG ⟨(lk15 hG), (ln15 hG)⟩ h) ml_X9_320 rfl (by decide) (lk109 hG) rfl rfl (Nat.le_of_ble_eq_true rfl) ⟨rfl, rfl⟩ ⟨Nat.le_of_ble_eq_true rfl, Nat.le_of_ble_eq_true rfl⟩ ⟨Nat.le_refl _, Nat.le_refl _⟩ dX9_believed_11 (aw_kv fun I_2 J_3 h => ?_)
  refine aw_aload_n 0 dX9_believed_14 rfl rfl ?_
  refine gf_X9_7 fl_X9_51 (lk0 hG) (lr0_7 hG) dX9_believed_15 ?_
  refine aw_aload_n 0 dX9_believed_18 rfl rfl ?_
  refine gf_X9_1 fl_X9_19 (lk0 hG) (lr0_1 hG) dX9_believed_19 ?_
  refine aw_callV wv_X7_notSo (M_X7_notSo hG  h) ml_X9_324 rfl (by decide) (lk109 hG) rfl rfl (Nat.le_of_ble_eq_true rfl) ⟨rfl, rfl⟩ ⟨Nat.le_of_ble_eq_true rfl, Nat.le_of_ble_eq_true rfl⟩ ⟨Nat.le_refl _, Nat.le_refl _⟩ dX9_believed_22 (aw_ki fun r_4 I_5 J_6 h => ?_)
  refine aw_istore_n (lv' := [(1, .int r_4), (0, .ref (sz + 0))]) dX9_believed_25 rfl (by decide) rfl ?_
  refine aw_aload_n 1 dX9_believed_26 rfl rfl ?_
  refine aw_callV wv_X9_clearRow (M_X9_clearRow hG  h) ml_X9_182 rfl (by decide) (lk0 hG) rfl rfl (Nat.le_of_ble_eq_true rfl) ⟨rfl, rfl⟩ ⟨Nat.le_of_ble_eq_true rfl, Nat.le_of_ble_eq_true rfl⟩ ⟨Nat.le_refl _, Nat.le_refl _⟩ dX9_believed_27 (aw_kv fun I_8 J_9 h => ?_)
  refine aw_aload_n 1 dX9_believed_30 rfl rfl ?_
  refine aw_iload_n 0 dX9_believed_31 rfl rfl ?_
  refine aw_i2l dX9_believed_32 ?_
  refine aw_callV wv_X9_tell (M_X9_tell hG  h) ml_X9_185 rfl (by decide) (lk0 hG) rfl rfl (Nat.le_of_ble_eq_true rfl) ⟨rfl, rfl⟩ ⟨Nat.le_of_ble_eq_true rfl, Nat.le_of_ble_eq_true rfl⟩ ⟨Nat.le_refl _, Nat.le_refl _⟩ dX9_believed_33 (aw_kv fun I_11 J_12 h => ?_)
  refine aw_iload_n 0 dX9_believed_36 rfl rfl ?_
  refine aw_zne 44 dX9_believed_37 (by decide) (fun c_13 => ?_) (fun c_13 => ?_)
  · have h := sw_if.f h c_13
    refine aw_iconst (v := 0) dX9_believed_44 (by decide) ?_
    exact aw_iret rfl dX9_believed_45 ⟨rfl, _, rfl, h⟩
  · have h := sw_if.t h c_13
    refine aw_iconst (v := 1) dX9_believed_40 (by decide) ?_
    refine aw_goto 45 dX9_believed_41 (by decide) ?_
    exact aw_iret rfl dX9_believed_45 ⟨rfl, _, rfl, h⟩
theorem M_X9_believed {l : Launch} {D : va_G} {cy : Nat → ClassId} {sz : Nat} {G : sw_G} (hG : sw_lay G)   {Q : Int32 → sw_I → sw_J → Prop}  {I : sw_I} {J : sw_J} (h : wp_X9_believed  I J Q) : Met l yX9_believed (Cond.code yX9_believed cX9_believed 2 (some .int) :: sw_T) rm_X9_believed (sw_Pc D cy sz [.ref (sz + 0)] G I J) (sw_Q D cy sz (sw_qi G Q)) 0 0 (fun q => sz ≤ q) :=
  sw_met (by decide) (fun q => by cases q) (Nat.le_of_ble_eq_true rfl) rfl (t_X9_believed hG  h)
-- X9_fits
abbrev rm_X9_fits : Room := { frames := 5, cells := 0, slots := 0, locals := 121 }
def wB_X9_fits_74  (K31 : Int32 → Int32 → Int32 → sw_I → sw_J → Prop) (Q : Int32 → sw_I → sw_J → Prop) (x1 : Int32) (x2 : Int32) (x3 : Int32) (I : sw_I) (J : sw_J) : Prop :=
  ∀ y_1 : Int32, y_1 = x3 + 1 → K31 x1 x2 y_1 I J
def wB_X9_fits_71  (K31 : Int32 → Int32 → Int32 → sw_I → sw_J → Prop) (Q : Int32 → sw_I → sw_J → Prop) (x1 : Int32) (x3 : Int32) (s0 : Int32) (s1 : Int32) (s2 : Int32) (I : sw_I) (J : sw_J) : Prop :=
  ∀ y_1 : Int32, y_1 = s0 ||| (s1 <<< (s2 &&& 31)) → wB_X9_fits_74  K31 Q x1 y_1 x3 I J
def wb_X9_fits_31  (K31 : Int32 → Int32 → Int32 → sw_I → sw_J → Prop) (Q : Int32 → sw_I → sw_J → Prop) (x1 : Int32) (x2 : Int32) (x3 : Int32) (I : sw_I) (J : sw_J) : Prop :=
  sw_if (x3 < (I 3 0)) (wp_X7_allSoIf x1 x3 I J (fun r_2 I_3 J_4 => sw_if (r_2 = 0) (wB_X9_fits_74  K31 Q x1 x2 x3 I_3 J_4) (sw_if (x3 = (-1 : Int32)) (wB_X9_fits_71  K31 Q x1 x3 x2 1 9 I_3 J_4) (wB_X9_fits_71  K31 Q x1 x3 x2 1 x3 I_3 J_4)))) (Q x2 I J)
def wl_X9_fits_31   (Q : Int32 → sw_I → sw_J → Prop) : Nat → Int32 → Int32 → Int32 → sw_I → sw_J → Prop
  | 0 => fun _ _ _ _ _ => False
  | n + 1 => fun x1 x2 x3 I J => wb_X9_fits_31  (wl_X9_fits_31   Q n) Q x1 x2 x3 I J
def wp_X9_fits (x1 : Int32) (I : sw_I) (J : sw_J) (Q : Int32 → sw_I → sw_J → Prop) : Prop :=
  wp_X1_hasRider x1 I J (fun r_1 I_2 J_3 => sw_if (r_1 = 0) (Q (-1 : Int32) I_2 J_3) (wp_X7_believe 15 10 I_2 J_3 (fun I_6 J_7 => ∃ n_8 : Nat, wl_X9_fits_31   Q n_8 x1 0 (-1) I_6 J_7)))
set_option maxRecDepth 20000 in
theorem t_X9_fits_74 {l : Launch} {D : va_G} {cy : Nat → ClassId} {sz : Nat} {G : sw_G} (hG : sw_lay G)   {Q : Int32 → sw_I → sw_J → Prop} {K31 : Int32 → Int32 → Int32 → sw_I → sw_J → Prop} (hK31 : ∀ (x1 : Int32) (x2 : Int32) (x3 : Int32) (I : sw_I) (J : sw_J), K31 x1 x2 x3 I J → AW l D cy sz RX9 cX9_fits 4 (some .int) false rm_X9_fits 0 0 (sw_qi G Q) 0 0 G I J 31 [(0, .ref (sz + 0)), (1, .int x1), (2, .int x2), (3, .int x3)] []) {x1 : Int32} {x2 : Int32} {x3 : Int32} {I : sw_I} {J : sw_J} (h : wB_X9_fits_74  K31 Q x1 x2 x3 I J) : AW l D cy sz RX9 cX9_fits 4 (some .int) false rm_X9_fits 0 0 (sw_qi G Q) 0 0 G I J 74 [(0, .ref (sz + 0)), (1, .int x1), (2, .int x2), (3, .int x3)] [] := by
  unfold wB_X9_fits_74 at h
  obtain ⟨y_1, e_2⟩ : ∃ q : Int32, q = x3 + 1 := ⟨_, rfl⟩
  have h := h y_1 e_2
  refine aw_iinc (lv' := [(3, .int y_1), (0, .ref (sz + 0)), (1, .int x1), (2, .int x2)]) 3 dX9_fits_74 rfl (by rw [e_2]; rfl) (by decide) rfl ?_
  refine aw_goto 31 dX9_fits_77 (by decide) ?_
  refine aw_sub [1, 2, 3, 0] rfl ?_
  exact hK31 x1 x2 y_1 I J h
set_option maxRecDepth 20000 in
theorem t_X9_fits_71 {l : Launch} {D : va_G} {cy : Nat → ClassId} {sz : Nat} {G : sw_G} (hG : sw_lay G)   {Q : Int32 → sw_I → sw_J → Prop} {K31 : Int32 → Int32 → Int32 → sw_I → sw_J → Prop} (hK31 : ∀ (x1 : Int32) (x2 : Int32) (x3 : Int32) (I : sw_I) (J : sw_J), K31 x1 x2 x3 I J → AW l D cy sz RX9 cX9_fits 4 (some .int) false rm_X9_fits 0 0 (sw_qi G Q) 0 0 G I J 31 [(0, .ref (sz + 0)), (1, .int x1), (2, .int x2), (3, .int x3)] []) {x1 : Int32} {x3 : Int32} {s0 : Int32} {s1 : Int32} {s2 : Int32} {I : sw_I} {J : sw_J} (h : wB_X9_fits_71  K31 Q x1 x3 s0 s1 s2 I J) : AW l D cy sz RX9 cX9_fits 4 (some .int) false rm_X9_fits 0 0 (sw_qi G Q) 0 0 G I J 71 [(0, .ref (sz + 0)), (1, .int x1), (3, .int x3)] [.int s2, .int s1, .int s0] := by
  unfold wB_X9_fits_71 at h
  refine aw_ishl dX9_fits_71 ?_
  refine aw_ior dX9_fits_72 ?_
  refine aw_topi (fun y_1 e_2 => ?_)
  have h := h y_1 e_2
  refine aw_istore_n (lv' := [(2, .int y_1), (0, .ref (sz + 0)), (1, .int x1), (3, .int x3)]) dX9_fits_73 rfl (by decide) rfl ?_
  refine aw_sub [1, 2, 0, 3] rfl ?_
  exact t_X9_fits_74 hG  hK31 h
set_option maxRecDepth 20000 in
theorem tb_X9_fits_31 {l : Launch} {D : va_G} {cy : Nat → ClassId} {sz : Nat} {G : sw_G} (hG : sw_lay G)   {Q : Int32 → sw_I → sw_J → Prop} {K31 : Int32 → Int32 → Int32 → sw_I → sw_J → Prop} (hK31 : ∀ (x1 : Int32) (x2 : Int32) (x3 : Int32) (I : sw_I) (J : sw_J), K31 x1 x2 x3 I J → AW l D cy sz RX9 cX9_fits 4 (some .int) false rm_X9_fits 0 0 (sw_qi G Q) 0 0 G I J 31 [(0, .ref (sz + 0)), (1, .int x1), (2, .int x2), (3, .int x3)] []) {x1 : Int32} {x2 : Int32} {x3 : Int32} {I : sw_I} {J : sw_J} (h : wb_X9_fits_31  K31 Q x1 x2 x3 I J) : AW l D cy sz RX9 cX9_fits 4 (some .int) false rm_X9_fits 0 0 (sw_qi G Q) 0 0 G I J 31 [(0, .ref (sz + 0)), (1, .int x1), (2, .int x2), (3, .int x3)] [] := by
  unfold wb_X9_fits_31 at h
  refine aw_iload_n 3 dX9_fits_31 rfl rfl ?_
  refine aw_aload_n 0 dX9_fits_32 rfl rfl ?_
  refine gf_X9_1 fl_X9_19 (lk0 hG) (lr0_1 hG) dX9_fits_33 ?_
  refine gf_X1_0 fl_X9_224 (lk3 hG) dX9_fits_36 ?_
  refine aw_jge 80 dX9_fits_39 (by decide) (fun c_1 => ?_) (fun c_1 => ?_)
  · have h := sw_if.f h c_1
    refine aw_iload_n 2 dX9_fits_80 rfl rfl ?_
    exact aw_iret rfl dX9_fits_81 ⟨rfl, _, rfl, h⟩
  · have h := sw_if.t h c_1
    refine aw_aload_n 0 dX9_fits_42 rfl rfl ?_
    refine gf_X9_7 fl_X9_51 (lk0 hG) (lr0_7 hG) dX9_fits_43 ?_
    refine aw_aload_n 0 dX9_fits_46 rfl rfl ?_
    refine gf_X9_1 fl_X9_19 (lk0 hG) (lr0_1 hG) dX9_fits_47 ?_
    refine aw_iload_n 1 dX9_fits_50 rfl rfl ?_
    refine aw_iload_n 3 dX9_fits_51 rfl rfl ?_
    refine aw_callV wv_X7_allSoIf (M_X7_allSoIf hG  h) ml_X9_328 rfl (by decide) (lk109 hG) rfl rfl (Nat.le_of_ble_eq_true rfl) ⟨rfl, rfl⟩ ⟨Nat.le_of_ble_eq_true rfl, Nat.le_of_ble_eq_true rfl⟩ ⟨Nat.le_refl _, Nat.le_refl _⟩ dX9_fits_52 (aw_ki fun r_2 I_3 J_4 h => ?_)
    refine aw_zeq 74 dX9_fits_55 (by decide) (fun c_5 => ?_) (fun c_5 => ?_)
    · have h := sw_if.t h c_5
      refine aw_sub [0, 1, 2, 3] rfl ?_
      exact t_X9_fits_74 hG  hK31 h
    · have h := sw_if.f h c_5
      refine aw_iload_n 2 dX9_fits_58 rfl rfl ?_
      refine aw_iconst (v := 1) dX9_fits_59 (by decide) ?_
      refine aw_iload_n 3 dX9_fits_60 rfl rfl ?_
      refine aw_iconst (v := (-1)) dX9_fits_61 (by decide) ?_
      refine aw_jne 70 dX9_fits_62 (by decide) (fun c_6 => ?_) (fun c_6 => ?_)
      · have h := sw_if.f h c_6
        refine aw_iload_n 3 dX9_fits_70 rfl rfl ?_
        refine aw_sub [0, 1, 3] rfl ?_
        exact t_X9_fits_71 hG  hK31 h
      · have h := sw_if.t h c_6
        refine aw_bipush (v := 9) dX9_fits_65 (by decide) ?_
        refine aw_goto 71 dX9_fits_67 (by decide) ?_
        refine aw_sub [0, 1, 3] rfl ?_
        exact t_X9_fits_71 hG  hK31 h
set_option maxRecDepth 20000 in
theorem tl_X9_fits_31 {l : Launch} {D : va_G} {cy : Nat → ClassId} {sz : Nat} {G : sw_G} (hG : sw_lay G)   {Q : Int32 → sw_I → sw_J → Prop} : ∀ (n : Nat) (x1 : Int32) (x2 : Int32) (x3 : Int32) (I : sw_I) (J : sw_J), wl_X9_fits_31   Q n x1 x2 x3 I J → AW l D cy sz RX9 cX9_fits 4 (some .int) false rm_X9_fits 0 0 (sw_qi G Q) 0 0 G I J 31 [(0, .ref (sz + 0)), (1, .int x1), (2, .int x2), (3, .int x3)] [] := by
  intro n
  induction n with
  | zero => intro x1 x2 x3 I J h; exact False.elim h
  | succ n ih => intro x1 x2 x3 I J h; exact tb_X9_fits_31 hG  ih h
set_option maxRecDepth 20000 in
theorem t_X9_fits {l : Launch} {D : va_G} {cy : Nat → ClassId} {sz : Nat} {G : sw_G} (hG : sw_lay G)   {Q : Int32 → sw_I → sw_J → Prop} {x1 : Int32} {I : sw_I} {J : sw_J} (h : wp_X9_fits x1 I J Q) : AW l D cy sz RX9 cX9_fits 4 (some .int) false rm_X9_fits 0 0 (sw_qi G Q) 0 0 G I J 0 [(0, .ref (sz + 0)), (1, .int x1)] [] := by
  unfold wp_X9_fits at h
  refine aw_aload_n 0 dX9_fits_0 rfl rfl ?_
  refine gf_X9_1 fl_X9_19 (lk0 hG) (lr0_1 hG) dX9_fits_1 ?_
  refine aw_iload_n 1 dX9_fits_4 rfl rfl ?_
  refine aw_callV wv_X1_hasRider (M_X1_hasRider hG  h) ml_X9_112 rfl (by decide) (lk3 hG) rfl rfl (Nat.le_of_ble_eq_true rfl) ⟨rfl, rfl⟩ ⟨Nat.le_of_ble_eq_true rfl, Nat.le_of_ble_eq_true rfl⟩ ⟨Nat.le_refl _, Nat.le_refl _⟩ dX9_fits_5 (aw_ki fun r_1 I_2 J_3 h => ?_)
  refine aw_zne 13 dX9_fits_8 (by decide) (fun c_4 => ?_) (fun c_4 => ?_)
  · have h := sw_if.f h c_4
    refine aw_aload_n 0 dX9_fits_13 rfl rfl ?_
    refine gf_X9_7 fl_X9_51 (lk0 hG) (lr0_7 hG) dX9_fits_14 ?_
    refine aw_aload_n 0 dX9_fits_17 rfl rfl ?_
    refine gf_X9_2 fl_X9_26 (lk0 hG) (lr0_2 hG) dX9_fits_18 ?_
    refine gf_X3_1 fl_X9_123 (lk13 hG) (lr13_1 hG) dX9_fits_21 ?_
    refine aw_callV wv_X7_believe (M_X7_believe hG ⟨(lk15 hG), (ln15 hG)⟩ h) ml_X9_320 rfl (by decide) (lk109 hG) rfl rfl (Nat.le_of_ble_eq_true rfl) ⟨rfl, rfl⟩ ⟨Nat.le_of_ble_eq_true rfl, Nat.le_of_ble_eq_true rfl⟩ ⟨Nat.le_refl _, Nat.le_refl _⟩ dX9_fits_24 (aw_kv fun I_6 J_7 h => ?_)
    refine aw_iconst (v := 0) dX9_fits_27 (by decide) ?_
    refine aw_istore_n (lv' := [(2, .int 0), (0, .ref (sz + 0)), (1, .int x1)]) dX9_fits_28 rfl (by decide) rfl ?_
    refine aw_iconst (v := (-1)) dX9_fits_29 (by decide) ?_
    refine aw_istore_n (lv' := [(3, .int (-1)), (2, .int 0), (0, .ref (sz + 0)), (1, .int x1)]) dX9_fits_30 rfl (by decide) rfl ?_
    refine aw_sub [2, 3, 1, 0] rfl ?_
    obtain ⟨n_8, h⟩ := h
    exact tl_X9_fits_31 hG   n_8 x1 0 (-1) I_6 J_7 h
  · have h := sw_if.t h c_4
    refine aw_iconst (v := (-1)) dX9_fits_11 (by decide) ?_
    exact aw_iret rfl dX9_fits_12 ⟨rfl, _, rfl, h⟩
theorem M_X9_fits {l : Launch} {D : va_G} {cy : Nat → ClassId} {sz : Nat} {G : sw_G} (hG : sw_lay G)   {Q : Int32 → sw_I → sw_J → Prop} {x1 : Int32} {I : sw_I} {J : sw_J} (h : wp_X9_fits x1 I J Q) : Met l yX9_fits (Cond.code yX9_fits cX9_fits 4 (some .int) :: sw_T) rm_X9_fits (sw_Pc D cy sz [.ref (sz + 0), .int x1] G I J) (sw_Q D cy sz (sw_qi G Q)) 0 0 (fun q => sz ≤ q) :=
  sw_met (by decide) (fun q => by cases q) (Nat.le_of_ble_eq_true rfl) rfl (t_X9_fits hG  h)
-- X9_truly
abbrev rm_X9_truly : Room := { frames := 6, cells := 0, slots := 0, locals := 148 }
def wB_X9_truly_64  (K31 : Int32 → Int32 → Int32 → sw_I → sw_J → Prop) (Q : Int32 → sw_I → sw_J → Prop) (x1 : Int32) (x2 : Int32) (x3 : Int32) (I : sw_I) (J : sw_J) : Prop :=
  ∀ y_1 : Int32, y_1 = x3 + 1 → K31 x1 x2 y_1 I J
def wb_X9_truly_31  (K31 : Int32 → Int32 → Int32 → sw_I → sw_J → Prop) (Q : Int32 → sw_I → sw_J → Prop) (x1 : Int32) (x2 : Int32) (x3 : Int32) (I : sw_I) (J : sw_J) : Prop :=
  sw_if (x3 < (I 3 2)) (wp_X7_soWithOneMore x3 x1 I J (fun r_2 I_3 J_4 => sw_if (r_2 = 0) (wB_X9_truly_64  K31 Q x1 x2 x3 I_3 J_4) (∀ y_6 : Int32, y_6 = x2 ||| ((1 : Int32) <<< (x3 &&& 31)) → wB_X9_truly_64  K31 Q x1 y_6 x3 I_3 J_4))) (Q x2 I J)
def wl_X9_truly_31   (Q : Int32 → sw_I → sw_J → Prop) : Nat → Int32 → Int32 → Int32 → sw_I → sw_J → Prop
  | 0 => fun _ _ _ _ _ => False
  | n + 1 => fun x1 x2 x3 I J => wb_X9_truly_31  (wl_X9_truly_31   Q n) Q x1 x2 x3 I J
def wp_X9_truly (x1 : Int32) (I : sw_I) (J : sw_J) (Q : Int32 → sw_I → sw_J → Prop) : Prop :=
  wp_X1_hasFloor x1 I J (fun r_1 I_2 J_3 => sw_if (r_1 = 0) (Q (-1 : Int32) I_2 J_3) (wp_X7_believe 15 10 I_2 J_3 (fun I_6 J_7 => ∃ n_8 : Nat, wl_X9_truly_31   Q n_8 x1 0 0 I_6 J_7)))
set_option maxRecDepth 20000 in
theorem t_X9_truly_64 {l : Launch} {D : va_G} {cy : Nat → ClassId} {sz : Nat} {G : sw_G} (hG : sw_lay G)   {Q : Int32 → sw_I → sw_J → Prop} {K31 : Int32 → Int32 → Int32 → sw_I → sw_J → Prop} (hK31 : ∀ (x1 : Int32) (x2 : Int32) (x3 : Int32) (I : sw_I) (J : sw_J), K31 x1 x2 x3 I J → AW l D cy sz RX9 cX9_truly 4 (some .int) false rm_X9_truly 0 0 (sw_qi G Q) 0 0 G I J 31 [(0, .ref (sz + 0)), (1, .int x1), (2, .int x2), (3, .int x3)] []) {x1 : Int32} {x2 : Int32} {x3 : Int32} {I : sw_I} {J : sw_J} (h : wB_X9_truly_64  K31 Q x1 x2 x3 I J) : AW l D cy sz RX9 cX9_truly 4 (some .int) false rm_X9_truly 0 0 (sw_qi G Q) 0 0 G I J 64 [(0, .ref (sz + 0)), (1, .int x1), (2, .int x2), (3, .int x3)] [] := by
  unfold wB_X9_truly_64 at h
  obtain ⟨y_1, e_2⟩ : ∃ q : Int32, q = x3 + 1 := ⟨_, rfl⟩
  have h := h y_1 e_2
  refine aw_iinc (lv' := [(3, .int y_1), (0, .ref (sz + 0)), (1, .int x1), (2, .int x2)]) 3 dX9_truly_64 rfl (by rw [e_2]; rfl) (by decide) rfl ?_
  refine aw_goto 31 dX9_truly_67 (by decide) ?_
  refine aw_sub [1, 2, 3, 0] rfl ?_
  exact hK31 x1 x2 y_1 I J h
set_option maxRecDepth 20000 in
theorem tb_X9_truly_31 {l : Launch} {D : va_G} {cy : Nat → ClassId} {sz : Nat} {G : sw_G} (hG : sw_lay G)   {Q : Int32 → sw_I → sw_J → Prop} {K31 : Int32 → Int32 → Int32 → sw_I → sw_J → Prop} (hK31 : ∀ (x1 : Int32) (x2 : Int32) (x3 : Int32) (I : sw_I) (J : sw_J), K31 x1 x2 x3 I J → AW l D cy sz RX9 cX9_truly 4 (some .int) false rm_X9_truly 0 0 (sw_qi G Q) 0 0 G I J 31 [(0, .ref (sz + 0)), (1, .int x1), (2, .int x2), (3, .int x3)] []) {x1 : Int32} {x2 : Int32} {x3 : Int32} {I : sw_I} {J : sw_J} (h : wb_X9_truly_31  K31 Q x1 x2 x3 I J) : AW l D cy sz RX9 cX9_truly 4 (some .int) false rm_X9_truly 0 0 (sw_qi G Q) 0 0 G I J 31 [(0, .ref (sz + 0)), (1, .int x1), (2, .int x2), (3, .int x3)] [] := by
  unfold wb_X9_truly_31 at h
  refine aw_iload_n 3 dX9_truly_31 rfl rfl ?_
  refine aw_aload_n 0 dX9_truly_32 rfl rfl ?_
  refine gf_X9_1 fl_X9_19 (lk0 hG) (lr0_1 hG) dX9_truly_33 ?_
  refine gf_X1_2 fl_X9_144 (lk3 hG) dX9_truly_36 ?_
  refine aw_jge 70 dX9_truly_39 (by decide) (fun c_1 => ?_) (fun c_1 => ?_)
  · have h := sw_if.f h c_1
    refine aw_iload_n 2 dX9_truly_70 rfl rfl ?_
    exact aw_iret rfl dX9_truly_71 ⟨rfl, _, rfl, h⟩
  · have h := sw_if.t h c_1
    refine aw_aload_n 0 dX9_truly_42 rfl rfl ?_
    refine gf_X9_7 fl_X9_51 (lk0 hG) (lr0_7 hG) dX9_truly_43 ?_
    refine aw_aload_n 0 dX9_truly_46 rfl rfl ?_
    refine gf_X9_1 fl_X9_19 (lk0 hG) (lr0_1 hG) dX9_truly_47 ?_
    refine aw_iload_n 3 dX9_truly_50 rfl rfl ?_
    refine aw_iload_n 1 dX9_truly_51 rfl rfl ?_
    refine aw_callV wv_X7_soWithOneMore (M_X7_soWithOneMore hG  h) ml_X9_339 rfl (by decide) (lk109 hG) rfl rfl (Nat.le_of_ble_eq_true rfl) ⟨rfl, rfl⟩ ⟨Nat.le_of_ble_eq_true rfl, Nat.le_of_ble_eq_true rfl⟩ ⟨Nat.le_refl _, Nat.le_refl _⟩ dX9_truly_52 (aw_ki fun r_2 I_3 J_4 h => ?_)
    refine aw_zeq 64 dX9_truly_55 (by decide) (fun c_5 => ?_) (fun c_5 => ?_)
    · have h := sw_if.t h c_5
      refine aw_sub [0, 1, 2, 3] rfl ?_
      exact t_X9_truly_64 hG  hK31 h
    · have h := sw_if.f h c_5
      refine aw_iload_n 2 dX9_truly_58 rfl rfl ?_
      refine aw_iconst (v := 1) dX9_truly_59 (by decide) ?_
      refine aw_iload_n 3 dX9_truly_60 rfl rfl ?_
      refine aw_ishl dX9_truly_61 ?_
      refine aw_ior dX9_truly_62 ?_
      refine aw_topi (fun y_6 e_7 => ?_)
      have h := h y_6 e_7
      refine aw_istore_n (lv' := [(2, .int y_6), (0, .ref (sz + 0)), (1, .int x1), (3, .int x3)]) dX9_truly_63 rfl (by decide) rfl ?_
      refine aw_sub [1, 2, 0, 3] rfl ?_
      exact t_X9_truly_64 hG  hK31 h
set_option maxRecDepth 20000 in
theorem tl_X9_truly_31 {l : Launch} {D : va_G} {cy : Nat → ClassId} {sz : Nat} {G : sw_G} (hG : sw_lay G)   {Q : Int32 → sw_I → sw_J → Prop} : ∀ (n : Nat) (x1 : Int32) (x2 : Int32) (x3 : Int32) (I : sw_I) (J : sw_J), wl_X9_truly_31   Q n x1 x2 x3 I J → AW l D cy sz RX9 cX9_truly 4 (some .int) false rm_X9_truly 0 0 (sw_qi G Q) 0 0 G I J 31 [(0, .ref (sz + 0)), (1, .int x1), (2, .int x2), (3, .int x3)] [] := by
  intro n
  induction n with
  | zero => intro x1 x2 x3 I J h; exact False.elim h
  | succ n ih => intro x1 x2 x3 I J h; exact tb_X9_truly_31 hG  ih h
set_option maxRecDepth 20000 in
theorem t_X9_truly {l : Launch} {D : va_G} {cy : Nat → ClassId} {sz : Nat} {G : sw_G} (hG : sw_lay G)   {Q : Int32 → sw_I → sw_J → Prop} {x1 : Int32} {I : sw_I} {J : sw_J} (h : wp_X9_truly x1 I J Q) : AW l D cy sz RX9 cX9_truly 4 (some .int) false rm_X9_truly 0 0 (sw_qi G Q) 0 0 G I J 0 [(0, .ref (sz + 0)), (1, .int x1)] [] := by
  unfold wp_X9_truly at h
  refine aw_aload_n 0 dX9_truly_0 rfl rfl ?_
  refine gf_X9_1 fl_X9_19 (lk0 hG) (lr0_1 hG) dX9_truly_1 ?_
  refine aw_iload_n 1 dX9_truly_4 rfl rfl ?_
  refine aw_callV wv_X1_hasFloor (M_X1_hasFloor hG  h) ml_X9_138 rfl (by decide) (lk3 hG) rfl rfl (Nat.le_of_ble_eq_true rfl) ⟨rfl, rfl⟩ ⟨Nat.le_of_ble_eq_true rfl, Nat.le_of_ble_eq_true rfl⟩ ⟨Nat.le_refl _, Nat.le_refl _⟩ dX9_truly_5 (aw_ki fun r_1 I_2 J_3 h => ?_)
  refine aw_zne 13 dX9_truly_8 (by decide) (fun c_4 => ?_) (fun c_4 => ?_)
  · have h := sw_if.f h c_4
    refine aw_aload_n 0 dX9_truly_13 rfl rfl ?_
    refine gf_X9_7 fl_X9_51 (lk0 hG) (lr0_7 hG) dX9_truly_14 ?_
    refine aw_aload_n 0 dX9_truly_17 rfl rfl ?_
    refine gf_X9_2 fl_X9_26 (lk0 hG) (lr0_2 hG) dX9_truly_18 ?_
    refine gf_X3_1 fl_X9_123 (lk13 hG) (lr13_1 hG) dX9_truly_21 ?_
    refine aw_callV wv_X7_believe (M_X7_believe hG ⟨(lk15 hG), (ln15 hG)⟩ h) ml_X9_320 rfl (by decide) (lk109 hG) rfl rfl (Nat.le_of_ble_eq_true rfl) ⟨rfl, rfl⟩ ⟨Nat.le_of_ble_eq_true rfl, Nat.le_of_ble_eq_true rfl⟩ ⟨Nat.le_refl _, Nat.le_refl _⟩ dX9_truly_24 (aw_kv fun I_6 J_7 h => ?_)
    refine aw_iconst (v := 0) dX9_truly_27 (by decide) ?_
    refine aw_istore_n (lv' := [(2, .int 0), (0, .ref (sz + 0)), (1, .int x1)]) dX9_truly_28 rfl (by decide) rfl ?_
    refine aw_iconst (v := 0) dX9_truly_29 (by decide) ?_
    refine aw_istore_n (lv' := [(3, .int 0), (2, .int 0), (0, .ref (sz + 0)), (1, .int x1)]) dX9_truly_30 rfl (by decide) rfl ?_
    refine aw_sub [2, 3, 1, 0] rfl ?_
    obtain ⟨n_8, h⟩ := h
    exact tl_X9_truly_31 hG   n_8 x1 0 0 I_6 J_7 h
  · have h := sw_if.t h c_4
    refine aw_iconst (v := (-1)) dX9_truly_11 (by decide) ?_
    exact aw_iret rfl dX9_truly_12 ⟨rfl, _, rfl, h⟩
theorem M_X9_truly {l : Launch} {D : va_G} {cy : Nat → ClassId} {sz : Nat} {G : sw_G} (hG : sw_lay G)   {Q : Int32 → sw_I → sw_J → Prop} {x1 : Int32} {I : sw_I} {J : sw_J} (h : wp_X9_truly x1 I J Q) : Met l yX9_truly (Cond.code yX9_truly cX9_truly 4 (some .int) :: sw_T) rm_X9_truly (sw_Pc D cy sz [.ref (sz + 0), .int x1] G I J) (sw_Q D cy sz (sw_qi G Q)) 0 0 (fun q => sz ≤ q) :=
  sw_met (by decide) (fun q => by cases q) (Nat.le_of_ble_eq_true rfl) rfl (t_X9_truly hG  h)
-- X9_split
abbrev rm_X9_split : Room := { frames := 3, cells := 0, slots := 0, locals := 74 }
def wB_X9_split_111  (K31 : Int32 → Int32 → Int32 → Int32 → Int32 → Int32 → sw_I → sw_J → Prop) (Q : Int32 → sw_I → sw_J → Prop) (x1 : Int32) (x2 : Int32) (x3 : Int32) (x4 : Int32) (x5 : Int32) (x6 : Int32) (I : sw_I) (J : sw_J) : Prop :=
  wp_X9_nextSet x5 x1 I J (fun r_1 I_2 J_3 => ∀ y_4 : Int32, y_4 = x6 + 1 → K31 x1 x2 x3 x4 r_1 y_4 I_2 J_3)
def wb_X9_split_31  (K31 : Int32 → Int32 → Int32 → Int32 → Int32 → Int32 → sw_I → sw_J → Prop) (Q : Int32 → sw_I → sw_J → Prop) (x1 : Int32) (x2 : Int32) (x3 : Int32) (x4 : Int32) (x5 : Int32) (x6 : Int32) (I : sw_I) (J : sw_J) : Prop :=
  sw_if (x6 < x2) (wp_X1_nextStop 13 x5 I J (fun r_20 I_21 J_22 => wp_X1_homeAt x5 r_20 I_21 J_22 (fun r_23 I_24 J_25 => wp_X1_nextStop 13 (x1 &&& (x5 ^^^ (-1 : Int32))) I_24 J_25 (fun r_26 I_27 J_28 => wp_X1_homeAt (x1 &&& (x5 ^^^ (-1 : Int32))) r_26 I_27 J_28 (fun r_29 I_30 J_31 => ∀ y_32 : Int32, y_32 = r_23 ||| r_29 → wp_J6_bitCount_0f7a4 y_32 I_30 J_31 (fun r_34 I_35 J_36 => sw_if (x3 < r_34) (wp_J6_bitCount_0f7a4 y_32 I_35 J_36 (fun r_38 I_39 J_40 => wB_X9_split_111  K31 Q x1 x2 r_38 x5 x5 x6 I_39 J_40)) (wB_X9_split_111  K31 Q x1 x2 x3 x4 x5 x6 I_35 J_36))))))) (wp_X9_clearRow  I J (fun I_3 J_4 => wp_X9_tell x4.toInt64 I_3 J_4 (fun I_6 J_7 => wp_X1_nextStop 13 x4 I_6 J_7 (fun r_8 I_9 J_10 => wp_X9_tell r_8.toInt64 I_9 J_10 (fun I_12 J_13 => wp_X1_nextStop 13 (x1 &&& (x4 ^^^ (-1 : Int32))) I_12 J_13 (fun r_14 I_15 J_16 => wp_X9_tell r_14.toInt64 I_15 J_16 (fun I_18 J_19 => Q x3 I_18 J_19)))))))
def wl_X9_split_31   (Q : Int32 → sw_I → sw_J → Prop) : Nat → Int32 → Int32 → Int32 → Int32 → Int32 → Int32 → sw_I → sw_J → Prop
  | 0 => fun _ _ _ _ _ _ _ _ => False
  | n + 1 => fun x1 x2 x3 x4 x5 x6 I J => wb_X9_split_31  (wl_X9_split_31   Q n) Q x1 x2 x3 x4 x5 x6 I J
def wp_X9_split  (I : sw_I) (J : sw_J) (Q : Int32 → sw_I → sw_J → Prop) : Prop :=
  wp_X3_onFloor 13 (I 13 4) I J (fun r_1 I_2 J_3 => wp_X9_setsOf r_1 I_2 J_3 (fun r_4 I_5 J_6 => ∃ n_7 : Nat, wl_X9_split_31   Q n_7 r_1 r_4 (-1) 0 0 0 I_5 J_6))
set_option maxRecDepth 20000 in
theorem t_X9_split_111 {l : Launch} {D : va_G} {cy : Nat → ClassId} {sz : Nat} {G : sw_G} (hG : sw_lay G)   {Q : Int32 → sw_I → sw_J → Prop} {K31 : Int32 → Int32 → Int32 → Int32 → Int32 → Int32 → sw_I → sw_J → Prop} (hK31 : ∀ (x1 : Int32) (x2 : Int32) (x3 : Int32) (x4 : Int32) (x5 : Int32) (x6 : Int32) (I : sw_I) (J : sw_J), K31 x1 x2 x3 x4 x5 x6 I J → AW l D cy sz RX9 cX9_split 8 (some .int) false rm_X9_split 0 0 (sw_qi G Q) 0 0 G I J 31 [(0, .ref (sz + 0)), (1, .int x1), (2, .int x2), (3, .int x3), (4, .int x4), (5, .int x5), (6, .int x6)] []) {x1 : Int32} {x2 : Int32} {x3 : Int32} {x4 : Int32} {x5 : Int32} {x6 : Int32} {I : sw_I} {J : sw_J} (h : wB_X9_split_111  K31 Q x1 x2 x3 x4 x5 x6 I J) : AW l D cy sz RX9 cX9_split 8 (some .int) false rm_X9_split 0 0 (sw_qi G Q) 0 0 G I J 111 [(0, .ref (sz + 0)), (1, .int x1), (2, .int x2), (3, .int x3), (4, .int x4), (5, .int x5), (6, .int x6)] [] := by
  unfold wB_X9_split_111 at h
  refine aw_iload 5 dX9_split_111 rfl ?_
  refine aw_iload_n 1 dX9_split_113 rfl rfl ?_
  refine aw_callS wv_X9_nextSet (M_X9_nextSet trivial  h) ml_X9_248 rfl rfl (Nat.le_of_ble_eq_true rfl) ⟨rfl, rfl⟩ ⟨Nat.le_of_ble_eq_true rfl, Nat.le_of_ble_eq_true rfl⟩ ⟨Nat.le_refl _, Nat.le_refl _⟩ dX9_split_114 (aw_ki fun r_1 I_2 J_3 h => ?_)
  refine aw_istore (lv' := [(5, .int r_1), (0, .ref (sz + 0)), (1, .int x1), (2, .int x2), (3, .int x3), (4, .int x4), (6, .int x6)]) dX9_split_117 (by decide) rfl ?_
  obtain ⟨y_4, e_5⟩ : ∃ q : Int32, q = x6 + 1 := ⟨_, rfl⟩
  have h := h y_4 e_5
  refine aw_iinc (lv' := [(6, .int y_4), (5, .int r_1), (0, .ref (sz + 0)), (1, .int x1), (2, .int x2), (3, .int x3), (4, .int x4)]) 6 dX9_split_119 rfl (by rw [e_5]; rfl) (by decide) rfl ?_
  refine aw_goto 31 dX9_split_122 (by decide) ?_
  refine aw_sub [2, 3, 4, 5, 6, 1, 0] rfl ?_
  exact hK31 x1 x2 x3 x4 r_1 y_4 I_2 J_3 h
set_option maxRecDepth 20000 in
theorem tb_X9_split_31 {l : Launch} {D : va_G} {cy : Nat → ClassId} {sz : Nat} {G : sw_G} (hG : sw_lay G)   {Q : Int32 → sw_I → sw_J → Prop} {K31 : Int32 → Int32 → Int32 → Int32 → Int32 → Int32 → sw_I → sw_J → Prop} (hK31 : ∀ (x1 : Int32) (x2 : Int32) (x3 : Int32) (x4 : Int32) (x5 : Int32) (x6 : Int32) (I : sw_I) (J : sw_J), K31 x1 x2 x3 x4 x5 x6 I J → AW l D cy sz RX9 cX9_split 8 (some .int) false rm_X9_split 0 0 (sw_qi G Q) 0 0 G I J 31 [(0, .ref (sz + 0)), (1, .int x1), (2, .int x2), (3, .int x3), (4, .int x4), (5, .int x5), (6, .int x6)] []) {x1 : Int32} {x2 : Int32} {x3 : Int32} {x4 : Int32} {x5 : Int32} {x6 : Int32} {I : sw_I} {J : sw_J} (h : wb_X9_split_31  K31 Q x1 x2 x3 x4 x5 x6 I J) : AW l D cy sz RX9 cX9_split 8 (some .int) false rm_X9_split 0 0 (sw_qi G Q) 0 0 G I J 31 [(0, .ref (sz + 0)), (1, .int x1), (2, .int x2), (3, .int x3), (4, .int x4), (5, .int x5), (6, .int x6)] [] := by
  unfold wb_X9_split_31 at h
  refine aw_iload 6 dX9_split_31 rfl ?_
  refine aw_iload_n 2 dX9_split_33 rfl rfl ?_
  refine aw_jge 125 dX9_split_34 (by decide) (fun c_1 => ?_) (fun c_1 => ?_)
  · have h := sw_if.f h c_1
    refine aw_aload_n 0 dX9_split_125 rfl rfl ?_
    refine aw_callV wv_X9_clearRow (M_X9_clearRow hG  h) ml_X9_182 rfl (by decide) (lk0 hG) rfl rfl (Nat.le_of_ble_eq_true rfl) ⟨rfl, rfl⟩ ⟨Nat.le_of_ble_eq_true rfl, Nat.le_of_ble_eq_true rfl⟩ ⟨Nat.le_refl _, Nat.le_refl _⟩ dX9_split_126 (aw_kv fun I_3 J_4 h => ?_)
    refine aw_aload_n 0 dX9_split_129 rfl rfl ?_
    refine aw_iload 4 dX9_split_130 rfl ?_
    refine aw_i2l dX9_split_132 ?_
    refine aw_callV wv_X9_tell (M_X9_tell hG  h) ml_X9_185 rfl (by decide) (lk0 hG) rfl rfl (Nat.le_of_ble_eq_true rfl) ⟨rfl, rfl⟩ ⟨Nat.le_of_ble_eq_true rfl, Nat.le_of_ble_eq_true rfl⟩ ⟨Nat.le_refl _, Nat.le_refl _⟩ dX9_split_133 (aw_kv fun I_6 J_7 h => ?_)
    refine aw_aload_n 0 dX9_split_136 rfl rfl ?_
    refine aw_aload_n 0 dX9_split_137 rfl rfl ?_
    refine gf_X9_1 fl_X9_19 (lk0 hG) (lr0_1 hG) dX9_split_138 ?_
    refine aw_aload_n 0 dX9_split_141 rfl rfl ?_
    refine gf_X9_2 fl_X9_26 (lk0 hG) (lr0_2 hG) dX9_split_142 ?_
    refine aw_iload 4 dX9_split_145 rfl ?_
    refine aw_callV wv_X1_nextStop (M_X1_nextStop hG (lm13 hG) h) ml_X9_213 rfl (by decide) (lk3 hG) rfl rfl (Nat.le_of_ble_eq_true rfl) ⟨rfl, rfl⟩ ⟨Nat.le_of_ble_eq_true rfl, Nat.le_of_ble_eq_true rfl⟩ ⟨Nat.le_refl _, Nat.le_refl _⟩ dX9_split_147 (aw_ki fun r_8 I_9 J_10 h => ?_)
    refine aw_i2l dX9_split_150 ?_
    refine aw_callV wv_X9_tell (M_X9_tell hG  h) ml_X9_185 rfl (by decide) (lk0 hG) rfl rfl (Nat.le_of_ble_eq_true rfl) ⟨rfl, rfl⟩ ⟨Nat.le_of_ble_eq_true rfl, Nat.le_of_ble_eq_true rfl⟩ ⟨Nat.le_refl _, Nat.le_refl _⟩ dX9_split_151 (aw_kv fun I_12 J_13 h => ?_)
    refine aw_aload_n 0 dX9_split_154 rfl rfl ?_
    refine aw_aload_n 0 dX9_split_155 rfl rfl ?_
    refine gf_X9_1 fl_X9_19 (lk0 hG) (lr0_1 hG) dX9_split_156 ?_
    refine aw_aload_n 0 dX9_split_159 rfl rfl ?_
    refine gf_X9_2 fl_X9_26 (lk0 hG) (lr0_2 hG) dX9_split_160 ?_
    refine aw_iload_n 1 dX9_split_163 rfl rfl ?_
    refine aw_iload 4 dX9_split_164 rfl ?_
    refine aw_iconst (v := (-1)) dX9_split_166 (by decide) ?_
    refine aw_ixor dX9_split_167 ?_
    refine aw_iand dX9_split_168 ?_
    refine aw_callV wv_X1_nextStop (M_X1_nextStop hG (lm13 hG) h) ml_X9_213 rfl (by decide) (lk3 hG) rfl rfl (Nat.le_of_ble_eq_true rfl) ⟨rfl, rfl⟩ ⟨Nat.le_of_ble_eq_true rfl, Nat.le_of_ble_eq_true rfl⟩ ⟨Nat.le_refl _, Nat.le_refl _⟩ dX9_split_169 (aw_ki fun r_14 I_15 J_16 h => ?_)
    refine aw_i2l dX9_split_172 ?_
    refine aw_callV wv_X9_tell (M_X9_tell hG  h) ml_X9_185 rfl (by decide) (lk0 hG) rfl rfl (Nat.le_of_ble_eq_true rfl) ⟨rfl, rfl⟩ ⟨Nat.le_of_ble_eq_true rfl, Nat.le_of_ble_eq_true rfl⟩ ⟨Nat.le_refl _, Nat.le_refl _⟩ dX9_split_173 (aw_kv fun I_18 J_19 h => ?_)
    refine aw_iload_n 3 dX9_split_176 rfl rfl ?_
    exact aw_iret rfl dX9_split_177 ⟨rfl, _, rfl, h⟩
  · have h := sw_if.t h c_1
    refine aw_aload_n 0 dX9_split_37 rfl rfl ?_
    refine gf_X9_1 fl_X9_19 (lk0 hG) (lr0_1 hG) dX9_split_38 ?_
    refine aw_iload 5 dX9_split_41 rfl ?_
    refine aw_aload_n 0 dX9_split_43 rfl rfl ?_
    refine gf_X9_1 fl_X9_19 (lk0 hG) (lr0_1 hG) dX9_split_44 ?_
    refine aw_aload_n 0 dX9_split_47 rfl rfl ?_
    refine gf_X9_2 fl_X9_26 (lk0 hG) (lr0_2 hG) dX9_split_48 ?_
    refine aw_iload 5 dX9_split_51 rfl ?_
    refine aw_callV wv_X1_nextStop (M_X1_nextStop hG (lm13 hG) h) ml_X9_213 rfl (by decide) (lk3 hG) rfl rfl (Nat.le_of_ble_eq_true rfl) ⟨rfl, rfl⟩ ⟨Nat.le_of_ble_eq_true rfl, Nat.le_of_ble_eq_true rfl⟩ ⟨Nat.le_refl _, Nat.le_refl _⟩ dX9_split_53 (aw_ki fun r_20 I_21 J_22 h => ?_)
    refine aw_callV wv_X1_homeAt (M_X1_homeAt hG  h) ml_X9_350 rfl (by decide) (lk3 hG) rfl rfl (Nat.le_of_ble_eq_true rfl) ⟨rfl, rfl⟩ ⟨Nat.le_of_ble_eq_true rfl, Nat.le_of_ble_eq_true rfl⟩ ⟨Nat.le_refl _, Nat.le_refl _⟩ dX9_split_56 (aw_ki fun r_23 I_24 J_25 h => ?_)
    refine aw_aload_n 0 dX9_split_59 rfl rfl ?_
    refine gf_X9_1 fl_X9_19 (lk0 hG) (lr0_1 hG) dX9_split_60 ?_
    refine aw_iload_n 1 dX9_split_63 rfl rfl ?_
    refine aw_iload 5 dX9_split_64 rfl ?_
    refine aw_iconst (v := (-1)) dX9_split_66 (by decide) ?_
    refine aw_ixor dX9_split_67 ?_
    refine aw_iand dX9_split_68 ?_
    refine aw_aload_n 0 dX9_split_69 rfl rfl ?_
    refine gf_X9_1 fl_X9_19 (lk0 hG) (lr0_1 hG) dX9_split_70 ?_
    refine aw_aload_n 0 dX9_split_73 rfl rfl ?_
    refine gf_X9_2 fl_X9_26 (lk0 hG) (lr0_2 hG) dX9_split_74 ?_
    refine aw_iload_n 1 dX9_split_77 rfl rfl ?_
    refine aw_iload 5 dX9_split_78 rfl ?_
    refine aw_iconst (v := (-1)) dX9_split_80 (by decide) ?_
    refine aw_ixor dX9_split_81 ?_
    refine aw_iand dX9_split_82 ?_
    refine aw_callV wv_X1_nextStop (M_X1_nextStop hG (lm13 hG) h) ml_X9_213 rfl (by decide) (lk3 hG) rfl rfl (Nat.le_of_ble_eq_true rfl) ⟨rfl, rfl⟩ ⟨Nat.le_of_ble_eq_true rfl, Nat.le_of_ble_eq_true rfl⟩ ⟨Nat.le_refl _, Nat.le_refl _⟩ dX9_split_83 (aw_ki fun r_26 I_27 J_28 h => ?_)
    refine aw_callV wv_X1_homeAt (M_X1_homeAt hG  h) ml_X9_350 rfl (by decide) (lk3 hG) rfl rfl (Nat.le_of_ble_eq_true rfl) ⟨rfl, rfl⟩ ⟨Nat.le_of_ble_eq_true rfl, Nat.le_of_ble_eq_true rfl⟩ ⟨Nat.le_refl _, Nat.le_refl _⟩ dX9_split_86 (aw_ki fun r_29 I_30 J_31 h => ?_)
    refine aw_ior dX9_split_89 ?_
    refine aw_topi (fun y_32 e_33 => ?_)
    have h := h y_32 e_33
    refine aw_istore (lv' := [(7, .int y_32), (0, .ref (sz + 0)), (1, .int x1), (2, .int x2), (3, .int x3), (4, .int x4), (5, .int x5), (6, .int x6)]) dX9_split_90 (by decide) rfl ?_
    refine aw_iload 0 dX9_split_92 rfl ?_
    refine aw_callS wv_J6_bitCount_0f7a4 (M_J6_bitCount_0f7a4 trivial  h) ml_X9_267 rfl rfl (Nat.le_of_ble_eq_true rfl) ⟨rfl, rfl⟩ ⟨Nat.le_of_ble_eq_true rfl, Nat.le_of_ble_eq_true rfl⟩ ⟨Nat.le_refl _, Nat.le_refl _⟩ dX9_split_94 (aw_ki fun r_34 I_35 J_36 h => ?_)
    refine aw_iload_n 4 dX9_split_97 rfl rfl ?_
    refine aw_jle 111 dX9_split_98 (by decide) (fun c_37 => ?_) (fun c_37 => ?_)
    · have h := sw_if.f h c_37
      refine aw_sub [1, 2, 3, 4, 5, 6, 7] rfl ?_
      exact t_X9_split_111 hG  hK31 h
    · have h := sw_if.t h c_37
      refine aw_iload 0 dX9_split_101 rfl ?_
      refine aw_callS wv_J6_bitCount_0f7a4 (M_J6_bitCount_0f7a4 trivial  h) ml_X9_267 rfl rfl (Nat.le_of_ble_eq_true rfl) ⟨rfl, rfl⟩ ⟨Nat.le_of_ble_eq_true rfl, Nat.le_of_ble_eq_true rfl⟩ ⟨Nat.le_refl _, Nat.le_refl _⟩ dX9_split_103 (aw_ki fun r_38 I_39 J_40 h => ?_)
      refine aw_istore_n (lv' := [(3, .int r_38), (7, .int y_32), (0, .ref (sz + 0)), (1, .int x1), (2, .int x2), (4, .int x4), (5, .int x5), (6, .int x6)]) dX9_split_106 rfl (by decide) rfl ?_
      refine aw_iload 6 dX9_split_107 rfl ?_
      refine aw_istore (lv' := [(4, .int x5), (3, .int r_38), (7, .int y_32), (0, .ref (sz + 0)), (1, .int x1), (2, .int x2), (5, .int x5), (6, .int x6)]) dX9_split_109 (by decide) rfl ?_
      refine aw_sub [3, 4, 5, 1, 0, 6, 7] rfl ?_
      exact t_X9_split_111 hG  hK31 h
set_option maxRecDepth 20000 in
theorem tl_X9_split_31 {l : Launch} {D : va_G} {cy : Nat → ClassId} {sz : Nat} {G : sw_G} (hG : sw_lay G)   {Q : Int32 → sw_I → sw_J → Prop} : ∀ (n : Nat) (x1 : Int32) (x2 : Int32) (x3 : Int32) (x4 : Int32) (x5 : Int32) (x6 : Int32) (I : sw_I) (J : sw_J), wl_X9_split_31   Q n x1 x2 x3 x4 x5 x6 I J → AW l D cy sz RX9 cX9_split 8 (some .int) false rm_X9_split 0 0 (sw_qi G Q) 0 0 G I J 31 [(0, .ref (sz + 0)), (1, .int x1), (2, .int x2), (3, .int x3), (4, .int x4), (5, .int x5), (6, .int x6)] [] := by
  intro n
  induction n with
  | zero => intro x1 x2 x3 x4 x5 x6 I J h; exact False.elim h
  | succ n ih => intro x1 x2 x3 x4 x5 x6 I J h; exact tb_X9_split_31 hG  ih h
set_option maxRecDepth 20000 in
theorem t_X9_split {l : Launch} {D : va_G} {cy : Nat → ClassId} {sz : Nat} {G : sw_G} (hG : sw_lay G)   {Q : Int32 → sw_I → sw_J → Prop}  {I : sw_I} {J : sw_J} (h : wp_X9_split  I J Q) : AW l D cy sz RX9 cX9_split 8 (some .int) false rm_X9_split 0 0 (sw_qi G Q) 0 0 G I J 0 [(0, .ref (sz + 0))] [] := by
  unfold wp_X9_split at h
  refine aw_aload_n 0 dX9_split_0 rfl rfl ?_
  refine gf_X9_2 fl_X9_26 (lk0 hG) (lr0_2 hG) dX9_split_1 ?_
  refine aw_aload_n 0 dX9_split_4 rfl rfl ?_
  refine gf_X9_2 fl_X9_26 (lk0 hG) (lr0_2 hG) dX9_split_5 ?_
  refine gf_X3_4 fl_X9_87 (lk13 hG) dX9_split_8 ?_
  refine aw_callV wv_X3_onFloor (M_X3_onFloor trivial (lm13 hG) h) ml_X9_217 rfl (by decide) (lk13 hG) rfl rfl (Nat.le_of_ble_eq_true rfl) ⟨rfl, rfl⟩ ⟨Nat.le_of_ble_eq_true rfl, Nat.le_of_ble_eq_true rfl⟩ ⟨Nat.le_refl _, Nat.le_refl _⟩ dX9_split_11 (aw_ki fun r_1 I_2 J_3 h => ?_)
  refine aw_istore_n (lv' := [(1, .int r_1), (0, .ref (sz + 0))]) dX9_split_14 rfl (by decide) rfl ?_
  refine aw_iload_n 0 dX9_split_15 rfl rfl ?_
  refine aw_callS wv_X9_setsOf (M_X9_setsOf trivial  h) ml_X9_241 rfl rfl (Nat.le_of_ble_eq_true rfl) ⟨rfl, rfl⟩ ⟨Nat.le_of_ble_eq_true rfl, Nat.le_of_ble_eq_true rfl⟩ ⟨Nat.le_refl _, Nat.le_refl _⟩ dX9_split_16 (aw_ki fun r_4 I_5 J_6 h => ?_)
  refine aw_istore_n (lv' := [(2, .int r_4), (1, .int r_1), (0, .ref (sz + 0))]) dX9_split_19 rfl (by decide) rfl ?_
  refine aw_iconst (v := (-1)) dX9_split_20 (by decide) ?_
  refine aw_istore_n (lv' := [(3, .int (-1)), (2, .int r_4), (1, .int r_1), (0, .ref (sz + 0))]) dX9_split_21 rfl (by decide) rfl ?_
  refine aw_iconst (v := 0) dX9_split_22 (by decide) ?_
  refine aw_istore (lv' := [(4, .int 0), (3, .int (-1)), (2, .int r_4), (1, .int r_1), (0, .ref (sz + 0))]) dX9_split_23 (by decide) rfl ?_
  refine aw_iconst (v := 0) dX9_split_25 (by decide) ?_
  refine aw_istore (lv' := [(5, .int 0), (4, .int 0), (3, .int (-1)), (2, .int r_4), (1, .int r_1), (0, .ref (sz + 0))]) dX9_split_26 (by decide) rfl ?_
  refine aw_iconst (v := 0) dX9_split_28 (by decide) ?_
  refine aw_istore (lv' := [(6, .int 0), (5, .int 0), (4, .int 0), (3, .int (-1)), (2, .int r_4), (1, .int r_1), (0, .ref (sz + 0))]) dX9_split_29 (by decide) rfl ?_
  refine aw_sub [6, 5, 4, 3, 2, 1, 0] rfl ?_
  obtain ⟨n_7, h⟩ := h
  exact tl_X9_split_31 hG   n_7 r_1 r_4 (-1) 0 0 0 I_5 J_6 h
theorem M_X9_split {l : Launch} {D : va_G} {cy : Nat → ClassId} {sz : Nat} {G : sw_G} (hG : sw_lay G)   {Q : Int32 → sw_I → sw_J → Prop}  {I : sw_I} {J : sw_J} (h : wp_X9_split  I J Q) : Met l yX9_split (Cond.code yX9_split cX9_split 8 (some .int) :: sw_T) rm_X9_split (sw_Pc D cy sz [.ref (sz + 0)] G I J) (sw_Q D cy sz (sw_qi G Q)) 0 0 (fun q => sz ≤ q) :=
  sw_met (by decide) (fun q => by cases q) (Nat.le_of_ble_eq_true rfl) rfl (t_X9_split hG  h)
-- X9_fewestMoved
abbrev rm_X9_fewestMoved : Room := { frames := 3, cells := 0, slots := 0, locals := 74 }
def wB_X9_fewestMoved_84  (K31 : Int32 → Int32 → Int32 → Int32 → Int32 → Int32 → Int32 → sw_I → sw_J → Prop) (Q : Int32 → sw_I → sw_J → Prop) (x1 : Int32) (x2 : Int32) (x3 : Int32) (x4 : Int32) (x5 : Int32) (x6 : Int32) (x7 : Int32) (I : sw_I) (J : sw_J) : Prop :=
  wp_X9_nextSet x6 x2 I J (fun r_1 I_2 J_3 => ∀ y_4 : Int32, y_4 = x7 + 1 → K31 x1 x2 x3 x4 x5 r_1 y_4 I_2 J_3)
def wb_X9_fewestMoved_31  (K31 : Int32 → Int32 → Int32 → Int32 → Int32 → Int32 → Int32 → sw_I → sw_J → Prop) (Q : Int32 → sw_I → sw_J → Prop) (x1 : Int32) (x2 : Int32) (x3 : Int32) (x4 : Int32) (x5 : Int32) (x6 : Int32) (x7 : Int32) (I : sw_I) (J : sw_J) : Prop :=
  sw_if (x7 < x3) (wp_J6_bitCount_0f7a4 x6 I J (fun r_9 I_10 J_11 => sw_if (r_9 < x4) (wp_X1_nextStop 13 ((I_10 13 3) ^^^ x6) I_10 J_11 (fun r_13 I_14 J_15 => sw_if (r_13 = x1) (wB_X9_fewestMoved_84  K31 Q x1 x2 x3 r_9 x6 x6 x7 I_14 J_15) (wB_X9_fewestMoved_84  K31 Q x1 x2 x3 x4 x5 x6 x7 I_14 J_15))) (wB_X9_fewestMoved_84  K31 Q x1 x2 x3 x4 x5 x6 x7 I_10 J_11))) (sw_if ((10 : Int32) < x4) (Q (-2 : Int32) I J) (wp_X9_clearRow  I J (fun I_4 J_5 => wp_X9_tell x5.toInt64 I_4 J_5 (fun I_7 J_8 => Q x4 I_7 J_8))))
def wl_X9_fewestMoved_31   (Q : Int32 → sw_I → sw_J → Prop) : Nat → Int32 → Int32 → Int32 → Int32 → Int32 → Int32 → Int32 → sw_I → sw_J → Prop
  | 0 => fun _ _ _ _ _ _ _ _ _ => False
  | n + 1 => fun x1 x2 x3 x4 x5 x6 x7 I J => wb_X9_fewestMoved_31  (wl_X9_fewestMoved_31   Q n) Q x1 x2 x3 x4 x5 x6 x7 I J
def wp_X9_fewestMoved (x1 : Int32) (x2 : Int32) (I : sw_I) (J : sw_J) (Q : Int32 → sw_I → sw_J → Prop) : Prop :=
  wp_X1_hasFloor x1 I J (fun r_1 I_2 J_3 => sw_if (r_1 = 0) (Q (-1 : Int32) I_2 J_3) (wp_X9_setsOf x2 I_2 J_3 (fun r_5 I_6 J_7 => ∃ n_8 : Nat, wl_X9_fewestMoved_31   Q n_8 x1 x2 r_5 11 0 0 0 I_6 J_7)))
set_option maxRecDepth 20000 in
theorem t_X9_fewestMoved_84 {l : Launch} {D : va_G} {cy : Nat → ClassId} {sz : Nat} {G : sw_G} (hG : sw_lay G)   {Q : Int32 → sw_I → sw_J → Prop} {K31 : Int32 → Int32 → Int32 → Int32 → Int32 → Int32 → Int32 → sw_I → sw_J → Prop} (hK31 : ∀ (x1 : Int32) (x2 : Int32) (x3 : Int32) (x4 : Int32) (x5 : Int32) (x6 : Int32) (x7 : Int32) (I : sw_I) (J : sw_J), K31 x1 x2 x3 x4 x5 x6 x7 I J → AW l D cy sz RX9 cX9_fewestMoved 9 (some .int) false rm_X9_fewestMoved 0 0 (sw_qi G Q) 0 0 G I J 31 [(0, .ref (sz + 0)), (1, .int x1), (2, .int x2), (3, .int x3), (4, .int x4), (5, .int x5), (6, .int x6), (7, .int x7)] []) {x1 : Int32} {x2 : Int32} {x3 : Int32} {x4 : Int32} {x5 : Int32} {x6 : Int32} {x7 : Int32} {I : sw_I} {J : sw_J} (h : wB_X9_fewestMoved_84  K31 Q x1 x2 x3 x4 x5 x6 x7 I J) : AW l D cy sz RX9 cX9_fewestMoved 9 (some .int) false rm_X9_fewestMoved 0 0 (sw_qi G Q) 0 0 G I J 84 [(0, .ref (sz + 0)), (1, .int x1), (2, .int x2), (3, .int x3), (4, .int x4), (5, .int x5), (6, .int x6), (7, .int x7)] [] := by
  unfold wB_X9_fewestMoved_84 at h
  refine aw_iload 6 dX9_fewestMoved_84 rfl ?_
  refine aw_iload_n 2 dX9_fewestMoved_86 rfl rfl ?_
  refine aw_callS wv_X9_nextSet (M_X9_nextSet trivial  h) ml_X9_248 rfl rfl (Nat.le_of_ble_eq_true rfl) ⟨rfl, rfl⟩ ⟨Nat.le_of_ble_eq_true rfl, Nat.le_of_ble_eq_true rfl⟩ ⟨Nat.le_refl _, Nat.le_refl _⟩ dX9_fewestMoved_87 (aw_ki fun r_1 I_2 J_3 h => ?_)
  refine aw_istore (lv' := [(6, .int r_1), (0, .ref (sz + 0)), (1, .int x1), (2, .int x2), (3, .int x3), (4, .int x4), (5, .int x5), (7, .int x7)]) dX9_fewestMoved_90 (by decide) rfl ?_
  obtain ⟨y_4, e_5⟩ : ∃ q : Int32, q = x7 + 1 := ⟨_, rfl⟩
  have h := h y_4 e_5
  refine aw_iinc (lv' := [(7, .int y_4), (6, .int r_1), (0, .ref (sz + 0)), (1, .int x1), (2, .int x2), (3, .int x3), (4, .int x4), (5, .int x5)]) 7 dX9_fewestMoved_92 rfl (by rw [e_5]; rfl) (by decide) rfl ?_
  refine aw_goto 31 dX9_fewestMoved_95 (by decide) ?_
  refine aw_sub [2, 3, 4, 5, 6, 7, 1, 0] rfl ?_
  exact hK31 x1 x2 x3 x4 x5 r_1 y_4 I_2 J_3 h
set_option maxRecDepth 20000 in
theorem tb_X9_fewestMoved_31 {l : Launch} {D : va_G} {cy : Nat → ClassId} {sz : Nat} {G : sw_G} (hG : sw_lay G)   {Q : Int32 → sw_I → sw_J → Prop} {K31 : Int32 → Int32 → Int32 → Int32 → Int32 → Int32 → Int32 → sw_I → sw_J → Prop} (hK31 : ∀ (x1 : Int32) (x2 : Int32) (x3 : Int32) (x4 : Int32) (x5 : Int32) (x6 : Int32) (x7 : Int32) (I : sw_I) (J : sw_J), K31 x1 x2 x3 x4 x5 x6 x7 I J → AW l D cy sz RX9 cX9_fewestMoved 9 (some .int) false rm_X9_fewestMoved 0 0 (sw_qi G Q) 0 0 G I J 31 [(0, .ref (sz + 0)), (1, .int x1), (2, .int x2), (3, .int x3), (4, .int x4), (5, .int x5), (6, .int x6), (7, .int x7)] []) {x1 : Int32} {x2 : Int32} {x3 : Int32} {x4 : Int32} {x5 : Int32} {x6 : Int32} {x7 : Int32} {I : sw_I} {J : sw_J} (h : wb_X9_fewestMoved_31  K31 Q x1 x2 x3 x4 x5 x6 x7 I J) : AW l D cy sz RX9 cX9_fewestMoved 9 (some .int) false rm_X9_fewestMoved 0 0 (sw_qi G Q) 0 0 G I J 31 [(0, .ref (sz + 0)), (1, .int x1), (2, .int x2), (3, .int x3), (4, .int x4), (5, .int x5), (6, .int x6), (7, .int x7)] [] := by
  unfold wb_X9_fewestMoved_31 at h
  refine aw_iload 7 dX9_fewestMoved_31 rfl ?_
  refine aw_iload_n 3 dX9_fewestMoved_33 rfl rfl ?_
  refine aw_jge 98 dX9_fewestMoved_34 (by decide) (fun c_1 => ?_) (fun c_1 => ?_)
  · have h := sw_if.f h c_1
    refine aw_iload 4 dX9_fewestMoved_98 rfl ?_
    refine aw_bipush (v := 10) dX9_fewestMoved_100 (by decide) ?_
    refine aw_jle 108 dX9_fewestMoved_102 (by decide) (fun c_2 => ?_) (fun c_2 => ?_)
    · have h := sw_if.f h c_2
      refine aw_aload_n 0 dX9_fewestMoved_108 rfl rfl ?_
      refine aw_callV wv_X9_clearRow (M_X9_clearRow hG  h) ml_X9_182 rfl (by decide) (lk0 hG) rfl rfl (Nat.le_of_ble_eq_true rfl) ⟨rfl, rfl⟩ ⟨Nat.le_of_ble_eq_true rfl, Nat.le_of_ble_eq_true rfl⟩ ⟨Nat.le_refl _, Nat.le_refl _⟩ dX9_fewestMoved_109 (aw_kv fun I_4 J_5 h => ?_)
      refine aw_aload_n 0 dX9_fewestMoved_112 rfl rfl ?_
      refine aw_iload 5 dX9_fewestMoved_113 rfl ?_
      refine aw_i2l dX9_fewestMoved_115 ?_
      refine aw_callV wv_X9_tell (M_X9_tell hG  h) ml_X9_185 rfl (by decide) (lk0 hG) rfl rfl (Nat.le_of_ble_eq_true rfl) ⟨rfl, rfl⟩ ⟨Nat.le_of_ble_eq_true rfl, Nat.le_of_ble_eq_true rfl⟩ ⟨Nat.le_refl _, Nat.le_refl _⟩ dX9_fewestMoved_116 (aw_kv fun I_7 J_8 h => ?_)
      refine aw_iload 4 dX9_fewestMoved_119 rfl ?_
      exact aw_iret rfl dX9_fewestMoved_121 ⟨rfl, _, rfl, h⟩
    · have h := sw_if.t h c_2
      refine aw_bipush (v := (-2)) dX9_fewestMoved_105 (by decide) ?_
      exact aw_iret rfl dX9_fewestMoved_107 ⟨rfl, _, rfl, h⟩
  · have h := sw_if.t h c_1
    refine aw_iload 6 dX9_fewestMoved_37 rfl ?_
    refine aw_callS wv_J6_bitCount_0f7a4 (M_J6_bitCount_0f7a4 trivial  h) ml_X9_267 rfl rfl (Nat.le_of_ble_eq_true rfl) ⟨rfl, rfl⟩ ⟨Nat.le_of_ble_eq_true rfl, Nat.le_of_ble_eq_true rfl⟩ ⟨Nat.le_refl _, Nat.le_refl _⟩ dX9_fewestMoved_39 (aw_ki fun r_9 I_10 J_11 h => ?_)
    refine aw_istore (lv' := [(8, .int r_9), (0, .ref (sz + 0)), (1, .int x1), (2, .int x2), (3, .int x3), (4, .int x4), (5, .int x5), (6, .int x6), (7, .int x7)]) dX9_fewestMoved_42 (by decide) rfl ?_
    refine aw_iload 0 dX9_fewestMoved_44 rfl ?_
    refine aw_iload 5 dX9_fewestMoved_46 rfl ?_
    refine aw_jge 84 dX9_fewestMoved_48 (by decide) (fun c_12 => ?_) (fun c_12 => ?_)
    · have h := sw_if.f h c_12
      refine aw_sub [1, 2, 3, 4, 5, 6, 7, 8] rfl ?_
      exact t_X9_fewestMoved_84 hG  hK31 h
    · have h := sw_if.t h c_12
      refine aw_aload_n 1 dX9_fewestMoved_51 rfl rfl ?_
      refine gf_X9_1 fl_X9_19 (lk0 hG) (lr0_1 hG) dX9_fewestMoved_52 ?_
      refine aw_aload_n 1 dX9_fewestMoved_55 rfl rfl ?_
      refine gf_X9_2 fl_X9_26 (lk0 hG) (lr0_2 hG) dX9_fewestMoved_56 ?_
      refine aw_aload_n 1 dX9_fewestMoved_59 rfl rfl ?_
      refine gf_X9_2 fl_X9_26 (lk0 hG) (lr0_2 hG) dX9_fewestMoved_60 ?_
      refine gf_X3_3 fl_X9_132 (lk13 hG) dX9_fewestMoved_63 ?_
      refine aw_iload 7 dX9_fewestMoved_66 rfl ?_
      refine aw_ixor dX9_fewestMoved_68 ?_
      refine aw_callV wv_X1_nextStop (M_X1_nextStop hG (lm13 hG) h) ml_X9_213 rfl (by decide) (lk3 hG) rfl rfl (Nat.le_of_ble_eq_true rfl) ⟨rfl, rfl⟩ ⟨Nat.le_of_ble_eq_true rfl, Nat.le_of_ble_eq_true rfl⟩ ⟨Nat.le_refl _, Nat.le_refl _⟩ dX9_fewestMoved_69 (aw_ki fun r_13 I_14 J_15 h => ?_)
      refine aw_iload_n 2 dX9_fewestMoved_72 rfl rfl ?_
      refine aw_jne 84 dX9_fewestMoved_73 (by decide) (fun c_16 => ?_) (fun c_16 => ?_)
      · have h := sw_if.f h c_16
        refine aw_sub [1, 2, 3, 4, 5, 6, 7, 8] rfl ?_
        exact t_X9_fewestMoved_84 hG  hK31 h
      · have h := sw_if.t h c_16
        refine aw_iload 0 dX9_fewestMoved_76 rfl ?_
        refine aw_istore (lv' := [(4, .int r_9), (8, .int r_9), (0, .ref (sz + 0)), (1, .int x1), (2, .int x2), (3, .int x3), (5, .int x5), (6, .int x6), (7, .int x7)]) dX9_fewestMoved_78 (by decide) rfl ?_
        refine aw_iload 7 dX9_fewestMoved_80 rfl ?_
        refine aw_istore (lv' := [(5, .int x6), (4, .int r_9), (8, .int r_9), (0, .ref (sz + 0)), (1, .int x1), (2, .int x2), (3, .int x3), (6, .int x6), (7, .int x7)]) dX9_fewestMoved_82 (by decide) rfl ?_
        refine aw_sub [3, 4, 5, 6, 1, 0, 7, 8] rfl ?_
        exact t_X9_fewestMoved_84 hG  hK31 h
set_option maxRecDepth 20000 in
theorem tl_X9_fewestMoved_31 {l : Launch} {D : va_G} {cy : Nat → ClassId} {sz : Nat} {G : sw_G} (hG : sw_lay G)   {Q : Int32 → sw_I → sw_J → Prop} : ∀ (n : Nat) (x1 : Int32) (x2 : Int32) (x3 : Int32) (x4 : Int32) (x5 : Int32) (x6 : Int32) (x7 : Int32) (I : sw_I) (J : sw_J), wl_X9_fewestMoved_31   Q n x1 x2 x3 x4 x5 x6 x7 I J → AW l D cy sz RX9 cX9_fewestMoved 9 (some .int) false rm_X9_fewestMoved 0 0 (sw_qi G Q) 0 0 G I J 31 [(0, .ref (sz + 0)), (1, .int x1), (2, .int x2), (3, .int x3), (4, .int x4), (5, .int x5), (6, .int x6), (7, .int x7)] [] := by
  intro n
  induction n with
  | zero => intro x1 x2 x3 x4 x5 x6 x7 I J h; exact False.elim h
  | succ n ih => intro x1 x2 x3 x4 x5 x6 x7 I J h; exact tb_X9_fewestMoved_31 hG  ih h
set_option maxRecDepth 20000 in
theorem t_X9_fewestMoved {l : Launch} {D : va_G} {cy : Nat → ClassId} {sz : Nat} {G : sw_G} (hG : sw_lay G)   {Q : Int32 → sw_I → sw_J → Prop} {x1 : Int32} {x2 : Int32} {I : sw_I} {J : sw_J} (h : wp_X9_fewestMoved x1 x2 I J Q) : AW l D cy sz RX9 cX9_fewestMoved 9 (some .int) false rm_X9_fewestMoved 0 0 (sw_qi G Q) 0 0 G I J 0 [(0, .ref (sz + 0)), (1, .int x1), (2, .int x2)] [] := by
  unfold wp_X9_fewestMoved at h
  refine aw_aload_n 0 dX9_fewestMoved_0 rfl rfl ?_
  refine gf_X9_1 fl_X9_19 (lk0 hG) (lr0_1 hG) dX9_fewestMoved_1 ?_
  refine aw_iload_n 1 dX9_fewestMoved_4 rfl rfl ?_
  refine aw_callV wv_X1_hasFloor (M_X1_hasFloor hG  h) ml_X9_138 rfl (by decide) (lk3 hG) rfl rfl (Nat.le_of_ble_eq_true rfl) ⟨rfl, rfl⟩ ⟨Nat.le_of_ble_eq_true rfl, Nat.le_of_ble_eq_true rfl⟩ ⟨Nat.le_refl _, Nat.le_refl _⟩ dX9_fewestMoved_5 (aw_ki fun r_1 I_2 J_3 h => ?_)
  refine aw_zne 13 dX9_fewestMoved_8 (by decide) (fun c_4 => ?_) (fun c_4 => ?_)
  · have h := sw_if.f h c_4
    refine aw_iload_n 2 dX9_fewestMoved_13 rfl rfl ?_
    refine aw_callS wv_X9_setsOf (M_X9_setsOf trivial  h) ml_X9_241 rfl rfl (Nat.le_of_ble_eq_true rfl) ⟨rfl, rfl⟩ ⟨Nat.le_of_ble_eq_true rfl, Nat.le_of_ble_eq_true rfl⟩ ⟨Nat.le_refl _, Nat.le_refl _⟩ dX9_fewestMoved_14 (aw_ki fun r_5 I_6 J_7 h => ?_)
    refine aw_istore_n (lv' := [(3, .int r_5), (0, .ref (sz + 0)), (1, .int x1), (2, .int x2)]) dX9_fewestMoved_17 rfl (by decide) rfl ?_
    refine aw_bipush (v := 11) dX9_fewestMoved_18 (by decide) ?_
    refine aw_istore (lv' := [(4, .int 11), (3, .int r_5), (0, .ref (sz + 0)), (1, .int x1), (2, .int x2)]) dX9_fewestMoved_20 (by decide) rfl ?_
    refine aw_iconst (v := 0) dX9_fewestMoved_22 (by decide) ?_
    refine aw_istore (lv' := [(5, .int 0), (4, .int 11), (3, .int r_5), (0, .ref (sz + 0)), (1, .int x1), (2, .int x2)]) dX9_fewestMoved_23 (by decide) rfl ?_
    refine aw_iconst (v := 0) dX9_fewestMoved_25 (by decide) ?_
    refine aw_istore (lv' := [(6, .int 0), (5, .int 0), (4, .int 11), (3, .int r_5), (0, .ref (sz + 0)), (1, .int x1), (2, .int x2)]) dX9_fewestMoved_26 (by decide) rfl ?_
    refine aw_iconst (v := 0) dX9_fewestMoved_28 (by decide) ?_
    refine aw_istore (lv' := [(7, .int 0), (6, .int 0), (5, .int 0), (4, .int 11), (3, .int r_5), (0, .ref (sz + 0)), (1, .int x1), (2, .int x2)]) dX9_fewestMoved_29 (by decide) rfl ?_
    refine aw_sub [5, 6, 7, 4, 3, 2, 1, 0] rfl ?_
    obtain ⟨n_8, h⟩ := h
    exact tl_X9_fewestMoved_31 hG   n_8 x1 x2 r_5 11 0 0 0 I_6 J_7 h
  · have h := sw_if.t h c_4
    refine aw_iconst (v := (-1)) dX9_fewestMoved_11 (by decide) ?_
    exact aw_iret rfl dX9_fewestMoved_12 ⟨rfl, _, rfl, h⟩
theorem M_X9_fewestMoved {l : Launch} {D : va_G} {cy : Nat → ClassId} {sz : Nat} {G : sw_G} (hG : sw_lay G)   {Q : Int32 → sw_I → sw_J → Prop} {x1 : Int32} {x2 : Int32} {I : sw_I} {J : sw_J} (h : wp_X9_fewestMoved x1 x2 I J Q) : Met l yX9_fewestMoved (Cond.code yX9_fewestMoved cX9_fewestMoved 9 (some .int) :: sw_T) rm_X9_fewestMoved (sw_Pc D cy sz [.ref (sz + 0), .int x1, .int x2] G I J) (sw_Q D cy sz (sw_qi G Q)) 0 0 (fun q => sz ≤ q) :=
  sw_met (by decide) (fun q => by cases q) (Nat.le_of_ble_eq_true rfl) rfl (t_X9_fewestMoved hG  h)
-- X9_distanceBy
abbrev rm_X9_distanceBy : Room := { frames := 3, cells := 0, slots := 0, locals := 74 }
def wp_X9_distanceBy (a1 : Nat) (x2 : Int32) (x3 : Int32) (I : sw_I) (J : sw_J) (Q : Int32 → sw_I → sw_J → Prop) : Prop :=
  vp_in x2 10 ∧ ∀ y_2 : Int32, y_2 = (I (a1 + 2) x2.toNatClampNeg) → vp_in x2 10 ∧ ∀ I_5 : sw_I, I_5 = sw_up I (a1 + 2) x2.toNatClampNeg x3 → wp_X1_nextStop a1 (I_5 a1 3) I_5 J (fun r_7 I_8 J_9 => vp_in x2 10 ∧ ∀ I_11 : sw_I, I_11 = sw_up I_8 (a1 + 2) x2.toNatClampNeg y_2 → vp_in x2 10 ∧ Q (if 0 ≤ (r_7 - (I_11 4 x2.toNatClampNeg)) then (r_7 - (I_11 4 x2.toNatClampNeg)) else 0 - (r_7 - (I_11 4 x2.toNatClampNeg))) I_11 J_9)
set_option maxRecDepth 20000 in
theorem t_X9_distanceBy {l : Launch} {D : va_G} {cy : Nat → ClassId} {sz : Nat} {G : sw_G} (hG : sw_lay G) {a1 : Nat} (ha1 : sw_mom G a1) {Q : Int32 → sw_I → sw_J → Prop} {x2 : Int32} {x3 : Int32} {I : sw_I} {J : sw_J} (h : wp_X9_distanceBy a1 x2 x3 I J Q) : AW l D cy sz RX9 cX9_distanceBy 6 (some .int) false rm_X9_distanceBy 0 0 (sw_qi G Q) 0 0 G I J 0 [(0, .ref (sz + 0)), (1, .ref (sz + a1)), (2, .int x2), (3, .int x3)] [] := by
  unfold wp_X9_distanceBy at h
  refine aw_aload_n 1 dX9_distanceBy_0 rfl rfl ?_
  refine gf_X3_1 fl_X9_123 ha1.1 ha1.2.1.2.1 dX9_distanceBy_1 ?_
  refine aw_iload_n 2 dX9_distanceBy_4 rfl rfl ?_
  obtain ⟨hi_1, h⟩ := h
  refine aw_ild dX9_distanceBy_5 ha1.2.2.2.1 ha1.2.2.2.2.2.2.1 hi_1 ?_
  refine aw_topi (fun y_2 e_3 => ?_)
  have h := h y_2 e_3
  refine aw_istore (lv' := [(4, .int y_2), (0, .ref (sz + 0)), (1, .ref (sz + a1)), (2, .int x2), (3, .int x3)]) dX9_distanceBy_6 (by decide) rfl ?_
  refine aw_aload_n 2 dX9_distanceBy_8 rfl rfl ?_
  refine gf_X3_1 fl_X9_123 ha1.1 ha1.2.1.2.1 dX9_distanceBy_9 ?_
  refine aw_iload_n 3 dX9_distanceBy_12 rfl rfl ?_
  refine aw_iload_n 4 dX9_distanceBy_13 rfl rfl ?_
  obtain ⟨hi_4, h⟩ := h
  refine aw_ist dX9_distanceBy_14 ha1.2.2.2.1 ha1.2.2.2.2.2.2.1 hi_4 (aw_nameI fun I_5 e_6 => ?_)
  have h := h I_5 e_6
  refine aw_aload_n 1 dX9_distanceBy_15 rfl rfl ?_
  refine gf_X9_1 fl_X9_19 (lk0 hG) (lr0_1 hG) dX9_distanceBy_16 ?_
  refine aw_aload_n 2 dX9_distanceBy_19 rfl rfl ?_
  refine aw_aload_n 2 dX9_distanceBy_20 rfl rfl ?_
  refine gf_X3_3 fl_X9_132 ha1.1 dX9_distanceBy_21 ?_
  refine aw_callV wv_X1_nextStop (M_X1_nextStop hG ha1 h) ml_X9_213 rfl (by decide) (lk3 hG) rfl rfl (Nat.le_of_ble_eq_true rfl) ⟨rfl, rfl⟩ ⟨Nat.le_of_ble_eq_true rfl, Nat.le_of_ble_eq_true rfl⟩ ⟨Nat.le_refl _, Nat.le_refl _⟩ dX9_distanceBy_24 (aw_ki fun r_7 I_8 J_9 h => ?_)
  refine aw_istore (lv' := [(5, .int r_7), (4, .int y_2), (0, .ref (sz + 0)), (1, .ref (sz + a1)), (2, .int x2), (3, .int x3)]) dX9_distanceBy_27 (by decide) rfl ?_
  refine aw_aload_n 3 dX9_distanceBy_29 rfl rfl ?_
  refine gf_X3_1 fl_X9_123 ha1.1 ha1.2.1.2.1 dX9_distanceBy_30 ?_
  refine aw_iload_n 4 dX9_distanceBy_33 rfl rfl ?_
  refine aw_iload 1 dX9_distanceBy_34 rfl ?_
  obtain ⟨hi_10, h⟩ := h
  refine aw_ist dX9_distanceBy_36 ha1.2.2.2.1 ha1.2.2.2.2.2.2.1 hi_10 (aw_nameI fun I_11 e_12 => ?_)
  have h := h I_11 e_12
  refine aw_iload 0 dX9_distanceBy_37 rfl ?_
  refine aw_aload_n 2 dX9_distanceBy_39 rfl rfl ?_
  refine gf_X9_1 fl_X9_19 (lk0 hG) (lr0_1 hG) dX9_distanceBy_40 ?_
  refine gf_X1_3 fl_X9_119 (lk3 hG) (lr3_3 hG) dX9_distanceBy_43 ?_
  refine aw_iload_n 4 dX9_distanceBy_46 rfl rfl ?_
  obtain ⟨hi_13, h⟩ := h
  refine aw_ild dX9_distanceBy_47 (lk4 hG) (ln4 hG) hi_13 ?_
  refine aw_isub dX9_distanceBy_48 ?_
  refine aw_mabs mm_X9_357 wm_abs (Nat.le_of_ble_eq_true rfl) (Nat.le_of_ble_eq_true rfl) ⟨Nat.le_refl _, Nat.le_refl _⟩ dX9_distanceBy_49 ?_
  exact aw_iret rfl dX9_distanceBy_52 ⟨rfl, _, rfl, h⟩
theorem M_X9_distanceBy {l : Launch} {D : va_G} {cy : Nat → ClassId} {sz : Nat} {G : sw_G} (hG : sw_lay G) {a1 : Nat} (ha1 : sw_mom G a1) {Q : Int32 → sw_I → sw_J → Prop} {x2 : Int32} {x3 : Int32} {I : sw_I} {J : sw_J} (h : wp_X9_distanceBy a1 x2 x3 I J Q) : Met l yX9_distanceBy (Cond.code yX9_distanceBy cX9_distanceBy 6 (some .int) :: sw_T) rm_X9_distanceBy (sw_Pc D cy sz [.ref (sz + 0), .ref (sz + a1), .int x2, .int x3] G I J) (sw_Q D cy sz (sw_qi G Q)) 0 0 (fun q => sz ≤ q) :=
  sw_met (by decide) (fun q => by cases q) (Nat.le_of_ble_eq_true rfl) rfl (t_X9_distanceBy hG ha1 h)
-- X9_bestWish
abbrev rm_X9_bestWish : Room := { frames := 4, cells := 0, slots := 0, locals := 99 }
def wB_X9_bestWish_55 (a1 : Nat) (K19 : Int32 → Int32 → Int32 → Int32 → sw_I → sw_J → Prop) (Q : Int32 → sw_I → sw_J → Prop) (x2 : Int32) (x3 : Int32) (x4 : Int32) (x5 : Int32) (I : sw_I) (J : sw_J) : Prop :=
  ∀ y_1 : Int32, y_1 = x5 + 1 → K19 x2 x3 x4 y_1 I J
def wb_X9_bestWish_19 (a1 : Nat) (K19 : Int32 → Int32 → Int32 → Int32 → sw_I → sw_J → Prop) (Q : Int32 → sw_I → sw_J → Prop) (x2 : Int32) (x3 : Int32) (x4 : Int32) (x5 : Int32) (I : sw_I) (J : sw_J) : Prop :=
  sw_if (x5 < (I 3 0)) (wp_X9_distanceBy a1 x2 x5 I J (fun r_2 I_3 J_4 => sw_if (r_2 < x4) (wB_X9_bestWish_55 a1 K19 Q x2 x5 r_2 x5 I_3 J_4) (wB_X9_bestWish_55 a1 K19 Q x2 x3 x4 x5 I_3 J_4))) (Q x3 I J)
def wl_X9_bestWish_19 (a1 : Nat)  (Q : Int32 → sw_I → sw_J → Prop) : Nat → Int32 → Int32 → Int32 → Int32 → sw_I → sw_J → Prop
  | 0 => fun _ _ _ _ _ _ => False
  | n + 1 => fun x2 x3 x4 x5 I J => wb_X9_bestWish_19 a1 (wl_X9_bestWish_19 a1  Q n) Q x2 x3 x4 x5 I J
def wp_X9_bestWish (a1 : Nat) (x2 : Int32) (I : sw_I) (J : sw_J) (Q : Int32 → sw_I → sw_J → Prop) : Prop :=
  vp_in x2 10 ∧ ∀ y_2 : Int32, y_2 = (I (a1 + 2) x2.toNatClampNeg) → wp_X9_distanceBy a1 x2 y_2 I J (fun r_4 I_5 J_6 => ∃ n_7 : Nat, wl_X9_bestWish_19 a1  Q n_7 x2 y_2 r_4 (-1) I_5 J_6)
set_option maxRecDepth 20000 in
theorem t_X9_bestWish_55 {l : Launch} {D : va_G} {cy : Nat → ClassId} {sz : Nat} {G : sw_G} (hG : sw_lay G) {a1 : Nat} (ha1 : sw_mom G a1) {Q : Int32 → sw_I → sw_J → Prop} {K19 : Int32 → Int32 → Int32 → Int32 → sw_I → sw_J → Prop} (hK19 : ∀ (x2 : Int32) (x3 : Int32) (x4 : Int32) (x5 : Int32) (I : sw_I) (J : sw_J), K19 x2 x3 x4 x5 I J → AW l D cy sz RX9 cX9_bestWish 7 (some .int) false rm_X9_bestWish 0 0 (sw_qi G Q) 0 0 G I J 19 [(0, .ref (sz + 0)), (1, .ref (sz + a1)), (2, .int x2), (3, .int x3), (4, .int x4), (5, .int x5)] []) {x2 : Int32} {x3 : Int32} {x4 : Int32} {x5 : Int32} {I : sw_I} {J : sw_J} (h : wB_X9_bestWish_55 a1 K19 Q x2 x3 x4 x5 I J) : AW l D cy sz RX9 cX9_bestWish 7 (some .int) false rm_X9_bestWish 0 0 (sw_qi G Q) 0 0 G I J 55 [(0, .ref (sz + 0)), (1, .ref (sz + a1)), (2, .int x2), (3, .int x3), (4, .int x4), (5, .int x5)] [] := by
  unfold wB_X9_bestWish_55 at h
  obtain ⟨y_1, e_2⟩ : ∃ q : Int32, q = x5 + 1 := ⟨_, rfl⟩
  have h := h y_1 e_2
  refine aw_iinc (lv' := [(5, .int y_1), (0, .ref (sz + 0)), (1, .ref (sz + a1)), (2, .int x2), (3, .int x3), (4, .int x4)]) 5 dX9_bestWish_55 rfl (by rw [e_2]; rfl) (by decide) rfl ?_
  refine aw_goto 19 dX9_bestWish_58 (by decide) ?_
  refine aw_sub [1, 2, 3, 4, 5, 0] rfl ?_
  exact hK19 x2 x3 x4 y_1 I J h
set_option maxRecDepth 20000 in
theorem tb_X9_bestWish_19 {l : Launch} {D : va_G} {cy : Nat → ClassId} {sz : Nat} {G : sw_G} (hG : sw_lay G) {a1 : Nat} (ha1 : sw_mom G a1) {Q : Int32 → sw_I → sw_J → Prop} {K19 : Int32 → Int32 → Int32 → Int32 → sw_I → sw_J → Prop} (hK19 : ∀ (x2 : Int32) (x3 : Int32) (x4 : Int32) (x5 : Int32) (I : sw_I) (J : sw_J), K19 x2 x3 x4 x5 I J → AW l D cy sz RX9 cX9_bestWish 7 (some .int) false rm_X9_bestWish 0 0 (sw_qi G Q) 0 0 G I J 19 [(0, .ref (sz + 0)), (1, .ref (sz + a1)), (2, .int x2), (3, .int x3), (4, .int x4), (5, .int x5)] []) {x2 : Int32} {x3 : Int32} {x4 : Int32} {x5 : Int32} {I : sw_I} {J : sw_J} (h : wb_X9_bestWish_19 a1 K19 Q x2 x3 x4 x5 I J) : AW l D cy sz RX9 cX9_bestWish 7 (some .int) false rm_X9_bestWish 0 0 (sw_qi G Q) 0 0 G I J 19 [(0, .ref (sz + 0)), (1, .ref (sz + a1)), (2, .int x2), (3, .int x3), (4, .int x4), (5, .int x5)] [] := by
  unfold wb_X9_bestWish_19 at h
  refine aw_iload 5 dX9_bestWish_19 rfl ?_
  refine aw_aload_n 0 dX9_bestWish_21 rfl rfl ?_
  refine gf_X9_1 fl_X9_19 (lk0 hG) (lr0_1 hG) dX9_bestWish_22 ?_
  refine gf_X1_0 fl_X9_224 (lk3 hG) dX9_bestWish_25 ?_
  refine aw_jge 61 dX9_bestWish_28 (by decide) (fun c_1 => ?_) (fun c_1 => ?_)
  · have h := sw_if.f h c_1
    refine aw_iload_n 3 dX9_bestWish_61 rfl rfl ?_
    exact aw_iret rfl dX9_bestWish_62 ⟨rfl, _, rfl, h⟩
  · have h := sw_if.t h c_1
    refine aw_aload_n 0 dX9_bestWish_31 rfl rfl ?_
    refine aw_aload_n 1 dX9_bestWish_32 rfl rfl ?_
    refine aw_iload_n 2 dX9_bestWish_33 rfl rfl ?_
    refine aw_iload 5 dX9_bestWish_34 rfl ?_
    refine aw_callV wv_X9_distanceBy (M_X9_distanceBy hG ha1 h) ml_X9_260 rfl (by decide) (lk0 hG) rfl rfl (Nat.le_of_ble_eq_true rfl) ⟨rfl, rfl⟩ ⟨Nat.le_of_ble_eq_true rfl, Nat.le_of_ble_eq_true rfl⟩ ⟨Nat.le_refl _, Nat.le_refl _⟩ dX9_bestWish_36 (aw_ki fun r_2 I_3 J_4 h => ?_)
    refine aw_istore (lv' := [(6, .int r_2), (0, .ref (sz + 0)), (1, .ref (sz + a1)), (2, .int x2), (3, .int x3), (4, .int x4), (5, .int x5)]) dX9_bestWish_39 (by decide) rfl ?_
    refine aw_iload 0 dX9_bestWish_41 rfl ?_
    refine aw_iload 5 dX9_bestWish_43 rfl ?_
    refine aw_jge 55 dX9_bestWish_45 (by decide) (fun c_5 => ?_) (fun c_5 => ?_)
    · have h := sw_if.f h c_5
      refine aw_sub [1, 2, 3, 4, 5, 6] rfl ?_
      exact t_X9_bestWish_55 hG ha1 hK19 h
    · have h := sw_if.t h c_5
      refine aw_iload 0 dX9_bestWish_48 rfl ?_
      refine aw_istore (lv' := [(4, .int r_2), (6, .int r_2), (0, .ref (sz + 0)), (1, .ref (sz + a1)), (2, .int x2), (3, .int x3), (5, .int x5)]) dX9_bestWish_50 (by decide) rfl ?_
      refine aw_iload 6 dX9_bestWish_52 rfl ?_
      refine aw_istore_n (lv' := [(3, .int x5), (4, .int r_2), (6, .int r_2), (0, .ref (sz + 0)), (1, .ref (sz + a1)), (2, .int x2), (5, .int x5)]) dX9_bestWish_54 rfl (by decide) rfl ?_
      refine aw_sub [3, 4, 5, 0, 1, 6] rfl ?_
      exact t_X9_bestWish_55 hG ha1 hK19 h
set_option maxRecDepth 20000 in
theorem tl_X9_bestWish_19 {l : Launch} {D : va_G} {cy : Nat → ClassId} {sz : Nat} {G : sw_G} (hG : sw_lay G) {a1 : Nat} (ha1 : sw_mom G a1) {Q : Int32 → sw_I → sw_J → Prop} : ∀ (n : Nat) (x2 : Int32) (x3 : Int32) (x4 : Int32) (x5 : Int32) (I : sw_I) (J : sw_J), wl_X9_bestWish_19 a1  Q n x2 x3 x4 x5 I J → AW l D cy sz RX9 cX9_bestWish 7 (some .int) false rm_X9_bestWish 0 0 (sw_qi G Q) 0 0 G I J 19 [(0, .ref (sz + 0)), (1, .ref (sz + a1)), (2, .int x2), (3, .int x3), (4, .int x4), (5, .int x5)] [] := by
  intro n
  induction n with
  | zero => intro x2 x3 x4 x5 I J h; exact False.elim h
  | succ n ih => intro x2 x3 x4 x5 I J h; exact tb_X9_bestWish_19 hG ha1 ih h
set_option maxRecDepth 20000 in
theorem t_X9_bestWish {l : Launch} {D : va_G} {cy : Nat → ClassId} {sz : Nat} {G : sw_G} (hG : sw_lay G) {a1 : Nat} (ha1 : sw_mom G a1) {Q : Int32 → sw_I → sw_J → Prop} {x2 : Int32} {I : sw_I} {J : sw_J} (h : wp_X9_bestWish a1 x2 I J Q) : AW l D cy sz RX9 cX9_bestWish 7 (some .int) false rm_X9_bestWish 0 0 (sw_qi G Q) 0 0 G I J 0 [(0, .ref (sz + 0)), (1, .ref (sz + a1)), (2, .int x2)] [] := by
  unfold wp_X9_bestWish at h
  refine aw_aload_n 1 dX9_bestWish_0 rfl rfl ?_
  refine gf_X3_1 fl_X9_123 ha1.1 ha1.2.1.2.1 dX9_bestWish_1 ?_
  refine aw_iload_n 2 dX9_bestWish_4 rfl rfl ?_
  obtain ⟨hi_1, h⟩ := h
  refine aw_ild dX9_bestWish_5 ha1.2.2.2.1 ha1.2.2.2.2.2.2.1 hi_1 ?_
  refine aw_topi (fun y_2 e_3 => ?_)
  have h := h y_2 e_3
  refine aw_istore_n (lv' := [(3, .int y_2), (0, .ref (sz + 0)), (1, .ref (sz + a1)), (2, .int x2)]) dX9_bestWish_6 rfl (by decide) rfl ?_
  refine aw_aload_n 1 dX9_bestWish_7 rfl rfl ?_
  refine aw_aload_n 2 dX9_bestWish_8 rfl rfl ?_
  refine aw_iload_n 3 dX9_bestWish_9 rfl rfl ?_
  refine aw_iload_n 0 dX9_bestWish_10 rfl rfl ?_
  refine aw_callV wv_X9_distanceBy (M_X9_distanceBy hG ha1 h) ml_X9_260 rfl (by decide) (lk0 hG) rfl rfl (Nat.le_of_ble_eq_true rfl) ⟨rfl, rfl⟩ ⟨Nat.le_of_ble_eq_true rfl, Nat.le_of_ble_eq_true rfl⟩ ⟨Nat.le_refl _, Nat.le_refl _⟩ dX9_bestWish_11 (aw_ki fun r_4 I_5 J_6 h => ?_)
  refine aw_istore (lv' := [(4, .int r_4), (3, .int y_2), (0, .ref (sz + 0)), (1, .ref (sz + a1)), (2, .int x2)]) dX9_bestWish_14 (by decide) rfl ?_
  refine aw_iconst (v := (-1)) dX9_bestWish_16 (by decide) ?_
  refine aw_istore (lv' := [(5, .int (-1)), (4, .int r_4), (3, .int y_2), (0, .ref (sz + 0)), (1, .ref (sz + a1)), (2, .int x2)]) dX9_bestWish_17 (by decide) rfl ?_
  refine aw_sub [3, 4, 5, 2, 1, 0] rfl ?_
  obtain ⟨n_7, h⟩ := h
  exact tl_X9_bestWish_19 hG ha1  n_7 x2 y_2 r_4 (-1) I_5 J_6 h
theorem M_X9_bestWish {l : Launch} {D : va_G} {cy : Nat → ClassId} {sz : Nat} {G : sw_G} (hG : sw_lay G) {a1 : Nat} (ha1 : sw_mom G a1) {Q : Int32 → sw_I → sw_J → Prop} {x2 : Int32} {I : sw_I} {J : sw_J} (h : wp_X9_bestWish a1 x2 I J Q) : Met l yX9_bestWish (Cond.code yX9_bestWish cX9_bestWish 7 (some .int) :: sw_T) rm_X9_bestWish (sw_Pc D cy sz [.ref (sz + 0), .ref (sz + a1), .int x2] G I J) (sw_Q D cy sz (sw_qi G Q)) 0 0 (fun q => sz ≤ q) :=
  sw_met (by decide) (fun q => by cases q) (Nat.le_of_ble_eq_true rfl) rfl (t_X9_bestWish hG ha1 h)
-- X9_tellAnew
abbrev rm_X9_tellAnew : Room := { frames := 5, cells := 0, slots := 0, locals := 125 }
def wB_X9_tellAnew_58 (a1 : Nat) (K4 : Int32 → Int32 → sw_I → sw_J → Prop) (Q : Int32 → sw_I → sw_J → Prop) (x2 : Int32) (x3 : Int32) (I : sw_I) (J : sw_J) : Prop :=
  ∀ y_1 : Int32, y_1 = x3 + 1 → K4 x2 y_1 I J
def wB_X9_tellAnew_48 (a1 : Nat) (K4 : Int32 → Int32 → sw_I → sw_J → Prop) (Q : Int32 → sw_I → sw_J → Prop) (x3 : Int32) (x4 : Int32) (s0 : Int32) (s1 : Int32) (I : sw_I) (J : sw_J) : Prop :=
  ∀ y_1 : Int32, y_1 = s0 ||| s1 → vp_in x3 10 ∧ ∀ I_4 : sw_I, I_4 = sw_up I (a1 + 2) x3.toNatClampNeg x4 → wB_X9_tellAnew_58 a1 K4 Q y_1 x3 I_4 J
def wb_X9_tellAnew_4 (a1 : Nat) (K4 : Int32 → Int32 → sw_I → sw_J → Prop) (Q : Int32 → sw_I → sw_J → Prop) (x2 : Int32) (x3 : Int32) (I : sw_I) (J : sw_J) : Prop :=
  sw_if (x3 < (I 3 2)) (wp_X3_isIn a1 x3 I J (fun r_2 I_3 J_4 => sw_if (r_2 = 0) (wB_X9_tellAnew_58 a1 K4 Q x2 x3 I_3 J_4) (wp_X9_bestWish a1 x3 I_3 J_4 (fun r_6 I_7 J_8 => vp_in x3 10 ∧ sw_if (r_6 = (I_7 (a1 + 2) x3.toNatClampNeg)) (wB_X9_tellAnew_48 a1 K4 Q x3 r_6 x2 0 I_7 J_8) (wB_X9_tellAnew_48 a1 K4 Q x3 r_6 x2 1 I_7 J_8))))) ((x2 = 0 ∨ x2 = 1) ∧ Q x2 I J)
def wl_X9_tellAnew_4 (a1 : Nat)  (Q : Int32 → sw_I → sw_J → Prop) : Nat → Int32 → Int32 → sw_I → sw_J → Prop
  | 0 => fun _ _ _ _ => False
  | n + 1 => fun x2 x3 I J => wb_X9_tellAnew_4 a1 (wl_X9_tellAnew_4 a1  Q n) Q x2 x3 I J
def wp_X9_tellAnew (a1 : Nat) (I : sw_I) (J : sw_J) (Q : Int32 → sw_I → sw_J → Prop) : Prop :=
  ∃ n_1 : Nat, wl_X9_tellAnew_4 a1  Q n_1 0 0 I J
set_option maxRecDepth 20000 in
theorem t_X9_tellAnew_58 {l : Launch} {D : va_G} {cy : Nat → ClassId} {sz : Nat} {G : sw_G} (hG : sw_lay G) {a1 : Nat} (ha1 : sw_mom G a1) {Q : Int32 → sw_I → sw_J → Prop} {K4 : Int32 → Int32 → sw_I → sw_J → Prop} (hK4 : ∀ (x2 : Int32) (x3 : Int32) (I : sw_I) (J : sw_J), K4 x2 x3 I J → AW l D cy sz RX9 cX9_tellAnew 5 (some .boolean) false rm_X9_tellAnew 0 0 (sw_qi G Q) 0 0 G I J 4 [(0, .ref (sz + 0)), (1, .ref (sz + a1)), (2, .int x2), (3, .int x3)] []) {x2 : Int32} {x3 : Int32} {I : sw_I} {J : sw_J} (h : wB_X9_tellAnew_58 a1 K4 Q x2 x3 I J) : AW l D cy sz RX9 cX9_tellAnew 5 (some .boolean) false rm_X9_tellAnew 0 0 (sw_qi G Q) 0 0 G I J 58 [(0, .ref (sz + 0)), (1, .ref (sz + a1)), (2, .int x2), (3, .int x3)] [] := by
  unfold wB_X9_tellAnew_58 at h
  obtain ⟨y_1, e_2⟩ : ∃ q : Int32, q = x3 + 1 := ⟨_, rfl⟩
  have h := h y_1 e_2
  refine aw_iinc (lv' := [(3, .int y_1), (0, .ref (sz + 0)), (1, .ref (sz + a1)), (2, .int x2)]) 3 dX9_tellAnew_58 rfl (by rw [e_2]; rfl) (by decide) rfl ?_
  refine aw_goto 4 dX9_tellAnew_61 (by decide) ?_
  refine aw_sub [1, 2, 3, 0] rfl ?_
  exact hK4 x2 y_1 I J h
set_option maxRecDepth 20000 in
theorem t_X9_tellAnew_48 {l : Launch} {D : va_G} {cy : Nat → ClassId} {sz : Nat} {G : sw_G} (hG : sw_lay G) {a1 : Nat} (ha1 : sw_mom G a1) {Q : Int32 → sw_I → sw_J → Prop} {K4 : Int32 → Int32 → sw_I → sw_J → Prop} (hK4 : ∀ (x2 : Int32) (x3 : Int32) (I : sw_I) (J : sw_J), K4 x2 x3 I J → AW l D cy sz RX9 cX9_tellAnew 5 (some .boolean) false rm_X9_tellAnew 0 0 (sw_qi G Q) 0 0 G I J 4 [(0, .ref (sz + 0)), (1, .ref (sz + a1)), (2, .int x2), (3, .int x3)] []) {x3 : Int32} {x4 : Int32} {s0 : Int32} {s1 : Int32} {I : sw_I} {J : sw_J} (h : wB_X9_tellAnew_48 a1 K4 Q x3 x4 s0 s1 I J) : AW l D cy sz RX9 cX9_tellAnew 5 (some .boolean) false rm_X9_tellAnew 0 0 (sw_qi G Q) 0 0 G I J 48 [(0, .ref (sz + 0)), (1, .ref (sz + a1)), (3, .int x3), (4, .int x4)] [.int s1, .int s0] := by
  unfold wB_X9_tellAnew_48 at h
  refine aw_ior dX9_tellAnew_48 ?_
  refine aw_topi (fun y_1 e_2 => ?_)
  have h := h y_1 e_2
  refine aw_istore_n (lv' := [(2, .int y_1), (0, .ref (sz + 0)), (1, .ref (sz + a1)), (3, .int x3), (4, .int x4)]) dX9_tellAnew_49 rfl (by decide) rfl ?_
  refine aw_aload_n 2 dX9_tellAnew_50 rfl rfl ?_
  refine gf_X3_1 fl_X9_123 ha1.1 ha1.2.1.2.1 dX9_tellAnew_51 ?_
  refine aw_iload_n 3 dX9_tellAnew_54 rfl rfl ?_
  refine aw_iload 4 dX9_tellAnew_55 rfl ?_
  obtain ⟨hi_3, h⟩ := h
  refine aw_ist dX9_tellAnew_57 ha1.2.2.2.1 ha1.2.2.2.2.2.2.1 hi_3 (aw_nameI fun I_4 e_5 => ?_)
  have h := h I_4 e_5
  refine aw_sub [1, 2, 0, 3] rfl ?_
  exact t_X9_tellAnew_58 hG ha1 hK4 h
set_option maxRecDepth 20000 in
theorem tb_X9_tellAnew_4 {l : Launch} {D : va_G} {cy : Nat → ClassId} {sz : Nat} {G : sw_G} (hG : sw_lay G) {a1 : Nat} (ha1 : sw_mom G a1) {Q : Int32 → sw_I → sw_J → Prop} {K4 : Int32 → Int32 → sw_I → sw_J → Prop} (hK4 : ∀ (x2 : Int32) (x3 : Int32) (I : sw_I) (J : sw_J), K4 x2 x3 I J → AW l D cy sz RX9 cX9_tellAnew 5 (some .boolean) false rm_X9_tellAnew 0 0 (sw_qi G Q) 0 0 G I J 4 [(0, .ref (sz + 0)), (1, .ref (sz + a1)), (2, .int x2), (3, .int x3)] []) {x2 : Int32} {x3 : Int32} {I : sw_I} {J : sw_J} (h : wb_X9_tellAnew_4 a1 K4 Q x2 x3 I J) : AW l D cy sz RX9 cX9_tellAnew 5 (some .boolean) false rm_X9_tellAnew 0 0 (sw_qi G Q) 0 0 G I J 4 [(0, .ref (sz + 0)), (1, .ref (sz + a1)), (2, .int x2), (3, .int x3)] [] := by
  unfold wb_X9_tellAnew_4 at h
  refine aw_iload_n 3 dX9_tellAnew_4 rfl rfl ?_
  refine aw_aload_n 0 dX9_tellAnew_5 rfl rfl ?_
  refine gf_X9_1 fl_X9_19 (lk0 hG) (lr0_1 hG) dX9_tellAnew_6 ?_
  refine gf_X1_2 fl_X9_144 (lk3 hG) dX9_tellAnew_9 ?_
  refine aw_jge 64 dX9_tellAnew_12 (by decide) (fun c_1 => ?_) (fun c_1 => ?_)
  · have h := sw_if.f h c_1
    refine aw_iload_n 2 dX9_tellAnew_64 rfl rfl ?_
    exact aw_zret rfl (sw_bool h.1).1 dX9_tellAnew_65 ⟨rfl, _, rfl, h.2⟩
  · have h := sw_if.t h c_1
    refine aw_aload_n 1 dX9_tellAnew_15 rfl rfl ?_
    refine aw_iload_n 3 dX9_tellAnew_16 rfl rfl ?_
    refine aw_callV wv_X3_isIn (M_X3_isIn trivial ha1 h) ml_X9_175 rfl (by decide) ha1.1 rfl rfl (Nat.le_of_ble_eq_true rfl) ⟨rfl, rfl⟩ ⟨Nat.le_of_ble_eq_true rfl, Nat.le_of_ble_eq_true rfl⟩ ⟨Nat.le_refl _, Nat.le_refl _⟩ dX9_tellAnew_17 (aw_ki fun r_2 I_3 J_4 h => ?_)
    refine aw_zeq 58 dX9_tellAnew_20 (by decide) (fun c_5 => ?_) (fun c_5 => ?_)
    · have h := sw_if.t h c_5
      refine aw_sub [0, 1, 2, 3] rfl ?_
      exact t_X9_tellAnew_58 hG ha1 hK4 h
    · have h := sw_if.f h c_5
      refine aw_aload_n 0 dX9_tellAnew_23 rfl rfl ?_
      refine aw_aload_n 1 dX9_tellAnew_24 rfl rfl ?_
      refine aw_iload_n 3 dX9_tellAnew_25 rfl rfl ?_
      refine aw_callV wv_X9_bestWish (M_X9_bestWish hG ha1 h) ml_X9_257 rfl (by decide) (lk0 hG) rfl rfl (Nat.le_of_ble_eq_true rfl) ⟨rfl, rfl⟩ ⟨Nat.le_of_ble_eq_true rfl, Nat.le_of_ble_eq_true rfl⟩ ⟨Nat.le_refl _, Nat.le_refl _⟩ dX9_tellAnew_26 (aw_ki fun r_6 I_7 J_8 h => ?_)
      refine aw_istore (lv' := [(4, .int r_6), (0, .ref (sz + 0)), (1, .ref (sz + a1)), (2, .int x2), (3, .int x3)]) dX9_tellAnew_29 (by decide) rfl ?_
      refine aw_iload_n 3 dX9_tellAnew_31 rfl rfl ?_
      refine aw_iload 0 dX9_tellAnew_32 rfl ?_
      refine aw_aload_n 2 dX9_tellAnew_34 rfl rfl ?_
      refine gf_X3_1 fl_X9_123 ha1.1 ha1.2.1.2.1 dX9_tellAnew_35 ?_
      refine aw_iload_n 4 dX9_tellAnew_38 rfl rfl ?_
      obtain ⟨hi_9, h⟩ := h
      refine aw_ild dX9_tellAnew_39 ha1.2.2.2.1 ha1.2.2.2.2.2.2.1 hi_9 ?_
      refine aw_jeq 47 dX9_tellAnew_40 (by decide) (fun c_10 => ?_) (fun c_10 => ?_)
      · have h := sw_if.t h c_10
        refine aw_iconst (v := 0) dX9_tellAnew_47 (by decide) ?_
        refine aw_sub [1, 2, 4, 0] rfl ?_
        exact t_X9_tellAnew_48 hG ha1 hK4 h
      · have h := sw_if.f h c_10
        refine aw_iconst (v := 1) dX9_tellAnew_43 (by decide) ?_
        refine aw_goto 48 dX9_tellAnew_44 (by decide) ?_
        refine aw_sub [1, 2, 4, 0] rfl ?_
        exact t_X9_tellAnew_48 hG ha1 hK4 h
set_option maxRecDepth 20000 in
theorem tl_X9_tellAnew_4 {l : Launch} {D : va_G} {cy : Nat → ClassId} {sz : Nat} {G : sw_G} (hG : sw_lay G) {a1 : Nat} (ha1 : sw_mom G a1) {Q : Int32 → sw_I → sw_J → Prop} : ∀ (n : Nat) (x2 : Int32) (x3 : Int32) (I : sw_I) (J : sw_J), wl_X9_tellAnew_4 a1  Q n x2 x3 I J → AW l D cy sz RX9 cX9_tellAnew 5 (some .boolean) false rm_X9_tellAnew 0 0 (sw_qi G Q) 0 0 G I J 4 [(0, .ref (sz + 0)), (1, .ref (sz + a1)), (2, .int x2), (3, .int x3)] [] := by
  intro n
  induction n with
  | zero => intro x2 x3 I J h; exact False.elim h
  | succ n ih => intro x2 x3 I J h; exact tb_X9_tellAnew_4 hG ha1 ih h
set_option maxRecDepth 20000 in
theorem t_X9_tellAnew {l : Launch} {D : va_G} {cy : Nat → ClassId} {sz : Nat} {G : sw_G} (hG : sw_lay G) {a1 : Nat} (ha1 : sw_mom G a1) {Q : Int32 → sw_I → sw_J → Prop}  {I : sw_I} {J : sw_J} (h : wp_X9_tellAnew a1 I J Q) : AW l D cy sz RX9 cX9_tellAnew 5 (some .boolean) false rm_X9_tellAnew 0 0 (sw_qi G Q) 0 0 G I J 0 [(0, .ref (sz + 0)), (1, .ref (sz + a1))] [] := by
  unfold wp_X9_tellAnew at h
  refine aw_iconst (v := 0) dX9_tellAnew_0 (by decide) ?_
  refine aw_istore_n (lv' := [(2, .int 0), (0, .ref (sz + 0)), (1, .ref (sz + a1))]) dX9_tellAnew_1 rfl (by decide) rfl ?_
  refine aw_iconst (v := 0) dX9_tellAnew_2 (by decide) ?_
  refine aw_istore_n (lv' := [(3, .int 0), (2, .int 0), (0, .ref (sz + 0)), (1, .ref (sz + a1))]) dX9_tellAnew_3 rfl (by decide) rfl ?_
  refine aw_sub [2, 3, 1, 0] rfl ?_
  obtain ⟨n_1, h⟩ := h
  exact tl_X9_tellAnew_4 hG ha1  n_1 0 0 I J h
theorem M_X9_tellAnew {l : Launch} {D : va_G} {cy : Nat → ClassId} {sz : Nat} {G : sw_G} (hG : sw_lay G) {a1 : Nat} (ha1 : sw_mom G a1) {Q : Int32 → sw_I → sw_J → Prop}  {I : sw_I} {J : sw_J} (h : wp_X9_tellAnew a1 I J Q) : Met l yX9_tellAnew (Cond.code yX9_tellAnew cX9_tellAnew 5 (some .boolean) :: sw_T) rm_X9_tellAnew (sw_Pc D cy sz [.ref (sz + 0), .ref (sz + a1)] G I J) (sw_Q D cy sz (sw_qi G Q)) 0 0 (fun q => sz ≤ q) :=
  sw_met (by decide) (fun q => by cases q) (Nat.le_of_ble_eq_true rfl) rfl (t_X9_tellAnew hG ha1 h)
-- X9_comeHome
abbrev rm_X9_comeHome : Room := { frames := 4, cells := 0, slots := 0, locals := 98 }
def wb_X9_comeHome_24  (K24 : Int32 → Int32 → Int32 → sw_I → sw_J → Prop) (Q : Int32 → sw_I → sw_J → Prop) (x2 : Int32) (x3 : Int32) (x4 : Int32) (I : sw_I) (J : sw_J) : Prop :=
  sw_if (x4 < x2) (wp_X1_carry 17 I J (fun r_2 I_3 J_4 => ∀ y_5 : Int32, y_5 = x3 ||| r_2 → ∀ y_7 : Int32, y_7 = x4 + 1 → K24 x2 y_5 y_7 I_3 J_4)) (Q x3 I J)
def wl_X9_comeHome_24   (Q : Int32 → sw_I → sw_J → Prop) : Nat → Int32 → Int32 → Int32 → sw_I → sw_J → Prop
  | 0 => fun _ _ _ _ _ => False
  | n + 1 => fun x2 x3 x4 I J => wb_X9_comeHome_24  (wl_X9_comeHome_24   Q n) Q x2 x3 x4 I J
def wp_X9_comeHome (x1 : Int32) (x2 : Int32) (I : sw_I) (J : sw_J) (Q : Int32 → sw_I → sw_J → Prop) : Prop :=
  wp_X3_copy 17 13 I J (fun I_2 J_3 => ∀ I_4 : sw_I, I_4 = sw_up I_2 17 3 x1 → ∃ n_6 : Nat, wl_X9_comeHome_24   Q n_6 x2 0 0 I_4 J_3)
set_option maxRecDepth 20000 in
theorem tb_X9_comeHome_24 {l : Launch} {D : va_G} {cy : Nat → ClassId} {sz : Nat} {G : sw_G} (hG : sw_lay G)   {Q : Int32 → sw_I → sw_J → Prop} {K24 : Int32 → Int32 → Int32 → sw_I → sw_J → Prop} (hK24 : ∀ (x2 : Int32) (x3 : Int32) (x4 : Int32) (I : sw_I) (J : sw_J), K24 x2 x3 x4 I J → AW l D cy sz RX9 cX9_comeHome 5 (some .int) false rm_X9_comeHome 0 0 (sw_qi G Q) 0 0 G I J 24 [(0, .ref (sz + 0)), (2, .int x2), (3, .int x3), (4, .int x4)] []) {x2 : Int32} {x3 : Int32} {x4 : Int32} {I : sw_I} {J : sw_J} (h : wb_X9_comeHome_24  K24 Q x2 x3 x4 I J) : AW l D cy sz RX9 cX9_comeHome 5 (some .int) false rm_X9_comeHome 0 0 (sw_qi G Q) 0 0 G I J 24 [(0, .ref (sz + 0)), (2, .int x2), (3, .int x3), (4, .int x4)] [] := by
  unfold wb_X9_comeHome_24 at h
  refine aw_iload 3 dX9_comeHome_24 rfl ?_
  refine aw_iload_n 1 dX9_comeHome_26 rfl rfl ?_
  refine aw_jge 50 dX9_comeHome_27 (by decide) (fun c_1 => ?_) (fun c_1 => ?_)
  · have h := sw_if.f h c_1
    refine aw_iload_n 2 dX9_comeHome_50 rfl rfl ?_
    exact aw_iret rfl dX9_comeHome_51 ⟨rfl, _, rfl, h⟩
  · have h := sw_if.t h c_1
    refine aw_iload_n 2 dX9_comeHome_30 rfl rfl ?_
    refine aw_aload_n 0 dX9_comeHome_31 rfl rfl ?_
    refine gf_X9_1 fl_X9_19 (lk0 hG) (lr0_1 hG) dX9_comeHome_32 ?_
    refine aw_aload_n 0 dX9_comeHome_35 rfl rfl ?_
    refine gf_X9_3 fl_X9_30 (lk0 hG) (lr0_3 hG) dX9_comeHome_36 ?_
    refine aw_callV wv_X1_carry (M_X1_carry hG (lm17 hG) h) ml_X9_178 rfl (by decide) (lk3 hG) rfl rfl (Nat.le_of_ble_eq_true rfl) ⟨rfl, rfl⟩ ⟨Nat.le_of_ble_eq_true rfl, Nat.le_of_ble_eq_true rfl⟩ ⟨Nat.le_refl _, Nat.le_refl _⟩ dX9_comeHome_39 (aw_ki fun r_2 I_3 J_4 h => ?_)
    refine aw_ior dX9_comeHome_42 ?_
    refine aw_topi (fun y_5 e_6 => ?_)
    have h := h y_5 e_6
    refine aw_istore_n (lv' := [(3, .int y_5), (0, .ref (sz + 0)), (2, .int x2), (4, .int x4)]) dX9_comeHome_43 rfl (by decide) rfl ?_
    obtain ⟨y_7, e_8⟩ : ∃ q : Int32, q = x4 + 1 := ⟨_, rfl⟩
    have h := h y_7 e_8
    refine aw_iinc (lv' := [(4, .int y_7), (3, .int y_5), (0, .ref (sz + 0)), (2, .int x2)]) 3 dX9_comeHome_44 rfl (by rw [e_8]; rfl) (by decide) rfl ?_
    refine aw_goto 24 dX9_comeHome_47 (by decide) ?_
    refine aw_sub [2, 3, 1, 0] rfl ?_
    exact hK24 x2 y_5 y_7 I_3 J_4 h
set_option maxRecDepth 20000 in
theorem tl_X9_comeHome_24 {l : Launch} {D : va_G} {cy : Nat → ClassId} {sz : Nat} {G : sw_G} (hG : sw_lay G)   {Q : Int32 → sw_I → sw_J → Prop} : ∀ (n : Nat) (x2 : Int32) (x3 : Int32) (x4 : Int32) (I : sw_I) (J : sw_J), wl_X9_comeHome_24   Q n x2 x3 x4 I J → AW l D cy sz RX9 cX9_comeHome 5 (some .int) false rm_X9_comeHome 0 0 (sw_qi G Q) 0 0 G I J 24 [(0, .ref (sz + 0)), (2, .int x2), (3, .int x3), (4, .int x4)] [] := by
  intro n
  induction n with
  | zero => intro x2 x3 x4 I J h; exact False.elim h
  | succ n ih => intro x2 x3 x4 I J h; exact tb_X9_comeHome_24 hG  ih h
set_option maxRecDepth 20000 in
theorem t_X9_comeHome {l : Launch} {D : va_G} {cy : Nat → ClassId} {sz : Nat} {G : sw_G} (hG : sw_lay G)   {Q : Int32 → sw_I → sw_J → Prop} {x1 : Int32} {x2 : Int32} {I : sw_I} {J : sw_J} (h : wp_X9_comeHome x1 x2 I J Q) : AW l D cy sz RX9 cX9_comeHome 5 (some .int) false rm_X9_comeHome 0 0 (sw_qi G Q) 0 0 G I J 0 [(0, .ref (sz + 0)), (1, .int x1), (2, .int x2)] [] := by
  unfold wp_X9_comeHome at h
  refine aw_aload_n 0 dX9_comeHome_0 rfl rfl ?_
  refine gf_X9_3 fl_X9_30 (lk0 hG) (lr0_3 hG) dX9_comeHome_1 ?_
  refine aw_aload_n 0 dX9_comeHome_4 rfl rfl ?_
  refine gf_X9_2 fl_X9_26 (lk0 hG) (lr0_2 hG) dX9_comeHome_5 ?_
  refine aw_callV wv_X3_copy (M_X3_copy hG (lm17 hG) (lm13 hG) h) ml_X9_254 rfl (by decide) (lk17 hG) rfl rfl (Nat.le_of_ble_eq_true rfl) ⟨rfl, rfl⟩ ⟨Nat.le_of_ble_eq_true rfl, Nat.le_of_ble_eq_true rfl⟩ ⟨Nat.le_refl _, Nat.le_refl _⟩ dX9_comeHome_8 (aw_kv fun I_2 J_3 h => ?_)
  refine aw_aload_n 0 dX9_comeHome_11 rfl rfl ?_
  refine gf_X9_3 fl_X9_30 (lk0 hG) (lr0_3 hG) dX9_comeHome_12 ?_
  refine aw_iload_n 1 dX9_comeHome_15 rfl rfl ?_
  refine pf_X3_3 fl_X9_132 (lk17 hG) dX9_comeHome_16 (aw_nameI fun I_4 e_5 => ?_)
  have h := h I_4 e_5
  refine aw_iconst (v := 0) dX9_comeHome_19 (by decide) ?_
  refine aw_istore_n (lv' := [(3, .int 0), (0, .ref (sz + 0)), (1, .int x1), (2, .int x2)]) dX9_comeHome_20 rfl (by decide) rfl ?_
  refine aw_iconst (v := 0) dX9_comeHome_21 (by decide) ?_
  refine aw_istore (lv' := [(4, .int 0), (3, .int 0), (0, .ref (sz + 0)), (1, .int x1), (2, .int x2)]) dX9_comeHome_22 (by decide) rfl ?_
  refine aw_sub [2, 4, 1, 0] rfl ?_
  obtain ⟨n_6, h⟩ := h
  exact tl_X9_comeHome_24 hG   n_6 x2 0 0 I_4 J_3 h
theorem M_X9_comeHome {l : Launch} {D : va_G} {cy : Nat → ClassId} {sz : Nat} {G : sw_G} (hG : sw_lay G)   {Q : Int32 → sw_I → sw_J → Prop} {x1 : Int32} {x2 : Int32} {I : sw_I} {J : sw_J} (h : wp_X9_comeHome x1 x2 I J Q) : Met l yX9_comeHome (Cond.code yX9_comeHome cX9_comeHome 5 (some .int) :: sw_T) rm_X9_comeHome (sw_Pc D cy sz [.ref (sz + 0), .int x1, .int x2] G I J) (sw_Q D cy sz (sw_qi G Q)) 0 0 (fun q => sz ≤ q) :=
  sw_met (by decide) (fun q => by cases q) (Nat.le_of_ble_eq_true rfl) rfl (t_X9_comeHome hG  h)
-- X9_explainedBy
abbrev rm_X9_explainedBy : Room := { frames := 5, cells := 0, slots := 0, locals := 124 }
def wB_X9_explainedBy_120  (K20 : Int32 → Int32 → Int32 → Int32 → Int32 → sw_I → sw_J → Prop) (Q : Int32 → sw_I → sw_J → Prop) (x1 : Int32) (x2 : Int32) (x3 : Int32) (x4 : Int32) (x5 : Int32) (I : sw_I) (J : sw_J) : Prop :=
  ∀ y_1 : Int32, y_1 = x5 + 1 → K20 x1 x2 x3 x4 y_1 I J
def wB_X9_explainedBy_104  (K20 : Int32 → Int32 → Int32 → Int32 → Int32 → sw_I → sw_J → Prop) (Q : Int32 → sw_I → sw_J → Prop) (x1 : Int32) (x2 : Int32) (x3 : Int32) (x4 : Int32) (x5 : Int32) (x6 : Int32) (x7 : Int32) (I : sw_I) (J : sw_J) : Prop :=
  sw_if (x7 = 0) (wB_X9_explainedBy_120  K20 Q x1 x2 x3 x4 x5 I J) (wp_X9_tellLiars x1 x5 x6 I J (fun I_3 J_4 => Q 1 I_3 J_4))
def wB_X9_explainedBy_102  (K20 : Int32 → Int32 → Int32 → Int32 → Int32 → sw_I → sw_J → Prop) (Q : Int32 → sw_I → sw_J → Prop) (x1 : Int32) (x2 : Int32) (x3 : Int32) (x4 : Int32) (x5 : Int32) (x6 : Int32) (s0 : Int32) (I : sw_I) (J : sw_J) : Prop :=
  wB_X9_explainedBy_104  K20 Q x1 x2 x3 x4 x5 x6 s0 I J
def wb_X9_explainedBy_20  (K20 : Int32 → Int32 → Int32 → Int32 → Int32 → sw_I → sw_J → Prop) (Q : Int32 → sw_I → sw_J → Prop) (x1 : Int32) (x2 : Int32) (x3 : Int32) (x4 : Int32) (x5 : Int32) (I : sw_I) (J : sw_J) : Prop :=
  sw_if (x5 < (I 3 0)) (vp_in x2 10 ∧ sw_if (x5 = (I 15 x2.toNatClampNeg)) (wB_X9_explainedBy_120  K20 Q x1 x2 x3 x4 x5 I J) (sw_if (x3 = 0) (wp_X7_allSoIf x2 x5 I J (fun r_9 I_10 J_11 => wB_X9_explainedBy_104  K20 Q x1 x2 x3 x4 x5 (-1) r_9 I_10 J_11)) (wp_X7_otherWishSo x2 x5 x4 I J (fun r_5 I_6 J_7 => sw_if (r_5 = (-2 : Int32)) (wB_X9_explainedBy_102  K20 Q x1 x2 x3 x4 x5 r_5 0 I_6 J_7) (wB_X9_explainedBy_102  K20 Q x1 x2 x3 x4 x5 r_5 1 I_6 J_7))))) (Q 0 I J)
def wl_X9_explainedBy_20   (Q : Int32 → sw_I → sw_J → Prop) : Nat → Int32 → Int32 → Int32 → Int32 → Int32 → sw_I → sw_J → Prop
  | 0 => fun _ _ _ _ _ _ _ => False
  | n + 1 => fun x1 x2 x3 x4 x5 I J => wb_X9_explainedBy_20  (wl_X9_explainedBy_20   Q n) Q x1 x2 x3 x4 x5 I J
def wp_X9_explainedBy (x1 : Int32) (I : sw_I) (J : sw_J) (Q : Int32 → sw_I → sw_J → Prop) : Prop :=
  wp_J6_numberOfTrailingZeros_0f7a4 x1 I J (fun r_1 I_2 J_3 => ∀ y_4 : Int32, y_4 = x1 &&& (x1 - (1 : Int32)) → wp_J6_numberOfTrailingZeros_0f7a4 y_4 I_2 J_3 (fun r_6 I_7 J_8 => ∃ n_9 : Nat, wl_X9_explainedBy_20   Q n_9 x1 r_1 y_4 r_6 (-1) I_7 J_8))
set_option maxRecDepth 20000 in
theorem t_X9_explainedBy_120 {l : Launch} {D : va_G} {cy : Nat → ClassId} {sz : Nat} {G : sw_G} (hG : sw_lay G)   {Q : Int32 → sw_I → sw_J → Prop} {K20 : Int32 → Int32 → Int32 → Int32 → Int32 → sw_I → sw_J → Prop} (hK20 : ∀ (x1 : Int32) (x2 : Int32) (x3 : Int32) (x4 : Int32) (x5 : Int32) (I : sw_I) (J : sw_J), K20 x1 x2 x3 x4 x5 I J → AW l D cy sz RX9 cX9_explainedBy 8 (some .boolean) false rm_X9_explainedBy 0 0 (sw_qi G Q) 0 0 G I J 20 [(0, .ref (sz + 0)), (1, .int x1), (2, .int x2), (3, .int x3), (4, .int x4), (5, .int x5)] []) {x1 : Int32} {x2 : Int32} {x3 : Int32} {x4 : Int32} {x5 : Int32} {I : sw_I} {J : sw_J} (h : wB_X9_explainedBy_120  K20 Q x1 x2 x3 x4 x5 I J) : AW l D cy sz RX9 cX9_explainedBy 8 (some .boolean) false rm_X9_explainedBy 0 0 (sw_qi G Q) 0 0 G I J 120 [(0, .ref (sz + 0)), (1, .int x1), (2, .int x2), (3, .int x3), (4, .int x4), (5, .int x5)] [] := by
  unfold wB_X9_explainedBy_120 at h
  obtain ⟨y_1, e_2⟩ : ∃ q : Int32, q = x5 + 1 := ⟨_, rfl⟩
  have h := h y_1 e_2
  refine aw_iinc (lv' := [(5, .int y_1), (0, .ref (sz + 0)), (1, .int x1), (2, .int x2), (3, .int x3), (4, .int x4)]) 5 dX9_explainedBy_120 rfl (by rw [e_2]; rfl) (by decide) rfl ?_
  refine aw_goto 20 dX9_explainedBy_123 (by decide) ?_
  refine aw_sub [1, 2, 3, 4, 5, 0] rfl ?_
  exact hK20 x1 x2 x3 x4 y_1 I J h
set_option maxRecDepth 20000 in
theorem t_X9_explainedBy_104 {l : Launch} {D : va_G} {cy : Nat → ClassId} {sz : Nat} {G : sw_G} (hG : sw_lay G)   {Q : Int32 → sw_I → sw_J → Prop} {K20 : Int32 → Int32 → Int32 → Int32 → Int32 → sw_I → sw_J → Prop} (hK20 : ∀ (x1 : Int32) (x2 : Int32) (x3 : Int32) (x4 : Int32) (x5 : Int32) (I : sw_I) (J : sw_J), K20 x1 x2 x3 x4 x5 I J → AW l D cy sz RX9 cX9_explainedBy 8 (some .boolean) false rm_X9_explainedBy 0 0 (sw_qi G Q) 0 0 G I J 20 [(0, .ref (sz + 0)), (1, .int x1), (2, .int x2), (3, .int x3), (4, .int x4), (5, .int x5)] []) {x1 : Int32} {x2 : Int32} {x3 : Int32} {x4 : Int32} {x5 : Int32} {x6 : Int32} {x7 : Int32} {I : sw_I} {J : sw_J} (h : wB_X9_explainedBy_104  K20 Q x1 x2 x3 x4 x5 x6 x7 I J) : AW l D cy sz RX9 cX9_explainedBy 8 (some .boolean) false rm_X9_explainedBy 0 0 (sw_qi G Q) 0 0 G I J 104 [(0, .ref (sz + 0)), (1, .int x1), (2, .int x2), (3, .int x3), (4, .int x4), (5, .int x5), (6, .int x6), (7, .int x7)] [] := by
  unfold wB_X9_explainedBy_104 at h
  refine aw_iload 7 dX9_explainedBy_104 rfl ?_
  refine aw_zeq 120 dX9_explainedBy_106 (by decide) (fun c_1 => ?_) (fun c_1 => ?_)
  · have h := sw_if.t h c_1
    refine aw_sub [0, 1, 2, 3, 4, 5] rfl ?_
    exact t_X9_explainedBy_120 hG  hK20 h
  · have h := sw_if.f h c_1
    refine aw_aload_n 0 dX9_explainedBy_109 rfl rfl ?_
    refine aw_iload_n 1 dX9_explainedBy_110 rfl rfl ?_
    refine aw_iload 5 dX9_explainedBy_111 rfl ?_
    refine aw_iload 6 dX9_explainedBy_113 rfl ?_
    refine aw_callV wv_X9_tellLiars (M_X9_tellLiars hG  h) ml_X9_388 rfl (by decide) (lk0 hG) rfl rfl (Nat.le_of_ble_eq_true rfl) ⟨rfl, rfl⟩ ⟨Nat.le_of_ble_eq_true rfl, Nat.le_of_ble_eq_true rfl⟩ ⟨Nat.le_refl _, Nat.le_refl _⟩ dX9_explainedBy_115 (aw_kv fun I_3 J_4 h => ?_)
    refine aw_iconst (v := 1) dX9_explainedBy_118 (by decide) ?_
    exact aw_zret rfl rfl dX9_explainedBy_119 ⟨rfl, _, rfl, h⟩
set_option maxRecDepth 20000 in
theorem t_X9_explainedBy_102 {l : Launch} {D : va_G} {cy : Nat → ClassId} {sz : Nat} {G : sw_G} (hG : sw_lay G)   {Q : Int32 → sw_I → sw_J → Prop} {K20 : Int32 → Int32 → Int32 → Int32 → Int32 → sw_I → sw_J → Prop} (hK20 : ∀ (x1 : Int32) (x2 : Int32) (x3 : Int32) (x4 : Int32) (x5 : Int32) (I : sw_I) (J : sw_J), K20 x1 x2 x3 x4 x5 I J → AW l D cy sz RX9 cX9_explainedBy 8 (some .boolean) false rm_X9_explainedBy 0 0 (sw_qi G Q) 0 0 G I J 20 [(0, .ref (sz + 0)), (1, .int x1), (2, .int x2), (3, .int x3), (4, .int x4), (5, .int x5)] []) {x1 : Int32} {x2 : Int32} {x3 : Int32} {x4 : Int32} {x5 : Int32} {x6 : Int32} {s0 : Int32} {I : sw_I} {J : sw_J} (h : wB_X9_explainedBy_102  K20 Q x1 x2 x3 x4 x5 x6 s0 I J) : AW l D cy sz RX9 cX9_explainedBy 8 (some .boolean) false rm_X9_explainedBy 0 0 (sw_qi G Q) 0 0 G I J 102 [(0, .ref (sz + 0)), (1, .int x1), (2, .int x2), (3, .int x3), (4, .int x4), (5, .int x5), (6, .int x6)] [.int s0] := by
  unfold wB_X9_explainedBy_102 at h
  refine aw_istore (lv' := [(7, .int s0), (0, .ref (sz + 0)), (1, .int x1), (2, .int x2), (3, .int x3), (4, .int x4), (5, .int x5), (6, .int x6)]) dX9_explainedBy_102 (by decide) rfl ?_
  refine aw_sub [1, 2, 3, 4, 5, 6, 7, 0] rfl ?_
  exact t_X9_explainedBy_104 hG  hK20 h
set_option maxRecDepth 20000 in
theorem tb_X9_explainedBy_20 {l : Launch} {D : va_G} {cy : Nat → ClassId} {sz : Nat} {G : sw_G} (hG : sw_lay G)   {Q : Int32 → sw_I → sw_J → Prop} {K20 : Int32 → Int32 → Int32 → Int32 → Int32 → sw_I → sw_J → Prop} (hK20 : ∀ (x1 : Int32) (x2 : Int32) (x3 : Int32) (x4 : Int32) (x5 : Int32) (I : sw_I) (J : sw_J), K20 x1 x2 x3 x4 x5 I J → AW l D cy sz RX9 cX9_explainedBy 8 (some .boolean) false rm_X9_explainedBy 0 0 (sw_qi G Q) 0 0 G I J 20 [(0, .ref (sz + 0)), (1, .int x1), (2, .int x2), (3, .int x3), (4, .int x4), (5, .int x5)] []) {x1 : Int32} {x2 : Int32} {x3 : Int32} {x4 : Int32} {x5 : Int32} {I : sw_I} {J : sw_J} (h : wb_X9_explainedBy_20  K20 Q x1 x2 x3 x4 x5 I J) : AW l D cy sz RX9 cX9_explainedBy 8 (some .boolean) false rm_X9_explainedBy 0 0 (sw_qi G Q) 0 0 G I J 20 [(0, .ref (sz + 0)), (1, .int x1), (2, .int x2), (3, .int x3), (4, .int x4), (5, .int x5)] [] := by
  unfold wb_X9_explainedBy_20 at h
  refine aw_iload 5 dX9_explainedBy_20 rfl ?_
  refine aw_aload_n 0 dX9_explainedBy_22 rfl rfl ?_
  refine gf_X9_1 fl_X9_19 (lk0 hG) (lr0_1 hG) dX9_explainedBy_23 ?_
  refine gf_X1_0 fl_X9_224 (lk3 hG) dX9_explainedBy_26 ?_
  refine aw_jge 126 dX9_explainedBy_29 (by decide) (fun c_1 => ?_) (fun c_1 => ?_)
  · have h := sw_if.f h c_1
    refine aw_iconst (v := 0) dX9_explainedBy_126 (by decide) ?_
    exact aw_zret rfl rfl dX9_explainedBy_127 ⟨rfl, _, rfl, h⟩
  · have h := sw_if.t h c_1
    refine aw_iload 5 dX9_explainedBy_32 rfl ?_
    refine aw_aload_n 0 dX9_explainedBy_34 rfl rfl ?_
    refine gf_X9_2 fl_X9_26 (lk0 hG) (lr0_2 hG) dX9_explainedBy_35 ?_
    refine gf_X3_1 fl_X9_123 (lk13 hG) (lr13_1 hG) dX9_explainedBy_38 ?_
    refine aw_iload_n 2 dX9_explainedBy_41 rfl rfl ?_
    obtain ⟨hi_2, h⟩ := h
    refine aw_ild dX9_explainedBy_42 (lk15 hG) (ln15 hG) hi_2 ?_
    refine aw_jeq 120 dX9_explainedBy_43 (by decide) (fun c_3 => ?_) (fun c_3 => ?_)
    · have h := sw_if.t h c_3
      refine aw_sub [0, 1, 2, 3, 4, 5] rfl ?_
      exact t_X9_explainedBy_120 hG  hK20 h
    · have h := sw_if.f h c_3
      refine aw_iconst (v := (-1)) dX9_explainedBy_46 (by decide) ?_
      refine aw_istore (lv' := [(6, .int (-1)), (0, .ref (sz + 0)), (1, .int x1), (2, .int x2), (3, .int x3), (4, .int x4), (5, .int x5)]) dX9_explainedBy_47 (by decide) rfl ?_
      refine aw_iload_n 4 dX9_explainedBy_49 rfl rfl ?_
      refine aw_zne 72 dX9_explainedBy_50 (by decide) (fun c_4 => ?_) (fun c_4 => ?_)
      · have h := sw_if.f h c_4
        refine aw_aload_n 1 dX9_explainedBy_72 rfl rfl ?_
        refine gf_X9_7 fl_X9_51 (lk0 hG) (lr0_7 hG) dX9_explainedBy_73 ?_
        refine aw_aload_n 1 dX9_explainedBy_76 rfl rfl ?_
        refine gf_X9_1 fl_X9_19 (lk0 hG) (lr0_1 hG) dX9_explainedBy_77 ?_
        refine aw_iload_n 3 dX9_explainedBy_80 rfl rfl ?_
        refine aw_iload 6 dX9_explainedBy_81 rfl ?_
        refine aw_iload 5 dX9_explainedBy_83 rfl ?_
        refine aw_callV wv_X7_otherWishSo (M_X7_otherWishSo hG  h) ml_X9_384 rfl (by decide) (lk109 hG) rfl rfl (Nat.le_of_ble_eq_true rfl) ⟨rfl, rfl⟩ ⟨Nat.le_of_ble_eq_true rfl, Nat.le_of_ble_eq_true rfl⟩ ⟨Nat.le_refl _, Nat.le_refl _⟩ dX9_explainedBy_85 (aw_ki fun r_5 I_6 J_7 h => ?_)
        refine aw_istore (lv' := [(6, .int r_5), (0, .ref (sz + 0)), (1, .int x1), (2, .int x2), (3, .int x3), (4, .int x4), (5, .int x5)]) dX9_explainedBy_88 (by decide) rfl ?_
        refine aw_iload 0 dX9_explainedBy_90 rfl ?_
        refine aw_bipush (v := (-2)) dX9_explainedBy_92 (by decide) ?_
        refine aw_jeq 101 dX9_explainedBy_94 (by decide) (fun c_8 => ?_) (fun c_8 => ?_)
        · have h := sw_if.t h c_8
          refine aw_iconst (v := 0) dX9_explainedBy_101 (by decide) ?_
          refine aw_sub [1, 2, 3, 4, 5, 6, 0] rfl ?_
          exact t_X9_explainedBy_102 hG  hK20 h
        · have h := sw_if.f h c_8
          refine aw_iconst (v := 1) dX9_explainedBy_97 (by decide) ?_
          refine aw_goto 102 dX9_explainedBy_98 (by decide) ?_
          refine aw_sub [1, 2, 3, 4, 5, 6, 0] rfl ?_
          exact t_X9_explainedBy_102 hG  hK20 h
      · have h := sw_if.t h c_4
        refine aw_aload_n 1 dX9_explainedBy_53 rfl rfl ?_
        refine gf_X9_7 fl_X9_51 (lk0 hG) (lr0_7 hG) dX9_explainedBy_54 ?_
        refine aw_aload_n 1 dX9_explainedBy_57 rfl rfl ?_
        refine gf_X9_1 fl_X9_19 (lk0 hG) (lr0_1 hG) dX9_explainedBy_58 ?_
        refine aw_iload_n 3 dX9_explainedBy_61 rfl rfl ?_
        refine aw_iload 6 dX9_explainedBy_62 rfl ?_
        refine aw_callV wv_X7_allSoIf (M_X7_allSoIf hG  h) ml_X9_328 rfl (by decide) (lk109 hG) rfl rfl (Nat.le_of_ble_eq_true rfl) ⟨rfl, rfl⟩ ⟨Nat.le_of_ble_eq_true rfl, Nat.le_of_ble_eq_true rfl⟩ ⟨Nat.le_refl _, Nat.le_refl _⟩ dX9_explainedBy_64 (aw_ki fun r_9 I_10 J_11 h => ?_)
        refine aw_istore (lv' := [(7, .int r_9), (6, .int (-1)), (0, .ref (sz + 0)), (1, .int x1), (2, .int x2), (3, .int x3), (4, .int x4), (5, .int x5)]) dX9_explainedBy_67 (by decide) rfl ?_
        refine aw_goto 104 dX9_explainedBy_69 (by decide) ?_
        refine aw_sub [2, 3, 4, 5, 6, 7, 1, 0] rfl ?_
        exact t_X9_explainedBy_104 hG  hK20 h
set_option maxRecDepth 20000 in
theorem tl_X9_explainedBy_20 {l : Launch} {D : va_G} {cy : Nat → ClassId} {sz : Nat} {G : sw_G} (hG : sw_lay G)   {Q : Int32 → sw_I → sw_J → Prop} : ∀ (n : Nat) (x1 : Int32) (x2 : Int32) (x3 : Int32) (x4 : Int32) (x5 : Int32) (I : sw_I) (J : sw_J), wl_X9_explainedBy_20   Q n x1 x2 x3 x4 x5 I J → AW l D cy sz RX9 cX9_explainedBy 8 (some .boolean) false rm_X9_explainedBy 0 0 (sw_qi G Q) 0 0 G I J 20 [(0, .ref (sz + 0)), (1, .int x1), (2, .int x2), (3, .int x3), (4, .int x4), (5, .int x5)] [] := by
  intro n
  induction n with
  | zero => intro x1 x2 x3 x4 x5 I J h; exact False.elim h
  | succ n ih => intro x1 x2 x3 x4 x5 I J h; exact tb_X9_explainedBy_20 hG  ih h
set_option maxRecDepth 20000 in
theorem t_X9_explainedBy {l : Launch} {D : va_G} {cy : Nat → ClassId} {sz : Nat} {G : sw_G} (hG : sw_lay G)   {Q : Int32 → sw_I → sw_J → Prop} {x1 : Int32} {I : sw_I} {J : sw_J} (h : wp_X9_explainedBy x1 I J Q) : AW l D cy sz RX9 cX9_explainedBy 8 (some .boolean) false rm_X9_explainedBy 0 0 (sw_qi G Q) 0 0 G I J 0 [(0, .ref (sz + 0)), (1, .int x1)] [] := by
  unfold wp_X9_explainedBy at h
  refine aw_iload_n 1 dX9_explainedBy_0 rfl rfl ?_
  refine aw_callS wv_J6_numberOfTrailingZeros_0f7a4 (M_J6_numberOfTrailingZeros_0f7a4 trivial  h) ml_X9_381 rfl rfl (Nat.le_of_ble_eq_true rfl) ⟨rfl, rfl⟩ ⟨Nat.le_of_ble_eq_true rfl, Nat.le_of_ble_eq_true rfl⟩ ⟨Nat.le_refl _, Nat.le_refl _⟩ dX9_explainedBy_1 (aw_ki fun r_1 I_2 J_3 h => ?_)
  refine aw_istore_n (lv' := [(2, .int r_1), (0, .ref (sz + 0)), (1, .int x1)]) dX9_explainedBy_4 rfl (by decide) rfl ?_
  refine aw_iload_n 2 dX9_explainedBy_5 rfl rfl ?_
  refine aw_iload_n 2 dX9_explainedBy_6 rfl rfl ?_
  refine aw_iconst (v := 1) dX9_explainedBy_7 (by decide) ?_
  refine aw_isub dX9_explainedBy_8 ?_
  refine aw_iand dX9_explainedBy_9 ?_
  refine aw_topi (fun y_4 e_5 => ?_)
  have h := h y_4 e_5
  refine aw_istore_n (lv' := [(3, .int y_4), (2, .int r_1), (0, .ref (sz + 0)), (1, .int x1)]) dX9_explainedBy_10 rfl (by decide) rfl ?_
  refine aw_iload_n 0 dX9_explainedBy_11 rfl rfl ?_
  refine aw_callS wv_J6_numberOfTrailingZeros_0f7a4 (M_J6_numberOfTrailingZeros_0f7a4 trivial  h) ml_X9_381 rfl rfl (Nat.le_of_ble_eq_true rfl) ⟨rfl, rfl⟩ ⟨Nat.le_of_ble_eq_true rfl, Nat.le_of_ble_eq_true rfl⟩ ⟨Nat.le_refl _, Nat.le_refl _⟩ dX9_explainedBy_12 (aw_ki fun r_6 I_7 J_8 h => ?_)
  refine aw_istore (lv' := [(4, .int r_6), (3, .int y_4), (2, .int r_1), (0, .ref (sz + 0)), (1, .int x1)]) dX9_explainedBy_15 (by decide) rfl ?_
  refine aw_iconst (v := (-1)) dX9_explainedBy_17 (by decide) ?_
  refine aw_istore (lv' := [(5, .int (-1)), (4, .int r_6), (3, .int y_4), (2, .int r_1), (0, .ref (sz + 0)), (1, .int x1)]) dX9_explainedBy_18 (by decide) rfl ?_
  refine aw_sub [4, 5, 3, 2, 1, 0] rfl ?_
  obtain ⟨n_9, h⟩ := h
  exact tl_X9_explainedBy_20 hG   n_9 x1 r_1 y_4 r_6 (-1) I_7 J_8 h
theorem M_X9_explainedBy {l : Launch} {D : va_G} {cy : Nat → ClassId} {sz : Nat} {G : sw_G} (hG : sw_lay G)   {Q : Int32 → sw_I → sw_J → Prop} {x1 : Int32} {I : sw_I} {J : sw_J} (h : wp_X9_explainedBy x1 I J Q) : Met l yX9_explainedBy (Cond.code yX9_explainedBy cX9_explainedBy 8 (some .boolean) :: sw_T) rm_X9_explainedBy (sw_Pc D cy sz [.ref (sz + 0), .int x1] G I J) (sw_Q D cy sz (sw_qi G Q)) 0 0 (fun q => sz ≤ q) :=
  sw_met (by decide) (fun q => by cases q) (Nat.le_of_ble_eq_true rfl) rfl (t_X9_explainedBy hG  h)
-- X9_weighStops
abbrev rm_X9_weighStops : Room := { frames := 3, cells := 0, slots := 0, locals := 74 }
def wB_X9_weighStops_86  (K37 : Int32 → Int32 → Int64 → Int32 → sw_I → sw_J → Prop) (Q : Int64 → sw_I → sw_J → Prop) (x1 : Int32) (x2 : Int32) (w3 : Int64) (x5 : Int32) (I : sw_I) (J : sw_J) : Prop :=
  wp_X9_nextSet x2 (I 13 3) I J (fun r_1 I_2 J_3 => ∀ y_4 : Int32, y_4 = x5 + 1 → K37 x1 r_1 w3 y_4 I_2 J_3)
def wb_X9_weighStops_37  (K37 : Int32 → Int32 → Int64 → Int32 → sw_I → sw_J → Prop) (Q : Int64 → sw_I → sw_J → Prop) (x1 : Int32) (x2 : Int32) (w3 : Int64) (x5 : Int32) (I : sw_I) (J : sw_J) : Prop :=
  sw_if (x5 < x1) (wp_X9_weightOf x2 I J (fun r_2 I_3 J_4 => sw_if (0 < (lg_cmp r_2 (0 : Int64))) (wp_X1_nextStop 17 (I_3 13 3) I_3 J_4 (fun r_6 I_7 J_8 => wp_X9_addChance r_6 r_2 I_7 J_8 (fun I_10 J_11 => ∀ y_12 : Int64, y_12 = w3 + r_2 → wB_X9_weighStops_86  K37 Q x1 x2 y_12 x5 I_10 J_11))) (wB_X9_weighStops_86  K37 Q x1 x2 w3 x5 I_3 J_4))) (Q w3 I J)
def wl_X9_weighStops_37   (Q : Int64 → sw_I → sw_J → Prop) : Nat → Int32 → Int32 → Int64 → Int32 → sw_I → sw_J → Prop
  | 0 => fun _ _ _ _ _ _ => False
  | n + 1 => fun x1 x2 w3 x5 I J => wb_X9_weighStops_37  (wl_X9_weighStops_37   Q n) Q x1 x2 w3 x5 I J
def wp_X9_weighStops  (I : sw_I) (J : sw_J) (Q : Int64 → sw_I → sw_J → Prop) : Prop :=
  wp_J7_fill_d0a16 117 9 0 I J (fun I_2 J_3 => wp_X3_copy 17 13 I_2 J_3 (fun I_5 J_6 => wp_X9_setsOf (I_5 13 3) I_5 J_6 (fun r_7 I_8 J_9 => ∃ n_10 : Nat, wl_X9_weighStops_37   Q n_10 r_7 0 0 0 I_8 J_9)))
set_option maxRecDepth 20000 in
theorem t_X9_weighStops_86 {l : Launch} {D : va_G} {cy : Nat → ClassId} {sz : Nat} {G : sw_G} (hG : sw_lay G)   {Q : Int64 → sw_I → sw_J → Prop} {K37 : Int32 → Int32 → Int64 → Int32 → sw_I → sw_J → Prop} (hK37 : ∀ (x1 : Int32) (x2 : Int32) (w3 : Int64) (x5 : Int32) (I : sw_I) (J : sw_J), K37 x1 x2 w3 x5 I J → AW l D cy sz RX9 cX9_weighStops 8 (some .long) false rm_X9_weighStops 0 0 (sw_ql G Q) 0 0 G I J 37 [(0, .ref (sz + 0)), (1, .int x1), (2, .int x2), (3, .long w3), (5, .int x5)] []) {x1 : Int32} {x2 : Int32} {w3 : Int64} {x5 : Int32} {I : sw_I} {J : sw_J} (h : wB_X9_weighStops_86  K37 Q x1 x2 w3 x5 I J) : AW l D cy sz RX9 cX9_weighStops 8 (some .long) false rm_X9_weighStops 0 0 (sw_ql G Q) 0 0 G I J 86 [(0, .ref (sz + 0)), (1, .int x1), (2, .int x2), (3, .long w3), (5, .int x5)] [] := by
  unfold wB_X9_weighStops_86 at h
  refine aw_iload_n 2 dX9_weighStops_86 rfl rfl ?_
  refine aw_aload_n 0 dX9_weighStops_87 rfl rfl ?_
  refine gf_X9_2 fl_X9_26 (lk0 hG) (lr0_2 hG) dX9_weighStops_88 ?_
  refine gf_X3_3 fl_X9_132 (lk13 hG) dX9_weighStops_91 ?_
  refine aw_callS wv_X9_nextSet (M_X9_nextSet trivial  h) ml_X9_248 rfl rfl (Nat.le_of_ble_eq_true rfl) ⟨rfl, rfl⟩ ⟨Nat.le_of_ble_eq_true rfl, Nat.le_of_ble_eq_true rfl⟩ ⟨Nat.le_refl _, Nat.le_refl _⟩ dX9_weighStops_94 (aw_ki fun r_1 I_2 J_3 h => ?_)
  refine aw_istore_n (lv' := [(2, .int r_1), (0, .ref (sz + 0)), (1, .int x1), (3, .long w3), (5, .int x5)]) dX9_weighStops_97 rfl (by decide) rfl ?_
  obtain ⟨y_4, e_5⟩ : ∃ q : Int32, q = x5 + 1 := ⟨_, rfl⟩
  have h := h y_4 e_5
  refine aw_iinc (lv' := [(5, .int y_4), (2, .int r_1), (0, .ref (sz + 0)), (1, .int x1), (3, .long w3)]) 4 dX9_weighStops_98 rfl (by rw [e_5]; rfl) (by decide) rfl ?_
  refine aw_goto 37 dX9_weighStops_101 (by decide) ?_
  refine aw_sub [2, 3, 1, 4, 0] rfl ?_
  exact hK37 x1 r_1 w3 y_4 I_2 J_3 h
set_option maxRecDepth 20000 in
theorem tb_X9_weighStops_37 {l : Launch} {D : va_G} {cy : Nat → ClassId} {sz : Nat} {G : sw_G} (hG : sw_lay G)   {Q : Int64 → sw_I → sw_J → Prop} {K37 : Int32 → Int32 → Int64 → Int32 → sw_I → sw_J → Prop} (hK37 : ∀ (x1 : Int32) (x2 : Int32) (w3 : Int64) (x5 : Int32) (I : sw_I) (J : sw_J), K37 x1 x2 w3 x5 I J → AW l D cy sz RX9 cX9_weighStops 8 (some .long) false rm_X9_weighStops 0 0 (sw_ql G Q) 0 0 G I J 37 [(0, .ref (sz + 0)), (1, .int x1), (2, .int x2), (3, .long w3), (5, .int x5)] []) {x1 : Int32} {x2 : Int32} {w3 : Int64} {x5 : Int32} {I : sw_I} {J : sw_J} (h : wb_X9_weighStops_37  K37 Q x1 x2 w3 x5 I J) : AW l D cy sz RX9 cX9_weighStops 8 (some .long) false rm_X9_weighStops 0 0 (sw_ql G Q) 0 0 G I J 37 [(0, .ref (sz + 0)), (1, .int x1), (2, .int x2), (3, .long w3), (5, .int x5)] [] := by
  unfold wb_X9_weighStops_37 at h
  refine aw_iload 4 dX9_weighStops_37 rfl ?_
  refine aw_iload_n 1 dX9_weighStops_39 rfl rfl ?_
  refine aw_jge 104 dX9_weighStops_40 (by decide) (fun c_1 => ?_) (fun c_1 => ?_)
  · have h := sw_if.f h c_1
    refine aw_lload_n 3 dX9_weighStops_104 rfl rfl ?_
    exact aw_lret rfl dX9_weighStops_105 ⟨rfl, _, rfl, h⟩
  · have h := sw_if.t h c_1
    refine aw_aload_n 0 dX9_weighStops_43 rfl rfl ?_
    refine aw_iload_n 2 dX9_weighStops_44 rfl rfl ?_
    refine aw_callV wv_X9_weightOf (M_X9_weightOf hG  h) ml_X9_391 rfl (by decide) (lk0 hG) rfl rfl (Nat.le_of_ble_eq_true rfl) ⟨rfl, rfl⟩ ⟨Nat.le_of_ble_eq_true rfl, Nat.le_of_ble_eq_true rfl⟩ ⟨Nat.le_refl _, Nat.le_refl _⟩ dX9_weighStops_45 (aw_kl fun r_2 I_3 J_4 h => ?_)
    refine aw_lstore (lv' := [(6, .long r_2), (0, .ref (sz + 0)), (1, .int x1), (2, .int x2), (3, .long w3), (5, .int x5)]) dX9_weighStops_48 (by decide) rfl ?_
    refine aw_lload 0 dX9_weighStops_50 rfl ?_
    refine aw_lconst (v := 0) dX9_weighStops_52 (by decide) ?_
    refine aw_lcmp dX9_weighStops_53 ?_
    refine aw_zle 86 dX9_weighStops_54 (by decide) (fun c_5 => ?_) (fun c_5 => ?_)
    · have h := sw_if.f h c_5
      refine aw_sub [1, 2, 3, 4, 5] rfl ?_
      exact t_X9_weighStops_86 hG  hK37 h
    · have h := sw_if.t h c_5
      refine aw_aload_n 1 dX9_weighStops_57 rfl rfl ?_
      refine aw_aload_n 1 dX9_weighStops_58 rfl rfl ?_
      refine gf_X9_1 fl_X9_19 (lk0 hG) (lr0_1 hG) dX9_weighStops_59 ?_
      refine aw_aload_n 1 dX9_weighStops_62 rfl rfl ?_
      refine gf_X9_3 fl_X9_30 (lk0 hG) (lr0_3 hG) dX9_weighStops_63 ?_
      refine aw_aload_n 1 dX9_weighStops_66 rfl rfl ?_
      refine gf_X9_2 fl_X9_26 (lk0 hG) (lr0_2 hG) dX9_weighStops_67 ?_
      refine gf_X3_3 fl_X9_132 (lk13 hG) dX9_weighStops_70 ?_
      refine aw_callV wv_X1_nextStop (M_X1_nextStop hG (lm17 hG) h) ml_X9_213 rfl (by decide) (lk3 hG) rfl rfl (Nat.le_of_ble_eq_true rfl) ⟨rfl, rfl⟩ ⟨Nat.le_of_ble_eq_true rfl, Nat.le_of_ble_eq_true rfl⟩ ⟨Nat.le_refl _, Nat.le_refl _⟩ dX9_weighStops_73 (aw_ki fun r_6 I_7 J_8 h => ?_)
      refine aw_lload 0 dX9_weighStops_76 rfl ?_
      refine aw_callV wv_X9_addChance (M_X9_addChance hG  h) ml_X9_244 rfl (by decide) (lk0 hG) rfl rfl (Nat.le_of_ble_eq_true rfl) ⟨rfl, rfl⟩ ⟨Nat.le_of_ble_eq_true rfl, Nat.le_of_ble_eq_true rfl⟩ ⟨Nat.le_refl _, Nat.le_refl _⟩ dX9_weighStops_78 (aw_kv fun I_10 J_11 h => ?_)
      refine aw_lload_n 4 dX9_weighStops_81 rfl rfl ?_
      refine aw_lload 0 dX9_weighStops_82 rfl ?_
      refine aw_ladd dX9_weighStops_84 ?_
      refine aw_topl (fun y_12 e_13 => ?_)
      have h := h y_12 e_13
      refine aw_lstore_n (lv' := [(3, .long y_12), (6, .long r_2), (0, .ref (sz + 0)), (1, .int x1), (2, .int x2), (5, .int x5)]) dX9_weighStops_85 rfl (by decide) rfl ?_
      refine aw_sub [2, 3, 4, 0, 5] rfl ?_
      exact t_X9_weighStops_86 hG  hK37 h
set_option maxRecDepth 20000 in
theorem tl_X9_weighStops_37 {l : Launch} {D : va_G} {cy : Nat → ClassId} {sz : Nat} {G : sw_G} (hG : sw_lay G)   {Q : Int64 → sw_I → sw_J → Prop} : ∀ (n : Nat) (x1 : Int32) (x2 : Int32) (w3 : Int64) (x5 : Int32) (I : sw_I) (J : sw_J), wl_X9_weighStops_37   Q n x1 x2 w3 x5 I J → AW l D cy sz RX9 cX9_weighStops 8 (some .long) false rm_X9_weighStops 0 0 (sw_ql G Q) 0 0 G I J 37 [(0, .ref (sz + 0)), (1, .int x1), (2, .int x2), (3, .long w3), (5, .int x5)] [] := by
  intro n
  induction n with
  | zero => intro x1 x2 w3 x5 I J h; exact False.elim h
  | succ n ih => intro x1 x2 w3 x5 I J h; exact tb_X9_weighStops_37 hG  ih h
set_option maxRecDepth 20000 in
theorem t_X9_weighStops {l : Launch} {D : va_G} {cy : Nat → ClassId} {sz : Nat} {G : sw_G} (hG : sw_lay G)   {Q : Int64 → sw_I → sw_J → Prop}  {I : sw_I} {J : sw_J} (h : wp_X9_weighStops  I J Q) : AW l D cy sz RX9 cX9_weighStops 8 (some .long) false rm_X9_weighStops 0 0 (sw_ql G Q) 0 0 G I J 0 [(0, .ref (sz + 0))] [] := by
  unfold wp_X9_weighStops at h
  refine aw_aload_n 0 dX9_weighStops_0 rfl rfl ?_
  refine gf_X9_8 fl_X9_55 (lk0 hG) (lr0_8 hG) dX9_weighStops_1 ?_
  refine aw_lconst (v := 0) dX9_weighStops_4 (by decide) ?_
  refine aw_callS wv_J7_fill_d0a16 (M_J7_fill_d0a16 trivial ⟨(lk117 hG), (ln117 hG)⟩ h) ml_X9_235 rfl rfl (Nat.le_of_ble_eq_true rfl) ⟨rfl, rfl⟩ ⟨Nat.le_of_ble_eq_true rfl, Nat.le_of_ble_eq_true rfl⟩ ⟨Nat.le_refl _, Nat.le_refl _⟩ dX9_weighStops_5 (aw_kv fun I_2 J_3 h => ?_)
  refine aw_aload_n 0 dX9_weighStops_8 rfl rfl ?_
  refine gf_X9_3 fl_X9_30 (lk0 hG) (lr0_3 hG) dX9_weighStops_9 ?_
  refine aw_aload_n 0 dX9_weighStops_12 rfl rfl ?_
  refine gf_X9_2 fl_X9_26 (lk0 hG) (lr0_2 hG) dX9_weighStops_13 ?_
  refine aw_callV wv_X3_copy (M_X3_copy hG (lm17 hG) (lm13 hG) h) ml_X9_254 rfl (by decide) (lk17 hG) rfl rfl (Nat.le_of_ble_eq_true rfl) ⟨rfl, rfl⟩ ⟨Nat.le_of_ble_eq_true rfl, Nat.le_of_ble_eq_true rfl⟩ ⟨Nat.le_refl _, Nat.le_refl _⟩ dX9_weighStops_16 (aw_kv fun I_5 J_6 h => ?_)
  refine aw_aload_n 0 dX9_weighStops_19 rfl rfl ?_
  refine gf_X9_2 fl_X9_26 (lk0 hG) (lr0_2 hG) dX9_weighStops_20 ?_
  refine gf_X3_3 fl_X9_132 (lk13 hG) dX9_weighStops_23 ?_
  refine aw_callS wv_X9_setsOf (M_X9_setsOf trivial  h) ml_X9_241 rfl rfl (Nat.le_of_ble_eq_true rfl) ⟨rfl, rfl⟩ ⟨Nat.le_of_ble_eq_true rfl, Nat.le_of_ble_eq_true rfl⟩ ⟨Nat.le_refl _, Nat.le_refl _⟩ dX9_weighStops_26 (aw_ki fun r_7 I_8 J_9 h => ?_)
  refine aw_istore_n (lv' := [(1, .int r_7), (0, .ref (sz + 0))]) dX9_weighStops_29 rfl (by decide) rfl ?_
  refine aw_iconst (v := 0) dX9_weighStops_30 (by decide) ?_
  refine aw_istore_n (lv' := [(2, .int 0), (1, .int r_7), (0, .ref (sz + 0))]) dX9_weighStops_31 rfl (by decide) rfl ?_
  refine aw_lconst (v := 0) dX9_weighStops_32 (by decide) ?_
  refine aw_lstore_n (lv' := [(3, .long 0), (2, .int 0), (1, .int r_7), (0, .ref (sz + 0))]) dX9_weighStops_33 rfl (by decide) rfl ?_
  refine aw_iconst (v := 0) dX9_weighStops_34 (by decide) ?_
  refine aw_istore (lv' := [(5, .int 0), (3, .long 0), (2, .int 0), (1, .int r_7), (0, .ref (sz + 0))]) dX9_weighStops_35 (by decide) rfl ?_
  refine aw_sub [4, 3, 2, 1, 0] rfl ?_
  obtain ⟨n_10, h⟩ := h
  exact tl_X9_weighStops_37 hG   n_10 r_7 0 0 0 I_8 J_9 h
theorem M_X9_weighStops {l : Launch} {D : va_G} {cy : Nat → ClassId} {sz : Nat} {G : sw_G} (hG : sw_lay G)   {Q : Int64 → sw_I → sw_J → Prop}  {I : sw_I} {J : sw_J} (h : wp_X9_weighStops  I J Q) : Met l yX9_weighStops (Cond.code yX9_weighStops cX9_weighStops 8 (some .long) :: sw_T) rm_X9_weighStops (sw_Pc D cy sz [.ref (sz + 0)] G I J) (sw_Q D cy sz (sw_ql G Q)) 0 0 (fun q => sz ≤ q) :=
  sw_met (by decide) (fun q => by cases q) (Nat.le_of_ble_eq_true rfl) rfl (t_X9_weighStops hG  h)
-- X10_betsAll
abbrev rm_X10_betsAll : Room := { frames := 18, cells := 0, slots := 0, locals := 414 }
def wb_X10_betsAll_2  (K2 : Int32 → sw_I → sw_J → Prop) (Q : sw_I → sw_J → Prop) (x1 : Int32) (I : sw_I) (J : sw_J) : Prop :=
  sw_if (x1 < (9 : Int32)) (vp_in x1 9 ∧ ∀ J_9 : sw_J, J_9 = sw_up J 161 x1.toNatClampNeg (0 : Int64) → ∀ y_11 : Int32, y_11 = x1 + 1 → K2 y_11 I J_9) (wp_X10_puts 135 33 136 33 I J (fun I_3 J_4 => wp_X10_bets 12 0 10000000000 I_3 J_4 (fun I_6 J_7 => Q I_6 J_7)))
def wl_X10_betsAll_2   (Q : sw_I → sw_J → Prop) : Nat → Int32 → sw_I → sw_J → Prop
  | 0 => fun _ _ _ => False
  | n + 1 => fun x1 I J => wb_X10_betsAll_2  (wl_X10_betsAll_2   Q n) Q x1 I J
def wp_X10_betsAll  (I : sw_I) (J : sw_J) (Q : sw_I → sw_J → Prop) : Prop :=
  ∃ n_1 : Nat, wl_X10_betsAll_2   Q n_1 0 I J
set_option maxRecDepth 20000 in
theorem tb_X10_betsAll_2 {l : Launch} {D : va_G} {cy : Nat → ClassId} {sz : Nat} {G : sw_G} (hG : sw_lay G)   {Q : sw_I → sw_J → Prop} {K2 : Int32 → sw_I → sw_J → Prop} (hK2 : ∀ (x1 : Int32) (I : sw_I) (J : sw_J), K2 x1 I J → AW l D cy sz RX10 cX10_betsAll 2 none false rm_X10_betsAll 0 0 (sw_qv G Q) 0 0 G I J 2 [(0, .ref (sz + 131)), (1, .int x1)] []) {x1 : Int32} {I : sw_I} {J : sw_J} (h : wb_X10_betsAll_2  K2 Q x1 I J) : AW l D cy sz RX10 cX10_betsAll 2 none false rm_X10_betsAll 0 0 (sw_qv G Q) 0 0 G I J 2 [(0, .ref (sz + 131)), (1, .int x1)] [] := by
  unfold wb_X10_betsAll_2 at h
  refine aw_iload_n 1 dX10_betsAll_2 rfl rfl ?_
  refine aw_bipush (v := 9) dX10_betsAll_3 (by decide) ?_
  refine aw_jge 21 dX10_betsAll_5 (by decide) (fun c_1 => ?_) (fun c_1 => ?_)
  · have h := sw_if.f h c_1
    refine aw_aload_n 0 dX10_betsAll_21 rfl rfl ?_
    refine gf_X10_9 fl_X10_79 (lk131 hG) (lr131_9 hG) dX10_betsAll_22 ?_
    refine aw_aload_n 0 dX10_betsAll_25 rfl rfl ?_
    refine gf_X10_10 fl_X10_313 (lk131 hG) (lr131_10 hG) dX10_betsAll_26 ?_
    refine aw_callS wv_X10_puts (M_X10_puts trivial ⟨(lk135 hG), (ln135 hG)⟩ ⟨(lk136 hG), (ln136 hG)⟩ h) ml_X10_316 rfl rfl (Nat.le_of_ble_eq_true rfl) ⟨rfl, rfl⟩ ⟨Nat.le_of_ble_eq_true rfl, Nat.le_of_ble_eq_true rfl⟩ ⟨Nat.le_refl _, Nat.le_refl _⟩ dX10_betsAll_29 (aw_kv fun I_3 J_4 h => ?_)
    refine aw_aload_n 0 dX10_betsAll_32 rfl rfl ?_
    refine aw_iconst (v := 0) dX10_betsAll_33 (by decide) ?_
    refine aw_ldc2 (v := 10000000000) dX10_betsAll_34 k_X10_446 ?_
    refine aw_callV wv_X10_bets (M_X10_bets hG 12  h) ml_X10_442 rfl (by decide) (lk131 hG) rfl rfl (Nat.le_of_ble_eq_true rfl) ⟨rfl, rfl⟩ ⟨Nat.le_of_ble_eq_true rfl, Nat.le_of_ble_eq_true rfl⟩ ⟨Nat.le_refl _, Nat.le_refl _⟩ dX10_betsAll_37 (aw_kv fun I_6 J_7 h => ?_)
    exact aw_vret rfl dX10_betsAll_40 ⟨rfl, rfl, h⟩
  · have h := sw_if.t h c_1
    refine aw_aload_n 0 dX10_betsAll_8 rfl rfl ?_
    refine gf_X10_58 fl_X10_439 (lk131 hG) (lr131_58 hG) dX10_betsAll_9 ?_
    refine aw_iload_n 1 dX10_betsAll_12 rfl rfl ?_
    refine aw_lconst (v := 0) dX10_betsAll_13 (by decide) ?_
    obtain ⟨hi_8, h⟩ := h
    refine aw_lst dX10_betsAll_14 (lk161 hG) (ln161 hG) hi_8 (aw_nameJ fun J_9 e_10 => ?_)
    have h := h J_9 e_10
    obtain ⟨y_11, e_12⟩ : ∃ q : Int32, q = x1 + 1 := ⟨_, rfl⟩
    have h := h y_11 e_12
    refine aw_iinc (lv' := [(1, .int y_11), (0, .ref (sz + 131))]) 1 dX10_betsAll_15 rfl (by rw [e_12]; rfl) (by decide) rfl ?_
    refine aw_goto 2 dX10_betsAll_18 (by decide) ?_
    refine aw_sub [1, 0] rfl ?_
    exact hK2 y_11 I J_9 h
set_option maxRecDepth 20000 in
theorem tl_X10_betsAll_2 {l : Launch} {D : va_G} {cy : Nat → ClassId} {sz : Nat} {G : sw_G} (hG : sw_lay G)   {Q : sw_I → sw_J → Prop} : ∀ (n : Nat) (x1 : Int32) (I : sw_I) (J : sw_J), wl_X10_betsAll_2   Q n x1 I J → AW l D cy sz RX10 cX10_betsAll 2 none false rm_X10_betsAll 0 0 (sw_qv G Q) 0 0 G I J 2 [(0, .ref (sz + 131)), (1, .int x1)] [] := by
  intro n
  induction n with
  | zero => intro x1 I J h; exact False.elim h
  | succ n ih => intro x1 I J h; exact tb_X10_betsAll_2 hG  ih h
set_option maxRecDepth 20000 in
theorem t_X10_betsAll {l : Launch} {D : va_G} {cy : Nat → ClassId} {sz : Nat} {G : sw_G} (hG : sw_lay G)   {Q : sw_I → sw_J → Prop}  {I : sw_I} {J : sw_J} (h : wp_X10_betsAll  I J Q) : AW l D cy sz RX10 cX10_betsAll 2 none false rm_X10_betsAll 0 0 (sw_qv G Q) 0 0 G I J 0 [(0, .ref (sz + 131))] [] := by
  unfold wp_X10_betsAll at h
  refine aw_iconst (v := 0) dX10_betsAll_0 (by decide) ?_
  refine aw_istore_n (lv' := [(1, .int 0), (0, .ref (sz + 131))]) dX10_betsAll_1 rfl (by decide) rfl ?_
  refine aw_sub [1, 0] rfl ?_
  obtain ⟨n_1, h⟩ := h
  exact tl_X10_betsAll_2 hG   n_1 0 I J h
theorem M_X10_betsAll {l : Launch} {D : va_G} {cy : Nat → ClassId} {sz : Nat} {G : sw_G} (hG : sw_lay G)   {Q : sw_I → sw_J → Prop}  {I : sw_I} {J : sw_J} (h : wp_X10_betsAll  I J Q) : Met l yX10_betsAll (Cond.code yX10_betsAll cX10_betsAll 2 none :: sw_T) rm_X10_betsAll (sw_Pc D cy sz [.ref (sz + 131)] G I J) (sw_Q D cy sz (sw_qv G Q)) 0 0 (fun q => sz ≤ q) :=
  sw_met (by decide) (fun q => by cases q) (Nat.le_of_ble_eq_true rfl) rfl (t_X10_betsAll hG  h)
-- X10_odds
abbrev rm_X10_odds : Room := { frames := 66, cells := 0, slots := 0, locals := 1521 }
def wp_X10_odds (x1 : Int32) (I : sw_I) (J : sw_J) (Q : Int32 → sw_I → sw_J → Prop) : Prop :=
  ∀ I_1 : sw_I, I_1 = sw_up I 131 0 (0 : Int32) → wp_X10_isFloor x1 I_1 J (fun r_3 I_4 J_5 => sw_if (r_3 = 0) (Q (-1 : Int32) I_4 J_5) (wp_X10_betsAll  I_4 J_5 (fun I_8 J_9 => ∀ I_10 : sw_I, I_10 = sw_up I_8 131 1 (0 : Int32) → vp_in x1 9 ∧ wp_X10_entersFraction (J_9 161 x1.toNatClampNeg) 10000000000 I_10 J_9 (fun I_14 J_15 => Q (0 : Int32) I_14 J_15))))
set_option maxRecDepth 20000 in
theorem t_X10_odds {l : Launch} {D : va_G} {cy : Nat → ClassId} {sz : Nat} {G : sw_G} (hG : sw_lay G)   {Q : Int32 → sw_I → sw_J → Prop} {x1 : Int32} {I : sw_I} {J : sw_J} (h : wp_X10_odds x1 I J Q) : AW l D cy sz RX10 cX10_odds 2 (some .int) false rm_X10_odds 0 0 (sw_qi G Q) 0 0 G I J 0 [(0, .ref (sz + 131)), (1, .int x1)] [] := by
  unfold wp_X10_odds at h
  refine aw_aload_n 0 dX10_odds_0 rfl rfl ?_
  refine aw_iconst (v := 0) dX10_odds_1 (by decide) ?_
  refine pf_X10_0 fl_X10_3 (lk131 hG) dX10_odds_2 (aw_nameI fun I_1 e_2 => ?_)
  have h := h I_1 e_2
  refine aw_aload_n 0 dX10_odds_5 rfl rfl ?_
  refine aw_iload_n 1 dX10_odds_6 rfl rfl ?_
  refine aw_callV wv_X10_isFloor (M_X10_isFloor hG  h) ml_X10_95 rfl (by decide) (lk131 hG) rfl rfl (Nat.le_of_ble_eq_true rfl) ⟨rfl, rfl⟩ ⟨Nat.le_of_ble_eq_true rfl, Nat.le_of_ble_eq_true rfl⟩ ⟨Nat.le_refl _, Nat.le_refl _⟩ dX10_odds_7 (aw_ki fun r_3 I_4 J_5 h => ?_)
  refine aw_zne 15 dX10_odds_10 (by decide) (fun c_6 => ?_) (fun c_6 => ?_)
  · have h := sw_if.f h c_6
    refine aw_aload_n 0 dX10_odds_15 rfl rfl ?_
    refine aw_callV wv_X10_betsAll (M_X10_betsAll hG  h) ml_X10_448 rfl (by decide) (lk131 hG) rfl rfl (Nat.le_of_ble_eq_true rfl) ⟨rfl, rfl⟩ ⟨Nat.le_of_ble_eq_true rfl, Nat.le_of_ble_eq_true rfl⟩ ⟨Nat.le_refl _, Nat.le_refl _⟩ dX10_odds_16 (aw_kv fun I_8 J_9 h => ?_)
    refine aw_aload_n 0 dX10_odds_19 rfl rfl ?_
    refine aw_iconst (v := 0) dX10_odds_20 (by decide) ?_
    refine pf_X10_1 fl_X10_15 (lk131 hG) dX10_odds_21 (aw_nameI fun I_10 e_11 => ?_)
    have h := h I_10 e_11
    refine aw_aload_n 0 dX10_odds_24 rfl rfl ?_
    refine aw_aload_n 0 dX10_odds_25 rfl rfl ?_
    refine gf_X10_58 fl_X10_439 (lk131 hG) (lr131_58 hG) dX10_odds_26 ?_
    refine aw_iload_n 1 dX10_odds_29 rfl rfl ?_
    obtain ⟨hi_12, h⟩ := h
    refine aw_lld dX10_odds_30 (lk161 hG) (ln161 hG) hi_12 ?_
    refine aw_ldc2 (v := 10000000000) dX10_odds_31 k_X10_446 ?_
    refine aw_callV wv_X10_entersFraction (M_X10_entersFraction hG  h) ml_X10_451 rfl (by decide) (lk131 hG) rfl rfl (Nat.le_of_ble_eq_true rfl) ⟨rfl, rfl⟩ ⟨Nat.le_of_ble_eq_true rfl, Nat.le_of_ble_eq_true rfl⟩ ⟨Nat.le_refl _, Nat.le_refl _⟩ dX10_odds_34 (aw_kv fun I_14 J_15 h => ?_)
    refine aw_iconst (v := 0) dX10_odds_37 (by decide) ?_
    exact aw_iret rfl dX10_odds_38 ⟨rfl, _, rfl, h⟩
  · have h := sw_if.t h c_6
    refine aw_iconst (v := (-1)) dX10_odds_13 (by decide) ?_
    exact aw_iret rfl dX10_odds_14 ⟨rfl, _, rfl, h⟩
theorem M_X10_odds {l : Launch} {D : va_G} {cy : Nat → ClassId} {sz : Nat} {G : sw_G} (hG : sw_lay G)   {Q : Int32 → sw_I → sw_J → Prop} {x1 : Int32} {I : sw_I} {J : sw_J} (h : wp_X10_odds x1 I J Q) : Met l yX10_odds (Cond.code yX10_odds cX10_odds 2 (some .int) :: sw_T) rm_X10_odds (sw_Pc D cy sz [.ref (sz + 131), .int x1] G I J) (sw_Q D cy sz (sw_qi G Q)) 0 0 (fun q => sz ≤ q) :=
  sw_met (by decide) (fun q => by cases q) (Nat.le_of_ble_eq_true rfl) rfl (t_X10_odds hG  h)
-- X10_likely
abbrev rm_X10_likely : Room := { frames := 66, cells := 0, slots := 0, locals := 1521 }
def wB_X10_likely_42  (K13 : Int32 → Int32 → sw_I → sw_J → Prop) (Q : Int32 → sw_I → sw_J → Prop) (x2 : Int32) (s0 : Int32) (I : sw_I) (J : sw_J) : Prop :=
  ∀ y_1 : Int32, y_1 = x2 + 1 → K13 s0 y_1 I J
def wb_X10_likely_13  (K13 : Int32 → Int32 → sw_I → sw_J → Prop) (Q : Int32 → sw_I → sw_J → Prop) (x1 : Int32) (x2 : Int32) (I : sw_I) (J : sw_J) : Prop :=
  sw_if (x2 < (I 131 3)) (vp_in x2 9 ∧ vp_in x1 9 ∧ sw_if (0 < (lg_cmp (J 161 x2.toNatClampNeg) (J 161 x1.toNatClampNeg))) (wB_X10_likely_42  K13 Q x2 x2 I J) (wB_X10_likely_42  K13 Q x2 x1 I J)) (∀ I_2 : sw_I, I_2 = sw_up I 131 1 (0 : Int32) → vp_in x1 9 ∧ wp_X10_entersFraction (J 161 x1.toNatClampNeg) 10000000000 I_2 J (fun I_6 J_7 => Q x1 I_6 J_7))
def wl_X10_likely_13   (Q : Int32 → sw_I → sw_J → Prop) : Nat → Int32 → Int32 → sw_I → sw_J → Prop
  | 0 => fun _ _ _ _ => False
  | n + 1 => fun x1 x2 I J => wb_X10_likely_13  (wl_X10_likely_13   Q n) Q x1 x2 I J
def wp_X10_likely  (I : sw_I) (J : sw_J) (Q : Int32 → sw_I → sw_J → Prop) : Prop :=
  ∀ I_1 : sw_I, I_1 = sw_up I 131 0 (0 : Int32) → wp_X10_betsAll  I_1 J (fun I_4 J_5 => ∃ n_6 : Nat, wl_X10_likely_13   Q n_6 0 1 I_4 J_5)
set_option maxRecDepth 20000 in
theorem t_X10_likely_42 {l : Launch} {D : va_G} {cy : Nat → ClassId} {sz : Nat} {G : sw_G} (hG : sw_lay G)   {Q : Int32 → sw_I → sw_J → Prop} {K13 : Int32 → Int32 → sw_I → sw_J → Prop} (hK13 : ∀ (x1 : Int32) (x2 : Int32) (I : sw_I) (J : sw_J), K13 x1 x2 I J → AW l D cy sz RX10 cX10_likely 3 (some .int) false rm_X10_likely 0 0 (sw_qi G Q) 0 0 G I J 13 [(0, .ref (sz + 131)), (1, .int x1), (2, .int x2)] []) {x2 : Int32} {s0 : Int32} {I : sw_I} {J : sw_J} (h : wB_X10_likely_42  K13 Q x2 s0 I J) : AW l D cy sz RX10 cX10_likely 3 (some .int) false rm_X10_likely 0 0 (sw_qi G Q) 0 0 G I J 42 [(0, .ref (sz + 131)), (2, .int x2)] [.int s0] := by
  unfold wB_X10_likely_42 at h
  refine aw_istore_n (lv' := [(1, .int s0), (0, .ref (sz + 131)), (2, .int x2)]) dX10_likely_42 rfl (by decide) rfl ?_
  obtain ⟨y_1, e_2⟩ : ∃ q : Int32, q = x2 + 1 := ⟨_, rfl⟩
  have h := h y_1 e_2
  refine aw_iinc (lv' := [(2, .int y_1), (1, .int s0), (0, .ref (sz + 131))]) 2 dX10_likely_43 rfl (by rw [e_2]; rfl) (by decide) rfl ?_
  refine aw_goto 13 dX10_likely_46 (by decide) ?_
  refine aw_sub [2, 1, 0] rfl ?_
  exact hK13 s0 y_1 I J h
set_option maxRecDepth 20000 in
theorem tb_X10_likely_13 {l : Launch} {D : va_G} {cy : Nat → ClassId} {sz : Nat} {G : sw_G} (hG : sw_lay G)   {Q : Int32 → sw_I → sw_J → Prop} {K13 : Int32 → Int32 → sw_I → sw_J → Prop} (hK13 : ∀ (x1 : Int32) (x2 : Int32) (I : sw_I) (J : sw_J), K13 x1 x2 I J → AW l D cy sz RX10 cX10_likely 3 (some .int) false rm_X10_likely 0 0 (sw_qi G Q) 0 0 G I J 13 [(0, .ref (sz + 131)), (1, .int x1), (2, .int x2)] []) {x1 : Int32} {x2 : Int32} {I : sw_I} {J : sw_J} (h : wb_X10_likely_13  K13 Q x1 x2 I J) : AW l D cy sz RX10 cX10_likely 3 (some .int) false rm_X10_likely 0 0 (sw_qi G Q) 0 0 G I J 13 [(0, .ref (sz + 131)), (1, .int x1), (2, .int x2)] [] := by
  unfold wb_X10_likely_13 at h
  refine aw_iload_n 2 dX10_likely_13 rfl rfl ?_
  refine aw_aload_n 0 dX10_likely_14 rfl rfl ?_
  refine gf_X10_3 fl_X10_22 (lk131 hG) dX10_likely_15 ?_
  refine aw_jge 49 dX10_likely_18 (by decide) (fun c_1 => ?_) (fun c_1 => ?_)
  · have h := sw_if.f h c_1
    refine aw_aload_n 0 dX10_likely_49 rfl rfl ?_
    refine aw_iconst (v := 0) dX10_likely_50 (by decide) ?_
    refine pf_X10_1 fl_X10_15 (lk131 hG) dX10_likely_51 (aw_nameI fun I_2 e_3 => ?_)
    have h := h I_2 e_3
    refine aw_aload_n 0 dX10_likely_54 rfl rfl ?_
    refine aw_aload_n 0 dX10_likely_55 rfl rfl ?_
    refine gf_X10_58 fl_X10_439 (lk131 hG) (lr131_58 hG) dX10_likely_56 ?_
    refine aw_iload_n 1 dX10_likely_59 rfl rfl ?_
    obtain ⟨hi_4, h⟩ := h
    refine aw_lld dX10_likely_60 (lk161 hG) (ln161 hG) hi_4 ?_
    refine aw_ldc2 (v := 10000000000) dX10_likely_61 k_X10_446 ?_
    refine aw_callV wv_X10_entersFraction (M_X10_entersFraction hG  h) ml_X10_451 rfl (by decide) (lk131 hG) rfl rfl (Nat.le_of_ble_eq_true rfl) ⟨rfl, rfl⟩ ⟨Nat.le_of_ble_eq_true rfl, Nat.le_of_ble_eq_true rfl⟩ ⟨Nat.le_refl _, Nat.le_refl _⟩ dX10_likely_64 (aw_kv fun I_6 J_7 h => ?_)
    refine aw_iload_n 1 dX10_likely_67 rfl rfl ?_
    exact aw_iret rfl dX10_likely_68 ⟨rfl, _, rfl, h⟩
  · have h := sw_if.t h c_1
    refine aw_aload_n 0 dX10_likely_21 rfl rfl ?_
    refine gf_X10_58 fl_X10_439 (lk131 hG) (lr131_58 hG) dX10_likely_22 ?_
    refine aw_iload_n 2 dX10_likely_25 rfl rfl ?_
    obtain ⟨hi_8, h⟩ := h
    refine aw_lld dX10_likely_26 (lk161 hG) (ln161 hG) hi_8 ?_
    refine aw_aload_n 0 dX10_likely_27 rfl rfl ?_
    refine gf_X10_58 fl_X10_439 (lk131 hG) (lr131_58 hG) dX10_likely_28 ?_
    refine aw_iload_n 1 dX10_likely_31 rfl rfl ?_
    obtain ⟨hi_9, h⟩ := h
    refine aw_lld dX10_likely_32 (lk161 hG) (ln161 hG) hi_9 ?_
    refine aw_lcmp dX10_likely_33 ?_
    refine aw_zle 41 dX10_likely_34 (by decide) (fun c_10 => ?_) (fun c_10 => ?_)
    · have h := sw_if.f h c_10
      refine aw_iload_n 1 dX10_likely_41 rfl rfl ?_
      refine aw_sub [0, 2] rfl ?_
      exact t_X10_likely_42 hG  hK13 h
    · have h := sw_if.t h c_10
      refine aw_iload_n 2 dX10_likely_37 rfl rfl ?_
      refine aw_goto 42 dX10_likely_38 (by decide) ?_
      refine aw_sub [0, 2] rfl ?_
      exact t_X10_likely_42 hG  hK13 h
set_option maxRecDepth 20000 in
theorem tl_X10_likely_13 {l : Launch} {D : va_G} {cy : Nat → ClassId} {sz : Nat} {G : sw_G} (hG : sw_lay G)   {Q : Int32 → sw_I → sw_J → Prop} : ∀ (n : Nat) (x1 : Int32) (x2 : Int32) (I : sw_I) (J : sw_J), wl_X10_likely_13   Q n x1 x2 I J → AW l D cy sz RX10 cX10_likely 3 (some .int) false rm_X10_likely 0 0 (sw_qi G Q) 0 0 G I J 13 [(0, .ref (sz + 131)), (1, .int x1), (2, .int x2)] [] := by
  intro n
  induction n with
  | zero => intro x1 x2 I J h; exact False.elim h
  | succ n ih => intro x1 x2 I J h; exact tb_X10_likely_13 hG  ih h
set_option maxRecDepth 20000 in
theorem t_X10_likely {l : Launch} {D : va_G} {cy : Nat → ClassId} {sz : Nat} {G : sw_G} (hG : sw_lay G)   {Q : Int32 → sw_I → sw_J → Prop}  {I : sw_I} {J : sw_J} (h : wp_X10_likely  I J Q) : AW l D cy sz RX10 cX10_likely 3 (some .int) false rm_X10_likely 0 0 (sw_qi G Q) 0 0 G I J 0 [(0, .ref (sz + 131))] [] := by
  unfold wp_X10_likely at h
  refine aw_aload_n 0 dX10_likely_0 rfl rfl ?_
  refine aw_iconst (v := 0) dX10_likely_1 (by decide) ?_
  refine pf_X10_0 fl_X10_3 (lk131 hG) dX10_likely_2 (aw_nameI fun I_1 e_2 => ?_)
  have h := h I_1 e_2
  refine aw_aload_n 0 dX10_likely_5 rfl rfl ?_
  refine aw_callV wv_X10_betsAll (M_X10_betsAll hG  h) ml_X10_448 rfl (by decide) (lk131 hG) rfl rfl (Nat.le_of_ble_eq_true rfl) ⟨rfl, rfl⟩ ⟨Nat.le_of_ble_eq_true rfl, Nat.le_of_ble_eq_true rfl⟩ ⟨Nat.le_refl _, Nat.le_refl _⟩ dX10_likely_6 (aw_kv fun I_4 J_5 h => ?_)
  refine aw_iconst (v := 0) dX10_likely_9 (by decide) ?_
  refine aw_istore_n (lv' := [(1, .int 0), (0, .ref (sz + 131))]) dX10_likely_10 rfl (by decide) rfl ?_
  refine aw_iconst (v := 1) dX10_likely_11 (by decide) ?_
  refine aw_istore_n (lv' := [(2, .int 1), (1, .int 0), (0, .ref (sz + 131))]) dX10_likely_12 rfl (by decide) rfl ?_
  refine aw_sub [2, 1, 0] rfl ?_
  obtain ⟨n_6, h⟩ := h
  exact tl_X10_likely_13 hG   n_6 0 1 I_4 J_5 h
theorem M_X10_likely {l : Launch} {D : va_G} {cy : Nat → ClassId} {sz : Nat} {G : sw_G} (hG : sw_lay G)   {Q : Int32 → sw_I → sw_J → Prop}  {I : sw_I} {J : sw_J} (h : wp_X10_likely  I J Q) : Met l yX10_likely (Cond.code yX10_likely cX10_likely 3 (some .int) :: sw_T) rm_X10_likely (sw_Pc D cy sz [.ref (sz + 131)] G I J) (sw_Q D cy sz (sw_qi G Q)) 0 0 (fun q => sz ≤ q) :=
  sw_met (by decide) (fun q => by cases q) (Nat.le_of_ble_eq_true rfl) rfl (t_X10_likely hG  h)
-- X0_act
abbrev rm_X0_act : Room := { frames := 4, cells := 0, slots := 0, locals := 98 }
def wB_X0_act_40 (a0 : Nat)  (Q : Int32 → sw_I → sw_J → Prop) (x2 : Int32) (x3 : Int32) (I : sw_I) (J : sw_J) : Prop :=
  wp_X0_pass a0 x2 x3 I J (fun r_1 I_2 J_3 => (r_1 = 0 ∨ r_1 = 1) ∧ Q r_1 I_2 J_3)
def wb_X0_act_96 (a0 : Nat) (K96 : Int32 → Int32 → sw_I → sw_J → Prop) (Q : Int32 → sw_I → sw_J → Prop) (x4 : Int32) (x5 : Int32) (I : sw_I) (J : sw_J) : Prop :=
  sw_if (x5 < x4) (wp_X1_carry 13 I J (fun r_2 I_3 J_4 => ∀ I_5 : sw_I, I_5 = sw_up I_3 a0 3 ((I_3 a0 3) + (1 : Int32)) → ∀ I_7 : sw_I, I_7 = sw_up I_5 a0 4 ((I_5 a0 4) + (1 : Int32)) → ∀ y_9 : Int32, y_9 = x5 + 1 → K96 x4 y_9 I_7 J_4)) (Q 1 I J)
def wl_X0_act_96 (a0 : Nat)  (Q : Int32 → sw_I → sw_J → Prop) : Nat → Int32 → Int32 → sw_I → sw_J → Prop
  | 0 => fun _ _ _ _ => False
  | n + 1 => fun x4 x5 I J => wb_X0_act_96 a0 (wl_X0_act_96 a0  Q n) Q x4 x5 I J
def wB_X0_act_91 (a0 : Nat)  (Q : Int32 → sw_I → sw_J → Prop) (s0 : Int32) (I : sw_I) (J : sw_J) : Prop :=
  ∃ n_1 : Nat, wl_X0_act_96 a0  Q n_1 s0 0 I J
def wp_X0_act (a0 : Nat) (x2 : Int32) (x3 : Int32) (I : sw_I) (J : sw_J) (Q : Int32 → sw_I → sw_J → Prop) : Prop :=
  wp_X8_at x2 I J (fun r_1 I_2 J_3 => sw_if (r_1 = 105) (wB_X0_act_40 a0  Q x2 x3 I_2 J_3) (sw_if (r_1 = 111) (wB_X0_act_40 a0  Q x2 x3 I_2 J_3) (sw_if (r_1 = 119) (wp_X8_at (x2 + (1 : Int32)) I_2 J_3 (fun r_7 I_8 J_9 => wp_X8_at (x2 + (2 : Int32)) I_8 J_9 (fun r_10 I_11 J_12 => wp_X0_wish a0 (r_7 - (97 : Int32)) r_10 I_11 J_12 (fun r_13 I_14 J_15 => (r_13 = 0 ∨ r_13 = 1) ∧ Q r_13 I_14 J_15)))) (sw_if ((x2 + (1 : Int32)) < x3) (wp_X8_at (x2 + (1 : Int32)) I_2 J_3 (fun r_17 I_18 J_19 => wB_X0_act_91 a0  Q (r_17 - (48 : Int32)) I_18 J_19)) (wB_X0_act_91 a0  Q 1 I_2 J_3)))))
set_option maxRecDepth 20000 in
theorem t_X0_act_40 {l : Launch} {D : va_G} {cy : Nat → ClassId} {sz : Nat} {G : sw_G} (hG : sw_lay G) {a0 : Nat} (ha0 : sw_day G a0) {Q : Int32 → sw_I → sw_J → Prop} {x2 : Int32} {x3 : Int32} {I : sw_I} {J : sw_J} (h : wB_X0_act_40 a0  Q x2 x3 I J) : AW l D cy sz RX0 cX0_act 6 (some .boolean) false rm_X0_act 0 0 (sw_qi G Q) 0 0 G I J 40 [(0, .ref (sz + a0)), (1, .ref (sz + 1)), (2, .int x2), (3, .int x3)] [] := by
  unfold wB_X0_act_40 at h
  refine aw_aload_n 0 dX0_act_40 rfl rfl ?_
  refine aw_aload_n 1 dX0_act_41 rfl rfl ?_
  refine aw_iload_n 2 dX0_act_42 rfl rfl ?_
  refine aw_iload_n 3 dX0_act_43 rfl rfl ?_
  refine aw_callV wv_X0_pass (M_X0_pass hG ha0 h) ml_X0_63 rfl (by decide) ha0.1 rfl rfl (Nat.le_of_ble_eq_true rfl) ⟨rfl, rfl⟩ ⟨Nat.le_of_ble_eq_true rfl, Nat.le_of_ble_eq_true rfl⟩ ⟨Nat.le_refl _, Nat.le_refl _⟩ dX0_act_44 (aw_ki fun r_1 I_2 J_3 h => ?_)
  exact aw_zret rfl (sw_bool h.1).1 dX0_act_47 ⟨rfl, _, rfl, h.2⟩
set_option maxRecDepth 20000 in
theorem tb_X0_act_96 {l : Launch} {D : va_G} {cy : Nat → ClassId} {sz : Nat} {G : sw_G} (hG : sw_lay G) {a0 : Nat} (ha0 : sw_day G a0) {Q : Int32 → sw_I → sw_J → Prop} {K96 : Int32 → Int32 → sw_I → sw_J → Prop} (hK96 : ∀ (x4 : Int32) (x5 : Int32) (I : sw_I) (J : sw_J), K96 x4 x5 I J → AW l D cy sz RX0 cX0_act 6 (some .boolean) false rm_X0_act 0 0 (sw_qi G Q) 0 0 G I J 96 [(0, .ref (sz + a0)), (4, .int x4), (5, .int x5)] []) {x4 : Int32} {x5 : Int32} {I : sw_I} {J : sw_J} (h : wb_X0_act_96 a0 K96 Q x4 x5 I J) : AW l D cy sz RX0 cX0_act 6 (some .boolean) false rm_X0_act 0 0 (sw_qi G Q) 0 0 G I J 96 [(0, .ref (sz + a0)), (4, .int x4), (5, .int x5)] [] := by
  unfold wb_X0_act_96 at h
  refine aw_iload 2 dX0_act_96 rfl ?_
  refine aw_iload 1 dX0_act_98 rfl ?_
  refine aw_jge 141 dX0_act_100 (by decide) (fun c_1 => ?_) (fun c_1 => ?_)
  · have h := sw_if.f h c_1
    refine aw_iconst (v := 1) dX0_act_141 (by decide) ?_
    exact aw_zret rfl rfl dX0_act_142 ⟨rfl, _, rfl, h⟩
  · have h := sw_if.t h c_1
    refine aw_aload_n 0 dX0_act_103 rfl rfl ?_
    refine gf_X0_0 fl_X0_21 ha0.1 ha0.2.1 dX0_act_104 ?_
    refine aw_aload_n 0 dX0_act_107 rfl rfl ?_
    refine gf_X0_1 fl_X0_25 ha0.1 ha0.2.2 dX0_act_108 ?_
    refine aw_callV wv_X1_carry (M_X1_carry hG (lm13 hG) h) ml_X0_70 rfl (by decide) (lk3 hG) rfl rfl (Nat.le_of_ble_eq_true rfl) ⟨rfl, rfl⟩ ⟨Nat.le_of_ble_eq_true rfl, Nat.le_of_ble_eq_true rfl⟩ ⟨Nat.le_refl _, Nat.le_refl _⟩ dX0_act_111 (aw_ki fun r_2 I_3 J_4 h => ?_)
    refine aw_pop dX0_act_114 rfl ?_
    refine aw_aload_n 0 dX0_act_115 rfl rfl ?_
    refine aw_dup dX0_act_116 rfl ?_
    refine gf_X0_3 fl_X0_15 ha0.1 dX0_act_117 ?_
    refine aw_iconst (v := 1) dX0_act_120 (by decide) ?_
    refine aw_iadd dX0_act_121 ?_
    refine pf_X0_3 fl_X0_15 ha0.1 dX0_act_122 (aw_nameI fun I_5 e_6 => ?_)
    have h := h I_5 e_6
    refine aw_aload_n 0 dX0_act_125 rfl rfl ?_
    refine aw_dup dX0_act_126 rfl ?_
    refine gf_X0_4 fl_X0_18 ha0.1 dX0_act_127 ?_
    refine aw_iconst (v := 1) dX0_act_130 (by decide) ?_
    refine aw_iadd dX0_act_131 ?_
    refine pf_X0_4 fl_X0_18 ha0.1 dX0_act_132 (aw_nameI fun I_7 e_8 => ?_)
    have h := h I_7 e_8
    obtain ⟨y_9, e_10⟩ : ∃ q : Int32, q = x5 + 1 := ⟨_, rfl⟩
    have h := h y_9 e_10
    refine aw_iinc (lv' := [(5, .int y_9), (0, .ref (sz + a0)), (4, .int x4)]) 2 dX0_act_135 rfl (by rw [e_10]; rfl) (by decide) rfl ?_
    refine aw_goto 96 dX0_act_138 (by decide) ?_
    refine aw_sub [1, 2, 0] rfl ?_
    exact hK96 x4 y_9 I_7 J_4 h
set_option maxRecDepth 20000 in
theorem tl_X0_act_96 {l : Launch} {D : va_G} {cy : Nat → ClassId} {sz : Nat} {G : sw_G} (hG : sw_lay G) {a0 : Nat} (ha0 : sw_day G a0) {Q : Int32 → sw_I → sw_J → Prop} : ∀ (n : Nat) (x4 : Int32) (x5 : Int32) (I : sw_I) (J : sw_J), wl_X0_act_96 a0  Q n x4 x5 I J → AW l D cy sz RX0 cX0_act 6 (some .boolean) false rm_X0_act 0 0 (sw_qi G Q) 0 0 G I J 96 [(0, .ref (sz + a0)), (4, .int x4), (5, .int x5)] [] := by
  intro n
  induction n with
  | zero => intro x4 x5 I J h; exact False.elim h
  | succ n ih => intro x4 x5 I J h; exact tb_X0_act_96 hG ha0 ih h
set_option maxRecDepth 20000 in
theorem t_X0_act_91 {l : Launch} {D : va_G} {cy : Nat → ClassId} {sz : Nat} {G : sw_G} (hG : sw_lay G) {a0 : Nat} (ha0 : sw_day G a0) {Q : Int32 → sw_I → sw_J → Prop} {s0 : Int32} {I : sw_I} {J : sw_J} (h : wB_X0_act_91 a0  Q s0 I J) : AW l D cy sz RX0 cX0_act 6 (some .boolean) false rm_X0_act 0 0 (sw_qi G Q) 0 0 G I J 91 [(0, .ref (sz + a0))] [.int s0] := by
  unfold wB_X0_act_91 at h
  refine aw_istore (lv' := [(4, .int s0), (0, .ref (sz + a0))]) dX0_act_91 (by decide) rfl ?_
  refine aw_iconst (v := 0) dX0_act_93 (by decide) ?_
  refine aw_istore (lv' := [(5, .int 0), (4, .int s0), (0, .ref (sz + a0))]) dX0_act_94 (by decide) rfl ?_
  refine aw_sub [2, 1, 0] rfl ?_
  obtain ⟨n_1, h⟩ := h
  exact tl_X0_act_96 hG ha0  n_1 s0 0 I J h
set_option maxRecDepth 20000 in
theorem t_X0_act {l : Launch} {D : va_G} {cy : Nat → ClassId} {sz : Nat} {G : sw_G} (hG : sw_lay G) {a0 : Nat} (ha0 : sw_day G a0) {Q : Int32 → sw_I → sw_J → Prop} {x2 : Int32} {x3 : Int32} {I : sw_I} {J : sw_J} (h : wp_X0_act a0 x2 x3 I J Q) : AW l D cy sz RX0 cX0_act 6 (some .boolean) false rm_X0_act 0 0 (sw_qi G Q) 0 0 G I J 0 [(0, .ref (sz + a0)), (1, .ref (sz + 1)), (2, .int x2), (3, .int x3)] [] := by
  unfold wp_X0_act at h
  refine aw_aload_n 1 dX0_act_0 rfl rfl ?_
  refine aw_iload_n 2 dX0_act_1 rfl rfl ?_
  refine aw_callV wv_X8_at (M_X8_at hG  h) ml_X0_40 rfl (by decide) (lk1 hG) rfl rfl (Nat.le_of_ble_eq_true rfl) ⟨rfl, rfl⟩ ⟨Nat.le_of_ble_eq_true rfl, Nat.le_of_ble_eq_true rfl⟩ ⟨Nat.le_refl _, Nat.le_refl _⟩ dX0_act_2 (aw_ki fun r_1 I_2 J_3 h => ?_)
  by_cases c_4 : r_1 = 105
  · have h := sw_if.t h c_4; refine aw_lookup 40 dX0_act_5 (by decide) (by first | (rw [c_4]; done) | (rw [c_4]; rfl)) (by decide) ?_
    refine aw_sub [0, 1, 2, 3] rfl ?_
    exact t_X0_act_40 hG ha0  h
  · have h := sw_if.f h c_4
    by_cases c_5 : r_1 = 111
    · have h := sw_if.t h c_5; refine aw_lookup 40 dX0_act_5 (by decide) (by first | (rw [c_5]; done) | (rw [c_5]; rfl)) (by decide) ?_
      refine aw_sub [0, 1, 2, 3] rfl ?_
      exact t_X0_act_40 hG ha0  h
    · have h := sw_if.f h c_5
      by_cases c_6 : r_1 = 119
      · have h := sw_if.t h c_6; refine aw_lookup 48 dX0_act_5 (by decide) (by first | (rw [c_6]; done) | (rw [c_6]; rfl)) (by decide) ?_
        refine aw_aload_n 0 dX0_act_48 rfl rfl ?_
        refine aw_aload_n 1 dX0_act_49 rfl rfl ?_
        refine aw_iload_n 2 dX0_act_50 rfl rfl ?_
        refine aw_iconst (v := 1) dX0_act_51 (by decide) ?_
        refine aw_iadd dX0_act_52 ?_
        refine aw_callV wv_X8_at (M_X8_at hG  h) ml_X0_40 rfl (by decide) (lk1 hG) rfl rfl (Nat.le_of_ble_eq_true rfl) ⟨rfl, rfl⟩ ⟨Nat.le_of_ble_eq_true rfl, Nat.le_of_ble_eq_true rfl⟩ ⟨Nat.le_refl _, Nat.le_refl _⟩ dX0_act_53 (aw_ki fun r_7 I_8 J_9 h => ?_)
        refine aw_bipush (v := 97) dX0_act_56 (by decide) ?_
        refine aw_isub dX0_act_58 ?_
        refine aw_aload_n 1 dX0_act_59 rfl rfl ?_
        refine aw_iload_n 2 dX0_act_60 rfl rfl ?_
        refine aw_iconst (v := 2) dX0_act_61 (by decide) ?_
        refine aw_iadd dX0_act_62 ?_
        refine aw_callV wv_X8_at (M_X8_at hG  h) ml_X0_40 rfl (by decide) (lk1 hG) rfl rfl (Nat.le_of_ble_eq_true rfl) ⟨rfl, rfl⟩ ⟨Nat.le_of_ble_eq_true rfl, Nat.le_of_ble_eq_true rfl⟩ ⟨Nat.le_refl _, Nat.le_refl _⟩ dX0_act_63 (aw_ki fun r_10 I_11 J_12 h => ?_)
        refine aw_callV wv_X0_wish (M_X0_wish hG ha0 h) ml_X0_66 rfl (by decide) ha0.1 rfl rfl (Nat.le_of_ble_eq_true rfl) ⟨rfl, rfl⟩ ⟨Nat.le_of_ble_eq_true rfl, Nat.le_of_ble_eq_true rfl⟩ ⟨Nat.le_refl _, Nat.le_refl _⟩ dX0_act_66 (aw_ki fun r_13 I_14 J_15 h => ?_)
        exact aw_zret rfl (sw_bool h.1).1 dX0_act_69 ⟨rfl, _, rfl, h.2⟩
      · have h := sw_if.f h c_6
        refine aw_lookup (off := 65) 70 dX0_act_5 (by decide) (by have g0 := sw_ne c_4 (by decide : (105 : Int32).toInt = 105); have g1 := sw_ne c_5 (by decide : (111 : Int32).toInt = 111); have g2 := sw_ne c_6 (by decide : (119 : Int32).toInt = 119); simp [Op.lookupswitch.offset, g0, Ne.symm g0, g1, Ne.symm g1, g2, Ne.symm g2]) (by decide) ?_
        refine aw_iload_n 2 dX0_act_70 rfl rfl ?_
        refine aw_iconst (v := 1) dX0_act_71 (by decide) ?_
        refine aw_iadd dX0_act_72 ?_
        refine aw_iload_n 3 dX0_act_73 rfl rfl ?_
        refine aw_jge 90 dX0_act_74 (by decide) (fun c_16 => ?_) (fun c_16 => ?_)
        · have h := sw_if.f h c_16
          refine aw_iconst (v := 1) dX0_act_90 (by decide) ?_
          refine aw_sub [0] rfl ?_
          exact t_X0_act_91 hG ha0  h
        · have h := sw_if.t h c_16
          refine aw_aload_n 1 dX0_act_77 rfl rfl ?_
          refine aw_iload_n 2 dX0_act_78 rfl rfl ?_
          refine aw_iconst (v := 1) dX0_act_79 (by decide) ?_
          refine aw_iadd dX0_act_80 ?_
          refine aw_callV wv_X8_at (M_X8_at hG  h) ml_X0_40 rfl (by decide) (lk1 hG) rfl rfl (Nat.le_of_ble_eq_true rfl) ⟨rfl, rfl⟩ ⟨Nat.le_of_ble_eq_true rfl, Nat.le_of_ble_eq_true rfl⟩ ⟨Nat.le_refl _, Nat.le_refl _⟩ dX0_act_81 (aw_ki fun r_17 I_18 J_19 h => ?_)
          refine aw_bipush (v := 48) dX0_act_84 (by decide) ?_
          refine aw_isub dX0_act_86 ?_
          refine aw_goto 91 dX0_act_87 (by decide) ?_
          refine aw_sub [0] rfl ?_
          exact t_X0_act_91 hG ha0  h
theorem M_X0_act {l : Launch} {D : va_G} {cy : Nat → ClassId} {sz : Nat} {G : sw_G} (hG : sw_lay G) {a0 : Nat} (ha0 : sw_day G a0) {Q : Int32 → sw_I → sw_J → Prop} {x2 : Int32} {x3 : Int32} {I : sw_I} {J : sw_J} (h : wp_X0_act a0 x2 x3 I J Q) : Met l yX0_act (Cond.code yX0_act cX0_act 6 (some .boolean) :: sw_T) rm_X0_act (sw_Pc D cy sz [.ref (sz + a0), .ref (sz + 1), .int x2, .int x3] G I J) (sw_Q D cy sz (sw_qi G Q)) 0 0 (fun q => sz ≤ q) :=
  sw_met (by decide) (fun q => by cases q) (Nat.le_of_ble_eq_true rfl) rfl (t_X0_act hG ha0 h)
-- X9_along
abbrev rm_X9_along : Room := { frames := 4, cells := 0, slots := 0, locals := 102 }
def wp_X9_along (x1 : Int32) (I : sw_I) (J : sw_J) (Q : Int32 → sw_I → sw_J → Prop) : Prop :=
  wp_X3_onFloor 13 (I 13 4) I J (fun r_1 I_2 J_3 => wp_X9_fewestMoved x1 (r_1 &&& ((I_2 13 3) ^^^ (-1 : Int32))) I_2 J_3 (fun r_4 I_5 J_6 => Q r_4 I_5 J_6))
set_option maxRecDepth 20000 in
theorem t_X9_along {l : Launch} {D : va_G} {cy : Nat → ClassId} {sz : Nat} {G : sw_G} (hG : sw_lay G)   {Q : Int32 → sw_I → sw_J → Prop} {x1 : Int32} {I : sw_I} {J : sw_J} (h : wp_X9_along x1 I J Q) : AW l D cy sz RX9 cX9_along 2 (some .int) false rm_X9_along 0 0 (sw_qi G Q) 0 0 G I J 0 [(0, .ref (sz + 0)), (1, .int x1)] [] := by
  unfold wp_X9_along at h
  refine aw_aload_n 0 dX9_along_0 rfl rfl ?_
  refine aw_iload_n 1 dX9_along_1 rfl rfl ?_
  refine aw_aload_n 0 dX9_along_2 rfl rfl ?_
  refine gf_X9_2 fl_X9_26 (lk0 hG) (lr0_2 hG) dX9_along_3 ?_
  refine aw_aload_n 0 dX9_along_6 rfl rfl ?_
  refine gf_X9_2 fl_X9_26 (lk0 hG) (lr0_2 hG) dX9_along_7 ?_
  refine gf_X3_4 fl_X9_87 (lk13 hG) dX9_along_10 ?_
  refine aw_callV wv_X3_onFloor (M_X3_onFloor trivial (lm13 hG) h) ml_X9_217 rfl (by decide) (lk13 hG) rfl rfl (Nat.le_of_ble_eq_true rfl) ⟨rfl, rfl⟩ ⟨Nat.le_of_ble_eq_true rfl, Nat.le_of_ble_eq_true rfl⟩ ⟨Nat.le_refl _, Nat.le_refl _⟩ dX9_along_13 (aw_ki fun r_1 I_2 J_3 h => ?_)
  refine aw_aload_n 0 dX9_along_16 rfl rfl ?_
  refine gf_X9_2 fl_X9_26 (lk0 hG) (lr0_2 hG) dX9_along_17 ?_
  refine gf_X3_3 fl_X9_132 (lk13 hG) dX9_along_20 ?_
  refine aw_iconst (v := (-1)) dX9_along_23 (by decide) ?_
  refine aw_ixor dX9_along_24 ?_
  refine aw_iand dX9_along_25 ?_
  refine aw_callV wv_X9_fewestMoved (M_X9_fewestMoved hG  h) ml_X9_251 rfl (by decide) (lk0 hG) rfl rfl (Nat.le_of_ble_eq_true rfl) ⟨rfl, rfl⟩ ⟨Nat.le_of_ble_eq_true rfl, Nat.le_of_ble_eq_true rfl⟩ ⟨Nat.le_refl _, Nat.le_refl _⟩ dX9_along_26 (aw_ki fun r_4 I_5 J_6 h => ?_)
  exact aw_iret rfl dX9_along_29 ⟨rfl, _, rfl, h⟩
theorem M_X9_along {l : Launch} {D : va_G} {cy : Nat → ClassId} {sz : Nat} {G : sw_G} (hG : sw_lay G)   {Q : Int32 → sw_I → sw_J → Prop} {x1 : Int32} {I : sw_I} {J : sw_J} (h : wp_X9_along x1 I J Q) : Met l yX9_along (Cond.code yX9_along cX9_along 2 (some .int) :: sw_T) rm_X9_along (sw_Pc D cy sz [.ref (sz + 0), .int x1] G I J) (sw_Q D cy sz (sw_qi G Q)) 0 0 (fun q => sz ≤ q) :=
  sw_met (by decide) (fun q => by cases q) (Nat.le_of_ble_eq_true rfl) rfl (t_X9_along hG  h)
-- X9_without
abbrev rm_X9_without : Room := { frames := 4, cells := 0, slots := 0, locals := 102 }
def wp_X9_without (x1 : Int32) (I : sw_I) (J : sw_J) (Q : Int32 → sw_I → sw_J → Prop) : Prop :=
  wp_X9_fewestMoved x1 (I 13 3) I J (fun r_1 I_2 J_3 => Q r_1 I_2 J_3)
set_option maxRecDepth 20000 in
theorem t_X9_without {l : Launch} {D : va_G} {cy : Nat → ClassId} {sz : Nat} {G : sw_G} (hG : sw_lay G)   {Q : Int32 → sw_I → sw_J → Prop} {x1 : Int32} {I : sw_I} {J : sw_J} (h : wp_X9_without x1 I J Q) : AW l D cy sz RX9 cX9_without 2 (some .int) false rm_X9_without 0 0 (sw_qi G Q) 0 0 G I J 0 [(0, .ref (sz + 0)), (1, .int x1)] [] := by
  unfold wp_X9_without at h
  refine aw_aload_n 0 dX9_without_0 rfl rfl ?_
  refine aw_iload_n 1 dX9_without_1 rfl rfl ?_
  refine aw_aload_n 0 dX9_without_2 rfl rfl ?_
  refine gf_X9_2 fl_X9_26 (lk0 hG) (lr0_2 hG) dX9_without_3 ?_
  refine gf_X3_3 fl_X9_132 (lk13 hG) dX9_without_6 ?_
  refine aw_callV wv_X9_fewestMoved (M_X9_fewestMoved hG  h) ml_X9_251 rfl (by decide) (lk0 hG) rfl rfl (Nat.le_of_ble_eq_true rfl) ⟨rfl, rfl⟩ ⟨Nat.le_of_ble_eq_true rfl, Nat.le_of_ble_eq_true rfl⟩ ⟨Nat.le_refl _, Nat.le_refl _⟩ dX9_without_9 (aw_ki fun r_1 I_2 J_3 h => ?_)
  exact aw_iret rfl dX9_without_12 ⟨rfl, _, rfl, h⟩
theorem M_X9_without {l : Launch} {D : va_G} {cy : Nat → ClassId} {sz : Nat} {G : sw_G} (hG : sw_lay G)   {Q : Int32 → sw_I → sw_J → Prop} {x1 : Int32} {I : sw_I} {J : sw_J} (h : wp_X9_without x1 I J Q) : Met l yX9_without (Cond.code yX9_without cX9_without 2 (some .int) :: sw_T) rm_X9_without (sw_Pc D cy sz [.ref (sz + 0), .int x1] G I J) (sw_Q D cy sz (sw_qi G Q)) 0 0 (fun q => sz ≤ q) :=
  sw_met (by decide) (fun q => by cases q) (Nat.le_of_ble_eq_true rfl) rfl (t_X9_without hG  h)
-- X9_advise
abbrev rm_X9_advise : Room := { frames := 5, cells := 0, slots := 0, locals := 125 }
def wp_X9_advise (x1 : Int32) (I : sw_I) (J : sw_J) (Q : Int32 → sw_I → sw_J → Prop) : Prop :=
  wp_X3_isIn 13 x1 I J (fun r_1 I_2 J_3 => sw_if (r_1 = 0) (Q (-2 : Int32) I_2 J_3) (wp_X3_copy 17 13 I_2 J_3 (fun I_6 J_7 => wp_X9_bestWish 17 x1 I_6 J_7 (fun r_8 I_9 J_10 => wp_X9_clearRow  I_9 J_10 (fun I_12 J_13 => wp_X9_distanceBy 17 x1 r_8 I_12 J_13 (fun r_14 I_15 J_16 => wp_X9_tell r_14.toInt64 I_15 J_16 (fun I_18 J_19 => Q r_8 I_18 J_19)))))))
set_option maxRecDepth 20000 in
theorem t_X9_advise {l : Launch} {D : va_G} {cy : Nat → ClassId} {sz : Nat} {G : sw_G} (hG : sw_lay G)   {Q : Int32 → sw_I → sw_J → Prop} {x1 : Int32} {I : sw_I} {J : sw_J} (h : wp_X9_advise x1 I J Q) : AW l D cy sz RX9 cX9_advise 3 (some .int) false rm_X9_advise 0 0 (sw_qi G Q) 0 0 G I J 0 [(0, .ref (sz + 0)), (1, .int x1)] [] := by
  unfold wp_X9_advise at h
  refine aw_aload_n 0 dX9_advise_0 rfl rfl ?_
  refine gf_X9_2 fl_X9_26 (lk0 hG) (lr0_2 hG) dX9_advise_1 ?_
  refine aw_iload_n 1 dX9_advise_4 rfl rfl ?_
  refine aw_callV wv_X3_isIn (M_X3_isIn trivial (lm13 hG) h) ml_X9_175 rfl (by decide) (lk13 hG) rfl rfl (Nat.le_of_ble_eq_true rfl) ⟨rfl, rfl⟩ ⟨Nat.le_of_ble_eq_true rfl, Nat.le_of_ble_eq_true rfl⟩ ⟨Nat.le_refl _, Nat.le_refl _⟩ dX9_advise_5 (aw_ki fun r_1 I_2 J_3 h => ?_)
  refine aw_zne 14 dX9_advise_8 (by decide) (fun c_4 => ?_) (fun c_4 => ?_)
  · have h := sw_if.f h c_4
    refine aw_aload_n 0 dX9_advise_14 rfl rfl ?_
    refine gf_X9_3 fl_X9_30 (lk0 hG) (lr0_3 hG) dX9_advise_15 ?_
    refine aw_aload_n 0 dX9_advise_18 rfl rfl ?_
    refine gf_X9_2 fl_X9_26 (lk0 hG) (lr0_2 hG) dX9_advise_19 ?_
    refine aw_callV wv_X3_copy (M_X3_copy hG (lm17 hG) (lm13 hG) h) ml_X9_254 rfl (by decide) (lk17 hG) rfl rfl (Nat.le_of_ble_eq_true rfl) ⟨rfl, rfl⟩ ⟨Nat.le_of_ble_eq_true rfl, Nat.le_of_ble_eq_true rfl⟩ ⟨Nat.le_refl _, Nat.le_refl _⟩ dX9_advise_22 (aw_kv fun I_6 J_7 h => ?_)
    refine aw_aload_n 0 dX9_advise_25 rfl rfl ?_
    refine aw_aload_n 0 dX9_advise_26 rfl rfl ?_
    refine gf_X9_3 fl_X9_30 (lk0 hG) (lr0_3 hG) dX9_advise_27 ?_
    refine aw_iload_n 1 dX9_advise_30 rfl rfl ?_
    refine aw_callV wv_X9_bestWish (M_X9_bestWish hG (lm17 hG) h) ml_X9_257 rfl (by decide) (lk0 hG) rfl rfl (Nat.le_of_ble_eq_true rfl) ⟨rfl, rfl⟩ ⟨Nat.le_of_ble_eq_true rfl, Nat.le_of_ble_eq_true rfl⟩ ⟨Nat.le_refl _, Nat.le_refl _⟩ dX9_advise_31 (aw_ki fun r_8 I_9 J_10 h => ?_)
    refine aw_istore_n (lv' := [(2, .int r_8), (0, .ref (sz + 0)), (1, .int x1)]) dX9_advise_34 rfl (by decide) rfl ?_
    refine aw_aload_n 1 dX9_advise_35 rfl rfl ?_
    refine aw_callV wv_X9_clearRow (M_X9_clearRow hG  h) ml_X9_182 rfl (by decide) (lk0 hG) rfl rfl (Nat.le_of_ble_eq_true rfl) ⟨rfl, rfl⟩ ⟨Nat.le_of_ble_eq_true rfl, Nat.le_of_ble_eq_true rfl⟩ ⟨Nat.le_refl _, Nat.le_refl _⟩ dX9_advise_36 (aw_kv fun I_12 J_13 h => ?_)
    refine aw_aload_n 1 dX9_advise_39 rfl rfl ?_
    refine aw_aload_n 1 dX9_advise_40 rfl rfl ?_
    refine aw_aload_n 1 dX9_advise_41 rfl rfl ?_
    refine gf_X9_3 fl_X9_30 (lk0 hG) (lr0_3 hG) dX9_advise_42 ?_
    refine aw_iload_n 2 dX9_advise_45 rfl rfl ?_
    refine aw_iload_n 0 dX9_advise_46 rfl rfl ?_
    refine aw_callV wv_X9_distanceBy (M_X9_distanceBy hG (lm17 hG) h) ml_X9_260 rfl (by decide) (lk0 hG) rfl rfl (Nat.le_of_ble_eq_true rfl) ⟨rfl, rfl⟩ ⟨Nat.le_of_ble_eq_true rfl, Nat.le_of_ble_eq_true rfl⟩ ⟨Nat.le_refl _, Nat.le_refl _⟩ dX9_advise_47 (aw_ki fun r_14 I_15 J_16 h => ?_)
    refine aw_i2l dX9_advise_50 ?_
    refine aw_callV wv_X9_tell (M_X9_tell hG  h) ml_X9_185 rfl (by decide) (lk0 hG) rfl rfl (Nat.le_of_ble_eq_true rfl) ⟨rfl, rfl⟩ ⟨Nat.le_of_ble_eq_true rfl, Nat.le_of_ble_eq_true rfl⟩ ⟨Nat.le_refl _, Nat.le_refl _⟩ dX9_advise_51 (aw_kv fun I_18 J_19 h => ?_)
    refine aw_iload_n 0 dX9_advise_54 rfl rfl ?_
    exact aw_iret rfl dX9_advise_55 ⟨rfl, _, rfl, h⟩
  · have h := sw_if.t h c_4
    refine aw_bipush (v := (-2)) dX9_advise_11 (by decide) ?_
    exact aw_iret rfl dX9_advise_13 ⟨rfl, _, rfl, h⟩
theorem M_X9_advise {l : Launch} {D : va_G} {cy : Nat → ClassId} {sz : Nat} {G : sw_G} (hG : sw_lay G)   {Q : Int32 → sw_I → sw_J → Prop} {x1 : Int32} {I : sw_I} {J : sw_J} (h : wp_X9_advise x1 I J Q) : Met l yX9_advise (Cond.code yX9_advise cX9_advise 3 (some .int) :: sw_T) rm_X9_advise (sw_Pc D cy sz [.ref (sz + 0), .int x1] G I J) (sw_Q D cy sz (sw_qi G Q)) 0 0 (fun q => sz ≤ q) :=
  sw_met (by decide) (fun q => by cases q) (Nat.le_of_ble_eq_true rfl) rfl (t_X9_advise hG  h)
