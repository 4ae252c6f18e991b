-- X7_allSo
abbrev rm_X7_allSo : Room := { frames := 3, cells := 0, slots := 0, locals := 74 }
def wb_X7_allSo_2  (K2 : Int32 → sw_I → sw_J → Prop) (Q : Int32 → sw_I → sw_J → Prop) (x2 : Int32) (I : sw_I) (J : sw_J) : Prop :=
  sw_if (x2 < (I 109 4)) (vp_in x2 8 ∧ ∀ I_3 : sw_I, I_3 = sw_up I 113 4 (I 110 x2.toNatClampNeg) → vp_in x2 8 ∧ wp_X1_nextStop 113 (I_3 111 x2.toNatClampNeg) I_3 J (fun r_6 I_7 J_8 => vp_in x2 8 ∧ sw_if (r_6 = (I_7 112 x2.toNatClampNeg)) (∀ y_11 : Int32, y_11 = x2 + 1 → K2 y_11 I_7 J_8) (Q 0 I_7 J_8))) (Q 1 I J)
def wl_X7_allSo_2   (Q : Int32 → sw_I → sw_J → Prop) : Nat → Int32 → sw_I → sw_J → Prop
  | 0 => fun _ _ _ => False
  | n + 1 => fun x2 I J => wb_X7_allSo_2  (wl_X7_allSo_2   Q n) Q x2 I J
def wp_X7_allSo  (I : sw_I) (J : sw_J) (Q : Int32 → sw_I → sw_J → Prop) : Prop :=
  ∃ n_1 : Nat, wl_X7_allSo_2   Q n_1 0 I J
set_option maxRecDepth 20000 in
theorem tb_X7_allSo_2 {l : Launch} {D : va_G} {cy : Nat → ClassId} {sz : Nat} {G : sw_G} (hG : sw_lay G)   {Q : Int32 → sw_I → sw_J → Prop} {K2 : Int32 → sw_I → sw_J → Prop} (hK2 : ∀ (x2 : Int32) (I : sw_I) (J : sw_J), K2 x2 I J → AW l D cy sz RX7 cX7_allSo 3 (some .boolean) false rm_X7_allSo 0 0 (sw_qi G Q) 0 0 G I J 2 [(0, .ref (sz + 109)), (1, .ref (sz + 3)), (2, .int x2)] []) {x2 : Int32} {I : sw_I} {J : sw_J} (h : wb_X7_allSo_2  K2 Q x2 I J) : AW l D cy sz RX7 cX7_allSo 3 (some .boolean) false rm_X7_allSo 0 0 (sw_qi G Q) 0 0 G I J 2 [(0, .ref (sz + 109)), (1, .ref (sz + 3)), (2, .int x2)] [] := by
  unfold wb_X7_allSo_2 at h
  refine aw_iload_n 2 dX7_allSo_2 rfl rfl ?_
  refine aw_aload_n 0 dX7_allSo_3 rfl rfl ?_
  refine gf_X7_4 fl_X7_28 (lk109 hG) dX7_allSo_4 ?_
  refine aw_jge 54 dX7_allSo_7 (by decide) (fun c_1 => ?_) (fun c_1 => ?_)
  · have h := sw_if.f h c_1
    refine aw_iconst (v := 1) dX7_allSo_54 (by decide) ?_
    exact aw_zret rfl rfl dX7_allSo_55 ⟨rfl, _, rfl, h⟩
  · have h := sw_if.t h c_1
    refine aw_aload_n 0 dX7_allSo_10 rfl rfl ?_
    refine gf_X7_3 fl_X7_24 (lk109 hG) (lr109_3 hG) dX7_allSo_11 ?_
    refine aw_aload_n 0 dX7_allSo_14 rfl rfl ?_
    refine gf_X7_0 fl_X7_9 (lk109 hG) (lr109_0 hG) dX7_allSo_15 ?_
    refine aw_iload_n 2 dX7_allSo_18 rfl rfl ?_
    obtain ⟨hi_2, h⟩ := h
    refine aw_ild dX7_allSo_19 (lk110 hG) (ln110 hG) hi_2 ?_
    refine pf_X3_4 fl_X7_41 (lk113 hG) dX7_allSo_20 (aw_nameI fun I_3 e_4 => ?_)
    have h := h I_3 e_4
    refine aw_aload_n 1 dX7_allSo_23 rfl rfl ?_
    refine aw_aload_n 0 dX7_allSo_24 rfl rfl ?_
    refine gf_X7_3 fl_X7_24 (lk109 hG) (lr109_3 hG) dX7_allSo_25 ?_
    refine aw_aload_n 0 dX7_allSo_28 rfl rfl ?_
    refine gf_X7_1 fl_X7_15 (lk109 hG) (lr109_1 hG) dX7_allSo_29 ?_
    refine aw_iload_n 2 dX7_allSo_32 rfl rfl ?_
    obtain ⟨hi_5, h⟩ := h
    refine aw_ild dX7_allSo_33 (lk111 hG) (ln111 hG) hi_5 ?_
    refine aw_callV wv_X1_nextStop (M_X1_nextStop hG (lm113 hG) h) ml_X7_44 rfl (by decide) (lk3 hG) rfl rfl (Nat.le_of_ble_eq_true rfl) ⟨rfl, rfl⟩ ⟨Nat.le_of_ble_eq_true rfl, Nat.le_of_ble_eq_true rfl⟩ ⟨Nat.le_refl _, Nat.le_refl _⟩ dX7_allSo_34 (aw_ki fun r_6 I_7 J_8 h => ?_)
    refine aw_aload_n 0 dX7_allSo_37 rfl rfl ?_
    refine gf_X7_2 fl_X7_18 (lk109 hG) (lr109_2 hG) dX7_allSo_38 ?_
    refine aw_iload_n 2 dX7_allSo_41 rfl rfl ?_
    obtain ⟨hi_9, h⟩ := h
    refine aw_ild dX7_allSo_42 (lk112 hG) (ln112 hG) hi_9 ?_
    refine aw_jeq 48 dX7_allSo_43 (by decide) (fun c_10 => ?_) (fun c_10 => ?_)
    · have h := sw_if.t h c_10
      obtain ⟨y_11, e_12⟩ : ∃ q : Int32, q = x2 + 1 := ⟨_, rfl⟩
      have h := h y_11 e_12
      refine aw_iinc (lv' := [(2, .int y_11), (0, .ref (sz + 109)), (1, .ref (sz + 3))]) 2 dX7_allSo_48 rfl (by rw [e_12]; rfl) (by decide) rfl ?_
      refine aw_goto 2 dX7_allSo_51 (by decide) ?_
      refine aw_sub [1, 2, 0] rfl ?_
      exact hK2 y_11 I_7 J_8 h
    · have h := sw_if.f h c_10
      refine aw_iconst (v := 0) dX7_allSo_46 (by decide) ?_
      exact aw_zret rfl rfl dX7_allSo_47 ⟨rfl, _, rfl, h⟩
set_option maxRecDepth 20000 in
theorem tl_X7_allSo_2 {l : Launch} {D : va_G} {cy : Nat → ClassId} {sz : Nat} {G : sw_G} (hG : sw_lay G)   {Q : Int32 → sw_I → sw_J → Prop} : ∀ (n : Nat) (x2 : Int32) (I : sw_I) (J : sw_J), wl_X7_allSo_2   Q n x2 I J → AW l D cy sz RX7 cX7_allSo 3 (some .boolean) false rm_X7_allSo 0 0 (sw_qi G Q) 0 0 G I J 2 [(0, .ref (sz + 109)), (1, .ref (sz + 3)), (2, .int x2)] [] := by
  intro n
  induction n with
  | zero => intro x2 I J h; exact False.elim h
  | succ n ih => intro x2 I J h; exact tb_X7_allSo_2 hG  ih h
set_option maxRecDepth 20000 in
theorem t_X7_allSo {l : Launch} {D : va_G} {cy : Nat → ClassId} {sz : Nat} {G : sw_G} (hG : sw_lay G)   {Q : Int32 → sw_I → sw_J → Prop}  {I : sw_I} {J : sw_J} (h : wp_X7_allSo  I J Q) : AW l D cy sz RX7 cX7_allSo 3 (some .boolean) false rm_X7_allSo 0 0 (sw_qi G Q) 0 0 G I J 0 [(0, .ref (sz + 109)), (1, .ref (sz + 3))] [] := by
  unfold wp_X7_allSo at h
  refine aw_iconst (v := 0) dX7_allSo_0 (by decide) ?_
  refine aw_istore_n (lv' := [(2, .int 0), (0, .ref (sz + 109)), (1, .ref (sz + 3))]) dX7_allSo_1 rfl (by decide) rfl ?_
  refine aw_sub [1, 2, 0] rfl ?_
  obtain ⟨n_1, h⟩ := h
  exact tl_X7_allSo_2 hG   n_1 0 I J h
theorem M_X7_allSo {l : Launch} {D : va_G} {cy : Nat → ClassId} {sz : Nat} {G : sw_G} (hG : sw_lay G)   {Q : Int32 → sw_I → sw_J → Prop}  {I : sw_I} {J : sw_J} (h : wp_X7_allSo  I J Q) : Met l yX7_allSo (Cond.code yX7_allSo cX7_allSo 3 (some .boolean) :: sw_T) rm_X7_allSo (sw_Pc D cy sz [.ref (sz + 109), .ref (sz + 3)] G I J) (sw_Q D cy sz (sw_qi G Q)) 0 0 (fun q => sz ≤ q) :=
  sw_met (by decide) (fun q => by cases q) (Nat.le_of_ble_eq_true rfl) rfl (t_X7_allSo hG  h)
-- X7_allSoIf
abbrev rm_X7_allSoIf : Room := { frames := 4, cells := 0, slots := 0, locals := 96 }
def wp_X7_allSoIf (x2 : Int32) (x3 : Int32) (I : sw_I) (J : sw_J) (Q : Int32 → sw_I → sw_J → Prop) : Prop :=
  vp_in x2 10 ∧ ∀ y_2 : Int32, y_2 = (I 115 x2.toNatClampNeg) → vp_in x2 10 ∧ ∀ I_5 : sw_I, I_5 = sw_up I 115 x2.toNatClampNeg x3 → wp_X7_allSo  I_5 J (fun r_7 I_8 J_9 => vp_in x2 10 ∧ ∀ I_11 : sw_I, I_11 = sw_up I_8 115 x2.toNatClampNeg y_2 → (r_7 = 0 ∨ r_7 = 1) ∧ Q r_7 I_11 J_9)
set_option maxRecDepth 20000 in
theorem t_X7_allSoIf {l : Launch} {D : va_G} {cy : Nat → ClassId} {sz : Nat} {G : sw_G} (hG : sw_lay G)   {Q : Int32 → sw_I → sw_J → Prop} {x2 : Int32} {x3 : Int32} {I : sw_I} {J : sw_J} (h : wp_X7_allSoIf x2 x3 I J Q) : AW l D cy sz RX7 cX7_allSoIf 6 (some .boolean) false rm_X7_allSoIf 0 0 (sw_qi G Q) 0 0 G I J 0 [(0, .ref (sz + 109)), (1, .ref (sz + 3)), (2, .int x2), (3, .int x3)] [] := by
  unfold wp_X7_allSoIf at h
  refine aw_aload_n 0 dX7_allSoIf_0 rfl rfl ?_
  refine gf_X7_3 fl_X7_24 (lk109 hG) (lr109_3 hG) dX7_allSoIf_1 ?_
  refine gf_X3_1 fl_X7_32 (lk113 hG) (lr113_1 hG) dX7_allSoIf_4 ?_
  refine aw_iload_n 2 dX7_allSoIf_7 rfl rfl ?_
  obtain ⟨hi_1, h⟩ := h
  refine aw_ild dX7_allSoIf_8 (lk115 hG) (ln115 hG) hi_1 ?_
  refine aw_topi (fun y_2 e_3 => ?_)
  have h := h y_2 e_3
  refine aw_istore (lv' := [(4, .int y_2), (0, .ref (sz + 109)), (1, .ref (sz + 3)), (2, .int x2), (3, .int x3)]) dX7_allSoIf_9 (by decide) rfl ?_
  refine aw_aload_n 1 dX7_allSoIf_11 rfl rfl ?_
  refine gf_X7_3 fl_X7_24 (lk109 hG) (lr109_3 hG) dX7_allSoIf_12 ?_
  refine gf_X3_1 fl_X7_32 (lk113 hG) (lr113_1 hG) dX7_allSoIf_15 ?_
  refine aw_iload_n 3 dX7_allSoIf_18 rfl rfl ?_
  refine aw_iload_n 4 dX7_allSoIf_19 rfl rfl ?_
  obtain ⟨hi_4, h⟩ := h
  refine aw_ist dX7_allSoIf_20 (lk115 hG) (ln115 hG) hi_4 (aw_nameI fun I_5 e_6 => ?_)
  have h := h I_5 e_6
  refine aw_aload_n 1 dX7_allSoIf_21 rfl rfl ?_
  refine aw_aload_n 2 dX7_allSoIf_22 rfl rfl ?_
  refine aw_callV wv_X7_allSo (M_X7_allSo hG  h) ml_X7_50 rfl (by decide) (lk109 hG) rfl rfl (Nat.le_of_ble_eq_true rfl) ⟨rfl, rfl⟩ ⟨Nat.le_of_ble_eq_true rfl, Nat.le_of_ble_eq_true rfl⟩ ⟨Nat.le_refl _, Nat.le_refl _⟩ dX7_allSoIf_23 (aw_ki fun r_7 I_8 J_9 h => ?_)
  refine aw_istore (lv' := [(5, .int r_7), (4, .int y_2), (0, .ref (sz + 109)), (1, .ref (sz + 3)), (2, .int x2), (3, .int x3)]) dX7_allSoIf_26 (by decide) rfl ?_
  refine aw_aload_n 2 dX7_allSoIf_28 rfl rfl ?_
  refine gf_X7_3 fl_X7_24 (lk109 hG) (lr109_3 hG) dX7_allSoIf_29 ?_
  refine gf_X3_1 fl_X7_32 (lk113 hG) (lr113_1 hG) dX7_allSoIf_32 ?_
  refine aw_iload_n 4 dX7_allSoIf_35 rfl rfl ?_
  refine aw_iload 1 dX7_allSoIf_36 rfl ?_
  obtain ⟨hi_10, h⟩ := h
  refine aw_ist dX7_allSoIf_38 (lk115 hG) (ln115 hG) hi_10 (aw_nameI fun I_11 e_12 => ?_)
  have h := h I_11 e_12
  refine aw_iload 0 dX7_allSoIf_39 rfl ?_
  exact aw_zret rfl (sw_bool h.1).1 dX7_allSoIf_41 ⟨rfl, _, rfl, h.2⟩
theorem M_X7_allSoIf {l : Launch} {D : va_G} {cy : Nat → ClassId} {sz : Nat} {G : sw_G} (hG : sw_lay G)   {Q : Int32 → sw_I → sw_J → Prop} {x2 : Int32} {x3 : Int32} {I : sw_I} {J : sw_J} (h : wp_X7_allSoIf x2 x3 I J Q) : Met l yX7_allSoIf (Cond.code yX7_allSoIf cX7_allSoIf 6 (some .boolean) :: sw_T) rm_X7_allSoIf (sw_Pc D cy sz [.ref (sz + 109), .ref (sz + 3), .int x2, .int x3] G I J) (sw_Q D cy sz (sw_qi G Q)) 0 0 (fun q => sz ≤ q) :=
  sw_met (by decide) (fun q => by cases q) (Nat.le_of_ble_eq_true rfl) rfl (t_X7_allSoIf hG  h)
-- X7_otherWishSo
abbrev rm_X7_otherWishSo : Room := { frames := 4, cells := 0, slots := 0, locals := 96 }
def wB_X7_otherWishSo_93   (Q : Int32 → sw_I → sw_J → Prop) (x2 : Int32) (x4 : Int32) (x5 : Int32) (x6 : Int32) (x7 : Int32) (I : sw_I) (J : sw_J) : Prop :=
  vp_in x2 10 ∧ ∀ I_2 : sw_I, I_2 = sw_up I 115 x2.toNatClampNeg x5 → vp_in x4 10 ∧ ∀ I_5 : sw_I, I_5 = sw_up I_2 115 x4.toNatClampNeg x6 → Q x7 I_5 J
def wB_X7_otherWishSo_87  (K40 : Int32 → Int32 → Int32 → Int32 → Int32 → Int32 → sw_I → sw_J → Prop) (Q : Int32 → sw_I → sw_J → Prop) (x2 : Int32) (x4 : Int32) (x5 : Int32) (x6 : Int32) (x7 : Int32) (x8 : Int32) (I : sw_I) (J : sw_J) : Prop :=
  ∀ y_1 : Int32, y_1 = x8 + 1 → K40 x2 x4 x5 x6 x7 y_1 I J
def wb_X7_otherWishSo_40  (K40 : Int32 → Int32 → Int32 → Int32 → Int32 → Int32 → sw_I → sw_J → Prop) (Q : Int32 → sw_I → sw_J → Prop) (x2 : Int32) (x4 : Int32) (x5 : Int32) (x6 : Int32) (x7 : Int32) (x8 : Int32) (I : sw_I) (J : sw_J) : Prop :=
  sw_if (x8 < (I 3 0)) (sw_if (x7 = (-2 : Int32)) (vp_in x4 10 ∧ ∀ I_4 : sw_I, I_4 = sw_up I 115 x4.toNatClampNeg x8 → sw_if (x8 = x6) (wB_X7_otherWishSo_87  K40 Q x2 x4 x5 x6 x7 x8 I_4 J) (wp_X7_allSo  I_4 J (fun r_7 I_8 J_9 => sw_if (r_7 = 0) (wB_X7_otherWishSo_87  K40 Q x2 x4 x5 x6 x7 x8 I_8 J_9) (wB_X7_otherWishSo_87  K40 Q x2 x4 x5 x6 x8 x8 I_8 J_9)))) (wB_X7_otherWishSo_93   Q x2 x4 x5 x6 x7 I J)) (wB_X7_otherWishSo_93   Q x2 x4 x5 x6 x7 I J)
def wl_X7_otherWishSo_40   (Q : Int32 → sw_I → sw_J → Prop) : Nat → Int32 → Int32 → Int32 → Int32 → Int32 → Int32 → sw_I → sw_J → Prop
  | 0 => fun _ _ _ _ _ _ _ _ => False
  | n + 1 => fun x2 x4 x5 x6 x7 x8 I J => wb_X7_otherWishSo_40  (wl_X7_otherWishSo_40   Q n) Q x2 x4 x5 x6 x7 x8 I J
def wp_X7_otherWishSo (x2 : Int32) (x3 : Int32) (x4 : Int32) (I : sw_I) (J : sw_J) (Q : Int32 → sw_I → sw_J → Prop) : Prop :=
  vp_in x2 10 ∧ ∀ y_2 : Int32, y_2 = (I 115 x2.toNatClampNeg) → vp_in x4 10 ∧ ∀ y_5 : Int32, y_5 = (I 115 x4.toNatClampNeg) → vp_in x2 10 ∧ ∀ I_8 : sw_I, I_8 = sw_up I 115 x2.toNatClampNeg x3 → ∃ n_10 : Nat, wl_X7_otherWishSo_40   Q n_10 x2 x4 y_2 y_5 (-2) (-1) I_8 J
set_option maxRecDepth 20000 in
theorem t_X7_otherWishSo_93 {l : Launch} {D : va_G} {cy : Nat → ClassId} {sz : Nat} {G : sw_G} (hG : sw_lay G)   {Q : Int32 → sw_I → sw_J → Prop} {x2 : Int32} {x4 : Int32} {x5 : Int32} {x6 : Int32} {x7 : Int32} {I : sw_I} {J : sw_J} (h : wB_X7_otherWishSo_93   Q x2 x4 x5 x6 x7 I J) : AW l D cy sz RX7 cX7_otherWishSo 9 (some .int) false rm_X7_otherWishSo 0 0 (sw_qi G Q) 0 0 G I J 93 [(0, .ref (sz + 109)), (2, .int x2), (4, .int x4), (5, .int x5), (6, .int x6), (7, .int x7)] [] := by
  unfold wB_X7_otherWishSo_93 at h
  refine aw_aload_n 0 dX7_otherWishSo_93 rfl rfl ?_
  refine gf_X7_3 fl_X7_24 (lk109 hG) (lr109_3 hG) dX7_otherWishSo_94 ?_
  refine gf_X3_1 fl_X7_32 (lk113 hG) (lr113_1 hG) dX7_otherWishSo_97 ?_
  refine aw_iload_n 1 dX7_otherWishSo_100 rfl rfl ?_
  refine aw_iload 3 dX7_otherWishSo_101 rfl ?_
  obtain ⟨hi_1, h⟩ := h
  refine aw_ist dX7_otherWishSo_103 (lk115 hG) (ln115 hG) hi_1 (aw_nameI fun I_2 e_3 => ?_)
  have h := h I_2 e_3
  refine aw_aload_n 0 dX7_otherWishSo_104 rfl rfl ?_
  refine gf_X7_3 fl_X7_24 (lk109 hG) (lr109_3 hG) dX7_otherWishSo_105 ?_
  refine gf_X3_1 fl_X7_32 (lk113 hG) (lr113_1 hG) dX7_otherWishSo_108 ?_
  refine aw_iload 2 dX7_otherWishSo_111 rfl ?_
  refine aw_iload 4 dX7_otherWishSo_113 rfl ?_
  obtain ⟨hi_4, h⟩ := h
  refine aw_ist dX7_otherWishSo_115 (lk115 hG) (ln115 hG) hi_4 (aw_nameI fun I_5 e_6 => ?_)
  have h := h I_5 e_6
  refine aw_iload 5 dX7_otherWishSo_116 rfl ?_
  exact aw_iret rfl dX7_otherWishSo_118 ⟨rfl, _, rfl, h⟩
set_option maxRecDepth 20000 in
theorem t_X7_otherWishSo_87 {l : Launch} {D : va_G} {cy : Nat → ClassId} {sz : Nat} {G : sw_G} (hG : sw_lay G)   {Q : Int32 → sw_I → sw_J → Prop} {K40 : Int32 → Int32 → Int32 → Int32 → Int32 → Int32 → sw_I → sw_J → Prop} (hK40 : ∀ (x2 : Int32) (x4 : Int32) (x5 : Int32) (x6 : Int32) (x7 : Int32) (x8 : Int32) (I : sw_I) (J : sw_J), K40 x2 x4 x5 x6 x7 x8 I J → AW l D cy sz RX7 cX7_otherWishSo 9 (some .int) false rm_X7_otherWishSo 0 0 (sw_qi G Q) 0 0 G I J 40 [(0, .ref (sz + 109)), (1, .ref (sz + 3)), (2, .int x2), (4, .int x4), (5, .int x5), (6, .int x6), (7, .int x7), (8, .int x8)] []) {x2 : Int32} {x4 : Int32} {x5 : Int32} {x6 : Int32} {x7 : Int32} {x8 : Int32} {I : sw_I} {J : sw_J} (h : wB_X7_otherWishSo_87  K40 Q x2 x4 x5 x6 x7 x8 I J) : AW l D cy sz RX7 cX7_otherWishSo 9 (some .int) false rm_X7_otherWishSo 0 0 (sw_qi G Q) 0 0 G I J 87 [(0, .ref (sz + 109)), (1, .ref (sz + 3)), (2, .int x2), (4, .int x4), (5, .int x5), (6, .int x6), (7, .int x7), (8, .int x8)] [] := by
  unfold wB_X7_otherWishSo_87 at h
  obtain ⟨y_1, e_2⟩ : ∃ q : Int32, q = x8 + 1 := ⟨_, rfl⟩
  have h := h y_1 e_2
  refine aw_iinc (lv' := [(8, .int y_1), (0, .ref (sz + 109)), (1, .ref (sz + 3)), (2, .int x2), (4, .int x4), (5, .int x5), (6, .int x6), (7, .int x7)]) 7 dX7_otherWishSo_87 rfl (by rw [e_2]; rfl) (by decide) rfl ?_
  refine aw_goto 40 dX7_otherWishSo_90 (by decide) ?_
  refine aw_sub [1, 2, 3, 4, 5, 6, 7, 0] rfl ?_
  exact hK40 x2 x4 x5 x6 x7 y_1 I J h
set_option maxRecDepth 20000 in
theorem tb_X7_otherWishSo_40 {l : Launch} {D : va_G} {cy : Nat → ClassId} {sz : Nat} {G : sw_G} (hG : sw_lay G)   {Q : Int32 → sw_I → sw_J → Prop} {K40 : Int32 → Int32 → Int32 → Int32 → Int32 → Int32 → sw_I → sw_J → Prop} (hK40 : ∀ (x2 : Int32) (x4 : Int32) (x5 : Int32) (x6 : Int32) (x7 : Int32) (x8 : Int32) (I : sw_I) (J : sw_J), K40 x2 x4 x5 x6 x7 x8 I J → AW l D cy sz RX7 cX7_otherWishSo 9 (some .int) false rm_X7_otherWishSo 0 0 (sw_qi G Q) 0 0 G I J 40 [(0, .ref (sz + 109)), (1, .ref (sz + 3)), (2, .int x2), (4, .int x4), (5, .int x5), (6, .int x6), (7, .int x7), (8, .int x8)] []) {x2 : Int32} {x4 : Int32} {x5 : Int32} {x6 : Int32} {x7 : Int32} {x8 : Int32} {I : sw_I} {J : sw_J} (h : wb_X7_otherWishSo_40  K40 Q x2 x4 x5 x6 x7 x8 I J) : AW l D cy sz RX7 cX7_otherWishSo 9 (some .int) false rm_X7_otherWishSo 0 0 (sw_qi G Q) 0 0 G I J 40 [(0, .ref (sz + 109)), (1, .ref (sz + 3)), (2, .int x2), (4, .int x4), (5, .int x5), (6, .int x6), (7, .int x7), (8, .int x8)] [] := by
  unfold wb_X7_otherWishSo_40 at h
  refine aw_iload 7 dX7_otherWishSo_40 rfl ?_
  refine aw_aload_n 1 dX7_otherWishSo_42 rfl rfl ?_
  refine gf_X1_0 fl_X7_54 (lk3 hG) dX7_otherWishSo_43 ?_
  refine aw_jge 93 dX7_otherWishSo_46 (by decide) (fun c_1 => ?_) (fun c_1 => ?_)
  · have h := sw_if.f h c_1
    refine aw_sub [0, 2, 3, 4, 5, 6] rfl ?_
    exact t_X7_otherWishSo_93 hG   h
  · have h := sw_if.t h c_1
    refine aw_iload 6 dX7_otherWishSo_49 rfl ?_
    refine aw_bipush (v := (-2)) dX7_otherWishSo_51 (by decide) ?_
    refine aw_jne 93 dX7_otherWishSo_53 (by decide) (fun c_2 => ?_) (fun c_2 => ?_)
    · have h := sw_if.f h c_2
      refine aw_sub [0, 2, 3, 4, 5, 6] rfl ?_
      exact t_X7_otherWishSo_93 hG   h
    · have h := sw_if.t h c_2
      refine aw_aload_n 0 dX7_otherWishSo_56 rfl rfl ?_
      refine gf_X7_3 fl_X7_24 (lk109 hG) (lr109_3 hG) dX7_otherWishSo_57 ?_
      refine gf_X3_1 fl_X7_32 (lk113 hG) (lr113_1 hG) dX7_otherWishSo_60 ?_
      refine aw_iload 3 dX7_otherWishSo_63 rfl ?_
      refine aw_iload 7 dX7_otherWishSo_65 rfl ?_
      obtain ⟨hi_3, h⟩ := h
      refine aw_ist dX7_otherWishSo_67 (lk115 hG) (ln115 hG) hi_3 (aw_nameI fun I_4 e_5 => ?_)
      have h := h I_4 e_5
      refine aw_iload 7 dX7_otherWishSo_68 rfl ?_
      refine aw_iload 5 dX7_otherWishSo_70 rfl ?_
      refine aw_jeq 87 dX7_otherWishSo_72 (by decide) (fun c_6 => ?_) (fun c_6 => ?_)
      · have h := sw_if.t h c_6
        refine aw_sub [0, 1, 2, 3, 4, 5, 6, 7] rfl ?_
        exact t_X7_otherWishSo_87 hG  hK40 h
      · have h := sw_if.f h c_6
        refine aw_aload_n 0 dX7_otherWishSo_75 rfl rfl ?_
        refine aw_aload_n 1 dX7_otherWishSo_76 rfl rfl ?_
        refine aw_callV wv_X7_allSo (M_X7_allSo hG  h) ml_X7_50 rfl (by decide) (lk109 hG) rfl rfl (Nat.le_of_ble_eq_true rfl) ⟨rfl, rfl⟩ ⟨Nat.le_of_ble_eq_true rfl, Nat.le_of_ble_eq_true rfl⟩ ⟨Nat.le_refl _, Nat.le_refl _⟩ dX7_otherWishSo_77 (aw_ki fun r_7 I_8 J_9 h => ?_)
        refine aw_zeq 87 dX7_otherWishSo_80 (by decide) (fun c_10 => ?_) (fun c_10 => ?_)
        · have h := sw_if.t h c_10
          refine aw_sub [0, 1, 2, 3, 4, 5, 6, 7] rfl ?_
          exact t_X7_otherWishSo_87 hG  hK40 h
        · have h := sw_if.f h c_10
          refine aw_iload 7 dX7_otherWishSo_83 rfl ?_
          refine aw_istore (lv' := [(7, .int x8), (0, .ref (sz + 109)), (1, .ref (sz + 3)), (2, .int x2), (4, .int x4), (5, .int x5), (6, .int x6), (8, .int x8)]) dX7_otherWishSo_85 (by decide) rfl ?_
          refine aw_sub [1, 2, 3, 4, 5, 6, 0, 7] rfl ?_
          exact t_X7_otherWishSo_87 hG  hK40 h
set_option maxRecDepth 20000 in
theorem tl_X7_otherWishSo_40 {l : Launch} {D : va_G} {cy : Nat → ClassId} {sz : Nat} {G : sw_G} (hG : sw_lay G)   {Q : Int32 → sw_I → sw_J → Prop} : ∀ (n : Nat) (x2 : Int32) (x4 : Int32) (x5 : Int32) (x6 : Int32) (x7 : Int32) (x8 : Int32) (I : sw_I) (J : sw_J), wl_X7_otherWishSo_40   Q n x2 x4 x5 x6 x7 x8 I J → AW l D cy sz RX7 cX7_otherWishSo 9 (some .int) false rm_X7_otherWishSo 0 0 (sw_qi G Q) 0 0 G I J 40 [(0, .ref (sz + 109)), (1, .ref (sz + 3)), (2, .int x2), (4, .int x4), (5, .int x5), (6, .int x6), (7, .int x7), (8, .int x8)] [] := by
  intro n
  induction n with
  | zero => intro x2 x4 x5 x6 x7 x8 I J h; exact False.elim h
  | succ n ih => intro x2 x4 x5 x6 x7 x8 I J h; exact tb_X7_otherWishSo_40 hG  ih h
set_option maxRecDepth 20000 in
theorem t_X7_otherWishSo {l : Launch} {D : va_G} {cy : Nat → ClassId} {sz : Nat} {G : sw_G} (hG : sw_lay G)   {Q : Int32 → sw_I → sw_J → Prop} {x2 : Int32} {x3 : Int32} {x4 : Int32} {I : sw_I} {J : sw_J} (h : wp_X7_otherWishSo x2 x3 x4 I J Q) : AW l D cy sz RX7 cX7_otherWishSo 9 (some .int) false rm_X7_otherWishSo 0 0 (sw_qi G Q) 0 0 G I J 0 [(0, .ref (sz + 109)), (1, .ref (sz + 3)), (2, .int x2), (3, .int x3), (4, .int x4)] [] := by
  unfold wp_X7_otherWishSo at h
  refine aw_aload_n 0 dX7_otherWishSo_0 rfl rfl ?_
  refine gf_X7_3 fl_X7_24 (lk109 hG) (lr109_3 hG) dX7_otherWishSo_1 ?_
  refine gf_X3_1 fl_X7_32 (lk113 hG) (lr113_1 hG) dX7_otherWishSo_4 ?_
  refine aw_iload_n 2 dX7_otherWishSo_7 rfl rfl ?_
  obtain ⟨hi_1, h⟩ := h
  refine aw_ild dX7_otherWishSo_8 (lk115 hG) (ln115 hG) hi_1 ?_
  refine aw_topi (fun y_2 e_3 => ?_)
  have h := h y_2 e_3
  refine aw_istore (lv' := [(5, .int y_2), (0, .ref (sz + 109)), (1, .ref (sz + 3)), (2, .int x2), (3, .int x3), (4, .int x4)]) dX7_otherWishSo_9 (by decide) rfl ?_
  refine aw_aload_n 1 dX7_otherWishSo_11 rfl rfl ?_
  refine gf_X7_3 fl_X7_24 (lk109 hG) (lr109_3 hG) dX7_otherWishSo_12 ?_
  refine gf_X3_1 fl_X7_32 (lk113 hG) (lr113_1 hG) dX7_otherWishSo_15 ?_
  refine aw_iload 5 dX7_otherWishSo_18 rfl ?_
  obtain ⟨hi_4, h⟩ := h
  refine aw_ild dX7_otherWishSo_20 (lk115 hG) (ln115 hG) hi_4 ?_
  refine aw_topi (fun y_5 e_6 => ?_)
  have h := h y_5 e_6
  refine aw_istore (lv' := [(6, .int y_5), (5, .int y_2), (0, .ref (sz + 109)), (1, .ref (sz + 3)), (2, .int x2), (3, .int x3), (4, .int x4)]) dX7_otherWishSo_21 (by decide) rfl ?_
  refine aw_aload_n 2 dX7_otherWishSo_23 rfl rfl ?_
  refine gf_X7_3 fl_X7_24 (lk109 hG) (lr109_3 hG) dX7_otherWishSo_24 ?_
  refine gf_X3_1 fl_X7_32 (lk113 hG) (lr113_1 hG) dX7_otherWishSo_27 ?_
  refine aw_iload_n 4 dX7_otherWishSo_30 rfl rfl ?_
  refine aw_iload_n 5 dX7_otherWishSo_31 rfl rfl ?_
  obtain ⟨hi_7, h⟩ := h
  refine aw_ist dX7_otherWishSo_32 (lk115 hG) (ln115 hG) hi_7 (aw_nameI fun I_8 e_9 => ?_)
  have h := h I_8 e_9
  refine aw_bipush (v := (-2)) dX7_otherWishSo_33 (by decide) ?_
  refine aw_istore (lv' := [(7, .int (-2)), (6, .int y_5), (5, .int y_2), (0, .ref (sz + 109)), (1, .ref (sz + 3)), (2, .int x2), (3, .int x3), (4, .int x4)]) dX7_otherWishSo_35 (by decide) rfl ?_
  refine aw_iconst (v := (-1)) dX7_otherWishSo_37 (by decide) ?_
  refine aw_istore (lv' := [(8, .int (-1)), (7, .int (-2)), (6, .int y_5), (5, .int y_2), (0, .ref (sz + 109)), (1, .ref (sz + 3)), (2, .int x2), (3, .int x3), (4, .int x4)]) dX7_otherWishSo_38 (by decide) rfl ?_
  refine aw_sub [4, 5, 6, 8, 3, 2, 1, 0] rfl ?_
  obtain ⟨n_10, h⟩ := h
  exact tl_X7_otherWishSo_40 hG   n_10 x2 x4 y_2 y_5 (-2) (-1) I_8 J h
theorem M_X7_otherWishSo {l : Launch} {D : va_G} {cy : Nat → ClassId} {sz : Nat} {G : sw_G} (hG : sw_lay G)   {Q : Int32 → sw_I → sw_J → Prop} {x2 : Int32} {x3 : Int32} {x4 : Int32} {I : sw_I} {J : sw_J} (h : wp_X7_otherWishSo x2 x3 x4 I J Q) : Met l yX7_otherWishSo (Cond.code yX7_otherWishSo cX7_otherWishSo 9 (some .int) :: sw_T) rm_X7_otherWishSo (sw_Pc D cy sz [.ref (sz + 109), .ref (sz + 3), .int x2, .int x3, .int x4] G I J) (sw_Q D cy sz (sw_qi G Q)) 0 0 (fun q => sz ≤ q) :=
  sw_met (by decide) (fun q => by cases q) (Nat.le_of_ble_eq_true rfl) rfl (t_X7_otherWishSo hG  h)
-- X7_soWithOneMore
abbrev rm_X7_soWithOneMore : Room := { frames := 5, cells := 0, slots := 0, locals := 124 }
def wB_X7_soWithOneMore_46  (K15 : Int32 → Int32 → Int32 → sw_I → sw_J → Prop) (Q : Int32 → sw_I → sw_J → Prop) (x2 : Int32) (x3 : Int32) (x4 : Int32) (I : sw_I) (J : sw_J) : Prop :=
  ∀ y_1 : Int32, y_1 = x4 + 1 → K15 x2 x3 y_1 I J
def wb_X7_soWithOneMore_15  (K15 : Int32 → Int32 → Int32 → sw_I → sw_J → Prop) (Q : Int32 → sw_I → sw_J → Prop) (x2 : Int32) (x3 : Int32) (x4 : Int32) (I : sw_I) (J : sw_J) : Prop :=
  sw_if (x4 < (I 3 2)) (sw_if (x4 = x2) (wB_X7_soWithOneMore_46  K15 Q x2 x3 x4 I J) (wp_X7_otherWishSo x2 x3 x4 I J (fun r_3 I_4 J_5 => sw_if (r_3 = (-2 : Int32)) (wB_X7_soWithOneMore_46  K15 Q x2 x3 x4 I_4 J_5) (Q 1 I_4 J_5)))) (Q 0 I J)
def wl_X7_soWithOneMore_15   (Q : Int32 → sw_I → sw_J → Prop) : Nat → Int32 → Int32 → Int32 → sw_I → sw_J → Prop
  | 0 => fun _ _ _ _ _ => False
  | n + 1 => fun x2 x3 x4 I J => wb_X7_soWithOneMore_15  (wl_X7_soWithOneMore_15   Q n) Q x2 x3 x4 I J
def wp_X7_soWithOneMore (x2 : Int32) (x3 : Int32) (I : sw_I) (J : sw_J) (Q : Int32 → sw_I → sw_J → Prop) : Prop :=
  wp_X7_allSoIf x2 x3 I J (fun r_1 I_2 J_3 => sw_if (r_1 = 0) (∃ n_5 : Nat, wl_X7_soWithOneMore_15   Q n_5 x2 x3 0 I_2 J_3) (Q 1 I_2 J_3))
set_option maxRecDepth 20000 in
theorem t_X7_soWithOneMore_46 {l : Launch} {D : va_G} {cy : Nat → ClassId} {sz : Nat} {G : sw_G} (hG : sw_lay G)   {Q : Int32 → sw_I → sw_J → Prop} {K15 : Int32 → Int32 → Int32 → sw_I → sw_J → Prop} (hK15 : ∀ (x2 : Int32) (x3 : Int32) (x4 : Int32) (I : sw_I) (J : sw_J), K15 x2 x3 x4 I J → AW l D cy sz RX7 cX7_soWithOneMore 5 (some .boolean) false rm_X7_soWithOneMore 0 0 (sw_qi G Q) 0 0 G I J 15 [(0, .ref (sz + 109)), (1, .ref (sz + 3)), (2, .int x2), (3, .int x3), (4, .int x4)] []) {x2 : Int32} {x3 : Int32} {x4 : Int32} {I : sw_I} {J : sw_J} (h : wB_X7_soWithOneMore_46  K15 Q x2 x3 x4 I J) : AW l D cy sz RX7 cX7_soWithOneMore 5 (some .boolean) false rm_X7_soWithOneMore 0 0 (sw_qi G Q) 0 0 G I J 46 [(0, .ref (sz + 109)), (1, .ref (sz + 3)), (2, .int x2), (3, .int x3), (4, .int x4)] [] := by
  unfold wB_X7_soWithOneMore_46 at h
  obtain ⟨y_1, e_2⟩ : ∃ q : Int32, q = x4 + 1 := ⟨_, rfl⟩
  have h := h y_1 e_2
  refine aw_iinc (lv' := [(4, .int y_1), (0, .ref (sz + 109)), (1, .ref (sz + 3)), (2, .int x2), (3, .int x3)]) 4 dX7_soWithOneMore_46 rfl (by rw [e_2]; rfl) (by decide) rfl ?_
  refine aw_goto 15 dX7_soWithOneMore_49 (by decide) ?_
  refine aw_sub [1, 2, 3, 4, 0] rfl ?_
  exact hK15 x2 x3 y_1 I J h
set_option maxRecDepth 20000 in
theorem tb_X7_soWithOneMore_15 {l : Launch} {D : va_G} {cy : Nat → ClassId} {sz : Nat} {G : sw_G} (hG : sw_lay G)   {Q : Int32 → sw_I → sw_J → Prop} {K15 : Int32 → Int32 → Int32 → sw_I → sw_J → Prop} (hK15 : ∀ (x2 : Int32) (x3 : Int32) (x4 : Int32) (I : sw_I) (J : sw_J), K15 x2 x3 x4 I J → AW l D cy sz RX7 cX7_soWithOneMore 5 (some .boolean) false rm_X7_soWithOneMore 0 0 (sw_qi G Q) 0 0 G I J 15 [(0, .ref (sz + 109)), (1, .ref (sz + 3)), (2, .int x2), (3, .int x3), (4, .int x4)] []) {x2 : Int32} {x3 : Int32} {x4 : Int32} {I : sw_I} {J : sw_J} (h : wb_X7_soWithOneMore_15  K15 Q x2 x3 x4 I J) : AW l D cy sz RX7 cX7_soWithOneMore 5 (some .boolean) false rm_X7_soWithOneMore 0 0 (sw_qi G Q) 0 0 G I J 15 [(0, .ref (sz + 109)), (1, .ref (sz + 3)), (2, .int x2), (3, .int x3), (4, .int x4)] [] := by
  unfold wb_X7_soWithOneMore_15 at h
  refine aw_iload 4 dX7_soWithOneMore_15 rfl ?_
  refine aw_aload_n 1 dX7_soWithOneMore_17 rfl rfl ?_
  refine gf_X1_2 fl_X7_61 (lk3 hG) dX7_soWithOneMore_18 ?_
  refine aw_jge 52 dX7_soWithOneMore_21 (by decide) (fun c_1 => ?_) (fun c_1 => ?_)
  · have h := sw_if.f h c_1
    refine aw_iconst (v := 0) dX7_soWithOneMore_52 (by decide) ?_
    exact aw_zret rfl rfl dX7_soWithOneMore_53 ⟨rfl, _, rfl, h⟩
  · have h := sw_if.t h c_1
    refine aw_iload 4 dX7_soWithOneMore_24 rfl ?_
    refine aw_iload_n 2 dX7_soWithOneMore_26 rfl rfl ?_
    refine aw_jeq 46 dX7_soWithOneMore_27 (by decide) (fun c_2 => ?_) (fun c_2 => ?_)
    · have h := sw_if.t h c_2
      refine aw_sub [0, 1, 2, 3, 4] rfl ?_
      exact t_X7_soWithOneMore_46 hG  hK15 h
    · have h := sw_if.f h c_2
      refine aw_aload_n 0 dX7_soWithOneMore_30 rfl rfl ?_
      refine aw_aload_n 1 dX7_soWithOneMore_31 rfl rfl ?_
      refine aw_iload_n 2 dX7_soWithOneMore_32 rfl rfl ?_
      refine aw_iload_n 3 dX7_soWithOneMore_33 rfl rfl ?_
      refine aw_iload 4 dX7_soWithOneMore_34 rfl ?_
      refine aw_callV wv_X7_otherWishSo (M_X7_otherWishSo hG  h) ml_X7_64 rfl (by decide) (lk109 hG) rfl rfl (Nat.le_of_ble_eq_true rfl) ⟨rfl, rfl⟩ ⟨Nat.le_of_ble_eq_true rfl, Nat.le_of_ble_eq_true rfl⟩ ⟨Nat.le_refl _, Nat.le_refl _⟩ dX7_soWithOneMore_36 (aw_ki fun r_3 I_4 J_5 h => ?_)
      refine aw_bipush (v := (-2)) dX7_soWithOneMore_39 (by decide) ?_
      refine aw_jeq 46 dX7_soWithOneMore_41 (by decide) (fun c_6 => ?_) (fun c_6 => ?_)
      · have h := sw_if.t h c_6
        refine aw_sub [0, 1, 2, 3, 4] rfl ?_
        exact t_X7_soWithOneMore_46 hG  hK15 h
      · have h := sw_if.f h c_6
        refine aw_iconst (v := 1) dX7_soWithOneMore_44 (by decide) ?_
        exact aw_zret rfl rfl dX7_soWithOneMore_45 ⟨rfl, _, rfl, h⟩
set_option maxRecDepth 20000 in
theorem tl_X7_soWithOneMore_15 {l : Launch} {D : va_G} {cy : Nat → ClassId} {sz : Nat} {G : sw_G} (hG : sw_lay G)   {Q : Int32 → sw_I → sw_J → Prop} : ∀ (n : Nat) (x2 : Int32) (x3 : Int32) (x4 : Int32) (I : sw_I) (J : sw_J), wl_X7_soWithOneMore_15   Q n x2 x3 x4 I J → AW l D cy sz RX7 cX7_soWithOneMore 5 (some .boolean) false rm_X7_soWithOneMore 0 0 (sw_qi G Q) 0 0 G I J 15 [(0, .ref (sz + 109)), (1, .ref (sz + 3)), (2, .int x2), (3, .int x3), (4, .int x4)] [] := by
  intro n
  induction n with
  | zero => intro x2 x3 x4 I J h; exact False.elim h
  | succ n ih => intro x2 x3 x4 I J h; exact tb_X7_soWithOneMore_15 hG  ih h
set_option maxRecDepth 20000 in
theorem t_X7_soWithOneMore {l : Launch} {D : va_G} {cy : Nat → ClassId} {sz : Nat} {G : sw_G} (hG : sw_lay G)   {Q : Int32 → sw_I → sw_J → Prop} {x2 : Int32} {x3 : Int32} {I : sw_I} {J : sw_J} (h : wp_X7_soWithOneMore x2 x3 I J Q) : AW l D cy sz RX7 cX7_soWithOneMore 5 (some .boolean) false rm_X7_soWithOneMore 0 0 (sw_qi G Q) 0 0 G I J 0 [(0, .ref (sz + 109)), (1, .ref (sz + 3)), (2, .int x2), (3, .int x3)] [] := by
  unfold wp_X7_soWithOneMore at h
  refine aw_aload_n 0 dX7_soWithOneMore_0 rfl rfl ?_
  refine aw_aload_n 1 dX7_soWithOneMore_1 rfl rfl ?_
  refine aw_iload_n 2 dX7_soWithOneMore_2 rfl rfl ?_
  refine aw_iload_n 3 dX7_soWithOneMore_3 rfl rfl ?_
  refine aw_callV wv_X7_allSoIf (M_X7_allSoIf hG  h) ml_X7_57 rfl (by decide) (lk109 hG) rfl rfl (Nat.le_of_ble_eq_true rfl) ⟨rfl, rfl⟩ ⟨Nat.le_of_ble_eq_true rfl, Nat.le_of_ble_eq_true rfl⟩ ⟨Nat.le_refl _, Nat.le_refl _⟩ dX7_soWithOneMore_4 (aw_ki fun r_1 I_2 J_3 h => ?_)
  refine aw_zeq 12 dX7_soWithOneMore_7 (by decide) (fun c_4 => ?_) (fun c_4 => ?_)
  · have h := sw_if.t h c_4
    refine aw_iconst (v := 0) dX7_soWithOneMore_12 (by decide) ?_
    refine aw_istore (lv' := [(4, .int 0), (0, .ref (sz + 109)), (1, .ref (sz + 3)), (2, .int x2), (3, .int x3)]) dX7_soWithOneMore_13 (by decide) rfl ?_
    refine aw_sub [1, 2, 3, 4, 0] rfl ?_
    obtain ⟨n_5, h⟩ := h
    exact tl_X7_soWithOneMore_15 hG   n_5 x2 x3 0 I_2 J_3 h
  · have h := sw_if.f h c_4
    refine aw_iconst (v := 1) dX7_soWithOneMore_10 (by decide) ?_
    exact aw_zret rfl rfl dX7_soWithOneMore_11 ⟨rfl, _, rfl, h⟩
theorem M_X7_soWithOneMore {l : Launch} {D : va_G} {cy : Nat → ClassId} {sz : Nat} {G : sw_G} (hG : sw_lay G)   {Q : Int32 → sw_I → sw_J → Prop} {x2 : Int32} {x3 : Int32} {I : sw_I} {J : sw_J} (h : wp_X7_soWithOneMore x2 x3 I J Q) : Met l yX7_soWithOneMore (Cond.code yX7_soWithOneMore cX7_soWithOneMore 5 (some .boolean) :: sw_T) rm_X7_soWithOneMore (sw_Pc D cy sz [.ref (sz + 109), .ref (sz + 3), .int x2, .int x3] G I J) (sw_Q D cy sz (sw_qi G Q)) 0 0 (fun q => sz ≤ q) :=
  sw_met (by decide) (fun q => by cases q) (Nat.le_of_ble_eq_true rfl) rfl (t_X7_soWithOneMore hG  h)
-- X9_house
abbrev rm_X9_house : Room := { frames := 3, cells := 0, slots := 0, locals := 72 }
def wB_X9_house_30   (Q : Int32 → sw_I → sw_J → Prop) (x1 : Int32) (x2 : Int32) (I : sw_I) (J : sw_J) : Prop :=
  ∀ I_1 : sw_I, I_1 = sw_up I 1 1 (0 : Int32) → sw_if (x1 < 0) (Q x2 I_1 J) (Q ((-1 : Int32) - x1) I_1 J)
def wp_X9_house  (I : sw_I) (J : sw_J) (Q : Int32 → sw_I → sw_J → Prop) : Prop :=
  wp_X1_flawOfLines (I 13 4) I J (fun r_1 I_2 J_3 => sw_if (r_1 < 0) (wp_X9_takeLines  I_2 J_3 (fun r_5 I_6 J_7 => wB_X9_house_30   Q r_1 r_5 I_6 J_7)) (wB_X9_house_30   Q r_1 0 I_2 J_3))
set_option maxRecDepth 20000 in
theorem t_X9_house_30 {l : Launch} {D : va_G} {cy : Nat → ClassId} {sz : Nat} {G : sw_G} (hG : sw_lay G)   {Q : Int32 → sw_I → sw_J → Prop} {x1 : Int32} {x2 : Int32} {I : sw_I} {J : sw_J} (h : wB_X9_house_30   Q x1 x2 I J) : AW l D cy sz RX9 cX9_house 3 (some .int) false rm_X9_house 0 0 (sw_qi G Q) 0 0 G I J 30 [(0, .ref (sz + 0)), (1, .int x1), (2, .int x2)] [] := by
  unfold wB_X9_house_30 at h
  refine aw_aload_n 0 dX9_house_30 rfl rfl ?_
  refine gf_X9_0 fl_X9_12 (lk0 hG) (lr0_0 hG) dX9_house_31 ?_
  refine aw_iconst (v := 0) dX9_house_34 (by decide) ?_
  refine pf_X8_1 fl_X9_80 (lk1 hG) dX9_house_35 (aw_nameI fun I_1 e_2 => ?_)
  have h := h I_1 e_2
  refine aw_iload_n 1 dX9_house_38 rfl rfl ?_
  refine aw_zge 46 dX9_house_39 (by decide) (fun c_3 => ?_) (fun c_3 => ?_)
  · have h := sw_if.f h c_3
    refine aw_iconst (v := (-1)) dX9_house_46 (by decide) ?_
    refine aw_iload_n 1 dX9_house_47 rfl rfl ?_
    refine aw_isub dX9_house_48 ?_
    exact aw_iret rfl dX9_house_49 ⟨rfl, _, rfl, h⟩
  · have h := sw_if.t h c_3
    refine aw_iload_n 2 dX9_house_42 rfl rfl ?_
    refine aw_goto 49 dX9_house_43 (by decide) ?_
    exact aw_iret rfl dX9_house_49 ⟨rfl, _, rfl, h⟩
set_option maxRecDepth 20000 in
theorem t_X9_house {l : Launch} {D : va_G} {cy : Nat → ClassId} {sz : Nat} {G : sw_G} (hG : sw_lay G)   {Q : Int32 → sw_I → sw_J → Prop}  {I : sw_I} {J : sw_J} (h : wp_X9_house  I J Q) : AW l D cy sz RX9 cX9_house 3 (some .int) false rm_X9_house 0 0 (sw_qi G Q) 0 0 G I J 0 [(0, .ref (sz + 0))] [] := by
  unfold wp_X9_house at h
  refine aw_aload_n 0 dX9_house_0 rfl rfl ?_
  refine gf_X9_1 fl_X9_19 (lk0 hG) (lr0_1 hG) dX9_house_1 ?_
  refine aw_aload_n 0 dX9_house_4 rfl rfl ?_
  refine gf_X9_0 fl_X9_12 (lk0 hG) (lr0_0 hG) dX9_house_5 ?_
  refine aw_aload_n 0 dX9_house_8 rfl rfl ?_
  refine gf_X9_2 fl_X9_26 (lk0 hG) (lr0_2 hG) dX9_house_9 ?_
  refine gf_X3_4 fl_X9_97 (lk13 hG) dX9_house_12 ?_
  refine aw_callV wv_X1_flawOfLines (M_X1_flawOfLines hG  h) ml_X9_100 rfl (by decide) (lk3 hG) rfl rfl (Nat.le_of_ble_eq_true rfl) ⟨rfl, rfl⟩ ⟨Nat.le_of_ble_eq_true rfl, Nat.le_of_ble_eq_true rfl⟩ ⟨Nat.le_refl _, Nat.le_refl _⟩ dX9_house_15 (aw_ki fun r_1 I_2 J_3 h => ?_)
  refine aw_istore_n (lv' := [(1, .int r_1), (0, .ref (sz + 0))]) dX9_house_18 rfl (by decide) rfl ?_
  refine aw_iconst (v := 0) dX9_house_19 (by decide) ?_
  refine aw_istore_n (lv' := [(2, .int 0), (1, .int r_1), (0, .ref (sz + 0))]) dX9_house_20 rfl (by decide) rfl ?_
  refine aw_iload_n 1 dX9_house_21 rfl rfl ?_
  refine aw_zge 30 dX9_house_22 (by decide) (fun c_4 => ?_) (fun c_4 => ?_)
  · have h := sw_if.f h c_4
    refine aw_sub [2, 1, 0] rfl ?_
    exact t_X9_house_30 hG   h
  · have h := sw_if.t h c_4
    refine aw_aload_n 2 dX9_house_25 rfl rfl ?_
    refine aw_callV wv_X9_takeLines (M_X9_takeLines hG  h) ml_X9_104 rfl (by decide) (lk0 hG) rfl rfl (Nat.le_of_ble_eq_true rfl) ⟨rfl, rfl⟩ ⟨Nat.le_of_ble_eq_true rfl, Nat.le_of_ble_eq_true rfl⟩ ⟨Nat.le_refl _, Nat.le_refl _⟩ dX9_house_26 (aw_ki fun r_5 I_6 J_7 h => ?_)
    refine aw_istore_n (lv' := [(2, .int r_5), (1, .int r_1), (0, .ref (sz + 0))]) dX9_house_29 rfl (by decide) rfl ?_
    refine aw_sub [2, 1, 0] rfl ?_
    exact t_X9_house_30 hG   h
theorem M_X9_house {l : Launch} {D : va_G} {cy : Nat → ClassId} {sz : Nat} {G : sw_G} (hG : sw_lay G)   {Q : Int32 → sw_I → sw_J → Prop}  {I : sw_I} {J : sw_J} (h : wp_X9_house  I J Q) : Met l yX9_house (Cond.code yX9_house cX9_house 3 (some .int) :: sw_T) rm_X9_house (sw_Pc D cy sz [.ref (sz + 0)] G I J) (sw_Q D cy sz (sw_qi G Q)) 0 0 (fun q => sz ≤ q) :=
  sw_met (by decide) (fun q => by cases q) (Nat.le_of_ble_eq_true rfl) rfl (t_X9_house hG  h)
-- X9_ride
abbrev rm_X9_ride : Room := { frames := 4, cells := 0, slots := 0, locals := 98 }
def wp_X9_ride  (I : sw_I) (J : sw_J) (Q : Int32 → sw_I → sw_J → Prop) : Prop :=
  wp_X4_prepare 13 I J (fun I_2 J_3 => wp_X1_carry 13 I_2 J_3 (fun r_4 I_5 J_6 => wp_X4_commit  I_5 J_6 (fun I_8 J_9 => wp_X9_clearRow  I_8 J_9 (fun I_11 J_12 => wp_X9_tell r_4.toInt64 I_11 J_12 (fun I_14 J_15 => Q (I_14 13 4) I_14 J_15)))))
set_option maxRecDepth 20000 in
theorem t_X9_ride {l : Launch} {D : va_G} {cy : Nat → ClassId} {sz : Nat} {G : sw_G} (hG : sw_lay G)   {Q : Int32 → sw_I → sw_J → Prop}  {I : sw_I} {J : sw_J} (h : wp_X9_ride  I J Q) : AW l D cy sz RX9 cX9_ride 2 (some .int) false rm_X9_ride 0 0 (sw_qi G Q) 0 0 G I J 0 [(0, .ref (sz + 0))] [] := by
  unfold wp_X9_ride at h
  refine aw_aload_n 0 dX9_ride_0 rfl rfl ?_
  refine gf_X9_4 fl_X9_36 (lk0 hG) (lr0_4 hG) dX9_ride_1 ?_
  refine aw_aload_n 0 dX9_ride_4 rfl rfl ?_
  refine gf_X9_2 fl_X9_26 (lk0 hG) (lr0_2 hG) dX9_ride_5 ?_
  refine aw_callV wv_X4_prepare (M_X4_prepare hG (lm13 hG) h) ml_X9_178 rfl (by decide) (lk21 hG) rfl rfl (Nat.le_of_ble_eq_true rfl) ⟨rfl, rfl⟩ ⟨Nat.le_of_ble_eq_true rfl, Nat.le_of_ble_eq_true rfl⟩ ⟨Nat.le_refl _, Nat.le_refl _⟩ dX9_ride_8 (aw_kv fun I_2 J_3 h => ?_)
  refine aw_aload_n 0 dX9_ride_11 rfl rfl ?_
  refine gf_X9_1 fl_X9_19 (lk0 hG) (lr0_1 hG) dX9_ride_12 ?_
  refine aw_aload_n 0 dX9_ride_15 rfl rfl ?_
  refine gf_X9_2 fl_X9_26 (lk0 hG) (lr0_2 hG) dX9_ride_16 ?_
  refine aw_callV wv_X1_carry (M_X1_carry hG (lm13 hG) h) ml_X9_188 rfl (by decide) (lk3 hG) rfl rfl (Nat.le_of_ble_eq_true rfl) ⟨rfl, rfl⟩ ⟨Nat.le_of_ble_eq_true rfl, Nat.le_of_ble_eq_true rfl⟩ ⟨Nat.le_refl _, Nat.le_refl _⟩ dX9_ride_19 (aw_ki fun r_4 I_5 J_6 h => ?_)
  refine aw_istore_n (lv' := [(1, .int r_4), (0, .ref (sz + 0))]) dX9_ride_22 rfl (by decide) rfl ?_
  refine aw_aload_n 1 dX9_ride_23 rfl rfl ?_
  refine gf_X9_4 fl_X9_36 (lk0 hG) (lr0_4 hG) dX9_ride_24 ?_
  refine aw_callV wv_X4_commit (M_X4_commit hG  h) ml_X9_182 rfl (by decide) (lk21 hG) rfl rfl (Nat.le_of_ble_eq_true rfl) ⟨rfl, rfl⟩ ⟨Nat.le_of_ble_eq_true rfl, Nat.le_of_ble_eq_true rfl⟩ ⟨Nat.le_refl _, Nat.le_refl _⟩ dX9_ride_27 (aw_kv fun I_8 J_9 h => ?_)
  refine aw_aload_n 1 dX9_ride_30 rfl rfl ?_
  refine aw_callV wv_X9_clearRow (M_X9_clearRow hG  h) ml_X9_192 rfl (by decide) (lk0 hG) rfl rfl (Nat.le_of_ble_eq_true rfl) ⟨rfl, rfl⟩ ⟨Nat.le_of_ble_eq_true rfl, Nat.le_of_ble_eq_true rfl⟩ ⟨Nat.le_refl _, Nat.le_refl _⟩ dX9_ride_31 (aw_kv fun I_11 J_12 h => ?_)
  refine aw_aload_n 1 dX9_ride_34 rfl rfl ?_
  refine aw_iload_n 0 dX9_ride_35 rfl rfl ?_
  refine aw_i2l dX9_ride_36 ?_
  refine aw_callV wv_X9_tell (M_X9_tell hG  h) ml_X9_195 rfl (by decide) (lk0 hG) rfl rfl (Nat.le_of_ble_eq_true rfl) ⟨rfl, rfl⟩ ⟨Nat.le_of_ble_eq_true rfl, Nat.le_of_ble_eq_true rfl⟩ ⟨Nat.le_refl _, Nat.le_refl _⟩ dX9_ride_37 (aw_kv fun I_14 J_15 h => ?_)
  refine aw_aload_n 1 dX9_ride_40 rfl rfl ?_
  refine gf_X9_2 fl_X9_26 (lk0 hG) (lr0_2 hG) dX9_ride_41 ?_
  refine gf_X3_4 fl_X9_97 (lk13 hG) dX9_ride_44 ?_
  exact aw_iret rfl dX9_ride_47 ⟨rfl, _, rfl, h⟩
theorem M_X9_ride {l : Launch} {D : va_G} {cy : Nat → ClassId} {sz : Nat} {G : sw_G} (hG : sw_lay G)   {Q : Int32 → sw_I → sw_J → Prop}  {I : sw_I} {J : sw_J} (h : wp_X9_ride  I J Q) : Met l yX9_ride (Cond.code yX9_ride cX9_ride 2 (some .int) :: sw_T) rm_X9_ride (sw_Pc D cy sz [.ref (sz + 0)] G I J) (sw_Q D cy sz (sw_qi G Q)) 0 0 (fun q => sz ≤ q) :=
  sw_met (by decide) (fun q => by cases q) (Nat.le_of_ble_eq_true rfl) rfl (t_X9_ride hG  h)
-- X9_rides
abbrev rm_X9_rides : Room := { frames := 4, cells := 0, slots := 0, locals := 98 }
def wB_X9_rides_73   (Q : Int32 → sw_I → sw_J → Prop) (x2 : Int32) (x3 : Int32) (I : sw_I) (J : sw_J) : Prop :=
  wp_X9_clearRow  I J (fun I_2 J_3 => wp_X9_tell x2.toInt64 I_2 J_3 (fun I_5 J_6 => wp_X9_tell ((I_5 13 4).toInt64) I_5 J_6 (fun I_8 J_9 => Q x3 I_8 J_9)))
def wB_X9_rides_62   (Q : Int32 → sw_I → sw_J → Prop) (x2 : Int32) (x3 : Int32) (I : sw_I) (J : sw_J) : Prop :=
  sw_if (0 < x3) (wp_X4_commit  I J (fun I_3 J_4 => wB_X9_rides_73   Q x2 x3 I_3 J_4)) (wB_X9_rides_73   Q x2 x3 I J)
def wb_X9_rides_27  (K27 : Int32 → Int32 → Int32 → sw_I → sw_J → Prop) (Q : Int32 → sw_I → sw_J → Prop) (x1 : Int32) (x2 : Int32) (x3 : Int32) (I : sw_I) (J : sw_J) : Prop :=
  sw_if (x3 < x1) (sw_if ((I 13 3) = 0) (wB_X9_rides_62   Q x2 x3 I J) (wp_X1_carry 13 I J (fun r_3 I_4 J_5 => ∀ y_6 : Int32, y_6 = x2 ||| r_3 → ∀ y_8 : Int32, y_8 = x3 + 1 → K27 x1 y_6 y_8 I_4 J_5))) (wB_X9_rides_62   Q x2 x3 I J)
def wl_X9_rides_27   (Q : Int32 → sw_I → sw_J → Prop) : Nat → Int32 → Int32 → Int32 → sw_I → sw_J → Prop
  | 0 => fun _ _ _ _ _ => False
  | n + 1 => fun x1 x2 x3 I J => wb_X9_rides_27  (wl_X9_rides_27   Q n) Q x1 x2 x3 I J
def wp_X9_rides (x1 : Int32) (I : sw_I) (J : sw_J) (Q : Int32 → sw_I → sw_J → Prop) : Prop :=
  sw_if (x1 < 0) (Q (-1 : Int32) I J) (sw_if ((60 : Int32) < x1) (Q (-1 : Int32) I J) (wp_X4_prepare 13 I J (fun I_4 J_5 => ∃ n_6 : Nat, wl_X9_rides_27   Q n_6 x1 0 0 I_4 J_5)))
set_option maxRecDepth 20000 in
theorem t_X9_rides_73 {l : Launch} {D : va_G} {cy : Nat → ClassId} {sz : Nat} {G : sw_G} (hG : sw_lay G)   {Q : Int32 → sw_I → sw_J → Prop} {x2 : Int32} {x3 : Int32} {I : sw_I} {J : sw_J} (h : wB_X9_rides_73   Q x2 x3 I J) : AW l D cy sz RX9 cX9_rides 4 (some .int) false rm_X9_rides 0 0 (sw_qi G Q) 0 0 G I J 73 [(0, .ref (sz + 0)), (2, .int x2), (3, .int x3)] [] := by
  unfold wB_X9_rides_73 at h
  refine aw_aload_n 0 dX9_rides_73 rfl rfl ?_
  refine aw_callV wv_X9_clearRow (M_X9_clearRow hG  h) ml_X9_192 rfl (by decide) (lk0 hG) rfl rfl (Nat.le_of_ble_eq_true rfl) ⟨rfl, rfl⟩ ⟨Nat.le_of_ble_eq_true rfl, Nat.le_of_ble_eq_true rfl⟩ ⟨Nat.le_refl _, Nat.le_refl _⟩ dX9_rides_74 (aw_kv fun I_2 J_3 h => ?_)
  refine aw_aload_n 0 dX9_rides_77 rfl rfl ?_
  refine aw_iload_n 1 dX9_rides_78 rfl rfl ?_
  refine aw_i2l dX9_rides_79 ?_
  refine aw_callV wv_X9_tell (M_X9_tell hG  h) ml_X9_195 rfl (by decide) (lk0 hG) rfl rfl (Nat.le_of_ble_eq_true rfl) ⟨rfl, rfl⟩ ⟨Nat.le_of_ble_eq_true rfl, Nat.le_of_ble_eq_true rfl⟩ ⟨Nat.le_refl _, Nat.le_refl _⟩ dX9_rides_80 (aw_kv fun I_5 J_6 h => ?_)
  refine aw_aload_n 0 dX9_rides_83 rfl rfl ?_
  refine aw_aload_n 0 dX9_rides_84 rfl rfl ?_
  refine gf_X9_2 fl_X9_26 (lk0 hG) (lr0_2 hG) dX9_rides_85 ?_
  refine gf_X3_4 fl_X9_97 (lk13 hG) dX9_rides_88 ?_
  refine aw_i2l dX9_rides_91 ?_
  refine aw_callV wv_X9_tell (M_X9_tell hG  h) ml_X9_195 rfl (by decide) (lk0 hG) rfl rfl (Nat.le_of_ble_eq_true rfl) ⟨rfl, rfl⟩ ⟨Nat.le_of_ble_eq_true rfl, Nat.le_of_ble_eq_true rfl⟩ ⟨Nat.le_refl _, Nat.le_refl _⟩ dX9_rides_92 (aw_kv fun I_8 J_9 h => ?_)
  refine aw_iload_n 2 dX9_rides_95 rfl rfl ?_
  exact aw_iret rfl dX9_rides_96 ⟨rfl, _, rfl, h⟩
set_option maxRecDepth 20000 in
theorem t_X9_rides_62 {l : Launch} {D : va_G} {cy : Nat → ClassId} {sz : Nat} {G : sw_G} (hG : sw_lay G)   {Q : Int32 → sw_I → sw_J → Prop} {x2 : Int32} {x3 : Int32} {I : sw_I} {J : sw_J} (h : wB_X9_rides_62   Q x2 x3 I J) : AW l D cy sz RX9 cX9_rides 4 (some .int) false rm_X9_rides 0 0 (sw_qi G Q) 0 0 G I J 62 [(0, .ref (sz + 0)), (2, .int x2), (3, .int x3)] [] := by
  unfold wB_X9_rides_62 at h
  refine aw_iload_n 2 dX9_rides_62 rfl rfl ?_
  refine aw_zle 73 dX9_rides_63 (by decide) (fun c_1 => ?_) (fun c_1 => ?_)
  · have h := sw_if.f h c_1
    refine aw_sub [0, 1, 2] rfl ?_
    exact t_X9_rides_73 hG   h
  · have h := sw_if.t h c_1
    refine aw_aload_n 0 dX9_rides_66 rfl rfl ?_
    refine gf_X9_4 fl_X9_36 (lk0 hG) (lr0_4 hG) dX9_rides_67 ?_
    refine aw_callV wv_X4_commit (M_X4_commit hG  h) ml_X9_182 rfl (by decide) (lk21 hG) rfl rfl (Nat.le_of_ble_eq_true rfl) ⟨rfl, rfl⟩ ⟨Nat.le_of_ble_eq_true rfl, Nat.le_of_ble_eq_true rfl⟩ ⟨Nat.le_refl _, Nat.le_refl _⟩ dX9_rides_70 (aw_kv fun I_3 J_4 h => ?_)
    refine aw_sub [0, 1, 2] rfl ?_
    exact t_X9_rides_73 hG   h
set_option maxRecDepth 20000 in
theorem tb_X9_rides_27 {l : Launch} {D : va_G} {cy : Nat → ClassId} {sz : Nat} {G : sw_G} (hG : sw_lay G)   {Q : Int32 → sw_I → sw_J → Prop} {K27 : Int32 → Int32 → Int32 → sw_I → sw_J → Prop} (hK27 : ∀ (x1 : Int32) (x2 : Int32) (x3 : Int32) (I : sw_I) (J : sw_J), K27 x1 x2 x3 I J → AW l D cy sz RX9 cX9_rides 4 (some .int) false rm_X9_rides 0 0 (sw_qi G Q) 0 0 G I J 27 [(0, .ref (sz + 0)), (1, .int x1), (2, .int x2), (3, .int x3)] []) {x1 : Int32} {x2 : Int32} {x3 : Int32} {I : sw_I} {J : sw_J} (h : wb_X9_rides_27  K27 Q x1 x2 x3 I J) : AW l D cy sz RX9 cX9_rides 4 (some .int) false rm_X9_rides 0 0 (sw_qi G Q) 0 0 G I J 27 [(0, .ref (sz + 0)), (1, .int x1), (2, .int x2), (3, .int x3)] [] := by
  unfold wb_X9_rides_27 at h
  refine aw_iload_n 3 dX9_rides_27 rfl rfl ?_
  refine aw_iload_n 1 dX9_rides_28 rfl rfl ?_
  refine aw_jge 62 dX9_rides_29 (by decide) (fun c_1 => ?_) (fun c_1 => ?_)
  · have h := sw_if.f h c_1
    refine aw_sub [0, 2, 3] rfl ?_
    exact t_X9_rides_62 hG   h
  · have h := sw_if.t h c_1
    refine aw_aload_n 0 dX9_rides_32 rfl rfl ?_
    refine gf_X9_2 fl_X9_26 (lk0 hG) (lr0_2 hG) dX9_rides_33 ?_
    refine gf_X3_3 fl_X9_142 (lk13 hG) dX9_rides_36 ?_
    refine aw_zeq 62 dX9_rides_39 (by decide) (fun c_2 => ?_) (fun c_2 => ?_)
    · have h := sw_if.t h c_2
      refine aw_sub [0, 2, 3] rfl ?_
      exact t_X9_rides_62 hG   h
    · have h := sw_if.f h c_2
      refine aw_iload_n 2 dX9_rides_42 rfl rfl ?_
      refine aw_aload_n 0 dX9_rides_43 rfl rfl ?_
      refine gf_X9_1 fl_X9_19 (lk0 hG) (lr0_1 hG) dX9_rides_44 ?_
      refine aw_aload_n 0 dX9_rides_47 rfl rfl ?_
      refine gf_X9_2 fl_X9_26 (lk0 hG) (lr0_2 hG) dX9_rides_48 ?_
      refine aw_callV wv_X1_carry (M_X1_carry hG (lm13 hG) h) ml_X9_188 rfl (by decide) (lk3 hG) rfl rfl (Nat.le_of_ble_eq_true rfl) ⟨rfl, rfl⟩ ⟨Nat.le_of_ble_eq_true rfl, Nat.le_of_ble_eq_true rfl⟩ ⟨Nat.le_refl _, Nat.le_refl _⟩ dX9_rides_51 (aw_ki fun r_3 I_4 J_5 h => ?_)
      refine aw_ior dX9_rides_54 ?_
      refine aw_topi (fun y_6 e_7 => ?_)
      have h := h y_6 e_7
      refine aw_istore_n (lv' := [(2, .int y_6), (0, .ref (sz + 0)), (1, .int x1), (3, .int x3)]) dX9_rides_55 rfl (by decide) rfl ?_
      obtain ⟨y_8, e_9⟩ : ∃ q : Int32, q = x3 + 1 := ⟨_, rfl⟩
      have h := h y_8 e_9
      refine aw_iinc (lv' := [(3, .int y_8), (2, .int y_6), (0, .ref (sz + 0)), (1, .int x1)]) 3 dX9_rides_56 rfl (by rw [e_9]; rfl) (by decide) rfl ?_
      refine aw_goto 27 dX9_rides_59 (by decide) ?_
      refine aw_sub [2, 3, 1, 0] rfl ?_
      exact hK27 x1 y_6 y_8 I_4 J_5 h
set_option maxRecDepth 20000 in
theorem tl_X9_rides_27 {l : Launch} {D : va_G} {cy : Nat → ClassId} {sz : Nat} {G : sw_G} (hG : sw_lay G)   {Q : Int32 → sw_I → sw_J → Prop} : ∀ (n : Nat) (x1 : Int32) (x2 : Int32) (x3 : Int32) (I : sw_I) (J : sw_J), wl_X9_rides_27   Q n x1 x2 x3 I J → AW l D cy sz RX9 cX9_rides 4 (some .int) false rm_X9_rides 0 0 (sw_qi G Q) 0 0 G I J 27 [(0, .ref (sz + 0)), (1, .int x1), (2, .int x2), (3, .int x3)] [] := by
  intro n
  induction n with
  | zero => intro x1 x2 x3 I J h; exact False.elim h
  | succ n ih => intro x1 x2 x3 I J h; exact tb_X9_rides_27 hG  ih h
set_option maxRecDepth 20000 in
theorem t_X9_rides {l : Launch} {D : va_G} {cy : Nat → ClassId} {sz : Nat} {G : sw_G} (hG : sw_lay G)   {Q : Int32 → sw_I → sw_J → Prop} {x1 : Int32} {I : sw_I} {J : sw_J} (h : wp_X9_rides x1 I J Q) : AW l D cy sz RX9 cX9_rides 4 (some .int) false rm_X9_rides 0 0 (sw_qi G Q) 0 0 G I J 0 [(0, .ref (sz + 0)), (1, .int x1)] [] := by
  unfold wp_X9_rides at h
  refine aw_iload_n 1 dX9_rides_0 rfl rfl ?_
  refine aw_zlt 10 dX9_rides_1 (by decide) (fun c_1 => ?_) (fun c_1 => ?_)
  · have h := sw_if.t h c_1
    refine aw_iconst (v := (-1)) dX9_rides_10 (by decide) ?_
    exact aw_iret rfl dX9_rides_11 ⟨rfl, _, rfl, h⟩
  · have h := sw_if.f h c_1
    refine aw_iload_n 1 dX9_rides_4 rfl rfl ?_
    refine aw_bipush (v := 60) dX9_rides_5 (by decide) ?_
    refine aw_jle 12 dX9_rides_7 (by decide) (fun c_2 => ?_) (fun c_2 => ?_)
    · have h := sw_if.f h c_2
      refine aw_aload_n 0 dX9_rides_12 rfl rfl ?_
      refine gf_X9_4 fl_X9_36 (lk0 hG) (lr0_4 hG) dX9_rides_13 ?_
      refine aw_aload_n 0 dX9_rides_16 rfl rfl ?_
      refine gf_X9_2 fl_X9_26 (lk0 hG) (lr0_2 hG) dX9_rides_17 ?_
      refine aw_callV wv_X4_prepare (M_X4_prepare hG (lm13 hG) h) ml_X9_178 rfl (by decide) (lk21 hG) rfl rfl (Nat.le_of_ble_eq_true rfl) ⟨rfl, rfl⟩ ⟨Nat.le_of_ble_eq_true rfl, Nat.le_of_ble_eq_true rfl⟩ ⟨Nat.le_refl _, Nat.le_refl _⟩ dX9_rides_20 (aw_kv fun I_4 J_5 h => ?_)
      refine aw_iconst (v := 0) dX9_rides_23 (by decide) ?_
      refine aw_istore_n (lv' := [(2, .int 0), (0, .ref (sz + 0)), (1, .int x1)]) dX9_rides_24 rfl (by decide) rfl ?_
      refine aw_iconst (v := 0) dX9_rides_25 (by decide) ?_
      refine aw_istore_n (lv' := [(3, .int 0), (2, .int 0), (0, .ref (sz + 0)), (1, .int x1)]) dX9_rides_26 rfl (by decide) rfl ?_
      refine aw_sub [2, 3, 1, 0] rfl ?_
      obtain ⟨n_6, h⟩ := h
      exact tl_X9_rides_27 hG   n_6 x1 0 0 I_4 J_5 h
    · have h := sw_if.t h c_2
      refine aw_iconst (v := (-1)) dX9_rides_10 (by decide) ?_
      exact aw_iret rfl dX9_rides_11 ⟨rfl, _, rfl, h⟩
theorem M_X9_rides {l : Launch} {D : va_G} {cy : Nat → ClassId} {sz : Nat} {G : sw_G} (hG : sw_lay G)   {Q : Int32 → sw_I → sw_J → Prop} {x1 : Int32} {I : sw_I} {J : sw_J} (h : wp_X9_rides x1 I J Q) : Met l yX9_rides (Cond.code yX9_rides cX9_rides 4 (some .int) :: sw_T) rm_X9_rides (sw_Pc D cy sz [.ref (sz + 0), .int x1] G I J) (sw_Q D cy sz (sw_qi G Q)) 0 0 (fun q => sz ≤ q) :=
  sw_met (by decide) (fun q => by cases q) (Nat.le_of_ble_eq_true rfl) rfl (t_X9_rides hG  h)
-- X9_stop
abbrev rm_X9_stop : Room := { frames := 3, cells := 0, slots := 0, locals := 74 }
def wp_X9_stop  (I : sw_I) (J : sw_J) (Q : Int32 → sw_I → sw_J → Prop) : Prop :=
  wp_X1_nextStop 13 (I 13 3) I J (fun r_1 I_2 J_3 => Q r_1 I_2 J_3)
set_option maxRecDepth 20000 in
theorem t_X9_stop {l : Launch} {D : va_G} {cy : Nat → ClassId} {sz : Nat} {G : sw_G} (hG : sw_lay G)   {Q : Int32 → sw_I → sw_J → Prop}  {I : sw_I} {J : sw_J} (h : wp_X9_stop  I J Q) : AW l D cy sz RX9 cX9_stop 1 (some .int) false rm_X9_stop 0 0 (sw_qi G Q) 0 0 G I J 0 [(0, .ref (sz + 0))] [] := by
  unfold wp_X9_stop at h
  refine aw_aload_n 0 dX9_stop_0 rfl rfl ?_
  refine gf_X9_1 fl_X9_19 (lk0 hG) (lr0_1 hG) dX9_stop_1 ?_
  refine aw_aload_n 0 dX9_stop_4 rfl rfl ?_
  refine gf_X9_2 fl_X9_26 (lk0 hG) (lr0_2 hG) dX9_stop_5 ?_
  refine aw_aload_n 0 dX9_stop_8 rfl rfl ?_
  refine gf_X9_2 fl_X9_26 (lk0 hG) (lr0_2 hG) dX9_stop_9 ?_
  refine gf_X3_3 fl_X9_142 (lk13 hG) dX9_stop_12 ?_
  refine aw_callV wv_X1_nextStop (M_X1_nextStop hG (lm13 hG) h) ml_X9_218 rfl (by decide) (lk3 hG) rfl rfl (Nat.le_of_ble_eq_true rfl) ⟨rfl, rfl⟩ ⟨Nat.le_of_ble_eq_true rfl, Nat.le_of_ble_eq_true rfl⟩ ⟨Nat.le_refl _, Nat.le_refl _⟩ dX9_stop_15 (aw_ki fun r_1 I_2 J_3 h => ?_)
  exact aw_iret rfl dX9_stop_18 ⟨rfl, _, rfl, h⟩
theorem M_X9_stop {l : Launch} {D : va_G} {cy : Nat → ClassId} {sz : Nat} {G : sw_G} (hG : sw_lay G)   {Q : Int32 → sw_I → sw_J → Prop}  {I : sw_I} {J : sw_J} (h : wp_X9_stop  I J Q) : Met l yX9_stop (Cond.code yX9_stop cX9_stop 1 (some .int) :: sw_T) rm_X9_stop (sw_Pc D cy sz [.ref (sz + 0)] G I J) (sw_Q D cy sz (sw_qi G Q)) 0 0 (fun q => sz ≤ q) :=
  sw_met (by decide) (fun q => by cases q) (Nat.le_of_ble_eq_true rfl) rfl (t_X9_stop hG  h)
-- X9_goes
abbrev rm_X9_goes : Room := { frames := 3, cells := 0, slots := 0, locals := 74 }
def wb_X9_goes_55  (K55 : Int32 → Int32 → sw_I → sw_J → Prop) (Q : Int32 → sw_I → sw_J → Prop) (x2 : Int32) (x3 : Int32) (I : sw_I) (J : sw_J) : Prop :=
  sw_if (x3 < (I 3 0)) (wp_X2_worth x3 I J (fun r_2 I_3 J_4 => wp_X9_tell r_2.toInt64 I_3 J_4 (fun I_6 J_7 => ∀ y_8 : Int32, y_8 = x3 + 1 → K55 x2 y_8 I_6 J_7))) (Q x2 I J)
def wl_X9_goes_55   (Q : Int32 → sw_I → sw_J → Prop) : Nat → Int32 → Int32 → sw_I → sw_J → Prop
  | 0 => fun _ _ _ _ => False
  | n + 1 => fun x2 x3 I J => wb_X9_goes_55  (wl_X9_goes_55   Q n) Q x2 x3 I J
def wp_X9_goes (x1 : Int32) (I : sw_I) (J : sw_J) (Q : Int32 → sw_I → sw_J → Prop) : Prop :=
  wp_X3_onFloor 13 (I 13 4) I J (fun r_1 I_2 J_3 => sw_if ((x1 &&& (r_1 ^^^ (-1 : Int32))) = 0) (wp_X1_nextStop 13 x1 I_2 J_3 (fun r_5 I_6 J_7 => wp_X1_look 13 x1 I_6 J_7 (fun I_9 J_10 => wp_X9_clearRow  I_9 J_10 (fun I_12 J_13 => ∃ n_14 : Nat, wl_X9_goes_55   Q n_14 r_5 0 I_12 J_13)))) (Q (-2 : Int32) I_2 J_3))
set_option maxRecDepth 20000 in
theorem tb_X9_goes_55 {l : Launch} {D : va_G} {cy : Nat → ClassId} {sz : Nat} {G : sw_G} (hG : sw_lay G)   {Q : Int32 → sw_I → sw_J → Prop} {K55 : Int32 → Int32 → sw_I → sw_J → Prop} (hK55 : ∀ (x2 : Int32) (x3 : Int32) (I : sw_I) (J : sw_J), K55 x2 x3 I J → AW l D cy sz RX9 cX9_goes 4 (some .int) false rm_X9_goes 0 0 (sw_qi G Q) 0 0 G I J 55 [(0, .ref (sz + 0)), (2, .int x2), (3, .int x3)] []) {x2 : Int32} {x3 : Int32} {I : sw_I} {J : sw_J} (h : wb_X9_goes_55  K55 Q x2 x3 I J) : AW l D cy sz RX9 cX9_goes 4 (some .int) false rm_X9_goes 0 0 (sw_qi G Q) 0 0 G I J 55 [(0, .ref (sz + 0)), (2, .int x2), (3, .int x3)] [] := by
  unfold wb_X9_goes_55 at h
  refine aw_iload_n 2 dX9_goes_55 rfl rfl ?_
  refine aw_aload_n 0 dX9_goes_56 rfl rfl ?_
  refine gf_X9_1 fl_X9_19 (lk0 hG) (lr0_1 hG) dX9_goes_57 ?_
  refine gf_X1_0 fl_X9_229 (lk3 hG) dX9_goes_60 ?_
  refine aw_jge 95 dX9_goes_63 (by decide) (fun c_1 => ?_) (fun c_1 => ?_)
  · have h := sw_if.f h c_1
    refine aw_iload_n 1 dX9_goes_95 rfl rfl ?_
    exact aw_iret rfl dX9_goes_96 ⟨rfl, _, rfl, h⟩
  · have h := sw_if.t h c_1
    refine aw_aload_n 0 dX9_goes_66 rfl rfl ?_
    refine aw_aload_n 0 dX9_goes_67 rfl rfl ?_
    refine gf_X9_1 fl_X9_19 (lk0 hG) (lr0_1 hG) dX9_goes_68 ?_
    refine gf_X1_5 fl_X9_108 (lk3 hG) (lr3_5 hG) dX9_goes_71 ?_
    refine aw_aload_n 0 dX9_goes_74 rfl rfl ?_
    refine gf_X9_1 fl_X9_19 (lk0 hG) (lr0_1 hG) dX9_goes_75 ?_
    refine gf_X1_6 fl_X9_232 (lk3 hG) (lr3_6 hG) dX9_goes_78 ?_
    refine aw_iload_n 2 dX9_goes_81 rfl rfl ?_
    refine aw_callV wv_X2_worth (M_X2_worth hG  h) ml_X9_236 rfl (by decide) (lk6 hG) rfl rfl (Nat.le_of_ble_eq_true rfl) ⟨rfl, rfl⟩ ⟨Nat.le_of_ble_eq_true rfl, Nat.le_of_ble_eq_true rfl⟩ ⟨Nat.le_refl _, Nat.le_refl _⟩ dX9_goes_82 (aw_ki fun r_2 I_3 J_4 h => ?_)
    refine aw_i2l dX9_goes_85 ?_
    refine aw_callV wv_X9_tell (M_X9_tell hG  h) ml_X9_195 rfl (by decide) (lk0 hG) rfl rfl (Nat.le_of_ble_eq_true rfl) ⟨rfl, rfl⟩ ⟨Nat.le_of_ble_eq_true rfl, Nat.le_of_ble_eq_true rfl⟩ ⟨Nat.le_refl _, Nat.le_refl _⟩ dX9_goes_86 (aw_kv fun I_6 J_7 h => ?_)
    obtain ⟨y_8, e_9⟩ : ∃ q : Int32, q = x3 + 1 := ⟨_, rfl⟩
    have h := h y_8 e_9
    refine aw_iinc (lv' := [(3, .int y_8), (0, .ref (sz + 0)), (2, .int x2)]) 2 dX9_goes_89 rfl (by rw [e_9]; rfl) (by decide) rfl ?_
    refine aw_goto 55 dX9_goes_92 (by decide) ?_
    refine aw_sub [1, 2, 0] rfl ?_
    exact hK55 x2 y_8 I_6 J_7 h
set_option maxRecDepth 20000 in
theorem tl_X9_goes_55 {l : Launch} {D : va_G} {cy : Nat → ClassId} {sz : Nat} {G : sw_G} (hG : sw_lay G)   {Q : Int32 → sw_I → sw_J → Prop} : ∀ (n : Nat) (x2 : Int32) (x3 : Int32) (I : sw_I) (J : sw_J), wl_X9_goes_55   Q n x2 x3 I J → AW l D cy sz RX9 cX9_goes 4 (some .int) false rm_X9_goes 0 0 (sw_qi G Q) 0 0 G I J 55 [(0, .ref (sz + 0)), (2, .int x2), (3, .int x3)] [] := by
  intro n
  induction n with
  | zero => intro x2 x3 I J h; exact False.elim h
  | succ n ih => intro x2 x3 I J h; exact tb_X9_goes_55 hG  ih h
set_option maxRecDepth 20000 in
theorem t_X9_goes {l : Launch} {D : va_G} {cy : Nat → ClassId} {sz : Nat} {G : sw_G} (hG : sw_lay G)   {Q : Int32 → sw_I → sw_J → Prop} {x1 : Int32} {I : sw_I} {J : sw_J} (h : wp_X9_goes x1 I J Q) : AW l D cy sz RX9 cX9_goes 4 (some .int) false rm_X9_goes 0 0 (sw_qi G Q) 0 0 G I J 0 [(0, .ref (sz + 0)), (1, .int x1)] [] := by
  unfold wp_X9_goes at h
  refine aw_iload_n 1 dX9_goes_0 rfl rfl ?_
  refine aw_aload_n 0 dX9_goes_1 rfl rfl ?_
  refine gf_X9_2 fl_X9_26 (lk0 hG) (lr0_2 hG) dX9_goes_2 ?_
  refine aw_aload_n 0 dX9_goes_5 rfl rfl ?_
  refine gf_X9_2 fl_X9_26 (lk0 hG) (lr0_2 hG) dX9_goes_6 ?_
  refine gf_X3_4 fl_X9_97 (lk13 hG) dX9_goes_9 ?_
  refine aw_callV wv_X3_onFloor (M_X3_onFloor trivial (lm13 hG) h) ml_X9_222 rfl (by decide) (lk13 hG) rfl rfl (Nat.le_of_ble_eq_true rfl) ⟨rfl, rfl⟩ ⟨Nat.le_of_ble_eq_true rfl, Nat.le_of_ble_eq_true rfl⟩ ⟨Nat.le_refl _, Nat.le_refl _⟩ dX9_goes_12 (aw_ki fun r_1 I_2 J_3 h => ?_)
  refine aw_iconst (v := (-1)) dX9_goes_15 (by decide) ?_
  refine aw_ixor dX9_goes_16 ?_
  refine aw_iand dX9_goes_17 ?_
  refine aw_zeq 24 dX9_goes_18 (by decide) (fun c_4 => ?_) (fun c_4 => ?_)
  · have h := sw_if.t h c_4
    refine aw_aload_n 0 dX9_goes_24 rfl rfl ?_
    refine gf_X9_1 fl_X9_19 (lk0 hG) (lr0_1 hG) dX9_goes_25 ?_
    refine aw_aload_n 0 dX9_goes_28 rfl rfl ?_
    refine gf_X9_2 fl_X9_26 (lk0 hG) (lr0_2 hG) dX9_goes_29 ?_
    refine aw_iload_n 1 dX9_goes_32 rfl rfl ?_
    refine aw_callV wv_X1_nextStop (M_X1_nextStop hG (lm13 hG) h) ml_X9_218 rfl (by decide) (lk3 hG) rfl rfl (Nat.le_of_ble_eq_true rfl) ⟨rfl, rfl⟩ ⟨Nat.le_of_ble_eq_true rfl, Nat.le_of_ble_eq_true rfl⟩ ⟨Nat.le_refl _, Nat.le_refl _⟩ dX9_goes_33 (aw_ki fun r_5 I_6 J_7 h => ?_)
    refine aw_istore_n (lv' := [(2, .int r_5), (0, .ref (sz + 0)), (1, .int x1)]) dX9_goes_36 rfl (by decide) rfl ?_
    refine aw_aload_n 1 dX9_goes_37 rfl rfl ?_
    refine gf_X9_1 fl_X9_19 (lk0 hG) (lr0_1 hG) dX9_goes_38 ?_
    refine aw_aload_n 1 dX9_goes_41 rfl rfl ?_
    refine gf_X9_2 fl_X9_26 (lk0 hG) (lr0_2 hG) dX9_goes_42 ?_
    refine aw_iload_n 2 dX9_goes_45 rfl rfl ?_
    refine aw_callV wv_X1_look (M_X1_look hG (lm13 hG) h) ml_X9_225 rfl (by decide) (lk3 hG) rfl rfl (Nat.le_of_ble_eq_true rfl) ⟨rfl, rfl⟩ ⟨Nat.le_of_ble_eq_true rfl, Nat.le_of_ble_eq_true rfl⟩ ⟨Nat.le_refl _, Nat.le_refl _⟩ dX9_goes_46 (aw_kv fun I_9 J_10 h => ?_)
    refine aw_aload_n 1 dX9_goes_49 rfl rfl ?_
    refine aw_callV wv_X9_clearRow (M_X9_clearRow hG  h) ml_X9_192 rfl (by decide) (lk0 hG) rfl rfl (Nat.le_of_ble_eq_true rfl) ⟨rfl, rfl⟩ ⟨Nat.le_of_ble_eq_true rfl, Nat.le_of_ble_eq_true rfl⟩ ⟨Nat.le_refl _, Nat.le_refl _⟩ dX9_goes_50 (aw_kv fun I_12 J_13 h => ?_)
    refine aw_iconst (v := 0) dX9_goes_53 (by decide) ?_
    refine aw_istore_n (lv' := [(3, .int 0), (2, .int r_5), (0, .ref (sz + 0)), (1, .int x1)]) dX9_goes_54 rfl (by decide) rfl ?_
    refine aw_sub [2, 1, 0] rfl ?_
    obtain ⟨n_14, h⟩ := h
    exact tl_X9_goes_55 hG   n_14 r_5 0 I_12 J_13 h
  · have h := sw_if.f h c_4
    refine aw_bipush (v := (-2)) dX9_goes_21 (by decide) ?_
    exact aw_iret rfl dX9_goes_23 ⟨rfl, _, rfl, h⟩
theorem M_X9_goes {l : Launch} {D : va_G} {cy : Nat → ClassId} {sz : Nat} {G : sw_G} (hG : sw_lay G)   {Q : Int32 → sw_I → sw_J → Prop} {x1 : Int32} {I : sw_I} {J : sw_J} (h : wp_X9_goes x1 I J Q) : Met l yX9_goes (Cond.code yX9_goes cX9_goes 4 (some .int) :: sw_T) rm_X9_goes (sw_Pc D cy sz [.ref (sz + 0), .int x1] G I J) (sw_Q D cy sz (sw_qi G Q)) 0 0 (fun q => sz ≤ q) :=
  sw_met (by decide) (fun q => by cases q) (Nat.le_of_ble_eq_true rfl) rfl (t_X9_goes hG  h)
-- X9_can
abbrev rm_X9_can : Room := { frames := 3, cells := 0, slots := 0, locals := 74 }
def wB_X9_can_112  (K78 : Int32 → Int32 → sw_I → sw_J → Prop) (Q : Int32 → sw_I → sw_J → Prop) (x5 : Int32) (s0 : Int32) (s1 : Int32) (I : sw_I) (J : sw_J) : Prop :=
  ∀ y_1 : Int32, y_1 = s0 ||| s1 → vp_in x5 9 ∧ wp_X9_tell (J 117 x5.toNatClampNeg) I J (fun I_5 J_6 => ∀ y_7 : Int32, y_7 = x5 + 1 → K78 y_1 y_7 I_5 J_6)
def wb_X9_can_78  (K78 : Int32 → Int32 → sw_I → sw_J → Prop) (Q : Int32 → sw_I → sw_J → Prop) (x4 : Int32) (x5 : Int32) (I : sw_I) (J : sw_J) : Prop :=
  sw_if (x5 < (I 3 0)) (vp_in x5 9 ∧ sw_if (0 < (lg_cmp (J 117 x5.toNatClampNeg) (0 : Int64))) (wB_X9_can_112  K78 Q x5 x4 ((1 : Int32) <<< (x5 &&& 31)) I J) (wB_X9_can_112  K78 Q x5 x4 0 I J)) (Q x4 I J)
def wl_X9_can_78   (Q : Int32 → sw_I → sw_J → Prop) : Nat → Int32 → Int32 → sw_I → sw_J → Prop
  | 0 => fun _ _ _ _ => False
  | n + 1 => fun x4 x5 I J => wb_X9_can_78  (wl_X9_can_78   Q n) Q x4 x5 I J
def wb_X9_can_33  (K33 : Int32 → Int32 → Int32 → Int32 → sw_I → sw_J → Prop) (Q : Int32 → sw_I → sw_J → Prop) (x1 : Int32) (x2 : Int32) (x3 : Int32) (x4 : Int32) (I : sw_I) (J : sw_J) : Prop :=
  sw_if (x4 < x2) (wp_X1_nextStop 13 x3 I J (fun r_6 I_7 J_8 => wp_X9_addChance r_6 1 I_7 J_8 (fun I_10 J_11 => wp_X9_nextSet x3 x1 I_10 J_11 (fun r_12 I_13 J_14 => ∀ y_15 : Int32, y_15 = x4 + 1 → K33 x1 x2 r_12 y_15 I_13 J_14)))) (wp_X9_clearRow  I J (fun I_3 J_4 => ∃ n_5 : Nat, wl_X9_can_78   Q n_5 0 0 I_3 J_4))
def wl_X9_can_33   (Q : Int32 → sw_I → sw_J → Prop) : Nat → Int32 → Int32 → Int32 → Int32 → sw_I → sw_J → Prop
  | 0 => fun _ _ _ _ _ _ => False
  | n + 1 => fun x1 x2 x3 x4 I J => wb_X9_can_33  (wl_X9_can_33   Q n) Q x1 x2 x3 x4 I J
def wp_X9_can  (I : sw_I) (J : sw_J) (Q : Int32 → sw_I → sw_J → Prop) : Prop :=
  wp_J7_fill_d0a16 117 9 0 I J (fun I_2 J_3 => wp_X3_onFloor 13 (I_2 13 4) I_2 J_3 (fun r_4 I_5 J_6 => wp_X9_setsOf r_4 I_5 J_6 (fun r_7 I_8 J_9 => ∃ n_10 : Nat, wl_X9_can_33   Q n_10 r_4 r_7 0 0 I_8 J_9)))
set_option maxRecDepth 20000 in
theorem t_X9_can_112 {l : Launch} {D : va_G} {cy : Nat → ClassId} {sz : Nat} {G : sw_G} (hG : sw_lay G)   {Q : Int32 → sw_I → sw_J → Prop} {K78 : Int32 → Int32 → sw_I → sw_J → Prop} (hK78 : ∀ (x4 : Int32) (x5 : Int32) (I : sw_I) (J : sw_J), K78 x4 x5 I J → AW l D cy sz RX9 cX9_can 6 (some .int) false rm_X9_can 0 0 (sw_qi G Q) 0 0 G I J 78 [(0, .ref (sz + 0)), (4, .int x4), (5, .int x5)] []) {x5 : Int32} {s0 : Int32} {s1 : Int32} {I : sw_I} {J : sw_J} (h : wB_X9_can_112  K78 Q x5 s0 s1 I J) : AW l D cy sz RX9 cX9_can 6 (some .int) false rm_X9_can 0 0 (sw_qi G Q) 0 0 G I J 112 [(0, .ref (sz + 0)), (5, .int x5)] [.int s1, .int s0] := by
  unfold wB_X9_can_112 at h
  refine aw_ior dX9_can_112 ?_
  refine aw_topi (fun y_1 e_2 => ?_)
  have h := h y_1 e_2
  refine aw_istore (lv' := [(4, .int y_1), (0, .ref (sz + 0)), (5, .int x5)]) dX9_can_113 (by decide) rfl ?_
  refine aw_aload_n 1 dX9_can_115 rfl rfl ?_
  refine aw_aload_n 1 dX9_can_116 rfl rfl ?_
  refine gf_X9_8 fl_X9_55 (lk0 hG) (lr0_8 hG) dX9_can_117 ?_
  refine aw_iload 2 dX9_can_120 rfl ?_
  obtain ⟨hi_3, h⟩ := h
  refine aw_lld dX9_can_122 (lk117 hG) (ln117 hG) hi_3 ?_
  refine aw_callV wv_X9_tell (M_X9_tell hG  h) ml_X9_195 rfl (by decide) (lk0 hG) rfl rfl (Nat.le_of_ble_eq_true rfl) ⟨rfl, rfl⟩ ⟨Nat.le_of_ble_eq_true rfl, Nat.le_of_ble_eq_true rfl⟩ ⟨Nat.le_refl _, Nat.le_refl _⟩ dX9_can_123 (aw_kv fun I_5 J_6 h => ?_)
  obtain ⟨y_7, e_8⟩ : ∃ q : Int32, q = x5 + 1 := ⟨_, rfl⟩
  have h := h y_7 e_8
  refine aw_iinc (lv' := [(5, .int y_7), (4, .int y_1), (0, .ref (sz + 0))]) 2 dX9_can_126 rfl (by rw [e_8]; rfl) (by decide) rfl ?_
  refine aw_goto 78 dX9_can_129 (by decide) ?_
  refine aw_sub [2, 1, 0] rfl ?_
  exact hK78 y_1 y_7 I_5 J_6 h
set_option maxRecDepth 20000 in
theorem tb_X9_can_78 {l : Launch} {D : va_G} {cy : Nat → ClassId} {sz : Nat} {G : sw_G} (hG : sw_lay G)   {Q : Int32 → sw_I → sw_J → Prop} {K78 : Int32 → Int32 → sw_I → sw_J → Prop} (hK78 : ∀ (x4 : Int32) (x5 : Int32) (I : sw_I) (J : sw_J), K78 x4 x5 I J → AW l D cy sz RX9 cX9_can 6 (some .int) false rm_X9_can 0 0 (sw_qi G Q) 0 0 G I J 78 [(0, .ref (sz + 0)), (4, .int x4), (5, .int x5)] []) {x4 : Int32} {x5 : Int32} {I : sw_I} {J : sw_J} (h : wb_X9_can_78  K78 Q x4 x5 I J) : AW l D cy sz RX9 cX9_can 6 (some .int) false rm_X9_can 0 0 (sw_qi G Q) 0 0 G I J 78 [(0, .ref (sz + 0)), (4, .int x4), (5, .int x5)] [] := by
  unfold wb_X9_can_78 at h
  refine aw_iload 2 dX9_can_78 rfl ?_
  refine aw_aload_n 0 dX9_can_80 rfl rfl ?_
  refine gf_X9_1 fl_X9_19 (lk0 hG) (lr0_1 hG) dX9_can_81 ?_
  refine gf_X1_0 fl_X9_229 (lk3 hG) dX9_can_84 ?_
  refine aw_jge 132 dX9_can_87 (by decide) (fun c_1 => ?_) (fun c_1 => ?_)
  · have h := sw_if.f h c_1
    refine aw_iload 1 dX9_can_132 rfl ?_
    exact aw_iret rfl dX9_can_134 ⟨rfl, _, rfl, h⟩
  · have h := sw_if.t h c_1
    refine aw_iload 1 dX9_can_90 rfl ?_
    refine aw_aload_n 0 dX9_can_92 rfl rfl ?_
    refine gf_X9_8 fl_X9_55 (lk0 hG) (lr0_8 hG) dX9_can_93 ?_
    refine aw_iload 2 dX9_can_96 rfl ?_
    obtain ⟨hi_2, h⟩ := h
    refine aw_lld dX9_can_98 (lk117 hG) (ln117 hG) hi_2 ?_
    refine aw_lconst (v := 0) dX9_can_99 (by decide) ?_
    refine aw_lcmp dX9_can_100 ?_
    refine aw_zle 111 dX9_can_101 (by decide) (fun c_3 => ?_) (fun c_3 => ?_)
    · have h := sw_if.f h c_3
      refine aw_iconst (v := 0) dX9_can_111 (by decide) ?_
      refine aw_sub [0, 2] rfl ?_
      exact t_X9_can_112 hG  hK78 h
    · have h := sw_if.t h c_3
      refine aw_iconst (v := 1) dX9_can_104 (by decide) ?_
      refine aw_iload 2 dX9_can_105 rfl ?_
      refine aw_ishl dX9_can_107 ?_
      refine aw_goto 112 dX9_can_108 (by decide) ?_
      refine aw_sub [0, 2] rfl ?_
      exact t_X9_can_112 hG  hK78 h
set_option maxRecDepth 20000 in
theorem tl_X9_can_78 {l : Launch} {D : va_G} {cy : Nat → ClassId} {sz : Nat} {G : sw_G} (hG : sw_lay G)   {Q : Int32 → sw_I → sw_J → Prop} : ∀ (n : Nat) (x4 : Int32) (x5 : Int32) (I : sw_I) (J : sw_J), wl_X9_can_78   Q n x4 x5 I J → AW l D cy sz RX9 cX9_can 6 (some .int) false rm_X9_can 0 0 (sw_qi G Q) 0 0 G I J 78 [(0, .ref (sz + 0)), (4, .int x4), (5, .int x5)] [] := by
  intro n
  induction n with
  | zero => intro x4 x5 I J h; exact False.elim h
  | succ n ih => intro x4 x5 I J h; exact tb_X9_can_78 hG  ih h
set_option maxRecDepth 20000 in
theorem tb_X9_can_33 {l : Launch} {D : va_G} {cy : Nat → ClassId} {sz : Nat} {G : sw_G} (hG : sw_lay G)   {Q : Int32 → sw_I → sw_J → Prop} {K33 : Int32 → Int32 → Int32 → Int32 → sw_I → sw_J → Prop} (hK33 : ∀ (x1 : Int32) (x2 : Int32) (x3 : Int32) (x4 : Int32) (I : sw_I) (J : sw_J), K33 x1 x2 x3 x4 I J → AW l D cy sz RX9 cX9_can 6 (some .int) false rm_X9_can 0 0 (sw_qi G Q) 0 0 G I J 33 [(0, .ref (sz + 0)), (1, .int x1), (2, .int x2), (3, .int x3), (4, .int x4)] []) {x1 : Int32} {x2 : Int32} {x3 : Int32} {x4 : Int32} {I : sw_I} {J : sw_J} (h : wb_X9_can_33  K33 Q x1 x2 x3 x4 I J) : AW l D cy sz RX9 cX9_can 6 (some .int) false rm_X9_can 0 0 (sw_qi G Q) 0 0 G I J 33 [(0, .ref (sz + 0)), (1, .int x1), (2, .int x2), (3, .int x3), (4, .int x4)] [] := by
  unfold wb_X9_can_33 at h
  refine aw_iload 4 dX9_can_33 rfl ?_
  refine aw_iload_n 2 dX9_can_35 rfl rfl ?_
  refine aw_jge 68 dX9_can_36 (by decide) (fun c_1 => ?_) (fun c_1 => ?_)
  · have h := sw_if.f h c_1
    refine aw_aload_n 0 dX9_can_68 rfl rfl ?_
    refine aw_callV wv_X9_clearRow (M_X9_clearRow hG  h) ml_X9_192 rfl (by decide) (lk0 hG) rfl rfl (Nat.le_of_ble_eq_true rfl) ⟨rfl, rfl⟩ ⟨Nat.le_of_ble_eq_true rfl, Nat.le_of_ble_eq_true rfl⟩ ⟨Nat.le_refl _, Nat.le_refl _⟩ dX9_can_69 (aw_kv fun I_3 J_4 h => ?_)
    refine aw_iconst (v := 0) dX9_can_72 (by decide) ?_
    refine aw_istore (lv' := [(4, .int 0), (0, .ref (sz + 0)), (1, .int x1), (2, .int x2), (3, .int x3)]) dX9_can_73 (by decide) rfl ?_
    refine aw_iconst (v := 0) dX9_can_75 (by decide) ?_
    refine aw_istore (lv' := [(5, .int 0), (4, .int 0), (0, .ref (sz + 0)), (1, .int x1), (2, .int x2), (3, .int x3)]) dX9_can_76 (by decide) rfl ?_
    refine aw_sub [2, 1, 0] rfl ?_
    obtain ⟨n_5, h⟩ := h
    exact tl_X9_can_78 hG   n_5 0 0 I_3 J_4 h
  · have h := sw_if.t h c_1
    refine aw_aload_n 0 dX9_can_39 rfl rfl ?_
    refine aw_aload_n 0 dX9_can_40 rfl rfl ?_
    refine gf_X9_1 fl_X9_19 (lk0 hG) (lr0_1 hG) dX9_can_41 ?_
    refine aw_aload_n 0 dX9_can_44 rfl rfl ?_
    refine gf_X9_2 fl_X9_26 (lk0 hG) (lr0_2 hG) dX9_can_45 ?_
    refine aw_iload_n 3 dX9_can_48 rfl rfl ?_
    refine aw_callV wv_X1_nextStop (M_X1_nextStop hG (lm13 hG) h) ml_X9_218 rfl (by decide) (lk3 hG) rfl rfl (Nat.le_of_ble_eq_true rfl) ⟨rfl, rfl⟩ ⟨Nat.le_of_ble_eq_true rfl, Nat.le_of_ble_eq_true rfl⟩ ⟨Nat.le_refl _, Nat.le_refl _⟩ dX9_can_49 (aw_ki fun r_6 I_7 J_8 h => ?_)
    refine aw_lconst (v := 1) dX9_can_52 (by decide) ?_
    refine aw_callV wv_X9_addChance (M_X9_addChance hG  h) ml_X9_249 rfl (by decide) (lk0 hG) rfl rfl (Nat.le_of_ble_eq_true rfl) ⟨rfl, rfl⟩ ⟨Nat.le_of_ble_eq_true rfl, Nat.le_of_ble_eq_true rfl⟩ ⟨Nat.le_refl _, Nat.le_refl _⟩ dX9_can_53 (aw_kv fun I_10 J_11 h => ?_)
    refine aw_iload_n 3 dX9_can_56 rfl rfl ?_
    refine aw_iload_n 1 dX9_can_57 rfl rfl ?_
    refine aw_callS wv_X9_nextSet (M_X9_nextSet trivial  h) ml_X9_253 rfl rfl (Nat.le_of_ble_eq_true rfl) ⟨rfl, rfl⟩ ⟨Nat.le_of_ble_eq_true rfl, Nat.le_of_ble_eq_true rfl⟩ ⟨Nat.le_refl _, Nat.le_refl _⟩ dX9_can_58 (aw_ki fun r_12 I_13 J_14 h => ?_)
    refine aw_istore_n (lv' := [(3, .int r_12), (0, .ref (sz + 0)), (1, .int x1), (2, .int x2), (4, .int x4)]) dX9_can_61 rfl (by decide) rfl ?_
    obtain ⟨y_15, e_16⟩ : ∃ q : Int32, q = x4 + 1 := ⟨_, rfl⟩
    have h := h y_15 e_16
    refine aw_iinc (lv' := [(4, .int y_15), (3, .int r_12), (0, .ref (sz + 0)), (1, .int x1), (2, .int x2)]) 4 dX9_can_62 rfl (by rw [e_16]; rfl) (by decide) rfl ?_
    refine aw_goto 33 dX9_can_65 (by decide) ?_
    refine aw_sub [2, 3, 4, 1, 0] rfl ?_
    exact hK33 x1 x2 r_12 y_15 I_13 J_14 h
set_option maxRecDepth 20000 in
theorem tl_X9_can_33 {l : Launch} {D : va_G} {cy : Nat → ClassId} {sz : Nat} {G : sw_G} (hG : sw_lay G)   {Q : Int32 → sw_I → sw_J → Prop} : ∀ (n : Nat) (x1 : Int32) (x2 : Int32) (x3 : Int32) (x4 : Int32) (I : sw_I) (J : sw_J), wl_X9_can_33   Q n x1 x2 x3 x4 I J → AW l D cy sz RX9 cX9_can 6 (some .int) false rm_X9_can 0 0 (sw_qi G Q) 0 0 G I J 33 [(0, .ref (sz + 0)), (1, .int x1), (2, .int x2), (3, .int x3), (4, .int x4)] [] := by
  intro n
  induction n with
  | zero => intro x1 x2 x3 x4 I J h; exact False.elim h
  | succ n ih => intro x1 x2 x3 x4 I J h; exact tb_X9_can_33 hG  ih h
set_option maxRecDepth 20000 in
theorem t_X9_can {l : Launch} {D : va_G} {cy : Nat → ClassId} {sz : Nat} {G : sw_G} (hG : sw_lay G)   {Q : Int32 → sw_I → sw_J → Prop}  {I : sw_I} {J : sw_J} (h : wp_X9_can  I J Q) : AW l D cy sz RX9 cX9_can 6 (some .int) false rm_X9_can 0 0 (sw_qi G Q) 0 0 G I J 0 [(0, .ref (sz + 0))] [] := by
  unfold wp_X9_can at h
  refine aw_aload_n 0 dX9_can_0 rfl rfl ?_
  refine gf_X9_8 fl_X9_55 (lk0 hG) (lr0_8 hG) dX9_can_1 ?_
  refine aw_lconst (v := 0) dX9_can_4 (by decide) ?_
  refine aw_callS wv_J7_fill_d0a16 (M_J7_fill_d0a16 trivial ⟨(lk117 hG), (ln117 hG)⟩ h) ml_X9_240 rfl rfl (Nat.le_of_ble_eq_true rfl) ⟨rfl, rfl⟩ ⟨Nat.le_of_ble_eq_true rfl, Nat.le_of_ble_eq_true rfl⟩ ⟨Nat.le_refl _, Nat.le_refl _⟩ dX9_can_5 (aw_kv fun I_2 J_3 h => ?_)
  refine aw_aload_n 0 dX9_can_8 rfl rfl ?_
  refine gf_X9_2 fl_X9_26 (lk0 hG) (lr0_2 hG) dX9_can_9 ?_
  refine aw_aload_n 0 dX9_can_12 rfl rfl ?_
  refine gf_X9_2 fl_X9_26 (lk0 hG) (lr0_2 hG) dX9_can_13 ?_
  refine gf_X3_4 fl_X9_97 (lk13 hG) dX9_can_16 ?_
  refine aw_callV wv_X3_onFloor (M_X3_onFloor trivial (lm13 hG) h) ml_X9_222 rfl (by decide) (lk13 hG) rfl rfl (Nat.le_of_ble_eq_true rfl) ⟨rfl, rfl⟩ ⟨Nat.le_of_ble_eq_true rfl, Nat.le_of_ble_eq_true rfl⟩ ⟨Nat.le_refl _, Nat.le_refl _⟩ dX9_can_19 (aw_ki fun r_4 I_5 J_6 h => ?_)
  refine aw_istore_n (lv' := [(1, .int r_4), (0, .ref (sz + 0))]) dX9_can_22 rfl (by decide) rfl ?_
  refine aw_iload_n 0 dX9_can_23 rfl rfl ?_
  refine aw_callS wv_X9_setsOf (M_X9_setsOf trivial  h) ml_X9_246 rfl rfl (Nat.le_of_ble_eq_true rfl) ⟨rfl, rfl⟩ ⟨Nat.le_of_ble_eq_true rfl, Nat.le_of_ble_eq_true rfl⟩ ⟨Nat.le_refl _, Nat.le_refl _⟩ dX9_can_24 (aw_ki fun r_7 I_8 J_9 h => ?_)
  refine aw_istore_n (lv' := [(2, .int r_7), (1, .int r_4), (0, .ref (sz + 0))]) dX9_can_27 rfl (by decide) rfl ?_
  refine aw_iconst (v := 0) dX9_can_28 (by decide) ?_
  refine aw_istore_n (lv' := [(3, .int 0), (2, .int r_7), (1, .int r_4), (0, .ref (sz + 0))]) dX9_can_29 rfl (by decide) rfl ?_
  refine aw_iconst (v := 0) dX9_can_30 (by decide) ?_
  refine aw_istore (lv' := [(4, .int 0), (3, .int 0), (2, .int r_7), (1, .int r_4), (0, .ref (sz + 0))]) dX9_can_31 (by decide) rfl ?_
  refine aw_sub [4, 3, 2, 1, 0] rfl ?_
  obtain ⟨n_10, h⟩ := h
  exact tl_X9_can_33 hG   n_10 r_4 r_7 0 0 I_8 J_9 h
theorem M_X9_can {l : Launch} {D : va_G} {cy : Nat → ClassId} {sz : Nat} {G : sw_G} (hG : sw_lay G)   {Q : Int32 → sw_I → sw_J → Prop}  {I : sw_I} {J : sw_J} (h : wp_X9_can  I J Q) : Met l yX9_can (Cond.code yX9_can cX9_can 6 (some .int) :: sw_T) rm_X9_can (sw_Pc D cy sz [.ref (sz + 0)] G I J) (sw_Q D cy sz (sw_qi G Q)) 0 0 (fun q => sz ≤ q) :=
  sw_met (by decide) (fun q => by cases q) (Nat.le_of_ble_eq_true rfl) rfl (t_X9_can hG  h)
-- X9_then
abbrev rm_X9_then : Room := { frames := 4, cells := 0, slots := 0, locals := 98 }
def wb_X9_then_31  (K31 : Int32 → Int32 → Int32 → sw_I → sw_J → Prop) (Q : Int32 → sw_I → sw_J → Prop) (x1 : Int32) (x2 : Int32) (x3 : Int32) (I : sw_I) (J : sw_J) : Prop :=
  sw_if (x3 < x1) (wp_X1_carry 17 I J (fun r_5 I_6 J_7 => ∀ y_8 : Int32, y_8 = x2 ||| r_5 → wp_X9_tell ((I_6 17 4).toInt64) I_6 J_7 (fun I_11 J_12 => ∀ y_13 : Int32, y_13 = x3 + 1 → K31 x1 y_8 y_13 I_11 J_12))) (wp_J6_bitCount_0f7a4 x2 I J (fun r_2 I_3 J_4 => Q r_2 I_3 J_4))
def wl_X9_then_31   (Q : Int32 → sw_I → sw_J → Prop) : Nat → Int32 → Int32 → Int32 → sw_I → sw_J → Prop
  | 0 => fun _ _ _ _ _ => False
  | n + 1 => fun x1 x2 x3 I J => wb_X9_then_31  (wl_X9_then_31   Q n) Q x1 x2 x3 I J
def wp_X9_then (x1 : Int32) (I : sw_I) (J : sw_J) (Q : Int32 → sw_I → sw_J → Prop) : Prop :=
  sw_if (x1 < 0) (Q (-1 : Int32) I J) (sw_if ((12 : Int32) < x1) (Q (-1 : Int32) I J) (wp_X3_copy 17 13 I J (fun I_4 J_5 => wp_X9_clearRow  I_4 J_5 (fun I_7 J_8 => ∃ n_9 : Nat, wl_X9_then_31   Q n_9 x1 0 0 I_7 J_8))))
set_option maxRecDepth 20000 in
theorem tb_X9_then_31 {l : Launch} {D : va_G} {cy : Nat → ClassId} {sz : Nat} {G : sw_G} (hG : sw_lay G)   {Q : Int32 → sw_I → sw_J → Prop} {K31 : Int32 → Int32 → Int32 → sw_I → sw_J → Prop} (hK31 : ∀ (x1 : Int32) (x2 : Int32) (x3 : Int32) (I : sw_I) (J : sw_J), K31 x1 x2 x3 I J → AW l D cy sz RX9 cX9_then 4 (some .int) false rm_X9_then 0 0 (sw_qi G Q) 0 0 G I J 31 [(0, .ref (sz + 0)), (1, .int x1), (2, .int x2), (3, .int x3)] []) {x1 : Int32} {x2 : Int32} {x3 : Int32} {I : sw_I} {J : sw_J} (h : wb_X9_then_31  K31 Q x1 x2 x3 I J) : AW l D cy sz RX9 cX9_then 4 (some .int) false rm_X9_then 0 0 (sw_qi G Q) 0 0 G I J 31 [(0, .ref (sz + 0)), (1, .int x1), (2, .int x2), (3, .int x3)] [] := by
  unfold wb_X9_then_31 at h
  refine aw_iload_n 3 dX9_then_31 rfl rfl ?_
  refine aw_iload_n 1 dX9_then_32 rfl rfl ?_
  refine aw_jge 68 dX9_then_33 (by decide) (fun c_1 => ?_) (fun c_1 => ?_)
  · have h := sw_if.f h c_1
    refine aw_iload_n 2 dX9_then_68 rfl rfl ?_
    refine aw_callS wv_J6_bitCount_0f7a4 (M_J6_bitCount_0f7a4 trivial  h) ml_X9_272 rfl rfl (Nat.le_of_ble_eq_true rfl) ⟨rfl, rfl⟩ ⟨Nat.le_of_ble_eq_true rfl, Nat.le_of_ble_eq_true rfl⟩ ⟨Nat.le_refl _, Nat.le_refl _⟩ dX9_then_69 (aw_ki fun r_2 I_3 J_4 h => ?_)
    exact aw_iret rfl dX9_then_72 ⟨rfl, _, rfl, h⟩
  · have h := sw_if.t h c_1
    refine aw_iload_n 2 dX9_then_36 rfl rfl ?_
    refine aw_aload_n 0 dX9_then_37 rfl rfl ?_
    refine gf_X9_1 fl_X9_19 (lk0 hG) (lr0_1 hG) dX9_then_38 ?_
    refine aw_aload_n 0 dX9_then_41 rfl rfl ?_
    refine gf_X9_3 fl_X9_30 (lk0 hG) (lr0_3 hG) dX9_then_42 ?_
    refine aw_callV wv_X1_carry (M_X1_carry hG (lm17 hG) h) ml_X9_188 rfl (by decide) (lk3 hG) rfl rfl (Nat.le_of_ble_eq_true rfl) ⟨rfl, rfl⟩ ⟨Nat.le_of_ble_eq_true rfl, Nat.le_of_ble_eq_true rfl⟩ ⟨Nat.le_refl _, Nat.le_refl _⟩ dX9_then_45 (aw_ki fun r_5 I_6 J_7 h => ?_)
    refine aw_ior dX9_then_48 ?_
    refine aw_topi (fun y_8 e_9 => ?_)
    have h := h y_8 e_9
    refine aw_istore_n (lv' := [(2, .int y_8), (0, .ref (sz + 0)), (1, .int x1), (3, .int x3)]) dX9_then_49 rfl (by decide) rfl ?_
    refine aw_aload_n 1 dX9_then_50 rfl rfl ?_
    refine aw_aload_n 1 dX9_then_51 rfl rfl ?_
    refine gf_X9_3 fl_X9_30 (lk0 hG) (lr0_3 hG) dX9_then_52 ?_
    refine gf_X3_4 fl_X9_97 (lk17 hG) dX9_then_55 ?_
    refine aw_i2l dX9_then_58 ?_
    refine aw_callV wv_X9_tell (M_X9_tell hG  h) ml_X9_195 rfl (by decide) (lk0 hG) rfl rfl (Nat.le_of_ble_eq_true rfl) ⟨rfl, rfl⟩ ⟨Nat.le_of_ble_eq_true rfl, Nat.le_of_ble_eq_true rfl⟩ ⟨Nat.le_refl _, Nat.le_refl _⟩ dX9_then_59 (aw_kv fun I_11 J_12 h => ?_)
    obtain ⟨y_13, e_14⟩ : ∃ q : Int32, q = x3 + 1 := ⟨_, rfl⟩
    have h := h y_13 e_14
    refine aw_iinc (lv' := [(3, .int y_13), (2, .int y_8), (0, .ref (sz + 0)), (1, .int x1)]) 3 dX9_then_62 rfl (by rw [e_14]; rfl) (by decide) rfl ?_
    refine aw_goto 31 dX9_then_65 (by decide) ?_
    refine aw_sub [2, 3, 1, 0] rfl ?_
    exact hK31 x1 y_8 y_13 I_11 J_12 h
set_option maxRecDepth 20000 in
theorem tl_X9_then_31 {l : Launch} {D : va_G} {cy : Nat → ClassId} {sz : Nat} {G : sw_G} (hG : sw_lay G)   {Q : Int32 → sw_I → sw_J → Prop} : ∀ (n : Nat) (x1 : Int32) (x2 : Int32) (x3 : Int32) (I : sw_I) (J : sw_J), wl_X9_then_31   Q n x1 x2 x3 I J → AW l D cy sz RX9 cX9_then 4 (some .int) false rm_X9_then 0 0 (sw_qi G Q) 0 0 G I J 31 [(0, .ref (sz + 0)), (1, .int x1), (2, .int x2), (3, .int x3)] [] := by
  intro n
  induction n with
  | zero => intro x1 x2 x3 I J h; exact False.elim h
  | succ n ih => intro x1 x2 x3 I J h; exact tb_X9_then_31 hG  ih h
set_option maxRecDepth 20000 in
theorem t_X9_then {l : Launch} {D : va_G} {cy : Nat → ClassId} {sz : Nat} {G : sw_G} (hG : sw_lay G)   {Q : Int32 → sw_I → sw_J → Prop} {x1 : Int32} {I : sw_I} {J : sw_J} (h : wp_X9_then x1 I J Q) : AW l D cy sz RX9 cX9_then 4 (some .int) false rm_X9_then 0 0 (sw_qi G Q) 0 0 G I J 0 [(0, .ref (sz + 0)), (1, .int x1)] [] := by
  unfold wp_X9_then at h
  refine aw_iload_n 1 dX9_then_0 rfl rfl ?_
  refine aw_zlt 10 dX9_then_1 (by decide) (fun c_1 => ?_) (fun c_1 => ?_)
  · have h := sw_if.t h c_1
    refine aw_iconst (v := (-1)) dX9_then_10 (by decide) ?_
    exact aw_iret rfl dX9_then_11 ⟨rfl, _, rfl, h⟩
  · have h := sw_if.f h c_1
    refine aw_iload_n 1 dX9_then_4 rfl rfl ?_
    refine aw_bipush (v := 12) dX9_then_5 (by decide) ?_
    refine aw_jle 12 dX9_then_7 (by decide) (fun c_2 => ?_) (fun c_2 => ?_)
    · have h := sw_if.f h c_2
      refine aw_aload_n 0 dX9_then_12 rfl rfl ?_
      refine gf_X9_3 fl_X9_30 (lk0 hG) (lr0_3 hG) dX9_then_13 ?_
      refine aw_aload_n 0 dX9_then_16 rfl rfl ?_
      refine gf_X9_2 fl_X9_26 (lk0 hG) (lr0_2 hG) dX9_then_17 ?_
      refine aw_callV wv_X3_copy (M_X3_copy hG (lm17 hG) (lm13 hG) h) ml_X9_259 rfl (by decide) (lk17 hG) rfl rfl (Nat.le_of_ble_eq_true rfl) ⟨rfl, rfl⟩ ⟨Nat.le_of_ble_eq_true rfl, Nat.le_of_ble_eq_true rfl⟩ ⟨Nat.le_refl _, Nat.le_refl _⟩ dX9_then_20 (aw_kv fun I_4 J_5 h => ?_)
      refine aw_aload_n 0 dX9_then_23 rfl rfl ?_
      refine aw_callV wv_X9_clearRow (M_X9_clearRow hG  h) ml_X9_192 rfl (by decide) (lk0 hG) rfl rfl (Nat.le_of_ble_eq_true rfl) ⟨rfl, rfl⟩ ⟨Nat.le_of_ble_eq_true rfl, Nat.le_of_ble_eq_true rfl⟩ ⟨Nat.le_refl _, Nat.le_refl _⟩ dX9_then_24 (aw_kv fun I_7 J_8 h => ?_)
      refine aw_iconst (v := 0) dX9_then_27 (by decide) ?_
      refine aw_istore_n (lv' := [(2, .int 0), (0, .ref (sz + 0)), (1, .int x1)]) dX9_then_28 rfl (by decide) rfl ?_
      refine aw_iconst (v := 0) dX9_then_29 (by decide) ?_
      refine aw_istore_n (lv' := [(3, .int 0), (2, .int 0), (0, .ref (sz + 0)), (1, .int x1)]) dX9_then_30 rfl (by decide) rfl ?_
      refine aw_sub [2, 3, 1, 0] rfl ?_
      obtain ⟨n_9, h⟩ := h
      exact tl_X9_then_31 hG   n_9 x1 0 0 I_7 J_8 h
    · have h := sw_if.t h c_2
      refine aw_iconst (v := (-1)) dX9_then_10 (by decide) ?_
      exact aw_iret rfl dX9_then_11 ⟨rfl, _, rfl, h⟩
theorem M_X9_then {l : Launch} {D : va_G} {cy : Nat → ClassId} {sz : Nat} {G : sw_G} (hG : sw_lay G)   {Q : Int32 → sw_I → sw_J → Prop} {x1 : Int32} {I : sw_I} {J : sw_J} (h : wp_X9_then x1 I J Q) : Met l yX9_then (Cond.code yX9_then cX9_then 4 (some .int) :: sw_T) rm_X9_then (sw_Pc D cy sz [.ref (sz + 0), .int x1] G I J) (sw_Q D cy sz (sw_qi G Q)) 0 0 (fun q => sz ≤ q) :=
  sw_met (by decide) (fun q => by cases q) (Nat.le_of_ble_eq_true rfl) rfl (t_X9_then hG  h)
-- X9_since
abbrev rm_X9_since : Room := { frames := 4, cells := 0, slots := 0, locals := 98 }
def wb_X9_since_42  (K42 : Int32 → Int32 → sw_I → sw_J → Prop) (Q : Int32 → sw_I → sw_J → Prop) (x1 : Int32) (x2 : Int32) (I : sw_I) (J : sw_J) : Prop :=
  sw_if ((630 : Int32) < x2) (Q (-2 : Int32) I J) (wp_X1_carry 17 I J (fun r_2 I_3 J_4 => wp_X3_isIn 17 x1 I_3 J_4 (fun r_5 I_6 J_7 => sw_if (r_5 = 0) (Q x2 I_6 J_7) (∀ y_9 : Int32, y_9 = x2 + 1 → K42 x1 y_9 I_6 J_7))))
def wl_X9_since_42   (Q : Int32 → sw_I → sw_J → Prop) : Nat → Int32 → Int32 → sw_I → sw_J → Prop
  | 0 => fun _ _ _ _ => False
  | n + 1 => fun x1 x2 I J => wb_X9_since_42  (wl_X9_since_42   Q n) Q x1 x2 I J
def wp_X9_since (x1 : Int32) (I : sw_I) (J : sw_J) (Q : Int32 → sw_I → sw_J → Prop) : Prop :=
  wp_X3_isIn 13 x1 I J (fun r_1 I_2 J_3 => sw_if (r_1 = 0) (Q (-1 : Int32) I_2 J_3) (sw_if ((I_2 6 5) = 0) (wp_X3_copy 17 13 I_2 J_3 (fun I_7 J_8 => ∃ n_9 : Nat, wl_X9_since_42   Q n_9 x1 1 I_7 J_8)) (Q (-4 : Int32) I_2 J_3)))
set_option maxRecDepth 20000 in
theorem tb_X9_since_42 {l : Launch} {D : va_G} {cy : Nat → ClassId} {sz : Nat} {G : sw_G} (hG : sw_lay G)   {Q : Int32 → sw_I → sw_J → Prop} {K42 : Int32 → Int32 → sw_I → sw_J → Prop} (hK42 : ∀ (x1 : Int32) (x2 : Int32) (I : sw_I) (J : sw_J), K42 x1 x2 I J → AW l D cy sz RX9 cX9_since 3 (some .int) false rm_X9_since 0 0 (sw_qi G Q) 0 0 G I J 42 [(0, .ref (sz + 0)), (1, .int x1), (2, .int x2)] []) {x1 : Int32} {x2 : Int32} {I : sw_I} {J : sw_J} (h : wb_X9_since_42  K42 Q x1 x2 I J) : AW l D cy sz RX9 cX9_since 3 (some .int) false rm_X9_since 0 0 (sw_qi G Q) 0 0 G I J 42 [(0, .ref (sz + 0)), (1, .int x1), (2, .int x2)] [] := by
  unfold wb_X9_since_42 at h
  refine aw_iload_n 2 dX9_since_42 rfl rfl ?_
  refine aw_sipush (v := 630) dX9_since_43 (by decide) ?_
  refine aw_jgt 80 dX9_since_46 (by decide) (fun c_1 => ?_) (fun c_1 => ?_)
  · have h := sw_if.t h c_1
    refine aw_bipush (v := (-2)) dX9_since_80 (by decide) ?_
    exact aw_iret rfl dX9_since_82 ⟨rfl, _, rfl, h⟩
  · have h := sw_if.f h c_1
    refine aw_aload_n 0 dX9_since_49 rfl rfl ?_
    refine gf_X9_1 fl_X9_19 (lk0 hG) (lr0_1 hG) dX9_since_50 ?_
    refine aw_aload_n 0 dX9_since_53 rfl rfl ?_
    refine gf_X9_3 fl_X9_30 (lk0 hG) (lr0_3 hG) dX9_since_54 ?_
    refine aw_callV wv_X1_carry (M_X1_carry hG (lm17 hG) h) ml_X9_188 rfl (by decide) (lk3 hG) rfl rfl (Nat.le_of_ble_eq_true rfl) ⟨rfl, rfl⟩ ⟨Nat.le_of_ble_eq_true rfl, Nat.le_of_ble_eq_true rfl⟩ ⟨Nat.le_refl _, Nat.le_refl _⟩ dX9_since_57 (aw_ki fun r_2 I_3 J_4 h => ?_)
    refine aw_pop dX9_since_60 rfl ?_
    refine aw_aload_n 0 dX9_since_61 rfl rfl ?_
    refine gf_X9_3 fl_X9_30 (lk0 hG) (lr0_3 hG) dX9_since_62 ?_
    refine aw_iload_n 1 dX9_since_65 rfl rfl ?_
    refine aw_callV wv_X3_isIn (M_X3_isIn trivial (lm17 hG) h) ml_X9_185 rfl (by decide) (lk17 hG) rfl rfl (Nat.le_of_ble_eq_true rfl) ⟨rfl, rfl⟩ ⟨Nat.le_of_ble_eq_true rfl, Nat.le_of_ble_eq_true rfl⟩ ⟨Nat.le_refl _, Nat.le_refl _⟩ dX9_since_66 (aw_ki fun r_5 I_6 J_7 h => ?_)
    refine aw_zne 74 dX9_since_69 (by decide) (fun c_8 => ?_) (fun c_8 => ?_)
    · have h := sw_if.f h c_8
      obtain ⟨y_9, e_10⟩ : ∃ q : Int32, q = x2 + 1 := ⟨_, rfl⟩
      have h := h y_9 e_10
      refine aw_iinc (lv' := [(2, .int y_9), (0, .ref (sz + 0)), (1, .int x1)]) 2 dX9_since_74 rfl (by rw [e_10]; rfl) (by decide) rfl ?_
      refine aw_goto 42 dX9_since_77 (by decide) ?_
      refine aw_sub [1, 2, 0] rfl ?_
      exact hK42 x1 y_9 I_6 J_7 h
    · have h := sw_if.t h c_8
      refine aw_iload_n 2 dX9_since_72 rfl rfl ?_
      exact aw_iret rfl dX9_since_73 ⟨rfl, _, rfl, h⟩
set_option maxRecDepth 20000 in
theorem tl_X9_since_42 {l : Launch} {D : va_G} {cy : Nat → ClassId} {sz : Nat} {G : sw_G} (hG : sw_lay G)   {Q : Int32 → sw_I → sw_J → Prop} : ∀ (n : Nat) (x1 : Int32) (x2 : Int32) (I : sw_I) (J : sw_J), wl_X9_since_42   Q n x1 x2 I J → AW l D cy sz RX9 cX9_since 3 (some .int) false rm_X9_since 0 0 (sw_qi G Q) 0 0 G I J 42 [(0, .ref (sz + 0)), (1, .int x1), (2, .int x2)] [] := by
  intro n
  induction n with
  | zero => intro x1 x2 I J h; exact False.elim h
  | succ n ih => intro x1 x2 I J h; exact tb_X9_since_42 hG  ih h
set_option maxRecDepth 20000 in
theorem t_X9_since {l : Launch} {D : va_G} {cy : Nat → ClassId} {sz : Nat} {G : sw_G} (hG : sw_lay G)   {Q : Int32 → sw_I → sw_J → Prop} {x1 : Int32} {I : sw_I} {J : sw_J} (h : wp_X9_since x1 I J Q) : AW l D cy sz RX9 cX9_since 3 (some .int) false rm_X9_since 0 0 (sw_qi G Q) 0 0 G I J 0 [(0, .ref (sz + 0)), (1, .int x1)] [] := by
  unfold wp_X9_since at h
  refine aw_aload_n 0 dX9_since_0 rfl rfl ?_
  refine gf_X9_2 fl_X9_26 (lk0 hG) (lr0_2 hG) dX9_since_1 ?_
  refine aw_iload_n 1 dX9_since_4 rfl rfl ?_
  refine aw_callV wv_X3_isIn (M_X3_isIn trivial (lm13 hG) h) ml_X9_185 rfl (by decide) (lk13 hG) rfl rfl (Nat.le_of_ble_eq_true rfl) ⟨rfl, rfl⟩ ⟨Nat.le_of_ble_eq_true rfl, Nat.le_of_ble_eq_true rfl⟩ ⟨Nat.le_refl _, Nat.le_refl _⟩ dX9_since_5 (aw_ki fun r_1 I_2 J_3 h => ?_)
  refine aw_zne 13 dX9_since_8 (by decide) (fun c_4 => ?_) (fun c_4 => ?_)
  · have h := sw_if.f h c_4
    refine aw_aload_n 0 dX9_since_13 rfl rfl ?_
    refine gf_X9_1 fl_X9_19 (lk0 hG) (lr0_1 hG) dX9_since_14 ?_
    refine gf_X1_5 fl_X9_108 (lk3 hG) (lr3_5 hG) dX9_since_17 ?_
    refine gf_X2_5 fl_X9_277 (lk6 hG) dX9_since_20 ?_
    refine aw_zeq 29 dX9_since_23 (by decide) (fun c_5 => ?_) (fun c_5 => ?_)
    · have h := sw_if.t h c_5
      refine aw_aload_n 0 dX9_since_29 rfl rfl ?_
      refine gf_X9_3 fl_X9_30 (lk0 hG) (lr0_3 hG) dX9_since_30 ?_
      refine aw_aload_n 0 dX9_since_33 rfl rfl ?_
      refine gf_X9_2 fl_X9_26 (lk0 hG) (lr0_2 hG) dX9_since_34 ?_
      refine aw_callV wv_X3_copy (M_X3_copy hG (lm17 hG) (lm13 hG) h) ml_X9_259 rfl (by decide) (lk17 hG) rfl rfl (Nat.le_of_ble_eq_true rfl) ⟨rfl, rfl⟩ ⟨Nat.le_of_ble_eq_true rfl, Nat.le_of_ble_eq_true rfl⟩ ⟨Nat.le_refl _, Nat.le_refl _⟩ dX9_since_37 (aw_kv fun I_7 J_8 h => ?_)
      refine aw_iconst (v := 1) dX9_since_40 (by decide) ?_
      refine aw_istore_n (lv' := [(2, .int 1), (0, .ref (sz + 0)), (1, .int x1)]) dX9_since_41 rfl (by decide) rfl ?_
      refine aw_sub [1, 2, 0] rfl ?_
      obtain ⟨n_9, h⟩ := h
      exact tl_X9_since_42 hG   n_9 x1 1 I_7 J_8 h
    · have h := sw_if.f h c_5
      refine aw_bipush (v := (-4)) dX9_since_26 (by decide) ?_
      exact aw_iret rfl dX9_since_28 ⟨rfl, _, rfl, h⟩
  · have h := sw_if.t h c_4
    refine aw_iconst (v := (-1)) dX9_since_11 (by decide) ?_
    exact aw_iret rfl dX9_since_12 ⟨rfl, _, rfl, h⟩
theorem M_X9_since {l : Launch} {D : va_G} {cy : Nat → ClassId} {sz : Nat} {G : sw_G} (hG : sw_lay G)   {Q : Int32 → sw_I → sw_J → Prop} {x1 : Int32} {I : sw_I} {J : sw_J} (h : wp_X9_since x1 I J Q) : Met l yX9_since (Cond.code yX9_since cX9_since 3 (some .int) :: sw_T) rm_X9_since (sw_Pc D cy sz [.ref (sz + 0), .int x1] G I J) (sw_Q D cy sz (sw_qi G Q)) 0 0 (fun q => sz ≤ q) :=
  sw_met (by decide) (fun q => by cases q) (Nat.le_of_ble_eq_true rfl) rfl (t_X9_since hG  h)
-- X9_believed
abbrev rm_X9_believed : Room := { frames := 4, cells := 0, slots := 0, locals := 97 }
def wp_X9_believed  (I : sw_I) (J : sw_J) (Q : Int32 → sw_I → sw_J → Prop) : Prop :=
  wp_X7_believe 15 10 I J (fun I_2 J_3 => wp_X7_notSo  I_2 J_3 (fun r_4 I_5 J_6 => wp_X9_clearRow  I_5 J_6 (fun I_8 J_9 => wp_X9_tell r_4.toInt64 I_8 J_9 (fun I_11 J_12 => sw_if (r_4 = 0) (Q (1 : Int32) I_11 J_12) (Q (0 : Int32) I_11 J_12)))))
set_option maxRecDepth 20000 in
theorem t_X9_believed {l : Launch} {D : va_G} {cy : Nat → ClassId} {sz : Nat} {G : sw_G} (hG : sw_lay G)   {Q : Int32 → sw_I → sw_J → Prop}  {I : sw_I} {J : sw_J} (h : wp_X9_believed  I J Q) : AW l D cy sz RX9 cX9_believed 2 (some .int) false rm_X9_believed 0 0 (sw_qi G Q) 0 0 G I J 0 [(0, .ref (sz + 0))] [] := by
  unfold wp_X9_believed at h
  refine aw_aload_n 0 dX9_believed_0 rfl rfl ?_
  refine gf_X9_7 fl_X9_51 (lk0 hG) (lr0_7 hG) dX9_believed_1 ?_
  refine aw_aload_n 0 dX9_believed_4 rfl rfl ?_
  refine gf_X9_2 fl_X9_26 (lk0 hG) (lr0_2 hG) dX9_believed_5 ?_
  refine gf_X3_1 fl_X9_133 (lk13 hG) (lr13_1 hG) dX9_believed_8 ?_
  refine aw_callV wv_X7_believe (M_X7_believe hG ⟨(lk15 hG), (ln15 hG)⟩ h) ml_X9_318 rfl (by decide) (lk109 hG) rfl rfl (Nat.le_of_ble_eq_true rfl) ⟨rfl, rfl⟩ ⟨Nat.le_of_ble_eq_true rfl, Nat.le_of_ble_eq_true rfl⟩ ⟨Nat.le_refl _, Nat.le_refl _⟩ dX9_believed_11 (aw_kv fun I_2 J_3 h => ?_)
  refine aw_aload_n 0 dX9_believed_14 rfl rfl ?_
  refine gf_X9_7 fl_X9_51 (lk0 hG) (lr0_7 hG) dX9_believed_15 ?_
  refine aw_aload_n 0 dX9_believed_18 rfl rfl ?_
  refine gf_X9_1 fl_X9_19 (lk0 hG) (lr0_1 hG) dX9_believed_19 ?_
  refine aw_callV wv_X7_notSo (M_X7_notSo hG  h) ml_X9_322 rfl (by decide) (lk109 hG) rfl rfl (Nat.le_of_ble_eq_true rfl) ⟨rfl, rfl⟩ ⟨Nat.le_of_ble_eq_true rfl, Nat.le_of_ble_eq_true rfl⟩ ⟨Nat.le_refl _, Nat.le_refl _⟩ dX9_believed_22 (aw_ki fun r_4 I_5 J_6 h => ?_)
  refine aw_istore_n (lv' := [(1, .int r_4), (0, .ref (sz + 0))]) dX9_believed_25 rfl (by decide) rfl ?_
  refine aw_aload_n 1 dX9_believed_26 rfl rfl ?_
  refine aw_callV wv_X9_clearRow (M_X9_clearRow hG  h) ml_X9_192 rfl (by decide) (lk0 hG) rfl rfl (Nat.le_of_ble_eq_true rfl) ⟨rfl, rfl⟩ ⟨Nat.le_of_ble_eq_true rfl, Nat.le_of_ble_eq_true rfl⟩ ⟨Nat.le_refl _, Nat.le_refl _⟩ dX9_believed_27 (aw_kv fun I_8 J_9 h => ?_)
  refine aw_aload_n 1 dX9_believed_30 rfl rfl ?_
  refine aw_iload_n 0 dX9_believed_31 rfl rfl ?_
  refine aw_i2l dX9_believed_32 ?_
  refine aw_callV wv_X9_tell (M_X9_tell hG  h) ml_X9_195 rfl (by decide) (lk0 hG) rfl rfl (Nat.le_of_ble_eq_true rfl) ⟨rfl, rfl⟩ ⟨Nat.le_of_ble_eq_true rfl, Nat.le_of_ble_eq_true rfl⟩ ⟨Nat.le_refl _, Nat.le_refl _⟩ dX9_believed_33 (aw_kv fun I_11 J_12 h => ?_)
  refine aw_iload_n 0 dX9_believed_36 rfl rfl ?_
  refine aw_zne 44 dX9_believed_37 (by decide) (fun c_13 => ?_) (fun c_13 => ?_)
  · have h := sw_if.f h c_13
    refine aw_iconst (v := 0) dX9_believed_44 (by decide) ?_
    exact aw_iret rfl dX9_believed_45 ⟨rfl, _, rfl, h⟩
  · have h := sw_if.t h c_13
    refine aw_iconst (v := 1) dX9_believed_40 (by decide) ?_
    refine aw_goto 45 dX9_believed_41 (by decide) ?_
    exact aw_iret rfl dX9_believed_45 ⟨rfl, _, rfl, h⟩
theorem M_X9_believed {l : Launch} {D : va_G} {cy : Nat → ClassId} {sz : Nat} {G : sw_G} (hG : sw_lay G)   {Q : Int32 → sw_I → sw_J → Prop}  {I : sw_I} {J : sw_J} (h : wp_X9_believed  I J Q) : Met l yX9_believed (Cond.code yX9_believed cX9_believed 2 (some .int) :: sw_T) rm_X9_believed (sw_Pc D cy sz [.ref (sz + 0)] G I J) (sw_Q D cy sz (sw_qi G Q)) 0 0 (fun q => sz ≤ q) :=
  sw_met (by decide) (fun q => by cases q) (Nat.le_of_ble_eq_true rfl) rfl (t_X9_believed hG  h)
-- X9_fits
abbrev rm_X9_fits : Room := { frames := 5, cells := 0, slots := 0, locals := 121 }
def wB_X9_fits_74  (K31 : Int32 → Int32 → Int32 → sw_I → sw_J → Prop) (Q : Int32 → sw_I → sw_J → Prop) (x1 : Int32) (x2 : Int32) (x3 : Int32) (I : sw_I) (J : sw_J) : Prop :=
  ∀ y_1 : Int32, y_1 = x3 + 1 → K31 x1 x2 y_1 I J
def wB_X9_fits_71  (K31 : Int32 → Int32 → Int32 → sw_I → sw_J → Prop) (Q : Int32 → sw_I → sw_J → Prop) (x1 : Int32) (x3 : Int32) (s0 : Int32) (s1 : Int32) (s2 : Int32) (I : sw_I) (J : sw_J) : Prop :=
  ∀ y_1 : Int32, y_1 = s0 ||| (s1 <<< (s2 &&& 31)) → wB_X9_fits_74  K31 Q x1 y_1 x3 I J
def wb_X9_fits_31  (K31 : Int32 → Int32 → Int32 → sw_I → sw_J → Prop) (Q : Int32 → sw_I → sw_J → Prop) (x1 : Int32) (x2 : Int32) (x3 : Int32) (I : sw_I) (J : sw_J) : Prop :=
  sw_if (x3 < (I 3 0)) (wp_X7_allSoIf x1 x3 I J (fun r_2 I_3 J_4 => sw_if (r_2 = 0) (wB_X9_fits_74  K31 Q x1 x2 x3 I_3 J_4) (sw_if (x3 = (-1 : Int32)) (wB_X9_fits_71  K31 Q x1 x3 x2 1 9 I_3 J_4) (wB_X9_fits_71  K31 Q x1 x3 x2 1 x3 I_3 J_4)))) (Q x2 I J)
def wl_X9_fits_31   (Q : Int32 → sw_I → sw_J → Prop) : Nat → Int32 → Int32 → Int32 → sw_I → sw_J → Prop
  | 0 => fun _ _ _ _ _ => False
  | n + 1 => fun x1 x2 x3 I J => wb_X9_fits_31  (wl_X9_fits_31   Q n) Q x1 x2 x3 I J
def wp_X9_fits (x1 : Int32) (I : sw_I) (J : sw_J) (Q : Int32 → sw_I → sw_J → Prop) : Prop :=
  wp_X1_hasRider x1 I J (fun r_1 I_2 J_3 => sw_if (r_1 = 0) (Q (-1 : Int32) I_2 J_3) (wp_X7_believe 15 10 I_2 J_3 (fun I_6 J_7 => ∃ n_8 : Nat, wl_X9_fits_31   Q n_8 x1 0 (-1) I_6 J_7)))
set_option maxRecDepth 20000 in
theorem t_X9_fits_74 {l : Launch} {D : va_G} {cy : Nat → ClassId} {sz : Nat} {G : sw_G} (hG : sw_lay G)   {Q : Int32 → sw_I → sw_J → Prop} {K31 : Int32 → Int32 → Int32 → sw_I → sw_J → Prop} (hK31 : ∀ (x1 : Int32) (x2 : Int32) (x3 : Int32) (I : sw_I) (J : sw_J), K31 x1 x2 x3 I J → AW l D cy sz RX9 cX9_fits 4 (some .int) false rm_X9_fits 0 0 (sw_qi G Q) 0 0 G I J 31 [(0, .ref (sz + 0)), (1, .int x1), (2, .int x2), (3, .int x3)] []) {x1 : Int32} {x2 : Int32} {x3 : Int32} {I : sw_I} {J : sw_J} (h : wB_X9_fits_74  K31 Q x1 x2 x3 I J) : AW l D cy sz RX9 cX9_fits 4 (some .int) false rm_X9_fits 0 0 (sw_qi G Q) 0 0 G I J 74 [(0, .ref (sz + 0)), (1, .int x1), (2, .int x2), (3, .int x3)] [] := by
  unfold wB_X9_fits_74 at h
  obtain ⟨y_1, e_2⟩ : ∃ q : Int32, q = x3 + 1 := ⟨_, rfl⟩
  have h := h y_1 e_2
  refine aw_iinc (lv' := [(3, .int y_1), (0, .ref (sz + 0)), (1, .int x1), (2, .int x2)]) 3 dX9_fits_74 rfl (by rw [e_2]; rfl) (by decide) rfl ?_
  refine aw_goto 31 dX9_fits_77 (by decide) ?_
  refine aw_sub [1, 2, 3, 0] rfl ?_
  exact hK31 x1 x2 y_1 I J h
set_option maxRecDepth 20000 in
theorem t_X9_fits_71 {l : Launch} {D : va_G} {cy : Nat → ClassId} {sz : Nat} {G : sw_G} (hG : sw_lay G)   {Q : Int32 → sw_I → sw_J → Prop} {K31 : Int32 → Int32 → Int32 → sw_I → sw_J → Prop} (hK31 : ∀ (x1 : Int32) (x2 : Int32) (x3 : Int32) (I : sw_I) (J : sw_J), K31 x1 x2 x3 I J → AW l D cy sz RX9 cX9_fits 4 (some .int) false rm_X9_fits 0 0 (sw_qi G Q) 0 0 G I J 31 [(0, .ref (sz + 0)), (1, .int x1), (2, .int x2), (3, .int x3)] []) {x1 : Int32} {x3 : Int32} {s0 : Int32} {s1 : Int32} {s2 : Int32} {I : sw_I} {J : sw_J} (h : wB_X9_fits_71  K31 Q x1 x3 s0 s1 s2 I J) : AW l D cy sz RX9 cX9_fits 4 (some .int) false rm_X9_fits 0 0 (sw_qi G Q) 0 0 G I J 71 [(0, .ref (sz + 0)), (1, .int x1), (3, .int x3)] [.int s2, .int s1, .int s0] := by
  unfold wB_X9_fits_71 at h
  refine aw_ishl dX9_fits_71 ?_
  refine aw_ior dX9_fits_72 ?_
  refine aw_topi (fun y_1 e_2 => ?_)
  have h := h y_1 e_2
  refine aw_istore_n (lv' := [(2, .int y_1), (0, .ref (sz + 0)), (1, .int x1), (3, .int x3)]) dX9_fits_73 rfl (by decide) rfl ?_
  refine aw_sub [1, 2, 0, 3] rfl ?_
  exact t_X9_fits_74 hG  hK31 h
set_option maxRecDepth 20000 in
theorem tb_X9_fits_31 {l : Launch} {D : va_G} {cy : Nat → ClassId} {sz : Nat} {G : sw_G} (hG : sw_lay G)   {Q : Int32 → sw_I → sw_J → Prop} {K31 : Int32 → Int32 → Int32 → sw_I → sw_J → Prop} (hK31 : ∀ (x1 : Int32) (x2 : Int32) (x3 : Int32) (I : sw_I) (J : sw_J), K31 x1 x2 x3 I J → AW l D cy sz RX9 cX9_fits 4 (some .int) false rm_X9_fits 0 0 (sw_qi G Q) 0 0 G I J 31 [(0, .ref (sz + 0)), (1, .int x1), (2, .int x2), (3, .int x3)] []) {x1 : Int32} {x2 : Int32} {x3 : Int32} {I : sw_I} {J : sw_J} (h : wb_X9_fits_31  K31 Q x1 x2 x3 I J) : AW l D cy sz RX9 cX9_fits 4 (some .int) false rm_X9_fits 0 0 (sw_qi G Q) 0 0 G I J 31 [(0, .ref (sz + 0)), (1, .int x1), (2, .int x2), (3, .int x3)] [] := by
  unfold wb_X9_fits_31 at h
  refine aw_iload_n 3 dX9_fits_31 rfl rfl ?_
  refine aw_aload_n 0 dX9_fits_32 rfl rfl ?_
  refine gf_X9_1 fl_X9_19 (lk0 hG) (lr0_1 hG) dX9_fits_33 ?_
  refine gf_X1_0 fl_X9_229 (lk3 hG) dX9_fits_36 ?_
  refine aw_jge 80 dX9_fits_39 (by decide) (fun c_1 => ?_) (fun c_1 => ?_)
  · have h := sw_if.f h c_1
    refine aw_iload_n 2 dX9_fits_80 rfl rfl ?_
    exact aw_iret rfl dX9_fits_81 ⟨rfl, _, rfl, h⟩
  · have h := sw_if.t h c_1
    refine aw_aload_n 0 dX9_fits_42 rfl rfl ?_
    refine gf_X9_7 fl_X9_51 (lk0 hG) (lr0_7 hG) dX9_fits_43 ?_
    refine aw_aload_n 0 dX9_fits_46 rfl rfl ?_
    refine gf_X9_1 fl_X9_19 (lk0 hG) (lr0_1 hG) dX9_fits_47 ?_
    refine aw_iload_n 1 dX9_fits_50 rfl rfl ?_
    refine aw_iload_n 3 dX9_fits_51 rfl rfl ?_
    refine aw_callV wv_X7_allSoIf (M_X7_allSoIf hG  h) ml_X9_326 rfl (by decide) (lk109 hG) rfl rfl (Nat.le_of_ble_eq_true rfl) ⟨rfl, rfl⟩ ⟨Nat.le_of_ble_eq_true rfl, Nat.le_of_ble_eq_true rfl⟩ ⟨Nat.le_refl _, Nat.le_refl _⟩ dX9_fits_52 (aw_ki fun r_2 I_3 J_4 h => ?_)
    refine aw_zeq 74 dX9_fits_55 (by decide) (fun c_5 => ?_) (fun c_5 => ?_)
    · have h := sw_if.t h c_5
      refine aw_sub [0, 1, 2, 3] rfl ?_
      exact t_X9_fits_74 hG  hK31 h
    · have h := sw_if.f h c_5
      refine aw_iload_n 2 dX9_fits_58 rfl rfl ?_
      refine aw_iconst (v := 1) dX9_fits_59 (by decide) ?_
      refine aw_iload_n 3 dX9_fits_60 rfl rfl ?_
      refine aw_iconst (v := (-1)) dX9_fits_61 (by decide) ?_
      refine aw_jne 70 dX9_fits_62 (by decide) (fun c_6 => ?_) (fun c_6 => ?_)
      · have h := sw_if.f h c_6
        refine aw_iload_n 3 dX9_fits_70 rfl rfl ?_
        refine aw_sub [0, 1, 3] rfl ?_
        exact t_X9_fits_71 hG  hK31 h
      · have h := sw_if.t h c_6
        refine aw_bipush (v := 9) dX9_fits_65 (by decide) ?_
        refine aw_goto 71 dX9_fits_67 (by decide) ?_
        refine aw_sub [0, 1, 3] rfl ?_
        exact t_X9_fits_71 hG  hK31 h
set_option maxRecDepth 20000 in
theorem tl_X9_fits_31 {l : Launch} {D : va_G} {cy : Nat → ClassId} {sz : Nat} {G : sw_G} (hG : sw_lay G)   {Q : Int32 → sw_I → sw_J → Prop} : ∀ (n : Nat) (x1 : Int32) (x2 : Int32) (x3 : Int32) (I : sw_I) (J : sw_J), wl_X9_fits_31   Q n x1 x2 x3 I J → AW l D cy sz RX9 cX9_fits 4 (some .int) false rm_X9_fits 0 0 (sw_qi G Q) 0 0 G I J 31 [(0, .ref (sz + 0)), (1, .int x1), (2, .int x2), (3, .int x3)] [] := by
  intro n
  induction n with
  | zero => intro x1 x2 x3 I J h; exact False.elim h
  | succ n ih => intro x1 x2 x3 I J h; exact tb_X9_fits_31 hG  ih h
set_option maxRecDepth 20000 in
theorem t_X9_fits {l : Launch} {D : va_G} {cy : Nat → ClassId} {sz : Nat} {G : sw_G} (hG : sw_lay G)   {Q : Int32 → sw_I → sw_J → Prop} {x1 : Int32} {I : sw_I} {J : sw_J} (h : wp_X9_fits x1 I J Q) : AW l D cy sz RX9 cX9_fits 4 (some .int) false rm_X9_fits 0 0 (sw_qi G Q) 0 0 G I J 0 [(0, .ref (sz + 0)), (1, .int x1)] [] := by
  unfold wp_X9_fits at h
  refine aw_aload_n 0 dX9_fits_0 rfl rfl ?_
  refine gf_X9_1 fl_X9_19 (lk0 hG) (lr0_1 hG) dX9_fits_1 ?_
  refine aw_iload_n 1 dX9_fits_4 rfl rfl ?_
  refine aw_callV wv_X1_hasRider (M_X1_hasRider hG  h) ml_X9_122 rfl (by decide) (lk3 hG) rfl rfl (Nat.le_of_ble_eq_true rfl) ⟨rfl, rfl⟩ ⟨Nat.le_of_ble_eq_true rfl, Nat.le_of_ble_eq_true rfl⟩ ⟨Nat.le_refl _, Nat.le_refl _⟩ dX9_fits_5 (aw_ki fun r_1 I_2 J_3 h => ?_)
  refine aw_zne 13 dX9_fits_8 (by decide) (fun c_4 => ?_) (fun c_4 => ?_)
  · have h := sw_if.f h c_4
    refine aw_aload_n 0 dX9_fits_13 rfl rfl ?_
    refine gf_X9_7 fl_X9_51 (lk0 hG) (lr0_7 hG) dX9_fits_14 ?_
    refine aw_aload_n 0 dX9_fits_17 rfl rfl ?_
    refine gf_X9_2 fl_X9_26 (lk0 hG) (lr0_2 hG) dX9_fits_18 ?_
    refine gf_X3_1 fl_X9_133 (lk13 hG) (lr13_1 hG) dX9_fits_21 ?_
    refine aw_callV wv_X7_believe (M_X7_believe hG ⟨(lk15 hG), (ln15 hG)⟩ h) ml_X9_318 rfl (by decide) (lk109 hG) rfl rfl (Nat.le_of_ble_eq_true rfl) ⟨rfl, rfl⟩ ⟨Nat.le_of_ble_eq_true rfl, Nat.le_of_ble_eq_true rfl⟩ ⟨Nat.le_refl _, Nat.le_refl _⟩ dX9_fits_24 (aw_kv fun I_6 J_7 h => ?_)
    refine aw_iconst (v := 0) dX9_fits_27 (by decide) ?_
    refine aw_istore_n (lv' := [(2, .int 0), (0, .ref (sz + 0)), (1, .int x1)]) dX9_fits_28 rfl (by decide) rfl ?_
    refine aw_iconst (v := (-1)) dX9_fits_29 (by decide) ?_
    refine aw_istore_n (lv' := [(3, .int (-1)), (2, .int 0), (0, .ref (sz + 0)), (1, .int x1)]) dX9_fits_30 rfl (by decide) rfl ?_
    refine aw_sub [2, 3, 1, 0] rfl ?_
    obtain ⟨n_8, h⟩ := h
    exact tl_X9_fits_31 hG   n_8 x1 0 (-1) I_6 J_7 h
  · have h := sw_if.t h c_4
    refine aw_iconst (v := (-1)) dX9_fits_11 (by decide) ?_
    exact aw_iret rfl dX9_fits_12 ⟨rfl, _, rfl, h⟩
theorem M_X9_fits {l : Launch} {D : va_G} {cy : Nat → ClassId} {sz : Nat} {G : sw_G} (hG : sw_lay G)   {Q : Int32 → sw_I → sw_J → Prop} {x1 : Int32} {I : sw_I} {J : sw_J} (h : wp_X9_fits x1 I J Q) : Met l yX9_fits (Cond.code yX9_fits cX9_fits 4 (some .int) :: sw_T) rm_X9_fits (sw_Pc D cy sz [.ref (sz + 0), .int x1] G I J) (sw_Q D cy sz (sw_qi G Q)) 0 0 (fun q => sz ≤ q) :=
  sw_met (by decide) (fun q => by cases q) (Nat.le_of_ble_eq_true rfl) rfl (t_X9_fits hG  h)
-- X9_truly
abbrev rm_X9_truly : Room := { frames := 6, cells := 0, slots := 0, locals := 148 }
def wB_X9_truly_64  (K31 : Int32 → Int32 → Int32 → sw_I → sw_J → Prop) (Q : Int32 → sw_I → sw_J → Prop) (x1 : Int32) (x2 : Int32) (x3 : Int32) (I : sw_I) (J : sw_J) : Prop :=
  ∀ y_1 : Int32, y_1 = x3 + 1 → K31 x1 x2 y_1 I J
def wb_X9_truly_31  (K31 : Int32 → Int32 → Int32 → sw_I → sw_J → Prop) (Q : Int32 → sw_I → sw_J → Prop) (x1 : Int32) (x2 : Int32) (x3 : Int32) (I : sw_I) (J : sw_J) : Prop :=
  sw_if (x3 < (I 3 2)) (wp_X7_soWithOneMore x3 x1 I J (fun r_2 I_3 J_4 => sw_if (r_2 = 0) (wB_X9_truly_64  K31 Q x1 x2 x3 I_3 J_4) (∀ y_6 : Int32, y_6 = x2 ||| ((1 : Int32) <<< (x3 &&& 31)) → wB_X9_truly_64  K31 Q x1 y_6 x3 I_3 J_4))) (Q x2 I J)
def wl_X9_truly_31   (Q : Int32 → sw_I → sw_J → Prop) : Nat → Int32 → Int32 → Int32 → sw_I → sw_J → Prop
  | 0 => fun _ _ _ _ _ => False
  | n + 1 => fun x1 x2 x3 I J => wb_X9_truly_31  (wl_X9_truly_31   Q n) Q x1 x2 x3 I J
def wp_X9_truly (x1 : Int32) (I : sw_I) (J : sw_J) (Q : Int32 → sw_I → sw_J → Prop) : Prop :=
  wp_X1_hasFloor x1 I J (fun r_1 I_2 J_3 => sw_if (r_1 = 0) (Q (-1 : Int32) I_2 J_3) (wp_X7_believe 15 10 I_2 J_3 (fun I_6 J_7 => ∃ n_8 : Nat, wl_X9_truly_31   Q n_8 x1 0 0 I_6 J_7)))
set_option maxRecDepth 20000 in
theorem t_X9_truly_64 {l : Launch} {D : va_G} {cy : Nat → ClassId} {sz : Nat} {G : sw_G} (hG : sw_lay G)   {Q : Int32 → sw_I → sw_J → Prop} {K31 : Int32 → Int32 → Int32 → sw_I → sw_J → Prop} (hK31 : ∀ (x1 : Int32) (x2 : Int32) (x3 : Int32) (I : sw_I) (J : sw_J), K31 x1 x2 x3 I J → AW l D cy sz RX9 cX9_truly 4 (some .int) false rm_X9_truly 0 0 (sw_qi G Q) 0 0 G I J 31 [(0, .ref (sz + 0)), (1, .int x1), (2, .int x2), (3, .int x3)] []) {x1 : Int32} {x2 : Int32} {x3 : Int32} {I : sw_I} {J : sw_J} (h : wB_X9_truly_64  K31 Q x1 x2 x3 I J) : AW l D cy sz RX9 cX9_truly 4 (some .int) false rm_X9_truly 0 0 (sw_qi G Q) 0 0 G I J 64 [(0, .ref (sz + 0)), (1, .int x1), (2, .int x2), (3, .int x3)] [] := by
  unfold wB_X9_truly_64 at h
  obtain ⟨y_1, e_2⟩ : ∃ q : Int32, q = x3 + 1 := ⟨_, rfl⟩
  have h := h y_1 e_2
  refine aw_iinc (lv' := [(3, .int y_1), (0, .ref (sz + 0)), (1, .int x1), (2, .int x2)]) 3 dX9_truly_64 rfl (by rw [e_2]; rfl) (by decide) rfl ?_
  refine aw_goto 31 dX9_truly_67 (by decide) ?_
  refine aw_sub [1, 2, 3, 0] rfl ?_
  exact hK31 x1 x2 y_1 I J h
set_option maxRecDepth 20000 in
theorem tb_X9_truly_31 {l : Launch} {D : va_G} {cy : Nat → ClassId} {sz : Nat} {G : sw_G} (hG : sw_lay G)   {Q : Int32 → sw_I → sw_J → Prop} {K31 : Int32 → Int32 → Int32 → sw_I → sw_J → Prop} (hK31 : ∀ (x1 : Int32) (x2 : Int32) (x3 : Int32) (I : sw_I) (J : sw_J), K31 x1 x2 x3 I J → AW l D cy sz RX9 cX9_truly 4 (some .int) false rm_X9_truly 0 0 (sw_qi G Q) 0 0 G I J 31 [(0, .ref (sz + 0)), (1, .int x1), (2, .int x2), (3, .int x3)] []) {x1 : Int32} {x2 : Int32} {x3 : Int32} {I : sw_I} {J : sw_J} (h : wb_X9_truly_31  K31 Q x1 x2 x3 I J) : AW l D cy sz RX9 cX9_truly 4 (some .int) false rm_X9_truly 0 0 (sw_qi G Q) 0 0 G I J 31 [(0, .ref (sz + 0)), (1, .int x1), (2, .int x2), (3, .int x3)] [] := by
  unfold wb_X9_truly_31 at h
  refine aw_iload_n 3 dX9_truly_31 rfl rfl ?_
  refine aw_aload_n 0 dX9_truly_32 rfl rfl ?_
  refine gf_X9_1 fl_X9_19 (lk0 hG) (lr0_1 hG) dX9_truly_33 ?_
  refine gf_X1_2 fl_X9_154 (lk3 hG) dX9_truly_36 ?_
  refine aw_jge 70 dX9_truly_39 (by decide) (fun c_1 => ?_) (fun c_1 => ?_)
  · have h := sw_if.f h c_1
    refine aw_iload_n 2 dX9_truly_70 rfl rfl ?_
    exact aw_iret rfl dX9_truly_71 ⟨rfl, _, rfl, h⟩
  · have h := sw_if.t h c_1
    refine aw_aload_n 0 dX9_truly_42 rfl rfl ?_
    refine gf_X9_7 fl_X9_51 (lk0 hG) (lr0_7 hG) dX9_truly_43 ?_
    refine aw_aload_n 0 dX9_truly_46 rfl rfl ?_
    refine gf_X9_1 fl_X9_19 (lk0 hG) (lr0_1 hG) dX9_truly_47 ?_
    refine aw_iload_n 3 dX9_truly_50 rfl rfl ?_
    refine aw_iload_n 1 dX9_truly_51 rfl rfl ?_
    refine aw_callV wv_X7_soWithOneMore (M_X7_soWithOneMore hG  h) ml_X9_337 rfl (by decide) (lk109 hG) rfl rfl (Nat.le_of_ble_eq_true rfl) ⟨rfl, rfl⟩ ⟨Nat.le_of_ble_eq_true rfl, Nat.le_of_ble_eq_true rfl⟩ ⟨Nat.le_refl _, Nat.le_refl _⟩ dX9_truly_52 (aw_ki fun r_2 I_3 J_4 h => ?_)
    refine aw_zeq 64 dX9_truly_55 (by decide) (fun c_5 => ?_) (fun c_5 => ?_)
    · have h := sw_if.t h c_5
      refine aw_sub [0, 1, 2, 3] rfl ?_
      exact t_X9_truly_64 hG  hK31 h
    · have h := sw_if.f h c_5
      refine aw_iload_n 2 dX9_truly_58 rfl rfl ?_
      refine aw_iconst (v := 1) dX9_truly_59 (by decide) ?_
      refine aw_iload_n 3 dX9_truly_60 rfl rfl ?_
      refine aw_ishl dX9_truly_61 ?_
      refine aw_ior dX9_truly_62 ?_
      refine aw_topi (fun y_6 e_7 => ?_)
      have h := h y_6 e_7
      refine aw_istore_n (lv' := [(2, .int y_6), (0, .ref (sz + 0)), (1, .int x1), (3, .int x3)]) dX9_truly_63 rfl (by decide) rfl ?_
      refine aw_sub [1, 2, 0, 3] rfl ?_
      exact t_X9_truly_64 hG  hK31 h
set_option maxRecDepth 20000 in
theorem tl_X9_truly_31 {l : Launch} {D : va_G} {cy : Nat → ClassId} {sz : Nat} {G : sw_G} (hG : sw_lay G)   {Q : Int32 → sw_I → sw_J → Prop} : ∀ (n : Nat) (x1 : Int32) (x2 : Int32) (x3 : Int32) (I : sw_I) (J : sw_J), wl_X9_truly_31   Q n x1 x2 x3 I J → AW l D cy sz RX9 cX9_truly 4 (some .int) false rm_X9_truly 0 0 (sw_qi G Q) 0 0 G I J 31 [(0, .ref (sz + 0)), (1, .int x1), (2, .int x2), (3, .int x3)] [] := by
  intro n
  induction n with
  | zero => intro x1 x2 x3 I J h; exact False.elim h
  | succ n ih => intro x1 x2 x3 I J h; exact tb_X9_truly_31 hG  ih h
set_option maxRecDepth 20000 in
theorem t_X9_truly {l : Launch} {D : va_G} {cy : Nat → ClassId} {sz : Nat} {G : sw_G} (hG : sw_lay G)   {Q : Int32 → sw_I → sw_J → Prop} {x1 : Int32} {I : sw_I} {J : sw_J} (h : wp_X9_truly x1 I J Q) : AW l D cy sz RX9 cX9_truly 4 (some .int) false rm_X9_truly 0 0 (sw_qi G Q) 0 0 G I J 0 [(0, .ref (sz + 0)), (1, .int x1)] [] := by
  unfold wp_X9_truly at h
  refine aw_aload_n 0 dX9_truly_0 rfl rfl ?_
  refine gf_X9_1 fl_X9_19 (lk0 hG) (lr0_1 hG) dX9_truly_1 ?_
  refine aw_iload_n 1 dX9_truly_4 rfl rfl ?_
  refine aw_callV wv_X1_hasFloor (M_X1_hasFloor hG  h) ml_X9_148 rfl (by decide) (lk3 hG) rfl rfl (Nat.le_of_ble_eq_true rfl) ⟨rfl, rfl⟩ ⟨Nat.le_of_ble_eq_true rfl, Nat.le_of_ble_eq_true rfl⟩ ⟨Nat.le_refl _, Nat.le_refl _⟩ dX9_truly_5 (aw_ki fun r_1 I_2 J_3 h => ?_)
  refine aw_zne 13 dX9_truly_8 (by decide) (fun c_4 => ?_) (fun c_4 => ?_)
  · have h := sw_if.f h c_4
    refine aw_aload_n 0 dX9_truly_13 rfl rfl ?_
    refine gf_X9_7 fl_X9_51 (lk0 hG) (lr0_7 hG) dX9_truly_14 ?_
    refine aw_aload_n 0 dX9_truly_17 rfl rfl ?_
    refine gf_X9_2 fl_X9_26 (lk0 hG) (lr0_2 hG) dX9_truly_18 ?_
    refine gf_X3_1 fl_X9_133 (lk13 hG) (lr13_1 hG) dX9_truly_21 ?_
    refine aw_callV wv_X7_believe (M_X7_believe hG ⟨(lk15 hG), (ln15 hG)⟩ h) ml_X9_318 rfl (by decide) (lk109 hG) rfl rfl (Nat.le_of_ble_eq_true rfl) ⟨rfl, rfl⟩ ⟨Nat.le_of_ble_eq_true rfl, Nat.le_of_ble_eq_true rfl⟩ ⟨Nat.le_refl _, Nat.le_refl _⟩ dX9_truly_24 (aw_kv fun I_6 J_7 h => ?_)
    refine aw_iconst (v := 0) dX9_truly_27 (by decide) ?_
    refine aw_istore_n (lv' := [(2, .int 0), (0, .ref (sz + 0)), (1, .int x1)]) dX9_truly_28 rfl (by decide) rfl ?_
    refine aw_iconst (v := 0) dX9_truly_29 (by decide) ?_
    refine aw_istore_n (lv' := [(3, .int 0), (2, .int 0), (0, .ref (sz + 0)), (1, .int x1)]) dX9_truly_30 rfl (by decide) rfl ?_
    refine aw_sub [2, 3, 1, 0] rfl ?_
    obtain ⟨n_8, h⟩ := h
    exact tl_X9_truly_31 hG   n_8 x1 0 0 I_6 J_7 h
  · have h := sw_if.t h c_4
    refine aw_iconst (v := (-1)) dX9_truly_11 (by decide) ?_
    exact aw_iret rfl dX9_truly_12 ⟨rfl, _, rfl, h⟩
theorem M_X9_truly {l : Launch} {D : va_G} {cy : Nat → ClassId} {sz : Nat} {G : sw_G} (hG : sw_lay G)   {Q : Int32 → sw_I → sw_J → Prop} {x1 : Int32} {I : sw_I} {J : sw_J} (h : wp_X9_truly x1 I J Q) : Met l yX9_truly (Cond.code yX9_truly cX9_truly 4 (some .int) :: sw_T) rm_X9_truly (sw_Pc D cy sz [.ref (sz + 0), .int x1] G I J) (sw_Q D cy sz (sw_qi G Q)) 0 0 (fun q => sz ≤ q) :=
  sw_met (by decide) (fun q => by cases q) (Nat.le_of_ble_eq_true rfl) rfl (t_X9_truly hG  h)
-- X9_split
abbrev rm_X9_split : Room := { frames := 3, cells := 0, slots := 0, locals := 74 }
def wB_X9_split_111  (K31 : Int32 → Int32 → Int32 → Int32 → Int32 → Int32 → sw_I → sw_J → Prop) (Q : Int32 → sw_I → sw_J → Prop) (x1 : Int32) (x2 : Int32) (x3 : Int32) (x4 : Int32) (x5 : Int32) (x6 : Int32) (I : sw_I) (J : sw_J) : Prop :=
  wp_X9_nextSet x5 x1 I J (fun r_1 I_2 J_3 => ∀ y_4 : Int32, y_4 = x6 + 1 → K31 x1 x2 x3 x4 r_1 y_4 I_2 J_3)
def wb_X9_split_31  (K31 : Int32 → Int32 → Int32 → Int32 → Int32 → Int32 → sw_I → sw_J → Prop) (Q : Int32 → sw_I → sw_J → Prop) (x1 : Int32) (x2 : Int32) (x3 : Int32) (x4 : Int32) (x5 : Int32) (x6 : Int32) (I : sw_I) (J : sw_J) : Prop :=
  sw_if (x6 < x2) (wp_X1_nextStop 13 x5 I J (fun r_20 I_21 J_22 => wp_X1_homeAt x5 r_20 I_21 J_22 (fun r_23 I_24 J_25 => wp_X1_nextStop 13 (x1 &&& (x5 ^^^ (-1 : Int32))) I_24 J_25 (fun r_26 I_27 J_28 => wp_X1_homeAt (x1 &&& (x5 ^^^ (-1 : Int32))) r_26 I_27 J_28 (fun r_29 I_30 J_31 => ∀ y_32 : Int32, y_32 = r_23 ||| r_29 → wp_J6_bitCount_0f7a4 y_32 I_30 J_31 (fun r_34 I_35 J_36 => sw_if (x3 < r_34) (wp_J6_bitCount_0f7a4 y_32 I_35 J_36 (fun r_38 I_39 J_40 => wB_X9_split_111  K31 Q x1 x2 r_38 x5 x5 x6 I_39 J_40)) (wB_X9_split_111  K31 Q x1 x2 x3 x4 x5 x6 I_35 J_36))))))) (wp_X9_clearRow  I J (fun I_3 J_4 => wp_X9_tell x4.toInt64 I_3 J_4 (fun I_6 J_7 => wp_X1_nextStop 13 x4 I_6 J_7 (fun r_8 I_9 J_10 => wp_X9_tell r_8.toInt64 I_9 J_10 (fun I_12 J_13 => wp_X1_nextStop 13 (x1 &&& (x4 ^^^ (-1 : Int32))) I_12 J_13 (fun r_14 I_15 J_16 => wp_X9_tell r_14.toInt64 I_15 J_16 (fun I_18 J_19 => Q x3 I_18 J_19)))))))
def wl_X9_split_31   (Q : Int32 → sw_I → sw_J → Prop) : Nat → Int32 → Int32 → Int32 → Int32 → Int32 → Int32 → sw_I → sw_J → Prop
  | 0 => fun _ _ _ _ _ _ _ _ => False
  | n + 1 => fun x1 x2 x3 x4 x5 x6 I J => wb_X9_split_31  (wl_X9_split_31   Q n) Q x1 x2 x3 x4 x5 x6 I J
def wp_X9_split  (I : sw_I) (J : sw_J) (Q : Int32 → sw_I → sw_J → Prop) : Prop :=
  wp_X3_onFloor 13 (I 13 4) I J (fun r_1 I_2 J_3 => wp_X9_setsOf r_1 I_2 J_3 (fun r_4 I_5 J_6 => ∃ n_7 : Nat, wl_X9_split_31   Q n_7 r_1 r_4 (-1) 0 0 0 I_5 J_6))
set_option maxRecDepth 20000 in
theorem t_X9_split_111 {l : Launch} {D : va_G} {cy : Nat → ClassId} {sz : Nat} {G : sw_G} (hG : sw_lay G)   {Q : Int32 → sw_I → sw_J → Prop} {K31 : Int32 → Int32 → Int32 → Int32 → Int32 → Int32 → sw_I → sw_J → Prop} (hK31 : ∀ (x1 : Int32) (x2 : Int32) (x3 : Int32) (x4 : Int32) (x5 : Int32) (x6 : Int32) (I : sw_I) (J : sw_J), K31 x1 x2 x3 x4 x5 x6 I J → AW l D cy sz RX9 cX9_split 8 (some .int) false rm_X9_split 0 0 (sw_qi G Q) 0 0 G I J 31 [(0, .ref (sz + 0)), (1, .int x1), (2, .int x2), (3, .int x3), (4, .int x4), (5, .int x5), (6, .int x6)] []) {x1 : Int32} {x2 : Int32} {x3 : Int32} {x4 : Int32} {x5 : Int32} {x6 : Int32} {I : sw_I} {J : sw_J} (h : wB_X9_split_111  K31 Q x1 x2 x3 x4 x5 x6 I J) : AW l D cy sz RX9 cX9_split 8 (some .int) false rm_X9_split 0 0 (sw_qi G Q) 0 0 G I J 111 [(0, .ref (sz + 0)), (1, .int x1), (2, .int x2), (3, .int x3), (4, .int x4), (5, .int x5), (6, .int x6)] [] := by
  unfold wB_X9_split_111 at h
  refine aw_iload 5 dX9_split_111 rfl ?_
  refine aw_iload_n 1 dX9_split_113 rfl rfl ?_
  refine aw_callS wv_X9_nextSet (M_X9_nextSet trivial  h) ml_X9_253 rfl rfl (Nat.le_of_ble_eq_true rfl) ⟨rfl, rfl⟩ ⟨Nat.le_of_ble_eq_true rfl, Nat.le_of_ble_eq_true rfl⟩ ⟨Nat.le_refl _, Nat.le_refl _⟩ dX9_split_114 (aw_ki fun r_1 I_2 J_3 h => ?_)
  refine aw_istore (lv' := [(5, .int r_1), (0, .ref (sz + 0)), (1, .int x1), (2, .int x2), (3, .int x3), (4, .int x4), (6, .int x6)]) dX9_split_117 (by decide) rfl ?_
  obtain ⟨y_4, e_5⟩ : ∃ q : Int32, q = x6 + 1 := ⟨_, rfl⟩
  have h := h y_4 e_5
  refine aw_iinc (lv' := [(6, .int y_4), (5, .int r_1), (0, .ref (sz + 0)), (1, .int x1), (2, .int x2), (3, .int x3), (4, .int x4)]) 6 dX9_split_119 rfl (by rw [e_5]; rfl) (by decide) rfl ?_
  refine aw_goto 31 dX9_split_122 (by decide) ?_
  refine aw_sub [2, 3, 4, 5, 6, 1, 0] rfl ?_
  exact hK31 x1 x2 x3 x4 r_1 y_4 I_2 J_3 h
set_option maxRecDepth 20000 in
theorem tb_X9_split_31 {l : Launch} {D : va_G} {cy : Nat → ClassId} {sz : Nat} {G : sw_G} (hG : sw_lay G)   {Q : Int32 → sw_I → sw_J → Prop} {K31 : Int32 → Int32 → Int32 → Int32 → Int32 → Int32 → sw_I → sw_J → Prop} (hK31 : ∀ (x1 : Int32) (x2 : Int32) (x3 : Int32) (x4 : Int32) (x5 : Int32) (x6 : Int32) (I : sw_I) (J : sw_J), K31 x1 x2 x3 x4 x5 x6 I J → AW l D cy sz RX9 cX9_split 8 (some .int) false rm_X9_split 0 0 (sw_qi G Q) 0 0 G I J 31 [(0, .ref (sz + 0)), (1, .int x1), (2, .int x2), (3, .int x3), (4, .int x4), (5, .int x5), (6, .int x6)] []) {x1 : Int32} {x2 : Int32} {x3 : Int32} {x4 : Int32} {x5 : Int32} {x6 : Int32} {I : sw_I} {J : sw_J} (h : wb_X9_split_31  K31 Q x1 x2 x3 x4 x5 x6 I J) : AW l D cy sz RX9 cX9_split 8 (some .int) false rm_X9_split 0 0 (sw_qi G Q) 0 0 G I J 31 [(0, .ref (sz + 0)), (1, .int x1), (2, .int x2), (3, .int x3), (4, .int x4), (5, .int x5), (6, .int x6)] [] := by
  unfold wb_X9_split_31 at h
  refine aw_iload 6 dX9_split_31 rfl ?_
  refine aw_iload_n 2 dX9_split_33 rfl rfl ?_
  refine aw_jge 125 dX9_split_34 (by decide) (fun c_1 => ?_) (fun c_1 => ?_)
  · have h := sw_if.f h c_1
    refine aw_aload_n 0 dX9_split_125 rfl rfl ?_
    refine aw_callV wv_X9_clearRow (M_X9_clearRow hG  h) ml_X9_192 rfl (by decide) (lk0 hG) rfl rfl (Nat.le_of_ble_eq_true rfl) ⟨rfl, rfl⟩ ⟨Nat.le_of_ble_eq_true rfl, Nat.le_of_ble_eq_true rfl⟩ ⟨Nat.le_refl _, Nat.le_refl _⟩ dX9_split_126 (aw_kv fun I_3 J_4 h => ?_)
    refine aw_aload_n 0 dX9_split_129 rfl rfl ?_
    refine aw_iload 4 dX9_split_130 rfl ?_
    refine aw_i2l dX9_split_132 ?_
    refine aw_callV wv_X9_tell (M_X9_tell hG  h) ml_X9_195 rfl (by decide) (lk0 hG) rfl rfl (Nat.le_of_ble_eq_true rfl) ⟨rfl, rfl⟩ ⟨Nat.le_of_ble_eq_true rfl, Nat.le_of_ble_eq_true rfl⟩ ⟨Nat.le_refl _, Nat.le_refl _⟩ dX9_split_133 (aw_kv fun I_6 J_7 h => ?_)
    refine aw_aload_n 0 dX9_split_136 rfl rfl ?_
    refine aw_aload_n 0 dX9_split_137 rfl rfl ?_
    refine gf_X9_1 fl_X9_19 (lk0 hG) (lr0_1 hG) dX9_split_138 ?_
    refine aw_aload_n 0 dX9_split_141 rfl rfl ?_
    refine gf_X9_2 fl_X9_26 (lk0 hG) (lr0_2 hG) dX9_split_142 ?_
    refine aw_iload 4 dX9_split_145 rfl ?_
    refine aw_callV wv_X1_nextStop (M_X1_nextStop hG (lm13 hG) h) ml_X9_218 rfl (by decide) (lk3 hG) rfl rfl (Nat.le_of_ble_eq_true rfl) ⟨rfl, rfl⟩ ⟨Nat.le_of_ble_eq_true rfl, Nat.le_of_ble_eq_true rfl⟩ ⟨Nat.le_refl _, Nat.le_refl _⟩ dX9_split_147 (aw_ki fun r_8 I_9 J_10 h => ?_)
    refine aw_i2l dX9_split_150 ?_
    refine aw_callV wv_X9_tell (M_X9_tell hG  h) ml_X9_195 rfl (by decide) (lk0 hG) rfl rfl (Nat.le_of_ble_eq_true rfl) ⟨rfl, rfl⟩ ⟨Nat.le_of_ble_eq_true rfl, Nat.le_of_ble_eq_true rfl⟩ ⟨Nat.le_refl _, Nat.le_refl _⟩ dX9_split_151 (aw_kv fun I_12 J_13 h => ?_)
    refine aw_aload_n 0 dX9_split_154 rfl rfl ?_
    refine aw_aload_n 0 dX9_split_155 rfl rfl ?_
    refine gf_X9_1 fl_X9_19 (lk0 hG) (lr0_1 hG) dX9_split_156 ?_
    refine aw_aload_n 0 dX9_split_159 rfl rfl ?_
    refine gf_X9_2 fl_X9_26 (lk0 hG) (lr0_2 hG) dX9_split_160 ?_
    refine aw_iload_n 1 dX9_split_163 rfl rfl ?_
    refine aw_iload 4 dX9_split_164 rfl ?_
    refine aw_iconst (v := (-1)) dX9_split_166 (by decide) ?_
    refine aw_ixor dX9_split_167 ?_
    refine aw_iand dX9_split_168 ?_
    refine aw_callV wv_X1_nextStop (M_X1_nextStop hG (lm13 hG) h) ml_X9_218 rfl (by decide) (lk3 hG) rfl rfl (Nat.le_of_ble_eq_true rfl) ⟨rfl, rfl⟩ ⟨Nat.le_of_ble_eq_true rfl, Nat.le_of_ble_eq_true rfl⟩ ⟨Nat.le_refl _, Nat.le_refl _⟩ dX9_split_169 (aw_ki fun r_14 I_15 J_16 h => ?_)
    refine aw_i2l dX9_split_172 ?_
    refine aw_callV wv_X9_tell (M_X9_tell hG  h) ml_X9_195 rfl (by decide) (lk0 hG) rfl rfl (Nat.le_of_ble_eq_true rfl) ⟨rfl, rfl⟩ ⟨Nat.le_of_ble_eq_true rfl, Nat.le_of_ble_eq_true rfl⟩ ⟨Nat.le_refl _, Nat.le_refl _⟩ dX9_split_173 (aw_kv fun I_18 J_19 h => ?_)
    refine aw_iload_n 3 dX9_split_176 rfl rfl ?_
    exact aw_iret rfl dX9_split_177 ⟨rfl, _, rfl, h⟩
  · have h := sw_if.t h c_1
    refine aw_aload_n 0 dX9_split_37 rfl rfl ?_
    refine gf_X9_1 fl_X9_19 (lk0 hG) (lr0_1 hG) dX9_split_38 ?_
    refine aw_iload 5 dX9_split_41 rfl ?_
    refine aw_aload_n 0 dX9_split_43 rfl rfl ?_
    refine gf_X9_1 fl_X9_19 (lk0 hG) (lr0_1 hG) dX9_split_44 ?_
    refine aw_aload_n 0 dX9_split_47 rfl rfl ?_
    refine gf_X9_2 fl_X9_26 (lk0 hG) (lr0_2 hG) dX9_split_48 ?_
    refine aw_iload 5 dX9_split_51 rfl ?_
    refine aw_callV wv_X1_nextStop (M_X1_nextStop hG (lm13 hG) h) ml_X9_218 rfl (by decide) (lk3 hG) rfl rfl (Nat.le_of_ble_eq_true rfl) ⟨rfl, rfl⟩ ⟨Nat.le_of_ble_eq_true rfl, Nat.le_of_ble_eq_true rfl⟩ ⟨Nat.le_refl _, Nat.le_refl _⟩ dX9_split_53 (aw_ki fun r_20 I_21 J_22 h => ?_)
    refine aw_callV wv_X1_homeAt (M_X1_homeAt hG  h) ml_X9_348 rfl (by decide) (lk3 hG) rfl rfl (Nat.le_of_ble_eq_true rfl) ⟨rfl, rfl⟩ ⟨Nat.le_of_ble_eq_true rfl, Nat.le_of_ble_eq_true rfl⟩ ⟨Nat.le_refl _, Nat.le_refl _⟩ dX9_split_56 (aw_ki fun r_23 I_24 J_25 h => ?_)
    refine aw_aload_n 0 dX9_split_59 rfl rfl ?_
    refine gf_X9_1 fl_X9_19 (lk0 hG) (lr0_1 hG) dX9_split_60 ?_
    refine aw_iload_n 1 dX9_split_63 rfl rfl ?_
    refine aw_iload 5 dX9_split_64 rfl ?_
    refine aw_iconst (v := (-1)) dX9_split_66 (by decide) ?_
    refine aw_ixor dX9_split_67 ?_
    refine aw_iand dX9_split_68 ?_
    refine aw_aload_n 0 dX9_split_69 rfl rfl ?_
    refine gf_X9_1 fl_X9_19 (lk0 hG) (lr0_1 hG) dX9_split_70 ?_
    refine aw_aload_n 0 dX9_split_73 rfl rfl ?_
    refine gf_X9_2 fl_X9_26 (lk0 hG) (lr0_2 hG) dX9_split_74 ?_
    refine aw_iload_n 1 dX9_split_77 rfl rfl ?_
    refine aw_iload 5 dX9_split_78 rfl ?_
    refine aw_iconst (v := (-1)) dX9_split_80 (by decide) ?_
    refine aw_ixor dX9_split_81 ?_
    refine aw_iand dX9_split_82 ?_
    refine aw_callV wv_X1_nextStop (M_X1_nextStop hG (lm13 hG) h) ml_X9_218 rfl (by decide) (lk3 hG) rfl rfl (Nat.le_of_ble_eq_true rfl) ⟨rfl, rfl⟩ ⟨Nat.le_of_ble_eq_true rfl, Nat.le_of_ble_eq_true rfl⟩ ⟨Nat.le_refl _, Nat.le_refl _⟩ dX9_split_83 (aw_ki fun r_26 I_27 J_28 h => ?_)
    refine aw_callV wv_X1_homeAt (M_X1_homeAt hG  h) ml_X9_348 rfl (by decide) (lk3 hG) rfl rfl (Nat.le_of_ble_eq_true rfl) ⟨rfl, rfl⟩ ⟨Nat.le_of_ble_eq_true rfl, Nat.le_of_ble_eq_true rfl⟩ ⟨Nat.le_refl _, Nat.le_refl _⟩ dX9_split_86 (aw_ki fun r_29 I_30 J_31 h => ?_)
    refine aw_ior dX9_split_89 ?_
    refine aw_topi (fun y_32 e_33 => ?_)
    have h := h y_32 e_33
    refine aw_istore (lv' := [(7, .int y_32), (0, .ref (sz + 0)), (1, .int x1), (2, .int x2), (3, .int x3), (4, .int x4), (5, .int x5), (6, .int x6)]) dX9_split_90 (by decide) rfl ?_
    refine aw_iload 0 dX9_split_92 rfl ?_
    refine aw_callS wv_J6_bitCount_0f7a4 (M_J6_bitCount_0f7a4 trivial  h) ml_X9_272 rfl rfl (Nat.le_of_ble_eq_true rfl) ⟨rfl, rfl⟩ ⟨Nat.le_of_ble_eq_true rfl, Nat.le_of_ble_eq_true rfl⟩ ⟨Nat.le_refl _, Nat.le_refl _⟩ dX9_split_94 (aw_ki fun r_34 I_35 J_36 h => ?_)
    refine aw_iload_n 4 dX9_split_97 rfl rfl ?_
    refine aw_jle 111 dX9_split_98 (by decide) (fun c_37 => ?_) (fun c_37 => ?_)
    · have h := sw_if.f h c_37
      refine aw_sub [1, 2, 3, 4, 5, 6, 7] rfl ?_
      exact t_X9_split_111 hG  hK31 h
    · have h := sw_if.t h c_37
      refine aw_iload 0 dX9_split_101 rfl ?_
      refine aw_callS wv_J6_bitCount_0f7a4 (M_J6_bitCount_0f7a4 trivial  h) ml_X9_272 rfl rfl (Nat.le_of_ble_eq_true rfl) ⟨rfl, rfl⟩ ⟨Nat.le_of_ble_eq_true rfl, Nat.le_of_ble_eq_true rfl⟩ ⟨Nat.le_refl _, Nat.le_refl _⟩ dX9_split_103 (aw_ki fun r_38 I_39 J_40 h => ?_)
      refine aw_istore_n (lv' := [(3, .int r_38), (7, .int y_32), (0, .ref (sz + 0)), (1, .int x1), (2, .int x2), (4, .int x4), (5, .int x5), (6, .int x6)]) dX9_split_106 rfl (by decide) rfl ?_
      refine aw_iload 6 dX9_split_107 rfl ?_
      refine aw_istore (lv' := [(4, .int x5), (3, .int r_38), (7, .int y_32), (0, .ref (sz + 0)), (1, .int x1), (2, .int x2), (5, .int x5), (6, .int x6)]) dX9_split_109 (by decide) rfl ?_
      refine aw_sub [3, 4, 5, 1, 0, 6, 7] rfl ?_
      exact t_X9_split_111 hG  hK31 h
set_option maxRecDepth 20000 in
theorem tl_X9_split_31 {l : Launch} {D : va_G} {cy : Nat → ClassId} {sz : Nat} {G : sw_G} (hG : sw_lay G)   {Q : Int32 → sw_I → sw_J → Prop} : ∀ (n : Nat) (x1 : Int32) (x2 : Int32) (x3 : Int32) (x4 : Int32) (x5 : Int32) (x6 : Int32) (I : sw_I) (J : sw_J), wl_X9_split_31   Q n x1 x2 x3 x4 x5 x6 I J → AW l D cy sz RX9 cX9_split 8 (some .int) false rm_X9_split 0 0 (sw_qi G Q) 0 0 G I J 31 [(0, .ref (sz + 0)), (1, .int x1), (2, .int x2), (3, .int x3), (4, .int x4), (5, .int x5), (6, .int x6)] [] := by
  intro n
  induction n with
  | zero => intro x1 x2 x3 x4 x5 x6 I J h; exact False.elim h
  | succ n ih => intro x1 x2 x3 x4 x5 x6 I J h; exact tb_X9_split_31 hG  ih h
set_option maxRecDepth 20000 in
theorem t_X9_split {l : Launch} {D : va_G} {cy : Nat → ClassId} {sz : Nat} {G : sw_G} (hG : sw_lay G)   {Q : Int32 → sw_I → sw_J → Prop}  {I : sw_I} {J : sw_J} (h : wp_X9_split  I J Q) : AW l D cy sz RX9 cX9_split 8 (some .int) false rm_X9_split 0 0 (sw_qi G Q) 0 0 G I J 0 [(0, .ref (sz + 0))] [] := by
  unfold wp_X9_split at h
  refine aw_aload_n 0 dX9_split_0 rfl rfl ?_
  refine gf_X9_2 fl_X9_26 (lk0 hG) (lr0_2 hG) dX9_split_1 ?_
  refine aw_aload_n 0 dX9_split_4 rfl rfl ?_
  refine gf_X9_2 fl_X9_26 (lk0 hG) (lr0_2 hG) dX9_split_5 ?_
  refine gf_X3_4 fl_X9_97 (lk13 hG) dX9_split_8 ?_
  refine aw_callV wv_X3_onFloor (M_X3_onFloor trivial (lm13 hG) h) ml_X9_222 rfl (by decide) (lk13 hG) rfl rfl (Nat.le_of_ble_eq_true rfl) ⟨rfl, rfl⟩ ⟨Nat.le_of_ble_eq_true rfl, Nat.le_of_ble_eq_true rfl⟩ ⟨Nat.le_refl _, Nat.le_refl _⟩ dX9_split_11 (aw_ki fun r_1 I_2 J_3 h => ?_)
  refine aw_istore_n (lv' := [(1, .int r_1), (0, .ref (sz + 0))]) dX9_split_14 rfl (by decide) rfl ?_
  refine aw_iload_n 0 dX9_split_15 rfl rfl ?_
  refine aw_callS wv_X9_setsOf (M_X9_setsOf trivial  h) ml_X9_246 rfl rfl (Nat.le_of_ble_eq_true rfl) ⟨rfl, rfl⟩ ⟨Nat.le_of_ble_eq_true rfl, Nat.le_of_ble_eq_true rfl⟩ ⟨Nat.le_refl _, Nat.le_refl _⟩ dX9_split_16 (aw_ki fun r_4 I_5 J_6 h => ?_)
  refine aw_istore_n (lv' := [(2, .int r_4), (1, .int r_1), (0, .ref (sz + 0))]) dX9_split_19 rfl (by decide) rfl ?_
  refine aw_iconst (v := (-1)) dX9_split_20 (by decide) ?_
  refine aw_istore_n (lv' := [(3, .int (-1)), (2, .int r_4), (1, .int r_1), (0, .ref (sz + 0))]) dX9_split_21 rfl (by decide) rfl ?_
  refine aw_iconst (v := 0) dX9_split_22 (by decide) ?_
  refine aw_istore (lv' := [(4, .int 0), (3, .int (-1)), (2, .int r_4), (1, .int r_1), (0, .ref (sz + 0))]) dX9_split_23 (by decide) rfl ?_
  refine aw_iconst (v := 0) dX9_split_25 (by decide) ?_
  refine aw_istore (lv' := [(5, .int 0), (4, .int 0), (3, .int (-1)), (2, .int r_4), (1, .int r_1), (0, .ref (sz + 0))]) dX9_split_26 (by decide) rfl ?_
  refine aw_iconst (v := 0) dX9_split_28 (by decide) ?_
  refine aw_istore (lv' := [(6, .int 0), (5, .int 0), (4, .int 0), (3, .int (-1)), (2, .int r_4), (1, .int r_1), (0, .ref (sz + 0))]) dX9_split_29 (by decide) rfl ?_
  refine aw_sub [6, 5, 4, 3, 2, 1, 0] rfl ?_
  obtain ⟨n_7, h⟩ := h
  exact tl_X9_split_31 hG   n_7 r_1 r_4 (-1) 0 0 0 I_5 J_6 h
theorem M_X9_split {l : Launch} {D : va_G} {cy : Nat → ClassId} {sz : Nat} {G : sw_G} (hG : sw_lay G)   {Q : Int32 → sw_I → sw_J → Prop}  {I : sw_I} {J : sw_J} (h : wp_X9_split  I J Q) : Met l yX9_split (Cond.code yX9_split cX9_split 8 (some .int) :: sw_T) rm_X9_split (sw_Pc D cy sz [.ref (sz + 0)] G I J) (sw_Q D cy sz (sw_qi G Q)) 0 0 (fun q => sz ≤ q) :=
  sw_met (by decide) (fun q => by cases q) (Nat.le_of_ble_eq_true rfl) rfl (t_X9_split hG  h)
-- X9_fewestMoved
abbrev rm_X9_fewestMoved : Room := { frames := 3, cells := 0, slots := 0, locals := 74 }
def wB_X9_fewestMoved_84  (K31 : Int32 → Int32 → Int32 → Int32 → Int32 → Int32 → Int32 → sw_I → sw_J → Prop) (Q : Int32 → sw_I → sw_J → Prop) (x1 : Int32) (x2 : Int32) (x3 : Int32) (x4 : Int32) (x5 : Int32) (x6 : Int32) (x7 : Int32) (I : sw_I) (J : sw_J) : Prop :=
  wp_X9_nextSet x6 x2 I J (fun r_1 I_2 J_3 => ∀ y_4 : Int32, y_4 = x7 + 1 → K31 x1 x2 x3 x4 x5 r_1 y_4 I_2 J_3)
def wb_X9_fewestMoved_31  (K31 : Int32 → Int32 → Int32 → Int32 → Int32 → Int32 → Int32 → sw_I → sw_J → Prop) (Q : Int32 → sw_I → sw_J → Prop) (x1 : Int32) (x2 : Int32) (x3 : Int32) (x4 : Int32) (x5 : Int32) (x6 : Int32) (x7 : Int32) (I : sw_I) (J : sw_J) : Prop :=
  sw_if (x7 < x3) (wp_J6_bitCount_0f7a4 x6 I J (fun r_9 I_10 J_11 => sw_if (r_9 < x4) (wp_X1_nextStop 13 ((I_10 13 3) ^^^ x6) I_10 J_11 (fun r_13 I_14 J_15 => sw_if (r_13 = x1) (wB_X9_fewestMoved_84  K31 Q x1 x2 x3 r_9 x6 x6 x7 I_14 J_15) (wB_X9_fewestMoved_84  K31 Q x1 x2 x3 x4 x5 x6 x7 I_14 J_15))) (wB_X9_fewestMoved_84  K31 Q x1 x2 x3 x4 x5 x6 x7 I_10 J_11))) (sw_if ((10 : Int32) < x4) (Q (-2 : Int32) I J) (wp_X9_clearRow  I J (fun I_4 J_5 => wp_X9_tell x5.toInt64 I_4 J_5 (fun I_7 J_8 => Q x4 I_7 J_8))))
def wl_X9_fewestMoved_31   (Q : Int32 → sw_I → sw_J → Prop) : Nat → Int32 → Int32 → Int32 → Int32 → Int32 → Int32 → Int32 → sw_I → sw_J → Prop
  | 0 => fun _ _ _ _ _ _ _ _ _ => False
  | n + 1 => fun x1 x2 x3 x4 x5 x6 x7 I J => wb_X9_fewestMoved_31  (wl_X9_fewestMoved_31   Q n) Q x1 x2 x3 x4 x5 x6 x7 I J
def wp_X9_fewestMoved (x1 : Int32) (x2 : Int32) (I : sw_I) (J : sw_J) (Q : Int32 → sw_I → sw_J → Prop) : Prop :=
  wp_X1_hasFloor x1 I J (fun r_1 I_2 J_3 => sw_if (r_1 = 0) (Q (-1 : Int32) I_2 J_3) (wp_X9_setsOf x2 I_2 J_3 (fun r_5 I_6 J_7 => ∃ n_8 : Nat, wl_X9_fewestMoved_31   Q n_8 x1 x2 r_5 11 0 0 0 I_6 J_7)))
set_option maxRecDepth 20000 in
theorem t_X9_fewestMoved_84 {l : Launch} {D : va_G} {cy : Nat → ClassId} {sz : Nat} {G : sw_G} (hG : sw_lay G)   {Q : Int32 → sw_I → sw_J → Prop} {K31 : Int32 → Int32 → Int32 → Int32 → Int32 → Int32 → Int32 → sw_I → sw_J → Prop} (hK31 : ∀ (x1 : Int32) (x2 : Int32) (x3 : Int32) (x4 : Int32) (x5 : Int32) (x6 : Int32) (x7 : Int32) (I : sw_I) (J : sw_J), K31 x1 x2 x3 x4 x5 x6 x7 I J → AW l D cy sz RX9 cX9_fewestMoved 9 (some .int) false rm_X9_fewestMoved 0 0 (sw_qi G Q) 0 0 G I J 31 [(0, .ref (sz + 0)), (1, .int x1), (2, .int x2), (3, .int x3), (4, .int x4), (5, .int x5), (6, .int x6), (7, .int x7)] []) {x1 : Int32} {x2 : Int32} {x3 : Int32} {x4 : Int32} {x5 : Int32} {x6 : Int32} {x7 : Int32} {I : sw_I} {J : sw_J} (h : wB_X9_fewestMoved_84  K31 Q x1 x2 x3 x4 x5 x6 x7 I J) : AW l D cy sz RX9 cX9_fewestMoved 9 (some .int) false rm_X9_fewestMoved 0 0 (sw_qi G Q) 0 0 G I J 84 [(0, .ref (sz + 0)), (1, .int x1), (2, .int x2), (3, .int x3), (4, .int x4), (5, .int x5), (6, .int x6), (7, .int x7)] [] := by
  unfold wB_X9_fewestMoved_84 at h
  refine aw_iload 6 dX9_fewestMoved_84 rfl ?_
  refine aw_iload_n 2 dX9_fewestMoved_86 rfl rfl ?_
  refine aw_callS wv_X9_nextSet (M_X9_nextSet trivial  h) ml_X9_253 rfl rfl (Nat.le_of_ble_eq_true rfl) ⟨rfl, rfl⟩ ⟨Nat.le_of_ble_eq_true rfl, Nat.le_of_ble_eq_true rfl⟩ ⟨Nat.le_refl _, Nat.le_refl _⟩ dX9_fewestMoved_87 (aw_ki fun r_1 I_2 J_3 h => ?_)
  refine aw_istore (lv' := [(6, .int r_1), (0, .ref (sz + 0)), (1, .int x1), (2, .int x2), (3, .int x3), (4, .int x4), (5, .int x5), (7, .int x7)]) dX9_fewestMoved_90 (by decide) rfl ?_
  obtain ⟨y_4, e_5⟩ : ∃ q : Int32, q = x7 + 1 := ⟨_, rfl⟩
  have h := h y_4 e_5
  refine aw_iinc (lv' := [(7, .int y_4), (6, .int r_1), (0, .ref (sz + 0)), (1, .int x1), (2, .int x2), (3, .int x3), (4, .int x4), (5, .int x5)]) 7 dX9_fewestMoved_92 rfl (by rw [e_5]; rfl) (by decide) rfl ?_
  refine aw_goto 31 dX9_fewestMoved_95 (by decide) ?_
  refine aw_sub [2, 3, 4, 5, 6, 7, 1, 0] rfl ?_
  exact hK31 x1 x2 x3 x4 x5 r_1 y_4 I_2 J_3 h
set_option maxRecDepth 20000 in
theorem tb_X9_fewestMoved_31 {l : Launch} {D : va_G} {cy : Nat → ClassId} {sz : Nat} {G : sw_G} (hG : sw_lay G)   {Q : Int32 → sw_I → sw_J → Prop} {K31 : Int32 → Int32 → Int32 → Int32 → Int32 → Int32 → Int32 → sw_I → sw_J → Prop} (hK31 : ∀ (x1 : Int32) (x2 : Int32) (x3 : Int32) (x4 : Int32) (x5 : Int32) (x6 : Int32) (x7 : Int32) (I : sw_I) (J : sw_J), K31 x1 x2 x3 x4 x5 x6 x7 I J → AW l D cy sz RX9 cX9_fewestMoved 9 (some .int) false rm_X9_fewestMoved 0 0 (sw_qi G Q) 0 0 G I J 31 [(0, .ref (sz + 0)), (1, .int x1), (2, .int x2), (3, .int x3), (4, .int x4), (5, .int x5), (6, .int x6), (7, .int x7)] []) {x1 : Int32} {x2 : Int32} {x3 : Int32} {x4 : Int32} {x5 : Int32} {x6 : Int32} {x7 : Int32} {I : sw_I} {J : sw_J} (h : wb_X9_fewestMoved_31  K31 Q x1 x2 x3 x4 x5 x6 x7 I J) : AW l D cy sz RX9 cX9_fewestMoved 9 (some .int) false rm_X9_fewestMoved 0 0 (sw_qi G Q) 0 0 G I J 31 [(0, .ref (sz + 0)), (1, .int x1), (2, .int x2), (3, .int x3), (4, .int x4), (5, .int x5), (6, .int x6), (7, .int x7)] [] := by
  unfold wb_X9_fewestMoved_31 at h
  refine aw_iload 7 dX9_fewestMoved_31 rfl ?_
  refine aw_iload_n 3 dX9_fewestMoved_33 rfl rfl ?_
  refine aw_jge 98 dX9_fewestMoved_34 (by decide) (fun c_1 => ?_) (fun c_1 => ?_)
  · have h := sw_if.f h c_1
    refine aw_iload 4 dX9_fewestMoved_98 rfl ?_
    refine aw_bipush (v := 10) dX9_fewestMoved_100 (by decide) ?_
    refine aw_jle 108 dX9_fewestMoved_102 (by decide) (fun c_2 => ?_) (fun c_2 => ?_)
    · have h := sw_if.f h c_2
      refine aw_aload_n 0 dX9_fewestMoved_108 rfl rfl ?_
      refine aw_callV wv_X9_clearRow (M_X9_clearRow hG  h) ml_X9_192 rfl (by decide) (lk0 hG) rfl rfl (Nat.le_of_ble_eq_true rfl) ⟨rfl, rfl⟩ ⟨Nat.le_of_ble_eq_true rfl, Nat.le_of_ble_eq_true rfl⟩ ⟨Nat.le_refl _, Nat.le_refl _⟩ dX9_fewestMoved_109 (aw_kv fun I_4 J_5 h => ?_)
      refine aw_aload_n 0 dX9_fewestMoved_112 rfl rfl ?_
      refine aw_iload 5 dX9_fewestMoved_113 rfl ?_
      refine aw_i2l dX9_fewestMoved_115 ?_
      refine aw_callV wv_X9_tell (M_X9_tell hG  h) ml_X9_195 rfl (by decide) (lk0 hG) rfl rfl (Nat.le_of_ble_eq_true rfl) ⟨rfl, rfl⟩ ⟨Nat.le_of_ble_eq_true rfl, Nat.le_of_ble_eq_true rfl⟩ ⟨Nat.le_refl _, Nat.le_refl _⟩ dX9_fewestMoved_116 (aw_kv fun I_7 J_8 h => ?_)
      refine aw_iload 4 dX9_fewestMoved_119 rfl ?_
      exact aw_iret rfl dX9_fewestMoved_121 ⟨rfl, _, rfl, h⟩
    · have h := sw_if.t h c_2
      refine aw_bipush (v := (-2)) dX9_fewestMoved_105 (by decide) ?_
      exact aw_iret rfl dX9_fewestMoved_107 ⟨rfl, _, rfl, h⟩
  · have h := sw_if.t h c_1
    refine aw_iload 6 dX9_fewestMoved_37 rfl ?_
    refine aw_callS wv_J6_bitCount_0f7a4 (M_J6_bitCount_0f7a4 trivial  h) ml_X9_272 rfl rfl (Nat.le_of_ble_eq_true rfl) ⟨rfl, rfl⟩ ⟨Nat.le_of_ble_eq_true rfl, Nat.le_of_ble_eq_true rfl⟩ ⟨Nat.le_refl _, Nat.le_refl _⟩ dX9_fewestMoved_39 (aw_ki fun r_9 I_10 J_11 h => ?_)
    refine aw_istore (lv' := [(8, .int r_9), (0, .ref (sz + 0)), (1, .int x1), (2, .int x2), (3, .int x3), (4, .int x4), (5, .int x5), (6, .int x6), (7, .int x7)]) dX9_fewestMoved_42 (by decide) rfl ?_
    refine aw_iload 0 dX9_fewestMoved_44 rfl ?_
    refine aw_iload 5 dX9_fewestMoved_46 rfl ?_
    refine aw_jge 84 dX9_fewestMoved_48 (by decide) (fun c_12 => ?_) (fun c_12 => ?_)
    · have h := sw_if.f h c_12
      refine aw_sub [1, 2, 3, 4, 5, 6, 7, 8] rfl ?_
      exact t_X9_fewestMoved_84 hG  hK31 h
    · have h := sw_if.t h c_12
      refine aw_aload_n 1 dX9_fewestMoved_51 rfl rfl ?_
      refine gf_X9_1 fl_X9_19 (lk0 hG) (lr0_1 hG) dX9_fewestMoved_52 ?_
      refine aw_aload_n 1 dX9_fewestMoved_55 rfl rfl ?_
      refine gf_X9_2 fl_X9_26 (lk0 hG) (lr0_2 hG) dX9_fewestMoved_56 ?_
      refine aw_aload_n 1 dX9_fewestMoved_59 rfl rfl ?_
      refine gf_X9_2 fl_X9_26 (lk0 hG) (lr0_2 hG) dX9_fewestMoved_60 ?_
      refine gf_X3_3 fl_X9_142 (lk13 hG) dX9_fewestMoved_63 ?_
      refine aw_iload 7 dX9_fewestMoved_66 rfl ?_
      refine aw_ixor dX9_fewestMoved_68 ?_
      refine aw_callV wv_X1_nextStop (M_X1_nextStop hG (lm13 hG) h) ml_X9_218 rfl (by decide) (lk3 hG) rfl rfl (Nat.le_of_ble_eq_true rfl) ⟨rfl, rfl⟩ ⟨Nat.le_of_ble_eq_true rfl, Nat.le_of_ble_eq_true rfl⟩ ⟨Nat.le_refl _, Nat.le_refl _⟩ dX9_fewestMoved_69 (aw_ki fun r_13 I_14 J_15 h => ?_)
      refine aw_iload_n 2 dX9_fewestMoved_72 rfl rfl ?_
      refine aw_jne 84 dX9_fewestMoved_73 (by decide) (fun c_16 => ?_) (fun c_16 => ?_)
      · have h := sw_if.f h c_16
        refine aw_sub [1, 2, 3, 4, 5, 6, 7, 8] rfl ?_
        exact t_X9_fewestMoved_84 hG  hK31 h
      · have h := sw_if.t h c_16
        refine aw_iload 0 dX9_fewestMoved_76 rfl ?_
        refine aw_istore (lv' := [(4, .int r_9), (8, .int r_9), (0, .ref (sz + 0)), (1, .int x1), (2, .int x2), (3, .int x3), (5, .int x5), (6, .int x6), (7, .int x7)]) dX9_fewestMoved_78 (by decide) rfl ?_
        refine aw_iload 7 dX9_fewestMoved_80 rfl ?_
        refine aw_istore (lv' := [(5, .int x6), (4, .int r_9), (8, .int r_9), (0, .ref (sz + 0)), (1, .int x1), (2, .int x2), (3, .int x3), (6, .int x6), (7, .int x7)]) dX9_fewestMoved_82 (by decide) rfl ?_
        refine aw_sub [3, 4, 5, 6, 1, 0, 7, 8] rfl ?_
        exact t_X9_fewestMoved_84 hG  hK31 h
set_option maxRecDepth 20000 in
theorem tl_X9_fewestMoved_31 {l : Launch} {D : va_G} {cy : Nat → ClassId} {sz : Nat} {G : sw_G} (hG : sw_lay G)   {Q : Int32 → sw_I → sw_J → Prop} : ∀ (n : Nat) (x1 : Int32) (x2 : Int32) (x3 : Int32) (x4 : Int32) (x5 : Int32) (x6 : Int32) (x7 : Int32) (I : sw_I) (J : sw_J), wl_X9_fewestMoved_31   Q n x1 x2 x3 x4 x5 x6 x7 I J → AW l D cy sz RX9 cX9_fewestMoved 9 (some .int) false rm_X9_fewestMoved 0 0 (sw_qi G Q) 0 0 G I J 31 [(0, .ref (sz + 0)), (1, .int x1), (2, .int x2), (3, .int x3), (4, .int x4), (5, .int x5), (6, .int x6), (7, .int x7)] [] := by
  intro n
  induction n with
  | zero => intro x1 x2 x3 x4 x5 x6 x7 I J h; exact False.elim h
  | succ n ih => intro x1 x2 x3 x4 x5 x6 x7 I J h; exact tb_X9_fewestMoved_31 hG  ih h
set_option maxRecDepth 20000 in
theorem t_X9_fewestMoved {l : Launch} {D : va_G} {cy : Nat → ClassId} {sz : Nat} {G : sw_G} (hG : sw_lay G)   {Q : Int32 → sw_I → sw_J → Prop} {x1 : Int32} {x2 : Int32} {I : sw_I} {J : sw_J} (h : wp_X9_fewestMoved x1 x2 I J Q) : AW l D cy sz RX9 cX9_fewestMoved 9 (some .int) false rm_X9_fewestMoved 0 0 (sw_qi G Q) 0 0 G I J 0 [(0, .ref (sz + 0)), (1, .int x1), (2, .int x2)] [] := by
  unfold wp_X9_fewestMoved at h
  refine aw_aload_n 0 dX9_fewestMoved_0 rfl rfl ?_
  refine gf_X9_1 fl_X9_19 (lk0 hG) (lr0_1 hG) dX9_fewestMoved_1 ?_
  refine aw_iload_n 1 dX9_fewestMoved_4 rfl rfl ?_
  refine aw_callV wv_X1_hasFloor (M_X1_hasFloor hG  h) ml_X9_148 rfl (by decide) (lk3 hG) rfl rfl (Nat.le_of_ble_eq_true rfl) ⟨rfl, rfl⟩ ⟨Nat.le_of_ble_eq_true rfl, Nat.le_of_ble_eq_true rfl⟩ ⟨Nat.le_refl _, Nat.le_refl _⟩ dX9_fewestMoved_5 (aw_ki fun r_1 I_2 J_3 h => ?_)
  refine aw_zne 13 dX9_fewestMoved_8 (by decide) (fun c_4 => ?_) (fun c_4 => ?_)
  · have h := sw_if.f h c_4
    refine aw_iload_n 2 dX9_fewestMoved_13 rfl rfl ?_
    refine aw_callS wv_X9_setsOf (M_X9_setsOf trivial  h) ml_X9_246 rfl rfl (Nat.le_of_ble_eq_true rfl) ⟨rfl, rfl⟩ ⟨Nat.le_of_ble_eq_true rfl, Nat.le_of_ble_eq_true rfl⟩ ⟨Nat.le_refl _, Nat.le_refl _⟩ dX9_fewestMoved_14 (aw_ki fun r_5 I_6 J_7 h => ?_)
    refine aw_istore_n (lv' := [(3, .int r_5), (0, .ref (sz + 0)), (1, .int x1), (2, .int x2)]) dX9_fewestMoved_17 rfl (by decide) rfl ?_
    refine aw_bipush (v := 11) dX9_fewestMoved_18 (by decide) ?_
    refine aw_istore (lv' := [(4, .int 11), (3, .int r_5), (0, .ref (sz + 0)), (1, .int x1), (2, .int x2)]) dX9_fewestMoved_20 (by decide) rfl ?_
    refine aw_iconst (v := 0) dX9_fewestMoved_22 (by decide) ?_
    refine aw_istore (lv' := [(5, .int 0), (4, .int 11), (3, .int r_5), (0, .ref (sz + 0)), (1, .int x1), (2, .int x2)]) dX9_fewestMoved_23 (by decide) rfl ?_
    refine aw_iconst (v := 0) dX9_fewestMoved_25 (by decide) ?_
    refine aw_istore (lv' := [(6, .int 0), (5, .int 0), (4, .int 11), (3, .int r_5), (0, .ref (sz + 0)), (1, .int x1), (2, .int x2)]) dX9_fewestMoved_26 (by decide) rfl ?_
    refine aw_iconst (v := 0) dX9_fewestMoved_28 (by decide) ?_
    refine aw_istore (lv' := [(7, .int 0), (6, .int 0), (5, .int 0), (4, .int 11), (3, .int r_5), (0, .ref (sz + 0)), (1, .int x1), (2, .int x2)]) dX9_fewestMoved_29 (by decide) rfl ?_
    refine aw_sub [5, 6, 7, 4, 3, 2, 1, 0] rfl ?_
    obtain ⟨n_8, h⟩ := h
    exact tl_X9_fewestMoved_31 hG   n_8 x1 x2 r_5 11 0 0 0 I_6 J_7 h
  · have h := sw_if.t h c_4
    refine aw_iconst (v := (-1)) dX9_fewestMoved_11 (by decide) ?_
    exact aw_iret rfl dX9_fewestMoved_12 ⟨rfl, _, rfl, h⟩
theorem M_X9_fewestMoved {l : Launch} {D : va_G} {cy : Nat → ClassId} {sz : Nat} {G : sw_G} (hG : sw_lay G)   {Q : Int32 → sw_I → sw_J → Prop} {x1 : Int32} {x2 : Int32} {I : sw_I} {J : sw_J} (h : wp_X9_fewestMoved x1 x2 I J Q) : Met l yX9_fewestMoved (Cond.code yX9_fewestMoved cX9_fewestMoved 9 (some .int) :: sw_T) rm_X9_fewestMoved (sw_Pc D cy sz [.ref (sz + 0), .int x1, .int x2] G I J) (sw_Q D cy sz (sw_qi G Q)) 0 0 (fun q => sz ≤ q) :=
  sw_met (by decide) (fun q => by cases q) (Nat.le_of_ble_eq_true rfl) rfl (t_X9_fewestMoved hG  h)
-- X9_distanceBy
abbrev rm_X9_distanceBy : Room := { frames := 3, cells := 0, slots := 0, locals := 74 }
def wp_X9_distanceBy (a1 : Nat) (x2 : Int32) (x3 : Int32) (I : sw_I) (J : sw_J) (Q : Int32 → sw_I → sw_J → Prop) : Prop :=
  vp_in x2 10 ∧ ∀ y_2 : Int32, y_2 = (I (a1 + 2) x2.toNatClampNeg) → vp_in x2 10 ∧ ∀ I_5 : sw_I, I_5 = sw_up I (a1 + 2) x2.toNatClampNeg x3 → wp_X1_nextStop a1 (I_5 a1 3) I_5 J (fun r_7 I_8 J_9 => vp_in x2 10 ∧ ∀ I_11 : sw_I, I_11 = sw_up I_8 (a1 + 2) x2.toNatClampNeg y_2 → vp_in x2 10 ∧ Q (if 0 ≤ (r_7 - (I_11 4 x2.toNatClampNeg)) then (r_7 - (I_11 4 x2.toNatClampNeg)) else 0 - (r_7 - (I_11 4 x2.toNatClampNeg))) I_11 J_9)
set_option maxRecDepth 20000 in
theorem t_X9_distanceBy {l : Launch} {D : va_G} {cy : Nat → ClassId} {sz : Nat} {G : sw_G} (hG : sw_lay G) {a1 : Nat} (ha1 : sw_mom G a1) {Q : Int32 → sw_I → sw_J → Prop} {x2 : Int32} {x3 : Int32} {I : sw_I} {J : sw_J} (h : wp_X9_distanceBy a1 x2 x3 I J Q) : AW l D cy sz RX9 cX9_distanceBy 6 (some .int) false rm_X9_distanceBy 0 0 (sw_qi G Q) 0 0 G I J 0 [(0, .ref (sz + 0)), (1, .ref (sz + a1)), (2, .int x2), (3, .int x3)] [] := by
  unfold wp_X9_distanceBy at h
  refine aw_aload_n 1 dX9_distanceBy_0 rfl rfl ?_
  refine gf_X3_1 fl_X9_133 ha1.1 ha1.2.1.2.1 dX9_distanceBy_1 ?_
  refine aw_iload_n 2 dX9_distanceBy_4 rfl rfl ?_
  obtain ⟨hi_1, h⟩ := h
  refine aw_ild dX9_distanceBy_5 ha1.2.2.2.1 ha1.2.2.2.2.2.2.1 hi_1 ?_
  refine aw_topi (fun y_2 e_3 => ?_)
  have h := h y_2 e_3
  refine aw_istore (lv' := [(4, .int y_2), (0, .ref (sz + 0)), (1, .ref (sz + a1)), (2, .int x2), (3, .int x3)]) dX9_distanceBy_6 (by decide) rfl ?_
  refine aw_aload_n 2 dX9_distanceBy_8 rfl rfl ?_
  refine gf_X3_1 fl_X9_133 ha1.1 ha1.2.1.2.1 dX9_distanceBy_9 ?_
  refine aw_iload_n 3 dX9_distanceBy_12 rfl rfl ?_
  refine aw_iload_n 4 dX9_distanceBy_13 rfl rfl ?_
  obtain ⟨hi_4, h⟩ := h
  refine aw_ist dX9_distanceBy_14 ha1.2.2.2.1 ha1.2.2.2.2.2.2.1 hi_4 (aw_nameI fun I_5 e_6 => ?_)
  have h := h I_5 e_6
  refine aw_aload_n 1 dX9_distanceBy_15 rfl rfl ?_
  refine gf_X9_1 fl_X9_19 (lk0 hG) (lr0_1 hG) dX9_distanceBy_16 ?_
  refine aw_aload_n 2 dX9_distanceBy_19 rfl rfl ?_
  refine aw_aload_n 2 dX9_distanceBy_20 rfl rfl ?_
  refine gf_X3_3 fl_X9_142 ha1.1 dX9_distanceBy_21 ?_
  refine aw_callV wv_X1_nextStop (M_X1_nextStop hG ha1 h) ml_X9_218 rfl (by decide) (lk3 hG) rfl rfl (Nat.le_of_ble_eq_true rfl) ⟨rfl, rfl⟩ ⟨Nat.le_of_ble_eq_true rfl, Nat.le_of_ble_eq_true rfl⟩ ⟨Nat.le_refl _, Nat.le_refl _⟩ dX9_distanceBy_24 (aw_ki fun r_7 I_8 J_9 h => ?_)
  refine aw_istore (lv' := [(5, .int r_7), (4, .int y_2), (0, .ref (sz + 0)), (1, .ref (sz + a1)), (2, .int x2), (3, .int x3)]) dX9_distanceBy_27 (by decide) rfl ?_
  refine aw_aload_n 3 dX9_distanceBy_29 rfl rfl ?_
  refine gf_X3_1 fl_X9_133 ha1.1 ha1.2.1.2.1 dX9_distanceBy_30 ?_
  refine aw_iload_n 4 dX9_distanceBy_33 rfl rfl ?_
  refine aw_iload 1 dX9_distanceBy_34 rfl ?_
  obtain ⟨hi_10, h⟩ := h
  refine aw_ist dX9_distanceBy_36 ha1.2.2.2.1 ha1.2.2.2.2.2.2.1 hi_10 (aw_nameI fun I_11 e_12 => ?_)
  have h := h I_11 e_12
  refine aw_iload 0 dX9_distanceBy_37 rfl ?_
  refine aw_aload_n 2 dX9_distanceBy_39 rfl rfl ?_
  refine gf_X9_1 fl_X9_19 (lk0 hG) (lr0_1 hG) dX9_distanceBy_40 ?_
  refine gf_X1_3 fl_X9_129 (lk3 hG) (lr3_3 hG) dX9_distanceBy_43 ?_
  refine aw_iload_n 4 dX9_distanceBy_46 rfl rfl ?_
  obtain ⟨hi_13, h⟩ := h
  refine aw_ild dX9_distanceBy_47 (lk4 hG) (ln4 hG) hi_13 ?_
  refine aw_isub dX9_distanceBy_48 ?_
  refine aw_mabs mm_X9_355 wm_abs (Nat.le_of_ble_eq_true rfl) (Nat.le_of_ble_eq_true rfl) ⟨Nat.le_refl _, Nat.le_refl _⟩ dX9_distanceBy_49 ?_
  exact aw_iret rfl dX9_distanceBy_52 ⟨rfl, _, rfl, h⟩
theorem M_X9_distanceBy {l : Launch} {D : va_G} {cy : Nat → ClassId} {sz : Nat} {G : sw_G} (hG : sw_lay G) {a1 : Nat} (ha1 : sw_mom G a1) {Q : Int32 → sw_I → sw_J → Prop} {x2 : Int32} {x3 : Int32} {I : sw_I} {J : sw_J} (h : wp_X9_distanceBy a1 x2 x3 I J Q) : Met l yX9_distanceBy (Cond.code yX9_distanceBy cX9_distanceBy 6 (some .int) :: sw_T) rm_X9_distanceBy (sw_Pc D cy sz [.ref (sz + 0), .ref (sz + a1), .int x2, .int x3] G I J) (sw_Q D cy sz (sw_qi G Q)) 0 0 (fun q => sz ≤ q) :=
  sw_met (by decide) (fun q => by cases q) (Nat.le_of_ble_eq_true rfl) rfl (t_X9_distanceBy hG ha1 h)
-- X9_bestWish
abbrev rm_X9_bestWish : Room := { frames := 4, cells := 0, slots := 0, locals := 99 }
def wB_X9_bestWish_55 (a1 : Nat) (K19 : Int32 → Int32 → Int32 → Int32 → sw_I → sw_J → Prop) (Q : Int32 → sw_I → sw_J → Prop) (x2 : Int32) (x3 : Int32) (x4 : Int32) (x5 : Int32) (I : sw_I) (J : sw_J) : Prop :=
  ∀ y_1 : Int32, y_1 = x5 + 1 → K19 x2 x3 x4 y_1 I J
def wb_X9_bestWish_19 (a1 : Nat) (K19 : Int32 → Int32 → Int32 → Int32 → sw_I → sw_J → Prop) (Q : Int32 → sw_I → sw_J → Prop) (x2 : Int32) (x3 : Int32) (x4 : Int32) (x5 : Int32) (I : sw_I) (J : sw_J) : Prop :=
  sw_if (x5 < (I 3 0)) (wp_X9_distanceBy a1 x2 x5 I J (fun r_2 I_3 J_4 => sw_if (r_2 < x4) (wB_X9_bestWish_55 a1 K19 Q x2 x5 r_2 x5 I_3 J_4) (wB_X9_bestWish_55 a1 K19 Q x2 x3 x4 x5 I_3 J_4))) (Q x3 I J)
def wl_X9_bestWish_19 (a1 : Nat)  (Q : Int32 → sw_I → sw_J → Prop) : Nat → Int32 → Int32 → Int32 → Int32 → sw_I → sw_J → Prop
  | 0 => fun _ _ _ _ _ _ => False
  | n + 1 => fun x2 x3 x4 x5 I J => wb_X9_bestWish_19 a1 (wl_X9_bestWish_19 a1  Q n) Q x2 x3 x4 x5 I J
def wp_X9_bestWish (a1 : Nat) (x2 : Int32) (I : sw_I) (J : sw_J) (Q : Int32 → sw_I → sw_J → Prop) : Prop :=
  vp_in x2 10 ∧ ∀ y_2 : Int32, y_2 = (I (a1 + 2) x2.toNatClampNeg) → wp_X9_distanceBy a1 x2 y_2 I J (fun r_4 I_5 J_6 => ∃ n_7 : Nat, wl_X9_bestWish_19 a1  Q n_7 x2 y_2 r_4 (-1) I_5 J_6)
set_option maxRecDepth 20000 in
theorem t_X9_bestWish_55 {l : Launch} {D : va_G} {cy : Nat → ClassId} {sz : Nat} {G : sw_G} (hG : sw_lay G) {a1 : Nat} (ha1 : sw_mom G a1) {Q : Int32 → sw_I → sw_J → Prop} {K19 : Int32 → Int32 → Int32 → Int32 → sw_I → sw_J → Prop} (hK19 : ∀ (x2 : Int32) (x3 : Int32) (x4 : Int32) (x5 : Int32) (I : sw_I) (J : sw_J), K19 x2 x3 x4 x5 I J → AW l D cy sz RX9 cX9_bestWish 7 (some .int) false rm_X9_bestWish 0 0 (sw_qi G Q) 0 0 G I J 19 [(0, .ref (sz + 0)), (1, .ref (sz + a1)), (2, .int x2), (3, .int x3), (4, .int x4), (5, .int x5)] []) {x2 : Int32} {x3 : Int32} {x4 : Int32} {x5 : Int32} {I : sw_I} {J : sw_J} (h : wB_X9_bestWish_55 a1 K19 Q x2 x3 x4 x5 I J) : AW l D cy sz RX9 cX9_bestWish 7 (some .int) false rm_X9_bestWish 0 0 (sw_qi G Q) 0 0 G I J 55 [(0, .ref (sz + 0)), (1, .ref (sz + a1)), (2, .int x2), (3, .int x3), (4, .int x4), (5, .int x5)] [] := by
  unfold wB_X9_bestWish_55 at h
  obtain ⟨y_1, e_2⟩ : ∃ q : Int32, q = x5 + 1 := ⟨_, rfl⟩
  have h := h y_1 e_2
  refine aw_iinc (lv' := [(5, .int y_1), (0, .ref (sz + 0)), (1, .ref (sz + a1)), (2, .int x2), (3, .int x3), (4, .int x4)]) 5 dX9_bestWish_55 rfl (by rw [e_2]; rfl) (by decide) rfl ?_
  refine aw_goto 19 dX9_bestWish_58 (by decide) ?_
  refine aw_sub [1, 2, 3, 4, 5, 0] rfl ?_
  exact hK19 x2 x3 x4 y_1 I J h
set_option maxRecDepth 20000 in
theorem tb_X9_bestWish_19 {l : Launch} {D : va_G} {cy : Nat → ClassId} {sz : Nat} {G : sw_G} (hG : sw_lay G) {a1 : Nat} (ha1 : sw_mom G a1) {Q : Int32 → sw_I → sw_J → Prop} {K19 : Int32 → Int32 → Int32 → Int32 → sw_I → sw_J → Prop} (hK19 : ∀ (x2 : Int32) (x3 : Int32) (x4 : Int32) (x5 : Int32) (I : sw_I) (J : sw_J), K19 x2 x3 x4 x5 I J → AW l D cy sz RX9 cX9_bestWish 7 (some .int) false rm_X9_bestWish 0 0 (sw_qi G Q) 0 0 G I J 19 [(0, .ref (sz + 0)), (1, .ref (sz + a1)), (2, .int x2), (3, .int x3), (4, .int x4), (5, .int x5)] []) {x2 : Int32} {x3 : Int32} {x4 : Int32} {x5 : Int32} {I : sw_I} {J : sw_J} (h : wb_X9_bestWish_19 a1 K19 Q x2 x3 x4 x5 I J) : AW l D cy sz RX9 cX9_bestWish 7 (some .int) false rm_X9_bestWish 0 0 (sw_qi G Q) 0 0 G I J 19 [(0, .ref (sz + 0)), (1, .ref (sz + a1)), (2, .int x2), (3, .int x3), (4, .int x4), (5, .int x5)] [] := by
  unfold wb_X9_bestWish_19 at h
  refine aw_iload 5 dX9_bestWish_19 rfl ?_
  refine aw_aload_n 0 dX9_bestWish_21 rfl rfl ?_
  refine gf_X9_1 fl_X9_19 (lk0 hG) (lr0_1 hG) dX9_bestWish_22 ?_
  refine gf_X1_0 fl_X9_229 (lk3 hG) dX9_bestWish_25 ?_
  refine aw_jge 61 dX9_bestWish_28 (by decide) (fun c_1 => ?_) (fun c_1 => ?_)
  · have h := sw_if.f h c_1
    refine aw_iload_n 3 dX9_bestWish_61 rfl rfl ?_
    exact aw_iret rfl dX9_bestWish_62 ⟨rfl, _, rfl, h⟩
  · have h := sw_if.t h c_1
    refine aw_aload_n 0 dX9_bestWish_31 rfl rfl ?_
    refine aw_aload_n 1 dX9_bestWish_32 rfl rfl ?_
    refine aw_iload_n 2 dX9_bestWish_33 rfl rfl ?_
    refine aw_iload 5 dX9_bestWish_34 rfl ?_
    refine aw_callV wv_X9_distanceBy (M_X9_distanceBy hG ha1 h) ml_X9_265 rfl (by decide) (lk0 hG) rfl rfl (Nat.le_of_ble_eq_true rfl) ⟨rfl, rfl⟩ ⟨Nat.le_of_ble_eq_true rfl, Nat.le_of_ble_eq_true rfl⟩ ⟨Nat.le_refl _, Nat.le_refl _⟩ dX9_bestWish_36 (aw_ki fun r_2 I_3 J_4 h => ?_)
    refine aw_istore (lv' := [(6, .int r_2), (0, .ref (sz + 0)), (1, .ref (sz + a1)), (2, .int x2), (3, .int x3), (4, .int x4), (5, .int x5)]) dX9_bestWish_39 (by decide) rfl ?_
    refine aw_iload 0 dX9_bestWish_41 rfl ?_
    refine aw_iload 5 dX9_bestWish_43 rfl ?_
    refine aw_jge 55 dX9_bestWish_45 (by decide) (fun c_5 => ?_) (fun c_5 => ?_)
    · have h := sw_if.f h c_5
      refine aw_sub [1, 2, 3, 4, 5, 6] rfl ?_
      exact t_X9_bestWish_55 hG ha1 hK19 h
    · have h := sw_if.t h c_5
      refine aw_iload 0 dX9_bestWish_48 rfl ?_
      refine aw_istore (lv' := [(4, .int r_2), (6, .int r_2), (0, .ref (sz + 0)), (1, .ref (sz + a1)), (2, .int x2), (3, .int x3), (5, .int x5)]) dX9_bestWish_50 (by decide) rfl ?_
      refine aw_iload 6 dX9_bestWish_52 rfl ?_
      refine aw_istore_n (lv' := [(3, .int x5), (4, .int r_2), (6, .int r_2), (0, .ref (sz + 0)), (1, .ref (sz + a1)), (2, .int x2), (5, .int x5)]) dX9_bestWish_54 rfl (by decide) rfl ?_
      refine aw_sub [3, 4, 5, 0, 1, 6] rfl ?_
      exact t_X9_bestWish_55 hG ha1 hK19 h
set_option maxRecDepth 20000 in
theorem tl_X9_bestWish_19 {l : Launch} {D : va_G} {cy : Nat → ClassId} {sz : Nat} {G : sw_G} (hG : sw_lay G) {a1 : Nat} (ha1 : sw_mom G a1) {Q : Int32 → sw_I → sw_J → Prop} : ∀ (n : Nat) (x2 : Int32) (x3 : Int32) (x4 : Int32) (x5 : Int32) (I : sw_I) (J : sw_J), wl_X9_bestWish_19 a1  Q n x2 x3 x4 x5 I J → AW l D cy sz RX9 cX9_bestWish 7 (some .int) false rm_X9_bestWish 0 0 (sw_qi G Q) 0 0 G I J 19 [(0, .ref (sz + 0)), (1, .ref (sz + a1)), (2, .int x2), (3, .int x3), (4, .int x4), (5, .int x5)] [] := by
  intro n
  induction n with
  | zero => intro x2 x3 x4 x5 I J h; exact False.elim h
  | succ n ih => intro x2 x3 x4 x5 I J h; exact tb_X9_bestWish_19 hG ha1 ih h
set_option maxRecDepth 20000 in
theorem t_X9_bestWish {l : Launch} {D : va_G} {cy : Nat → ClassId} {sz : Nat} {G : sw_G} (hG : sw_lay G) {a1 : Nat} (ha1 : sw_mom G a1) {Q : Int32 → sw_I → sw_J → Prop} {x2 : Int32} {I : sw_I} {J : sw_J} (h : wp_X9_bestWish a1 x2 I J Q) : AW l D cy sz RX9 cX9_bestWish 7 (some .int) false rm_X9_bestWish 0 0 (sw_qi G Q) 0 0 G I J 0 [(0, .ref (sz + 0)), (1, .ref (sz + a1)), (2, .int x2)] [] := by
  unfold wp_X9_bestWish at h
  refine aw_aload_n 1 dX9_bestWish_0 rfl rfl ?_
  refine gf_X3_1 fl_X9_133 ha1.1 ha1.2.1.2.1 dX9_bestWish_1 ?_
  refine aw_iload_n 2 dX9_bestWish_4 rfl rfl ?_
  obtain ⟨hi_1, h⟩ := h
  refine aw_ild dX9_bestWish_5 ha1.2.2.2.1 ha1.2.2.2.2.2.2.1 hi_1 ?_
  refine aw_topi (fun y_2 e_3 => ?_)
  have h := h y_2 e_3
  refine aw_istore_n (lv' := [(3, .int y_2), (0, .ref (sz + 0)), (1, .ref (sz + a1)), (2, .int x2)]) dX9_bestWish_6 rfl (by decide) rfl ?_
  refine aw_aload_n 1 dX9_bestWish_7 rfl rfl ?_
  refine aw_aload_n 2 dX9_bestWish_8 rfl rfl ?_
  refine aw_iload_n 3 dX9_bestWish_9 rfl rfl ?_
  refine aw_iload_n 0 dX9_bestWish_10 rfl rfl ?_
  refine aw_callV wv_X9_distanceBy (M_X9_distanceBy hG ha1 h) ml_X9_265 rfl (by decide) (lk0 hG) rfl rfl (Nat.le_of_ble_eq_true rfl) ⟨rfl, rfl⟩ ⟨Nat.le_of_ble_eq_true rfl, Nat.le_of_ble_eq_true rfl⟩ ⟨Nat.le_refl _, Nat.le_refl _⟩ dX9_bestWish_11 (aw_ki fun r_4 I_5 J_6 h => ?_)
  refine aw_istore (lv' := [(4, .int r_4), (3, .int y_2), (0, .ref (sz + 0)), (1, .ref (sz + a1)), (2, .int x2)]) dX9_bestWish_14 (by decide) rfl ?_
  refine aw_iconst (v := (-1)) dX9_bestWish_16 (by decide) ?_
  refine aw_istore (lv' := [(5, .int (-1)), (4, .int r_4), (3, .int y_2), (0, .ref (sz + 0)), (1, .ref (sz + a1)), (2, .int x2)]) dX9_bestWish_17 (by decide) rfl ?_
  refine aw_sub [3, 4, 5, 2, 1, 0] rfl ?_
  obtain ⟨n_7, h⟩ := h
  exact tl_X9_bestWish_19 hG ha1  n_7 x2 y_2 r_4 (-1) I_5 J_6 h
theorem M_X9_bestWish {l : Launch} {D : va_G} {cy : Nat → ClassId} {sz : Nat} {G : sw_G} (hG : sw_lay G) {a1 : Nat} (ha1 : sw_mom G a1) {Q : Int32 → sw_I → sw_J → Prop} {x2 : Int32} {I : sw_I} {J : sw_J} (h : wp_X9_bestWish a1 x2 I J Q) : Met l yX9_bestWish (Cond.code yX9_bestWish cX9_bestWish 7 (some .int) :: sw_T) rm_X9_bestWish (sw_Pc D cy sz [.ref (sz + 0), .ref (sz + a1), .int x2] G I J) (sw_Q D cy sz (sw_qi G Q)) 0 0 (fun q => sz ≤ q) :=
  sw_met (by decide) (fun q => by cases q) (Nat.le_of_ble_eq_true rfl) rfl (t_X9_bestWish hG ha1 h)
-- X9_tellAnew
abbrev rm_X9_tellAnew : Room := { frames := 5, cells := 0, slots := 0, locals := 125 }
def wB_X9_tellAnew_58 (a1 : Nat) (K4 : Int32 → Int32 → sw_I → sw_J → Prop) (Q : Int32 → sw_I → sw_J → Prop) (x2 : Int32) (x3 : Int32) (I : sw_I) (J : sw_J) : Prop :=
  ∀ y_1 : Int32, y_1 = x3 + 1 → K4 x2 y_1 I J
def wB_X9_tellAnew_48 (a1 : Nat) (K4 : Int32 → Int32 → sw_I → sw_J → Prop) (Q : Int32 → sw_I → sw_J → Prop) (x3 : Int32) (x4 : Int32) (s0 : Int32) (s1 : Int32) (I : sw_I) (J : sw_J) : Prop :=
  ∀ y_1 : Int32, y_1 = s0 ||| s1 → vp_in x3 10 ∧ ∀ I_4 : sw_I, I_4 = sw_up I (a1 + 2) x3.toNatClampNeg x4 → wB_X9_tellAnew_58 a1 K4 Q y_1 x3 I_4 J
def wb_X9_tellAnew_4 (a1 : Nat) (K4 : Int32 → Int32 → sw_I → sw_J → Prop) (Q : Int32 → sw_I → sw_J → Prop) (x2 : Int32) (x3 : Int32) (I : sw_I) (J : sw_J) : Prop :=
  sw_if (x3 < (I 3 2)) (wp_X3_isIn a1 x3 I J (fun r_2 I_3 J_4 => sw_if (r_2 = 0) (wB_X9_tellAnew_58 a1 K4 Q x2 x3 I_3 J_4) (wp_X9_bestWish a1 x3 I_3 J_4 (fun r_6 I_7 J_8 => vp_in x3 10 ∧ sw_if (r_6 = (I_7 (a1 + 2) x3.toNatClampNeg)) (wB_X9_tellAnew_48 a1 K4 Q x3 r_6 x2 0 I_7 J_8) (wB_X9_tellAnew_48 a1 K4 Q x3 r_6 x2 1 I_7 J_8))))) ((x2 = 0 ∨ x2 = 1) ∧ Q x2 I J)
def wl_X9_tellAnew_4 (a1 : Nat)  (Q : Int32 → sw_I → sw_J → Prop) : Nat → Int32 → Int32 → sw_I → sw_J → Prop
  | 0 => fun _ _ _ _ => False
  | n + 1 => fun x2 x3 I J => wb_X9_tellAnew_4 a1 (wl_X9_tellAnew_4 a1  Q n) Q x2 x3 I J
def wp_X9_tellAnew (a1 : Nat) (I : sw_I) (J : sw_J) (Q : Int32 → sw_I → sw_J → Prop) : Prop :=
  ∃ n_1 : Nat, wl_X9_tellAnew_4 a1  Q n_1 0 0 I J
set_option maxRecDepth 20000 in
theorem t_X9_tellAnew_58 {l : Launch} {D : va_G} {cy : Nat → ClassId} {sz : Nat} {G : sw_G} (hG : sw_lay G) {a1 : Nat} (ha1 : sw_mom G a1) {Q : Int32 → sw_I → sw_J → Prop} {K4 : Int32 → Int32 → sw_I → sw_J → Prop} (hK4 : ∀ (x2 : Int32) (x3 : Int32) (I : sw_I) (J : sw_J), K4 x2 x3 I J → AW l D cy sz RX9 cX9_tellAnew 5 (some .boolean) false rm_X9_tellAnew 0 0 (sw_qi G Q) 0 0 G I J 4 [(0, .ref (sz + 0)), (1, .ref (sz + a1)), (2, .int x2), (3, .int x3)] []) {x2 : Int32} {x3 : Int32} {I : sw_I} {J : sw_J} (h : wB_X9_tellAnew_58 a1 K4 Q x2 x3 I J) : AW l D cy sz RX9 cX9_tellAnew 5 (some .boolean) false rm_X9_tellAnew 0 0 (sw_qi G Q) 0 0 G I J 58 [(0, .ref (sz + 0)), (1, .ref (sz + a1)), (2, .int x2), (3, .int x3)] [] := by
  unfold wB_X9_tellAnew_58 at h
  obtain ⟨y_1, e_2⟩ : ∃ q : Int32, q = x3 + 1 := ⟨_, rfl⟩
  have h := h y_1 e_2
  refine aw_iinc (lv' := [(3, .int y_1), (0, .ref (sz + 0)), (1, .ref (sz + a1)), (2, .int x2)]) 3 dX9_tellAnew_58 rfl (by rw [e_2]; rfl) (by decide) rfl ?_
  refine aw_goto 4 dX9_tellAnew_61 (by decide) ?_
  refine aw_sub [1, 2, 3, 0] rfl ?_
  exact hK4 x2 y_1 I J h
set_option maxRecDepth 20000 in
theorem t_X9_tellAnew_48 {l : Launch} {D : va_G} {cy : Nat → ClassId} {sz : Nat} {G : sw_G} (hG : sw_lay G) {a1 : Nat} (ha1 : sw_mom G a1) {Q : Int32 → sw_I → sw_J → Prop} {K4 : Int32 → Int32 → sw_I → sw_J → Prop} (hK4 : ∀ (x2 : Int32) (x3 : Int32) (I : sw_I) (J : sw_J), K4 x2 x3 I J → AW l D cy sz RX9 cX9_tellAnew 5 (some .boolean) false rm_X9_tellAnew 0 0 (sw_qi G Q) 0 0 G I J 4 [(0, .ref (sz + 0)), (1, .ref (sz + a1)), (2, .int x2), (3, .int x3)] []) {x3 : Int32} {x4 : Int32} {s0 : Int32} {s1 : Int32} {I : sw_I} {J : sw_J} (h : wB_X9_tellAnew_48 a1 K4 Q x3 x4 s0 s1 I J) : AW l D cy sz RX9 cX9_tellAnew 5 (some .boolean) false rm_X9_tellAnew 0 0 (sw_qi G Q) 0 0 G I J 48 [(0, .ref (sz + 0)), (1, .ref (sz + a1)), (3, .int x3), (4, .int x4)] [.int s1, .int s0] := by
  unfold wB_X9_tellAnew_48 at h
  refine aw_ior dX9_tellAnew_48 ?_
  refine aw_topi (fun y_1 e_2 => ?_)
  have h := h y_1 e_2
  refine aw_istore_n (lv' := [(2, .int y_1), (0, .ref (sz + 0)), (1, .ref (sz + a1)), (3, .int x3), (4, .int x4)]) dX9_tellAnew_49 rfl (by decide) rfl ?_
  refine aw_aload_n 2 dX9_tellAnew_50 rfl rfl ?_
  refine gf_X3_1 fl_X9_133 ha1.1 ha1.2.1.2.1 dX9_tellAnew_51 ?_
  refine aw_iload_n 3 dX9_tellAnew_54 rfl rfl ?_
  refine aw_iload 4 dX9_tellAnew_55 rfl ?_
  obtain ⟨hi_3, h⟩ := h
  refine aw_ist dX9_tellAnew_57 ha1.2.2.2.1 ha1.2.2.2.2.2.2.1 hi_3 (aw_nameI fun I_4 e_5 => ?_)
  have h := h I_4 e_5
  refine aw_sub [1, 2, 0, 3] rfl ?_
  exact t_X9_tellAnew_58 hG ha1 hK4 h
set_option maxRecDepth 20000 in
theorem tb_X9_tellAnew_4 {l : Launch} {D : va_G} {cy : Nat → ClassId} {sz : Nat} {G : sw_G} (hG : sw_lay G) {a1 : Nat} (ha1 : sw_mom G a1) {Q : Int32 → sw_I → sw_J → Prop} {K4 : Int32 → Int32 → sw_I → sw_J → Prop} (hK4 : ∀ (x2 : Int32) (x3 : Int32) (I : sw_I) (J : sw_J), K4 x2 x3 I J → AW l D cy sz RX9 cX9_tellAnew 5 (some .boolean) false rm_X9_tellAnew 0 0 (sw_qi G Q) 0 0 G I J 4 [(0, .ref (sz + 0)), (1, .ref (sz + a1)), (2, .int x2), (3, .int x3)] []) {x2 : Int32} {x3 : Int32} {I : sw_I} {J : sw_J} (h : wb_X9_tellAnew_4 a1 K4 Q x2 x3 I J) : AW l D cy sz RX9 cX9_tellAnew 5 (some .boolean) false rm_X9_tellAnew 0 0 (sw_qi G Q) 0 0 G I J 4 [(0, .ref (sz + 0)), (1, .ref (sz + a1)), (2, .int x2), (3, .int x3)] [] := by
  unfold wb_X9_tellAnew_4 at h
  refine aw_iload_n 3 dX9_tellAnew_4 rfl rfl ?_
  refine aw_aload_n 0 dX9_tellAnew_5 rfl rfl ?_
  refine gf_X9_1 fl_X9_19 (lk0 hG) (lr0_1 hG) dX9_tellAnew_6 ?_
  refine gf_X1_2 fl_X9_154 (lk3 hG) dX9_tellAnew_9 ?_
  refine aw_jge 64 dX9_tellAnew_12 (by decide) (fun c_1 => ?_) (fun c_1 => ?_)
  · have h := sw_if.f h c_1
    refine aw_iload_n 2 dX9_tellAnew_64 rfl rfl ?_
    exact aw_zret rfl (sw_bool h.1).1 dX9_tellAnew_65 ⟨rfl, _, rfl, h.2⟩
  · have h := sw_if.t h c_1
    refine aw_aload_n 1 dX9_tellAnew_15 rfl rfl ?_
    refine aw_iload_n 3 dX9_tellAnew_16 rfl rfl ?_
    refine aw_callV wv_X3_isIn (M_X3_isIn trivial ha1 h) ml_X9_185 rfl (by decide) ha1.1 rfl rfl (Nat.le_of_ble_eq_true rfl) ⟨rfl, rfl⟩ ⟨Nat.le_of_ble_eq_true rfl, Nat.le_of_ble_eq_true rfl⟩ ⟨Nat.le_refl _, Nat.le_refl _⟩ dX9_tellAnew_17 (aw_ki fun r_2 I_3 J_4 h => ?_)
    refine aw_zeq 58 dX9_tellAnew_20 (by decide) (fun c_5 => ?_) (fun c_5 => ?_)
    · have h := sw_if.t h c_5
      refine aw_sub [0, 1, 2, 3] rfl ?_
      exact t_X9_tellAnew_58 hG ha1 hK4 h
    · have h := sw_if.f h c_5
      refine aw_aload_n 0 dX9_tellAnew_23 rfl rfl ?_
      refine aw_aload_n 1 dX9_tellAnew_24 rfl rfl ?_
      refine aw_iload_n 3 dX9_tellAnew_25 rfl rfl ?_
      refine aw_callV wv_X9_bestWish (M_X9_bestWish hG ha1 h) ml_X9_262 rfl (by decide) (lk0 hG) rfl rfl (Nat.le_of_ble_eq_true rfl) ⟨rfl, rfl⟩ ⟨Nat.le_of_ble_eq_true rfl, Nat.le_of_ble_eq_true rfl⟩ ⟨Nat.le_refl _, Nat.le_refl _⟩ dX9_tellAnew_26 (aw_ki fun r_6 I_7 J_8 h => ?_)
      refine aw_istore (lv' := [(4, .int r_6), (0, .ref (sz + 0)), (1, .ref (sz + a1)), (2, .int x2), (3, .int x3)]) dX9_tellAnew_29 (by decide) rfl ?_
      refine aw_iload_n 3 dX9_tellAnew_31 rfl rfl ?_
      refine aw_iload 0 dX9_tellAnew_32 rfl ?_
      refine aw_aload_n 2 dX9_tellAnew_34 rfl rfl ?_
      refine gf_X3_1 fl_X9_133 ha1.1 ha1.2.1.2.1 dX9_tellAnew_35 ?_
      refine aw_iload_n 4 dX9_tellAnew_38 rfl rfl ?_
      obtain ⟨hi_9, h⟩ := h
      refine aw_ild dX9_tellAnew_39 ha1.2.2.2.1 ha1.2.2.2.2.2.2.1 hi_9 ?_
      refine aw_jeq 47 dX9_tellAnew_40 (by decide) (fun c_10 => ?_) (fun c_10 => ?_)
      · have h := sw_if.t h c_10
        refine aw_iconst (v := 0) dX9_tellAnew_47 (by decide) ?_
        refine aw_sub [1, 2, 4, 0] rfl ?_
        exact t_X9_tellAnew_48 hG ha1 hK4 h
      · have h := sw_if.f h c_10
        refine aw_iconst (v := 1) dX9_tellAnew_43 (by decide) ?_
        refine aw_goto 48 dX9_tellAnew_44 (by decide) ?_
        refine aw_sub [1, 2, 4, 0] rfl ?_
        exact t_X9_tellAnew_48 hG ha1 hK4 h
set_option maxRecDepth 20000 in
theorem tl_X9_tellAnew_4 {l : Launch} {D : va_G} {cy : Nat → ClassId} {sz : Nat} {G : sw_G} (hG : sw_lay G) {a1 : Nat} (ha1 : sw_mom G a1) {Q : Int32 → sw_I → sw_J → Prop} : ∀ (n : Nat) (x2 : Int32) (x3 : Int32) (I : sw_I) (J : sw_J), wl_X9_tellAnew_4 a1  Q n x2 x3 I J → AW l D cy sz RX9 cX9_tellAnew 5 (some .boolean) false rm_X9_tellAnew 0 0 (sw_qi G Q) 0 0 G I J 4 [(0, .ref (sz + 0)), (1, .ref (sz + a1)), (2, .int x2), (3, .int x3)] [] := by
  intro n
  induction n with
  | zero => intro x2 x3 I J h; exact False.elim h
  | succ n ih => intro x2 x3 I J h; exact tb_X9_tellAnew_4 hG ha1 ih h
set_option maxRecDepth 20000 in
theorem t_X9_tellAnew {l : Launch} {D : va_G} {cy : Nat → ClassId} {sz : Nat} {G : sw_G} (hG : sw_lay G) {a1 : Nat} (ha1 : sw_mom G a1) {Q : Int32 → sw_I → sw_J → Prop}  {I : sw_I} {J : sw_J} (h : wp_X9_tellAnew a1 I J Q) : AW l D cy sz RX9 cX9_tellAnew 5 (some .boolean) false rm_X9_tellAnew 0 0 (sw_qi G Q) 0 0 G I J 0 [(0, .ref (sz + 0)), (1, .ref (sz + a1))] [] := by
  unfold wp_X9_tellAnew at h
  refine aw_iconst (v := 0) dX9_tellAnew_0 (by decide) ?_
  refine aw_istore_n (lv' := [(2, .int 0), (0, .ref (sz + 0)), (1, .ref (sz + a1))]) dX9_tellAnew_1 rfl (by decide) rfl ?_
  refine aw_iconst (v := 0) dX9_tellAnew_2 (by decide) ?_
  refine aw_istore_n (lv' := [(3, .int 0), (2, .int 0), (0, .ref (sz + 0)), (1, .ref (sz + a1))]) dX9_tellAnew_3 rfl (by decide) rfl ?_
  refine aw_sub [2, 3, 1, 0] rfl ?_
  obtain ⟨n_1, h⟩ := h
  exact tl_X9_tellAnew_4 hG ha1  n_1 0 0 I J h
theorem M_X9_tellAnew {l : Launch} {D : va_G} {cy : Nat → ClassId} {sz : Nat} {G : sw_G} (hG : sw_lay G) {a1 : Nat} (ha1 : sw_mom G a1) {Q : Int32 → sw_I → sw_J → Prop}  {I : sw_I} {J : sw_J} (h : wp_X9_tellAnew a1 I J Q) : Met l yX9_tellAnew (Cond.code yX9_tellAnew cX9_tellAnew 5 (some .boolean) :: sw_T) rm_X9_tellAnew (sw_Pc D cy sz [.ref (sz + 0), .ref (sz + a1)] G I J) (sw_Q D cy sz (sw_qi G Q)) 0 0 (fun q => sz ≤ q) :=
  sw_met (by decide) (fun q => by cases q) (Nat.le_of_ble_eq_true rfl) rfl (t_X9_tellAnew hG ha1 h)
