-- X0_live
abbrev rm_X0_live : Room := { frames := 5, cells := 0, slots := 0, locals := 125 }
def wB_X0_live_89 (a2 : Nat) (K21 : Int32 → Int32 → sw_I → sw_J → Prop) (Q : Int32 → sw_I → sw_J → Prop) (x4 : Int32) (x5 : Int32) (I : sw_I) (J : sw_J) : Prop :=
  ∀ y_1 : Int32, y_1 = x5 + 1 → K21 x4 y_1 I J
def wB_X0_live_57 (a2 : Nat) (K21 : Int32 → Int32 → sw_I → sw_J → Prop) (Q : Int32 → sw_I → sw_J → Prop) (x4 : Int32) (x5 : Int32) (I : sw_I) (J : sw_J) : Prop :=
  wp_X0_act a2 x4 x5 I J (fun r_1 I_2 J_3 => sw_if (r_1 = 0) (Q 0 I_2 J_3) (∀ I_5 : sw_I, I_5 = sw_up I_2 119 0 ((I_2 119 0) + (1 : Int32)) → ∀ y_7 : Int32, y_7 = x5 + (1 : Int32) → wB_X0_live_89 a2 K21 Q y_7 x5 I_5 J_3))
def wb_X0_live_21 (a2 : Nat) (K21 : Int32 → Int32 → sw_I → sw_J → Prop) (Q : Int32 → sw_I → sw_J → Prop) (x4 : Int32) (x5 : Int32) (I : sw_I) (J : sw_J) : Prop :=
  sw_if ((I 1 1) < x5) (Q 1 I J) (sw_if (0 < (I 1 1)) (sw_if (x5 = (I 1 1)) (wB_X0_live_57 a2 K21 Q x4 x5 I J) (wp_X8_at x5 I J (fun r_4 I_5 J_6 => sw_if (r_4 = (59 : Int32)) (wB_X0_live_57 a2 K21 Q x4 x5 I_5 J_6) (wB_X0_live_89 a2 K21 Q x4 x5 I_5 J_6)))) (Q 1 I J))
def wl_X0_live_21 (a2 : Nat)  (Q : Int32 → sw_I → sw_J → Prop) : Nat → Int32 → Int32 → sw_I → sw_J → Prop
  | 0 => fun _ _ _ _ => False
  | n + 1 => fun x4 x5 I J => wb_X0_live_21 a2 (wl_X0_live_21 a2  Q n) Q x4 x5 I J
def wp_X0_live (a2 : Nat) (I : sw_I) (J : sw_J) (Q : Int32 → sw_I → sw_J → Prop) : Prop :=
  ∀ I_1 : sw_I, I_1 = sw_up I 119 0 (0 : Int32) → ∀ I_3 : sw_I, I_3 = sw_up I_1 119 1 (0 : Int32) → ∀ I_5 : sw_I, I_5 = sw_up I_3 119 2 (0 : Int32) → ∃ n_7 : Nat, wl_X0_live_21 a2  Q n_7 0 0 I_5 J
set_option maxRecDepth 20000 in
theorem t_X0_live_89 {l : Launch} {D : va_G} {cy : Nat → ClassId} {sz : Nat} {G : sw_G} (hG : sw_lay G) {a2 : Nat} (ha2 : sw_mom G a2) {Q : Int32 → sw_I → sw_J → Prop} {K21 : Int32 → Int32 → sw_I → sw_J → Prop} (hK21 : ∀ (x4 : Int32) (x5 : Int32) (I : sw_I) (J : sw_J), K21 x4 x5 I J → AW l D cy sz RX0 cX0_live 6 (some .boolean) false rm_X0_live 0 0 (sw_qi G Q) 0 0 G I J 21 [(0, .ref (sz + 119)), (1, .ref (sz + 3)), (2, .ref (sz + a2)), (3, .ref (sz + 1)), (4, .int x4), (5, .int x5)] []) {x4 : Int32} {x5 : Int32} {I : sw_I} {J : sw_J} (h : wB_X0_live_89 a2 K21 Q x4 x5 I J) : AW l D cy sz RX0 cX0_live 6 (some .boolean) false rm_X0_live 0 0 (sw_qi G Q) 0 0 G I J 89 [(0, .ref (sz + 119)), (1, .ref (sz + 3)), (2, .ref (sz + a2)), (3, .ref (sz + 1)), (4, .int x4), (5, .int x5)] [] := by
  unfold wB_X0_live_89 at h
  obtain ⟨y_1, e_2⟩ : ∃ q : Int32, q = x5 + 1 := ⟨_, rfl⟩
  have h := h y_1 e_2
  refine aw_iinc (lv' := [(5, .int y_1), (0, .ref (sz + 119)), (1, .ref (sz + 3)), (2, .ref (sz + a2)), (3, .ref (sz + 1)), (4, .int x4)]) 5 dX0_live_89 rfl (by rw [e_2]; rfl) (by decide) rfl ?_
  refine aw_goto 21 dX0_live_92 (by decide) ?_
  refine aw_sub [1, 2, 3, 4, 5, 0] rfl ?_
  exact hK21 x4 y_1 I J h
set_option maxRecDepth 20000 in
theorem t_X0_live_57 {l : Launch} {D : va_G} {cy : Nat → ClassId} {sz : Nat} {G : sw_G} (hG : sw_lay G) {a2 : Nat} (ha2 : sw_mom G a2) {Q : Int32 → sw_I → sw_J → Prop} {K21 : Int32 → Int32 → sw_I → sw_J → Prop} (hK21 : ∀ (x4 : Int32) (x5 : Int32) (I : sw_I) (J : sw_J), K21 x4 x5 I J → AW l D cy sz RX0 cX0_live 6 (some .boolean) false rm_X0_live 0 0 (sw_qi G Q) 0 0 G I J 21 [(0, .ref (sz + 119)), (1, .ref (sz + 3)), (2, .ref (sz + a2)), (3, .ref (sz + 1)), (4, .int x4), (5, .int x5)] []) {x4 : Int32} {x5 : Int32} {I : sw_I} {J : sw_J} (h : wB_X0_live_57 a2 K21 Q x4 x5 I J) : AW l D cy sz RX0 cX0_live 6 (some .boolean) false rm_X0_live 0 0 (sw_qi G Q) 0 0 G I J 57 [(0, .ref (sz + 119)), (1, .ref (sz + 3)), (2, .ref (sz + a2)), (3, .ref (sz + 1)), (4, .int x4), (5, .int x5)] [] := by
  unfold wB_X0_live_57 at h
  refine aw_aload_n 0 dX0_live_57 rfl rfl ?_
  refine aw_aload_n 1 dX0_live_58 rfl rfl ?_
  refine aw_aload_n 2 dX0_live_59 rfl rfl ?_
  refine aw_aload_n 3 dX0_live_60 rfl rfl ?_
  refine aw_iload 4 dX0_live_61 rfl ?_
  refine aw_iload 5 dX0_live_63 rfl ?_
  refine aw_callV wv_X0_act (M_X0_act hG ha2 h) ml_X0_51 rfl (by decide) (lk119 hG) rfl rfl (Nat.le_of_ble_eq_true rfl) ⟨rfl, rfl⟩ ⟨Nat.le_of_ble_eq_true rfl, Nat.le_of_ble_eq_true rfl⟩ ⟨Nat.le_refl _, Nat.le_refl _⟩ dX0_live_65 (aw_ki fun r_1 I_2 J_3 h => ?_)
  refine aw_zne 73 dX0_live_68 (by decide) (fun c_4 => ?_) (fun c_4 => ?_)
  · have h := sw_if.f h c_4
    refine aw_aload_n 0 dX0_live_73 rfl rfl ?_
    refine aw_dup dX0_live_74 rfl ?_
    refine gf_X0_0 fl_X0_9 (lk119 hG) dX0_live_75 ?_
    refine aw_iconst (v := 1) dX0_live_78 (by decide) ?_
    refine aw_iadd dX0_live_79 ?_
    refine pf_X0_0 fl_X0_9 (lk119 hG) dX0_live_80 (aw_nameI fun I_5 e_6 => ?_)
    have h := h I_5 e_6
    refine aw_iload 5 dX0_live_83 rfl ?_
    refine aw_iconst (v := 1) dX0_live_85 (by decide) ?_
    refine aw_iadd dX0_live_86 ?_
    refine aw_topi (fun y_7 e_8 => ?_)
    have h := h y_7 e_8
    refine aw_istore (lv' := [(4, .int y_7), (0, .ref (sz + 119)), (1, .ref (sz + 3)), (2, .ref (sz + a2)), (3, .ref (sz + 1)), (5, .int x5)]) dX0_live_87 (by decide) rfl ?_
    refine aw_sub [1, 2, 3, 4, 0, 5] rfl ?_
    exact t_X0_live_89 hG ha2 hK21 h
  · have h := sw_if.t h c_4
    refine aw_iconst (v := 0) dX0_live_71 (by decide) ?_
    exact aw_zret rfl rfl dX0_live_72 ⟨rfl, _, rfl, h⟩
set_option maxRecDepth 20000 in
theorem tb_X0_live_21 {l : Launch} {D : va_G} {cy : Nat → ClassId} {sz : Nat} {G : sw_G} (hG : sw_lay G) {a2 : Nat} (ha2 : sw_mom G a2) {Q : Int32 → sw_I → sw_J → Prop} {K21 : Int32 → Int32 → sw_I → sw_J → Prop} (hK21 : ∀ (x4 : Int32) (x5 : Int32) (I : sw_I) (J : sw_J), K21 x4 x5 I J → AW l D cy sz RX0 cX0_live 6 (some .boolean) false rm_X0_live 0 0 (sw_qi G Q) 0 0 G I J 21 [(0, .ref (sz + 119)), (1, .ref (sz + 3)), (2, .ref (sz + a2)), (3, .ref (sz + 1)), (4, .int x4), (5, .int x5)] []) {x4 : Int32} {x5 : Int32} {I : sw_I} {J : sw_J} (h : wb_X0_live_21 a2 K21 Q x4 x5 I J) : AW l D cy sz RX0 cX0_live 6 (some .boolean) false rm_X0_live 0 0 (sw_qi G Q) 0 0 G I J 21 [(0, .ref (sz + 119)), (1, .ref (sz + 3)), (2, .ref (sz + a2)), (3, .ref (sz + 1)), (4, .int x4), (5, .int x5)] [] := by
  unfold wb_X0_live_21 at h
  refine aw_iload 5 dX0_live_21 rfl ?_
  refine aw_aload_n 3 dX0_live_23 rfl rfl ?_
  refine gf_X8_1 fl_X0_21 (lk1 hG) dX0_live_24 ?_
  refine aw_jgt 95 dX0_live_27 (by decide) (fun c_1 => ?_) (fun c_1 => ?_)
  · have h := sw_if.t h c_1
    refine aw_iconst (v := 1) dX0_live_95 (by decide) ?_
    exact aw_zret rfl rfl dX0_live_96 ⟨rfl, _, rfl, h⟩
  · have h := sw_if.f h c_1
    refine aw_aload_n 3 dX0_live_30 rfl rfl ?_
    refine gf_X8_1 fl_X0_21 (lk1 hG) dX0_live_31 ?_
    refine aw_zle 95 dX0_live_34 (by decide) (fun c_2 => ?_) (fun c_2 => ?_)
    · have h := sw_if.f h c_2
      refine aw_iconst (v := 1) dX0_live_95 (by decide) ?_
      exact aw_zret rfl rfl dX0_live_96 ⟨rfl, _, rfl, h⟩
    · have h := sw_if.t h c_2
      refine aw_iload 5 dX0_live_37 rfl ?_
      refine aw_aload_n 3 dX0_live_39 rfl rfl ?_
      refine gf_X8_1 fl_X0_21 (lk1 hG) dX0_live_40 ?_
      refine aw_jeq 57 dX0_live_43 (by decide) (fun c_3 => ?_) (fun c_3 => ?_)
      · have h := sw_if.t h c_3
        refine aw_sub [0, 1, 2, 3, 4, 5] rfl ?_
        exact t_X0_live_57 hG ha2 hK21 h
      · have h := sw_if.f h c_3
        refine aw_aload_n 3 dX0_live_46 rfl rfl ?_
        refine aw_iload 5 dX0_live_47 rfl ?_
        refine aw_callV wv_X8_at (M_X8_at hG  h) ml_X0_32 rfl (by decide) (lk1 hG) rfl rfl (Nat.le_of_ble_eq_true rfl) ⟨rfl, rfl⟩ ⟨Nat.le_of_ble_eq_true rfl, Nat.le_of_ble_eq_true rfl⟩ ⟨Nat.le_refl _, Nat.le_refl _⟩ dX0_live_49 (aw_ki fun r_4 I_5 J_6 h => ?_)
        refine aw_bipush (v := 59) dX0_live_52 (by decide) ?_
        refine aw_jne 89 dX0_live_54 (by decide) (fun c_7 => ?_) (fun c_7 => ?_)
        · have h := sw_if.f h c_7
          refine aw_sub [0, 1, 2, 3, 4, 5] rfl ?_
          exact t_X0_live_89 hG ha2 hK21 h
        · have h := sw_if.t h c_7
          refine aw_sub [0, 1, 2, 3, 4, 5] rfl ?_
          exact t_X0_live_57 hG ha2 hK21 h
set_option maxRecDepth 20000 in
theorem tl_X0_live_21 {l : Launch} {D : va_G} {cy : Nat → ClassId} {sz : Nat} {G : sw_G} (hG : sw_lay G) {a2 : Nat} (ha2 : sw_mom G a2) {Q : Int32 → sw_I → sw_J → Prop} : ∀ (n : Nat) (x4 : Int32) (x5 : Int32) (I : sw_I) (J : sw_J), wl_X0_live_21 a2  Q n x4 x5 I J → AW l D cy sz RX0 cX0_live 6 (some .boolean) false rm_X0_live 0 0 (sw_qi G Q) 0 0 G I J 21 [(0, .ref (sz + 119)), (1, .ref (sz + 3)), (2, .ref (sz + a2)), (3, .ref (sz + 1)), (4, .int x4), (5, .int x5)] [] := by
  intro n
  induction n with
  | zero => intro x4 x5 I J h; exact False.elim h
  | succ n ih => intro x4 x5 I J h; exact tb_X0_live_21 hG ha2 ih h
set_option maxRecDepth 20000 in
theorem t_X0_live {l : Launch} {D : va_G} {cy : Nat → ClassId} {sz : Nat} {G : sw_G} (hG : sw_lay G) {a2 : Nat} (ha2 : sw_mom G a2) {Q : Int32 → sw_I → sw_J → Prop}  {I : sw_I} {J : sw_J} (h : wp_X0_live a2 I J Q) : AW l D cy sz RX0 cX0_live 6 (some .boolean) false rm_X0_live 0 0 (sw_qi G Q) 0 0 G I J 0 [(0, .ref (sz + 119)), (1, .ref (sz + 3)), (2, .ref (sz + a2)), (3, .ref (sz + 1))] [] := by
  unfold wp_X0_live at h
  refine aw_aload_n 0 dX0_live_0 rfl rfl ?_
  refine aw_iconst (v := 0) dX0_live_1 (by decide) ?_
  refine pf_X0_0 fl_X0_9 (lk119 hG) dX0_live_2 (aw_nameI fun I_1 e_2 => ?_)
  have h := h I_1 e_2
  refine aw_aload_n 0 dX0_live_5 rfl rfl ?_
  refine aw_iconst (v := 0) dX0_live_6 (by decide) ?_
  refine pf_X0_1 fl_X0_15 (lk119 hG) dX0_live_7 (aw_nameI fun I_3 e_4 => ?_)
  have h := h I_3 e_4
  refine aw_aload_n 0 dX0_live_10 rfl rfl ?_
  refine aw_iconst (v := 0) dX0_live_11 (by decide) ?_
  refine pf_X0_2 fl_X0_18 (lk119 hG) dX0_live_12 (aw_nameI fun I_5 e_6 => ?_)
  have h := h I_5 e_6
  refine aw_iconst (v := 0) dX0_live_15 (by decide) ?_
  refine aw_istore (lv' := [(4, .int 0), (0, .ref (sz + 119)), (1, .ref (sz + 3)), (2, .ref (sz + a2)), (3, .ref (sz + 1))]) dX0_live_16 (by decide) rfl ?_
  refine aw_iconst (v := 0) dX0_live_18 (by decide) ?_
  refine aw_istore (lv' := [(5, .int 0), (4, .int 0), (0, .ref (sz + 119)), (1, .ref (sz + 3)), (2, .ref (sz + a2)), (3, .ref (sz + 1))]) dX0_live_19 (by decide) rfl ?_
  refine aw_sub [2, 3, 4, 5, 1, 0] rfl ?_
  obtain ⟨n_7, h⟩ := h
  exact tl_X0_live_21 hG ha2  n_7 0 0 I_5 J h
theorem M_X0_live {l : Launch} {D : va_G} {cy : Nat → ClassId} {sz : Nat} {G : sw_G} (hG : sw_lay G) {a2 : Nat} (ha2 : sw_mom G a2) {Q : Int32 → sw_I → sw_J → Prop}  {I : sw_I} {J : sw_J} (h : wp_X0_live a2 I J Q) : Met l yX0_live (Cond.code yX0_live cX0_live 6 (some .boolean) :: sw_T) rm_X0_live (sw_Pc D cy sz [.ref (sz + 119), .ref (sz + 3), .ref (sz + a2), .ref (sz + 1)] G I J) (sw_Q D cy sz (sw_qi G Q)) 0 0 (fun q => sz ≤ q) :=
  sw_met (by decide) (fun q => by cases q) (Nat.le_of_ble_eq_true rfl) rfl (t_X0_live hG ha2 h)
-- X9_day
abbrev rm_X9_day : Room := { frames := 6, cells := 0, slots := 0, locals := 150 }
def wB_X9_day_106   (Q : Int32 → sw_I → sw_J → Prop) (t1 : Int64) (I : sw_I) (J : sw_J) : Prop :=
  wp_X9_tell t1 I J (fun I_2 J_3 => Q (I_2 119 0) I_2 J_3)
def wB_X9_day_72   (Q : Int32 → sw_I → sw_J → Prop) (x2 : Int32) (I : sw_I) (J : sw_J) : Prop :=
  ∀ I_1 : sw_I, I_1 = sw_up I 1 1 (0 : Int32) → wp_X9_clearRow  I_1 J (fun I_4 J_5 => wp_X9_tell ((I_4 119 1).toInt64) I_4 J_5 (fun I_7 J_8 => sw_if (x2 = 0) (wB_X9_day_106   Q 1 I_7 J_8) (wB_X9_day_106   Q 0 I_7 J_8)))
def wp_X9_day  (I : sw_I) (J : sw_J) (Q : Int32 → sw_I → sw_J → Prop) : Prop :=
  wp_X0_flawOf  I J (fun r_1 I_2 J_3 => sw_if (r_1 < 0) (wp_X4_prepare 13 I_2 J_3 (fun I_6 J_7 => wp_X0_live 13 I_6 J_7 (fun r_8 I_9 J_10 => sw_if (0 < (I_9 119 2)) (wp_X4_commit  I_9 J_10 (fun I_13 J_14 => wB_X9_day_72   Q r_8 I_13 J_14)) (wB_X9_day_72   Q r_8 I_9 J_10)))) (∀ I_15 : sw_I, I_15 = sw_up I_2 1 1 (0 : Int32) → Q ((-1 : Int32) - r_1) I_15 J_3))
set_option maxRecDepth 20000 in
theorem t_X9_day_106 {l : Launch} {D : va_G} {cy : Nat → ClassId} {sz : Nat} {G : sw_G} (hG : sw_lay G)   {Q : Int32 → sw_I → sw_J → Prop} {t1 : Int64} {I : sw_I} {J : sw_J} (h : wB_X9_day_106   Q t1 I J) : AW l D cy sz RX9 cX9_day 3 (some .int) false rm_X9_day 0 0 (sw_qi G Q) 0 0 G I J 106 [(0, .ref (sz + 0))] [.long t1, .ref (sz + 0)] := by
  unfold wB_X9_day_106 at h
  refine aw_callV wv_X9_tell (M_X9_tell hG  h) ml_X9_195 rfl (by decide) (lk0 hG) rfl rfl (Nat.le_of_ble_eq_true rfl) ⟨rfl, rfl⟩ ⟨Nat.le_of_ble_eq_true rfl, Nat.le_of_ble_eq_true rfl⟩ ⟨Nat.le_refl _, Nat.le_refl _⟩ dX9_day_106 (aw_kv fun I_2 J_3 h => ?_)
  refine aw_aload_n 0 dX9_day_109 rfl rfl ?_
  refine gf_X9_11 fl_X9_69 (lk0 hG) (lr0_11 hG) dX9_day_110 ?_
  refine gf_X0_0 fl_X9_210 (lk119 hG) dX9_day_113 ?_
  exact aw_iret rfl dX9_day_116 ⟨rfl, _, rfl, h⟩
set_option maxRecDepth 20000 in
theorem t_X9_day_72 {l : Launch} {D : va_G} {cy : Nat → ClassId} {sz : Nat} {G : sw_G} (hG : sw_lay G)   {Q : Int32 → sw_I → sw_J → Prop} {x2 : Int32} {I : sw_I} {J : sw_J} (h : wB_X9_day_72   Q x2 I J) : AW l D cy sz RX9 cX9_day 3 (some .int) false rm_X9_day 0 0 (sw_qi G Q) 0 0 G I J 72 [(0, .ref (sz + 0)), (2, .int x2)] [] := by
  unfold wB_X9_day_72 at h
  refine aw_aload_n 0 dX9_day_72 rfl rfl ?_
  refine gf_X9_0 fl_X9_12 (lk0 hG) (lr0_0 hG) dX9_day_73 ?_
  refine aw_iconst (v := 0) dX9_day_76 (by decide) ?_
  refine pf_X8_1 fl_X9_80 (lk1 hG) dX9_day_77 (aw_nameI fun I_1 e_2 => ?_)
  have h := h I_1 e_2
  refine aw_aload_n 0 dX9_day_80 rfl rfl ?_
  refine aw_callV wv_X9_clearRow (M_X9_clearRow hG  h) ml_X9_192 rfl (by decide) (lk0 hG) rfl rfl (Nat.le_of_ble_eq_true rfl) ⟨rfl, rfl⟩ ⟨Nat.le_of_ble_eq_true rfl, Nat.le_of_ble_eq_true rfl⟩ ⟨Nat.le_refl _, Nat.le_refl _⟩ dX9_day_81 (aw_kv fun I_4 J_5 h => ?_)
  refine aw_aload_n 0 dX9_day_84 rfl rfl ?_
  refine aw_aload_n 0 dX9_day_85 rfl rfl ?_
  refine gf_X9_11 fl_X9_69 (lk0 hG) (lr0_11 hG) dX9_day_86 ?_
  refine gf_X0_1 fl_X9_207 (lk119 hG) dX9_day_89 ?_
  refine aw_i2l dX9_day_92 ?_
  refine aw_callV wv_X9_tell (M_X9_tell hG  h) ml_X9_195 rfl (by decide) (lk0 hG) rfl rfl (Nat.le_of_ble_eq_true rfl) ⟨rfl, rfl⟩ ⟨Nat.le_of_ble_eq_true rfl, Nat.le_of_ble_eq_true rfl⟩ ⟨Nat.le_refl _, Nat.le_refl _⟩ dX9_day_93 (aw_kv fun I_7 J_8 h => ?_)
  refine aw_aload_n 0 dX9_day_96 rfl rfl ?_
  refine aw_iload_n 1 dX9_day_97 rfl rfl ?_
  refine aw_zeq 105 dX9_day_98 (by decide) (fun c_9 => ?_) (fun c_9 => ?_)
  · have h := sw_if.t h c_9
    refine aw_lconst (v := 1) dX9_day_105 (by decide) ?_
    refine aw_sub [0] rfl ?_
    exact t_X9_day_106 hG   h
  · have h := sw_if.f h c_9
    refine aw_lconst (v := 0) dX9_day_101 (by decide) ?_
    refine aw_goto 106 dX9_day_102 (by decide) ?_
    refine aw_sub [0] rfl ?_
    exact t_X9_day_106 hG   h
set_option maxRecDepth 20000 in
theorem t_X9_day {l : Launch} {D : va_G} {cy : Nat → ClassId} {sz : Nat} {G : sw_G} (hG : sw_lay G)   {Q : Int32 → sw_I → sw_J → Prop}  {I : sw_I} {J : sw_J} (h : wp_X9_day  I J Q) : AW l D cy sz RX9 cX9_day 3 (some .int) false rm_X9_day 0 0 (sw_qi G Q) 0 0 G I J 0 [(0, .ref (sz + 0))] [] := by
  unfold wp_X9_day at h
  refine aw_aload_n 0 dX9_day_0 rfl rfl ?_
  refine gf_X9_0 fl_X9_12 (lk0 hG) (lr0_0 hG) dX9_day_1 ?_
  refine aw_callS wv_X0_flawOf (M_X0_flawOf hG  h) ml_X9_199 rfl rfl (Nat.le_of_ble_eq_true rfl) ⟨rfl, rfl⟩ ⟨Nat.le_of_ble_eq_true rfl, Nat.le_of_ble_eq_true rfl⟩ ⟨Nat.le_refl _, Nat.le_refl _⟩ dX9_day_4 (aw_ki fun r_1 I_2 J_3 h => ?_)
  refine aw_istore_n (lv' := [(1, .int r_1), (0, .ref (sz + 0))]) dX9_day_7 rfl (by decide) rfl ?_
  refine aw_iload_n 0 dX9_day_8 rfl rfl ?_
  refine aw_zlt 24 dX9_day_9 (by decide) (fun c_4 => ?_) (fun c_4 => ?_)
  · have h := sw_if.t h c_4
    refine aw_aload_n 1 dX9_day_24 rfl rfl ?_
    refine gf_X9_4 fl_X9_36 (lk0 hG) (lr0_4 hG) dX9_day_25 ?_
    refine aw_aload_n 1 dX9_day_28 rfl rfl ?_
    refine gf_X9_2 fl_X9_26 (lk0 hG) (lr0_2 hG) dX9_day_29 ?_
    refine aw_callV wv_X4_prepare (M_X4_prepare hG (lm13 hG) h) ml_X9_178 rfl (by decide) (lk21 hG) rfl rfl (Nat.le_of_ble_eq_true rfl) ⟨rfl, rfl⟩ ⟨Nat.le_of_ble_eq_true rfl, Nat.le_of_ble_eq_true rfl⟩ ⟨Nat.le_refl _, Nat.le_refl _⟩ dX9_day_32 (aw_kv fun I_6 J_7 h => ?_)
    refine aw_aload_n 1 dX9_day_35 rfl rfl ?_
    refine gf_X9_11 fl_X9_69 (lk0 hG) (lr0_11 hG) dX9_day_36 ?_
    refine aw_aload_n 1 dX9_day_39 rfl rfl ?_
    refine gf_X9_1 fl_X9_19 (lk0 hG) (lr0_1 hG) dX9_day_40 ?_
    refine aw_aload_n 1 dX9_day_43 rfl rfl ?_
    refine gf_X9_2 fl_X9_26 (lk0 hG) (lr0_2 hG) dX9_day_44 ?_
    refine aw_aload_n 1 dX9_day_47 rfl rfl ?_
    refine gf_X9_0 fl_X9_12 (lk0 hG) (lr0_0 hG) dX9_day_48 ?_
    refine aw_callV wv_X0_live (M_X0_live hG (lm13 hG) h) ml_X9_200 rfl (by decide) (lk119 hG) rfl rfl (Nat.le_of_ble_eq_true rfl) ⟨rfl, rfl⟩ ⟨Nat.le_of_ble_eq_true rfl, Nat.le_of_ble_eq_true rfl⟩ ⟨Nat.le_refl _, Nat.le_refl _⟩ dX9_day_51 (aw_ki fun r_8 I_9 J_10 h => ?_)
    refine aw_istore_n (lv' := [(2, .int r_8), (1, .int r_1), (0, .ref (sz + 0))]) dX9_day_54 rfl (by decide) rfl ?_
    refine aw_aload_n 2 dX9_day_55 rfl rfl ?_
    refine gf_X9_11 fl_X9_69 (lk0 hG) (lr0_11 hG) dX9_day_56 ?_
    refine gf_X0_2 fl_X9_204 (lk119 hG) dX9_day_59 ?_
    refine aw_zle 72 dX9_day_62 (by decide) (fun c_11 => ?_) (fun c_11 => ?_)
    · have h := sw_if.f h c_11
      refine aw_sub [2, 0] rfl ?_
      exact t_X9_day_72 hG   h
    · have h := sw_if.t h c_11
      refine aw_aload_n 2 dX9_day_65 rfl rfl ?_
      refine gf_X9_4 fl_X9_36 (lk0 hG) (lr0_4 hG) dX9_day_66 ?_
      refine aw_callV wv_X4_commit (M_X4_commit hG  h) ml_X9_182 rfl (by decide) (lk21 hG) rfl rfl (Nat.le_of_ble_eq_true rfl) ⟨rfl, rfl⟩ ⟨Nat.le_of_ble_eq_true rfl, Nat.le_of_ble_eq_true rfl⟩ ⟨Nat.le_refl _, Nat.le_refl _⟩ dX9_day_69 (aw_kv fun I_13 J_14 h => ?_)
      refine aw_sub [2, 0] rfl ?_
      exact t_X9_day_72 hG   h
  · have h := sw_if.f h c_4
    refine aw_aload_n 1 dX9_day_12 rfl rfl ?_
    refine gf_X9_0 fl_X9_12 (lk0 hG) (lr0_0 hG) dX9_day_13 ?_
    refine aw_iconst (v := 0) dX9_day_16 (by decide) ?_
    refine pf_X8_1 fl_X9_80 (lk1 hG) dX9_day_17 (aw_nameI fun I_15 e_16 => ?_)
    have h := h I_15 e_16
    refine aw_iconst (v := (-1)) dX9_day_20 (by decide) ?_
    refine aw_iload_n 0 dX9_day_21 rfl rfl ?_
    refine aw_isub dX9_day_22 ?_
    exact aw_iret rfl dX9_day_23 ⟨rfl, _, rfl, h⟩
theorem M_X9_day {l : Launch} {D : va_G} {cy : Nat → ClassId} {sz : Nat} {G : sw_G} (hG : sw_lay G)   {Q : Int32 → sw_I → sw_J → Prop}  {I : sw_I} {J : sw_J} (h : wp_X9_day  I J Q) : Met l yX9_day (Cond.code yX9_day cX9_day 3 (some .int) :: sw_T) rm_X9_day (sw_Pc D cy sz [.ref (sz + 0)] G I J) (sw_Q D cy sz (sw_qi G Q)) 0 0 (fun q => sz ≤ q) :=
  sw_met (by decide) (fun q => by cases q) (Nat.le_of_ble_eq_true rfl) rfl (t_X9_day hG  h)
-- X9_all
abbrev rm_X9_all : Room := { frames := 6, cells := 0, slots := 0, locals := 150 }
def wp_X9_all  (I : sw_I) (J : sw_J) (Q : Int32 → sw_I → sw_J → Prop) : Prop :=
  wp_X1_everybody  I J (fun r_1 I_2 J_3 => wp_X9_ridesTillHome r_1 I_2 J_3 (fun r_4 I_5 J_6 => Q r_4 I_5 J_6))
set_option maxRecDepth 20000 in
theorem t_X9_all {l : Launch} {D : va_G} {cy : Nat → ClassId} {sz : Nat} {G : sw_G} (hG : sw_lay G)   {Q : Int32 → sw_I → sw_J → Prop}  {I : sw_I} {J : sw_J} (h : wp_X9_all  I J Q) : AW l D cy sz RX9 cX9_all 1 (some .int) false rm_X9_all 0 0 (sw_qi G Q) 0 0 G I J 0 [(0, .ref (sz + 0))] [] := by
  unfold wp_X9_all at h
  refine aw_aload_n 0 dX9_all_0 rfl rfl ?_
  refine aw_aload_n 0 dX9_all_1 rfl rfl ?_
  refine gf_X9_1 fl_X9_19 (lk0 hG) (lr0_1 hG) dX9_all_2 ?_
  refine aw_callV wv_X1_everybody (M_X1_everybody hG  h) ml_X9_284 rfl (by decide) (lk3 hG) rfl rfl (Nat.le_of_ble_eq_true rfl) ⟨rfl, rfl⟩ ⟨Nat.le_of_ble_eq_true rfl, Nat.le_of_ble_eq_true rfl⟩ ⟨Nat.le_refl _, Nat.le_refl _⟩ dX9_all_5 (aw_ki fun r_1 I_2 J_3 h => ?_)
  refine aw_callV wv_X9_ridesTillHome (M_X9_ridesTillHome hG  h) ml_X9_287 rfl (by decide) (lk0 hG) rfl rfl (Nat.le_of_ble_eq_true rfl) ⟨rfl, rfl⟩ ⟨Nat.le_of_ble_eq_true rfl, Nat.le_of_ble_eq_true rfl⟩ ⟨Nat.le_refl _, Nat.le_refl _⟩ dX9_all_8 (aw_ki fun r_4 I_5 J_6 h => ?_)
  exact aw_iret rfl dX9_all_11 ⟨rfl, _, rfl, h⟩
theorem M_X9_all {l : Launch} {D : va_G} {cy : Nat → ClassId} {sz : Nat} {G : sw_G} (hG : sw_lay G)   {Q : Int32 → sw_I → sw_J → Prop}  {I : sw_I} {J : sw_J} (h : wp_X9_all  I J Q) : Met l yX9_all (Cond.code yX9_all cX9_all 1 (some .int) :: sw_T) rm_X9_all (sw_Pc D cy sz [.ref (sz + 0)] G I J) (sw_Q D cy sz (sw_qi G Q)) 0 0 (fun q => sz ≤ q) :=
  sw_met (by decide) (fun q => by cases q) (Nat.le_of_ble_eq_true rfl) rfl (t_X9_all hG  h)
-- X9_one
abbrev rm_X9_one : Room := { frames := 6, cells := 0, slots := 0, locals := 150 }
def wp_X9_one (x1 : Int32) (I : sw_I) (J : sw_J) (Q : Int32 → sw_I → sw_J → Prop) : Prop :=
  wp_X1_hasRider x1 I J (fun r_1 I_2 J_3 => sw_if (r_1 = 0) (Q (-1 : Int32) I_2 J_3) (wp_X9_ridesTillHome ((1 : Int32) <<< (x1 &&& 31)) I_2 J_3 (fun r_5 I_6 J_7 => Q r_5 I_6 J_7)))
set_option maxRecDepth 20000 in
theorem t_X9_one {l : Launch} {D : va_G} {cy : Nat → ClassId} {sz : Nat} {G : sw_G} (hG : sw_lay G)   {Q : Int32 → sw_I → sw_J → Prop} {x1 : Int32} {I : sw_I} {J : sw_J} (h : wp_X9_one x1 I J Q) : AW l D cy sz RX9 cX9_one 2 (some .int) false rm_X9_one 0 0 (sw_qi G Q) 0 0 G I J 0 [(0, .ref (sz + 0)), (1, .int x1)] [] := by
  unfold wp_X9_one at h
  refine aw_aload_n 0 dX9_one_0 rfl rfl ?_
  refine gf_X9_1 fl_X9_19 (lk0 hG) (lr0_1 hG) dX9_one_1 ?_
  refine aw_iload_n 1 dX9_one_4 rfl rfl ?_
  refine aw_callV wv_X1_hasRider (M_X1_hasRider hG  h) ml_X9_122 rfl (by decide) (lk3 hG) rfl rfl (Nat.le_of_ble_eq_true rfl) ⟨rfl, rfl⟩ ⟨Nat.le_of_ble_eq_true rfl, Nat.le_of_ble_eq_true rfl⟩ ⟨Nat.le_refl _, Nat.le_refl _⟩ dX9_one_5 (aw_ki fun r_1 I_2 J_3 h => ?_)
  refine aw_zne 13 dX9_one_8 (by decide) (fun c_4 => ?_) (fun c_4 => ?_)
  · have h := sw_if.f h c_4
    refine aw_aload_n 0 dX9_one_13 rfl rfl ?_
    refine aw_iconst (v := 1) dX9_one_14 (by decide) ?_
    refine aw_iload_n 1 dX9_one_15 rfl rfl ?_
    refine aw_ishl dX9_one_16 ?_
    refine aw_callV wv_X9_ridesTillHome (M_X9_ridesTillHome hG  h) ml_X9_287 rfl (by decide) (lk0 hG) rfl rfl (Nat.le_of_ble_eq_true rfl) ⟨rfl, rfl⟩ ⟨Nat.le_of_ble_eq_true rfl, Nat.le_of_ble_eq_true rfl⟩ ⟨Nat.le_refl _, Nat.le_refl _⟩ dX9_one_17 (aw_ki fun r_5 I_6 J_7 h => ?_)
    exact aw_iret rfl dX9_one_20 ⟨rfl, _, rfl, h⟩
  · have h := sw_if.t h c_4
    refine aw_iconst (v := (-1)) dX9_one_11 (by decide) ?_
    exact aw_iret rfl dX9_one_12 ⟨rfl, _, rfl, h⟩
theorem M_X9_one {l : Launch} {D : va_G} {cy : Nat → ClassId} {sz : Nat} {G : sw_G} (hG : sw_lay G)   {Q : Int32 → sw_I → sw_J → Prop} {x1 : Int32} {I : sw_I} {J : sw_J} (h : wp_X9_one x1 I J Q) : Met l yX9_one (Cond.code yX9_one cX9_one 2 (some .int) :: sw_T) rm_X9_one (sw_Pc D cy sz [.ref (sz + 0), .int x1] G I J) (sw_Q D cy sz (sw_qi G Q)) 0 0 (fun q => sz ≤ q) :=
  sw_met (by decide) (fun q => by cases q) (Nat.le_of_ble_eq_true rfl) rfl (t_X9_one hG  h)
