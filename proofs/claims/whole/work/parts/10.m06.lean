-- X10_looks
abbrev rm_X10_looks : Room := { frames := 1, cells := 0, slots := 0, locals := 21 }
def wB_X10_looks_117 (b1 : Nat) (n1 : Nat) (K54 : Int32 → Int32 → sw_I → sw_J → Prop) (Q : sw_I → sw_J → Prop) (x2 : Int32) (x3 : Int32) (I : sw_I) (J : sw_J) : Prop :=
  ∀ y_1 : Int32, y_1 = x3 + 1 → K54 x2 y_1 I J
def wb_X10_looks_54 (b1 : Nat) (n1 : Nat) (K54 : Int32 → Int32 → sw_I → sw_J → Prop) (Q : sw_I → sw_J → Prop) (x2 : Int32) (x3 : Int32) (I : sw_I) (J : sw_J) : Prop :=
  sw_if (x3 < (I 140 4)) (wp_X10_has x2 x3 I J (fun r_2 I_3 J_4 => sw_if (r_2 = 0) (vp_in x3 n1 ∧ sw_if ((I_3 b1 x3.toNatClampNeg) = (9 : Int32)) (wB_X10_looks_117 b1 n1 K54 Q x2 x3 I_3 J_4) (vp_in x3 n1 ∧ vp_in (I_3 b1 x3.toNatClampNeg) 9 ∧ vp_in (I_3 b1 x3.toNatClampNeg) 9 ∧ ∀ I_11 : sw_I, I_11 = sw_up I_3 154 (I_3 b1 x3.toNatClampNeg).toNatClampNeg ((I_3 154 (I_3 b1 x3.toNatClampNeg).toNatClampNeg) + (1 : Int32)) → wB_X10_looks_117 b1 n1 K54 Q x2 x3 I_11 J_4)) (vp_in ((10 : Int32) + x3) n1 ∧ sw_if ((I_3 b1 ((10 : Int32) + x3).toNatClampNeg) < 0) (wB_X10_looks_117 b1 n1 K54 Q x2 x3 I_3 J_4) (vp_in ((10 : Int32) + x3) n1 ∧ vp_in (I_3 b1 ((10 : Int32) + x3).toNatClampNeg) 9 ∧ vp_in (I_3 b1 ((10 : Int32) + x3).toNatClampNeg) 9 ∧ ∀ I_18 : sw_I, I_18 = sw_up I_3 153 (I_3 b1 ((10 : Int32) + x3).toNatClampNeg).toNatClampNeg ((I_3 153 (I_3 b1 ((10 : Int32) + x3).toNatClampNeg).toNatClampNeg) + (1 : Int32)) → wB_X10_looks_117 b1 n1 K54 Q x2 x3 I_18 J_4)))) (Q I J)
def wl_X10_looks_54 (b1 : Nat) (n1 : Nat)  (Q : sw_I → sw_J → Prop) : Nat → Int32 → Int32 → sw_I → sw_J → Prop
  | 0 => fun _ _ _ _ => False
  | n + 1 => fun x2 x3 I J => wb_X10_looks_54 b1 n1 (wl_X10_looks_54 b1 n1  Q n) Q x2 x3 I J
def wb_X10_looks_26 (b1 : Nat) (n1 : Nat) (K26 : Int32 → Int32 → sw_I → sw_J → Prop) (Q : sw_I → sw_J → Prop) (x2 : Int32) (x3 : Int32) (I : sw_I) (J : sw_J) : Prop :=
  sw_if (x3 < (9 : Int32)) (vp_in x3 9 ∧ ∀ I_4 : sw_I, I_4 = sw_up I 153 x3.toNatClampNeg (0 : Int32) → vp_in x3 9 ∧ ∀ I_7 : sw_I, I_7 = sw_up I_4 154 x3.toNatClampNeg (0 : Int32) → ∀ y_9 : Int32, y_9 = x3 + 1 → K26 x2 y_9 I_7 J) (∃ n_2 : Nat, wl_X10_looks_54 b1 n1  Q n_2 x2 0 I J)
def wl_X10_looks_26 (b1 : Nat) (n1 : Nat)  (Q : sw_I → sw_J → Prop) : Nat → Int32 → Int32 → sw_I → sw_J → Prop
  | 0 => fun _ _ _ _ => False
  | n + 1 => fun x2 x3 I J => wb_X10_looks_26 b1 n1 (wl_X10_looks_26 b1 n1  Q n) Q x2 x3 I J
def wp_X10_looks (b1 : Nat) (n1 : Nat) (x2 : Int32) (I : sw_I) (J : sw_J) (Q : sw_I → sw_J → Prop) : Prop :=
  wp_J6_bitCount_0f7a4 x2 I J (fun r_1 I_2 J_3 => ∀ I_4 : sw_I, I_4 = sw_up I_2 140 28 r_1 → vp_in (31 : Int32) n1 ∧ ∀ I_7 : sw_I, I_7 = sw_up I_4 140 29 (I_4 b1 (31 : Int32).toNatClampNeg) → vp_in (32 : Int32) n1 ∧ ∀ I_10 : sw_I, I_10 = sw_up I_7 140 30 (I_7 b1 (32 : Int32).toNatClampNeg) → ∃ n_12 : Nat, wl_X10_looks_26 b1 n1  Q n_12 x2 0 I_10 J_3)
set_option maxRecDepth 20000 in
theorem t_X10_looks_117 {l : Launch} {D : va_G} {cy : Nat → ClassId} {sz : Nat} {G : sw_G} (hG : sw_lay G) {b1 : Nat} {n1 : Nat} (hb1 : sw_ia G b1 n1) {Q : sw_I → sw_J → Prop} {K54 : Int32 → Int32 → sw_I → sw_J → Prop} (hK54 : ∀ (x2 : Int32) (x3 : Int32) (I : sw_I) (J : sw_J), K54 x2 x3 I J → AW l D cy sz RX10 cX10_looks 4 none false rm_X10_looks 0 0 (sw_qv G Q) 0 0 G I J 54 [(0, .ref (sz + 140)), (1, .ref (sz + b1)), (2, .int x2), (3, .int x3)] []) {x2 : Int32} {x3 : Int32} {I : sw_I} {J : sw_J} (h : wB_X10_looks_117 b1 n1 K54 Q x2 x3 I J) : AW l D cy sz RX10 cX10_looks 4 none false rm_X10_looks 0 0 (sw_qv G Q) 0 0 G I J 117 [(0, .ref (sz + 140)), (1, .ref (sz + b1)), (2, .int x2), (3, .int x3)] [] := by
  unfold wB_X10_looks_117 at h
  obtain ⟨y_1, e_2⟩ : ∃ q : Int32, q = x3 + 1 := ⟨_, rfl⟩
  have h := h y_1 e_2
  refine aw_iinc (lv' := [(3, .int y_1), (0, .ref (sz + 140)), (1, .ref (sz + b1)), (2, .int x2)]) 3 dX10_looks_117 rfl (by rw [e_2]; rfl) (by decide) rfl ?_
  refine aw_goto 54 dX10_looks_120 (by decide) ?_
  refine aw_sub [1, 2, 3, 0] rfl ?_
  exact hK54 x2 y_1 I J h
set_option maxRecDepth 20000 in
theorem tb_X10_looks_54 {l : Launch} {D : va_G} {cy : Nat → ClassId} {sz : Nat} {G : sw_G} (hG : sw_lay G) {b1 : Nat} {n1 : Nat} (hb1 : sw_ia G b1 n1) {Q : sw_I → sw_J → Prop} {K54 : Int32 → Int32 → sw_I → sw_J → Prop} (hK54 : ∀ (x2 : Int32) (x3 : Int32) (I : sw_I) (J : sw_J), K54 x2 x3 I J → AW l D cy sz RX10 cX10_looks 4 none false rm_X10_looks 0 0 (sw_qv G Q) 0 0 G I J 54 [(0, .ref (sz + 140)), (1, .ref (sz + b1)), (2, .int x2), (3, .int x3)] []) {x2 : Int32} {x3 : Int32} {I : sw_I} {J : sw_J} (h : wb_X10_looks_54 b1 n1 K54 Q x2 x3 I J) : AW l D cy sz RX10 cX10_looks 4 none false rm_X10_looks 0 0 (sw_qv G Q) 0 0 G I J 54 [(0, .ref (sz + 140)), (1, .ref (sz + b1)), (2, .int x2), (3, .int x3)] [] := by
  unfold wb_X10_looks_54 at h
  refine aw_iload_n 3 dX10_looks_54 rfl rfl ?_
  refine aw_aload_n 0 dX10_looks_55 rfl rfl ?_
  refine gf_X10_4 fl_X10_29 (lk140 hG) dX10_looks_56 ?_
  refine aw_jge 123 dX10_looks_59 (by decide) (fun c_1 => ?_) (fun c_1 => ?_)
  · have h := sw_if.f h c_1
    exact aw_vret rfl dX10_looks_123 ⟨rfl, rfl, h⟩
  · have h := sw_if.t h c_1
    refine aw_iload_n 2 dX10_looks_62 rfl rfl ?_
    refine aw_iload_n 3 dX10_looks_63 rfl rfl ?_
    refine aw_callS wv_X10_has (M_X10_has trivial  h) ml_X10_195 rfl rfl (Nat.le_of_ble_eq_true rfl) ⟨rfl, rfl⟩ ⟨Nat.le_of_ble_eq_true rfl, Nat.le_of_ble_eq_true rfl⟩ ⟨Nat.le_refl _, Nat.le_refl _⟩ dX10_looks_64 (aw_ki fun r_2 I_3 J_4 h => ?_)
    refine aw_zeq 97 dX10_looks_67 (by decide) (fun c_5 => ?_) (fun c_5 => ?_)
    · have h := sw_if.t h c_5
      refine aw_aload_n 1 dX10_looks_97 rfl rfl ?_
      refine aw_iload_n 3 dX10_looks_98 rfl rfl ?_
      obtain ⟨hi_6, h⟩ := h
      refine aw_ild dX10_looks_99 hb1.1 hb1.2 hi_6 ?_
      refine aw_bipush (v := 9) dX10_looks_100 (by decide) ?_
      refine aw_jeq 117 dX10_looks_102 (by decide) (fun c_7 => ?_) (fun c_7 => ?_)
      · have h := sw_if.t h c_7
        refine aw_sub [0, 1, 2, 3] rfl ?_
        exact t_X10_looks_117 hG hb1 hK54 h
      · have h := sw_if.f h c_7
        refine aw_aload_n 0 dX10_looks_105 rfl rfl ?_
        refine gf_X10_27 fl_X10_192 (lk140 hG) (lr140_27 hG) dX10_looks_106 ?_
        refine aw_aload_n 1 dX10_looks_109 rfl rfl ?_
        refine aw_iload_n 3 dX10_looks_110 rfl rfl ?_
        obtain ⟨hi_8, h⟩ := h
        refine aw_ild dX10_looks_111 hb1.1 hb1.2 hi_8 ?_
        refine aw_dup2 dX10_looks_112 rfl rfl ?_
        obtain ⟨hi_9, h⟩ := h
        refine aw_ild dX10_looks_113 (lk154 hG) (ln154 hG) hi_9 ?_
        refine aw_iconst (v := 1) dX10_looks_114 (by decide) ?_
        refine aw_iadd dX10_looks_115 ?_
        obtain ⟨hi_10, h⟩ := h
        refine aw_ist dX10_looks_116 (lk154 hG) (ln154 hG) hi_10 (aw_nameI fun I_11 e_12 => ?_)
        have h := h I_11 e_12
        refine aw_sub [0, 1, 2, 3] rfl ?_
        exact t_X10_looks_117 hG hb1 hK54 h
    · have h := sw_if.f h c_5
      refine aw_aload_n 1 dX10_looks_70 rfl rfl ?_
      refine aw_bipush (v := 10) dX10_looks_71 (by decide) ?_
      refine aw_iload_n 3 dX10_looks_73 rfl rfl ?_
      refine aw_iadd dX10_looks_74 ?_
      obtain ⟨hi_13, h⟩ := h
      refine aw_ild dX10_looks_75 hb1.1 hb1.2 hi_13 ?_
      refine aw_zlt 117 dX10_looks_76 (by decide) (fun c_14 => ?_) (fun c_14 => ?_)
      · have h := sw_if.t h c_14
        refine aw_sub [0, 1, 2, 3] rfl ?_
        exact t_X10_looks_117 hG hb1 hK54 h
      · have h := sw_if.f h c_14
        refine aw_aload_n 0 dX10_looks_79 rfl rfl ?_
        refine gf_X10_26 fl_X10_189 (lk140 hG) (lr140_26 hG) dX10_looks_80 ?_
        refine aw_aload_n 1 dX10_looks_83 rfl rfl ?_
        refine aw_bipush (v := 10) dX10_looks_84 (by decide) ?_
        refine aw_iload_n 3 dX10_looks_86 rfl rfl ?_
        refine aw_iadd dX10_looks_87 ?_
        obtain ⟨hi_15, h⟩ := h
        refine aw_ild dX10_looks_88 hb1.1 hb1.2 hi_15 ?_
        refine aw_dup2 dX10_looks_89 rfl rfl ?_
        obtain ⟨hi_16, h⟩ := h
        refine aw_ild dX10_looks_90 (lk153 hG) (ln153 hG) hi_16 ?_
        refine aw_iconst (v := 1) dX10_looks_91 (by decide) ?_
        refine aw_iadd dX10_looks_92 ?_
        obtain ⟨hi_17, h⟩ := h
        refine aw_ist dX10_looks_93 (lk153 hG) (ln153 hG) hi_17 (aw_nameI fun I_18 e_19 => ?_)
        have h := h I_18 e_19
        refine aw_goto 117 dX10_looks_94 (by decide) ?_
        refine aw_sub [0, 1, 2, 3] rfl ?_
        exact t_X10_looks_117 hG hb1 hK54 h
set_option maxRecDepth 20000 in
theorem tl_X10_looks_54 {l : Launch} {D : va_G} {cy : Nat → ClassId} {sz : Nat} {G : sw_G} (hG : sw_lay G) {b1 : Nat} {n1 : Nat} (hb1 : sw_ia G b1 n1) {Q : sw_I → sw_J → Prop} : ∀ (n : Nat) (x2 : Int32) (x3 : Int32) (I : sw_I) (J : sw_J), wl_X10_looks_54 b1 n1  Q n x2 x3 I J → AW l D cy sz RX10 cX10_looks 4 none false rm_X10_looks 0 0 (sw_qv G Q) 0 0 G I J 54 [(0, .ref (sz + 140)), (1, .ref (sz + b1)), (2, .int x2), (3, .int x3)] [] := by
  intro n
  induction n with
  | zero => intro x2 x3 I J h; exact False.elim h
  | succ n ih => intro x2 x3 I J h; exact tb_X10_looks_54 hG hb1 ih h
set_option maxRecDepth 20000 in
theorem tb_X10_looks_26 {l : Launch} {D : va_G} {cy : Nat → ClassId} {sz : Nat} {G : sw_G} (hG : sw_lay G) {b1 : Nat} {n1 : Nat} (hb1 : sw_ia G b1 n1) {Q : sw_I → sw_J → Prop} {K26 : Int32 → Int32 → sw_I → sw_J → Prop} (hK26 : ∀ (x2 : Int32) (x3 : Int32) (I : sw_I) (J : sw_J), K26 x2 x3 I J → AW l D cy sz RX10 cX10_looks 4 none false rm_X10_looks 0 0 (sw_qv G Q) 0 0 G I J 26 [(0, .ref (sz + 140)), (1, .ref (sz + b1)), (2, .int x2), (3, .int x3)] []) {x2 : Int32} {x3 : Int32} {I : sw_I} {J : sw_J} (h : wb_X10_looks_26 b1 n1 K26 Q x2 x3 I J) : AW l D cy sz RX10 cX10_looks 4 none false rm_X10_looks 0 0 (sw_qv G Q) 0 0 G I J 26 [(0, .ref (sz + 140)), (1, .ref (sz + b1)), (2, .int x2), (3, .int x3)] [] := by
  unfold wb_X10_looks_26 at h
  refine aw_iload_n 3 dX10_looks_26 rfl rfl ?_
  refine aw_bipush (v := 9) dX10_looks_27 (by decide) ?_
  refine aw_jge 52 dX10_looks_29 (by decide) (fun c_1 => ?_) (fun c_1 => ?_)
  · have h := sw_if.f h c_1
    refine aw_iconst (v := 0) dX10_looks_52 (by decide) ?_
    refine aw_istore_n (lv' := [(3, .int 0), (0, .ref (sz + 140)), (1, .ref (sz + b1)), (2, .int x2)]) dX10_looks_53 rfl (by decide) rfl ?_
    refine aw_sub [1, 2, 3, 0] rfl ?_
    obtain ⟨n_2, h⟩ := h
    exact tl_X10_looks_54 hG hb1  n_2 x2 0 I J h
  · have h := sw_if.t h c_1
    refine aw_aload_n 0 dX10_looks_32 rfl rfl ?_
    refine gf_X10_26 fl_X10_189 (lk140 hG) (lr140_26 hG) dX10_looks_33 ?_
    refine aw_iload_n 3 dX10_looks_36 rfl rfl ?_
    refine aw_iconst (v := 0) dX10_looks_37 (by decide) ?_
    obtain ⟨hi_3, h⟩ := h
    refine aw_ist dX10_looks_38 (lk153 hG) (ln153 hG) hi_3 (aw_nameI fun I_4 e_5 => ?_)
    have h := h I_4 e_5
    refine aw_aload_n 0 dX10_looks_39 rfl rfl ?_
    refine gf_X10_27 fl_X10_192 (lk140 hG) (lr140_27 hG) dX10_looks_40 ?_
    refine aw_iload_n 3 dX10_looks_43 rfl rfl ?_
    refine aw_iconst (v := 0) dX10_looks_44 (by decide) ?_
    obtain ⟨hi_6, h⟩ := h
    refine aw_ist dX10_looks_45 (lk154 hG) (ln154 hG) hi_6 (aw_nameI fun I_7 e_8 => ?_)
    have h := h I_7 e_8
    obtain ⟨y_9, e_10⟩ : ∃ q : Int32, q = x3 + 1 := ⟨_, rfl⟩
    have h := h y_9 e_10
    refine aw_iinc (lv' := [(3, .int y_9), (0, .ref (sz + 140)), (1, .ref (sz + b1)), (2, .int x2)]) 3 dX10_looks_46 rfl (by rw [e_10]; rfl) (by decide) rfl ?_
    refine aw_goto 26 dX10_looks_49 (by decide) ?_
    refine aw_sub [1, 2, 3, 0] rfl ?_
    exact hK26 x2 y_9 I_7 J h
set_option maxRecDepth 20000 in
theorem tl_X10_looks_26 {l : Launch} {D : va_G} {cy : Nat → ClassId} {sz : Nat} {G : sw_G} (hG : sw_lay G) {b1 : Nat} {n1 : Nat} (hb1 : sw_ia G b1 n1) {Q : sw_I → sw_J → Prop} : ∀ (n : Nat) (x2 : Int32) (x3 : Int32) (I : sw_I) (J : sw_J), wl_X10_looks_26 b1 n1  Q n x2 x3 I J → AW l D cy sz RX10 cX10_looks 4 none false rm_X10_looks 0 0 (sw_qv G Q) 0 0 G I J 26 [(0, .ref (sz + 140)), (1, .ref (sz + b1)), (2, .int x2), (3, .int x3)] [] := by
  intro n
  induction n with
  | zero => intro x2 x3 I J h; exact False.elim h
  | succ n ih => intro x2 x3 I J h; exact tb_X10_looks_26 hG hb1 ih h
set_option maxRecDepth 20000 in
theorem t_X10_looks {l : Launch} {D : va_G} {cy : Nat → ClassId} {sz : Nat} {G : sw_G} (hG : sw_lay G) {b1 : Nat} {n1 : Nat} (hb1 : sw_ia G b1 n1) {Q : sw_I → sw_J → Prop} {x2 : Int32} {I : sw_I} {J : sw_J} (h : wp_X10_looks b1 n1 x2 I J Q) : AW l D cy sz RX10 cX10_looks 4 none false rm_X10_looks 0 0 (sw_qv G Q) 0 0 G I J 0 [(0, .ref (sz + 140)), (1, .ref (sz + b1)), (2, .int x2)] [] := by
  unfold wp_X10_looks at h
  refine aw_aload_n 0 dX10_looks_0 rfl rfl ?_
  refine aw_iload_n 2 dX10_looks_1 rfl rfl ?_
  refine aw_callS wv_J6_bitCount_0f7a4 (M_J6_bitCount_0f7a4 trivial  h) ml_X10_175 rfl rfl (Nat.le_of_ble_eq_true rfl) ⟨rfl, rfl⟩ ⟨Nat.le_of_ble_eq_true rfl, Nat.le_of_ble_eq_true rfl⟩ ⟨Nat.le_refl _, Nat.le_refl _⟩ dX10_looks_2 (aw_ki fun r_1 I_2 J_3 h => ?_)
  refine pf_X10_28 fl_X10_180 (lk140 hG) dX10_looks_5 (aw_nameI fun I_4 e_5 => ?_)
  have h := h I_4 e_5
  refine aw_aload_n 0 dX10_looks_8 rfl rfl ?_
  refine aw_aload_n 1 dX10_looks_9 rfl rfl ?_
  refine aw_bipush (v := 31) dX10_looks_10 (by decide) ?_
  obtain ⟨hi_6, h⟩ := h
  refine aw_ild dX10_looks_12 hb1.1 hb1.2 hi_6 ?_
  refine pf_X10_29 fl_X10_183 (lk140 hG) dX10_looks_13 (aw_nameI fun I_7 e_8 => ?_)
  have h := h I_7 e_8
  refine aw_aload_n 0 dX10_looks_16 rfl rfl ?_
  refine aw_aload_n 1 dX10_looks_17 rfl rfl ?_
  refine aw_bipush (v := 32) dX10_looks_18 (by decide) ?_
  obtain ⟨hi_9, h⟩ := h
  refine aw_ild dX10_looks_20 hb1.1 hb1.2 hi_9 ?_
  refine pf_X10_30 fl_X10_186 (lk140 hG) dX10_looks_21 (aw_nameI fun I_10 e_11 => ?_)
  have h := h I_10 e_11
  refine aw_iconst (v := 0) dX10_looks_24 (by decide) ?_
  refine aw_istore_n (lv' := [(3, .int 0), (0, .ref (sz + 140)), (1, .ref (sz + b1)), (2, .int x2)]) dX10_looks_25 rfl (by decide) rfl ?_
  refine aw_sub [1, 2, 3, 0] rfl ?_
  obtain ⟨n_12, h⟩ := h
  exact tl_X10_looks_26 hG hb1  n_12 x2 0 I_10 J_3 h
theorem M_X10_looks {l : Launch} {D : va_G} {cy : Nat → ClassId} {sz : Nat} {G : sw_G} (hG : sw_lay G) {b1 : Nat} {n1 : Nat} (hb1 : sw_ia G b1 n1) {Q : sw_I → sw_J → Prop} {x2 : Int32} {I : sw_I} {J : sw_J} (h : wp_X10_looks b1 n1 x2 I J Q) : Met l yX10_looks (Cond.code yX10_looks cX10_looks 4 none :: sw_T) rm_X10_looks (sw_Pc D cy sz [.ref (sz + 140), .ref (sz + b1), .int x2] G I J) (sw_Q D cy sz (sw_qv G Q)) 0 0 (fun q => sz ≤ q) :=
  sw_met (by decide) (fun q => by cases q) (Nat.le_of_ble_eq_true rfl) rfl (t_X10_looks hG hb1 h)
-- X10_stopOf
abbrev rm_X10_stopOf : Room := { frames := 4, cells := 0, slots := 0, locals := 92 }
def wB_X10_stopOf_41 (b1 : Nat) (n1 : Nat)  (Q : Int32 → sw_I → sw_J → Prop) (s0 : Int32) (I : sw_I) (J : sw_J) : Prop :=
  sw_if (s0 = 0) (wp_X10_leastStop  I J (fun r_2 I_3 J_4 => Q r_2 I_3 J_4)) (Q (I 140 5) I J)
def wB_X10_stopOf_40 (b1 : Nat) (n1 : Nat)  (Q : Int32 → sw_I → sw_J → Prop)  (I : sw_I) (J : sw_J) : Prop :=
  wB_X10_stopOf_41 b1 n1  Q 0 I J
def wp_X10_stopOf (b1 : Nat) (n1 : Nat) (x2 : Int32) (I : sw_I) (J : sw_J) (Q : Int32 → sw_I → sw_J → Prop) : Prop :=
  wp_X10_looks b1 n1 x2 I J (fun I_2 J_3 => vp_in (32 : Int32) n1 ∧ sw_if ((((I_2 b1 (32 : Int32).toNatClampNeg) + (1 : Int32)) - ((I_2 b1 (32 : Int32).toNatClampNeg) + (1 : Int32)) / (7 : Int32) * (7 : Int32)) = 0) (sw_if ((I_2 140 5) < 0) (wB_X10_stopOf_40 b1 n1  Q  I_2 J_3) (vp_in (31 : Int32) n1 ∧ sw_if ((I_2 140 5) = (I_2 b1 (31 : Int32).toNatClampNeg)) (wB_X10_stopOf_40 b1 n1  Q  I_2 J_3) (wB_X10_stopOf_41 b1 n1  Q 1 I_2 J_3))) (wB_X10_stopOf_40 b1 n1  Q  I_2 J_3))
set_option maxRecDepth 20000 in
theorem t_X10_stopOf_41 {l : Launch} {D : va_G} {cy : Nat → ClassId} {sz : Nat} {G : sw_G} (hG : sw_lay G) {b1 : Nat} {n1 : Nat} (hb1 : sw_ia G b1 n1) {Q : Int32 → sw_I → sw_J → Prop} {s0 : Int32} {I : sw_I} {J : sw_J} (h : wB_X10_stopOf_41 b1 n1  Q s0 I J) : AW l D cy sz RX10 cX10_stopOf 4 (some .int) false rm_X10_stopOf 0 0 (sw_qi G Q) 0 0 G I J 41 [(0, .ref (sz + 140))] [.int s0] := by
  unfold wB_X10_stopOf_41 at h
  refine aw_istore_n (lv' := [(3, .int s0), (0, .ref (sz + 140))]) dX10_stopOf_41 rfl (by decide) rfl ?_
  refine aw_iload_n 0 dX10_stopOf_42 rfl rfl ?_
  refine aw_zeq 53 dX10_stopOf_43 (by decide) (fun c_1 => ?_) (fun c_1 => ?_)
  · have h := sw_if.t h c_1
    refine aw_aload_n 1 dX10_stopOf_53 rfl rfl ?_
    refine aw_callV wv_X10_leastStop (M_X10_leastStop hG  h) ml_X10_219 rfl (by decide) (lk140 hG) rfl rfl (Nat.le_of_ble_eq_true rfl) ⟨rfl, rfl⟩ ⟨Nat.le_of_ble_eq_true rfl, Nat.le_of_ble_eq_true rfl⟩ ⟨Nat.le_refl _, Nat.le_refl _⟩ dX10_stopOf_54 (aw_ki fun r_2 I_3 J_4 h => ?_)
    exact aw_iret rfl dX10_stopOf_57 ⟨rfl, _, rfl, h⟩
  · have h := sw_if.f h c_1
    refine aw_aload_n 1 dX10_stopOf_46 rfl rfl ?_
    refine gf_X10_5 fl_X10_76 (lk140 hG) dX10_stopOf_47 ?_
    refine aw_goto 57 dX10_stopOf_50 (by decide) ?_
    exact aw_iret rfl dX10_stopOf_57 ⟨rfl, _, rfl, h⟩
set_option maxRecDepth 20000 in
theorem t_X10_stopOf_40 {l : Launch} {D : va_G} {cy : Nat → ClassId} {sz : Nat} {G : sw_G} (hG : sw_lay G) {b1 : Nat} {n1 : Nat} (hb1 : sw_ia G b1 n1) {Q : Int32 → sw_I → sw_J → Prop}  {I : sw_I} {J : sw_J} (h : wB_X10_stopOf_40 b1 n1  Q  I J) : AW l D cy sz RX10 cX10_stopOf 4 (some .int) false rm_X10_stopOf 0 0 (sw_qi G Q) 0 0 G I J 40 [(0, .ref (sz + 140))] [] := by
  unfold wB_X10_stopOf_40 at h
  refine aw_iconst (v := 0) dX10_stopOf_40 (by decide) ?_
  refine aw_sub [0] rfl ?_
  exact t_X10_stopOf_41 hG hb1  h
set_option maxRecDepth 20000 in
theorem t_X10_stopOf {l : Launch} {D : va_G} {cy : Nat → ClassId} {sz : Nat} {G : sw_G} (hG : sw_lay G) {b1 : Nat} {n1 : Nat} (hb1 : sw_ia G b1 n1) {Q : Int32 → sw_I → sw_J → Prop} {x2 : Int32} {I : sw_I} {J : sw_J} (h : wp_X10_stopOf b1 n1 x2 I J Q) : AW l D cy sz RX10 cX10_stopOf 4 (some .int) false rm_X10_stopOf 0 0 (sw_qi G Q) 0 0 G I J 0 [(0, .ref (sz + 140)), (1, .ref (sz + b1)), (2, .int x2)] [] := by
  unfold wp_X10_stopOf at h
  refine aw_aload_n 0 dX10_stopOf_0 rfl rfl ?_
  refine aw_aload_n 1 dX10_stopOf_1 rfl rfl ?_
  refine aw_iload_n 2 dX10_stopOf_2 rfl rfl ?_
  refine aw_callV wv_X10_looks (M_X10_looks hG ⟨hb1.1, hb1.2⟩ h) ml_X10_215 rfl (by decide) (lk140 hG) rfl rfl (Nat.le_of_ble_eq_true rfl) ⟨rfl, rfl⟩ ⟨Nat.le_of_ble_eq_true rfl, Nat.le_of_ble_eq_true rfl⟩ ⟨Nat.le_refl _, Nat.le_refl _⟩ dX10_stopOf_3 (aw_kv fun I_2 J_3 h => ?_)
  refine aw_aload_n 1 dX10_stopOf_6 rfl rfl ?_
  refine aw_bipush (v := 32) dX10_stopOf_7 (by decide) ?_
  obtain ⟨hi_4, h⟩ := h
  refine aw_ild dX10_stopOf_9 hb1.1 hb1.2 hi_4 ?_
  refine aw_iconst (v := 1) dX10_stopOf_10 (by decide) ?_
  refine aw_iadd dX10_stopOf_11 ?_
  refine aw_bipush (v := 7) dX10_stopOf_12 (by decide) ?_
  refine aw_irem dX10_stopOf_14 (by decide) ?_
  refine aw_zne 40 dX10_stopOf_15 (by decide) (fun c_5 => ?_) (fun c_5 => ?_)
  · have h := sw_if.f h c_5
    refine aw_sub [0] rfl ?_
    exact t_X10_stopOf_40 hG hb1  h
  · have h := sw_if.t h c_5
    refine aw_aload_n 0 dX10_stopOf_18 rfl rfl ?_
    refine gf_X10_5 fl_X10_76 (lk140 hG) dX10_stopOf_19 ?_
    refine aw_zlt 40 dX10_stopOf_22 (by decide) (fun c_6 => ?_) (fun c_6 => ?_)
    · have h := sw_if.t h c_6
      refine aw_sub [0] rfl ?_
      exact t_X10_stopOf_40 hG hb1  h
    · have h := sw_if.f h c_6
      refine aw_aload_n 0 dX10_stopOf_25 rfl rfl ?_
      refine gf_X10_5 fl_X10_76 (lk140 hG) dX10_stopOf_26 ?_
      refine aw_aload_n 1 dX10_stopOf_29 rfl rfl ?_
      refine aw_bipush (v := 31) dX10_stopOf_30 (by decide) ?_
      obtain ⟨hi_7, h⟩ := h
      refine aw_ild dX10_stopOf_32 hb1.1 hb1.2 hi_7 ?_
      refine aw_jeq 40 dX10_stopOf_33 (by decide) (fun c_8 => ?_) (fun c_8 => ?_)
      · have h := sw_if.t h c_8
        refine aw_sub [0] rfl ?_
        exact t_X10_stopOf_40 hG hb1  h
      · have h := sw_if.f h c_8
        refine aw_iconst (v := 1) dX10_stopOf_36 (by decide) ?_
        refine aw_goto 41 dX10_stopOf_37 (by decide) ?_
        refine aw_sub [0] rfl ?_
        exact t_X10_stopOf_41 hG hb1  h
theorem M_X10_stopOf {l : Launch} {D : va_G} {cy : Nat → ClassId} {sz : Nat} {G : sw_G} (hG : sw_lay G) {b1 : Nat} {n1 : Nat} (hb1 : sw_ia G b1 n1) {Q : Int32 → sw_I → sw_J → Prop} {x2 : Int32} {I : sw_I} {J : sw_J} (h : wp_X10_stopOf b1 n1 x2 I J Q) : Met l yX10_stopOf (Cond.code yX10_stopOf cX10_stopOf 4 (some .int) :: sw_T) rm_X10_stopOf (sw_Pc D cy sz [.ref (sz + 140), .ref (sz + b1), .int x2] G I J) (sw_Q D cy sz (sw_qi G Q)) 0 0 (fun q => sz ≤ q) :=
  sw_met (by decide) (fun q => by cases q) (Nat.le_of_ble_eq_true rfl) rfl (t_X10_stopOf hG hb1 h)
-- X10_travels
abbrev rm_X10_travels : Room := { frames := 5, cells := 0, slots := 0, locals := 115 }
def wB_X10_travels_87 (b1 : Nat) (n1 : Nat) (K13 : Int32 → Int32 → Int32 → Int32 → sw_I → sw_J → Prop) (Q : Int32 → sw_I → sw_J → Prop) (x2 : Int32) (x3 : Int32) (x4 : Int32) (x5 : Int32) (I : sw_I) (J : sw_J) : Prop :=
  ∀ y_1 : Int32, y_1 = x5 + 1 → K13 x2 x3 x4 y_1 I J
def wB_X10_travels_84 (b1 : Nat) (n1 : Nat) (K13 : Int32 → Int32 → Int32 → Int32 → sw_I → sw_J → Prop) (Q : Int32 → sw_I → sw_J → Prop) (x2 : Int32) (x3 : Int32) (x5 : Int32) (s0 : Int32) (s1 : Int32) (I : sw_I) (J : sw_J) : Prop :=
  ∀ y_1 : Int32, y_1 = s0 ||| s1 → wB_X10_travels_87 b1 n1 K13 Q x2 x3 y_1 x5 I J
def wB_X10_travels_62 (b1 : Nat) (n1 : Nat) (K13 : Int32 → Int32 → Int32 → Int32 → sw_I → sw_J → Prop) (Q : Int32 → sw_I → sw_J → Prop) (x2 : Int32) (x3 : Int32) (x4 : Int32) (x5 : Int32) (s1 : Int32) (s2 : Int32) (I : sw_I) (J : sw_J) : Prop :=
  vp_in s1 n1 ∧ ∀ I_2 : sw_I, I_2 = sw_up I b1 s1.toNatClampNeg s2 → vp_in x5 10 ∧ sw_if ((I_2 142 x5.toNatClampNeg) = x3) (wB_X10_travels_84 b1 n1 K13 Q x2 x3 x5 x4 ((1 : Int32) <<< (x5 &&& 31)) I_2 J) (wB_X10_travels_84 b1 n1 K13 Q x2 x3 x5 x4 0 I_2 J)
def wb_X10_travels_13 (b1 : Nat) (n1 : Nat) (K13 : Int32 → Int32 → Int32 → Int32 → sw_I → sw_J → Prop) (Q : Int32 → sw_I → sw_J → Prop) (x2 : Int32) (x3 : Int32) (x4 : Int32) (x5 : Int32) (I : sw_I) (J : sw_J) : Prop :=
  sw_if (x5 < (I 140 4)) (wp_X10_has x2 x5 I J (fun r_12 I_13 J_14 => sw_if (r_12 = 0) (wB_X10_travels_87 b1 n1 K13 Q x2 x3 x4 x5 I_13 J_14) (vp_in ((20 : Int32) + x5) n1 ∧ vp_in ((20 : Int32) + x5) n1 ∧ ∀ I_18 : sw_I, I_18 = sw_up I_13 b1 ((20 : Int32) + x5).toNatClampNeg ((I_13 b1 ((20 : Int32) + x5).toNatClampNeg) + (1 : Int32)) → vp_in x5 10 ∧ sw_if ((I_18 142 x5.toNatClampNeg) = x3) (wB_X10_travels_62 b1 n1 K13 Q x2 x3 x4 x5 x5 9 I_18 J_14) (wB_X10_travels_62 b1 n1 K13 Q x2 x3 x4 x5 x5 x3 I_18 J_14)))) (vp_in (30 : Int32) n1 ∧ ∀ I_3 : sw_I, I_3 = sw_up I b1 (30 : Int32).toNatClampNeg (x2 &&& (x4 ^^^ (-1 : Int32))) → vp_in (31 : Int32) n1 ∧ ∀ I_6 : sw_I, I_6 = sw_up I_3 b1 (31 : Int32).toNatClampNeg x3 → vp_in (32 : Int32) n1 ∧ vp_in (32 : Int32) n1 ∧ ∀ I_10 : sw_I, I_10 = sw_up I_6 b1 (32 : Int32).toNatClampNeg ((I_6 b1 (32 : Int32).toNatClampNeg) + (1 : Int32)) → Q x4 I_10 J)
def wl_X10_travels_13 (b1 : Nat) (n1 : Nat)  (Q : Int32 → sw_I → sw_J → Prop) : Nat → Int32 → Int32 → Int32 → Int32 → sw_I → sw_J → Prop
  | 0 => fun _ _ _ _ _ _ => False
  | n + 1 => fun x2 x3 x4 x5 I J => wb_X10_travels_13 b1 n1 (wl_X10_travels_13 b1 n1  Q n) Q x2 x3 x4 x5 I J
def wp_X10_travels (b1 : Nat) (n1 : Nat) (x2 : Int32) (I : sw_I) (J : sw_J) (Q : Int32 → sw_I → sw_J → Prop) : Prop :=
  wp_X10_stopOf b1 n1 x2 I J (fun r_1 I_2 J_3 => ∃ n_4 : Nat, wl_X10_travels_13 b1 n1  Q n_4 x2 r_1 0 0 I_2 J_3)
set_option maxRecDepth 20000 in
theorem t_X10_travels_87 {l : Launch} {D : va_G} {cy : Nat → ClassId} {sz : Nat} {G : sw_G} (hG : sw_lay G) {b1 : Nat} {n1 : Nat} (hb1 : sw_ia G b1 n1) {Q : Int32 → sw_I → sw_J → Prop} {K13 : Int32 → Int32 → Int32 → Int32 → sw_I → sw_J → Prop} (hK13 : ∀ (x2 : Int32) (x3 : Int32) (x4 : Int32) (x5 : Int32) (I : sw_I) (J : sw_J), K13 x2 x3 x4 x5 I J → AW l D cy sz RX10 cX10_travels 6 (some .int) false rm_X10_travels 0 0 (sw_qi G Q) 0 0 G I J 13 [(0, .ref (sz + 140)), (1, .ref (sz + b1)), (2, .int x2), (3, .int x3), (4, .int x4), (5, .int x5)] []) {x2 : Int32} {x3 : Int32} {x4 : Int32} {x5 : Int32} {I : sw_I} {J : sw_J} (h : wB_X10_travels_87 b1 n1 K13 Q x2 x3 x4 x5 I J) : AW l D cy sz RX10 cX10_travels 6 (some .int) false rm_X10_travels 0 0 (sw_qi G Q) 0 0 G I J 87 [(0, .ref (sz + 140)), (1, .ref (sz + b1)), (2, .int x2), (3, .int x3), (4, .int x4), (5, .int x5)] [] := by
  unfold wB_X10_travels_87 at h
  obtain ⟨y_1, e_2⟩ : ∃ q : Int32, q = x5 + 1 := ⟨_, rfl⟩
  have h := h y_1 e_2
  refine aw_iinc (lv' := [(5, .int y_1), (0, .ref (sz + 140)), (1, .ref (sz + b1)), (2, .int x2), (3, .int x3), (4, .int x4)]) 5 dX10_travels_87 rfl (by rw [e_2]; rfl) (by decide) rfl ?_
  refine aw_goto 13 dX10_travels_90 (by decide) ?_
  refine aw_sub [1, 2, 3, 4, 5, 0] rfl ?_
  exact hK13 x2 x3 x4 y_1 I J h
set_option maxRecDepth 20000 in
theorem t_X10_travels_84 {l : Launch} {D : va_G} {cy : Nat → ClassId} {sz : Nat} {G : sw_G} (hG : sw_lay G) {b1 : Nat} {n1 : Nat} (hb1 : sw_ia G b1 n1) {Q : Int32 → sw_I → sw_J → Prop} {K13 : Int32 → Int32 → Int32 → Int32 → sw_I → sw_J → Prop} (hK13 : ∀ (x2 : Int32) (x3 : Int32) (x4 : Int32) (x5 : Int32) (I : sw_I) (J : sw_J), K13 x2 x3 x4 x5 I J → AW l D cy sz RX10 cX10_travels 6 (some .int) false rm_X10_travels 0 0 (sw_qi G Q) 0 0 G I J 13 [(0, .ref (sz + 140)), (1, .ref (sz + b1)), (2, .int x2), (3, .int x3), (4, .int x4), (5, .int x5)] []) {x2 : Int32} {x3 : Int32} {x5 : Int32} {s0 : Int32} {s1 : Int32} {I : sw_I} {J : sw_J} (h : wB_X10_travels_84 b1 n1 K13 Q x2 x3 x5 s0 s1 I J) : AW l D cy sz RX10 cX10_travels 6 (some .int) false rm_X10_travels 0 0 (sw_qi G Q) 0 0 G I J 84 [(0, .ref (sz + 140)), (1, .ref (sz + b1)), (2, .int x2), (3, .int x3), (5, .int x5)] [.int s1, .int s0] := by
  unfold wB_X10_travels_84 at h
  refine aw_ior dX10_travels_84 ?_
  refine aw_topi (fun y_1 e_2 => ?_)
  have h := h y_1 e_2
  refine aw_istore (lv' := [(4, .int y_1), (0, .ref (sz + 140)), (1, .ref (sz + b1)), (2, .int x2), (3, .int x3), (5, .int x5)]) dX10_travels_85 (by decide) rfl ?_
  refine aw_sub [1, 2, 3, 4, 0, 5] rfl ?_
  exact t_X10_travels_87 hG hb1 hK13 h
set_option maxRecDepth 20000 in
theorem t_X10_travels_62 {l : Launch} {D : va_G} {cy : Nat → ClassId} {sz : Nat} {G : sw_G} (hG : sw_lay G) {b1 : Nat} {n1 : Nat} (hb1 : sw_ia G b1 n1) {Q : Int32 → sw_I → sw_J → Prop} {K13 : Int32 → Int32 → Int32 → Int32 → sw_I → sw_J → Prop} (hK13 : ∀ (x2 : Int32) (x3 : Int32) (x4 : Int32) (x5 : Int32) (I : sw_I) (J : sw_J), K13 x2 x3 x4 x5 I J → AW l D cy sz RX10 cX10_travels 6 (some .int) false rm_X10_travels 0 0 (sw_qi G Q) 0 0 G I J 13 [(0, .ref (sz + 140)), (1, .ref (sz + b1)), (2, .int x2), (3, .int x3), (4, .int x4), (5, .int x5)] []) {x2 : Int32} {x3 : Int32} {x4 : Int32} {x5 : Int32} {s1 : Int32} {s2 : Int32} {I : sw_I} {J : sw_J} (h : wB_X10_travels_62 b1 n1 K13 Q x2 x3 x4 x5 s1 s2 I J) : AW l D cy sz RX10 cX10_travels 6 (some .int) false rm_X10_travels 0 0 (sw_qi G Q) 0 0 G I J 62 [(0, .ref (sz + 140)), (1, .ref (sz + b1)), (2, .int x2), (3, .int x3), (4, .int x4), (5, .int x5)] [.int s2, .int s1, .ref (sz + b1)] := by
  unfold wB_X10_travels_62 at h
  obtain ⟨hi_1, h⟩ := h
  refine aw_ist dX10_travels_62 hb1.1 hb1.2 hi_1 (aw_nameI fun I_2 e_3 => ?_)
  have h := h I_2 e_3
  refine aw_iload 4 dX10_travels_63 rfl ?_
  refine aw_aload_n 0 dX10_travels_65 rfl rfl ?_
  refine gf_X10_7 fl_X10_135 (lk140 hG) (lr140_7 hG) dX10_travels_66 ?_
  refine aw_iload 5 dX10_travels_69 rfl ?_
  obtain ⟨hi_4, h⟩ := h
  refine aw_ild dX10_travels_71 (lk142 hG) (ln142 hG) hi_4 ?_
  refine aw_iload_n 3 dX10_travels_72 rfl rfl ?_
  refine aw_jne 83 dX10_travels_73 (by decide) (fun c_5 => ?_) (fun c_5 => ?_)
  · have h := sw_if.f h c_5
    refine aw_iconst (v := 0) dX10_travels_83 (by decide) ?_
    refine aw_sub [0, 1, 2, 3, 5] rfl ?_
    exact t_X10_travels_84 hG hb1 hK13 h
  · have h := sw_if.t h c_5
    refine aw_iconst (v := 1) dX10_travels_76 (by decide) ?_
    refine aw_iload 5 dX10_travels_77 rfl ?_
    refine aw_ishl dX10_travels_79 ?_
    refine aw_goto 84 dX10_travels_80 (by decide) ?_
    refine aw_sub [0, 1, 2, 3, 5] rfl ?_
    exact t_X10_travels_84 hG hb1 hK13 h
set_option maxRecDepth 20000 in
theorem tb_X10_travels_13 {l : Launch} {D : va_G} {cy : Nat → ClassId} {sz : Nat} {G : sw_G} (hG : sw_lay G) {b1 : Nat} {n1 : Nat} (hb1 : sw_ia G b1 n1) {Q : Int32 → sw_I → sw_J → Prop} {K13 : Int32 → Int32 → Int32 → Int32 → sw_I → sw_J → Prop} (hK13 : ∀ (x2 : Int32) (x3 : Int32) (x4 : Int32) (x5 : Int32) (I : sw_I) (J : sw_J), K13 x2 x3 x4 x5 I J → AW l D cy sz RX10 cX10_travels 6 (some .int) false rm_X10_travels 0 0 (sw_qi G Q) 0 0 G I J 13 [(0, .ref (sz + 140)), (1, .ref (sz + b1)), (2, .int x2), (3, .int x3), (4, .int x4), (5, .int x5)] []) {x2 : Int32} {x3 : Int32} {x4 : Int32} {x5 : Int32} {I : sw_I} {J : sw_J} (h : wb_X10_travels_13 b1 n1 K13 Q x2 x3 x4 x5 I J) : AW l D cy sz RX10 cX10_travels 6 (some .int) false rm_X10_travels 0 0 (sw_qi G Q) 0 0 G I J 13 [(0, .ref (sz + 140)), (1, .ref (sz + b1)), (2, .int x2), (3, .int x3), (4, .int x4), (5, .int x5)] [] := by
  unfold wb_X10_travels_13 at h
  refine aw_iload 5 dX10_travels_13 rfl ?_
  refine aw_aload_n 0 dX10_travels_15 rfl rfl ?_
  refine gf_X10_4 fl_X10_29 (lk140 hG) dX10_travels_16 ?_
  refine aw_jge 93 dX10_travels_19 (by decide) (fun c_1 => ?_) (fun c_1 => ?_)
  · have h := sw_if.f h c_1
    refine aw_aload_n 1 dX10_travels_93 rfl rfl ?_
    refine aw_bipush (v := 30) dX10_travels_94 (by decide) ?_
    refine aw_iload_n 2 dX10_travels_96 rfl rfl ?_
    refine aw_iload 4 dX10_travels_97 rfl ?_
    refine aw_iconst (v := (-1)) dX10_travels_99 (by decide) ?_
    refine aw_ixor dX10_travels_100 ?_
    refine aw_iand dX10_travels_101 ?_
    obtain ⟨hi_2, h⟩ := h
    refine aw_ist dX10_travels_102 hb1.1 hb1.2 hi_2 (aw_nameI fun I_3 e_4 => ?_)
    have h := h I_3 e_4
    refine aw_aload_n 1 dX10_travels_103 rfl rfl ?_
    refine aw_bipush (v := 31) dX10_travels_104 (by decide) ?_
    refine aw_iload_n 3 dX10_travels_106 rfl rfl ?_
    obtain ⟨hi_5, h⟩ := h
    refine aw_ist dX10_travels_107 hb1.1 hb1.2 hi_5 (aw_nameI fun I_6 e_7 => ?_)
    have h := h I_6 e_7
    refine aw_aload_n 1 dX10_travels_108 rfl rfl ?_
    refine aw_bipush (v := 32) dX10_travels_109 (by decide) ?_
    refine aw_dup2 dX10_travels_111 rfl rfl ?_
    obtain ⟨hi_8, h⟩ := h
    refine aw_ild dX10_travels_112 hb1.1 hb1.2 hi_8 ?_
    refine aw_iconst (v := 1) dX10_travels_113 (by decide) ?_
    refine aw_iadd dX10_travels_114 ?_
    obtain ⟨hi_9, h⟩ := h
    refine aw_ist dX10_travels_115 hb1.1 hb1.2 hi_9 (aw_nameI fun I_10 e_11 => ?_)
    have h := h I_10 e_11
    refine aw_iload 4 dX10_travels_116 rfl ?_
    exact aw_iret rfl dX10_travels_118 ⟨rfl, _, rfl, h⟩
  · have h := sw_if.t h c_1
    refine aw_iload_n 2 dX10_travels_22 rfl rfl ?_
    refine aw_iload 5 dX10_travels_23 rfl ?_
    refine aw_callS wv_X10_has (M_X10_has trivial  h) ml_X10_195 rfl rfl (Nat.le_of_ble_eq_true rfl) ⟨rfl, rfl⟩ ⟨Nat.le_of_ble_eq_true rfl, Nat.le_of_ble_eq_true rfl⟩ ⟨Nat.le_refl _, Nat.le_refl _⟩ dX10_travels_25 (aw_ki fun r_12 I_13 J_14 h => ?_)
    refine aw_zeq 87 dX10_travels_28 (by decide) (fun c_15 => ?_) (fun c_15 => ?_)
    · have h := sw_if.t h c_15
      refine aw_sub [0, 1, 2, 3, 4, 5] rfl ?_
      exact t_X10_travels_87 hG hb1 hK13 h
    · have h := sw_if.f h c_15
      refine aw_aload_n 1 dX10_travels_31 rfl rfl ?_
      refine aw_bipush (v := 20) dX10_travels_32 (by decide) ?_
      refine aw_iload 5 dX10_travels_34 rfl ?_
      refine aw_iadd dX10_travels_36 ?_
      refine aw_dup2 dX10_travels_37 rfl rfl ?_
      obtain ⟨hi_16, h⟩ := h
      refine aw_ild dX10_travels_38 hb1.1 hb1.2 hi_16 ?_
      refine aw_iconst (v := 1) dX10_travels_39 (by decide) ?_
      refine aw_iadd dX10_travels_40 ?_
      obtain ⟨hi_17, h⟩ := h
      refine aw_ist dX10_travels_41 hb1.1 hb1.2 hi_17 (aw_nameI fun I_18 e_19 => ?_)
      have h := h I_18 e_19
      refine aw_aload_n 1 dX10_travels_42 rfl rfl ?_
      refine aw_iload 5 dX10_travels_43 rfl ?_
      refine aw_aload_n 0 dX10_travels_45 rfl rfl ?_
      refine gf_X10_7 fl_X10_135 (lk140 hG) (lr140_7 hG) dX10_travels_46 ?_
      refine aw_iload 5 dX10_travels_49 rfl ?_
      obtain ⟨hi_20, h⟩ := h
      refine aw_ild dX10_travels_51 (lk142 hG) (ln142 hG) hi_20 ?_
      refine aw_iload_n 3 dX10_travels_52 rfl rfl ?_
      refine aw_jne 61 dX10_travels_53 (by decide) (fun c_21 => ?_) (fun c_21 => ?_)
      · have h := sw_if.f h c_21
        refine aw_iload_n 3 dX10_travels_61 rfl rfl ?_
        refine aw_sub [0, 1, 2, 3, 4, 5] rfl ?_
        exact t_X10_travels_62 hG hb1 hK13 h
      · have h := sw_if.t h c_21
        refine aw_bipush (v := 9) dX10_travels_56 (by decide) ?_
        refine aw_goto 62 dX10_travels_58 (by decide) ?_
        refine aw_sub [0, 1, 2, 3, 4, 5] rfl ?_
        exact t_X10_travels_62 hG hb1 hK13 h
set_option maxRecDepth 20000 in
theorem tl_X10_travels_13 {l : Launch} {D : va_G} {cy : Nat → ClassId} {sz : Nat} {G : sw_G} (hG : sw_lay G) {b1 : Nat} {n1 : Nat} (hb1 : sw_ia G b1 n1) {Q : Int32 → sw_I → sw_J → Prop} : ∀ (n : Nat) (x2 : Int32) (x3 : Int32) (x4 : Int32) (x5 : Int32) (I : sw_I) (J : sw_J), wl_X10_travels_13 b1 n1  Q n x2 x3 x4 x5 I J → AW l D cy sz RX10 cX10_travels 6 (some .int) false rm_X10_travels 0 0 (sw_qi G Q) 0 0 G I J 13 [(0, .ref (sz + 140)), (1, .ref (sz + b1)), (2, .int x2), (3, .int x3), (4, .int x4), (5, .int x5)] [] := by
  intro n
  induction n with
  | zero => intro x2 x3 x4 x5 I J h; exact False.elim h
  | succ n ih => intro x2 x3 x4 x5 I J h; exact tb_X10_travels_13 hG hb1 ih h
set_option maxRecDepth 20000 in
theorem t_X10_travels {l : Launch} {D : va_G} {cy : Nat → ClassId} {sz : Nat} {G : sw_G} (hG : sw_lay G) {b1 : Nat} {n1 : Nat} (hb1 : sw_ia G b1 n1) {Q : Int32 → sw_I → sw_J → Prop} {x2 : Int32} {I : sw_I} {J : sw_J} (h : wp_X10_travels b1 n1 x2 I J Q) : AW l D cy sz RX10 cX10_travels 6 (some .int) false rm_X10_travels 0 0 (sw_qi G Q) 0 0 G I J 0 [(0, .ref (sz + 140)), (1, .ref (sz + b1)), (2, .int x2)] [] := by
  unfold wp_X10_travels at h
  refine aw_aload_n 0 dX10_travels_0 rfl rfl ?_
  refine aw_aload_n 1 dX10_travels_1 rfl rfl ?_
  refine aw_iload_n 2 dX10_travels_2 rfl rfl ?_
  refine aw_callV wv_X10_stopOf (M_X10_stopOf hG ⟨hb1.1, hb1.2⟩ h) ml_X10_222 rfl (by decide) (lk140 hG) rfl rfl (Nat.le_of_ble_eq_true rfl) ⟨rfl, rfl⟩ ⟨Nat.le_of_ble_eq_true rfl, Nat.le_of_ble_eq_true rfl⟩ ⟨Nat.le_refl _, Nat.le_refl _⟩ dX10_travels_3 (aw_ki fun r_1 I_2 J_3 h => ?_)
  refine aw_istore_n (lv' := [(3, .int r_1), (0, .ref (sz + 140)), (1, .ref (sz + b1)), (2, .int x2)]) dX10_travels_6 rfl (by decide) rfl ?_
  refine aw_iconst (v := 0) dX10_travels_7 (by decide) ?_
  refine aw_istore (lv' := [(4, .int 0), (3, .int r_1), (0, .ref (sz + 140)), (1, .ref (sz + b1)), (2, .int x2)]) dX10_travels_8 (by decide) rfl ?_
  refine aw_iconst (v := 0) dX10_travels_10 (by decide) ?_
  refine aw_istore (lv' := [(5, .int 0), (4, .int 0), (3, .int r_1), (0, .ref (sz + 140)), (1, .ref (sz + b1)), (2, .int x2)]) dX10_travels_11 (by decide) rfl ?_
  refine aw_sub [3, 4, 5, 2, 1, 0] rfl ?_
  obtain ⟨n_4, h⟩ := h
  exact tl_X10_travels_13 hG hb1  n_4 x2 r_1 0 0 I_2 J_3 h
theorem M_X10_travels {l : Launch} {D : va_G} {cy : Nat → ClassId} {sz : Nat} {G : sw_G} (hG : sw_lay G) {b1 : Nat} {n1 : Nat} (hb1 : sw_ia G b1 n1) {Q : Int32 → sw_I → sw_J → Prop} {x2 : Int32} {I : sw_I} {J : sw_J} (h : wp_X10_travels b1 n1 x2 I J Q) : Met l yX10_travels (Cond.code yX10_travels cX10_travels 6 (some .int) :: sw_T) rm_X10_travels (sw_Pc D cy sz [.ref (sz + 140), .ref (sz + b1), .int x2] G I J) (sw_Q D cy sz (sw_qi G Q)) 0 0 (fun q => sz ≤ q) :=
  sw_met (by decide) (fun q => by cases q) (Nat.le_of_ble_eq_true rfl) rfl (t_X10_travels hG hb1 h)
-- X10_ride
abbrev rm_X10_ride : Room := { frames := 6, cells := 0, slots := 0, locals := 140 }
def wp_X10_ride  (I : sw_I) (J : sw_J) (Q : Int32 → sw_I → sw_J → Prop) : Prop :=
  ∀ I_1 : sw_I, I_1 = sw_up I 140 0 (0 : Int32) → wp_X10_putsBy  I_1 J (fun I_4 J_5 => wp_X10_travels 144 33 (I_4 144 (30 : Int32).toNatClampNeg) I_4 J_5 (fun r_7 I_8 J_9 => wp_X10_adds  I_8 J_9 (fun I_11 J_12 => ∀ I_13 : sw_I, I_13 = sw_up I_11 140 1 (0 : Int32) → wp_X10_enters r_7.toInt64 I_13 J_12 (fun I_16 J_17 => Q (I_16 144 (31 : Int32).toNatClampNeg) I_16 J_17))))
set_option maxRecDepth 20000 in
theorem t_X10_ride {l : Launch} {D : va_G} {cy : Nat → ClassId} {sz : Nat} {G : sw_G} (hG : sw_lay G)   {Q : Int32 → sw_I → sw_J → Prop}  {I : sw_I} {J : sw_J} (h : wp_X10_ride  I J Q) : AW l D cy sz RX10 cX10_ride 2 (some .int) false rm_X10_ride 0 0 (sw_qi G Q) 0 0 G I J 0 [(0, .ref (sz + 140))] [] := by
  unfold wp_X10_ride at h
  refine aw_aload_n 0 dX10_ride_0 rfl rfl ?_
  refine aw_iconst (v := 0) dX10_ride_1 (by decide) ?_
  refine pf_X10_0 fl_X10_3 (lk140 hG) dX10_ride_2 (aw_nameI fun I_1 e_2 => ?_)
  have h := h I_1 e_2
  refine aw_aload_n 0 dX10_ride_5 rfl rfl ?_
  refine aw_callV wv_X10_putsBy (M_X10_putsBy hG  h) ml_X10_251 rfl (by decide) (lk140 hG) rfl rfl (Nat.le_of_ble_eq_true rfl) ⟨rfl, rfl⟩ ⟨Nat.le_of_ble_eq_true rfl, Nat.le_of_ble_eq_true rfl⟩ ⟨Nat.le_refl _, Nat.le_refl _⟩ dX10_ride_6 (aw_kv fun I_4 J_5 h => ?_)
  refine aw_aload_n 0 dX10_ride_9 rfl rfl ?_
  refine aw_aload_n 0 dX10_ride_10 rfl rfl ?_
  refine gf_X10_9 fl_X10_79 (lk140 hG) (lr140_9 hG) dX10_ride_11 ?_
  refine aw_aload_n 0 dX10_ride_14 rfl rfl ?_
  refine gf_X10_9 fl_X10_79 (lk140 hG) (lr140_9 hG) dX10_ride_15 ?_
  refine aw_bipush (v := 30) dX10_ride_18 (by decide) ?_
  refine aw_ild dX10_ride_20 (lk144 hG) (ln144 hG) (by unfold vp_in; decide) ?_
  refine aw_callV wv_X10_travels (M_X10_travels hG ⟨(lk144 hG), (ln144 hG)⟩ h) ml_X10_261 rfl (by decide) (lk140 hG) rfl rfl (Nat.le_of_ble_eq_true rfl) ⟨rfl, rfl⟩ ⟨Nat.le_of_ble_eq_true rfl, Nat.le_of_ble_eq_true rfl⟩ ⟨Nat.le_refl _, Nat.le_refl _⟩ dX10_ride_21 (aw_ki fun r_7 I_8 J_9 h => ?_)
  refine aw_istore_n (lv' := [(1, .int r_7), (0, .ref (sz + 140))]) dX10_ride_24 rfl (by decide) rfl ?_
  refine aw_aload_n 1 dX10_ride_25 rfl rfl ?_
  refine aw_callV wv_X10_adds (M_X10_adds hG  h) ml_X10_255 rfl (by decide) (lk140 hG) rfl rfl (Nat.le_of_ble_eq_true rfl) ⟨rfl, rfl⟩ ⟨Nat.le_of_ble_eq_true rfl, Nat.le_of_ble_eq_true rfl⟩ ⟨Nat.le_refl _, Nat.le_refl _⟩ dX10_ride_26 (aw_kv fun I_11 J_12 h => ?_)
  refine aw_aload_n 1 dX10_ride_29 rfl rfl ?_
  refine aw_iconst (v := 0) dX10_ride_30 (by decide) ?_
  refine pf_X10_1 fl_X10_15 (lk140 hG) dX10_ride_31 (aw_nameI fun I_13 e_14 => ?_)
  have h := h I_13 e_14
  refine aw_aload_n 1 dX10_ride_34 rfl rfl ?_
  refine aw_iload_n 0 dX10_ride_35 rfl rfl ?_
  refine aw_i2l dX10_ride_36 ?_
  refine aw_callV wv_X10_enters (M_X10_enters hG  h) ml_X10_18 rfl (by decide) (lk140 hG) rfl rfl (Nat.le_of_ble_eq_true rfl) ⟨rfl, rfl⟩ ⟨Nat.le_of_ble_eq_true rfl, Nat.le_of_ble_eq_true rfl⟩ ⟨Nat.le_refl _, Nat.le_refl _⟩ dX10_ride_37 (aw_kv fun I_16 J_17 h => ?_)
  refine aw_aload_n 1 dX10_ride_40 rfl rfl ?_
  refine gf_X10_9 fl_X10_79 (lk140 hG) (lr140_9 hG) dX10_ride_41 ?_
  refine aw_bipush (v := 31) dX10_ride_44 (by decide) ?_
  refine aw_ild dX10_ride_46 (lk144 hG) (ln144 hG) (by unfold vp_in; decide) ?_
  exact aw_iret rfl dX10_ride_47 ⟨rfl, _, rfl, h⟩
theorem M_X10_ride {l : Launch} {D : va_G} {cy : Nat → ClassId} {sz : Nat} {G : sw_G} (hG : sw_lay G)   {Q : Int32 → sw_I → sw_J → Prop}  {I : sw_I} {J : sw_J} (h : wp_X10_ride  I J Q) : Met l yX10_ride (Cond.code yX10_ride cX10_ride 2 (some .int) :: sw_T) rm_X10_ride (sw_Pc D cy sz [.ref (sz + 140)] G I J) (sw_Q D cy sz (sw_qi G Q)) 0 0 (fun q => sz ≤ q) :=
  sw_met (by decide) (fun q => by cases q) (Nat.le_of_ble_eq_true rfl) rfl (t_X10_ride hG  h)
-- X10_rides
abbrev rm_X10_rides : Room := { frames := 6, cells := 0, slots := 0, locals := 140 }
def wB_X10_rides_74   (Q : Int32 → sw_I → sw_J → Prop) (x2 : Int32) (x3 : Int32) (I : sw_I) (J : sw_J) : Prop :=
  ∀ I_1 : sw_I, I_1 = sw_up I 140 1 (0 : Int32) → wp_X10_enters x3.toInt64 I_1 J (fun I_4 J_5 => wp_X10_enters ((I_4 144 (31 : Int32).toNatClampNeg).toInt64) I_4 J_5 (fun I_8 J_9 => Q x2 I_8 J_9))
def wB_X10_rides_66   (Q : Int32 → sw_I → sw_J → Prop) (x2 : Int32) (x3 : Int32) (I : sw_I) (J : sw_J) : Prop :=
  sw_if (0 < x2) (wp_X10_adds  I J (fun I_3 J_4 => wB_X10_rides_74   Q x2 x3 I_3 J_4)) (wB_X10_rides_74   Q x2 x3 I J)
def wb_X10_rides_27  (K27 : Int32 → Int32 → Int32 → sw_I → sw_J → Prop) (Q : Int32 → sw_I → sw_J → Prop) (x1 : Int32) (x2 : Int32) (x3 : Int32) (I : sw_I) (J : sw_J) : Prop :=
  sw_if (x2 < x1) (sw_if ((I 144 (30 : Int32).toNatClampNeg) = 0) (wB_X10_rides_66   Q x2 x3 I J) (wp_X10_travels 144 33 (I 144 (30 : Int32).toNatClampNeg) I J (fun r_5 I_6 J_7 => ∀ y_8 : Int32, y_8 = x3 ||| r_5 → ∀ y_10 : Int32, y_10 = x2 + 1 → K27 x1 y_10 y_8 I_6 J_7))) (wB_X10_rides_66   Q x2 x3 I J)
def wl_X10_rides_27   (Q : Int32 → sw_I → sw_J → Prop) : Nat → Int32 → Int32 → Int32 → sw_I → sw_J → Prop
  | 0 => fun _ _ _ _ _ => False
  | n + 1 => fun x1 x2 x3 I J => wb_X10_rides_27  (wl_X10_rides_27   Q n) Q x1 x2 x3 I J
def wp_X10_rides (x1 : Int32) (I : sw_I) (J : sw_J) (Q : Int32 → sw_I → sw_J → Prop) : Prop :=
  ∀ I_1 : sw_I, I_1 = sw_up I 140 0 (0 : Int32) → wp_X10_in x1.toInt64 0 60 I_1 J (fun r_3 I_4 J_5 => sw_if (r_3 = 0) (Q (-1 : Int32) I_4 J_5) (wp_X10_putsBy  I_4 J_5 (fun I_8 J_9 => ∃ n_10 : Nat, wl_X10_rides_27   Q n_10 x1 0 0 I_8 J_9)))
set_option maxRecDepth 20000 in
theorem t_X10_rides_74 {l : Launch} {D : va_G} {cy : Nat → ClassId} {sz : Nat} {G : sw_G} (hG : sw_lay G)   {Q : Int32 → sw_I → sw_J → Prop} {x2 : Int32} {x3 : Int32} {I : sw_I} {J : sw_J} (h : wB_X10_rides_74   Q x2 x3 I J) : AW l D cy sz RX10 cX10_rides 4 (some .int) false rm_X10_rides 0 0 (sw_qi G Q) 0 0 G I J 74 [(0, .ref (sz + 140)), (2, .int x2), (3, .int x3)] [] := by
  unfold wB_X10_rides_74 at h
  refine aw_aload_n 0 dX10_rides_74 rfl rfl ?_
  refine aw_iconst (v := 0) dX10_rides_75 (by decide) ?_
  refine pf_X10_1 fl_X10_15 (lk140 hG) dX10_rides_76 (aw_nameI fun I_1 e_2 => ?_)
  have h := h I_1 e_2
  refine aw_aload_n 0 dX10_rides_79 rfl rfl ?_
  refine aw_iload_n 2 dX10_rides_80 rfl rfl ?_
  refine aw_i2l dX10_rides_81 ?_
  refine aw_callV wv_X10_enters (M_X10_enters hG  h) ml_X10_18 rfl (by decide) (lk140 hG) rfl rfl (Nat.le_of_ble_eq_true rfl) ⟨rfl, rfl⟩ ⟨Nat.le_of_ble_eq_true rfl, Nat.le_of_ble_eq_true rfl⟩ ⟨Nat.le_refl _, Nat.le_refl _⟩ dX10_rides_82 (aw_kv fun I_4 J_5 h => ?_)
  refine aw_aload_n 0 dX10_rides_85 rfl rfl ?_
  refine aw_aload_n 0 dX10_rides_86 rfl rfl ?_
  refine gf_X10_9 fl_X10_79 (lk140 hG) (lr140_9 hG) dX10_rides_87 ?_
  refine aw_bipush (v := 31) dX10_rides_90 (by decide) ?_
  refine aw_ild dX10_rides_92 (lk144 hG) (ln144 hG) (by unfold vp_in; decide) ?_
  refine aw_i2l dX10_rides_93 ?_
  refine aw_callV wv_X10_enters (M_X10_enters hG  h) ml_X10_18 rfl (by decide) (lk140 hG) rfl rfl (Nat.le_of_ble_eq_true rfl) ⟨rfl, rfl⟩ ⟨Nat.le_of_ble_eq_true rfl, Nat.le_of_ble_eq_true rfl⟩ ⟨Nat.le_refl _, Nat.le_refl _⟩ dX10_rides_94 (aw_kv fun I_8 J_9 h => ?_)
  refine aw_iload_n 1 dX10_rides_97 rfl rfl ?_
  exact aw_iret rfl dX10_rides_98 ⟨rfl, _, rfl, h⟩
set_option maxRecDepth 20000 in
theorem t_X10_rides_66 {l : Launch} {D : va_G} {cy : Nat → ClassId} {sz : Nat} {G : sw_G} (hG : sw_lay G)   {Q : Int32 → sw_I → sw_J → Prop} {x2 : Int32} {x3 : Int32} {I : sw_I} {J : sw_J} (h : wB_X10_rides_66   Q x2 x3 I J) : AW l D cy sz RX10 cX10_rides 4 (some .int) false rm_X10_rides 0 0 (sw_qi G Q) 0 0 G I J 66 [(0, .ref (sz + 140)), (2, .int x2), (3, .int x3)] [] := by
  unfold wB_X10_rides_66 at h
  refine aw_iload_n 1 dX10_rides_66 rfl rfl ?_
  refine aw_zle 74 dX10_rides_67 (by decide) (fun c_1 => ?_) (fun c_1 => ?_)
  · have h := sw_if.f h c_1
    refine aw_sub [0, 1, 2] rfl ?_
    exact t_X10_rides_74 hG   h
  · have h := sw_if.t h c_1
    refine aw_aload_n 0 dX10_rides_70 rfl rfl ?_
    refine aw_callV wv_X10_adds (M_X10_adds hG  h) ml_X10_255 rfl (by decide) (lk140 hG) rfl rfl (Nat.le_of_ble_eq_true rfl) ⟨rfl, rfl⟩ ⟨Nat.le_of_ble_eq_true rfl, Nat.le_of_ble_eq_true rfl⟩ ⟨Nat.le_refl _, Nat.le_refl _⟩ dX10_rides_71 (aw_kv fun I_3 J_4 h => ?_)
    refine aw_sub [0, 1, 2] rfl ?_
    exact t_X10_rides_74 hG   h
set_option maxRecDepth 20000 in
theorem tb_X10_rides_27 {l : Launch} {D : va_G} {cy : Nat → ClassId} {sz : Nat} {G : sw_G} (hG : sw_lay G)   {Q : Int32 → sw_I → sw_J → Prop} {K27 : Int32 → Int32 → Int32 → sw_I → sw_J → Prop} (hK27 : ∀ (x1 : Int32) (x2 : Int32) (x3 : Int32) (I : sw_I) (J : sw_J), K27 x1 x2 x3 I J → AW l D cy sz RX10 cX10_rides 4 (some .int) false rm_X10_rides 0 0 (sw_qi G Q) 0 0 G I J 27 [(0, .ref (sz + 140)), (1, .int x1), (2, .int x2), (3, .int x3)] []) {x1 : Int32} {x2 : Int32} {x3 : Int32} {I : sw_I} {J : sw_J} (h : wb_X10_rides_27  K27 Q x1 x2 x3 I J) : AW l D cy sz RX10 cX10_rides 4 (some .int) false rm_X10_rides 0 0 (sw_qi G Q) 0 0 G I J 27 [(0, .ref (sz + 140)), (1, .int x1), (2, .int x2), (3, .int x3)] [] := by
  unfold wb_X10_rides_27 at h
  refine aw_iload_n 2 dX10_rides_27 rfl rfl ?_
  refine aw_iload_n 1 dX10_rides_28 rfl rfl ?_
  refine aw_jge 66 dX10_rides_29 (by decide) (fun c_1 => ?_) (fun c_1 => ?_)
  · have h := sw_if.f h c_1
    refine aw_sub [0, 2, 3] rfl ?_
    exact t_X10_rides_66 hG   h
  · have h := sw_if.t h c_1
    refine aw_aload_n 0 dX10_rides_32 rfl rfl ?_
    refine gf_X10_9 fl_X10_79 (lk140 hG) (lr140_9 hG) dX10_rides_33 ?_
    refine aw_bipush (v := 30) dX10_rides_36 (by decide) ?_
    refine aw_ild dX10_rides_38 (lk144 hG) (ln144 hG) (by unfold vp_in; decide) ?_
    refine aw_zeq 66 dX10_rides_39 (by decide) (fun c_3 => ?_) (fun c_3 => ?_)
    · have h := sw_if.t h c_3
      refine aw_sub [0, 2, 3] rfl ?_
      exact t_X10_rides_66 hG   h
    · have h := sw_if.f h c_3
      refine aw_iload_n 3 dX10_rides_42 rfl rfl ?_
      refine aw_aload_n 0 dX10_rides_43 rfl rfl ?_
      refine aw_aload_n 0 dX10_rides_44 rfl rfl ?_
      refine gf_X10_9 fl_X10_79 (lk140 hG) (lr140_9 hG) dX10_rides_45 ?_
      refine aw_aload_n 0 dX10_rides_48 rfl rfl ?_
      refine gf_X10_9 fl_X10_79 (lk140 hG) (lr140_9 hG) dX10_rides_49 ?_
      refine aw_bipush (v := 30) dX10_rides_52 (by decide) ?_
      refine aw_ild dX10_rides_54 (lk144 hG) (ln144 hG) (by unfold vp_in; decide) ?_
      refine aw_callV wv_X10_travels (M_X10_travels hG ⟨(lk144 hG), (ln144 hG)⟩ h) ml_X10_261 rfl (by decide) (lk140 hG) rfl rfl (Nat.le_of_ble_eq_true rfl) ⟨rfl, rfl⟩ ⟨Nat.le_of_ble_eq_true rfl, Nat.le_of_ble_eq_true rfl⟩ ⟨Nat.le_refl _, Nat.le_refl _⟩ dX10_rides_55 (aw_ki fun r_5 I_6 J_7 h => ?_)
      refine aw_ior dX10_rides_58 ?_
      refine aw_topi (fun y_8 e_9 => ?_)
      have h := h y_8 e_9
      refine aw_istore_n (lv' := [(3, .int y_8), (0, .ref (sz + 140)), (1, .int x1), (2, .int x2)]) dX10_rides_59 rfl (by decide) rfl ?_
      obtain ⟨y_10, e_11⟩ : ∃ q : Int32, q = x2 + 1 := ⟨_, rfl⟩
      have h := h y_10 e_11
      refine aw_iinc (lv' := [(2, .int y_10), (3, .int y_8), (0, .ref (sz + 140)), (1, .int x1)]) 3 dX10_rides_60 rfl (by rw [e_11]; rfl) (by decide) rfl ?_
      refine aw_goto 27 dX10_rides_63 (by decide) ?_
      refine aw_sub [2, 3, 0, 1] rfl ?_
      exact hK27 x1 y_10 y_8 I_6 J_7 h
set_option maxRecDepth 20000 in
theorem tl_X10_rides_27 {l : Launch} {D : va_G} {cy : Nat → ClassId} {sz : Nat} {G : sw_G} (hG : sw_lay G)   {Q : Int32 → sw_I → sw_J → Prop} : ∀ (n : Nat) (x1 : Int32) (x2 : Int32) (x3 : Int32) (I : sw_I) (J : sw_J), wl_X10_rides_27   Q n x1 x2 x3 I J → AW l D cy sz RX10 cX10_rides 4 (some .int) false rm_X10_rides 0 0 (sw_qi G Q) 0 0 G I J 27 [(0, .ref (sz + 140)), (1, .int x1), (2, .int x2), (3, .int x3)] [] := by
  intro n
  induction n with
  | zero => intro x1 x2 x3 I J h; exact False.elim h
  | succ n ih => intro x1 x2 x3 I J h; exact tb_X10_rides_27 hG  ih h
set_option maxRecDepth 20000 in
theorem t_X10_rides {l : Launch} {D : va_G} {cy : Nat → ClassId} {sz : Nat} {G : sw_G} (hG : sw_lay G)   {Q : Int32 → sw_I → sw_J → Prop} {x1 : Int32} {I : sw_I} {J : sw_J} (h : wp_X10_rides x1 I J Q) : AW l D cy sz RX10 cX10_rides 4 (some .int) false rm_X10_rides 0 0 (sw_qi G Q) 0 0 G I J 0 [(0, .ref (sz + 140)), (1, .int x1)] [] := by
  unfold wp_X10_rides at h
  refine aw_aload_n 0 dX10_rides_0 rfl rfl ?_
  refine aw_iconst (v := 0) dX10_rides_1 (by decide) ?_
  refine pf_X10_0 fl_X10_3 (lk140 hG) dX10_rides_2 (aw_nameI fun I_1 e_2 => ?_)
  have h := h I_1 e_2
  refine aw_iload_n 1 dX10_rides_5 rfl rfl ?_
  refine aw_i2l dX10_rides_6 ?_
  refine aw_lconst (v := 0) dX10_rides_7 (by decide) ?_
  refine aw_ldc2 (v := 60) dX10_rides_8 k_X10_264 ?_
  refine aw_callS wv_X10_in (M_X10_in trivial  h) ml_X10_25 rfl rfl (Nat.le_of_ble_eq_true rfl) ⟨rfl, rfl⟩ ⟨Nat.le_of_ble_eq_true rfl, Nat.le_of_ble_eq_true rfl⟩ ⟨Nat.le_refl _, Nat.le_refl _⟩ dX10_rides_11 (aw_ki fun r_3 I_4 J_5 h => ?_)
  refine aw_zne 19 dX10_rides_14 (by decide) (fun c_6 => ?_) (fun c_6 => ?_)
  · have h := sw_if.f h c_6
    refine aw_aload_n 0 dX10_rides_19 rfl rfl ?_
    refine aw_callV wv_X10_putsBy (M_X10_putsBy hG  h) ml_X10_251 rfl (by decide) (lk140 hG) rfl rfl (Nat.le_of_ble_eq_true rfl) ⟨rfl, rfl⟩ ⟨Nat.le_of_ble_eq_true rfl, Nat.le_of_ble_eq_true rfl⟩ ⟨Nat.le_refl _, Nat.le_refl _⟩ dX10_rides_20 (aw_kv fun I_8 J_9 h => ?_)
    refine aw_iconst (v := 0) dX10_rides_23 (by decide) ?_
    refine aw_istore_n (lv' := [(2, .int 0), (0, .ref (sz + 140)), (1, .int x1)]) dX10_rides_24 rfl (by decide) rfl ?_
    refine aw_iconst (v := 0) dX10_rides_25 (by decide) ?_
    refine aw_istore_n (lv' := [(3, .int 0), (2, .int 0), (0, .ref (sz + 140)), (1, .int x1)]) dX10_rides_26 rfl (by decide) rfl ?_
    refine aw_sub [2, 3, 1, 0] rfl ?_
    obtain ⟨n_10, h⟩ := h
    exact tl_X10_rides_27 hG   n_10 x1 0 0 I_8 J_9 h
  · have h := sw_if.t h c_6
    refine aw_iconst (v := (-1)) dX10_rides_17 (by decide) ?_
    exact aw_iret rfl dX10_rides_18 ⟨rfl, _, rfl, h⟩
theorem M_X10_rides {l : Launch} {D : va_G} {cy : Nat → ClassId} {sz : Nat} {G : sw_G} (hG : sw_lay G)   {Q : Int32 → sw_I → sw_J → Prop} {x1 : Int32} {I : sw_I} {J : sw_J} (h : wp_X10_rides x1 I J Q) : Met l yX10_rides (Cond.code yX10_rides cX10_rides 4 (some .int) :: sw_T) rm_X10_rides (sw_Pc D cy sz [.ref (sz + 140), .int x1] G I J) (sw_Q D cy sz (sw_qi G Q)) 0 0 (fun q => sz ≤ q) :=
  sw_met (by decide) (fun q => by cases q) (Nat.le_of_ble_eq_true rfl) rfl (t_X10_rides hG  h)
-- X10_does
abbrev rm_X10_does : Room := { frames := 6, cells := 0, slots := 0, locals := 140 }
def wB_X10_does_282  (K73 : Int32 → Int32 → sw_I → sw_J → Prop) (Q : Int32 → sw_I → sw_J → Prop) (x1 : Int32) (x2 : Int32) (I : sw_I) (J : sw_J) : Prop :=
  ∀ y_1 : Int32, y_1 = x2 + 1 → K73 x1 y_1 I J
def wB_X10_does_271  (K73 : Int32 → Int32 → sw_I → sw_J → Prop) (Q : Int32 → sw_I → sw_J → Prop) (x1 : Int32) (x2 : Int32) (s1 : Int32) (s2 : Int32) (I : sw_I) (J : sw_J) : Prop :=
  vp_in s1 33 ∧ ∀ I_2 : sw_I, I_2 = sw_up I 144 s1.toNatClampNeg s2 → ∀ I_4 : sw_I, I_4 = sw_up I_2 140 39 ((I_2 140 39) + (1 : Int32)) → wB_X10_does_282  K73 Q x1 x2 I_4 J
def wB_X10_does_234  (K73 : Int32 → Int32 → sw_I → sw_J → Prop) (Q : Int32 → sw_I → sw_J → Prop) (x1 : Int32) (x2 : Int32) (s1 : Int32) (s2 : Int32) (I : sw_I) (J : sw_J) : Prop :=
  vp_in s1 33 ∧ ∀ I_2 : sw_I, I_2 = sw_up I 144 s1.toNatClampNeg s2 → vp_in x1 60 ∧ sw_if ((I_2 156 x1.toNatClampNeg) = (2 : Int32)) (vp_in x1 60 ∧ wB_X10_does_271  K73 Q x1 x2 ((10 : Int32) + x2) (I_2 158 x1.toNatClampNeg) I_2 J) (vp_in ((10 : Int32) + x2) 33 ∧ wB_X10_does_271  K73 Q x1 x2 ((10 : Int32) + x2) (I_2 144 ((10 : Int32) + x2).toNatClampNeg) I_2 J)
def wB_X10_does_165  (K73 : Int32 → Int32 → sw_I → sw_J → Prop) (Q : Int32 → sw_I → sw_J → Prop) (x1 : Int32) (x2 : Int32) (s0 : Int32) (I : sw_I) (J : sw_J) : Prop :=
  sw_if (s0 = 0) (Q 0 I J) (vp_in x1 60 ∧ sw_if ((I 156 x1.toNatClampNeg) = 0) (wB_X10_does_234  K73 Q x1 x2 30 ((I 144 (30 : Int32).toNatClampNeg) ||| ((1 : Int32) <<< (x2 &&& 31))) I J) (vp_in x1 60 ∧ sw_if ((I 156 x1.toNatClampNeg) = (1 : Int32)) (wB_X10_does_234  K73 Q x1 x2 30 ((I 144 (30 : Int32).toNatClampNeg) &&& (((1 : Int32) <<< (x2 &&& 31)) ^^^ (-1 : Int32))) I J) (wB_X10_does_234  K73 Q x1 x2 30 (I 144 (30 : Int32).toNatClampNeg) I J)))
def wB_X10_does_164  (K73 : Int32 → Int32 → sw_I → sw_J → Prop) (Q : Int32 → sw_I → sw_J → Prop) (x1 : Int32) (x2 : Int32) (I : sw_I) (J : sw_J) : Prop :=
  wB_X10_does_165  K73 Q x1 x2 0 I J
def wB_X10_does_160  (K73 : Int32 → Int32 → sw_I → sw_J → Prop) (Q : Int32 → sw_I → sw_J → Prop) (x1 : Int32) (x2 : Int32) (I : sw_I) (J : sw_J) : Prop :=
  wB_X10_does_165  K73 Q x1 x2 1 I J
def wb_X10_does_73  (K73 : Int32 → Int32 → sw_I → sw_J → Prop) (Q : Int32 → sw_I → sw_J → Prop) (x1 : Int32) (x2 : Int32) (I : sw_I) (J : sw_J) : Prop :=
  sw_if (x2 < (10 : Int32)) (vp_in x1 60 ∧ wp_X10_has (I 157 x1.toNatClampNeg) x2 I J (fun r_3 I_4 J_5 => sw_if (r_3 = 0) (wB_X10_does_282  K73 Q x1 x2 I_4 J_5) (vp_in x1 60 ∧ sw_if ((I_4 156 x1.toNatClampNeg) = 0) (wp_X10_canEnter x2 I_4 J_5 (fun r_25 I_26 J_27 => wB_X10_does_165  K73 Q x1 x2 r_25 I_26 J_27)) (vp_in x1 60 ∧ sw_if ((I_4 156 x1.toNatClampNeg) = (1 : Int32)) (wp_X10_canLeave x2 I_4 J_5 (fun r_22 I_23 J_24 => wB_X10_does_165  K73 Q x1 x2 r_22 I_23 J_24)) (wp_X10_isRider x2 I_4 J_5 (fun r_11 I_12 J_13 => sw_if (r_11 = 0) (wB_X10_does_164  K73 Q x1 x2 I_12 J_13) (vp_in x1 60 ∧ sw_if ((I_12 158 x1.toNatClampNeg) < 0) (wB_X10_does_160  K73 Q x1 x2 I_12 J_13) (vp_in x1 60 ∧ wp_X10_isFloor (I_12 158 x1.toNatClampNeg) I_12 J_13 (fun r_18 I_19 J_20 => sw_if (r_18 = 0) (wB_X10_does_164  K73 Q x1 x2 I_19 J_20) (wB_X10_does_160  K73 Q x1 x2 I_19 J_20)))))))))) (Q 1 I J)
def wl_X10_does_73   (Q : Int32 → sw_I → sw_J → Prop) : Nat → Int32 → Int32 → sw_I → sw_J → Prop
  | 0 => fun _ _ _ _ => False
  | n + 1 => fun x1 x2 I J => wb_X10_does_73  (wl_X10_does_73   Q n) Q x1 x2 I J
def wb_X10_does_12  (K12 : Int32 → Int32 → sw_I → sw_J → Prop) (Q : Int32 → sw_I → sw_J → Prop) (x1 : Int32) (x2 : Int32) (I : sw_I) (J : sw_J) : Prop :=
  vp_in x1 60 ∧ sw_if (x2 < (I 159 x1.toNatClampNeg)) (wp_X10_travels 144 33 (I 144 (30 : Int32).toNatClampNeg) I J (fun r_9 I_10 J_11 => ∀ y_12 : Int32, y_12 = x2 + 1 → K12 x1 y_12 I_10 J_11)) (vp_in x1 60 ∧ ∀ I_4 : sw_I, I_4 = sw_up I 140 40 ((I 140 40) + (I 159 x1.toNatClampNeg)) → ∀ I_6 : sw_I, I_6 = sw_up I_4 140 39 ((I_4 140 39) + (1 : Int32)) → Q 1 I_6 J)
def wl_X10_does_12   (Q : Int32 → sw_I → sw_J → Prop) : Nat → Int32 → Int32 → sw_I → sw_J → Prop
  | 0 => fun _ _ _ _ => False
  | n + 1 => fun x1 x2 I J => wb_X10_does_12  (wl_X10_does_12   Q n) Q x1 x2 I J
def wp_X10_does (x1 : Int32) (I : sw_I) (J : sw_J) (Q : Int32 → sw_I → sw_J → Prop) : Prop :=
  vp_in x1 60 ∧ sw_if ((I 156 x1.toNatClampNeg) = (3 : Int32)) (∃ n_4 : Nat, wl_X10_does_12   Q n_4 x1 0 I J) (∃ n_3 : Nat, wl_X10_does_73   Q n_3 x1 0 I J)
set_option maxRecDepth 20000 in
theorem t_X10_does_282 {l : Launch} {D : va_G} {cy : Nat → ClassId} {sz : Nat} {G : sw_G} (hG : sw_lay G)   {Q : Int32 → sw_I → sw_J → Prop} {K73 : Int32 → Int32 → sw_I → sw_J → Prop} (hK73 : ∀ (x1 : Int32) (x2 : Int32) (I : sw_I) (J : sw_J), K73 x1 x2 I J → AW l D cy sz RX10 cX10_does 4 (some .boolean) false rm_X10_does 0 0 (sw_qi G Q) 0 0 G I J 73 [(0, .ref (sz + 140)), (1, .int x1), (2, .int x2)] []) {x1 : Int32} {x2 : Int32} {I : sw_I} {J : sw_J} (h : wB_X10_does_282  K73 Q x1 x2 I J) : AW l D cy sz RX10 cX10_does 4 (some .boolean) false rm_X10_does 0 0 (sw_qi G Q) 0 0 G I J 282 [(0, .ref (sz + 140)), (1, .int x1), (2, .int x2)] [] := by
  unfold wB_X10_does_282 at h
  obtain ⟨y_1, e_2⟩ : ∃ q : Int32, q = x2 + 1 := ⟨_, rfl⟩
  have h := h y_1 e_2
  refine aw_iinc (lv' := [(2, .int y_1), (0, .ref (sz + 140)), (1, .int x1)]) 2 dX10_does_282 rfl (by rw [e_2]; rfl) (by decide) rfl ?_
  refine aw_goto 73 dX10_does_285 (by decide) ?_
  refine aw_sub [1, 2, 0] rfl ?_
  exact hK73 x1 y_1 I J h
set_option maxRecDepth 20000 in
theorem t_X10_does_271 {l : Launch} {D : va_G} {cy : Nat → ClassId} {sz : Nat} {G : sw_G} (hG : sw_lay G)   {Q : Int32 → sw_I → sw_J → Prop} {K73 : Int32 → Int32 → sw_I → sw_J → Prop} (hK73 : ∀ (x1 : Int32) (x2 : Int32) (I : sw_I) (J : sw_J), K73 x1 x2 I J → AW l D cy sz RX10 cX10_does 4 (some .boolean) false rm_X10_does 0 0 (sw_qi G Q) 0 0 G I J 73 [(0, .ref (sz + 140)), (1, .int x1), (2, .int x2)] []) {x1 : Int32} {x2 : Int32} {s1 : Int32} {s2 : Int32} {I : sw_I} {J : sw_J} (h : wB_X10_does_271  K73 Q x1 x2 s1 s2 I J) : AW l D cy sz RX10 cX10_does 4 (some .boolean) false rm_X10_does 0 0 (sw_qi G Q) 0 0 G I J 271 [(0, .ref (sz + 140)), (1, .int x1), (2, .int x2)] [.int s2, .int s1, .ref (sz + 144)] := by
  unfold wB_X10_does_271 at h
  obtain ⟨hi_1, h⟩ := h
  refine aw_ist dX10_does_271 (lk144 hG) (ln144 hG) hi_1 (aw_nameI fun I_2 e_3 => ?_)
  have h := h I_2 e_3
  refine aw_aload_n 0 dX10_does_272 rfl rfl ?_
  refine aw_dup dX10_does_273 rfl ?_
  refine gf_X10_39 fl_X10_286 (lk140 hG) dX10_does_274 ?_
  refine aw_iconst (v := 1) dX10_does_277 (by decide) ?_
  refine aw_iadd dX10_does_278 ?_
  refine pf_X10_39 fl_X10_286 (lk140 hG) dX10_does_279 (aw_nameI fun I_4 e_5 => ?_)
  have h := h I_4 e_5
  refine aw_sub [0, 1, 2] rfl ?_
  exact t_X10_does_282 hG  hK73 h
set_option maxRecDepth 20000 in
theorem t_X10_does_234 {l : Launch} {D : va_G} {cy : Nat → ClassId} {sz : Nat} {G : sw_G} (hG : sw_lay G)   {Q : Int32 → sw_I → sw_J → Prop} {K73 : Int32 → Int32 → sw_I → sw_J → Prop} (hK73 : ∀ (x1 : Int32) (x2 : Int32) (I : sw_I) (J : sw_J), K73 x1 x2 I J → AW l D cy sz RX10 cX10_does 4 (some .boolean) false rm_X10_does 0 0 (sw_qi G Q) 0 0 G I J 73 [(0, .ref (sz + 140)), (1, .int x1), (2, .int x2)] []) {x1 : Int32} {x2 : Int32} {s1 : Int32} {s2 : Int32} {I : sw_I} {J : sw_J} (h : wB_X10_does_234  K73 Q x1 x2 s1 s2 I J) : AW l D cy sz RX10 cX10_does 4 (some .boolean) false rm_X10_does 0 0 (sw_qi G Q) 0 0 G I J 234 [(0, .ref (sz + 140)), (1, .int x1), (2, .int x2)] [.int s2, .int s1, .ref (sz + 144)] := by
  unfold wB_X10_does_234 at h
  obtain ⟨hi_1, h⟩ := h
  refine aw_ist dX10_does_234 (lk144 hG) (ln144 hG) hi_1 (aw_nameI fun I_2 e_3 => ?_)
  have h := h I_2 e_3
  refine aw_aload_n 0 dX10_does_235 rfl rfl ?_
  refine gf_X10_9 fl_X10_79 (lk140 hG) (lr140_9 hG) dX10_does_236 ?_
  refine aw_bipush (v := 10) dX10_does_239 (by decide) ?_
  refine aw_iload_n 2 dX10_does_241 rfl rfl ?_
  refine aw_iadd dX10_does_242 ?_
  refine aw_aload_n 0 dX10_does_243 rfl rfl ?_
  refine gf_X10_34 fl_X10_268 (lk140 hG) (lr140_34 hG) dX10_does_244 ?_
  refine aw_iload_n 1 dX10_does_247 rfl rfl ?_
  obtain ⟨hi_4, h⟩ := h
  refine aw_ild dX10_does_248 (lk156 hG) (ln156 hG) hi_4 ?_
  refine aw_iconst (v := 2) dX10_does_249 (by decide) ?_
  refine aw_jne 262 dX10_does_250 (by decide) (fun c_5 => ?_) (fun c_5 => ?_)
  · have h := sw_if.f h c_5
    refine aw_aload_n 0 dX10_does_262 rfl rfl ?_
    refine gf_X10_9 fl_X10_79 (lk140 hG) (lr140_9 hG) dX10_does_263 ?_
    refine aw_bipush (v := 10) dX10_does_266 (by decide) ?_
    refine aw_iload_n 2 dX10_does_268 rfl rfl ?_
    refine aw_iadd dX10_does_269 ?_
    obtain ⟨hi_6, h⟩ := h
    refine aw_ild dX10_does_270 (lk144 hG) (ln144 hG) hi_6 ?_
    refine aw_sub [0, 1, 2] rfl ?_
    exact t_X10_does_271 hG  hK73 h
  · have h := sw_if.t h c_5
    refine aw_aload_n 0 dX10_does_253 rfl rfl ?_
    refine gf_X10_36 fl_X10_280 (lk140 hG) (lr140_36 hG) dX10_does_254 ?_
    refine aw_iload_n 1 dX10_does_257 rfl rfl ?_
    obtain ⟨hi_7, h⟩ := h
    refine aw_ild dX10_does_258 (lk158 hG) (ln158 hG) hi_7 ?_
    refine aw_goto 271 dX10_does_259 (by decide) ?_
    refine aw_sub [0, 1, 2] rfl ?_
    exact t_X10_does_271 hG  hK73 h
set_option maxRecDepth 20000 in
theorem t_X10_does_165 {l : Launch} {D : va_G} {cy : Nat → ClassId} {sz : Nat} {G : sw_G} (hG : sw_lay G)   {Q : Int32 → sw_I → sw_J → Prop} {K73 : Int32 → Int32 → sw_I → sw_J → Prop} (hK73 : ∀ (x1 : Int32) (x2 : Int32) (I : sw_I) (J : sw_J), K73 x1 x2 I J → AW l D cy sz RX10 cX10_does 4 (some .boolean) false rm_X10_does 0 0 (sw_qi G Q) 0 0 G I J 73 [(0, .ref (sz + 140)), (1, .int x1), (2, .int x2)] []) {x1 : Int32} {x2 : Int32} {s0 : Int32} {I : sw_I} {J : sw_J} (h : wB_X10_does_165  K73 Q x1 x2 s0 I J) : AW l D cy sz RX10 cX10_does 4 (some .boolean) false rm_X10_does 0 0 (sw_qi G Q) 0 0 G I J 165 [(0, .ref (sz + 140)), (1, .int x1), (2, .int x2)] [.int s0] := by
  unfold wB_X10_does_165 at h
  refine aw_istore_n (lv' := [(3, .int s0), (0, .ref (sz + 140)), (1, .int x1), (2, .int x2)]) dX10_does_165 rfl (by decide) rfl ?_
  refine aw_iload_n 0 dX10_does_166 rfl rfl ?_
  refine aw_zne 172 dX10_does_167 (by decide) (fun c_1 => ?_) (fun c_1 => ?_)
  · have h := sw_if.f h c_1
    refine aw_aload_n 1 dX10_does_172 rfl rfl ?_
    refine gf_X10_9 fl_X10_79 (lk140 hG) (lr140_9 hG) dX10_does_173 ?_
    refine aw_bipush (v := 30) dX10_does_176 (by decide) ?_
    refine aw_aload_n 1 dX10_does_178 rfl rfl ?_
    refine gf_X10_34 fl_X10_268 (lk140 hG) (lr140_34 hG) dX10_does_179 ?_
    refine aw_iload_n 2 dX10_does_182 rfl rfl ?_
    obtain ⟨hi_2, h⟩ := h
    refine aw_ild dX10_does_183 (lk156 hG) (ln156 hG) hi_2 ?_
    refine aw_zne 201 dX10_does_184 (by decide) (fun c_3 => ?_) (fun c_3 => ?_)
    · have h := sw_if.f h c_3
      refine aw_aload_n 1 dX10_does_201 rfl rfl ?_
      refine gf_X10_34 fl_X10_268 (lk140 hG) (lr140_34 hG) dX10_does_202 ?_
      refine aw_iload_n 2 dX10_does_205 rfl rfl ?_
      obtain ⟨hi_4, h⟩ := h
      refine aw_ild dX10_does_206 (lk156 hG) (ln156 hG) hi_4 ?_
      refine aw_iconst (v := 1) dX10_does_207 (by decide) ?_
      refine aw_jne 227 dX10_does_208 (by decide) (fun c_5 => ?_) (fun c_5 => ?_)
      · have h := sw_if.f h c_5
        refine aw_aload_n 1 dX10_does_227 rfl rfl ?_
        refine gf_X10_9 fl_X10_79 (lk140 hG) (lr140_9 hG) dX10_does_228 ?_
        refine aw_bipush (v := 30) dX10_does_231 (by decide) ?_
        refine aw_ild dX10_does_233 (lk144 hG) (ln144 hG) (by unfold vp_in; decide) ?_
        refine aw_sub [1, 2, 3] rfl ?_
        exact t_X10_does_234 hG  hK73 h
      · have h := sw_if.t h c_5
        refine aw_aload_n 1 dX10_does_211 rfl rfl ?_
        refine gf_X10_9 fl_X10_79 (lk140 hG) (lr140_9 hG) dX10_does_212 ?_
        refine aw_bipush (v := 30) dX10_does_215 (by decide) ?_
        refine aw_ild dX10_does_217 (lk144 hG) (ln144 hG) (by unfold vp_in; decide) ?_
        refine aw_iconst (v := 1) dX10_does_218 (by decide) ?_
        refine aw_iload_n 3 dX10_does_219 rfl rfl ?_
        refine aw_ishl dX10_does_220 ?_
        refine aw_iconst (v := (-1)) dX10_does_221 (by decide) ?_
        refine aw_ixor dX10_does_222 ?_
        refine aw_iand dX10_does_223 ?_
        refine aw_goto 234 dX10_does_224 (by decide) ?_
        refine aw_sub [1, 2, 3] rfl ?_
        exact t_X10_does_234 hG  hK73 h
    · have h := sw_if.t h c_3
      refine aw_aload_n 1 dX10_does_187 rfl rfl ?_
      refine gf_X10_9 fl_X10_79 (lk140 hG) (lr140_9 hG) dX10_does_188 ?_
      refine aw_bipush (v := 30) dX10_does_191 (by decide) ?_
      refine aw_ild dX10_does_193 (lk144 hG) (ln144 hG) (by unfold vp_in; decide) ?_
      refine aw_iconst (v := 1) dX10_does_194 (by decide) ?_
      refine aw_iload_n 3 dX10_does_195 rfl rfl ?_
      refine aw_ishl dX10_does_196 ?_
      refine aw_ior dX10_does_197 ?_
      refine aw_goto 234 dX10_does_198 (by decide) ?_
      refine aw_sub [1, 2, 3] rfl ?_
      exact t_X10_does_234 hG  hK73 h
  · have h := sw_if.t h c_1
    refine aw_iconst (v := 0) dX10_does_170 (by decide) ?_
    exact aw_zret rfl rfl dX10_does_171 ⟨rfl, _, rfl, h⟩
set_option maxRecDepth 20000 in
theorem t_X10_does_164 {l : Launch} {D : va_G} {cy : Nat → ClassId} {sz : Nat} {G : sw_G} (hG : sw_lay G)   {Q : Int32 → sw_I → sw_J → Prop} {K73 : Int32 → Int32 → sw_I → sw_J → Prop} (hK73 : ∀ (x1 : Int32) (x2 : Int32) (I : sw_I) (J : sw_J), K73 x1 x2 I J → AW l D cy sz RX10 cX10_does 4 (some .boolean) false rm_X10_does 0 0 (sw_qi G Q) 0 0 G I J 73 [(0, .ref (sz + 140)), (1, .int x1), (2, .int x2)] []) {x1 : Int32} {x2 : Int32} {I : sw_I} {J : sw_J} (h : wB_X10_does_164  K73 Q x1 x2 I J) : AW l D cy sz RX10 cX10_does 4 (some .boolean) false rm_X10_does 0 0 (sw_qi G Q) 0 0 G I J 164 [(0, .ref (sz + 140)), (1, .int x1), (2, .int x2)] [] := by
  unfold wB_X10_does_164 at h
  refine aw_iconst (v := 0) dX10_does_164 (by decide) ?_
  refine aw_sub [0, 1, 2] rfl ?_
  exact t_X10_does_165 hG  hK73 h
set_option maxRecDepth 20000 in
theorem t_X10_does_160 {l : Launch} {D : va_G} {cy : Nat → ClassId} {sz : Nat} {G : sw_G} (hG : sw_lay G)   {Q : Int32 → sw_I → sw_J → Prop} {K73 : Int32 → Int32 → sw_I → sw_J → Prop} (hK73 : ∀ (x1 : Int32) (x2 : Int32) (I : sw_I) (J : sw_J), K73 x1 x2 I J → AW l D cy sz RX10 cX10_does 4 (some .boolean) false rm_X10_does 0 0 (sw_qi G Q) 0 0 G I J 73 [(0, .ref (sz + 140)), (1, .int x1), (2, .int x2)] []) {x1 : Int32} {x2 : Int32} {I : sw_I} {J : sw_J} (h : wB_X10_does_160  K73 Q x1 x2 I J) : AW l D cy sz RX10 cX10_does 4 (some .boolean) false rm_X10_does 0 0 (sw_qi G Q) 0 0 G I J 160 [(0, .ref (sz + 140)), (1, .int x1), (2, .int x2)] [] := by
  unfold wB_X10_does_160 at h
  refine aw_iconst (v := 1) dX10_does_160 (by decide) ?_
  refine aw_goto 165 dX10_does_161 (by decide) ?_
  refine aw_sub [0, 1, 2] rfl ?_
  exact t_X10_does_165 hG  hK73 h
set_option maxRecDepth 20000 in
theorem tb_X10_does_73 {l : Launch} {D : va_G} {cy : Nat → ClassId} {sz : Nat} {G : sw_G} (hG : sw_lay G)   {Q : Int32 → sw_I → sw_J → Prop} {K73 : Int32 → Int32 → sw_I → sw_J → Prop} (hK73 : ∀ (x1 : Int32) (x2 : Int32) (I : sw_I) (J : sw_J), K73 x1 x2 I J → AW l D cy sz RX10 cX10_does 4 (some .boolean) false rm_X10_does 0 0 (sw_qi G Q) 0 0 G I J 73 [(0, .ref (sz + 140)), (1, .int x1), (2, .int x2)] []) {x1 : Int32} {x2 : Int32} {I : sw_I} {J : sw_J} (h : wb_X10_does_73  K73 Q x1 x2 I J) : AW l D cy sz RX10 cX10_does 4 (some .boolean) false rm_X10_does 0 0 (sw_qi G Q) 0 0 G I J 73 [(0, .ref (sz + 140)), (1, .int x1), (2, .int x2)] [] := by
  unfold wb_X10_does_73 at h
  refine aw_iload_n 2 dX10_does_73 rfl rfl ?_
  refine aw_bipush (v := 10) dX10_does_74 (by decide) ?_
  refine aw_jge 288 dX10_does_76 (by decide) (fun c_1 => ?_) (fun c_1 => ?_)
  · have h := sw_if.f h c_1
    refine aw_iconst (v := 1) dX10_does_288 (by decide) ?_
    exact aw_zret rfl rfl dX10_does_289 ⟨rfl, _, rfl, h⟩
  · have h := sw_if.t h c_1
    refine aw_aload_n 0 dX10_does_79 rfl rfl ?_
    refine gf_X10_35 fl_X10_277 (lk140 hG) (lr140_35 hG) dX10_does_80 ?_
    refine aw_iload_n 1 dX10_does_83 rfl rfl ?_
    obtain ⟨hi_2, h⟩ := h
    refine aw_ild dX10_does_84 (lk157 hG) (ln157 hG) hi_2 ?_
    refine aw_iload_n 2 dX10_does_85 rfl rfl ?_
    refine aw_callS wv_X10_has (M_X10_has trivial  h) ml_X10_195 rfl rfl (Nat.le_of_ble_eq_true rfl) ⟨rfl, rfl⟩ ⟨Nat.le_of_ble_eq_true rfl, Nat.le_of_ble_eq_true rfl⟩ ⟨Nat.le_refl _, Nat.le_refl _⟩ dX10_does_86 (aw_ki fun r_3 I_4 J_5 h => ?_)
    refine aw_zne 95 dX10_does_89 (by decide) (fun c_6 => ?_) (fun c_6 => ?_)
    · have h := sw_if.f h c_6
      refine aw_aload_n 0 dX10_does_95 rfl rfl ?_
      refine gf_X10_34 fl_X10_268 (lk140 hG) (lr140_34 hG) dX10_does_96 ?_
      refine aw_iload_n 1 dX10_does_99 rfl rfl ?_
      obtain ⟨hi_7, h⟩ := h
      refine aw_ild dX10_does_100 (lk156 hG) (ln156 hG) hi_7 ?_
      refine aw_zne 112 dX10_does_101 (by decide) (fun c_8 => ?_) (fun c_8 => ?_)
      · have h := sw_if.f h c_8
        refine aw_aload_n 0 dX10_does_112 rfl rfl ?_
        refine gf_X10_34 fl_X10_268 (lk140 hG) (lr140_34 hG) dX10_does_113 ?_
        refine aw_iload_n 1 dX10_does_116 rfl rfl ?_
        obtain ⟨hi_9, h⟩ := h
        refine aw_ild dX10_does_117 (lk156 hG) (ln156 hG) hi_9 ?_
        refine aw_iconst (v := 1) dX10_does_118 (by decide) ?_
        refine aw_jne 130 dX10_does_119 (by decide) (fun c_10 => ?_) (fun c_10 => ?_)
        · have h := sw_if.f h c_10
          refine aw_aload_n 0 dX10_does_130 rfl rfl ?_
          refine aw_iload_n 2 dX10_does_131 rfl rfl ?_
          refine aw_callV wv_X10_isRider (M_X10_isRider hG  h) ml_X10_226 rfl (by decide) (lk140 hG) rfl rfl (Nat.le_of_ble_eq_true rfl) ⟨rfl, rfl⟩ ⟨Nat.le_of_ble_eq_true rfl, Nat.le_of_ble_eq_true rfl⟩ ⟨Nat.le_refl _, Nat.le_refl _⟩ dX10_does_132 (aw_ki fun r_11 I_12 J_13 h => ?_)
          refine aw_zeq 164 dX10_does_135 (by decide) (fun c_14 => ?_) (fun c_14 => ?_)
          · have h := sw_if.t h c_14
            refine aw_sub [0, 1, 2] rfl ?_
            exact t_X10_does_164 hG  hK73 h
          · have h := sw_if.f h c_14
            refine aw_aload_n 0 dX10_does_138 rfl rfl ?_
            refine gf_X10_36 fl_X10_280 (lk140 hG) (lr140_36 hG) dX10_does_139 ?_
            refine aw_iload_n 1 dX10_does_142 rfl rfl ?_
            obtain ⟨hi_15, h⟩ := h
            refine aw_ild dX10_does_143 (lk158 hG) (ln158 hG) hi_15 ?_
            refine aw_zlt 160 dX10_does_144 (by decide) (fun c_16 => ?_) (fun c_16 => ?_)
            · have h := sw_if.t h c_16
              refine aw_sub [0, 1, 2] rfl ?_
              exact t_X10_does_160 hG  hK73 h
            · have h := sw_if.f h c_16
              refine aw_aload_n 0 dX10_does_147 rfl rfl ?_
              refine aw_aload_n 0 dX10_does_148 rfl rfl ?_
              refine gf_X10_36 fl_X10_280 (lk140 hG) (lr140_36 hG) dX10_does_149 ?_
              refine aw_iload_n 1 dX10_does_152 rfl rfl ?_
              obtain ⟨hi_17, h⟩ := h
              refine aw_ild dX10_does_153 (lk158 hG) (ln158 hG) hi_17 ?_
              refine aw_callV wv_X10_isFloor (M_X10_isFloor hG  h) ml_X10_95 rfl (by decide) (lk140 hG) rfl rfl (Nat.le_of_ble_eq_true rfl) ⟨rfl, rfl⟩ ⟨Nat.le_of_ble_eq_true rfl, Nat.le_of_ble_eq_true rfl⟩ ⟨Nat.le_refl _, Nat.le_refl _⟩ dX10_does_154 (aw_ki fun r_18 I_19 J_20 h => ?_)
              refine aw_zeq 164 dX10_does_157 (by decide) (fun c_21 => ?_) (fun c_21 => ?_)
              · have h := sw_if.t h c_21
                refine aw_sub [0, 1, 2] rfl ?_
                exact t_X10_does_164 hG  hK73 h
              · have h := sw_if.f h c_21
                refine aw_sub [0, 1, 2] rfl ?_
                exact t_X10_does_160 hG  hK73 h
        · have h := sw_if.t h c_10
          refine aw_aload_n 0 dX10_does_122 rfl rfl ?_
          refine aw_iload_n 2 dX10_does_123 rfl rfl ?_
          refine aw_callV wv_X10_canLeave (M_X10_canLeave hG  h) ml_X10_258 rfl (by decide) (lk140 hG) rfl rfl (Nat.le_of_ble_eq_true rfl) ⟨rfl, rfl⟩ ⟨Nat.le_of_ble_eq_true rfl, Nat.le_of_ble_eq_true rfl⟩ ⟨Nat.le_refl _, Nat.le_refl _⟩ dX10_does_124 (aw_ki fun r_22 I_23 J_24 h => ?_)
          refine aw_goto 165 dX10_does_127 (by decide) ?_
          refine aw_sub [0, 1, 2] rfl ?_
          exact t_X10_does_165 hG  hK73 h
      · have h := sw_if.t h c_8
        refine aw_aload_n 0 dX10_does_104 rfl rfl ?_
        refine aw_iload_n 2 dX10_does_105 rfl rfl ?_
        refine aw_callV wv_X10_canEnter (M_X10_canEnter hG  h) ml_X10_248 rfl (by decide) (lk140 hG) rfl rfl (Nat.le_of_ble_eq_true rfl) ⟨rfl, rfl⟩ ⟨Nat.le_of_ble_eq_true rfl, Nat.le_of_ble_eq_true rfl⟩ ⟨Nat.le_refl _, Nat.le_refl _⟩ dX10_does_106 (aw_ki fun r_25 I_26 J_27 h => ?_)
        refine aw_goto 165 dX10_does_109 (by decide) ?_
        refine aw_sub [0, 1, 2] rfl ?_
        exact t_X10_does_165 hG  hK73 h
    · have h := sw_if.t h c_6
      refine aw_goto 282 dX10_does_92 (by decide) ?_
      refine aw_sub [0, 1, 2] rfl ?_
      exact t_X10_does_282 hG  hK73 h
set_option maxRecDepth 20000 in
theorem tl_X10_does_73 {l : Launch} {D : va_G} {cy : Nat → ClassId} {sz : Nat} {G : sw_G} (hG : sw_lay G)   {Q : Int32 → sw_I → sw_J → Prop} : ∀ (n : Nat) (x1 : Int32) (x2 : Int32) (I : sw_I) (J : sw_J), wl_X10_does_73   Q n x1 x2 I J → AW l D cy sz RX10 cX10_does 4 (some .boolean) false rm_X10_does 0 0 (sw_qi G Q) 0 0 G I J 73 [(0, .ref (sz + 140)), (1, .int x1), (2, .int x2)] [] := by
  intro n
  induction n with
  | zero => intro x1 x2 I J h; exact False.elim h
  | succ n ih => intro x1 x2 I J h; exact tb_X10_does_73 hG  ih h
set_option maxRecDepth 20000 in
theorem tb_X10_does_12 {l : Launch} {D : va_G} {cy : Nat → ClassId} {sz : Nat} {G : sw_G} (hG : sw_lay G)   {Q : Int32 → sw_I → sw_J → Prop} {K12 : Int32 → Int32 → sw_I → sw_J → Prop} (hK12 : ∀ (x1 : Int32) (x2 : Int32) (I : sw_I) (J : sw_J), K12 x1 x2 I J → AW l D cy sz RX10 cX10_does 4 (some .boolean) false rm_X10_does 0 0 (sw_qi G Q) 0 0 G I J 12 [(0, .ref (sz + 140)), (1, .int x1), (2, .int x2)] []) {x1 : Int32} {x2 : Int32} {I : sw_I} {J : sw_J} (h : wb_X10_does_12  K12 Q x1 x2 I J) : AW l D cy sz RX10 cX10_does 4 (some .boolean) false rm_X10_does 0 0 (sw_qi G Q) 0 0 G I J 12 [(0, .ref (sz + 140)), (1, .int x1), (2, .int x2)] [] := by
  unfold wb_X10_does_12 at h
  refine aw_iload_n 2 dX10_does_12 rfl rfl ?_
  refine aw_aload_n 0 dX10_does_13 rfl rfl ?_
  refine gf_X10_37 fl_X10_274 (lk140 hG) (lr140_37 hG) dX10_does_14 ?_
  refine aw_iload_n 1 dX10_does_17 rfl rfl ?_
  obtain ⟨hi_1, h⟩ := h
  refine aw_ild dX10_does_18 (lk159 hG) (ln159 hG) hi_1 ?_
  refine aw_jge 44 dX10_does_19 (by decide) (fun c_2 => ?_) (fun c_2 => ?_)
  · have h := sw_if.f h c_2
    refine aw_aload_n 0 dX10_does_44 rfl rfl ?_
    refine aw_dup dX10_does_45 rfl ?_
    refine gf_X10_40 fl_X10_283 (lk140 hG) dX10_does_46 ?_
    refine aw_aload_n 0 dX10_does_49 rfl rfl ?_
    refine gf_X10_37 fl_X10_274 (lk140 hG) (lr140_37 hG) dX10_does_50 ?_
    refine aw_iload_n 1 dX10_does_53 rfl rfl ?_
    obtain ⟨hi_3, h⟩ := h
    refine aw_ild dX10_does_54 (lk159 hG) (ln159 hG) hi_3 ?_
    refine aw_iadd dX10_does_55 ?_
    refine pf_X10_40 fl_X10_283 (lk140 hG) dX10_does_56 (aw_nameI fun I_4 e_5 => ?_)
    have h := h I_4 e_5
    refine aw_aload_n 0 dX10_does_59 rfl rfl ?_
    refine aw_dup dX10_does_60 rfl ?_
    refine gf_X10_39 fl_X10_286 (lk140 hG) dX10_does_61 ?_
    refine aw_iconst (v := 1) dX10_does_64 (by decide) ?_
    refine aw_iadd dX10_does_65 ?_
    refine pf_X10_39 fl_X10_286 (lk140 hG) dX10_does_66 (aw_nameI fun I_6 e_7 => ?_)
    have h := h I_6 e_7
    refine aw_iconst (v := 1) dX10_does_69 (by decide) ?_
    exact aw_zret rfl rfl dX10_does_70 ⟨rfl, _, rfl, h⟩
  · have h := sw_if.t h c_2
    refine aw_aload_n 0 dX10_does_22 rfl rfl ?_
    refine aw_aload_n 0 dX10_does_23 rfl rfl ?_
    refine gf_X10_9 fl_X10_79 (lk140 hG) (lr140_9 hG) dX10_does_24 ?_
    refine aw_aload_n 0 dX10_does_27 rfl rfl ?_
    refine gf_X10_9 fl_X10_79 (lk140 hG) (lr140_9 hG) dX10_does_28 ?_
    refine aw_bipush (v := 30) dX10_does_31 (by decide) ?_
    refine aw_ild dX10_does_33 (lk144 hG) (ln144 hG) (by unfold vp_in; decide) ?_
    refine aw_callV wv_X10_travels (M_X10_travels hG ⟨(lk144 hG), (ln144 hG)⟩ h) ml_X10_261 rfl (by decide) (lk140 hG) rfl rfl (Nat.le_of_ble_eq_true rfl) ⟨rfl, rfl⟩ ⟨Nat.le_of_ble_eq_true rfl, Nat.le_of_ble_eq_true rfl⟩ ⟨Nat.le_refl _, Nat.le_refl _⟩ dX10_does_34 (aw_ki fun r_9 I_10 J_11 h => ?_)
    refine aw_pop dX10_does_37 rfl ?_
    obtain ⟨y_12, e_13⟩ : ∃ q : Int32, q = x2 + 1 := ⟨_, rfl⟩
    have h := h y_12 e_13
    refine aw_iinc (lv' := [(2, .int y_12), (0, .ref (sz + 140)), (1, .int x1)]) 2 dX10_does_38 rfl (by rw [e_13]; rfl) (by decide) rfl ?_
    refine aw_goto 12 dX10_does_41 (by decide) ?_
    refine aw_sub [1, 2, 0] rfl ?_
    exact hK12 x1 y_12 I_10 J_11 h
set_option maxRecDepth 20000 in
theorem tl_X10_does_12 {l : Launch} {D : va_G} {cy : Nat → ClassId} {sz : Nat} {G : sw_G} (hG : sw_lay G)   {Q : Int32 → sw_I → sw_J → Prop} : ∀ (n : Nat) (x1 : Int32) (x2 : Int32) (I : sw_I) (J : sw_J), wl_X10_does_12   Q n x1 x2 I J → AW l D cy sz RX10 cX10_does 4 (some .boolean) false rm_X10_does 0 0 (sw_qi G Q) 0 0 G I J 12 [(0, .ref (sz + 140)), (1, .int x1), (2, .int x2)] [] := by
  intro n
  induction n with
  | zero => intro x1 x2 I J h; exact False.elim h
  | succ n ih => intro x1 x2 I J h; exact tb_X10_does_12 hG  ih h
set_option maxRecDepth 20000 in
theorem t_X10_does {l : Launch} {D : va_G} {cy : Nat → ClassId} {sz : Nat} {G : sw_G} (hG : sw_lay G)   {Q : Int32 → sw_I → sw_J → Prop} {x1 : Int32} {I : sw_I} {J : sw_J} (h : wp_X10_does x1 I J Q) : AW l D cy sz RX10 cX10_does 4 (some .boolean) false rm_X10_does 0 0 (sw_qi G Q) 0 0 G I J 0 [(0, .ref (sz + 140)), (1, .int x1)] [] := by
  unfold wp_X10_does at h
  refine aw_aload_n 0 dX10_does_0 rfl rfl ?_
  refine gf_X10_34 fl_X10_268 (lk140 hG) (lr140_34 hG) dX10_does_1 ?_
  refine aw_iload_n 1 dX10_does_4 rfl rfl ?_
  obtain ⟨hi_1, h⟩ := h
  refine aw_ild dX10_does_5 (lk156 hG) (ln156 hG) hi_1 ?_
  refine aw_iconst (v := 3) dX10_does_6 (by decide) ?_
  refine aw_jne 71 dX10_does_7 (by decide) (fun c_2 => ?_) (fun c_2 => ?_)
  · have h := sw_if.f h c_2
    refine aw_iconst (v := 0) dX10_does_71 (by decide) ?_
    refine aw_istore_n (lv' := [(2, .int 0), (0, .ref (sz + 140)), (1, .int x1)]) dX10_does_72 rfl (by decide) rfl ?_
    refine aw_sub [1, 2, 0] rfl ?_
    obtain ⟨n_3, h⟩ := h
    exact tl_X10_does_73 hG   n_3 x1 0 I J h
  · have h := sw_if.t h c_2
    refine aw_iconst (v := 0) dX10_does_10 (by decide) ?_
    refine aw_istore_n (lv' := [(2, .int 0), (0, .ref (sz + 140)), (1, .int x1)]) dX10_does_11 rfl (by decide) rfl ?_
    refine aw_sub [1, 2, 0] rfl ?_
    obtain ⟨n_4, h⟩ := h
    exact tl_X10_does_12 hG   n_4 x1 0 I J h
theorem M_X10_does {l : Launch} {D : va_G} {cy : Nat → ClassId} {sz : Nat} {G : sw_G} (hG : sw_lay G)   {Q : Int32 → sw_I → sw_J → Prop} {x1 : Int32} {I : sw_I} {J : sw_J} (h : wp_X10_does x1 I J Q) : Met l yX10_does (Cond.code yX10_does cX10_does 4 (some .boolean) :: sw_T) rm_X10_does (sw_Pc D cy sz [.ref (sz + 140), .int x1] G I J) (sw_Q D cy sz (sw_qi G Q)) 0 0 (fun q => sz ≤ q) :=
  sw_met (by decide) (fun q => by cases q) (Nat.le_of_ble_eq_true rfl) rfl (t_X10_does hG  h)
-- X10_day
abbrev rm_X10_day : Room := { frames := 7, cells := 0, slots := 0, locals := 163 }
def wB_X10_day_159   (Q : Int32 → sw_I → sw_J → Prop) (x5 : Int32) (s1 : Int32) (I : sw_I) (J : sw_J) : Prop :=
  wp_X10_flag s1 I J (fun r_1 I_2 J_3 => wp_X10_enters r_1.toInt64 I_2 J_3 (fun I_5 J_6 => Q x5 I_5 J_6))
def wB_X10_day_130   (Q : Int32 → sw_I → sw_J → Prop) (x5 : Int32) (I : sw_I) (J : sw_J) : Prop :=
  ∀ I_1 : sw_I, I_1 = sw_up I 140 1 (0 : Int32) → wp_X10_enters ((I_1 140 40).toInt64) I_1 J (fun I_4 J_5 => sw_if (x5 < (I_4 140 38)) (wB_X10_day_159   Q x5 1 I_4 J_5) (wB_X10_day_159   Q x5 0 I_4 J_5))
def wB_X10_day_119   (Q : Int32 → sw_I → sw_J → Prop) (x5 : Int32) (I : sw_I) (J : sw_J) : Prop :=
  sw_if (0 < (I 140 39)) (wp_X10_adds  I J (fun I_3 J_4 => wB_X10_day_130   Q x5 I_3 J_4)) (wB_X10_day_130   Q x5 I J)
def wb_X10_day_95  (K95 : Int32 → sw_I → sw_J → Prop) (Q : Int32 → sw_I → sw_J → Prop) (x5 : Int32) (I : sw_I) (J : sw_J) : Prop :=
  sw_if (x5 < (I 140 38)) (wp_X10_does x5 I J (fun r_2 I_3 J_4 => sw_if (r_2 = 0) (wB_X10_day_119   Q x5 I_3 J_4) (∀ y_6 : Int32, y_6 = x5 + 1 → K95 y_6 I_3 J_4))) (wB_X10_day_119   Q x5 I J)
def wl_X10_day_95   (Q : Int32 → sw_I → sw_J → Prop) : Nat → Int32 → sw_I → sw_J → Prop
  | 0 => fun _ _ _ => False
  | n + 1 => fun x5 I J => wb_X10_day_95  (wl_X10_day_95   Q n) Q x5 I J
def wB_X10_day_56  (K29 : Int32 → Int32 → Int32 → sw_I → sw_J → Prop) (Q : Int32 → sw_I → sw_J → Prop) (x1 : Int32) (x2 : Int32) (s0 : Int32) (I : sw_I) (J : sw_J) : Prop :=
  K29 x1 x2 s0 I J
def wB_X10_day_55  (K29 : Int32 → Int32 → Int32 → sw_I → sw_J → Prop) (Q : Int32 → sw_I → sw_J → Prop) (x1 : Int32) (x2 : Int32) (I : sw_I) (J : sw_J) : Prop :=
  wB_X10_day_56  K29 Q x1 x2 0 I J
def wb_X10_day_29  (K29 : Int32 → Int32 → Int32 → sw_I → sw_J → Prop) (Q : Int32 → sw_I → sw_J → Prop) (x1 : Int32) (x2 : Int32) (x3 : Int32) (I : sw_I) (J : sw_J) : Prop :=
  sw_if (x3 = 0) (wp_X10_faultOf x1 60 x2 I J (fun r_2 I_3 J_4 => sw_if (r_2 < 0) (Q r_2 I_3 J_4) (wp_X10_putsBy  I_3 J_4 (fun I_7 J_8 => ∀ I_9 : sw_I, I_9 = sw_up I_7 140 39 (0 : Int32) → ∀ I_11 : sw_I, I_11 = sw_up I_9 140 40 (0 : Int32) → ∃ n_13 : Nat, wl_X10_day_95   Q n_13 0 I_11 J_8)))) (wp_X10_readsAct  I J (fun r_14 I_15 J_16 => sw_if (r_14 = 0) (wB_X10_day_55  K29 Q x1 r_14 I_15 J_16) (wp_X10_takes 59 I_15 J_16 (fun r_18 I_19 J_20 => sw_if (r_18 = 0) (wB_X10_day_55  K29 Q x1 r_14 I_19 J_20) (wB_X10_day_56  K29 Q x1 r_14 1 I_19 J_20)))))
def wl_X10_day_29   (Q : Int32 → sw_I → sw_J → Prop) : Nat → Int32 → Int32 → Int32 → sw_I → sw_J → Prop
  | 0 => fun _ _ _ _ _ => False
  | n + 1 => fun x1 x2 x3 I J => wb_X10_day_29  (wl_X10_day_29   Q n) Q x1 x2 x3 I J
def wB_X10_day_28   (Q : Int32 → sw_I → sw_J → Prop) (x1 : Int32) (x2 : Int32) (s0 : Int32) (I : sw_I) (J : sw_J) : Prop :=
  ∃ n_1 : Nat, wl_X10_day_29   Q n_1 x1 x2 s0 I J
def wp_X10_day  (I : sw_I) (J : sw_J) (Q : Int32 → sw_I → sw_J → Prop) : Prop :=
  ∀ I_1 : sw_I, I_1 = sw_up I 140 0 (0 : Int32) → wp_X10_begins 60 I_1 J (fun r_3 I_4 J_5 => ∀ I_6 : sw_I, I_6 = sw_up I_4 140 38 (0 : Int32) → sw_if (0 < r_3) (wB_X10_day_28   Q r_3 1 1 I_6 J_5) (wB_X10_day_28   Q r_3 1 0 I_6 J_5))
set_option maxRecDepth 20000 in
theorem t_X10_day_159 {l : Launch} {D : va_G} {cy : Nat → ClassId} {sz : Nat} {G : sw_G} (hG : sw_lay G)   {Q : Int32 → sw_I → sw_J → Prop} {x5 : Int32} {s1 : Int32} {I : sw_I} {J : sw_J} (h : wB_X10_day_159   Q x5 s1 I J) : AW l D cy sz RX10 cX10_day 6 (some .int) false rm_X10_day 0 0 (sw_qi G Q) 0 0 G I J 159 [(5, .int x5)] [.int s1, .ref (sz + 140)] := by
  unfold wB_X10_day_159 at h
  refine aw_callS wv_X10_flag (M_X10_flag trivial  h) ml_X10_54 rfl rfl (Nat.le_of_ble_eq_true rfl) ⟨rfl, rfl⟩ ⟨Nat.le_of_ble_eq_true rfl, Nat.le_of_ble_eq_true rfl⟩ ⟨Nat.le_refl _, Nat.le_refl _⟩ dX10_day_159 (aw_ki fun r_1 I_2 J_3 h => ?_)
  refine aw_i2l dX10_day_162 ?_
  refine aw_callV wv_X10_enters (M_X10_enters hG  h) ml_X10_18 rfl (by decide) (lk140 hG) rfl rfl (Nat.le_of_ble_eq_true rfl) ⟨rfl, rfl⟩ ⟨Nat.le_of_ble_eq_true rfl, Nat.le_of_ble_eq_true rfl⟩ ⟨Nat.le_refl _, Nat.le_refl _⟩ dX10_day_163 (aw_kv fun I_5 J_6 h => ?_)
  refine aw_iload 0 dX10_day_166 rfl ?_
  exact aw_iret rfl dX10_day_168 ⟨rfl, _, rfl, h⟩
set_option maxRecDepth 20000 in
theorem t_X10_day_130 {l : Launch} {D : va_G} {cy : Nat → ClassId} {sz : Nat} {G : sw_G} (hG : sw_lay G)   {Q : Int32 → sw_I → sw_J → Prop} {x5 : Int32} {I : sw_I} {J : sw_J} (h : wB_X10_day_130   Q x5 I J) : AW l D cy sz RX10 cX10_day 6 (some .int) false rm_X10_day 0 0 (sw_qi G Q) 0 0 G I J 130 [(0, .ref (sz + 140)), (5, .int x5)] [] := by
  unfold wB_X10_day_130 at h
  refine aw_aload_n 0 dX10_day_130 rfl rfl ?_
  refine aw_iconst (v := 0) dX10_day_131 (by decide) ?_
  refine pf_X10_1 fl_X10_15 (lk140 hG) dX10_day_132 (aw_nameI fun I_1 e_2 => ?_)
  have h := h I_1 e_2
  refine aw_aload_n 0 dX10_day_135 rfl rfl ?_
  refine aw_aload_n 0 dX10_day_136 rfl rfl ?_
  refine gf_X10_40 fl_X10_283 (lk140 hG) dX10_day_137 ?_
  refine aw_i2l dX10_day_140 ?_
  refine aw_callV wv_X10_enters (M_X10_enters hG  h) ml_X10_18 rfl (by decide) (lk140 hG) rfl rfl (Nat.le_of_ble_eq_true rfl) ⟨rfl, rfl⟩ ⟨Nat.le_of_ble_eq_true rfl, Nat.le_of_ble_eq_true rfl⟩ ⟨Nat.le_refl _, Nat.le_refl _⟩ dX10_day_141 (aw_kv fun I_4 J_5 h => ?_)
  refine aw_aload_n 0 dX10_day_144 rfl rfl ?_
  refine aw_iload 1 dX10_day_145 rfl ?_
  refine aw_aload_n 0 dX10_day_147 rfl rfl ?_
  refine gf_X10_38 fl_X10_271 (lk140 hG) dX10_day_148 ?_
  refine aw_jge 158 dX10_day_151 (by decide) (fun c_6 => ?_) (fun c_6 => ?_)
  · have h := sw_if.f h c_6
    refine aw_iconst (v := 0) dX10_day_158 (by decide) ?_
    refine aw_sub [1] rfl ?_
    exact t_X10_day_159 hG   h
  · have h := sw_if.t h c_6
    refine aw_iconst (v := 1) dX10_day_154 (by decide) ?_
    refine aw_goto 159 dX10_day_155 (by decide) ?_
    refine aw_sub [1] rfl ?_
    exact t_X10_day_159 hG   h
set_option maxRecDepth 20000 in
theorem t_X10_day_119 {l : Launch} {D : va_G} {cy : Nat → ClassId} {sz : Nat} {G : sw_G} (hG : sw_lay G)   {Q : Int32 → sw_I → sw_J → Prop} {x5 : Int32} {I : sw_I} {J : sw_J} (h : wB_X10_day_119   Q x5 I J) : AW l D cy sz RX10 cX10_day 6 (some .int) false rm_X10_day 0 0 (sw_qi G Q) 0 0 G I J 119 [(0, .ref (sz + 140)), (5, .int x5)] [] := by
  unfold wB_X10_day_119 at h
  refine aw_aload_n 0 dX10_day_119 rfl rfl ?_
  refine gf_X10_39 fl_X10_286 (lk140 hG) dX10_day_120 ?_
  refine aw_zle 130 dX10_day_123 (by decide) (fun c_1 => ?_) (fun c_1 => ?_)
  · have h := sw_if.f h c_1
    refine aw_sub [0, 1] rfl ?_
    exact t_X10_day_130 hG   h
  · have h := sw_if.t h c_1
    refine aw_aload_n 0 dX10_day_126 rfl rfl ?_
    refine aw_callV wv_X10_adds (M_X10_adds hG  h) ml_X10_255 rfl (by decide) (lk140 hG) rfl rfl (Nat.le_of_ble_eq_true rfl) ⟨rfl, rfl⟩ ⟨Nat.le_of_ble_eq_true rfl, Nat.le_of_ble_eq_true rfl⟩ ⟨Nat.le_refl _, Nat.le_refl _⟩ dX10_day_127 (aw_kv fun I_3 J_4 h => ?_)
    refine aw_sub [0, 1] rfl ?_
    exact t_X10_day_130 hG   h
set_option maxRecDepth 20000 in
theorem tb_X10_day_95 {l : Launch} {D : va_G} {cy : Nat → ClassId} {sz : Nat} {G : sw_G} (hG : sw_lay G)   {Q : Int32 → sw_I → sw_J → Prop} {K95 : Int32 → sw_I → sw_J → Prop} (hK95 : ∀ (x5 : Int32) (I : sw_I) (J : sw_J), K95 x5 I J → AW l D cy sz RX10 cX10_day 6 (some .int) false rm_X10_day 0 0 (sw_qi G Q) 0 0 G I J 95 [(0, .ref (sz + 140)), (5, .int x5)] []) {x5 : Int32} {I : sw_I} {J : sw_J} (h : wb_X10_day_95  K95 Q x5 I J) : AW l D cy sz RX10 cX10_day 6 (some .int) false rm_X10_day 0 0 (sw_qi G Q) 0 0 G I J 95 [(0, .ref (sz + 140)), (5, .int x5)] [] := by
  unfold wb_X10_day_95 at h
  refine aw_iload 1 dX10_day_95 rfl ?_
  refine aw_aload_n 0 dX10_day_97 rfl rfl ?_
  refine gf_X10_38 fl_X10_271 (lk140 hG) dX10_day_98 ?_
  refine aw_jge 119 dX10_day_101 (by decide) (fun c_1 => ?_) (fun c_1 => ?_)
  · have h := sw_if.f h c_1
    refine aw_sub [0, 1] rfl ?_
    exact t_X10_day_119 hG   h
  · have h := sw_if.t h c_1
    refine aw_aload_n 0 dX10_day_104 rfl rfl ?_
    refine aw_iload 1 dX10_day_105 rfl ?_
    refine aw_callV wv_X10_does (M_X10_does hG  h) ml_X10_292 rfl (by decide) (lk140 hG) rfl rfl (Nat.le_of_ble_eq_true rfl) ⟨rfl, rfl⟩ ⟨Nat.le_of_ble_eq_true rfl, Nat.le_of_ble_eq_true rfl⟩ ⟨Nat.le_refl _, Nat.le_refl _⟩ dX10_day_107 (aw_ki fun r_2 I_3 J_4 h => ?_)
    refine aw_zeq 119 dX10_day_110 (by decide) (fun c_5 => ?_) (fun c_5 => ?_)
    · have h := sw_if.t h c_5
      refine aw_sub [0, 1] rfl ?_
      exact t_X10_day_119 hG   h
    · have h := sw_if.f h c_5
      obtain ⟨y_6, e_7⟩ : ∃ q : Int32, q = x5 + 1 := ⟨_, rfl⟩
      have h := h y_6 e_7
      refine aw_iinc (lv' := [(5, .int y_6), (0, .ref (sz + 140))]) 1 dX10_day_113 rfl (by rw [e_7]; rfl) (by decide) rfl ?_
      refine aw_goto 95 dX10_day_116 (by decide) ?_
      refine aw_sub [1, 0] rfl ?_
      exact hK95 y_6 I_3 J_4 h
set_option maxRecDepth 20000 in
theorem tl_X10_day_95 {l : Launch} {D : va_G} {cy : Nat → ClassId} {sz : Nat} {G : sw_G} (hG : sw_lay G)   {Q : Int32 → sw_I → sw_J → Prop} : ∀ (n : Nat) (x5 : Int32) (I : sw_I) (J : sw_J), wl_X10_day_95   Q n x5 I J → AW l D cy sz RX10 cX10_day 6 (some .int) false rm_X10_day 0 0 (sw_qi G Q) 0 0 G I J 95 [(0, .ref (sz + 140)), (5, .int x5)] [] := by
  intro n
  induction n with
  | zero => intro x5 I J h; exact False.elim h
  | succ n ih => intro x5 I J h; exact tb_X10_day_95 hG  ih h
set_option maxRecDepth 20000 in
theorem t_X10_day_56 {l : Launch} {D : va_G} {cy : Nat → ClassId} {sz : Nat} {G : sw_G} (hG : sw_lay G)   {Q : Int32 → sw_I → sw_J → Prop} {K29 : Int32 → Int32 → Int32 → sw_I → sw_J → Prop} (hK29 : ∀ (x1 : Int32) (x2 : Int32) (x3 : Int32) (I : sw_I) (J : sw_J), K29 x1 x2 x3 I J → AW l D cy sz RX10 cX10_day 6 (some .int) false rm_X10_day 0 0 (sw_qi G Q) 0 0 G I J 29 [(0, .ref (sz + 140)), (1, .int x1), (2, .int x2), (3, .int x3)] []) {x1 : Int32} {x2 : Int32} {s0 : Int32} {I : sw_I} {J : sw_J} (h : wB_X10_day_56  K29 Q x1 x2 s0 I J) : AW l D cy sz RX10 cX10_day 6 (some .int) false rm_X10_day 0 0 (sw_qi G Q) 0 0 G I J 56 [(0, .ref (sz + 140)), (1, .int x1), (2, .int x2)] [.int s0] := by
  unfold wB_X10_day_56 at h
  refine aw_istore_n (lv' := [(3, .int s0), (0, .ref (sz + 140)), (1, .int x1), (2, .int x2)]) dX10_day_56 rfl (by decide) rfl ?_
  refine aw_goto 29 dX10_day_57 (by decide) ?_
  refine aw_sub [1, 2, 3, 0] rfl ?_
  exact hK29 x1 x2 s0 I J h
set_option maxRecDepth 20000 in
theorem t_X10_day_55 {l : Launch} {D : va_G} {cy : Nat → ClassId} {sz : Nat} {G : sw_G} (hG : sw_lay G)   {Q : Int32 → sw_I → sw_J → Prop} {K29 : Int32 → Int32 → Int32 → sw_I → sw_J → Prop} (hK29 : ∀ (x1 : Int32) (x2 : Int32) (x3 : Int32) (I : sw_I) (J : sw_J), K29 x1 x2 x3 I J → AW l D cy sz RX10 cX10_day 6 (some .int) false rm_X10_day 0 0 (sw_qi G Q) 0 0 G I J 29 [(0, .ref (sz + 140)), (1, .int x1), (2, .int x2), (3, .int x3)] []) {x1 : Int32} {x2 : Int32} {I : sw_I} {J : sw_J} (h : wB_X10_day_55  K29 Q x1 x2 I J) : AW l D cy sz RX10 cX10_day 6 (some .int) false rm_X10_day 0 0 (sw_qi G Q) 0 0 G I J 55 [(0, .ref (sz + 140)), (1, .int x1), (2, .int x2)] [] := by
  unfold wB_X10_day_55 at h
  refine aw_iconst (v := 0) dX10_day_55 (by decide) ?_
  refine aw_sub [0, 1, 2] rfl ?_
  exact t_X10_day_56 hG  hK29 h
set_option maxRecDepth 20000 in
theorem tb_X10_day_29 {l : Launch} {D : va_G} {cy : Nat → ClassId} {sz : Nat} {G : sw_G} (hG : sw_lay G)   {Q : Int32 → sw_I → sw_J → Prop} {K29 : Int32 → Int32 → Int32 → sw_I → sw_J → Prop} (hK29 : ∀ (x1 : Int32) (x2 : Int32) (x3 : Int32) (I : sw_I) (J : sw_J), K29 x1 x2 x3 I J → AW l D cy sz RX10 cX10_day 6 (some .int) false rm_X10_day 0 0 (sw_qi G Q) 0 0 G I J 29 [(0, .ref (sz + 140)), (1, .int x1), (2, .int x2), (3, .int x3)] []) {x1 : Int32} {x2 : Int32} {x3 : Int32} {I : sw_I} {J : sw_J} (h : wb_X10_day_29  K29 Q x1 x2 x3 I J) : AW l D cy sz RX10 cX10_day 6 (some .int) false rm_X10_day 0 0 (sw_qi G Q) 0 0 G I J 29 [(0, .ref (sz + 140)), (1, .int x1), (2, .int x2), (3, .int x3)] [] := by
  unfold wb_X10_day_29 at h
  refine aw_iload_n 3 dX10_day_29 rfl rfl ?_
  refine aw_zeq 60 dX10_day_30 (by decide) (fun c_1 => ?_) (fun c_1 => ?_)
  · have h := sw_if.t h c_1
    refine aw_aload_n 0 dX10_day_60 rfl rfl ?_
    refine aw_iload_n 1 dX10_day_61 rfl rfl ?_
    refine aw_bipush (v := 60) dX10_day_62 (by decide) ?_
    refine aw_iload_n 2 dX10_day_64 rfl rfl ?_
    refine aw_callV wv_X10_faultOf (M_X10_faultOf hG  h) ml_X10_127 rfl (by decide) (lk140 hG) rfl rfl (Nat.le_of_ble_eq_true rfl) ⟨rfl, rfl⟩ ⟨Nat.le_of_ble_eq_true rfl, Nat.le_of_ble_eq_true rfl⟩ ⟨Nat.le_refl _, Nat.le_refl _⟩ dX10_day_65 (aw_ki fun r_2 I_3 J_4 h => ?_)
    refine aw_istore (lv' := [(4, .int r_2), (0, .ref (sz + 140)), (1, .int x1), (2, .int x2), (3, .int x3)]) dX10_day_68 (by decide) rfl ?_
    refine aw_iload 0 dX10_day_70 rfl ?_
    refine aw_zge 78 dX10_day_72 (by decide) (fun c_5 => ?_) (fun c_5 => ?_)
    · have h := sw_if.f h c_5
      refine aw_aload_n 1 dX10_day_78 rfl rfl ?_
      refine aw_callV wv_X10_putsBy (M_X10_putsBy hG  h) ml_X10_251 rfl (by decide) (lk140 hG) rfl rfl (Nat.le_of_ble_eq_true rfl) ⟨rfl, rfl⟩ ⟨Nat.le_of_ble_eq_true rfl, Nat.le_of_ble_eq_true rfl⟩ ⟨Nat.le_refl _, Nat.le_refl _⟩ dX10_day_79 (aw_kv fun I_7 J_8 h => ?_)
      refine aw_aload_n 1 dX10_day_82 rfl rfl ?_
      refine aw_iconst (v := 0) dX10_day_83 (by decide) ?_
      refine pf_X10_39 fl_X10_286 (lk140 hG) dX10_day_84 (aw_nameI fun I_9 e_10 => ?_)
      have h := h I_9 e_10
      refine aw_aload_n 1 dX10_day_87 rfl rfl ?_
      refine aw_iconst (v := 0) dX10_day_88 (by decide) ?_
      refine pf_X10_40 fl_X10_283 (lk140 hG) dX10_day_89 (aw_nameI fun I_11 e_12 => ?_)
      have h := h I_11 e_12
      refine aw_iconst (v := 0) dX10_day_92 (by decide) ?_
      refine aw_istore (lv' := [(5, .int 0), (4, .int r_2), (0, .ref (sz + 140)), (1, .int x1), (2, .int x2), (3, .int x3)]) dX10_day_93 (by decide) rfl ?_
      refine aw_sub [2, 0] rfl ?_
      obtain ⟨n_13, h⟩ := h
      exact tl_X10_day_95 hG   n_13 0 I_11 J_8 h
    · have h := sw_if.t h c_5
      refine aw_iload 0 dX10_day_75 rfl ?_
      exact aw_iret rfl dX10_day_77 ⟨rfl, _, rfl, h⟩
  · have h := sw_if.f h c_1
    refine aw_aload_n 0 dX10_day_33 rfl rfl ?_
    refine aw_callV wv_X10_readsAct (M_X10_readsAct hG  h) ml_X10_289 rfl (by decide) (lk140 hG) rfl rfl (Nat.le_of_ble_eq_true rfl) ⟨rfl, rfl⟩ ⟨Nat.le_of_ble_eq_true rfl, Nat.le_of_ble_eq_true rfl⟩ ⟨Nat.le_refl _, Nat.le_refl _⟩ dX10_day_34 (aw_ki fun r_14 I_15 J_16 h => ?_)
    refine aw_istore_n (lv' := [(2, .int r_14), (0, .ref (sz + 140)), (1, .int x1), (3, .int x3)]) dX10_day_37 rfl (by decide) rfl ?_
    refine aw_iload_n 0 dX10_day_38 rfl rfl ?_
    refine aw_zeq 55 dX10_day_39 (by decide) (fun c_17 => ?_) (fun c_17 => ?_)
    · have h := sw_if.t h c_17
      refine aw_sub [1, 2, 0] rfl ?_
      exact t_X10_day_55 hG  hK29 h
    · have h := sw_if.f h c_17
      refine aw_aload_n 1 dX10_day_42 rfl rfl ?_
      refine aw_bipush (v := 59) dX10_day_43 (by decide) ?_
      refine aw_callV wv_X10_takes (M_X10_takes hG  h) ml_X10_108 rfl (by decide) (lk140 hG) rfl rfl (Nat.le_of_ble_eq_true rfl) ⟨rfl, rfl⟩ ⟨Nat.le_of_ble_eq_true rfl, Nat.le_of_ble_eq_true rfl⟩ ⟨Nat.le_refl _, Nat.le_refl _⟩ dX10_day_45 (aw_ki fun r_18 I_19 J_20 h => ?_)
      refine aw_zeq 55 dX10_day_48 (by decide) (fun c_21 => ?_) (fun c_21 => ?_)
      · have h := sw_if.t h c_21
        refine aw_sub [1, 2, 0] rfl ?_
        exact t_X10_day_55 hG  hK29 h
      · have h := sw_if.f h c_21
        refine aw_iconst (v := 1) dX10_day_51 (by decide) ?_
        refine aw_goto 56 dX10_day_52 (by decide) ?_
        refine aw_sub [1, 2, 0] rfl ?_
        exact t_X10_day_56 hG  hK29 h
set_option maxRecDepth 20000 in
theorem tl_X10_day_29 {l : Launch} {D : va_G} {cy : Nat → ClassId} {sz : Nat} {G : sw_G} (hG : sw_lay G)   {Q : Int32 → sw_I → sw_J → Prop} : ∀ (n : Nat) (x1 : Int32) (x2 : Int32) (x3 : Int32) (I : sw_I) (J : sw_J), wl_X10_day_29   Q n x1 x2 x3 I J → AW l D cy sz RX10 cX10_day 6 (some .int) false rm_X10_day 0 0 (sw_qi G Q) 0 0 G I J 29 [(0, .ref (sz + 140)), (1, .int x1), (2, .int x2), (3, .int x3)] [] := by
  intro n
  induction n with
  | zero => intro x1 x2 x3 I J h; exact False.elim h
  | succ n ih => intro x1 x2 x3 I J h; exact tb_X10_day_29 hG  ih h
set_option maxRecDepth 20000 in
theorem t_X10_day_28 {l : Launch} {D : va_G} {cy : Nat → ClassId} {sz : Nat} {G : sw_G} (hG : sw_lay G)   {Q : Int32 → sw_I → sw_J → Prop} {x1 : Int32} {x2 : Int32} {s0 : Int32} {I : sw_I} {J : sw_J} (h : wB_X10_day_28   Q x1 x2 s0 I J) : AW l D cy sz RX10 cX10_day 6 (some .int) false rm_X10_day 0 0 (sw_qi G Q) 0 0 G I J 28 [(0, .ref (sz + 140)), (1, .int x1), (2, .int x2)] [.int s0] := by
  unfold wB_X10_day_28 at h
  refine aw_istore_n (lv' := [(3, .int s0), (0, .ref (sz + 140)), (1, .int x1), (2, .int x2)]) dX10_day_28 rfl (by decide) rfl ?_
  refine aw_sub [1, 2, 3, 0] rfl ?_
  obtain ⟨n_1, h⟩ := h
  exact tl_X10_day_29 hG   n_1 x1 x2 s0 I J h
set_option maxRecDepth 20000 in
theorem t_X10_day {l : Launch} {D : va_G} {cy : Nat → ClassId} {sz : Nat} {G : sw_G} (hG : sw_lay G)   {Q : Int32 → sw_I → sw_J → Prop}  {I : sw_I} {J : sw_J} (h : wp_X10_day  I J Q) : AW l D cy sz RX10 cX10_day 6 (some .int) false rm_X10_day 0 0 (sw_qi G Q) 0 0 G I J 0 [(0, .ref (sz + 140))] [] := by
  unfold wp_X10_day at h
  refine aw_aload_n 0 dX10_day_0 rfl rfl ?_
  refine aw_iconst (v := 0) dX10_day_1 (by decide) ?_
  refine pf_X10_0 fl_X10_3 (lk140 hG) dX10_day_2 (aw_nameI fun I_1 e_2 => ?_)
  have h := h I_1 e_2
  refine aw_aload_n 0 dX10_day_5 rfl rfl ?_
  refine aw_bipush (v := 60) dX10_day_6 (by decide) ?_
  refine aw_callV wv_X10_begins (M_X10_begins hG  h) ml_X10_120 rfl (by decide) (lk140 hG) rfl rfl (Nat.le_of_ble_eq_true rfl) ⟨rfl, rfl⟩ ⟨Nat.le_of_ble_eq_true rfl, Nat.le_of_ble_eq_true rfl⟩ ⟨Nat.le_refl _, Nat.le_refl _⟩ dX10_day_8 (aw_ki fun r_3 I_4 J_5 h => ?_)
  refine aw_istore_n (lv' := [(1, .int r_3), (0, .ref (sz + 140))]) dX10_day_11 rfl (by decide) rfl ?_
  refine aw_aload_n 1 dX10_day_12 rfl rfl ?_
  refine aw_iconst (v := 0) dX10_day_13 (by decide) ?_
  refine pf_X10_38 fl_X10_271 (lk140 hG) dX10_day_14 (aw_nameI fun I_6 e_7 => ?_)
  have h := h I_6 e_7
  refine aw_iconst (v := 1) dX10_day_17 (by decide) ?_
  refine aw_istore_n (lv' := [(2, .int 1), (1, .int r_3), (0, .ref (sz + 140))]) dX10_day_18 rfl (by decide) rfl ?_
  refine aw_iload_n 1 dX10_day_19 rfl rfl ?_
  refine aw_zle 27 dX10_day_20 (by decide) (fun c_8 => ?_) (fun c_8 => ?_)
  · have h := sw_if.f h c_8
    refine aw_iconst (v := 0) dX10_day_27 (by decide) ?_
    refine aw_sub [2, 1, 0] rfl ?_
    exact t_X10_day_28 hG   h
  · have h := sw_if.t h c_8
    refine aw_iconst (v := 1) dX10_day_23 (by decide) ?_
    refine aw_goto 28 dX10_day_24 (by decide) ?_
    refine aw_sub [2, 1, 0] rfl ?_
    exact t_X10_day_28 hG   h
theorem M_X10_day {l : Launch} {D : va_G} {cy : Nat → ClassId} {sz : Nat} {G : sw_G} (hG : sw_lay G)   {Q : Int32 → sw_I → sw_J → Prop}  {I : sw_I} {J : sw_J} (h : wp_X10_day  I J Q) : Met l yX10_day (Cond.code yX10_day cX10_day 6 (some .int) :: sw_T) rm_X10_day (sw_Pc D cy sz [.ref (sz + 140)] G I J) (sw_Q D cy sz (sw_qi G Q)) 0 0 (fun q => sz ≤ q) :=
  sw_met (by decide) (fun q => by cases q) (Nat.le_of_ble_eq_true rfl) rfl (t_X10_day hG  h)
-- X10_stop
abbrev rm_X10_stop : Room := { frames := 5, cells := 0, slots := 0, locals := 115 }
def wp_X10_stop  (I : sw_I) (J : sw_J) (Q : Int32 → sw_I → sw_J → Prop) : Prop :=
  ∀ I_1 : sw_I, I_1 = sw_up I 140 0 (0 : Int32) → wp_X10_stopOf 144 33 (I_1 144 (30 : Int32).toNatClampNeg) I_1 J (fun r_4 I_5 J_6 => Q r_4 I_5 J_6)
set_option maxRecDepth 20000 in
theorem t_X10_stop {l : Launch} {D : va_G} {cy : Nat → ClassId} {sz : Nat} {G : sw_G} (hG : sw_lay G)   {Q : Int32 → sw_I → sw_J → Prop}  {I : sw_I} {J : sw_J} (h : wp_X10_stop  I J Q) : AW l D cy sz RX10 cX10_stop 1 (some .int) false rm_X10_stop 0 0 (sw_qi G Q) 0 0 G I J 0 [(0, .ref (sz + 140))] [] := by
  unfold wp_X10_stop at h
  refine aw_aload_n 0 dX10_stop_0 rfl rfl ?_
  refine aw_iconst (v := 0) dX10_stop_1 (by decide) ?_
  refine pf_X10_0 fl_X10_3 (lk140 hG) dX10_stop_2 (aw_nameI fun I_1 e_2 => ?_)
  have h := h I_1 e_2
  refine aw_aload_n 0 dX10_stop_5 rfl rfl ?_
  refine aw_aload_n 0 dX10_stop_6 rfl rfl ?_
  refine gf_X10_9 fl_X10_79 (lk140 hG) (lr140_9 hG) dX10_stop_7 ?_
  refine aw_aload_n 0 dX10_stop_10 rfl rfl ?_
  refine gf_X10_9 fl_X10_79 (lk140 hG) (lr140_9 hG) dX10_stop_11 ?_
  refine aw_bipush (v := 30) dX10_stop_14 (by decide) ?_
  refine aw_ild dX10_stop_16 (lk144 hG) (ln144 hG) (by unfold vp_in; decide) ?_
  refine aw_callV wv_X10_stopOf (M_X10_stopOf hG ⟨(lk144 hG), (ln144 hG)⟩ h) ml_X10_222 rfl (by decide) (lk140 hG) rfl rfl (Nat.le_of_ble_eq_true rfl) ⟨rfl, rfl⟩ ⟨Nat.le_of_ble_eq_true rfl, Nat.le_of_ble_eq_true rfl⟩ ⟨Nat.le_refl _, Nat.le_refl _⟩ dX10_stop_17 (aw_ki fun r_4 I_5 J_6 h => ?_)
  exact aw_iret rfl dX10_stop_20 ⟨rfl, _, rfl, h⟩
theorem M_X10_stop {l : Launch} {D : va_G} {cy : Nat → ClassId} {sz : Nat} {G : sw_G} (hG : sw_lay G)   {Q : Int32 → sw_I → sw_J → Prop}  {I : sw_I} {J : sw_J} (h : wp_X10_stop  I J Q) : Met l yX10_stop (Cond.code yX10_stop cX10_stop 1 (some .int) :: sw_T) rm_X10_stop (sw_Pc D cy sz [.ref (sz + 140)] G I J) (sw_Q D cy sz (sw_qi G Q)) 0 0 (fun q => sz ≤ q) :=
  sw_met (by decide) (fun q => by cases q) (Nat.le_of_ble_eq_true rfl) rfl (t_X10_stop hG  h)
-- X10_goes
abbrev rm_X10_goes : Room := { frames := 5, cells := 0, slots := 0, locals := 115 }
def wb_X10_goes_40  (K40 : Int32 → Int32 → sw_I → sw_J → Prop) (Q : Int32 → sw_I → sw_J → Prop) (x2 : Int32) (x3 : Int32) (I : sw_I) (J : sw_J) : Prop :=
  sw_if (x3 < (I 140 3)) (wp_X10_lawFor x3 I J (fun r_2 I_3 J_4 => wp_X10_enters r_2.toInt64 I_3 J_4 (fun I_6 J_7 => ∀ y_8 : Int32, y_8 = x3 + 1 → K40 x2 y_8 I_6 J_7))) (Q x2 I J)
def wl_X10_goes_40   (Q : Int32 → sw_I → sw_J → Prop) : Nat → Int32 → Int32 → sw_I → sw_J → Prop
  | 0 => fun _ _ _ _ => False
  | n + 1 => fun x2 x3 I J => wb_X10_goes_40  (wl_X10_goes_40   Q n) Q x2 x3 I J
def wp_X10_goes (x1 : Int32) (I : sw_I) (J : sw_J) (Q : Int32 → sw_I → sw_J → Prop) : Prop :=
  ∀ I_1 : sw_I, I_1 = sw_up I 140 0 (0 : Int32) → wp_X10_there 144 33 I_1 J (fun r_3 I_4 J_5 => sw_if ((x1 &&& (r_3 ^^^ (-1 : Int32))) = 0) (wp_X10_stopOf 144 33 x1 I_4 J_5 (fun r_7 I_8 J_9 => ∀ I_10 : sw_I, I_10 = sw_up I_8 140 1 (0 : Int32) → ∃ n_12 : Nat, wl_X10_goes_40   Q n_12 r_7 0 I_10 J_9)) (Q (-2 : Int32) I_4 J_5))
set_option maxRecDepth 20000 in
theorem tb_X10_goes_40 {l : Launch} {D : va_G} {cy : Nat → ClassId} {sz : Nat} {G : sw_G} (hG : sw_lay G)   {Q : Int32 → sw_I → sw_J → Prop} {K40 : Int32 → Int32 → sw_I → sw_J → Prop} (hK40 : ∀ (x2 : Int32) (x3 : Int32) (I : sw_I) (J : sw_J), K40 x2 x3 I J → AW l D cy sz RX10 cX10_goes 4 (some .int) false rm_X10_goes 0 0 (sw_qi G Q) 0 0 G I J 40 [(0, .ref (sz + 140)), (2, .int x2), (3, .int x3)] []) {x2 : Int32} {x3 : Int32} {I : sw_I} {J : sw_J} (h : wb_X10_goes_40  K40 Q x2 x3 I J) : AW l D cy sz RX10 cX10_goes 4 (some .int) false rm_X10_goes 0 0 (sw_qi G Q) 0 0 G I J 40 [(0, .ref (sz + 140)), (2, .int x2), (3, .int x3)] [] := by
  unfold wb_X10_goes_40 at h
  refine aw_iload_n 2 dX10_goes_40 rfl rfl ?_
  refine aw_aload_n 0 dX10_goes_41 rfl rfl ?_
  refine gf_X10_3 fl_X10_22 (lk140 hG) dX10_goes_42 ?_
  refine aw_jge 64 dX10_goes_45 (by decide) (fun c_1 => ?_) (fun c_1 => ?_)
  · have h := sw_if.f h c_1
    refine aw_iload_n 1 dX10_goes_64 rfl rfl ?_
    exact aw_iret rfl dX10_goes_65 ⟨rfl, _, rfl, h⟩
  · have h := sw_if.t h c_1
    refine aw_aload_n 0 dX10_goes_48 rfl rfl ?_
    refine aw_aload_n 0 dX10_goes_49 rfl rfl ?_
    refine aw_iload_n 2 dX10_goes_50 rfl rfl ?_
    refine aw_callV wv_X10_lawFor (M_X10_lawFor hG  h) ml_X10_212 rfl (by decide) (lk140 hG) rfl rfl (Nat.le_of_ble_eq_true rfl) ⟨rfl, rfl⟩ ⟨Nat.le_of_ble_eq_true rfl, Nat.le_of_ble_eq_true rfl⟩ ⟨Nat.le_refl _, Nat.le_refl _⟩ dX10_goes_51 (aw_ki fun r_2 I_3 J_4 h => ?_)
    refine aw_i2l dX10_goes_54 ?_
    refine aw_callV wv_X10_enters (M_X10_enters hG  h) ml_X10_18 rfl (by decide) (lk140 hG) rfl rfl (Nat.le_of_ble_eq_true rfl) ⟨rfl, rfl⟩ ⟨Nat.le_of_ble_eq_true rfl, Nat.le_of_ble_eq_true rfl⟩ ⟨Nat.le_refl _, Nat.le_refl _⟩ dX10_goes_55 (aw_kv fun I_6 J_7 h => ?_)
    obtain ⟨y_8, e_9⟩ : ∃ q : Int32, q = x3 + 1 := ⟨_, rfl⟩
    have h := h y_8 e_9
    refine aw_iinc (lv' := [(3, .int y_8), (0, .ref (sz + 140)), (2, .int x2)]) 2 dX10_goes_58 rfl (by rw [e_9]; rfl) (by decide) rfl ?_
    refine aw_goto 40 dX10_goes_61 (by decide) ?_
    refine aw_sub [1, 2, 0] rfl ?_
    exact hK40 x2 y_8 I_6 J_7 h
set_option maxRecDepth 20000 in
theorem tl_X10_goes_40 {l : Launch} {D : va_G} {cy : Nat → ClassId} {sz : Nat} {G : sw_G} (hG : sw_lay G)   {Q : Int32 → sw_I → sw_J → Prop} : ∀ (n : Nat) (x2 : Int32) (x3 : Int32) (I : sw_I) (J : sw_J), wl_X10_goes_40   Q n x2 x3 I J → AW l D cy sz RX10 cX10_goes 4 (some .int) false rm_X10_goes 0 0 (sw_qi G Q) 0 0 G I J 40 [(0, .ref (sz + 140)), (2, .int x2), (3, .int x3)] [] := by
  intro n
  induction n with
  | zero => intro x2 x3 I J h; exact False.elim h
  | succ n ih => intro x2 x3 I J h; exact tb_X10_goes_40 hG  ih h
set_option maxRecDepth 20000 in
theorem t_X10_goes {l : Launch} {D : va_G} {cy : Nat → ClassId} {sz : Nat} {G : sw_G} (hG : sw_lay G)   {Q : Int32 → sw_I → sw_J → Prop} {x1 : Int32} {I : sw_I} {J : sw_J} (h : wp_X10_goes x1 I J Q) : AW l D cy sz RX10 cX10_goes 4 (some .int) false rm_X10_goes 0 0 (sw_qi G Q) 0 0 G I J 0 [(0, .ref (sz + 140)), (1, .int x1)] [] := by
  unfold wp_X10_goes at h
  refine aw_aload_n 0 dX10_goes_0 rfl rfl ?_
  refine aw_iconst (v := 0) dX10_goes_1 (by decide) ?_
  refine pf_X10_0 fl_X10_3 (lk140 hG) dX10_goes_2 (aw_nameI fun I_1 e_2 => ?_)
  have h := h I_1 e_2
  refine aw_iload_n 1 dX10_goes_5 rfl rfl ?_
  refine aw_aload_n 0 dX10_goes_6 rfl rfl ?_
  refine aw_aload_n 0 dX10_goes_7 rfl rfl ?_
  refine gf_X10_9 fl_X10_79 (lk140 hG) (lr140_9 hG) dX10_goes_8 ?_
  refine aw_callV wv_X10_there (M_X10_there hG ⟨(lk144 hG), (ln144 hG)⟩ h) ml_X10_295 rfl (by decide) (lk140 hG) rfl rfl (Nat.le_of_ble_eq_true rfl) ⟨rfl, rfl⟩ ⟨Nat.le_of_ble_eq_true rfl, Nat.le_of_ble_eq_true rfl⟩ ⟨Nat.le_refl _, Nat.le_refl _⟩ dX10_goes_11 (aw_ki fun r_3 I_4 J_5 h => ?_)
  refine aw_iconst (v := (-1)) dX10_goes_14 (by decide) ?_
  refine aw_ixor dX10_goes_15 ?_
  refine aw_iand dX10_goes_16 ?_
  refine aw_zeq 23 dX10_goes_17 (by decide) (fun c_6 => ?_) (fun c_6 => ?_)
  · have h := sw_if.t h c_6
    refine aw_aload_n 0 dX10_goes_23 rfl rfl ?_
    refine aw_aload_n 0 dX10_goes_24 rfl rfl ?_
    refine gf_X10_9 fl_X10_79 (lk140 hG) (lr140_9 hG) dX10_goes_25 ?_
    refine aw_iload_n 1 dX10_goes_28 rfl rfl ?_
    refine aw_callV wv_X10_stopOf (M_X10_stopOf hG ⟨(lk144 hG), (ln144 hG)⟩ h) ml_X10_222 rfl (by decide) (lk140 hG) rfl rfl (Nat.le_of_ble_eq_true rfl) ⟨rfl, rfl⟩ ⟨Nat.le_of_ble_eq_true rfl, Nat.le_of_ble_eq_true rfl⟩ ⟨Nat.le_refl _, Nat.le_refl _⟩ dX10_goes_29 (aw_ki fun r_7 I_8 J_9 h => ?_)
    refine aw_istore_n (lv' := [(2, .int r_7), (0, .ref (sz + 140)), (1, .int x1)]) dX10_goes_32 rfl (by decide) rfl ?_
    refine aw_aload_n 1 dX10_goes_33 rfl rfl ?_
    refine aw_iconst (v := 0) dX10_goes_34 (by decide) ?_
    refine pf_X10_1 fl_X10_15 (lk140 hG) dX10_goes_35 (aw_nameI fun I_10 e_11 => ?_)
    have h := h I_10 e_11
    refine aw_iconst (v := 0) dX10_goes_38 (by decide) ?_
    refine aw_istore_n (lv' := [(3, .int 0), (2, .int r_7), (0, .ref (sz + 140)), (1, .int x1)]) dX10_goes_39 rfl (by decide) rfl ?_
    refine aw_sub [2, 1, 0] rfl ?_
    obtain ⟨n_12, h⟩ := h
    exact tl_X10_goes_40 hG   n_12 r_7 0 I_10 J_9 h
  · have h := sw_if.f h c_6
    refine aw_bipush (v := (-2)) dX10_goes_20 (by decide) ?_
    exact aw_iret rfl dX10_goes_22 ⟨rfl, _, rfl, h⟩
theorem M_X10_goes {l : Launch} {D : va_G} {cy : Nat → ClassId} {sz : Nat} {G : sw_G} (hG : sw_lay G)   {Q : Int32 → sw_I → sw_J → Prop} {x1 : Int32} {I : sw_I} {J : sw_J} (h : wp_X10_goes x1 I J Q) : Met l yX10_goes (Cond.code yX10_goes cX10_goes 4 (some .int) :: sw_T) rm_X10_goes (sw_Pc D cy sz [.ref (sz + 140), .int x1] G I J) (sw_Q D cy sz (sw_qi G Q)) 0 0 (fun q => sz ≤ q) :=
  sw_met (by decide) (fun q => by cases q) (Nat.le_of_ble_eq_true rfl) rfl (t_X10_goes hG  h)
-- X10_worthOf
abbrev rm_X10_worthOf : Room := { frames := 3, cells := 0, slots := 0, locals := 67 }
def wp_X10_worthOf (x1 : Int32) (I : sw_I) (J : sw_J) (Q : Int32 → sw_I → sw_J → Prop) : Prop :=
  ∀ I_1 : sw_I, I_1 = sw_up I 140 0 (0 : Int32) → wp_X10_isFloor x1 I_1 J (fun r_3 I_4 J_5 => sw_if (r_3 = 0) (wp_X10_refuse  I_4 J_5 (fun r_14 I_15 J_16 => Q r_14 I_15 J_16)) (wp_X10_looks 144 33 (I_4 144 (30 : Int32).toNatClampNeg) I_4 J_5 (fun I_9 J_10 => wp_X10_lawFor x1 I_9 J_10 (fun r_11 I_12 J_13 => Q r_11 I_12 J_13))))
set_option maxRecDepth 20000 in
theorem t_X10_worthOf {l : Launch} {D : va_G} {cy : Nat → ClassId} {sz : Nat} {G : sw_G} (hG : sw_lay G)   {Q : Int32 → sw_I → sw_J → Prop} {x1 : Int32} {I : sw_I} {J : sw_J} (h : wp_X10_worthOf x1 I J Q) : AW l D cy sz RX10 cX10_worthOf 2 (some .int) false rm_X10_worthOf 0 0 (sw_qi G Q) 0 0 G I J 0 [(0, .ref (sz + 140)), (1, .int x1)] [] := by
  unfold wp_X10_worthOf at h
  refine aw_aload_n 0 dX10_worthOf_0 rfl rfl ?_
  refine aw_iconst (v := 0) dX10_worthOf_1 (by decide) ?_
  refine pf_X10_0 fl_X10_3 (lk140 hG) dX10_worthOf_2 (aw_nameI fun I_1 e_2 => ?_)
  have h := h I_1 e_2
  refine aw_aload_n 0 dX10_worthOf_5 rfl rfl ?_
  refine aw_iload_n 1 dX10_worthOf_6 rfl rfl ?_
  refine aw_callV wv_X10_isFloor (M_X10_isFloor hG  h) ml_X10_95 rfl (by decide) (lk140 hG) rfl rfl (Nat.le_of_ble_eq_true rfl) ⟨rfl, rfl⟩ ⟨Nat.le_of_ble_eq_true rfl, Nat.le_of_ble_eq_true rfl⟩ ⟨Nat.le_refl _, Nat.le_refl _⟩ dX10_worthOf_7 (aw_ki fun r_3 I_4 J_5 h => ?_)
  refine aw_zne 18 dX10_worthOf_10 (by decide) (fun c_6 => ?_) (fun c_6 => ?_)
  · have h := sw_if.f h c_6
    refine aw_aload_n 0 dX10_worthOf_18 rfl rfl ?_
    refine aw_aload_n 0 dX10_worthOf_19 rfl rfl ?_
    refine gf_X10_9 fl_X10_79 (lk140 hG) (lr140_9 hG) dX10_worthOf_20 ?_
    refine aw_aload_n 0 dX10_worthOf_23 rfl rfl ?_
    refine gf_X10_9 fl_X10_79 (lk140 hG) (lr140_9 hG) dX10_worthOf_24 ?_
    refine aw_bipush (v := 30) dX10_worthOf_27 (by decide) ?_
    refine aw_ild dX10_worthOf_29 (lk144 hG) (ln144 hG) (by unfold vp_in; decide) ?_
    refine aw_callV wv_X10_looks (M_X10_looks hG ⟨(lk144 hG), (ln144 hG)⟩ h) ml_X10_215 rfl (by decide) (lk140 hG) rfl rfl (Nat.le_of_ble_eq_true rfl) ⟨rfl, rfl⟩ ⟨Nat.le_of_ble_eq_true rfl, Nat.le_of_ble_eq_true rfl⟩ ⟨Nat.le_refl _, Nat.le_refl _⟩ dX10_worthOf_30 (aw_kv fun I_9 J_10 h => ?_)
    refine aw_aload_n 0 dX10_worthOf_33 rfl rfl ?_
    refine aw_iload_n 1 dX10_worthOf_34 rfl rfl ?_
    refine aw_callV wv_X10_lawFor (M_X10_lawFor hG  h) ml_X10_212 rfl (by decide) (lk140 hG) rfl rfl (Nat.le_of_ble_eq_true rfl) ⟨rfl, rfl⟩ ⟨Nat.le_of_ble_eq_true rfl, Nat.le_of_ble_eq_true rfl⟩ ⟨Nat.le_refl _, Nat.le_refl _⟩ dX10_worthOf_35 (aw_ki fun r_11 I_12 J_13 h => ?_)
    exact aw_iret rfl dX10_worthOf_38 ⟨rfl, _, rfl, h⟩
  · have h := sw_if.t h c_6
    refine aw_aload_n 0 dX10_worthOf_13 rfl rfl ?_
    refine aw_callV wv_X10_refuse (M_X10_refuse hG  h) ml_X10_231 rfl (by decide) (lk140 hG) rfl rfl (Nat.le_of_ble_eq_true rfl) ⟨rfl, rfl⟩ ⟨Nat.le_of_ble_eq_true rfl, Nat.le_of_ble_eq_true rfl⟩ ⟨Nat.le_refl _, Nat.le_refl _⟩ dX10_worthOf_14 (aw_ki fun r_14 I_15 J_16 h => ?_)
    exact aw_iret rfl dX10_worthOf_17 ⟨rfl, _, rfl, h⟩
theorem M_X10_worthOf {l : Launch} {D : va_G} {cy : Nat → ClassId} {sz : Nat} {G : sw_G} (hG : sw_lay G)   {Q : Int32 → sw_I → sw_J → Prop} {x1 : Int32} {I : sw_I} {J : sw_J} (h : wp_X10_worthOf x1 I J Q) : Met l yX10_worthOf (Cond.code yX10_worthOf cX10_worthOf 2 (some .int) :: sw_T) rm_X10_worthOf (sw_Pc D cy sz [.ref (sz + 140), .int x1] G I J) (sw_Q D cy sz (sw_qi G Q)) 0 0 (fun q => sz ≤ q) :=
  sw_met (by decide) (fun q => by cases q) (Nat.le_of_ble_eq_true rfl) rfl (t_X10_worthOf hG  h)
-- X10_can
abbrev rm_X10_can : Room := { frames := 5, cells := 0, slots := 0, locals := 115 }
def wB_X10_can_124  (K88 : Int32 → Int32 → sw_I → sw_J → Prop) (Q : Int32 → sw_I → sw_J → Prop) (x3 : Int32) (s0 : Int32) (s1 : Int32) (I : sw_I) (J : sw_J) : Prop :=
  ∀ y_1 : Int32, y_1 = s0 ||| s1 → ∀ y_3 : Int32, y_3 = x3 + 1 → K88 y_1 y_3 I J
def wb_X10_can_88  (K88 : Int32 → Int32 → sw_I → sw_J → Prop) (Q : Int32 → sw_I → sw_J → Prop) (x2 : Int32) (x3 : Int32) (I : sw_I) (J : sw_J) : Prop :=
  sw_if (x3 < (I 140 3)) (vp_in x3 9 ∧ wp_X10_enters ((I 160 x3.toNatClampNeg).toInt64) I J (fun I_4 J_5 => vp_in x3 9 ∧ sw_if (0 < (I_4 160 x3.toNatClampNeg)) (wB_X10_can_124  K88 Q x3 x2 ((1 : Int32) <<< (x3 &&& 31)) I_4 J_5) (wB_X10_can_124  K88 Q x3 x2 0 I_4 J_5))) (Q x2 I J)
def wl_X10_can_88   (Q : Int32 → sw_I → sw_J → Prop) : Nat → Int32 → Int32 → sw_I → sw_J → Prop
  | 0 => fun _ _ _ _ => False
  | n + 1 => fun x2 x3 I J => wb_X10_can_88  (wl_X10_can_88   Q n) Q x2 x3 I J
def wB_X10_can_73  (K37 : Int32 → Int32 → sw_I → sw_J → Prop) (Q : Int32 → sw_I → sw_J → Prop) (x1 : Int32) (x2 : Int32) (I : sw_I) (J : sw_J) : Prop :=
  ∀ y_1 : Int32, y_1 = x2 + 1 → K37 x1 y_1 I J
def wb_X10_can_37  (K37 : Int32 → Int32 → sw_I → sw_J → Prop) (Q : Int32 → sw_I → sw_J → Prop) (x1 : Int32) (x2 : Int32) (I : sw_I) (J : sw_J) : Prop :=
  sw_if (x2 < ((1 : Int32) <<< ((I 140 4) &&& 31))) (sw_if ((x2 &&& (x1 ^^^ (-1 : Int32))) = 0) (wp_X10_stopOf 144 33 x2 I J (fun r_6 I_7 J_8 => vp_in r_6 9 ∧ vp_in r_6 9 ∧ ∀ I_11 : sw_I, I_11 = sw_up I_7 160 r_6.toNatClampNeg ((I_7 160 r_6.toNatClampNeg) + (1 : Int32)) → wB_X10_can_73  K37 Q x1 x2 I_11 J_8)) (wB_X10_can_73  K37 Q x1 x2 I J)) (∀ I_2 : sw_I, I_2 = sw_up I 140 1 (0 : Int32) → ∃ n_4 : Nat, wl_X10_can_88   Q n_4 0 0 I_2 J)
def wl_X10_can_37   (Q : Int32 → sw_I → sw_J → Prop) : Nat → Int32 → Int32 → sw_I → sw_J → Prop
  | 0 => fun _ _ _ _ => False
  | n + 1 => fun x1 x2 I J => wb_X10_can_37  (wl_X10_can_37   Q n) Q x1 x2 I J
def wb_X10_can_7  (K7 : Int32 → sw_I → sw_J → Prop) (Q : Int32 → sw_I → sw_J → Prop) (x1 : Int32) (I : sw_I) (J : sw_J) : Prop :=
  sw_if (x1 < (9 : Int32)) (vp_in x1 9 ∧ ∀ I_7 : sw_I, I_7 = sw_up I 160 x1.toNatClampNeg (0 : Int32) → ∀ y_9 : Int32, y_9 = x1 + 1 → K7 y_9 I_7 J) (wp_X10_there 144 33 I J (fun r_2 I_3 J_4 => ∃ n_5 : Nat, wl_X10_can_37   Q n_5 r_2 0 I_3 J_4))
def wl_X10_can_7   (Q : Int32 → sw_I → sw_J → Prop) : Nat → Int32 → sw_I → sw_J → Prop
  | 0 => fun _ _ _ => False
  | n + 1 => fun x1 I J => wb_X10_can_7  (wl_X10_can_7   Q n) Q x1 I J
def wp_X10_can  (I : sw_I) (J : sw_J) (Q : Int32 → sw_I → sw_J → Prop) : Prop :=
  ∀ I_1 : sw_I, I_1 = sw_up I 140 0 (0 : Int32) → ∃ n_3 : Nat, wl_X10_can_7   Q n_3 0 I_1 J
set_option maxRecDepth 20000 in
theorem t_X10_can_124 {l : Launch} {D : va_G} {cy : Nat → ClassId} {sz : Nat} {G : sw_G} (hG : sw_lay G)   {Q : Int32 → sw_I → sw_J → Prop} {K88 : Int32 → Int32 → sw_I → sw_J → Prop} (hK88 : ∀ (x2 : Int32) (x3 : Int32) (I : sw_I) (J : sw_J), K88 x2 x3 I J → AW l D cy sz RX10 cX10_can 4 (some .int) false rm_X10_can 0 0 (sw_qi G Q) 0 0 G I J 88 [(0, .ref (sz + 140)), (2, .int x2), (3, .int x3)] []) {x3 : Int32} {s0 : Int32} {s1 : Int32} {I : sw_I} {J : sw_J} (h : wB_X10_can_124  K88 Q x3 s0 s1 I J) : AW l D cy sz RX10 cX10_can 4 (some .int) false rm_X10_can 0 0 (sw_qi G Q) 0 0 G I J 124 [(0, .ref (sz + 140)), (3, .int x3)] [.int s1, .int s0] := by
  unfold wB_X10_can_124 at h
  refine aw_ior dX10_can_124 ?_
  refine aw_topi (fun y_1 e_2 => ?_)
  have h := h y_1 e_2
  refine aw_istore_n (lv' := [(2, .int y_1), (0, .ref (sz + 140)), (3, .int x3)]) dX10_can_125 rfl (by decide) rfl ?_
  obtain ⟨y_3, e_4⟩ : ∃ q : Int32, q = x3 + 1 := ⟨_, rfl⟩
  have h := h y_3 e_4
  refine aw_iinc (lv' := [(3, .int y_3), (2, .int y_1), (0, .ref (sz + 140))]) 2 dX10_can_126 rfl (by rw [e_4]; rfl) (by decide) rfl ?_
  refine aw_goto 88 dX10_can_129 (by decide) ?_
  refine aw_sub [2, 1, 0] rfl ?_
  exact hK88 y_1 y_3 I J h
set_option maxRecDepth 20000 in
theorem tb_X10_can_88 {l : Launch} {D : va_G} {cy : Nat → ClassId} {sz : Nat} {G : sw_G} (hG : sw_lay G)   {Q : Int32 → sw_I → sw_J → Prop} {K88 : Int32 → Int32 → sw_I → sw_J → Prop} (hK88 : ∀ (x2 : Int32) (x3 : Int32) (I : sw_I) (J : sw_J), K88 x2 x3 I J → AW l D cy sz RX10 cX10_can 4 (some .int) false rm_X10_can 0 0 (sw_qi G Q) 0 0 G I J 88 [(0, .ref (sz + 140)), (2, .int x2), (3, .int x3)] []) {x2 : Int32} {x3 : Int32} {I : sw_I} {J : sw_J} (h : wb_X10_can_88  K88 Q x2 x3 I J) : AW l D cy sz RX10 cX10_can 4 (some .int) false rm_X10_can 0 0 (sw_qi G Q) 0 0 G I J 88 [(0, .ref (sz + 140)), (2, .int x2), (3, .int x3)] [] := by
  unfold wb_X10_can_88 at h
  refine aw_iload_n 2 dX10_can_88 rfl rfl ?_
  refine aw_aload_n 0 dX10_can_89 rfl rfl ?_
  refine gf_X10_3 fl_X10_22 (lk140 hG) dX10_can_90 ?_
  refine aw_jge 132 dX10_can_93 (by decide) (fun c_1 => ?_) (fun c_1 => ?_)
  · have h := sw_if.f h c_1
    refine aw_iload_n 1 dX10_can_132 rfl rfl ?_
    exact aw_iret rfl dX10_can_133 ⟨rfl, _, rfl, h⟩
  · have h := sw_if.t h c_1
    refine aw_aload_n 0 dX10_can_96 rfl rfl ?_
    refine aw_aload_n 0 dX10_can_97 rfl rfl ?_
    refine gf_X10_41 fl_X10_299 (lk140 hG) (lr140_41 hG) dX10_can_98 ?_
    refine aw_iload_n 2 dX10_can_101 rfl rfl ?_
    obtain ⟨hi_2, h⟩ := h
    refine aw_ild dX10_can_102 (lk160 hG) (ln160 hG) hi_2 ?_
    refine aw_i2l dX10_can_103 ?_
    refine aw_callV wv_X10_enters (M_X10_enters hG  h) ml_X10_18 rfl (by decide) (lk140 hG) rfl rfl (Nat.le_of_ble_eq_true rfl) ⟨rfl, rfl⟩ ⟨Nat.le_of_ble_eq_true rfl, Nat.le_of_ble_eq_true rfl⟩ ⟨Nat.le_refl _, Nat.le_refl _⟩ dX10_can_104 (aw_kv fun I_4 J_5 h => ?_)
    refine aw_iload_n 1 dX10_can_107 rfl rfl ?_
    refine aw_aload_n 0 dX10_can_108 rfl rfl ?_
    refine gf_X10_41 fl_X10_299 (lk140 hG) (lr140_41 hG) dX10_can_109 ?_
    refine aw_iload_n 2 dX10_can_112 rfl rfl ?_
    obtain ⟨hi_6, h⟩ := h
    refine aw_ild dX10_can_113 (lk160 hG) (ln160 hG) hi_6 ?_
    refine aw_zle 123 dX10_can_114 (by decide) (fun c_7 => ?_) (fun c_7 => ?_)
    · have h := sw_if.f h c_7
      refine aw_iconst (v := 0) dX10_can_123 (by decide) ?_
      refine aw_sub [0, 2] rfl ?_
      exact t_X10_can_124 hG  hK88 h
    · have h := sw_if.t h c_7
      refine aw_iconst (v := 1) dX10_can_117 (by decide) ?_
      refine aw_iload_n 2 dX10_can_118 rfl rfl ?_
      refine aw_ishl dX10_can_119 ?_
      refine aw_goto 124 dX10_can_120 (by decide) ?_
      refine aw_sub [0, 2] rfl ?_
      exact t_X10_can_124 hG  hK88 h
set_option maxRecDepth 20000 in
theorem tl_X10_can_88 {l : Launch} {D : va_G} {cy : Nat → ClassId} {sz : Nat} {G : sw_G} (hG : sw_lay G)   {Q : Int32 → sw_I → sw_J → Prop} : ∀ (n : Nat) (x2 : Int32) (x3 : Int32) (I : sw_I) (J : sw_J), wl_X10_can_88   Q n x2 x3 I J → AW l D cy sz RX10 cX10_can 4 (some .int) false rm_X10_can 0 0 (sw_qi G Q) 0 0 G I J 88 [(0, .ref (sz + 140)), (2, .int x2), (3, .int x3)] [] := by
  intro n
  induction n with
  | zero => intro x2 x3 I J h; exact False.elim h
  | succ n ih => intro x2 x3 I J h; exact tb_X10_can_88 hG  ih h
set_option maxRecDepth 20000 in
theorem t_X10_can_73 {l : Launch} {D : va_G} {cy : Nat → ClassId} {sz : Nat} {G : sw_G} (hG : sw_lay G)   {Q : Int32 → sw_I → sw_J → Prop} {K37 : Int32 → Int32 → sw_I → sw_J → Prop} (hK37 : ∀ (x1 : Int32) (x2 : Int32) (I : sw_I) (J : sw_J), K37 x1 x2 I J → AW l D cy sz RX10 cX10_can 4 (some .int) false rm_X10_can 0 0 (sw_qi G Q) 0 0 G I J 37 [(0, .ref (sz + 140)), (1, .int x1), (2, .int x2)] []) {x1 : Int32} {x2 : Int32} {I : sw_I} {J : sw_J} (h : wB_X10_can_73  K37 Q x1 x2 I J) : AW l D cy sz RX10 cX10_can 4 (some .int) false rm_X10_can 0 0 (sw_qi G Q) 0 0 G I J 73 [(0, .ref (sz + 140)), (1, .int x1), (2, .int x2)] [] := by
  unfold wB_X10_can_73 at h
  obtain ⟨y_1, e_2⟩ : ∃ q : Int32, q = x2 + 1 := ⟨_, rfl⟩
  have h := h y_1 e_2
  refine aw_iinc (lv' := [(2, .int y_1), (0, .ref (sz + 140)), (1, .int x1)]) 2 dX10_can_73 rfl (by rw [e_2]; rfl) (by decide) rfl ?_
  refine aw_goto 37 dX10_can_76 (by decide) ?_
  refine aw_sub [1, 2, 0] rfl ?_
  exact hK37 x1 y_1 I J h
set_option maxRecDepth 20000 in
theorem tb_X10_can_37 {l : Launch} {D : va_G} {cy : Nat → ClassId} {sz : Nat} {G : sw_G} (hG : sw_lay G)   {Q : Int32 → sw_I → sw_J → Prop} {K37 : Int32 → Int32 → sw_I → sw_J → Prop} (hK37 : ∀ (x1 : Int32) (x2 : Int32) (I : sw_I) (J : sw_J), K37 x1 x2 I J → AW l D cy sz RX10 cX10_can 4 (some .int) false rm_X10_can 0 0 (sw_qi G Q) 0 0 G I J 37 [(0, .ref (sz + 140)), (1, .int x1), (2, .int x2)] []) {x1 : Int32} {x2 : Int32} {I : sw_I} {J : sw_J} (h : wb_X10_can_37  K37 Q x1 x2 I J) : AW l D cy sz RX10 cX10_can 4 (some .int) false rm_X10_can 0 0 (sw_qi G Q) 0 0 G I J 37 [(0, .ref (sz + 140)), (1, .int x1), (2, .int x2)] [] := by
  unfold wb_X10_can_37 at h
  refine aw_iload_n 2 dX10_can_37 rfl rfl ?_
  refine aw_iconst (v := 1) dX10_can_38 (by decide) ?_
  refine aw_aload_n 0 dX10_can_39 rfl rfl ?_
  refine gf_X10_4 fl_X10_29 (lk140 hG) dX10_can_40 ?_
  refine aw_ishl dX10_can_43 ?_
  refine aw_jge 79 dX10_can_44 (by decide) (fun c_1 => ?_) (fun c_1 => ?_)
  · have h := sw_if.f h c_1
    refine aw_iconst (v := 0) dX10_can_79 (by decide) ?_
    refine aw_istore_n (lv' := [(2, .int 0), (0, .ref (sz + 140)), (1, .int x1)]) dX10_can_80 rfl (by decide) rfl ?_
    refine aw_aload_n 1 dX10_can_81 rfl rfl ?_
    refine aw_iconst (v := 0) dX10_can_82 (by decide) ?_
    refine pf_X10_1 fl_X10_15 (lk140 hG) dX10_can_83 (aw_nameI fun I_2 e_3 => ?_)
    have h := h I_2 e_3
    refine aw_iconst (v := 0) dX10_can_86 (by decide) ?_
    refine aw_istore_n (lv' := [(3, .int 0), (2, .int 0), (0, .ref (sz + 140)), (1, .int x1)]) dX10_can_87 rfl (by decide) rfl ?_
    refine aw_sub [2, 1, 0] rfl ?_
    obtain ⟨n_4, h⟩ := h
    exact tl_X10_can_88 hG   n_4 0 0 I_2 J h
  · have h := sw_if.t h c_1
    refine aw_iload_n 2 dX10_can_47 rfl rfl ?_
    refine aw_iload_n 1 dX10_can_48 rfl rfl ?_
    refine aw_iconst (v := (-1)) dX10_can_49 (by decide) ?_
    refine aw_ixor dX10_can_50 ?_
    refine aw_iand dX10_can_51 ?_
    refine aw_zne 73 dX10_can_52 (by decide) (fun c_5 => ?_) (fun c_5 => ?_)
    · have h := sw_if.f h c_5
      refine aw_sub [0, 1, 2] rfl ?_
      exact t_X10_can_73 hG  hK37 h
    · have h := sw_if.t h c_5
      refine aw_aload_n 0 dX10_can_55 rfl rfl ?_
      refine gf_X10_41 fl_X10_299 (lk140 hG) (lr140_41 hG) dX10_can_56 ?_
      refine aw_aload_n 0 dX10_can_59 rfl rfl ?_
      refine aw_aload_n 0 dX10_can_60 rfl rfl ?_
      refine gf_X10_9 fl_X10_79 (lk140 hG) (lr140_9 hG) dX10_can_61 ?_
      refine aw_iload_n 2 dX10_can_64 rfl rfl ?_
      refine aw_callV wv_X10_stopOf (M_X10_stopOf hG ⟨(lk144 hG), (ln144 hG)⟩ h) ml_X10_222 rfl (by decide) (lk140 hG) rfl rfl (Nat.le_of_ble_eq_true rfl) ⟨rfl, rfl⟩ ⟨Nat.le_of_ble_eq_true rfl, Nat.le_of_ble_eq_true rfl⟩ ⟨Nat.le_refl _, Nat.le_refl _⟩ dX10_can_65 (aw_ki fun r_6 I_7 J_8 h => ?_)
      refine aw_dup2 dX10_can_68 rfl rfl ?_
      obtain ⟨hi_9, h⟩ := h
      refine aw_ild dX10_can_69 (lk160 hG) (ln160 hG) hi_9 ?_
      refine aw_iconst (v := 1) dX10_can_70 (by decide) ?_
      refine aw_iadd dX10_can_71 ?_
      obtain ⟨hi_10, h⟩ := h
      refine aw_ist dX10_can_72 (lk160 hG) (ln160 hG) hi_10 (aw_nameI fun I_11 e_12 => ?_)
      have h := h I_11 e_12
      refine aw_sub [0, 1, 2] rfl ?_
      exact t_X10_can_73 hG  hK37 h
set_option maxRecDepth 20000 in
theorem tl_X10_can_37 {l : Launch} {D : va_G} {cy : Nat → ClassId} {sz : Nat} {G : sw_G} (hG : sw_lay G)   {Q : Int32 → sw_I → sw_J → Prop} : ∀ (n : Nat) (x1 : Int32) (x2 : Int32) (I : sw_I) (J : sw_J), wl_X10_can_37   Q n x1 x2 I J → AW l D cy sz RX10 cX10_can 4 (some .int) false rm_X10_can 0 0 (sw_qi G Q) 0 0 G I J 37 [(0, .ref (sz + 140)), (1, .int x1), (2, .int x2)] [] := by
  intro n
  induction n with
  | zero => intro x1 x2 I J h; exact False.elim h
  | succ n ih => intro x1 x2 I J h; exact tb_X10_can_37 hG  ih h
set_option maxRecDepth 20000 in
theorem tb_X10_can_7 {l : Launch} {D : va_G} {cy : Nat → ClassId} {sz : Nat} {G : sw_G} (hG : sw_lay G)   {Q : Int32 → sw_I → sw_J → Prop} {K7 : Int32 → sw_I → sw_J → Prop} (hK7 : ∀ (x1 : Int32) (I : sw_I) (J : sw_J), K7 x1 I J → AW l D cy sz RX10 cX10_can 4 (some .int) false rm_X10_can 0 0 (sw_qi G Q) 0 0 G I J 7 [(0, .ref (sz + 140)), (1, .int x1)] []) {x1 : Int32} {I : sw_I} {J : sw_J} (h : wb_X10_can_7  K7 Q x1 I J) : AW l D cy sz RX10 cX10_can 4 (some .int) false rm_X10_can 0 0 (sw_qi G Q) 0 0 G I J 7 [(0, .ref (sz + 140)), (1, .int x1)] [] := by
  unfold wb_X10_can_7 at h
  refine aw_iload_n 1 dX10_can_7 rfl rfl ?_
  refine aw_bipush (v := 9) dX10_can_8 (by decide) ?_
  refine aw_jge 26 dX10_can_10 (by decide) (fun c_1 => ?_) (fun c_1 => ?_)
  · have h := sw_if.f h c_1
    refine aw_aload_n 0 dX10_can_26 rfl rfl ?_
    refine aw_aload_n 0 dX10_can_27 rfl rfl ?_
    refine gf_X10_9 fl_X10_79 (lk140 hG) (lr140_9 hG) dX10_can_28 ?_
    refine aw_callV wv_X10_there (M_X10_there hG ⟨(lk144 hG), (ln144 hG)⟩ h) ml_X10_295 rfl (by decide) (lk140 hG) rfl rfl (Nat.le_of_ble_eq_true rfl) ⟨rfl, rfl⟩ ⟨Nat.le_of_ble_eq_true rfl, Nat.le_of_ble_eq_true rfl⟩ ⟨Nat.le_refl _, Nat.le_refl _⟩ dX10_can_31 (aw_ki fun r_2 I_3 J_4 h => ?_)
    refine aw_istore_n (lv' := [(1, .int r_2), (0, .ref (sz + 140))]) dX10_can_34 rfl (by decide) rfl ?_
    refine aw_iconst (v := 0) dX10_can_35 (by decide) ?_
    refine aw_istore_n (lv' := [(2, .int 0), (1, .int r_2), (0, .ref (sz + 140))]) dX10_can_36 rfl (by decide) rfl ?_
    refine aw_sub [2, 1, 0] rfl ?_
    obtain ⟨n_5, h⟩ := h
    exact tl_X10_can_37 hG   n_5 r_2 0 I_3 J_4 h
  · have h := sw_if.t h c_1
    refine aw_aload_n 0 dX10_can_13 rfl rfl ?_
    refine gf_X10_41 fl_X10_299 (lk140 hG) (lr140_41 hG) dX10_can_14 ?_
    refine aw_iload_n 1 dX10_can_17 rfl rfl ?_
    refine aw_iconst (v := 0) dX10_can_18 (by decide) ?_
    obtain ⟨hi_6, h⟩ := h
    refine aw_ist dX10_can_19 (lk160 hG) (ln160 hG) hi_6 (aw_nameI fun I_7 e_8 => ?_)
    have h := h I_7 e_8
    obtain ⟨y_9, e_10⟩ : ∃ q : Int32, q = x1 + 1 := ⟨_, rfl⟩
    have h := h y_9 e_10
    refine aw_iinc (lv' := [(1, .int y_9), (0, .ref (sz + 140))]) 1 dX10_can_20 rfl (by rw [e_10]; rfl) (by decide) rfl ?_
    refine aw_goto 7 dX10_can_23 (by decide) ?_
    refine aw_sub [1, 0] rfl ?_
    exact hK7 y_9 I_7 J h
set_option maxRecDepth 20000 in
theorem tl_X10_can_7 {l : Launch} {D : va_G} {cy : Nat → ClassId} {sz : Nat} {G : sw_G} (hG : sw_lay G)   {Q : Int32 → sw_I → sw_J → Prop} : ∀ (n : Nat) (x1 : Int32) (I : sw_I) (J : sw_J), wl_X10_can_7   Q n x1 I J → AW l D cy sz RX10 cX10_can 4 (some .int) false rm_X10_can 0 0 (sw_qi G Q) 0 0 G I J 7 [(0, .ref (sz + 140)), (1, .int x1)] [] := by
  intro n
  induction n with
  | zero => intro x1 I J h; exact False.elim h
  | succ n ih => intro x1 I J h; exact tb_X10_can_7 hG  ih h
set_option maxRecDepth 20000 in
theorem t_X10_can {l : Launch} {D : va_G} {cy : Nat → ClassId} {sz : Nat} {G : sw_G} (hG : sw_lay G)   {Q : Int32 → sw_I → sw_J → Prop}  {I : sw_I} {J : sw_J} (h : wp_X10_can  I J Q) : AW l D cy sz RX10 cX10_can 4 (some .int) false rm_X10_can 0 0 (sw_qi G Q) 0 0 G I J 0 [(0, .ref (sz + 140))] [] := by
  unfold wp_X10_can at h
  refine aw_aload_n 0 dX10_can_0 rfl rfl ?_
  refine aw_iconst (v := 0) dX10_can_1 (by decide) ?_
  refine pf_X10_0 fl_X10_3 (lk140 hG) dX10_can_2 (aw_nameI fun I_1 e_2 => ?_)
  have h := h I_1 e_2
  refine aw_iconst (v := 0) dX10_can_5 (by decide) ?_
  refine aw_istore_n (lv' := [(1, .int 0), (0, .ref (sz + 140))]) dX10_can_6 rfl (by decide) rfl ?_
  refine aw_sub [1, 0] rfl ?_
  obtain ⟨n_3, h⟩ := h
  exact tl_X10_can_7 hG   n_3 0 I_1 J h
theorem M_X10_can {l : Launch} {D : va_G} {cy : Nat → ClassId} {sz : Nat} {G : sw_G} (hG : sw_lay G)   {Q : Int32 → sw_I → sw_J → Prop}  {I : sw_I} {J : sw_J} (h : wp_X10_can  I J Q) : Met l yX10_can (Cond.code yX10_can cX10_can 4 (some .int) :: sw_T) rm_X10_can (sw_Pc D cy sz [.ref (sz + 140)] G I J) (sw_Q D cy sz (sw_qi G Q)) 0 0 (fun q => sz ≤ q) :=
  sw_met (by decide) (fun q => by cases q) (Nat.le_of_ble_eq_true rfl) rfl (t_X10_can hG  h)
-- X10_fewestOf
abbrev rm_X10_fewestOf : Room := { frames := 5, cells := 0, slots := 0, locals := 115 }
def wB_X10_fewestOf_81  (K5 : Int32 → Int32 → Int32 → Int32 → sw_I → sw_J → Prop) (Q : Int32 → sw_I → sw_J → Prop) (x1 : Int32) (x2 : Int32) (x4 : Int32) (s0 : Int32) (I : sw_I) (J : sw_J) : Prop :=
  ∀ y_1 : Int32, y_1 = x4 + 1 → K5 x1 x2 s0 y_1 I J
def wB_X10_fewestOf_80  (K5 : Int32 → Int32 → Int32 → Int32 → sw_I → sw_J → Prop) (Q : Int32 → sw_I → sw_J → Prop) (x1 : Int32) (x2 : Int32) (x3 : Int32) (x4 : Int32) (I : sw_I) (J : sw_J) : Prop :=
  wB_X10_fewestOf_81  K5 Q x1 x2 x4 x3 I J
def wB_X10_fewestOf_46  (K5 : Int32 → Int32 → Int32 → Int32 → sw_I → sw_J → Prop) (Q : Int32 → sw_I → sw_J → Prop) (x1 : Int32) (x2 : Int32) (x3 : Int32) (x4 : Int32) (s0 : Int32) (I : sw_I) (J : sw_J) : Prop :=
  sw_if (s0 = 0) (wB_X10_fewestOf_80  K5 Q x1 x2 x3 x4 I J) (wp_X10_stopOf 144 33 ((I 144 (30 : Int32).toNatClampNeg) ^^^ x4) I J (fun r_3 I_4 J_5 => sw_if (r_3 = x2) (wB_X10_fewestOf_81  K5 Q x1 x2 x4 x4 I_4 J_5) (wB_X10_fewestOf_80  K5 Q x1 x2 x3 x4 I_4 J_5)))
def wB_X10_fewestOf_45  (K5 : Int32 → Int32 → Int32 → Int32 → sw_I → sw_J → Prop) (Q : Int32 → sw_I → sw_J → Prop) (x1 : Int32) (x2 : Int32) (x3 : Int32) (x4 : Int32) (I : sw_I) (J : sw_J) : Prop :=
  wB_X10_fewestOf_46  K5 Q x1 x2 x3 x4 0 I J
def wB_X10_fewestOf_41  (K5 : Int32 → Int32 → Int32 → Int32 → sw_I → sw_J → Prop) (Q : Int32 → sw_I → sw_J → Prop) (x1 : Int32) (x2 : Int32) (x3 : Int32) (x4 : Int32) (I : sw_I) (J : sw_J) : Prop :=
  wB_X10_fewestOf_46  K5 Q x1 x2 x3 x4 1 I J
def wb_X10_fewestOf_5  (K5 : Int32 → Int32 → Int32 → Int32 → sw_I → sw_J → Prop) (Q : Int32 → sw_I → sw_J → Prop) (x1 : Int32) (x2 : Int32) (x3 : Int32) (x4 : Int32) (I : sw_I) (J : sw_J) : Prop :=
  sw_if (x4 < ((1 : Int32) <<< ((I 140 4) &&& 31))) (sw_if ((x4 &&& (x1 ^^^ (-1 : Int32))) = 0) (sw_if (x3 < 0) (wB_X10_fewestOf_41  K5 Q x1 x2 x3 x4 I J) (wp_J6_bitCount_0f7a4 x4 I J (fun r_13 I_14 J_15 => wp_J6_bitCount_0f7a4 x3 I_14 J_15 (fun r_16 I_17 J_18 => sw_if (r_13 < r_16) (wB_X10_fewestOf_41  K5 Q x1 x2 x3 x4 I_17 J_18) (wB_X10_fewestOf_45  K5 Q x1 x2 x3 x4 I_17 J_18))))) (wB_X10_fewestOf_45  K5 Q x1 x2 x3 x4 I J)) (sw_if (x3 < 0) (Q (-2 : Int32) I J) (∀ I_3 : sw_I, I_3 = sw_up I 140 1 (0 : Int32) → wp_X10_enters x3.toInt64 I_3 J (fun I_6 J_7 => wp_J6_bitCount_0f7a4 x3 I_6 J_7 (fun r_8 I_9 J_10 => Q r_8 I_9 J_10))))
def wl_X10_fewestOf_5   (Q : Int32 → sw_I → sw_J → Prop) : Nat → Int32 → Int32 → Int32 → Int32 → sw_I → sw_J → Prop
  | 0 => fun _ _ _ _ _ _ => False
  | n + 1 => fun x1 x2 x3 x4 I J => wb_X10_fewestOf_5  (wl_X10_fewestOf_5   Q n) Q x1 x2 x3 x4 I J
def wp_X10_fewestOf (x1 : Int32) (x2 : Int32) (I : sw_I) (J : sw_J) (Q : Int32 → sw_I → sw_J → Prop) : Prop :=
  ∃ n_1 : Nat, wl_X10_fewestOf_5   Q n_1 x1 x2 (-1) 0 I J
set_option maxRecDepth 20000 in
theorem t_X10_fewestOf_81 {l : Launch} {D : va_G} {cy : Nat → ClassId} {sz : Nat} {G : sw_G} (hG : sw_lay G)   {Q : Int32 → sw_I → sw_J → Prop} {K5 : Int32 → Int32 → Int32 → Int32 → sw_I → sw_J → Prop} (hK5 : ∀ (x1 : Int32) (x2 : Int32) (x3 : Int32) (x4 : Int32) (I : sw_I) (J : sw_J), K5 x1 x2 x3 x4 I J → AW l D cy sz RX10 cX10_fewestOf 6 (some .int) false rm_X10_fewestOf 0 0 (sw_qi G Q) 0 0 G I J 5 [(0, .ref (sz + 140)), (1, .int x1), (2, .int x2), (3, .int x3), (4, .int x4)] []) {x1 : Int32} {x2 : Int32} {x4 : Int32} {s0 : Int32} {I : sw_I} {J : sw_J} (h : wB_X10_fewestOf_81  K5 Q x1 x2 x4 s0 I J) : AW l D cy sz RX10 cX10_fewestOf 6 (some .int) false rm_X10_fewestOf 0 0 (sw_qi G Q) 0 0 G I J 81 [(0, .ref (sz + 140)), (1, .int x1), (2, .int x2), (4, .int x4)] [.int s0] := by
  unfold wB_X10_fewestOf_81 at h
  refine aw_istore_n (lv' := [(3, .int s0), (0, .ref (sz + 140)), (1, .int x1), (2, .int x2), (4, .int x4)]) dX10_fewestOf_81 rfl (by decide) rfl ?_
  obtain ⟨y_1, e_2⟩ : ∃ q : Int32, q = x4 + 1 := ⟨_, rfl⟩
  have h := h y_1 e_2
  refine aw_iinc (lv' := [(4, .int y_1), (3, .int s0), (0, .ref (sz + 140)), (1, .int x1), (2, .int x2)]) 4 dX10_fewestOf_82 rfl (by rw [e_2]; rfl) (by decide) rfl ?_
  refine aw_goto 5 dX10_fewestOf_85 (by decide) ?_
  refine aw_sub [2, 3, 4, 1, 0] rfl ?_
  exact hK5 x1 x2 s0 y_1 I J h
set_option maxRecDepth 20000 in
theorem t_X10_fewestOf_80 {l : Launch} {D : va_G} {cy : Nat → ClassId} {sz : Nat} {G : sw_G} (hG : sw_lay G)   {Q : Int32 → sw_I → sw_J → Prop} {K5 : Int32 → Int32 → Int32 → Int32 → sw_I → sw_J → Prop} (hK5 : ∀ (x1 : Int32) (x2 : Int32) (x3 : Int32) (x4 : Int32) (I : sw_I) (J : sw_J), K5 x1 x2 x3 x4 I J → AW l D cy sz RX10 cX10_fewestOf 6 (some .int) false rm_X10_fewestOf 0 0 (sw_qi G Q) 0 0 G I J 5 [(0, .ref (sz + 140)), (1, .int x1), (2, .int x2), (3, .int x3), (4, .int x4)] []) {x1 : Int32} {x2 : Int32} {x3 : Int32} {x4 : Int32} {I : sw_I} {J : sw_J} (h : wB_X10_fewestOf_80  K5 Q x1 x2 x3 x4 I J) : AW l D cy sz RX10 cX10_fewestOf 6 (some .int) false rm_X10_fewestOf 0 0 (sw_qi G Q) 0 0 G I J 80 [(0, .ref (sz + 140)), (1, .int x1), (2, .int x2), (3, .int x3), (4, .int x4)] [] := by
  unfold wB_X10_fewestOf_80 at h
  refine aw_iload_n 3 dX10_fewestOf_80 rfl rfl ?_
  refine aw_sub [0, 1, 2, 4] rfl ?_
  exact t_X10_fewestOf_81 hG  hK5 h
set_option maxRecDepth 20000 in
theorem t_X10_fewestOf_46 {l : Launch} {D : va_G} {cy : Nat → ClassId} {sz : Nat} {G : sw_G} (hG : sw_lay G)   {Q : Int32 → sw_I → sw_J → Prop} {K5 : Int32 → Int32 → Int32 → Int32 → sw_I → sw_J → Prop} (hK5 : ∀ (x1 : Int32) (x2 : Int32) (x3 : Int32) (x4 : Int32) (I : sw_I) (J : sw_J), K5 x1 x2 x3 x4 I J → AW l D cy sz RX10 cX10_fewestOf 6 (some .int) false rm_X10_fewestOf 0 0 (sw_qi G Q) 0 0 G I J 5 [(0, .ref (sz + 140)), (1, .int x1), (2, .int x2), (3, .int x3), (4, .int x4)] []) {x1 : Int32} {x2 : Int32} {x3 : Int32} {x4 : Int32} {s0 : Int32} {I : sw_I} {J : sw_J} (h : wB_X10_fewestOf_46  K5 Q x1 x2 x3 x4 s0 I J) : AW l D cy sz RX10 cX10_fewestOf 6 (some .int) false rm_X10_fewestOf 0 0 (sw_qi G Q) 0 0 G I J 46 [(0, .ref (sz + 140)), (1, .int x1), (2, .int x2), (3, .int x3), (4, .int x4)] [.int s0] := by
  unfold wB_X10_fewestOf_46 at h
  refine aw_istore (lv' := [(5, .int s0), (0, .ref (sz + 140)), (1, .int x1), (2, .int x2), (3, .int x3), (4, .int x4)]) dX10_fewestOf_46 (by decide) rfl ?_
  refine aw_iload 0 dX10_fewestOf_48 rfl ?_
  refine aw_zeq 80 dX10_fewestOf_50 (by decide) (fun c_1 => ?_) (fun c_1 => ?_)
  · have h := sw_if.t h c_1
    refine aw_sub [1, 2, 3, 4, 5] rfl ?_
    exact t_X10_fewestOf_80 hG  hK5 h
  · have h := sw_if.f h c_1
    refine aw_aload_n 1 dX10_fewestOf_53 rfl rfl ?_
    refine aw_aload_n 1 dX10_fewestOf_54 rfl rfl ?_
    refine gf_X10_9 fl_X10_79 (lk140 hG) (lr140_9 hG) dX10_fewestOf_55 ?_
    refine aw_aload_n 1 dX10_fewestOf_58 rfl rfl ?_
    refine gf_X10_9 fl_X10_79 (lk140 hG) (lr140_9 hG) dX10_fewestOf_59 ?_
    refine aw_bipush (v := 30) dX10_fewestOf_62 (by decide) ?_
    refine aw_ild dX10_fewestOf_64 (lk144 hG) (ln144 hG) (by unfold vp_in; decide) ?_
    refine aw_iload 5 dX10_fewestOf_65 rfl ?_
    refine aw_ixor dX10_fewestOf_67 ?_
    refine aw_callV wv_X10_stopOf (M_X10_stopOf hG ⟨(lk144 hG), (ln144 hG)⟩ h) ml_X10_222 rfl (by decide) (lk140 hG) rfl rfl (Nat.le_of_ble_eq_true rfl) ⟨rfl, rfl⟩ ⟨Nat.le_of_ble_eq_true rfl, Nat.le_of_ble_eq_true rfl⟩ ⟨Nat.le_refl _, Nat.le_refl _⟩ dX10_fewestOf_68 (aw_ki fun r_3 I_4 J_5 h => ?_)
    refine aw_iload_n 3 dX10_fewestOf_71 rfl rfl ?_
    refine aw_jne 80 dX10_fewestOf_72 (by decide) (fun c_6 => ?_) (fun c_6 => ?_)
    · have h := sw_if.f h c_6
      refine aw_sub [1, 2, 3, 4, 5] rfl ?_
      exact t_X10_fewestOf_80 hG  hK5 h
    · have h := sw_if.t h c_6
      refine aw_iload 5 dX10_fewestOf_75 rfl ?_
      refine aw_goto 81 dX10_fewestOf_77 (by decide) ?_
      refine aw_sub [1, 2, 3, 5] rfl ?_
      exact t_X10_fewestOf_81 hG  hK5 h
set_option maxRecDepth 20000 in
theorem t_X10_fewestOf_45 {l : Launch} {D : va_G} {cy : Nat → ClassId} {sz : Nat} {G : sw_G} (hG : sw_lay G)   {Q : Int32 → sw_I → sw_J → Prop} {K5 : Int32 → Int32 → Int32 → Int32 → sw_I → sw_J → Prop} (hK5 : ∀ (x1 : Int32) (x2 : Int32) (x3 : Int32) (x4 : Int32) (I : sw_I) (J : sw_J), K5 x1 x2 x3 x4 I J → AW l D cy sz RX10 cX10_fewestOf 6 (some .int) false rm_X10_fewestOf 0 0 (sw_qi G Q) 0 0 G I J 5 [(0, .ref (sz + 140)), (1, .int x1), (2, .int x2), (3, .int x3), (4, .int x4)] []) {x1 : Int32} {x2 : Int32} {x3 : Int32} {x4 : Int32} {I : sw_I} {J : sw_J} (h : wB_X10_fewestOf_45  K5 Q x1 x2 x3 x4 I J) : AW l D cy sz RX10 cX10_fewestOf 6 (some .int) false rm_X10_fewestOf 0 0 (sw_qi G Q) 0 0 G I J 45 [(0, .ref (sz + 140)), (1, .int x1), (2, .int x2), (3, .int x3), (4, .int x4)] [] := by
  unfold wB_X10_fewestOf_45 at h
  refine aw_iconst (v := 0) dX10_fewestOf_45 (by decide) ?_
  refine aw_sub [0, 1, 2, 3, 4] rfl ?_
  exact t_X10_fewestOf_46 hG  hK5 h
set_option maxRecDepth 20000 in
theorem t_X10_fewestOf_41 {l : Launch} {D : va_G} {cy : Nat → ClassId} {sz : Nat} {G : sw_G} (hG : sw_lay G)   {Q : Int32 → sw_I → sw_J → Prop} {K5 : Int32 → Int32 → Int32 → Int32 → sw_I → sw_J → Prop} (hK5 : ∀ (x1 : Int32) (x2 : Int32) (x3 : Int32) (x4 : Int32) (I : sw_I) (J : sw_J), K5 x1 x2 x3 x4 I J → AW l D cy sz RX10 cX10_fewestOf 6 (some .int) false rm_X10_fewestOf 0 0 (sw_qi G Q) 0 0 G I J 5 [(0, .ref (sz + 140)), (1, .int x1), (2, .int x2), (3, .int x3), (4, .int x4)] []) {x1 : Int32} {x2 : Int32} {x3 : Int32} {x4 : Int32} {I : sw_I} {J : sw_J} (h : wB_X10_fewestOf_41  K5 Q x1 x2 x3 x4 I J) : AW l D cy sz RX10 cX10_fewestOf 6 (some .int) false rm_X10_fewestOf 0 0 (sw_qi G Q) 0 0 G I J 41 [(0, .ref (sz + 140)), (1, .int x1), (2, .int x2), (3, .int x3), (4, .int x4)] [] := by
  unfold wB_X10_fewestOf_41 at h
  refine aw_iconst (v := 1) dX10_fewestOf_41 (by decide) ?_
  refine aw_goto 46 dX10_fewestOf_42 (by decide) ?_
  refine aw_sub [0, 1, 2, 3, 4] rfl ?_
  exact t_X10_fewestOf_46 hG  hK5 h
set_option maxRecDepth 20000 in
theorem tb_X10_fewestOf_5 {l : Launch} {D : va_G} {cy : Nat → ClassId} {sz : Nat} {G : sw_G} (hG : sw_lay G)   {Q : Int32 → sw_I → sw_J → Prop} {K5 : Int32 → Int32 → Int32 → Int32 → sw_I → sw_J → Prop} (hK5 : ∀ (x1 : Int32) (x2 : Int32) (x3 : Int32) (x4 : Int32) (I : sw_I) (J : sw_J), K5 x1 x2 x3 x4 I J → AW l D cy sz RX10 cX10_fewestOf 6 (some .int) false rm_X10_fewestOf 0 0 (sw_qi G Q) 0 0 G I J 5 [(0, .ref (sz + 140)), (1, .int x1), (2, .int x2), (3, .int x3), (4, .int x4)] []) {x1 : Int32} {x2 : Int32} {x3 : Int32} {x4 : Int32} {I : sw_I} {J : sw_J} (h : wb_X10_fewestOf_5  K5 Q x1 x2 x3 x4 I J) : AW l D cy sz RX10 cX10_fewestOf 6 (some .int) false rm_X10_fewestOf 0 0 (sw_qi G Q) 0 0 G I J 5 [(0, .ref (sz + 140)), (1, .int x1), (2, .int x2), (3, .int x3), (4, .int x4)] [] := by
  unfold wb_X10_fewestOf_5 at h
  refine aw_iload 4 dX10_fewestOf_5 rfl ?_
  refine aw_iconst (v := 1) dX10_fewestOf_7 (by decide) ?_
  refine aw_aload_n 0 dX10_fewestOf_8 rfl rfl ?_
  refine gf_X10_4 fl_X10_29 (lk140 hG) dX10_fewestOf_9 ?_
  refine aw_ishl dX10_fewestOf_12 ?_
  refine aw_jge 88 dX10_fewestOf_13 (by decide) (fun c_1 => ?_) (fun c_1 => ?_)
  · have h := sw_if.f h c_1
    refine aw_iload_n 3 dX10_fewestOf_88 rfl rfl ?_
    refine aw_zge 95 dX10_fewestOf_89 (by decide) (fun c_2 => ?_) (fun c_2 => ?_)
    · have h := sw_if.f h c_2
      refine aw_aload_n 0 dX10_fewestOf_95 rfl rfl ?_
      refine aw_iconst (v := 0) dX10_fewestOf_96 (by decide) ?_
      refine pf_X10_1 fl_X10_15 (lk140 hG) dX10_fewestOf_97 (aw_nameI fun I_3 e_4 => ?_)
      have h := h I_3 e_4
      refine aw_aload_n 0 dX10_fewestOf_100 rfl rfl ?_
      refine aw_iload_n 3 dX10_fewestOf_101 rfl rfl ?_
      refine aw_i2l dX10_fewestOf_102 ?_
      refine aw_callV wv_X10_enters (M_X10_enters hG  h) ml_X10_18 rfl (by decide) (lk140 hG) rfl rfl (Nat.le_of_ble_eq_true rfl) ⟨rfl, rfl⟩ ⟨Nat.le_of_ble_eq_true rfl, Nat.le_of_ble_eq_true rfl⟩ ⟨Nat.le_refl _, Nat.le_refl _⟩ dX10_fewestOf_103 (aw_kv fun I_6 J_7 h => ?_)
      refine aw_iload_n 3 dX10_fewestOf_106 rfl rfl ?_
      refine aw_callS wv_J6_bitCount_0f7a4 (M_J6_bitCount_0f7a4 trivial  h) ml_X10_175 rfl rfl (Nat.le_of_ble_eq_true rfl) ⟨rfl, rfl⟩ ⟨Nat.le_of_ble_eq_true rfl, Nat.le_of_ble_eq_true rfl⟩ ⟨Nat.le_refl _, Nat.le_refl _⟩ dX10_fewestOf_107 (aw_ki fun r_8 I_9 J_10 h => ?_)
      exact aw_iret rfl dX10_fewestOf_110 ⟨rfl, _, rfl, h⟩
    · have h := sw_if.t h c_2
      refine aw_bipush (v := (-2)) dX10_fewestOf_92 (by decide) ?_
      exact aw_iret rfl dX10_fewestOf_94 ⟨rfl, _, rfl, h⟩
  · have h := sw_if.t h c_1
    refine aw_iload 4 dX10_fewestOf_16 rfl ?_
    refine aw_iload_n 1 dX10_fewestOf_18 rfl rfl ?_
    refine aw_iconst (v := (-1)) dX10_fewestOf_19 (by decide) ?_
    refine aw_ixor dX10_fewestOf_20 ?_
    refine aw_iand dX10_fewestOf_21 ?_
    refine aw_zne 45 dX10_fewestOf_22 (by decide) (fun c_11 => ?_) (fun c_11 => ?_)
    · have h := sw_if.f h c_11
      refine aw_sub [0, 1, 2, 3, 4] rfl ?_
      exact t_X10_fewestOf_45 hG  hK5 h
    · have h := sw_if.t h c_11
      refine aw_iload_n 3 dX10_fewestOf_25 rfl rfl ?_
      refine aw_zlt 41 dX10_fewestOf_26 (by decide) (fun c_12 => ?_) (fun c_12 => ?_)
      · have h := sw_if.t h c_12
        refine aw_sub [0, 1, 2, 3, 4] rfl ?_
        exact t_X10_fewestOf_41 hG  hK5 h
      · have h := sw_if.f h c_12
        refine aw_iload 4 dX10_fewestOf_29 rfl ?_
        refine aw_callS wv_J6_bitCount_0f7a4 (M_J6_bitCount_0f7a4 trivial  h) ml_X10_175 rfl rfl (Nat.le_of_ble_eq_true rfl) ⟨rfl, rfl⟩ ⟨Nat.le_of_ble_eq_true rfl, Nat.le_of_ble_eq_true rfl⟩ ⟨Nat.le_refl _, Nat.le_refl _⟩ dX10_fewestOf_31 (aw_ki fun r_13 I_14 J_15 h => ?_)
        refine aw_iload_n 3 dX10_fewestOf_34 rfl rfl ?_
        refine aw_callS wv_J6_bitCount_0f7a4 (M_J6_bitCount_0f7a4 trivial  h) ml_X10_175 rfl rfl (Nat.le_of_ble_eq_true rfl) ⟨rfl, rfl⟩ ⟨Nat.le_of_ble_eq_true rfl, Nat.le_of_ble_eq_true rfl⟩ ⟨Nat.le_refl _, Nat.le_refl _⟩ dX10_fewestOf_35 (aw_ki fun r_16 I_17 J_18 h => ?_)
        refine aw_jge 45 dX10_fewestOf_38 (by decide) (fun c_19 => ?_) (fun c_19 => ?_)
        · have h := sw_if.f h c_19
          refine aw_sub [0, 1, 2, 3, 4] rfl ?_
          exact t_X10_fewestOf_45 hG  hK5 h
        · have h := sw_if.t h c_19
          refine aw_sub [0, 1, 2, 3, 4] rfl ?_
          exact t_X10_fewestOf_41 hG  hK5 h
set_option maxRecDepth 20000 in
theorem tl_X10_fewestOf_5 {l : Launch} {D : va_G} {cy : Nat → ClassId} {sz : Nat} {G : sw_G} (hG : sw_lay G)   {Q : Int32 → sw_I → sw_J → Prop} : ∀ (n : Nat) (x1 : Int32) (x2 : Int32) (x3 : Int32) (x4 : Int32) (I : sw_I) (J : sw_J), wl_X10_fewestOf_5   Q n x1 x2 x3 x4 I J → AW l D cy sz RX10 cX10_fewestOf 6 (some .int) false rm_X10_fewestOf 0 0 (sw_qi G Q) 0 0 G I J 5 [(0, .ref (sz + 140)), (1, .int x1), (2, .int x2), (3, .int x3), (4, .int x4)] [] := by
  intro n
  induction n with
  | zero => intro x1 x2 x3 x4 I J h; exact False.elim h
  | succ n ih => intro x1 x2 x3 x4 I J h; exact tb_X10_fewestOf_5 hG  ih h
set_option maxRecDepth 20000 in
theorem t_X10_fewestOf {l : Launch} {D : va_G} {cy : Nat → ClassId} {sz : Nat} {G : sw_G} (hG : sw_lay G)   {Q : Int32 → sw_I → sw_J → Prop} {x1 : Int32} {x2 : Int32} {I : sw_I} {J : sw_J} (h : wp_X10_fewestOf x1 x2 I J Q) : AW l D cy sz RX10 cX10_fewestOf 6 (some .int) false rm_X10_fewestOf 0 0 (sw_qi G Q) 0 0 G I J 0 [(0, .ref (sz + 140)), (1, .int x1), (2, .int x2)] [] := by
  unfold wp_X10_fewestOf at h
  refine aw_iconst (v := (-1)) dX10_fewestOf_0 (by decide) ?_
  refine aw_istore_n (lv' := [(3, .int (-1)), (0, .ref (sz + 140)), (1, .int x1), (2, .int x2)]) dX10_fewestOf_1 rfl (by decide) rfl ?_
  refine aw_iconst (v := 0) dX10_fewestOf_2 (by decide) ?_
  refine aw_istore (lv' := [(4, .int 0), (3, .int (-1)), (0, .ref (sz + 140)), (1, .int x1), (2, .int x2)]) dX10_fewestOf_3 (by decide) rfl ?_
  refine aw_sub [2, 3, 4, 1, 0] rfl ?_
  obtain ⟨n_1, h⟩ := h
  exact tl_X10_fewestOf_5 hG   n_1 x1 x2 (-1) 0 I J h
theorem M_X10_fewestOf {l : Launch} {D : va_G} {cy : Nat → ClassId} {sz : Nat} {G : sw_G} (hG : sw_lay G)   {Q : Int32 → sw_I → sw_J → Prop} {x1 : Int32} {x2 : Int32} {I : sw_I} {J : sw_J} (h : wp_X10_fewestOf x1 x2 I J Q) : Met l yX10_fewestOf (Cond.code yX10_fewestOf cX10_fewestOf 6 (some .int) :: sw_T) rm_X10_fewestOf (sw_Pc D cy sz [.ref (sz + 140), .int x1, .int x2] G I J) (sw_Q D cy sz (sw_qi G Q)) 0 0 (fun q => sz ≤ q) :=
  sw_met (by decide) (fun q => by cases q) (Nat.le_of_ble_eq_true rfl) rfl (t_X10_fewestOf hG  h)
-- X10_along
abbrev rm_X10_along : Room := { frames := 6, cells := 0, slots := 0, locals := 140 }
def wp_X10_along (x1 : Int32) (I : sw_I) (J : sw_J) (Q : Int32 → sw_I → sw_J → Prop) : Prop :=
  ∀ I_1 : sw_I, I_1 = sw_up I 140 0 (0 : Int32) → wp_X10_isFloor x1 I_1 J (fun r_3 I_4 J_5 => sw_if (r_3 = 0) (Q (-1 : Int32) I_4 J_5) (wp_X10_there 144 33 I_4 J_5 (fun r_7 I_8 J_9 => wp_X10_fewestOf (r_7 &&& ((I_8 144 (30 : Int32).toNatClampNeg) ^^^ (-1 : Int32))) x1 I_8 J_9 (fun r_11 I_12 J_13 => Q r_11 I_12 J_13))))
set_option maxRecDepth 20000 in
theorem t_X10_along {l : Launch} {D : va_G} {cy : Nat → ClassId} {sz : Nat} {G : sw_G} (hG : sw_lay G)   {Q : Int32 → sw_I → sw_J → Prop} {x1 : Int32} {I : sw_I} {J : sw_J} (h : wp_X10_along x1 I J Q) : AW l D cy sz RX10 cX10_along 2 (some .int) false rm_X10_along 0 0 (sw_qi G Q) 0 0 G I J 0 [(0, .ref (sz + 140)), (1, .int x1)] [] := by
  unfold wp_X10_along at h
  refine aw_aload_n 0 dX10_along_0 rfl rfl ?_
  refine aw_iconst (v := 0) dX10_along_1 (by decide) ?_
  refine pf_X10_0 fl_X10_3 (lk140 hG) dX10_along_2 (aw_nameI fun I_1 e_2 => ?_)
  have h := h I_1 e_2
  refine aw_aload_n 0 dX10_along_5 rfl rfl ?_
  refine aw_iload_n 1 dX10_along_6 rfl rfl ?_
  refine aw_callV wv_X10_isFloor (M_X10_isFloor hG  h) ml_X10_95 rfl (by decide) (lk140 hG) rfl rfl (Nat.le_of_ble_eq_true rfl) ⟨rfl, rfl⟩ ⟨Nat.le_of_ble_eq_true rfl, Nat.le_of_ble_eq_true rfl⟩ ⟨Nat.le_refl _, Nat.le_refl _⟩ dX10_along_7 (aw_ki fun r_3 I_4 J_5 h => ?_)
  refine aw_zeq 39 dX10_along_10 (by decide) (fun c_6 => ?_) (fun c_6 => ?_)
  · have h := sw_if.t h c_6
    refine aw_iconst (v := (-1)) dX10_along_39 (by decide) ?_
    exact aw_iret rfl dX10_along_40 ⟨rfl, _, rfl, h⟩
  · have h := sw_if.f h c_6
    refine aw_aload_n 0 dX10_along_13 rfl rfl ?_
    refine aw_aload_n 0 dX10_along_14 rfl rfl ?_
    refine aw_aload_n 0 dX10_along_15 rfl rfl ?_
    refine gf_X10_9 fl_X10_79 (lk140 hG) (lr140_9 hG) dX10_along_16 ?_
    refine aw_callV wv_X10_there (M_X10_there hG ⟨(lk144 hG), (ln144 hG)⟩ h) ml_X10_295 rfl (by decide) (lk140 hG) rfl rfl (Nat.le_of_ble_eq_true rfl) ⟨rfl, rfl⟩ ⟨Nat.le_of_ble_eq_true rfl, Nat.le_of_ble_eq_true rfl⟩ ⟨Nat.le_refl _, Nat.le_refl _⟩ dX10_along_19 (aw_ki fun r_7 I_8 J_9 h => ?_)
    refine aw_aload_n 0 dX10_along_22 rfl rfl ?_
    refine gf_X10_9 fl_X10_79 (lk140 hG) (lr140_9 hG) dX10_along_23 ?_
    refine aw_bipush (v := 30) dX10_along_26 (by decide) ?_
    refine aw_ild dX10_along_28 (lk144 hG) (ln144 hG) (by unfold vp_in; decide) ?_
    refine aw_iconst (v := (-1)) dX10_along_29 (by decide) ?_
    refine aw_ixor dX10_along_30 ?_
    refine aw_iand dX10_along_31 ?_
    refine aw_iload_n 1 dX10_along_32 rfl rfl ?_
    refine aw_callV wv_X10_fewestOf (M_X10_fewestOf hG  h) ml_X10_302 rfl (by decide) (lk140 hG) rfl rfl (Nat.le_of_ble_eq_true rfl) ⟨rfl, rfl⟩ ⟨Nat.le_of_ble_eq_true rfl, Nat.le_of_ble_eq_true rfl⟩ ⟨Nat.le_refl _, Nat.le_refl _⟩ dX10_along_33 (aw_ki fun r_11 I_12 J_13 h => ?_)
    refine aw_goto 40 dX10_along_36 (by decide) ?_
    exact aw_iret rfl dX10_along_40 ⟨rfl, _, rfl, h⟩
theorem M_X10_along {l : Launch} {D : va_G} {cy : Nat → ClassId} {sz : Nat} {G : sw_G} (hG : sw_lay G)   {Q : Int32 → sw_I → sw_J → Prop} {x1 : Int32} {I : sw_I} {J : sw_J} (h : wp_X10_along x1 I J Q) : Met l yX10_along (Cond.code yX10_along cX10_along 2 (some .int) :: sw_T) rm_X10_along (sw_Pc D cy sz [.ref (sz + 140), .int x1] G I J) (sw_Q D cy sz (sw_qi G Q)) 0 0 (fun q => sz ≤ q) :=
  sw_met (by decide) (fun q => by cases q) (Nat.le_of_ble_eq_true rfl) rfl (t_X10_along hG  h)
-- X10_without
abbrev rm_X10_without : Room := { frames := 6, cells := 0, slots := 0, locals := 140 }
def wp_X10_without (x1 : Int32) (I : sw_I) (J : sw_J) (Q : Int32 → sw_I → sw_J → Prop) : Prop :=
  ∀ I_1 : sw_I, I_1 = sw_up I 140 0 (0 : Int32) → wp_X10_isFloor x1 I_1 J (fun r_3 I_4 J_5 => sw_if (r_3 = 0) (Q (-1 : Int32) I_4 J_5) (wp_X10_fewestOf (I_4 144 (30 : Int32).toNatClampNeg) x1 I_4 J_5 (fun r_8 I_9 J_10 => Q r_8 I_9 J_10)))
set_option maxRecDepth 20000 in
theorem t_X10_without {l : Launch} {D : va_G} {cy : Nat → ClassId} {sz : Nat} {G : sw_G} (hG : sw_lay G)   {Q : Int32 → sw_I → sw_J → Prop} {x1 : Int32} {I : sw_I} {J : sw_J} (h : wp_X10_without x1 I J Q) : AW l D cy sz RX10 cX10_without 2 (some .int) false rm_X10_without 0 0 (sw_qi G Q) 0 0 G I J 0 [(0, .ref (sz + 140)), (1, .int x1)] [] := by
  unfold wp_X10_without at h
  refine aw_aload_n 0 dX10_without_0 rfl rfl ?_
  refine aw_iconst (v := 0) dX10_without_1 (by decide) ?_
  refine pf_X10_0 fl_X10_3 (lk140 hG) dX10_without_2 (aw_nameI fun I_1 e_2 => ?_)
  have h := h I_1 e_2
  refine aw_aload_n 0 dX10_without_5 rfl rfl ?_
  refine aw_iload_n 1 dX10_without_6 rfl rfl ?_
  refine aw_callV wv_X10_isFloor (M_X10_isFloor hG  h) ml_X10_95 rfl (by decide) (lk140 hG) rfl rfl (Nat.le_of_ble_eq_true rfl) ⟨rfl, rfl⟩ ⟨Nat.le_of_ble_eq_true rfl, Nat.le_of_ble_eq_true rfl⟩ ⟨Nat.le_refl _, Nat.le_refl _⟩ dX10_without_7 (aw_ki fun r_3 I_4 J_5 h => ?_)
  refine aw_zeq 28 dX10_without_10 (by decide) (fun c_6 => ?_) (fun c_6 => ?_)
  · have h := sw_if.t h c_6
    refine aw_iconst (v := (-1)) dX10_without_28 (by decide) ?_
    exact aw_iret rfl dX10_without_29 ⟨rfl, _, rfl, h⟩
  · have h := sw_if.f h c_6
    refine aw_aload_n 0 dX10_without_13 rfl rfl ?_
    refine aw_aload_n 0 dX10_without_14 rfl rfl ?_
    refine gf_X10_9 fl_X10_79 (lk140 hG) (lr140_9 hG) dX10_without_15 ?_
    refine aw_bipush (v := 30) dX10_without_18 (by decide) ?_
    refine aw_ild dX10_without_20 (lk144 hG) (ln144 hG) (by unfold vp_in; decide) ?_
    refine aw_iload_n 1 dX10_without_21 rfl rfl ?_
    refine aw_callV wv_X10_fewestOf (M_X10_fewestOf hG  h) ml_X10_302 rfl (by decide) (lk140 hG) rfl rfl (Nat.le_of_ble_eq_true rfl) ⟨rfl, rfl⟩ ⟨Nat.le_of_ble_eq_true rfl, Nat.le_of_ble_eq_true rfl⟩ ⟨Nat.le_refl _, Nat.le_refl _⟩ dX10_without_22 (aw_ki fun r_8 I_9 J_10 h => ?_)
    refine aw_goto 29 dX10_without_25 (by decide) ?_
    exact aw_iret rfl dX10_without_29 ⟨rfl, _, rfl, h⟩
theorem M_X10_without {l : Launch} {D : va_G} {cy : Nat → ClassId} {sz : Nat} {G : sw_G} (hG : sw_lay G)   {Q : Int32 → sw_I → sw_J → Prop} {x1 : Int32} {I : sw_I} {J : sw_J} (h : wp_X10_without x1 I J Q) : Met l yX10_without (Cond.code yX10_without cX10_without 2 (some .int) :: sw_T) rm_X10_without (sw_Pc D cy sz [.ref (sz + 140), .int x1] G I J) (sw_Q D cy sz (sw_qi G Q)) 0 0 (fun q => sz ≤ q) :=
  sw_met (by decide) (fun q => by cases q) (Nat.le_of_ble_eq_true rfl) rfl (t_X10_without hG  h)
