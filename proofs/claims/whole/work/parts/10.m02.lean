-- X10_sign
abbrev rm_X10_sign : Room := { frames := 0, cells := 0, slots := 0, locals := 0 }
def wb_X10_sign_18  (K18 : Int32 → Int32 → sw_I → sw_J → Prop) (Q : Int32 → sw_I → sw_J → Prop) (x1 : Int32) (x2 : Int32) (I : sw_I) (J : sw_J) : Prop :=
  sw_if (x2 < (4 : Int32)) (vp_in ((I 140 12) + x2) 80 ∧ ∀ I_5 : sw_I, I_5 = sw_up I 146 ((I 140 12) + x2).toNatClampNeg ((x1 >>> (((24 : Int32) - ((8 : Int32) * x2)) &&& 31)) &&& (255 : Int32)) → ∀ y_7 : Int32, y_7 = x2 + 1 → K18 x1 y_7 I_5 J) (∀ I_2 : sw_I, I_2 = sw_up I 140 12 ((I 140 12) + (4 : Int32)) → Q (I_2 140 12) I_2 J)
def wl_X10_sign_18   (Q : Int32 → sw_I → sw_J → Prop) : Nat → Int32 → Int32 → sw_I → sw_J → Prop
  | 0 => fun _ _ _ _ => False
  | n + 1 => fun x1 x2 I J => wb_X10_sign_18  (wl_X10_sign_18   Q n) Q x1 x2 I J
def wp_X10_sign (x1 : Int32) (I : sw_I) (J : sw_J) (Q : Int32 → sw_I → sw_J → Prop) : Prop :=
  ∀ I_1 : sw_I, I_1 = sw_up I 140 0 (0 : Int32) → sw_if ((76 : Int32) < (I_1 140 12)) (Q (-1 : Int32) I_1 J) (∃ n_4 : Nat, wl_X10_sign_18   Q n_4 x1 0 I_1 J)
set_option maxRecDepth 20000 in
theorem tb_X10_sign_18 {l : Launch} {D : va_G} {cy : Nat → ClassId} {sz : Nat} {G : sw_G} (hG : sw_lay G)   {Q : Int32 → sw_I → sw_J → Prop} {K18 : Int32 → Int32 → sw_I → sw_J → Prop} (hK18 : ∀ (x1 : Int32) (x2 : Int32) (I : sw_I) (J : sw_J), K18 x1 x2 I J → AW l D cy sz RX10 cX10_sign 3 (some .int) false rm_X10_sign 0 0 (sw_qi G Q) 0 0 G I J 18 [(0, .ref (sz + 140)), (1, .int x1), (2, .int x2)] []) {x1 : Int32} {x2 : Int32} {I : sw_I} {J : sw_J} (h : wb_X10_sign_18  K18 Q x1 x2 I J) : AW l D cy sz RX10 cX10_sign 3 (some .int) false rm_X10_sign 0 0 (sw_qi G Q) 0 0 G I J 18 [(0, .ref (sz + 140)), (1, .int x1), (2, .int x2)] [] := by
  unfold wb_X10_sign_18 at h
  refine aw_iload_n 2 dX10_sign_18 rfl rfl ?_
  refine aw_iconst (v := 4) dX10_sign_19 (by decide) ?_
  refine aw_jge 53 dX10_sign_20 (by decide) (fun c_1 => ?_) (fun c_1 => ?_)
  · have h := sw_if.f h c_1
    refine aw_aload_n 0 dX10_sign_53 rfl rfl ?_
    refine aw_dup dX10_sign_54 rfl ?_
    refine gf_X10_12 fl_X10_32 (lk140 hG) dX10_sign_55 ?_
    refine aw_iconst (v := 4) dX10_sign_58 (by decide) ?_
    refine aw_iadd dX10_sign_59 ?_
    refine pf_X10_12 fl_X10_32 (lk140 hG) dX10_sign_60 (aw_nameI fun I_2 e_3 => ?_)
    have h := h I_2 e_3
    refine aw_aload_n 0 dX10_sign_63 rfl rfl ?_
    refine gf_X10_12 fl_X10_32 (lk140 hG) dX10_sign_64 ?_
    exact aw_iret rfl dX10_sign_67 ⟨rfl, _, rfl, h⟩
  · have h := sw_if.t h c_1
    refine aw_aload_n 0 dX10_sign_23 rfl rfl ?_
    refine gf_X10_11 fl_X10_35 (lk140 hG) (lr140_11 hG) dX10_sign_24 ?_
    refine aw_aload_n 0 dX10_sign_27 rfl rfl ?_
    refine gf_X10_12 fl_X10_32 (lk140 hG) dX10_sign_28 ?_
    refine aw_iload_n 2 dX10_sign_31 rfl rfl ?_
    refine aw_iadd dX10_sign_32 ?_
    refine aw_iload_n 1 dX10_sign_33 rfl rfl ?_
    refine aw_bipush (v := 24) dX10_sign_34 (by decide) ?_
    refine aw_bipush (v := 8) dX10_sign_36 (by decide) ?_
    refine aw_iload_n 2 dX10_sign_38 rfl rfl ?_
    refine aw_imul dX10_sign_39 ?_
    refine aw_isub dX10_sign_40 ?_
    refine aw_ishr dX10_sign_41 ?_
    refine aw_sipush (v := 255) dX10_sign_42 (by decide) ?_
    refine aw_iand dX10_sign_45 ?_
    obtain ⟨hi_4, h⟩ := h
    refine aw_ist dX10_sign_46 (lk146 hG) (ln146 hG) hi_4 (aw_nameI fun I_5 e_6 => ?_)
    have h := h I_5 e_6
    obtain ⟨y_7, e_8⟩ : ∃ q : Int32, q = x2 + 1 := ⟨_, rfl⟩
    have h := h y_7 e_8
    refine aw_iinc (lv' := [(2, .int y_7), (0, .ref (sz + 140)), (1, .int x1)]) 2 dX10_sign_47 rfl (by rw [e_8]; rfl) (by decide) rfl ?_
    refine aw_goto 18 dX10_sign_50 (by decide) ?_
    refine aw_sub [1, 2, 0] rfl ?_
    exact hK18 x1 y_7 I_5 J h
set_option maxRecDepth 20000 in
theorem tl_X10_sign_18 {l : Launch} {D : va_G} {cy : Nat → ClassId} {sz : Nat} {G : sw_G} (hG : sw_lay G)   {Q : Int32 → sw_I → sw_J → Prop} : ∀ (n : Nat) (x1 : Int32) (x2 : Int32) (I : sw_I) (J : sw_J), wl_X10_sign_18   Q n x1 x2 I J → AW l D cy sz RX10 cX10_sign 3 (some .int) false rm_X10_sign 0 0 (sw_qi G Q) 0 0 G I J 18 [(0, .ref (sz + 140)), (1, .int x1), (2, .int x2)] [] := by
  intro n
  induction n with
  | zero => intro x1 x2 I J h; exact False.elim h
  | succ n ih => intro x1 x2 I J h; exact tb_X10_sign_18 hG  ih h
set_option maxRecDepth 20000 in
theorem t_X10_sign {l : Launch} {D : va_G} {cy : Nat → ClassId} {sz : Nat} {G : sw_G} (hG : sw_lay G)   {Q : Int32 → sw_I → sw_J → Prop} {x1 : Int32} {I : sw_I} {J : sw_J} (h : wp_X10_sign x1 I J Q) : AW l D cy sz RX10 cX10_sign 3 (some .int) false rm_X10_sign 0 0 (sw_qi G Q) 0 0 G I J 0 [(0, .ref (sz + 140)), (1, .int x1)] [] := by
  unfold wp_X10_sign at h
  refine aw_aload_n 0 dX10_sign_0 rfl rfl ?_
  refine aw_iconst (v := 0) dX10_sign_1 (by decide) ?_
  refine pf_X10_0 fl_X10_3 (lk140 hG) dX10_sign_2 (aw_nameI fun I_1 e_2 => ?_)
  have h := h I_1 e_2
  refine aw_aload_n 0 dX10_sign_5 rfl rfl ?_
  refine gf_X10_12 fl_X10_32 (lk140 hG) dX10_sign_6 ?_
  refine aw_bipush (v := 76) dX10_sign_9 (by decide) ?_
  refine aw_jle 16 dX10_sign_11 (by decide) (fun c_3 => ?_) (fun c_3 => ?_)
  · have h := sw_if.f h c_3
    refine aw_iconst (v := 0) dX10_sign_16 (by decide) ?_
    refine aw_istore_n (lv' := [(2, .int 0), (0, .ref (sz + 140)), (1, .int x1)]) dX10_sign_17 rfl (by decide) rfl ?_
    refine aw_sub [1, 2, 0] rfl ?_
    obtain ⟨n_4, h⟩ := h
    exact tl_X10_sign_18 hG   n_4 x1 0 I_1 J h
  · have h := sw_if.t h c_3
    refine aw_iconst (v := (-1)) dX10_sign_14 (by decide) ?_
    exact aw_iret rfl dX10_sign_15 ⟨rfl, _, rfl, h⟩
theorem M_X10_sign {l : Launch} {D : va_G} {cy : Nat → ClassId} {sz : Nat} {G : sw_G} (hG : sw_lay G)   {Q : Int32 → sw_I → sw_J → Prop} {x1 : Int32} {I : sw_I} {J : sw_J} (h : wp_X10_sign x1 I J Q) : Met l yX10_sign (Cond.code yX10_sign cX10_sign 3 (some .int) :: sw_T) rm_X10_sign (sw_Pc D cy sz [.ref (sz + 140), .int x1] G I J) (sw_Q D cy sz (sw_qi G Q)) 0 0 (fun q => sz ≤ q) :=
  sw_met (by decide) (fun q => by cases q) (Nat.le_of_ble_eq_true rfl) rfl (t_X10_sign hG  h)
-- X10_end
abbrev rm_X10_end : Room := { frames := 1, cells := 0, slots := 0, locals := 25 }
def wp_X10_end (x1 : Int32) (I : sw_I) (J : sw_J) (Q : Int32 → sw_I → sw_J → Prop) : Prop :=
  ∀ I_1 : sw_I, I_1 = sw_up I 140 0 (0 : Int32) → wp_X10_in x1.toInt64 0 ((I_1 140 12).toInt64) I_1 J (fun r_3 I_4 J_5 => sw_if (r_3 = 0) (Q 0 I_4 J_5) (∀ I_7 : sw_I, I_7 = sw_up I_4 140 12 x1 → Q 1 I_7 J_5))
set_option maxRecDepth 20000 in
theorem t_X10_end {l : Launch} {D : va_G} {cy : Nat → ClassId} {sz : Nat} {G : sw_G} (hG : sw_lay G)   {Q : Int32 → sw_I → sw_J → Prop} {x1 : Int32} {I : sw_I} {J : sw_J} (h : wp_X10_end x1 I J Q) : AW l D cy sz RX10 cX10_end 2 (some .boolean) false rm_X10_end 0 0 (sw_qi G Q) 0 0 G I J 0 [(0, .ref (sz + 140)), (1, .int x1)] [] := by
  unfold wp_X10_end at h
  refine aw_aload_n 0 dX10_end_0 rfl rfl ?_
  refine aw_iconst (v := 0) dX10_end_1 (by decide) ?_
  refine pf_X10_0 fl_X10_3 (lk140 hG) dX10_end_2 (aw_nameI fun I_1 e_2 => ?_)
  have h := h I_1 e_2
  refine aw_iload_n 1 dX10_end_5 rfl rfl ?_
  refine aw_i2l dX10_end_6 ?_
  refine aw_lconst (v := 0) dX10_end_7 (by decide) ?_
  refine aw_aload_n 0 dX10_end_8 rfl rfl ?_
  refine gf_X10_12 fl_X10_32 (lk140 hG) dX10_end_9 ?_
  refine aw_i2l dX10_end_12 ?_
  refine aw_callS wv_X10_in (M_X10_in trivial  h) ml_X10_25 rfl rfl (Nat.le_of_ble_eq_true rfl) ⟨rfl, rfl⟩ ⟨Nat.le_of_ble_eq_true rfl, Nat.le_of_ble_eq_true rfl⟩ ⟨Nat.le_refl _, Nat.le_refl _⟩ dX10_end_13 (aw_ki fun r_3 I_4 J_5 h => ?_)
  refine aw_zne 21 dX10_end_16 (by decide) (fun c_6 => ?_) (fun c_6 => ?_)
  · have h := sw_if.f h c_6
    refine aw_aload_n 0 dX10_end_21 rfl rfl ?_
    refine aw_iload_n 1 dX10_end_22 rfl rfl ?_
    refine pf_X10_12 fl_X10_32 (lk140 hG) dX10_end_23 (aw_nameI fun I_7 e_8 => ?_)
    have h := h I_7 e_8
    refine aw_iconst (v := 1) dX10_end_26 (by decide) ?_
    exact aw_zret rfl rfl dX10_end_27 ⟨rfl, _, rfl, h⟩
  · have h := sw_if.t h c_6
    refine aw_iconst (v := 0) dX10_end_19 (by decide) ?_
    exact aw_zret rfl rfl dX10_end_20 ⟨rfl, _, rfl, h⟩
theorem M_X10_end {l : Launch} {D : va_G} {cy : Nat → ClassId} {sz : Nat} {G : sw_G} (hG : sw_lay G)   {Q : Int32 → sw_I → sw_J → Prop} {x1 : Int32} {I : sw_I} {J : sw_J} (h : wp_X10_end x1 I J Q) : Met l yX10_end (Cond.code yX10_end cX10_end 2 (some .boolean) :: sw_T) rm_X10_end (sw_Pc D cy sz [.ref (sz + 140), .int x1] G I J) (sw_Q D cy sz (sw_qi G Q)) 0 0 (fun q => sz ≤ q) :=
  sw_met (by decide) (fun q => by cases q) (Nat.le_of_ble_eq_true rfl) rfl (t_X10_end hG  h)
-- X10_begins
abbrev rm_X10_begins : Room := { frames := 1, cells := 0, slots := 0, locals := 21 }
def wp_X10_begins (x1 : Int32) (I : sw_I) (J : sw_J) (Q : Int32 → sw_I → sw_J → Prop) : Prop :=
  ∀ y_1 : Int32, y_1 = (I 140 12) → ∀ I_3 : sw_I, I_3 = sw_up I 140 12 (0 : Int32) → ∀ I_5 : sw_I, I_5 = sw_up I_3 140 13 (0 : Int32) → ∀ I_7 : sw_I, I_7 = sw_up I_5 140 15 (0 : Int32) → ∀ I_9 : sw_I, I_9 = sw_up I_7 140 14 (if x1 < y_1 then x1 else y_1) → Q y_1 I_9 J
set_option maxRecDepth 20000 in
theorem t_X10_begins {l : Launch} {D : va_G} {cy : Nat → ClassId} {sz : Nat} {G : sw_G} (hG : sw_lay G)   {Q : Int32 → sw_I → sw_J → Prop} {x1 : Int32} {I : sw_I} {J : sw_J} (h : wp_X10_begins x1 I J Q) : AW l D cy sz RX10 cX10_begins 3 (some .int) false rm_X10_begins 0 0 (sw_qi G Q) 0 0 G I J 0 [(0, .ref (sz + 140)), (1, .int x1)] [] := by
  unfold wp_X10_begins at h
  refine aw_aload_n 0 dX10_begins_0 rfl rfl ?_
  refine gf_X10_12 fl_X10_32 (lk140 hG) dX10_begins_1 ?_
  refine aw_topi (fun y_1 e_2 => ?_)
  have h := h y_1 e_2
  refine aw_istore_n (lv' := [(2, .int y_1), (0, .ref (sz + 140)), (1, .int x1)]) dX10_begins_4 rfl (by decide) rfl ?_
  refine aw_aload_n 1 dX10_begins_5 rfl rfl ?_
  refine aw_iconst (v := 0) dX10_begins_6 (by decide) ?_
  refine pf_X10_12 fl_X10_32 (lk140 hG) dX10_begins_7 (aw_nameI fun I_3 e_4 => ?_)
  have h := h I_3 e_4
  refine aw_aload_n 1 dX10_begins_10 rfl rfl ?_
  refine aw_iconst (v := 0) dX10_begins_11 (by decide) ?_
  refine pf_X10_13 fl_X10_39 (lk140 hG) dX10_begins_12 (aw_nameI fun I_5 e_6 => ?_)
  have h := h I_5 e_6
  refine aw_aload_n 1 dX10_begins_15 rfl rfl ?_
  refine aw_iconst (v := 0) dX10_begins_16 (by decide) ?_
  refine pf_X10_15 fl_X10_42 (lk140 hG) dX10_begins_17 (aw_nameI fun I_7 e_8 => ?_)
  have h := h I_7 e_8
  refine aw_aload_n 1 dX10_begins_20 rfl rfl ?_
  refine aw_iload_n 0 dX10_begins_21 rfl rfl ?_
  refine aw_iload_n 2 dX10_begins_22 rfl rfl ?_
  refine aw_mmin mm_X10_45 wm_min (Nat.le_of_ble_eq_true rfl) (Nat.le_of_ble_eq_true rfl) ⟨Nat.le_refl _, Nat.le_refl _⟩ dX10_begins_23 ?_
  refine pf_X10_14 fl_X10_51 (lk140 hG) dX10_begins_26 (aw_nameI fun I_9 e_10 => ?_)
  have h := h I_9 e_10
  refine aw_iload_n 0 dX10_begins_29 rfl rfl ?_
  exact aw_iret rfl dX10_begins_30 ⟨rfl, _, rfl, h⟩
theorem M_X10_begins {l : Launch} {D : va_G} {cy : Nat → ClassId} {sz : Nat} {G : sw_G} (hG : sw_lay G)   {Q : Int32 → sw_I → sw_J → Prop} {x1 : Int32} {I : sw_I} {J : sw_J} (h : wp_X10_begins x1 I J Q) : Met l yX10_begins (Cond.code yX10_begins cX10_begins 3 (some .int) :: sw_T) rm_X10_begins (sw_Pc D cy sz [.ref (sz + 140), .int x1] G I J) (sw_Q D cy sz (sw_qi G Q)) 0 0 (fun q => sz ≤ q) :=
  sw_met (by decide) (fun q => by cases q) (Nat.le_of_ble_eq_true rfl) rfl (t_X10_begins hG  h)
-- X10_takes
abbrev rm_X10_takes : Room := { frames := 1, cells := 0, slots := 0, locals := 20 }
def wB_X10_takes_29   (Q : Int32 → sw_I → sw_J → Prop) (s0 : Int32) (I : sw_I) (J : sw_J) : Prop :=
  wp_X10_flag s0 I J (fun r_1 I_2 J_3 => ∀ I_4 : sw_I, I_4 = sw_up I_2 140 13 ((I 140 13) + r_1) → (s0 = 0 ∨ s0 = 1) ∧ Q s0 I_4 J_3)
def wB_X10_takes_28   (Q : Int32 → sw_I → sw_J → Prop)  (I : sw_I) (J : sw_J) : Prop :=
  wB_X10_takes_29   Q 0 I J
def wp_X10_takes (x1 : Int32) (I : sw_I) (J : sw_J) (Q : Int32 → sw_I → sw_J → Prop) : Prop :=
  sw_if ((I 140 13) < (I 140 14)) (vp_in (I 140 13) 80 ∧ sw_if ((I 146 (I 140 13).toNatClampNeg) = x1) (wB_X10_takes_29   Q 1 I J) (wB_X10_takes_28   Q  I J)) (wB_X10_takes_28   Q  I J)
set_option maxRecDepth 20000 in
theorem t_X10_takes_29 {l : Launch} {D : va_G} {cy : Nat → ClassId} {sz : Nat} {G : sw_G} (hG : sw_lay G)   {Q : Int32 → sw_I → sw_J → Prop} {s0 : Int32} {I : sw_I} {J : sw_J} (h : wB_X10_takes_29   Q s0 I J) : AW l D cy sz RX10 cX10_takes 3 (some .boolean) false rm_X10_takes 0 0 (sw_qi G Q) 0 0 G I J 29 [(0, .ref (sz + 140))] [.int s0] := by
  unfold wB_X10_takes_29 at h
  refine aw_istore_n (lv' := [(2, .int s0), (0, .ref (sz + 140))]) dX10_takes_29 rfl (by decide) rfl ?_
  refine aw_aload_n 1 dX10_takes_30 rfl rfl ?_
  refine aw_dup dX10_takes_31 rfl ?_
  refine gf_X10_13 fl_X10_39 (lk140 hG) dX10_takes_32 ?_
  refine aw_iload_n 0 dX10_takes_35 rfl rfl ?_
  refine aw_callS wv_X10_flag (M_X10_flag trivial  h) ml_X10_54 rfl rfl (Nat.le_of_ble_eq_true rfl) ⟨rfl, rfl⟩ ⟨Nat.le_of_ble_eq_true rfl, Nat.le_of_ble_eq_true rfl⟩ ⟨Nat.le_refl _, Nat.le_refl _⟩ dX10_takes_36 (aw_ki fun r_1 I_2 J_3 h => ?_)
  refine aw_iadd dX10_takes_39 ?_
  refine pf_X10_13 fl_X10_39 (lk140 hG) dX10_takes_40 (aw_nameI fun I_4 e_5 => ?_)
  have h := h I_4 e_5
  refine aw_iload_n 0 dX10_takes_43 rfl rfl ?_
  exact aw_zret rfl (sw_bool h.1).1 dX10_takes_44 ⟨rfl, _, rfl, h.2⟩
set_option maxRecDepth 20000 in
theorem t_X10_takes_28 {l : Launch} {D : va_G} {cy : Nat → ClassId} {sz : Nat} {G : sw_G} (hG : sw_lay G)   {Q : Int32 → sw_I → sw_J → Prop}  {I : sw_I} {J : sw_J} (h : wB_X10_takes_28   Q  I J) : AW l D cy sz RX10 cX10_takes 3 (some .boolean) false rm_X10_takes 0 0 (sw_qi G Q) 0 0 G I J 28 [(0, .ref (sz + 140))] [] := by
  unfold wB_X10_takes_28 at h
  refine aw_iconst (v := 0) dX10_takes_28 (by decide) ?_
  refine aw_sub [0] rfl ?_
  exact t_X10_takes_29 hG   h
set_option maxRecDepth 20000 in
theorem t_X10_takes {l : Launch} {D : va_G} {cy : Nat → ClassId} {sz : Nat} {G : sw_G} (hG : sw_lay G)   {Q : Int32 → sw_I → sw_J → Prop} {x1 : Int32} {I : sw_I} {J : sw_J} (h : wp_X10_takes x1 I J Q) : AW l D cy sz RX10 cX10_takes 3 (some .boolean) false rm_X10_takes 0 0 (sw_qi G Q) 0 0 G I J 0 [(0, .ref (sz + 140)), (1, .int x1)] [] := by
  unfold wp_X10_takes at h
  refine aw_aload_n 0 dX10_takes_0 rfl rfl ?_
  refine gf_X10_13 fl_X10_39 (lk140 hG) dX10_takes_1 ?_
  refine aw_aload_n 0 dX10_takes_4 rfl rfl ?_
  refine gf_X10_14 fl_X10_51 (lk140 hG) dX10_takes_5 ?_
  refine aw_jge 28 dX10_takes_8 (by decide) (fun c_1 => ?_) (fun c_1 => ?_)
  · have h := sw_if.f h c_1
    refine aw_sub [0] rfl ?_
    exact t_X10_takes_28 hG   h
  · have h := sw_if.t h c_1
    refine aw_aload_n 0 dX10_takes_11 rfl rfl ?_
    refine gf_X10_11 fl_X10_35 (lk140 hG) (lr140_11 hG) dX10_takes_12 ?_
    refine aw_aload_n 0 dX10_takes_15 rfl rfl ?_
    refine gf_X10_13 fl_X10_39 (lk140 hG) dX10_takes_16 ?_
    obtain ⟨hi_2, h⟩ := h
    refine aw_ild dX10_takes_19 (lk146 hG) (ln146 hG) hi_2 ?_
    refine aw_iload_n 1 dX10_takes_20 rfl rfl ?_
    refine aw_jne 28 dX10_takes_21 (by decide) (fun c_3 => ?_) (fun c_3 => ?_)
    · have h := sw_if.f h c_3
      refine aw_sub [0] rfl ?_
      exact t_X10_takes_28 hG   h
    · have h := sw_if.t h c_3
      refine aw_iconst (v := 1) dX10_takes_24 (by decide) ?_
      refine aw_goto 29 dX10_takes_25 (by decide) ?_
      refine aw_sub [0] rfl ?_
      exact t_X10_takes_29 hG   h
theorem M_X10_takes {l : Launch} {D : va_G} {cy : Nat → ClassId} {sz : Nat} {G : sw_G} (hG : sw_lay G)   {Q : Int32 → sw_I → sw_J → Prop} {x1 : Int32} {I : sw_I} {J : sw_J} (h : wp_X10_takes x1 I J Q) : Met l yX10_takes (Cond.code yX10_takes cX10_takes 3 (some .boolean) :: sw_T) rm_X10_takes (sw_Pc D cy sz [.ref (sz + 140), .int x1] G I J) (sw_Q D cy sz (sw_qi G Q)) 0 0 (fun q => sz ≤ q) :=
  sw_met (by decide) (fun q => by cases q) (Nat.le_of_ble_eq_true rfl) rfl (t_X10_takes hG  h)
-- X10_isDigit
abbrev rm_X10_isDigit : Room := { frames := 1, cells := 0, slots := 0, locals := 25 }
def wp_X10_isDigit  (I : sw_I) (J : sw_J) (Q : Int32 → sw_I → sw_J → Prop) : Prop :=
  sw_if ((I 140 13) < (I 140 14)) (vp_in (I 140 13) 80 ∧ wp_X10_in ((I 146 (I 140 13).toNatClampNeg).toInt64) 48 57 I J (fun r_3 I_4 J_5 => sw_if (r_3 = 0) (Q 0 I_4 J_5) (Q 1 I_4 J_5))) (Q 0 I J)
set_option maxRecDepth 20000 in
theorem t_X10_isDigit {l : Launch} {D : va_G} {cy : Nat → ClassId} {sz : Nat} {G : sw_G} (hG : sw_lay G)   {Q : Int32 → sw_I → sw_J → Prop}  {I : sw_I} {J : sw_J} (h : wp_X10_isDigit  I J Q) : AW l D cy sz RX10 cX10_isDigit 1 (some .boolean) false rm_X10_isDigit 0 0 (sw_qi G Q) 0 0 G I J 0 [(0, .ref (sz + 140))] [] := by
  unfold wp_X10_isDigit at h
  refine aw_aload_n 0 dX10_isDigit_0 rfl rfl ?_
  refine gf_X10_13 fl_X10_39 (lk140 hG) dX10_isDigit_1 ?_
  refine aw_aload_n 0 dX10_isDigit_4 rfl rfl ?_
  refine gf_X10_14 fl_X10_51 (lk140 hG) dX10_isDigit_5 ?_
  refine aw_jge 37 dX10_isDigit_8 (by decide) (fun c_1 => ?_) (fun c_1 => ?_)
  · have h := sw_if.f h c_1
    refine aw_iconst (v := 0) dX10_isDigit_37 (by decide) ?_
    exact aw_zret rfl rfl dX10_isDigit_38 ⟨rfl, _, rfl, h⟩
  · have h := sw_if.t h c_1
    refine aw_aload_n 0 dX10_isDigit_11 rfl rfl ?_
    refine gf_X10_11 fl_X10_35 (lk140 hG) (lr140_11 hG) dX10_isDigit_12 ?_
    refine aw_aload_n 0 dX10_isDigit_15 rfl rfl ?_
    refine gf_X10_13 fl_X10_39 (lk140 hG) dX10_isDigit_16 ?_
    obtain ⟨hi_2, h⟩ := h
    refine aw_ild dX10_isDigit_19 (lk146 hG) (ln146 hG) hi_2 ?_
    refine aw_i2l dX10_isDigit_20 ?_
    refine aw_ldc2 (v := 48) dX10_isDigit_21 k_X10_58 ?_
    refine aw_ldc2 (v := 57) dX10_isDigit_24 k_X10_60 ?_
    refine aw_callS wv_X10_in (M_X10_in trivial  h) ml_X10_25 rfl rfl (Nat.le_of_ble_eq_true rfl) ⟨rfl, rfl⟩ ⟨Nat.le_of_ble_eq_true rfl, Nat.le_of_ble_eq_true rfl⟩ ⟨Nat.le_refl _, Nat.le_refl _⟩ dX10_isDigit_27 (aw_ki fun r_3 I_4 J_5 h => ?_)
    refine aw_zeq 37 dX10_isDigit_30 (by decide) (fun c_6 => ?_) (fun c_6 => ?_)
    · have h := sw_if.t h c_6
      refine aw_iconst (v := 0) dX10_isDigit_37 (by decide) ?_
      exact aw_zret rfl rfl dX10_isDigit_38 ⟨rfl, _, rfl, h⟩
    · have h := sw_if.f h c_6
      refine aw_iconst (v := 1) dX10_isDigit_33 (by decide) ?_
      refine aw_goto 38 dX10_isDigit_34 (by decide) ?_
      exact aw_zret rfl rfl dX10_isDigit_38 ⟨rfl, _, rfl, h⟩
theorem M_X10_isDigit {l : Launch} {D : va_G} {cy : Nat → ClassId} {sz : Nat} {G : sw_G} (hG : sw_lay G)   {Q : Int32 → sw_I → sw_J → Prop}  {I : sw_I} {J : sw_J} (h : wp_X10_isDigit  I J Q) : Met l yX10_isDigit (Cond.code yX10_isDigit cX10_isDigit 1 (some .boolean) :: sw_T) rm_X10_isDigit (sw_Pc D cy sz [.ref (sz + 140)] G I J) (sw_Q D cy sz (sw_qi G Q)) 0 0 (fun q => sz ≤ q) :=
  sw_met (by decide) (fun q => by cases q) (Nat.le_of_ble_eq_true rfl) rfl (t_X10_isDigit hG  h)
-- X10_among
abbrev rm_X10_among : Room := { frames := 4, cells := 0, slots := 0, locals := 85 }
def wb_X10_among_2 (i1 : Nat) (K2 : Int32 → sw_I → sw_J → Prop) (Q : Int32 → sw_I → sw_J → Prop) (x2 : Int32) (I : sw_I) (J : sw_J) : Prop :=
  sw_if (x2 < (nI (sw_sl.getD i1 0))) (sw_if ((I 140 13) < (I 140 14)) (∃ q_11 : Nat, q_11 < sw_sl.getD i1 0 ∧ nI q_11 = x2 ∧ vp_in (I 140 13) 80 ∧ sw_if ((sw_ch i1 q_11) = (I 146 (I 140 13).toNatClampNeg)) (Q x2 I J) (∀ y_16 : Int32, y_16 = x2 + 1 → K2 y_16 I J)) (Q (-1 : Int32) I J)) (Q (-1 : Int32) I J)
def wl_X10_among_2 (i1 : Nat)  (Q : Int32 → sw_I → sw_J → Prop) : Nat → Int32 → sw_I → sw_J → Prop
  | 0 => fun _ _ _ => False
  | n + 1 => fun x2 I J => wb_X10_among_2 i1 (wl_X10_among_2 i1  Q n) Q x2 I J
def wp_X10_among (i1 : Nat) (I : sw_I) (J : sw_J) (Q : Int32 → sw_I → sw_J → Prop) : Prop :=
  ∃ n_1 : Nat, wl_X10_among_2 i1  Q n_1 0 I J
set_option maxRecDepth 20000 in
theorem tb_X10_among_2 {l : Launch} {D : va_G} {cy : Nat → ClassId} {sz : Nat} {G : sw_G} (hG : sw_lay G) {i1 : Nat} (hi1 : i1 < sw_sk.length) {Q : Int32 → sw_I → sw_J → Prop} {K2 : Int32 → sw_I → sw_J → Prop} (hK2 : ∀ (x2 : Int32) (I : sw_I) (J : sw_J), K2 x2 I J → AW l D cy sz RX10 cX10_among 3 (some .int) false rm_X10_among 0 0 (sw_qi G Q) 0 0 G I J 2 [(0, .ref (sz + 140)), (1, .ref (cy (10 + i1))), (2, .int x2)] []) {x2 : Int32} {I : sw_I} {J : sw_J} (h : wb_X10_among_2 i1 K2 Q x2 I J) : AW l D cy sz RX10 cX10_among 3 (some .int) false rm_X10_among 0 0 (sw_qi G Q) 0 0 G I J 2 [(0, .ref (sz + 140)), (1, .ref (cy (10 + i1))), (2, .int x2)] [] := by
  unfold wb_X10_among_2 at h
  refine aw_iload_n 2 dX10_among_2 rfl rfl ?_
  refine aw_aload_n 1 dX10_among_3 rfl rfl ?_
  refine aw_callT wv_J0_length_8abf5 rfl (M_J0_length (Q := fun r I9 J9 => r = nI (sw_sl.getD i1 0) ∧ I9 = I ∧ J9 = J) hi1 ⟨rfl, rfl, rfl⟩) ml_X10_62 hi1 rfl rfl (Nat.le_of_ble_eq_true rfl) ⟨rfl, rfl⟩ ⟨Nat.le_of_ble_eq_true rfl, Nat.le_of_ble_eq_true rfl⟩ ⟨Nat.le_refl _, Nat.le_refl _⟩ dX10_among_4 (aw_ki fun r_1 I_2 J_3 e_4 => ?_)
  rw [e_4.1, e_4.2.1, e_4.2.2]
  refine aw_jge 46 dX10_among_7 (by decide) (fun c_5 => ?_) (fun c_5 => ?_)
  · have h := sw_if.f h c_5
    refine aw_iconst (v := (-1)) dX10_among_46 (by decide) ?_
    exact aw_iret rfl dX10_among_47 ⟨rfl, _, rfl, h⟩
  · have h := sw_if.t h c_5
    refine aw_aload_n 0 dX10_among_10 rfl rfl ?_
    refine gf_X10_13 fl_X10_39 (lk140 hG) dX10_among_11 ?_
    refine aw_aload_n 0 dX10_among_14 rfl rfl ?_
    refine gf_X10_14 fl_X10_51 (lk140 hG) dX10_among_15 ?_
    refine aw_jge 46 dX10_among_18 (by decide) (fun c_6 => ?_) (fun c_6 => ?_)
    · have h := sw_if.f h c_6
      refine aw_iconst (v := (-1)) dX10_among_46 (by decide) ?_
      exact aw_iret rfl dX10_among_47 ⟨rfl, _, rfl, h⟩
    · have h := sw_if.t h c_6
      refine aw_aload_n 1 dX10_among_21 rfl rfl ?_
      refine aw_iload_n 2 dX10_among_22 rfl rfl ?_
      obtain ⟨q_11, hk_13, hq_12, h⟩ := h
      refine aw_callT wv_J0_charAt_5068e rfl (hq_12 ▸ M_J0_charAt (k := q_11) (Q := fun r I9 J9 => r = sw_ch i1 q_11 ∧ I9 = I ∧ J9 = J) hi1 hk_13 ⟨rfl, rfl, rfl⟩) ml_X10_68 hi1 rfl rfl (Nat.le_of_ble_eq_true rfl) ⟨rfl, rfl⟩ ⟨Nat.le_of_ble_eq_true rfl, Nat.le_of_ble_eq_true rfl⟩ ⟨Nat.le_refl _, Nat.le_refl _⟩ dX10_among_23 (aw_ki fun r_7 I_8 J_9 e_10 => ?_)
      rw [e_10.1, e_10.2.1, e_10.2.2]
      refine aw_aload_n 0 dX10_among_26 rfl rfl ?_
      refine gf_X10_11 fl_X10_35 (lk140 hG) (lr140_11 hG) dX10_among_27 ?_
      refine aw_aload_n 0 dX10_among_30 rfl rfl ?_
      refine gf_X10_13 fl_X10_39 (lk140 hG) dX10_among_31 ?_
      obtain ⟨hi_14, h⟩ := h
      refine aw_ild dX10_among_34 (lk146 hG) (ln146 hG) hi_14 ?_
      refine aw_jne 40 dX10_among_35 (by decide) (fun c_15 => ?_) (fun c_15 => ?_)
      · have h := sw_if.f h c_15
        obtain ⟨y_16, e_17⟩ : ∃ q : Int32, q = x2 + 1 := ⟨_, rfl⟩
        have h := h y_16 e_17
        refine aw_iinc (lv' := [(2, .int y_16), (0, .ref (sz + 140)), (1, .ref (cy (10 + i1)))]) 2 dX10_among_40 rfl (by rw [e_17]; rfl) (by decide) rfl ?_
        refine aw_goto 2 dX10_among_43 (by decide) ?_
        refine aw_sub [1, 2, 0] rfl ?_
        exact hK2 y_16 I J h
      · have h := sw_if.t h c_15
        refine aw_iload_n 2 dX10_among_38 rfl rfl ?_
        exact aw_iret rfl dX10_among_39 ⟨rfl, _, rfl, h⟩
set_option maxRecDepth 20000 in
theorem tl_X10_among_2 {l : Launch} {D : va_G} {cy : Nat → ClassId} {sz : Nat} {G : sw_G} (hG : sw_lay G) {i1 : Nat} (hi1 : i1 < sw_sk.length) {Q : Int32 → sw_I → sw_J → Prop} : ∀ (n : Nat) (x2 : Int32) (I : sw_I) (J : sw_J), wl_X10_among_2 i1  Q n x2 I J → AW l D cy sz RX10 cX10_among 3 (some .int) false rm_X10_among 0 0 (sw_qi G Q) 0 0 G I J 2 [(0, .ref (sz + 140)), (1, .ref (cy (10 + i1))), (2, .int x2)] [] := by
  intro n
  induction n with
  | zero => intro x2 I J h; exact False.elim h
  | succ n ih => intro x2 I J h; exact tb_X10_among_2 hG hi1 ih h
set_option maxRecDepth 20000 in
theorem t_X10_among {l : Launch} {D : va_G} {cy : Nat → ClassId} {sz : Nat} {G : sw_G} (hG : sw_lay G) {i1 : Nat} (hi1 : i1 < sw_sk.length) {Q : Int32 → sw_I → sw_J → Prop}  {I : sw_I} {J : sw_J} (h : wp_X10_among i1 I J Q) : AW l D cy sz RX10 cX10_among 3 (some .int) false rm_X10_among 0 0 (sw_qi G Q) 0 0 G I J 0 [(0, .ref (sz + 140)), (1, .ref (cy (10 + i1)))] [] := by
  unfold wp_X10_among at h
  refine aw_iconst (v := 0) dX10_among_0 (by decide) ?_
  refine aw_istore_n (lv' := [(2, .int 0), (0, .ref (sz + 140)), (1, .ref (cy (10 + i1)))]) dX10_among_1 rfl (by decide) rfl ?_
  refine aw_sub [1, 2, 0] rfl ?_
  obtain ⟨n_1, h⟩ := h
  exact tl_X10_among_2 hG hi1  n_1 0 I J h
theorem M_X10_among {l : Launch} {D : va_G} {cy : Nat → ClassId} {sz : Nat} {G : sw_G} (hG : sw_lay G) {i1 : Nat} (hi1 : i1 < sw_sk.length) {Q : Int32 → sw_I → sw_J → Prop}  {I : sw_I} {J : sw_J} (h : wp_X10_among i1 I J Q) : Met l yX10_among (Cond.code yX10_among cX10_among 3 (some .int) :: sw_T) rm_X10_among (sw_Pc D cy sz [.ref (sz + 140), .ref (cy (10 + i1))] G I J) (sw_Q D cy sz (sw_qi G Q)) 0 0 (fun q => sz ≤ q) :=
  sw_met (by decide) (fun q => by cases q) (Nat.le_of_ble_eq_true rfl) rfl (t_X10_among hG hi1 h)
-- X10_faultOf
abbrev rm_X10_faultOf : Room := { frames := 0, cells := 0, slots := 0, locals := 0 }
def wB_X10_faultOf_44   (Q : Int32 → sw_I → sw_J → Prop) (x4 : Int32) (I : sw_I) (J : sw_J) : Prop :=
  sw_if (x4 = 0) (Q ((-1 : Int32) - (I 140 13)) I J) (Q (0 : Int32) I J)
def wB_X10_faultOf_20   (Q : Int32 → sw_I → sw_J → Prop) (x1 : Int32) (x2 : Int32) (s0 : Int32) (I : sw_I) (J : sw_J) : Prop :=
  sw_if (x2 < x1) (sw_if (s0 = 0) (sw_if ((I 140 13) < x2) (wB_X10_faultOf_44   Q s0 I J) (Q ((-1 : Int32) - x2) I J)) (Q ((-1 : Int32) - x2) I J)) (wB_X10_faultOf_44   Q s0 I J)
def wB_X10_faultOf_19   (Q : Int32 → sw_I → sw_J → Prop) (x1 : Int32) (x2 : Int32) (I : sw_I) (J : sw_J) : Prop :=
  wB_X10_faultOf_20   Q x1 x2 0 I J
def wp_X10_faultOf (x1 : Int32) (x2 : Int32) (x3 : Int32) (I : sw_I) (J : sw_J) (Q : Int32 → sw_I → sw_J → Prop) : Prop :=
  sw_if (x3 = 0) (wB_X10_faultOf_19   Q x1 x2 I J) (sw_if ((I 140 13) = (I 140 14)) (wB_X10_faultOf_20   Q x1 x2 1 I J) (wB_X10_faultOf_19   Q x1 x2 I J))
set_option maxRecDepth 20000 in
theorem t_X10_faultOf_44 {l : Launch} {D : va_G} {cy : Nat → ClassId} {sz : Nat} {G : sw_G} (hG : sw_lay G)   {Q : Int32 → sw_I → sw_J → Prop} {x4 : Int32} {I : sw_I} {J : sw_J} (h : wB_X10_faultOf_44   Q x4 I J) : AW l D cy sz RX10 cX10_faultOf 5 (some .int) false rm_X10_faultOf 0 0 (sw_qi G Q) 0 0 G I J 44 [(0, .ref (sz + 140)), (4, .int x4)] [] := by
  unfold wB_X10_faultOf_44 at h
  refine aw_iload 1 dX10_faultOf_44 rfl ?_
  refine aw_zeq 53 dX10_faultOf_46 (by decide) (fun c_1 => ?_) (fun c_1 => ?_)
  · have h := sw_if.t h c_1
    refine aw_iconst (v := (-1)) dX10_faultOf_53 (by decide) ?_
    refine aw_aload_n 0 dX10_faultOf_54 rfl rfl ?_
    refine gf_X10_13 fl_X10_39 (lk140 hG) dX10_faultOf_55 ?_
    refine aw_isub dX10_faultOf_58 ?_
    exact aw_iret rfl dX10_faultOf_59 ⟨rfl, _, rfl, h⟩
  · have h := sw_if.f h c_1
    refine aw_iconst (v := 0) dX10_faultOf_49 (by decide) ?_
    refine aw_goto 59 dX10_faultOf_50 (by decide) ?_
    exact aw_iret rfl dX10_faultOf_59 ⟨rfl, _, rfl, h⟩
set_option maxRecDepth 20000 in
theorem t_X10_faultOf_20 {l : Launch} {D : va_G} {cy : Nat → ClassId} {sz : Nat} {G : sw_G} (hG : sw_lay G)   {Q : Int32 → sw_I → sw_J → Prop} {x1 : Int32} {x2 : Int32} {s0 : Int32} {I : sw_I} {J : sw_J} (h : wB_X10_faultOf_20   Q x1 x2 s0 I J) : AW l D cy sz RX10 cX10_faultOf 5 (some .int) false rm_X10_faultOf 0 0 (sw_qi G Q) 0 0 G I J 20 [(0, .ref (sz + 140)), (1, .int x1), (2, .int x2)] [.int s0] := by
  unfold wB_X10_faultOf_20 at h
  refine aw_istore (lv' := [(4, .int s0), (0, .ref (sz + 140)), (1, .int x1), (2, .int x2)]) dX10_faultOf_20 (by decide) rfl ?_
  refine aw_iload_n 2 dX10_faultOf_22 rfl rfl ?_
  refine aw_iload_n 3 dX10_faultOf_23 rfl rfl ?_
  refine aw_jle 44 dX10_faultOf_24 (by decide) (fun c_1 => ?_) (fun c_1 => ?_)
  · have h := sw_if.f h c_1
    refine aw_sub [1, 0] rfl ?_
    exact t_X10_faultOf_44 hG   h
  · have h := sw_if.t h c_1
    refine aw_iload 0 dX10_faultOf_27 rfl ?_
    refine aw_zne 40 dX10_faultOf_29 (by decide) (fun c_2 => ?_) (fun c_2 => ?_)
    · have h := sw_if.f h c_2
      refine aw_iconst (v := (-1)) dX10_faultOf_40 (by decide) ?_
      refine aw_iload_n 3 dX10_faultOf_41 rfl rfl ?_
      refine aw_isub dX10_faultOf_42 ?_
      exact aw_iret rfl dX10_faultOf_43 ⟨rfl, _, rfl, h⟩
    · have h := sw_if.t h c_2
      refine aw_aload_n 1 dX10_faultOf_32 rfl rfl ?_
      refine gf_X10_13 fl_X10_39 (lk140 hG) dX10_faultOf_33 ?_
      refine aw_iload_n 3 dX10_faultOf_36 rfl rfl ?_
      refine aw_jlt 44 dX10_faultOf_37 (by decide) (fun c_3 => ?_) (fun c_3 => ?_)
      · have h := sw_if.t h c_3
        refine aw_sub [1, 0] rfl ?_
        exact t_X10_faultOf_44 hG   h
      · have h := sw_if.f h c_3
        refine aw_iconst (v := (-1)) dX10_faultOf_40 (by decide) ?_
        refine aw_iload_n 3 dX10_faultOf_41 rfl rfl ?_
        refine aw_isub dX10_faultOf_42 ?_
        exact aw_iret rfl dX10_faultOf_43 ⟨rfl, _, rfl, h⟩
set_option maxRecDepth 20000 in
theorem t_X10_faultOf_19 {l : Launch} {D : va_G} {cy : Nat → ClassId} {sz : Nat} {G : sw_G} (hG : sw_lay G)   {Q : Int32 → sw_I → sw_J → Prop} {x1 : Int32} {x2 : Int32} {I : sw_I} {J : sw_J} (h : wB_X10_faultOf_19   Q x1 x2 I J) : AW l D cy sz RX10 cX10_faultOf 5 (some .int) false rm_X10_faultOf 0 0 (sw_qi G Q) 0 0 G I J 19 [(0, .ref (sz + 140)), (1, .int x1), (2, .int x2)] [] := by
  unfold wB_X10_faultOf_19 at h
  refine aw_iconst (v := 0) dX10_faultOf_19 (by decide) ?_
  refine aw_sub [0, 1, 2] rfl ?_
  exact t_X10_faultOf_20 hG   h
set_option maxRecDepth 20000 in
theorem t_X10_faultOf {l : Launch} {D : va_G} {cy : Nat → ClassId} {sz : Nat} {G : sw_G} (hG : sw_lay G)   {Q : Int32 → sw_I → sw_J → Prop} {x1 : Int32} {x2 : Int32} {x3 : Int32} {I : sw_I} {J : sw_J} (h : wp_X10_faultOf x1 x2 x3 I J Q) : AW l D cy sz RX10 cX10_faultOf 5 (some .int) false rm_X10_faultOf 0 0 (sw_qi G Q) 0 0 G I J 0 [(0, .ref (sz + 140)), (1, .int x1), (2, .int x2), (3, .int x3)] [] := by
  unfold wp_X10_faultOf at h
  refine aw_iload_n 3 dX10_faultOf_0 rfl rfl ?_
  refine aw_zeq 19 dX10_faultOf_1 (by decide) (fun c_1 => ?_) (fun c_1 => ?_)
  · have h := sw_if.t h c_1
    refine aw_sub [0, 1, 2] rfl ?_
    exact t_X10_faultOf_19 hG   h
  · have h := sw_if.f h c_1
    refine aw_aload_n 0 dX10_faultOf_4 rfl rfl ?_
    refine gf_X10_13 fl_X10_39 (lk140 hG) dX10_faultOf_5 ?_
    refine aw_aload_n 0 dX10_faultOf_8 rfl rfl ?_
    refine gf_X10_14 fl_X10_51 (lk140 hG) dX10_faultOf_9 ?_
    refine aw_jne 19 dX10_faultOf_12 (by decide) (fun c_2 => ?_) (fun c_2 => ?_)
    · have h := sw_if.f h c_2
      refine aw_sub [0, 1, 2] rfl ?_
      exact t_X10_faultOf_19 hG   h
    · have h := sw_if.t h c_2
      refine aw_iconst (v := 1) dX10_faultOf_15 (by decide) ?_
      refine aw_goto 20 dX10_faultOf_16 (by decide) ?_
      refine aw_sub [0, 1, 2] rfl ?_
      exact t_X10_faultOf_20 hG   h
theorem M_X10_faultOf {l : Launch} {D : va_G} {cy : Nat → ClassId} {sz : Nat} {G : sw_G} (hG : sw_lay G)   {Q : Int32 → sw_I → sw_J → Prop} {x1 : Int32} {x2 : Int32} {x3 : Int32} {I : sw_I} {J : sw_J} (h : wp_X10_faultOf x1 x2 x3 I J Q) : Met l yX10_faultOf (Cond.code yX10_faultOf cX10_faultOf 5 (some .int) :: sw_T) rm_X10_faultOf (sw_Pc D cy sz [.ref (sz + 140), .int x1, .int x2, .int x3] G I J) (sw_Q D cy sz (sw_qi G Q)) 0 0 (fun q => sz ≤ q) :=
  sw_met (by decide) (fun q => by cases q) (Nat.le_of_ble_eq_true rfl) rfl (t_X10_faultOf hG  h)
-- X10_floors
abbrev rm_X10_floors : Room := { frames := 1, cells := 0, slots := 0, locals := 25 }
def wb_X10_floors_38  (K38 : Int32 → sw_I → sw_J → Prop) (Q : Int32 → sw_I → sw_J → Prop) (x2 : Int32) (I : sw_I) (J : sw_J) : Prop :=
  sw_if (x2 < (33 : Int32)) (vp_in x2 33 ∧ ∀ I_9 : sw_I, I_9 = sw_up I 144 x2.toNatClampNeg (0 : Int32) → ∀ y_11 : Int32, y_11 = x2 + 1 → K38 y_11 I_9 J) (∀ I_2 : sw_I, I_2 = sw_up I 140 32 (0 : Int32) → ∀ I_4 : sw_I, I_4 = sw_up I_2 140 54 (0 : Int32) → ∀ I_6 : sw_I, I_6 = sw_up I_4 140 6 ((I_4 140 6) + (1 : Int32)) → Q 1 I_6 J)
def wl_X10_floors_38   (Q : Int32 → sw_I → sw_J → Prop) : Nat → Int32 → sw_I → sw_J → Prop
  | 0 => fun _ _ _ => False
  | n + 1 => fun x2 I J => wb_X10_floors_38  (wl_X10_floors_38   Q n) Q x2 I J
def wp_X10_floors (x1 : Int32) (I : sw_I) (J : sw_J) (Q : Int32 → sw_I → sw_J → Prop) : Prop :=
  ∀ I_1 : sw_I, I_1 = sw_up I 140 0 (0 : Int32) → wp_X10_in x1.toInt64 2 9 I_1 J (fun r_3 I_4 J_5 => sw_if (r_3 = 0) (Q 0 I_4 J_5) (∀ I_7 : sw_I, I_7 = sw_up I_4 140 3 x1 → ∀ I_9 : sw_I, I_9 = sw_up I_7 140 4 (0 : Int32) → ∀ I_11 : sw_I, I_11 = sw_up I_9 140 5 (-1 : Int32) → ∃ n_13 : Nat, wl_X10_floors_38   Q n_13 0 I_11 J_5))
set_option maxRecDepth 20000 in
theorem tb_X10_floors_38 {l : Launch} {D : va_G} {cy : Nat → ClassId} {sz : Nat} {G : sw_G} (hG : sw_lay G)   {Q : Int32 → sw_I → sw_J → Prop} {K38 : Int32 → sw_I → sw_J → Prop} (hK38 : ∀ (x2 : Int32) (I : sw_I) (J : sw_J), K38 x2 I J → AW l D cy sz RX10 cX10_floors 3 (some .boolean) false rm_X10_floors 0 0 (sw_qi G Q) 0 0 G I J 38 [(0, .ref (sz + 140)), (2, .int x2)] []) {x2 : Int32} {I : sw_I} {J : sw_J} (h : wb_X10_floors_38  K38 Q x2 I J) : AW l D cy sz RX10 cX10_floors 3 (some .boolean) false rm_X10_floors 0 0 (sw_qi G Q) 0 0 G I J 38 [(0, .ref (sz + 140)), (2, .int x2)] [] := by
  unfold wb_X10_floors_38 at h
  refine aw_iload_n 1 dX10_floors_38 rfl rfl ?_
  refine aw_bipush (v := 33) dX10_floors_39 (by decide) ?_
  refine aw_jge 57 dX10_floors_41 (by decide) (fun c_1 => ?_) (fun c_1 => ?_)
  · have h := sw_if.f h c_1
    refine aw_aload_n 0 dX10_floors_57 rfl rfl ?_
    refine aw_iconst (v := 0) dX10_floors_58 (by decide) ?_
    refine pf_X10_32 fl_X10_82 (lk140 hG) dX10_floors_59 (aw_nameI fun I_2 e_3 => ?_)
    have h := h I_2 e_3
    refine aw_aload_n 0 dX10_floors_62 rfl rfl ?_
    refine aw_iconst (v := 0) dX10_floors_63 (by decide) ?_
    refine pf_X10_54 fl_X10_85 (lk140 hG) dX10_floors_64 (aw_nameI fun I_4 e_5 => ?_)
    have h := h I_4 e_5
    refine aw_aload_n 0 dX10_floors_67 rfl rfl ?_
    refine aw_dup dX10_floors_68 rfl ?_
    refine gf_X10_6 fl_X10_88 (lk140 hG) dX10_floors_69 ?_
    refine aw_iconst (v := 1) dX10_floors_72 (by decide) ?_
    refine aw_iadd dX10_floors_73 ?_
    refine pf_X10_6 fl_X10_88 (lk140 hG) dX10_floors_74 (aw_nameI fun I_6 e_7 => ?_)
    have h := h I_6 e_7
    refine aw_iconst (v := 1) dX10_floors_77 (by decide) ?_
    exact aw_zret rfl rfl dX10_floors_78 ⟨rfl, _, rfl, h⟩
  · have h := sw_if.t h c_1
    refine aw_aload_n 0 dX10_floors_44 rfl rfl ?_
    refine gf_X10_9 fl_X10_79 (lk140 hG) (lr140_9 hG) dX10_floors_45 ?_
    refine aw_iload_n 1 dX10_floors_48 rfl rfl ?_
    refine aw_iconst (v := 0) dX10_floors_49 (by decide) ?_
    obtain ⟨hi_8, h⟩ := h
    refine aw_ist dX10_floors_50 (lk144 hG) (ln144 hG) hi_8 (aw_nameI fun I_9 e_10 => ?_)
    have h := h I_9 e_10
    obtain ⟨y_11, e_12⟩ : ∃ q : Int32, q = x2 + 1 := ⟨_, rfl⟩
    have h := h y_11 e_12
    refine aw_iinc (lv' := [(2, .int y_11), (0, .ref (sz + 140))]) 1 dX10_floors_51 rfl (by rw [e_12]; rfl) (by decide) rfl ?_
    refine aw_goto 38 dX10_floors_54 (by decide) ?_
    refine aw_sub [1, 0] rfl ?_
    exact hK38 y_11 I_9 J h
set_option maxRecDepth 20000 in
theorem tl_X10_floors_38 {l : Launch} {D : va_G} {cy : Nat → ClassId} {sz : Nat} {G : sw_G} (hG : sw_lay G)   {Q : Int32 → sw_I → sw_J → Prop} : ∀ (n : Nat) (x2 : Int32) (I : sw_I) (J : sw_J), wl_X10_floors_38   Q n x2 I J → AW l D cy sz RX10 cX10_floors 3 (some .boolean) false rm_X10_floors 0 0 (sw_qi G Q) 0 0 G I J 38 [(0, .ref (sz + 140)), (2, .int x2)] [] := by
  intro n
  induction n with
  | zero => intro x2 I J h; exact False.elim h
  | succ n ih => intro x2 I J h; exact tb_X10_floors_38 hG  ih h
set_option maxRecDepth 20000 in
theorem t_X10_floors {l : Launch} {D : va_G} {cy : Nat → ClassId} {sz : Nat} {G : sw_G} (hG : sw_lay G)   {Q : Int32 → sw_I → sw_J → Prop} {x1 : Int32} {I : sw_I} {J : sw_J} (h : wp_X10_floors x1 I J Q) : AW l D cy sz RX10 cX10_floors 3 (some .boolean) false rm_X10_floors 0 0 (sw_qi G Q) 0 0 G I J 0 [(0, .ref (sz + 140)), (1, .int x1)] [] := by
  unfold wp_X10_floors at h
  refine aw_aload_n 0 dX10_floors_0 rfl rfl ?_
  refine aw_iconst (v := 0) dX10_floors_1 (by decide) ?_
  refine pf_X10_0 fl_X10_3 (lk140 hG) dX10_floors_2 (aw_nameI fun I_1 e_2 => ?_)
  have h := h I_1 e_2
  refine aw_iload_n 1 dX10_floors_5 rfl rfl ?_
  refine aw_i2l dX10_floors_6 ?_
  refine aw_ldc2 (v := 2) dX10_floors_7 k_X10_72 ?_
  refine aw_ldc2 (v := 9) dX10_floors_10 k_X10_74 ?_
  refine aw_callS wv_X10_in (M_X10_in trivial  h) ml_X10_25 rfl rfl (Nat.le_of_ble_eq_true rfl) ⟨rfl, rfl⟩ ⟨Nat.le_of_ble_eq_true rfl, Nat.le_of_ble_eq_true rfl⟩ ⟨Nat.le_refl _, Nat.le_refl _⟩ dX10_floors_13 (aw_ki fun r_3 I_4 J_5 h => ?_)
  refine aw_zne 21 dX10_floors_16 (by decide) (fun c_6 => ?_) (fun c_6 => ?_)
  · have h := sw_if.f h c_6
    refine aw_aload_n 0 dX10_floors_21 rfl rfl ?_
    refine aw_iload_n 1 dX10_floors_22 rfl rfl ?_
    refine pf_X10_3 fl_X10_22 (lk140 hG) dX10_floors_23 (aw_nameI fun I_7 e_8 => ?_)
    have h := h I_7 e_8
    refine aw_aload_n 0 dX10_floors_26 rfl rfl ?_
    refine aw_iconst (v := 0) dX10_floors_27 (by decide) ?_
    refine pf_X10_4 fl_X10_29 (lk140 hG) dX10_floors_28 (aw_nameI fun I_9 e_10 => ?_)
    have h := h I_9 e_10
    refine aw_aload_n 0 dX10_floors_31 rfl rfl ?_
    refine aw_iconst (v := (-1)) dX10_floors_32 (by decide) ?_
    refine pf_X10_5 fl_X10_76 (lk140 hG) dX10_floors_33 (aw_nameI fun I_11 e_12 => ?_)
    have h := h I_11 e_12
    refine aw_iconst (v := 0) dX10_floors_36 (by decide) ?_
    refine aw_istore_n (lv' := [(2, .int 0), (0, .ref (sz + 140)), (1, .int x1)]) dX10_floors_37 rfl (by decide) rfl ?_
    refine aw_sub [1, 0] rfl ?_
    obtain ⟨n_13, h⟩ := h
    exact tl_X10_floors_38 hG   n_13 0 I_11 J_5 h
  · have h := sw_if.t h c_6
    refine aw_iconst (v := 0) dX10_floors_19 (by decide) ?_
    exact aw_zret rfl rfl dX10_floors_20 ⟨rfl, _, rfl, h⟩
theorem M_X10_floors {l : Launch} {D : va_G} {cy : Nat → ClassId} {sz : Nat} {G : sw_G} (hG : sw_lay G)   {Q : Int32 → sw_I → sw_J → Prop} {x1 : Int32} {I : sw_I} {J : sw_J} (h : wp_X10_floors x1 I J Q) : Met l yX10_floors (Cond.code yX10_floors cX10_floors 3 (some .boolean) :: sw_T) rm_X10_floors (sw_Pc D cy sz [.ref (sz + 140), .int x1] G I J) (sw_Q D cy sz (sw_qi G Q)) 0 0 (fun q => sz ≤ q) :=
  sw_met (by decide) (fun q => by cases q) (Nat.le_of_ble_eq_true rfl) rfl (t_X10_floors hG  h)
-- X10_readsFloor
abbrev rm_X10_readsFloor : Room := { frames := 2, cells := 0, slots := 0, locals := 46 }
def wp_X10_readsFloor  (I : sw_I) (J : sw_J) (Q : Int32 → sw_I → sw_J → Prop) : Prop :=
  wp_X10_isDigit  I J (fun r_1 I_2 J_3 => sw_if (r_1 = 0) (Q (-1 : Int32) I_2 J_3) (vp_in (I_2 140 13) 80 ∧ wp_X10_isFloor ((I_2 146 (I_2 140 13).toNatClampNeg) - (48 : Int32)) I_2 J_3 (fun r_6 I_7 J_8 => sw_if (r_6 = 0) (Q (-1 : Int32) I_7 J_8) (∀ I_10 : sw_I, I_10 = sw_up I_7 140 13 ((I_7 140 13) + (1 : Int32)) → vp_in ((I_10 140 13) - (1 : Int32)) 80 ∧ Q ((I_10 146 ((I_10 140 13) - (1 : Int32)).toNatClampNeg) - (48 : Int32)) I_10 J_8))))
set_option maxRecDepth 20000 in
theorem t_X10_readsFloor {l : Launch} {D : va_G} {cy : Nat → ClassId} {sz : Nat} {G : sw_G} (hG : sw_lay G)   {Q : Int32 → sw_I → sw_J → Prop}  {I : sw_I} {J : sw_J} (h : wp_X10_readsFloor  I J Q) : AW l D cy sz RX10 cX10_readsFloor 1 (some .int) false rm_X10_readsFloor 0 0 (sw_qi G Q) 0 0 G I J 0 [(0, .ref (sz + 140))] [] := by
  unfold wp_X10_readsFloor at h
  refine aw_aload_n 0 dX10_readsFloor_0 rfl rfl ?_
  refine aw_callV wv_X10_isDigit (M_X10_isDigit hG  h) ml_X10_91 rfl (by decide) (lk140 hG) rfl rfl (Nat.le_of_ble_eq_true rfl) ⟨rfl, rfl⟩ ⟨Nat.le_of_ble_eq_true rfl, Nat.le_of_ble_eq_true rfl⟩ ⟨Nat.le_refl _, Nat.le_refl _⟩ dX10_readsFloor_1 (aw_ki fun r_1 I_2 J_3 h => ?_)
  refine aw_zeq 26 dX10_readsFloor_4 (by decide) (fun c_4 => ?_) (fun c_4 => ?_)
  · have h := sw_if.t h c_4
    refine aw_iconst (v := (-1)) dX10_readsFloor_26 (by decide) ?_
    exact aw_iret rfl dX10_readsFloor_27 ⟨rfl, _, rfl, h⟩
  · have h := sw_if.f h c_4
    refine aw_aload_n 0 dX10_readsFloor_7 rfl rfl ?_
    refine aw_aload_n 0 dX10_readsFloor_8 rfl rfl ?_
    refine gf_X10_11 fl_X10_35 (lk140 hG) (lr140_11 hG) dX10_readsFloor_9 ?_
    refine aw_aload_n 0 dX10_readsFloor_12 rfl rfl ?_
    refine gf_X10_13 fl_X10_39 (lk140 hG) dX10_readsFloor_13 ?_
    obtain ⟨hi_5, h⟩ := h
    refine aw_ild dX10_readsFloor_16 (lk146 hG) (ln146 hG) hi_5 ?_
    refine aw_bipush (v := 48) dX10_readsFloor_17 (by decide) ?_
    refine aw_isub dX10_readsFloor_19 ?_
    refine aw_callV wv_X10_isFloor (M_X10_isFloor hG  h) ml_X10_95 rfl (by decide) (lk140 hG) rfl rfl (Nat.le_of_ble_eq_true rfl) ⟨rfl, rfl⟩ ⟨Nat.le_of_ble_eq_true rfl, Nat.le_of_ble_eq_true rfl⟩ ⟨Nat.le_refl _, Nat.le_refl _⟩ dX10_readsFloor_20 (aw_ki fun r_6 I_7 J_8 h => ?_)
    refine aw_zne 28 dX10_readsFloor_23 (by decide) (fun c_9 => ?_) (fun c_9 => ?_)
    · have h := sw_if.f h c_9
      refine aw_aload_n 0 dX10_readsFloor_28 rfl rfl ?_
      refine aw_dup dX10_readsFloor_29 rfl ?_
      refine gf_X10_13 fl_X10_39 (lk140 hG) dX10_readsFloor_30 ?_
      refine aw_iconst (v := 1) dX10_readsFloor_33 (by decide) ?_
      refine aw_iadd dX10_readsFloor_34 ?_
      refine pf_X10_13 fl_X10_39 (lk140 hG) dX10_readsFloor_35 (aw_nameI fun I_10 e_11 => ?_)
      have h := h I_10 e_11
      refine aw_aload_n 0 dX10_readsFloor_38 rfl rfl ?_
      refine gf_X10_11 fl_X10_35 (lk140 hG) (lr140_11 hG) dX10_readsFloor_39 ?_
      refine aw_aload_n 0 dX10_readsFloor_42 rfl rfl ?_
      refine gf_X10_13 fl_X10_39 (lk140 hG) dX10_readsFloor_43 ?_
      refine aw_iconst (v := 1) dX10_readsFloor_46 (by decide) ?_
      refine aw_isub dX10_readsFloor_47 ?_
      obtain ⟨hi_12, h⟩ := h
      refine aw_ild dX10_readsFloor_48 (lk146 hG) (ln146 hG) hi_12 ?_
      refine aw_bipush (v := 48) dX10_readsFloor_49 (by decide) ?_
      refine aw_isub dX10_readsFloor_51 ?_
      exact aw_iret rfl dX10_readsFloor_52 ⟨rfl, _, rfl, h⟩
    · have h := sw_if.t h c_9
      refine aw_iconst (v := (-1)) dX10_readsFloor_26 (by decide) ?_
      exact aw_iret rfl dX10_readsFloor_27 ⟨rfl, _, rfl, h⟩
theorem M_X10_readsFloor {l : Launch} {D : va_G} {cy : Nat → ClassId} {sz : Nat} {G : sw_G} (hG : sw_lay G)   {Q : Int32 → sw_I → sw_J → Prop}  {I : sw_I} {J : sw_J} (h : wp_X10_readsFloor  I J Q) : Met l yX10_readsFloor (Cond.code yX10_readsFloor cX10_readsFloor 1 (some .int) :: sw_T) rm_X10_readsFloor (sw_Pc D cy sz [.ref (sz + 140)] G I J) (sw_Q D cy sz (sw_qi G Q)) 0 0 (fun q => sz ≤ q) :=
  sw_met (by decide) (fun q => by cases q) (Nat.le_of_ble_eq_true rfl) rfl (t_X10_readsFloor hG  h)
-- X10_readsRider
abbrev rm_X10_readsRider : Room := { frames := 3, cells := 0, slots := 0, locals := 66 }
def wB_X10_readsRider_154   (Q : Int32 → sw_I → sw_J → Prop)  (I : sw_I) (J : sw_J) : Prop :=
  ∀ I_1 : sw_I, I_1 = sw_up I 140 19 ((I 140 19) + (1 : Int32)) → Q 1 I_1 J
def wB_X10_readsRider_85   (Q : Int32 → sw_I → sw_J → Prop) (x1 : Int32) (I : sw_I) (J : sw_J) : Prop :=
  wp_X10_takes 64 I J (fun r_1 I_2 J_3 => sw_if (r_1 = 0) (Q 0 I_2 J_3) (wp_X10_readsFloor  I_2 J_3 (fun r_5 I_6 J_7 => vp_in x1 10 ∧ ∀ I_9 : sw_I, I_9 = sw_up I_6 149 x1.toNatClampNeg r_5 → vp_in x1 10 ∧ sw_if ((I_9 149 x1.toNatClampNeg) < 0) (Q 0 I_9 J_7) (vp_in x1 10 ∧ sw_if ((I_9 149 x1.toNatClampNeg) = (I_9 144 (31 : Int32).toNatClampNeg)) (wp_X10_takes 33 I_9 J_7 (fun r_16 I_17 J_18 => sw_if (r_16 = 0) (wB_X10_readsRider_154   Q  I_17 J_18) (∀ I_20 : sw_I, I_20 = sw_up I_17 140 20 ((I_17 140 20) ||| ((1 : Int32) <<< (x1 &&& 31))) → wB_X10_readsRider_154   Q  I_20 J_18))) (wB_X10_readsRider_154   Q  I_9 J_7)))))
def wp_X10_readsRider  (I : sw_I) (J : sw_J) (Q : Int32 → sw_I → sw_J → Prop) : Prop :=
  ∀ y_1 : Int32, y_1 = (I 140 4) + (I 140 19) → sw_if (y_1 = (10 : Int32)) (Q 0 I J) (wp_X10_readsFloor  I J (fun r_4 I_5 J_6 => vp_in y_1 10 ∧ ∀ I_8 : sw_I, I_8 = sw_up I_5 147 y_1.toNatClampNeg r_4 → vp_in y_1 10 ∧ sw_if ((I_8 147 y_1.toNatClampNeg) < 0) (Q 0 I_8 J_6) (wp_X10_takes 62 I_8 J_6 (fun r_12 I_13 J_14 => sw_if (r_12 = 0) (Q 0 I_13 J_14) (vp_in y_1 10 ∧ ∀ I_17 : sw_I, I_17 = sw_up I_13 148 y_1.toNatClampNeg (-1 : Int32) → wp_X10_takes 45 I_17 J_14 (fun r_19 I_20 J_21 => sw_if (r_19 = 0) (wp_X10_readsFloor  I_20 J_21 (fun r_23 I_24 J_25 => vp_in y_1 10 ∧ ∀ I_27 : sw_I, I_27 = sw_up I_24 148 y_1.toNatClampNeg r_23 → vp_in y_1 10 ∧ sw_if ((I_27 148 y_1.toNatClampNeg) < 0) (Q 0 I_27 J_25) (wB_X10_readsRider_85   Q y_1 I_27 J_25))) (wB_X10_readsRider_85   Q y_1 I_20 J_21)))))))
set_option maxRecDepth 20000 in
theorem t_X10_readsRider_154 {l : Launch} {D : va_G} {cy : Nat → ClassId} {sz : Nat} {G : sw_G} (hG : sw_lay G)   {Q : Int32 → sw_I → sw_J → Prop}  {I : sw_I} {J : sw_J} (h : wB_X10_readsRider_154   Q  I J) : AW l D cy sz RX10 cX10_readsRider 2 (some .boolean) false rm_X10_readsRider 0 0 (sw_qi G Q) 0 0 G I J 154 [(0, .ref (sz + 140))] [] := by
  unfold wB_X10_readsRider_154 at h
  refine aw_aload_n 0 dX10_readsRider_154 rfl rfl ?_
  refine aw_dup dX10_readsRider_155 rfl ?_
  refine gf_X10_19 fl_X10_99 (lk140 hG) dX10_readsRider_156 ?_
  refine aw_iconst (v := 1) dX10_readsRider_159 (by decide) ?_
  refine aw_iadd dX10_readsRider_160 ?_
  refine pf_X10_19 fl_X10_99 (lk140 hG) dX10_readsRider_161 (aw_nameI fun I_1 e_2 => ?_)
  have h := h I_1 e_2
  refine aw_iconst (v := 1) dX10_readsRider_164 (by decide) ?_
  exact aw_zret rfl rfl dX10_readsRider_165 ⟨rfl, _, rfl, h⟩
set_option maxRecDepth 20000 in
theorem t_X10_readsRider_85 {l : Launch} {D : va_G} {cy : Nat → ClassId} {sz : Nat} {G : sw_G} (hG : sw_lay G)   {Q : Int32 → sw_I → sw_J → Prop} {x1 : Int32} {I : sw_I} {J : sw_J} (h : wB_X10_readsRider_85   Q x1 I J) : AW l D cy sz RX10 cX10_readsRider 2 (some .boolean) false rm_X10_readsRider 0 0 (sw_qi G Q) 0 0 G I J 85 [(0, .ref (sz + 140)), (1, .int x1)] [] := by
  unfold wB_X10_readsRider_85 at h
  refine aw_aload_n 0 dX10_readsRider_85 rfl rfl ?_
  refine aw_bipush (v := 64) dX10_readsRider_86 (by decide) ?_
  refine aw_callV wv_X10_takes (M_X10_takes hG  h) ml_X10_108 rfl (by decide) (lk140 hG) rfl rfl (Nat.le_of_ble_eq_true rfl) ⟨rfl, rfl⟩ ⟨Nat.le_of_ble_eq_true rfl, Nat.le_of_ble_eq_true rfl⟩ ⟨Nat.le_refl _, Nat.le_refl _⟩ dX10_readsRider_88 (aw_ki fun r_1 I_2 J_3 h => ?_)
  refine aw_zne 96 dX10_readsRider_91 (by decide) (fun c_4 => ?_) (fun c_4 => ?_)
  · have h := sw_if.f h c_4
    refine aw_aload_n 0 dX10_readsRider_96 rfl rfl ?_
    refine gf_X10_18 fl_X10_114 (lk140 hG) (lr140_18 hG) dX10_readsRider_97 ?_
    refine aw_iload_n 1 dX10_readsRider_100 rfl rfl ?_
    refine aw_aload_n 0 dX10_readsRider_101 rfl rfl ?_
    refine aw_callV wv_X10_readsFloor (M_X10_readsFloor hG  h) ml_X10_105 rfl (by decide) (lk140 hG) rfl rfl (Nat.le_of_ble_eq_true rfl) ⟨rfl, rfl⟩ ⟨Nat.le_of_ble_eq_true rfl, Nat.le_of_ble_eq_true rfl⟩ ⟨Nat.le_refl _, Nat.le_refl _⟩ dX10_readsRider_102 (aw_ki fun r_5 I_6 J_7 h => ?_)
    obtain ⟨hi_8, h⟩ := h
    refine aw_ist dX10_readsRider_105 (lk149 hG) (ln149 hG) hi_8 (aw_nameI fun I_9 e_10 => ?_)
    have h := h I_9 e_10
    refine aw_aload_n 0 dX10_readsRider_106 rfl rfl ?_
    refine gf_X10_18 fl_X10_114 (lk140 hG) (lr140_18 hG) dX10_readsRider_107 ?_
    refine aw_iload_n 1 dX10_readsRider_110 rfl rfl ?_
    obtain ⟨hi_11, h⟩ := h
    refine aw_ild dX10_readsRider_111 (lk149 hG) (ln149 hG) hi_11 ?_
    refine aw_zge 117 dX10_readsRider_112 (by decide) (fun c_12 => ?_) (fun c_12 => ?_)
    · have h := sw_if.f h c_12
      refine aw_aload_n 0 dX10_readsRider_117 rfl rfl ?_
      refine gf_X10_18 fl_X10_114 (lk140 hG) (lr140_18 hG) dX10_readsRider_118 ?_
      refine aw_iload_n 1 dX10_readsRider_121 rfl rfl ?_
      obtain ⟨hi_13, h⟩ := h
      refine aw_ild dX10_readsRider_122 (lk149 hG) (ln149 hG) hi_13 ?_
      refine aw_aload_n 0 dX10_readsRider_123 rfl rfl ?_
      refine gf_X10_9 fl_X10_79 (lk140 hG) (lr140_9 hG) dX10_readsRider_124 ?_
      refine aw_bipush (v := 31) dX10_readsRider_127 (by decide) ?_
      refine aw_ild dX10_readsRider_129 (lk144 hG) (ln144 hG) (by unfold vp_in; decide) ?_
      refine aw_jne 154 dX10_readsRider_130 (by decide) (fun c_15 => ?_) (fun c_15 => ?_)
      · have h := sw_if.f h c_15
        refine aw_sub [0] rfl ?_
        exact t_X10_readsRider_154 hG   h
      · have h := sw_if.t h c_15
        refine aw_aload_n 0 dX10_readsRider_133 rfl rfl ?_
        refine aw_bipush (v := 33) dX10_readsRider_134 (by decide) ?_
        refine aw_callV wv_X10_takes (M_X10_takes hG  h) ml_X10_108 rfl (by decide) (lk140 hG) rfl rfl (Nat.le_of_ble_eq_true rfl) ⟨rfl, rfl⟩ ⟨Nat.le_of_ble_eq_true rfl, Nat.le_of_ble_eq_true rfl⟩ ⟨Nat.le_refl _, Nat.le_refl _⟩ dX10_readsRider_136 (aw_ki fun r_16 I_17 J_18 h => ?_)
        refine aw_zeq 154 dX10_readsRider_139 (by decide) (fun c_19 => ?_) (fun c_19 => ?_)
        · have h := sw_if.t h c_19
          refine aw_sub [0] rfl ?_
          exact t_X10_readsRider_154 hG   h
        · have h := sw_if.f h c_19
          refine aw_aload_n 0 dX10_readsRider_142 rfl rfl ?_
          refine aw_dup dX10_readsRider_143 rfl ?_
          refine gf_X10_20 fl_X10_117 (lk140 hG) dX10_readsRider_144 ?_
          refine aw_iconst (v := 1) dX10_readsRider_147 (by decide) ?_
          refine aw_iload_n 1 dX10_readsRider_148 rfl rfl ?_
          refine aw_ishl dX10_readsRider_149 ?_
          refine aw_ior dX10_readsRider_150 ?_
          refine pf_X10_20 fl_X10_117 (lk140 hG) dX10_readsRider_151 (aw_nameI fun I_20 e_21 => ?_)
          have h := h I_20 e_21
          refine aw_sub [0] rfl ?_
          exact t_X10_readsRider_154 hG   h
    · have h := sw_if.t h c_12
      refine aw_iconst (v := 0) dX10_readsRider_115 (by decide) ?_
      exact aw_zret rfl rfl dX10_readsRider_116 ⟨rfl, _, rfl, h⟩
  · have h := sw_if.t h c_4
    refine aw_iconst (v := 0) dX10_readsRider_94 (by decide) ?_
    exact aw_zret rfl rfl dX10_readsRider_95 ⟨rfl, _, rfl, h⟩
set_option maxRecDepth 20000 in
theorem t_X10_readsRider {l : Launch} {D : va_G} {cy : Nat → ClassId} {sz : Nat} {G : sw_G} (hG : sw_lay G)   {Q : Int32 → sw_I → sw_J → Prop}  {I : sw_I} {J : sw_J} (h : wp_X10_readsRider  I J Q) : AW l D cy sz RX10 cX10_readsRider 2 (some .boolean) false rm_X10_readsRider 0 0 (sw_qi G Q) 0 0 G I J 0 [(0, .ref (sz + 140))] [] := by
  unfold wp_X10_readsRider at h
  refine aw_aload_n 0 dX10_readsRider_0 rfl rfl ?_
  refine gf_X10_4 fl_X10_29 (lk140 hG) dX10_readsRider_1 ?_
  refine aw_aload_n 0 dX10_readsRider_4 rfl rfl ?_
  refine gf_X10_19 fl_X10_99 (lk140 hG) dX10_readsRider_5 ?_
  refine aw_iadd dX10_readsRider_8 ?_
  refine aw_topi (fun y_1 e_2 => ?_)
  have h := h y_1 e_2
  refine aw_istore_n (lv' := [(1, .int y_1), (0, .ref (sz + 140))]) dX10_readsRider_9 rfl (by decide) rfl ?_
  refine aw_iload_n 0 dX10_readsRider_10 rfl rfl ?_
  refine aw_bipush (v := 10) dX10_readsRider_11 (by decide) ?_
  refine aw_jne 18 dX10_readsRider_13 (by decide) (fun c_3 => ?_) (fun c_3 => ?_)
  · have h := sw_if.f h c_3
    refine aw_aload_n 1 dX10_readsRider_18 rfl rfl ?_
    refine gf_X10_16 fl_X10_102 (lk140 hG) (lr140_16 hG) dX10_readsRider_19 ?_
    refine aw_iload_n 0 dX10_readsRider_22 rfl rfl ?_
    refine aw_aload_n 1 dX10_readsRider_23 rfl rfl ?_
    refine aw_callV wv_X10_readsFloor (M_X10_readsFloor hG  h) ml_X10_105 rfl (by decide) (lk140 hG) rfl rfl (Nat.le_of_ble_eq_true rfl) ⟨rfl, rfl⟩ ⟨Nat.le_of_ble_eq_true rfl, Nat.le_of_ble_eq_true rfl⟩ ⟨Nat.le_refl _, Nat.le_refl _⟩ dX10_readsRider_24 (aw_ki fun r_4 I_5 J_6 h => ?_)
    obtain ⟨hi_7, h⟩ := h
    refine aw_ist dX10_readsRider_27 (lk147 hG) (ln147 hG) hi_7 (aw_nameI fun I_8 e_9 => ?_)
    have h := h I_8 e_9
    refine aw_aload_n 1 dX10_readsRider_28 rfl rfl ?_
    refine gf_X10_16 fl_X10_102 (lk140 hG) (lr140_16 hG) dX10_readsRider_29 ?_
    refine aw_iload_n 0 dX10_readsRider_32 rfl rfl ?_
    obtain ⟨hi_10, h⟩ := h
    refine aw_ild dX10_readsRider_33 (lk147 hG) (ln147 hG) hi_10 ?_
    refine aw_zlt 46 dX10_readsRider_34 (by decide) (fun c_11 => ?_) (fun c_11 => ?_)
    · have h := sw_if.t h c_11
      refine aw_iconst (v := 0) dX10_readsRider_46 (by decide) ?_
      exact aw_zret rfl rfl dX10_readsRider_47 ⟨rfl, _, rfl, h⟩
    · have h := sw_if.f h c_11
      refine aw_aload_n 1 dX10_readsRider_37 rfl rfl ?_
      refine aw_bipush (v := 62) dX10_readsRider_38 (by decide) ?_
      refine aw_callV wv_X10_takes (M_X10_takes hG  h) ml_X10_108 rfl (by decide) (lk140 hG) rfl rfl (Nat.le_of_ble_eq_true rfl) ⟨rfl, rfl⟩ ⟨Nat.le_of_ble_eq_true rfl, Nat.le_of_ble_eq_true rfl⟩ ⟨Nat.le_refl _, Nat.le_refl _⟩ dX10_readsRider_40 (aw_ki fun r_12 I_13 J_14 h => ?_)
      refine aw_zne 48 dX10_readsRider_43 (by decide) (fun c_15 => ?_) (fun c_15 => ?_)
      · have h := sw_if.f h c_15
        refine aw_aload_n 1 dX10_readsRider_48 rfl rfl ?_
        refine gf_X10_17 fl_X10_111 (lk140 hG) (lr140_17 hG) dX10_readsRider_49 ?_
        refine aw_iload_n 0 dX10_readsRider_52 rfl rfl ?_
        refine aw_iconst (v := (-1)) dX10_readsRider_53 (by decide) ?_
        obtain ⟨hi_16, h⟩ := h
        refine aw_ist dX10_readsRider_54 (lk148 hG) (ln148 hG) hi_16 (aw_nameI fun I_17 e_18 => ?_)
        have h := h I_17 e_18
        refine aw_aload_n 1 dX10_readsRider_55 rfl rfl ?_
        refine aw_bipush (v := 45) dX10_readsRider_56 (by decide) ?_
        refine aw_callV wv_X10_takes (M_X10_takes hG  h) ml_X10_108 rfl (by decide) (lk140 hG) rfl rfl (Nat.le_of_ble_eq_true rfl) ⟨rfl, rfl⟩ ⟨Nat.le_of_ble_eq_true rfl, Nat.le_of_ble_eq_true rfl⟩ ⟨Nat.le_refl _, Nat.le_refl _⟩ dX10_readsRider_58 (aw_ki fun r_19 I_20 J_21 h => ?_)
        refine aw_zne 85 dX10_readsRider_61 (by decide) (fun c_22 => ?_) (fun c_22 => ?_)
        · have h := sw_if.f h c_22
          refine aw_sub [1, 0] rfl ?_
          exact t_X10_readsRider_85 hG   h
        · have h := sw_if.t h c_22
          refine aw_aload_n 1 dX10_readsRider_64 rfl rfl ?_
          refine gf_X10_17 fl_X10_111 (lk140 hG) (lr140_17 hG) dX10_readsRider_65 ?_
          refine aw_iload_n 0 dX10_readsRider_68 rfl rfl ?_
          refine aw_aload_n 1 dX10_readsRider_69 rfl rfl ?_
          refine aw_callV wv_X10_readsFloor (M_X10_readsFloor hG  h) ml_X10_105 rfl (by decide) (lk140 hG) rfl rfl (Nat.le_of_ble_eq_true rfl) ⟨rfl, rfl⟩ ⟨Nat.le_of_ble_eq_true rfl, Nat.le_of_ble_eq_true rfl⟩ ⟨Nat.le_refl _, Nat.le_refl _⟩ dX10_readsRider_70 (aw_ki fun r_23 I_24 J_25 h => ?_)
          obtain ⟨hi_26, h⟩ := h
          refine aw_ist dX10_readsRider_73 (lk148 hG) (ln148 hG) hi_26 (aw_nameI fun I_27 e_28 => ?_)
          have h := h I_27 e_28
          refine aw_aload_n 1 dX10_readsRider_74 rfl rfl ?_
          refine gf_X10_17 fl_X10_111 (lk140 hG) (lr140_17 hG) dX10_readsRider_75 ?_
          refine aw_iload_n 0 dX10_readsRider_78 rfl rfl ?_
          obtain ⟨hi_29, h⟩ := h
          refine aw_ild dX10_readsRider_79 (lk148 hG) (ln148 hG) hi_29 ?_
          refine aw_zge 85 dX10_readsRider_80 (by decide) (fun c_30 => ?_) (fun c_30 => ?_)
          · have h := sw_if.f h c_30
            refine aw_sub [1, 0] rfl ?_
            exact t_X10_readsRider_85 hG   h
          · have h := sw_if.t h c_30
            refine aw_iconst (v := 0) dX10_readsRider_83 (by decide) ?_
            exact aw_zret rfl rfl dX10_readsRider_84 ⟨rfl, _, rfl, h⟩
      · have h := sw_if.t h c_15
        refine aw_iconst (v := 0) dX10_readsRider_46 (by decide) ?_
        exact aw_zret rfl rfl dX10_readsRider_47 ⟨rfl, _, rfl, h⟩
  · have h := sw_if.t h c_3
    refine aw_iconst (v := 0) dX10_readsRider_16 (by decide) ?_
    exact aw_zret rfl rfl dX10_readsRider_17 ⟨rfl, _, rfl, h⟩
theorem M_X10_readsRider {l : Launch} {D : va_G} {cy : Nat → ClassId} {sz : Nat} {G : sw_G} (hG : sw_lay G)   {Q : Int32 → sw_I → sw_J → Prop}  {I : sw_I} {J : sw_J} (h : wp_X10_readsRider  I J Q) : Met l yX10_readsRider (Cond.code yX10_readsRider cX10_readsRider 2 (some .boolean) :: sw_T) rm_X10_readsRider (sw_Pc D cy sz [.ref (sz + 140)] G I J) (sw_Q D cy sz (sw_qi G Q)) 0 0 (fun q => sz ≤ q) :=
  sw_met (by decide) (fun q => by cases q) (Nat.le_of_ble_eq_true rfl) rfl (t_X10_readsRider hG  h)
-- X10_comes
abbrev rm_X10_comes : Room := { frames := 0, cells := 0, slots := 0, locals := 0 }
def wp_X10_comes (x1 : Int32) (x2 : Int32) (x3 : Int32) (x4 : Int32) (I : sw_I) (J : sw_J) (Q : sw_I → sw_J → Prop) : Prop :=
  vp_in x1 10 ∧ ∀ I_2 : sw_I, I_2 = sw_up I 142 x1.toNatClampNeg x2 → vp_in x1 10 ∧ ∀ I_5 : sw_I, I_5 = sw_up I_2 143 x1.toNatClampNeg (10 : Int32) → vp_in x1 33 ∧ ∀ I_8 : sw_I, I_8 = sw_up I_5 144 x1.toNatClampNeg x4 → vp_in ((10 : Int32) + x1) 33 ∧ ∀ I_11 : sw_I, I_11 = sw_up I_8 144 ((10 : Int32) + x1).toNatClampNeg x3 → vp_in ((20 : Int32) + x1) 33 ∧ ∀ I_14 : sw_I, I_14 = sw_up I_11 144 ((20 : Int32) + x1).toNatClampNeg (0 : Int32) → Q I_14 J
set_option maxRecDepth 20000 in
theorem t_X10_comes {l : Launch} {D : va_G} {cy : Nat → ClassId} {sz : Nat} {G : sw_G} (hG : sw_lay G)   {Q : sw_I → sw_J → Prop} {x1 : Int32} {x2 : Int32} {x3 : Int32} {x4 : Int32} {I : sw_I} {J : sw_J} (h : wp_X10_comes x1 x2 x3 x4 I J Q) : AW l D cy sz RX10 cX10_comes 5 none false rm_X10_comes 0 0 (sw_qv G Q) 0 0 G I J 0 [(0, .ref (sz + 140)), (1, .int x1), (2, .int x2), (3, .int x3), (4, .int x4)] [] := by
  unfold wp_X10_comes at h
  refine aw_aload_n 0 dX10_comes_0 rfl rfl ?_
  refine gf_X10_7 fl_X10_135 (lk140 hG) (lr140_7 hG) dX10_comes_1 ?_
  refine aw_iload_n 1 dX10_comes_4 rfl rfl ?_
  refine aw_iload_n 2 dX10_comes_5 rfl rfl ?_
  obtain ⟨hi_1, h⟩ := h
  refine aw_ist dX10_comes_6 (lk142 hG) (ln142 hG) hi_1 (aw_nameI fun I_2 e_3 => ?_)
  have h := h I_2 e_3
  refine aw_aload_n 0 dX10_comes_7 rfl rfl ?_
  refine gf_X10_8 fl_X10_138 (lk140 hG) (lr140_8 hG) dX10_comes_8 ?_
  refine aw_iload_n 1 dX10_comes_11 rfl rfl ?_
  refine aw_bipush (v := 10) dX10_comes_12 (by decide) ?_
  obtain ⟨hi_4, h⟩ := h
  refine aw_ist dX10_comes_14 (lk143 hG) (ln143 hG) hi_4 (aw_nameI fun I_5 e_6 => ?_)
  have h := h I_5 e_6
  refine aw_aload_n 0 dX10_comes_15 rfl rfl ?_
  refine gf_X10_9 fl_X10_79 (lk140 hG) (lr140_9 hG) dX10_comes_16 ?_
  refine aw_iload_n 1 dX10_comes_19 rfl rfl ?_
  refine aw_iload 4 dX10_comes_20 rfl ?_
  obtain ⟨hi_7, h⟩ := h
  refine aw_ist dX10_comes_22 (lk144 hG) (ln144 hG) hi_7 (aw_nameI fun I_8 e_9 => ?_)
  have h := h I_8 e_9
  refine aw_aload_n 0 dX10_comes_23 rfl rfl ?_
  refine gf_X10_9 fl_X10_79 (lk140 hG) (lr140_9 hG) dX10_comes_24 ?_
  refine aw_bipush (v := 10) dX10_comes_27 (by decide) ?_
  refine aw_iload_n 1 dX10_comes_29 rfl rfl ?_
  refine aw_iadd dX10_comes_30 ?_
  refine aw_iload_n 3 dX10_comes_31 rfl rfl ?_
  obtain ⟨hi_10, h⟩ := h
  refine aw_ist dX10_comes_32 (lk144 hG) (ln144 hG) hi_10 (aw_nameI fun I_11 e_12 => ?_)
  have h := h I_11 e_12
  refine aw_aload_n 0 dX10_comes_33 rfl rfl ?_
  refine gf_X10_9 fl_X10_79 (lk140 hG) (lr140_9 hG) dX10_comes_34 ?_
  refine aw_bipush (v := 20) dX10_comes_37 (by decide) ?_
  refine aw_iload_n 1 dX10_comes_39 rfl rfl ?_
  refine aw_iadd dX10_comes_40 ?_
  refine aw_iconst (v := 0) dX10_comes_41 (by decide) ?_
  obtain ⟨hi_13, h⟩ := h
  refine aw_ist dX10_comes_42 (lk144 hG) (ln144 hG) hi_13 (aw_nameI fun I_14 e_15 => ?_)
  have h := h I_14 e_15
  exact aw_vret rfl dX10_comes_43 ⟨rfl, rfl, h⟩
theorem M_X10_comes {l : Launch} {D : va_G} {cy : Nat → ClassId} {sz : Nat} {G : sw_G} (hG : sw_lay G)   {Q : sw_I → sw_J → Prop} {x1 : Int32} {x2 : Int32} {x3 : Int32} {x4 : Int32} {I : sw_I} {J : sw_J} (h : wp_X10_comes x1 x2 x3 x4 I J Q) : Met l yX10_comes (Cond.code yX10_comes cX10_comes 5 none :: sw_T) rm_X10_comes (sw_Pc D cy sz [.ref (sz + 140), .int x1, .int x2, .int x3, .int x4] G I J) (sw_Q D cy sz (sw_qv G Q)) 0 0 (fun q => sz ≤ q) :=
  sw_met (by decide) (fun q => by cases q) (Nat.le_of_ble_eq_true rfl) rfl (t_X10_comes hG  h)
-- X10_codes
abbrev rm_X10_codes : Room := { frames := 0, cells := 0, slots := 0, locals := 0 }
def wp_X10_codes (x1 : Int32) (I : sw_I) (J : sw_J) (Q : sw_I → sw_J → Prop) : Prop :=
  vp_in (I 140 24) 80 ∧ ∀ I_2 : sw_I, I_2 = sw_up I 151 (I 140 24).toNatClampNeg x1 → ∀ I_4 : sw_I, I_4 = sw_up I_2 140 24 ((I_2 140 24) + (1 : Int32)) → Q I_4 J
set_option maxRecDepth 20000 in
theorem t_X10_codes {l : Launch} {D : va_G} {cy : Nat → ClassId} {sz : Nat} {G : sw_G} (hG : sw_lay G)   {Q : sw_I → sw_J → Prop} {x1 : Int32} {I : sw_I} {J : sw_J} (h : wp_X10_codes x1 I J Q) : AW l D cy sz RX10 cX10_codes 2 none false rm_X10_codes 0 0 (sw_qv G Q) 0 0 G I J 0 [(0, .ref (sz + 140)), (1, .int x1)] [] := by
  unfold wp_X10_codes at h
  refine aw_aload_n 0 dX10_codes_0 rfl rfl ?_
  refine gf_X10_22 fl_X10_141 (lk140 hG) (lr140_22 hG) dX10_codes_1 ?_
  refine aw_aload_n 0 dX10_codes_4 rfl rfl ?_
  refine gf_X10_24 fl_X10_144 (lk140 hG) dX10_codes_5 ?_
  refine aw_iload_n 1 dX10_codes_8 rfl rfl ?_
  obtain ⟨hi_1, h⟩ := h
  refine aw_ist dX10_codes_9 (lk151 hG) (ln151 hG) hi_1 (aw_nameI fun I_2 e_3 => ?_)
  have h := h I_2 e_3
  refine aw_aload_n 0 dX10_codes_10 rfl rfl ?_
  refine aw_dup dX10_codes_11 rfl ?_
  refine gf_X10_24 fl_X10_144 (lk140 hG) dX10_codes_12 ?_
  refine aw_iconst (v := 1) dX10_codes_15 (by decide) ?_
  refine aw_iadd dX10_codes_16 ?_
  refine pf_X10_24 fl_X10_144 (lk140 hG) dX10_codes_17 (aw_nameI fun I_4 e_5 => ?_)
  have h := h I_4 e_5
  exact aw_vret rfl dX10_codes_20 ⟨rfl, rfl, h⟩
theorem M_X10_codes {l : Launch} {D : va_G} {cy : Nat → ClassId} {sz : Nat} {G : sw_G} (hG : sw_lay G)   {Q : sw_I → sw_J → Prop} {x1 : Int32} {I : sw_I} {J : sw_J} (h : wp_X10_codes x1 I J Q) : Met l yX10_codes (Cond.code yX10_codes cX10_codes 2 none :: sw_T) rm_X10_codes (sw_Pc D cy sz [.ref (sz + 140), .int x1] G I J) (sw_Q D cy sz (sw_qv G Q)) 0 0 (fun q => sz ≤ q) :=
  sw_met (by decide) (fun q => by cases q) (Nat.le_of_ble_eq_true rfl) rfl (t_X10_codes hG  h)
-- X10_countsRides
abbrev rm_X10_countsRides : Room := { frames := 0, cells := 0, slots := 0, locals := 0 }
def wB_X10_countsRides_33  (K4 : Int32 → Int32 → sw_I → sw_J → Prop) (Q : Int32 → sw_I → sw_J → Prop) (x2 : Int32) (s0 : Int32) (I : sw_I) (J : sw_J) : Prop :=
  ∀ y_1 : Int32, y_1 = x2 + 1 → K4 s0 y_1 I J
def wB_X10_countsRides_28  (K4 : Int32 → Int32 → sw_I → sw_J → Prop) (Q : Int32 → sw_I → sw_J → Prop) (x2 : Int32) (I : sw_I) (J : sw_J) : Prop :=
  wB_X10_countsRides_33  K4 Q x2 1 I J
def wb_X10_countsRides_4  (K4 : Int32 → Int32 → sw_I → sw_J → Prop) (Q : Int32 → sw_I → sw_J → Prop) (x1 : Int32) (x2 : Int32) (I : sw_I) (J : sw_J) : Prop :=
  sw_if (x2 < (I 140 23)) (sw_if (x1 = 0) (vp_in x2 80 ∧ sw_if ((I 150 x2.toNatClampNeg) = (1005 : Int32)) (wB_X10_countsRides_28  K4 Q x2 I J) (wB_X10_countsRides_33  K4 Q x2 0 I J)) (wB_X10_countsRides_28  K4 Q x2 I J)) ((x1 = 0 ∨ x1 = 1) ∧ Q x1 I J)
def wl_X10_countsRides_4   (Q : Int32 → sw_I → sw_J → Prop) : Nat → Int32 → Int32 → sw_I → sw_J → Prop
  | 0 => fun _ _ _ _ => False
  | n + 1 => fun x1 x2 I J => wb_X10_countsRides_4  (wl_X10_countsRides_4   Q n) Q x1 x2 I J
def wp_X10_countsRides  (I : sw_I) (J : sw_J) (Q : Int32 → sw_I → sw_J → Prop) : Prop :=
  ∃ n_1 : Nat, wl_X10_countsRides_4   Q n_1 0 0 I J
set_option maxRecDepth 20000 in
theorem t_X10_countsRides_33 {l : Launch} {D : va_G} {cy : Nat → ClassId} {sz : Nat} {G : sw_G} (hG : sw_lay G)   {Q : Int32 → sw_I → sw_J → Prop} {K4 : Int32 → Int32 → sw_I → sw_J → Prop} (hK4 : ∀ (x1 : Int32) (x2 : Int32) (I : sw_I) (J : sw_J), K4 x1 x2 I J → AW l D cy sz RX10 cX10_countsRides 3 (some .boolean) false rm_X10_countsRides 0 0 (sw_qi G Q) 0 0 G I J 4 [(0, .ref (sz + 140)), (1, .int x1), (2, .int x2)] []) {x2 : Int32} {s0 : Int32} {I : sw_I} {J : sw_J} (h : wB_X10_countsRides_33  K4 Q x2 s0 I J) : AW l D cy sz RX10 cX10_countsRides 3 (some .boolean) false rm_X10_countsRides 0 0 (sw_qi G Q) 0 0 G I J 33 [(0, .ref (sz + 140)), (2, .int x2)] [.int s0] := by
  unfold wB_X10_countsRides_33 at h
  refine aw_istore_n (lv' := [(1, .int s0), (0, .ref (sz + 140)), (2, .int x2)]) dX10_countsRides_33 rfl (by decide) rfl ?_
  obtain ⟨y_1, e_2⟩ : ∃ q : Int32, q = x2 + 1 := ⟨_, rfl⟩
  have h := h y_1 e_2
  refine aw_iinc (lv' := [(2, .int y_1), (1, .int s0), (0, .ref (sz + 140))]) 2 dX10_countsRides_34 rfl (by rw [e_2]; rfl) (by decide) rfl ?_
  refine aw_goto 4 dX10_countsRides_37 (by decide) ?_
  refine aw_sub [2, 1, 0] rfl ?_
  exact hK4 s0 y_1 I J h
set_option maxRecDepth 20000 in
theorem t_X10_countsRides_28 {l : Launch} {D : va_G} {cy : Nat → ClassId} {sz : Nat} {G : sw_G} (hG : sw_lay G)   {Q : Int32 → sw_I → sw_J → Prop} {K4 : Int32 → Int32 → sw_I → sw_J → Prop} (hK4 : ∀ (x1 : Int32) (x2 : Int32) (I : sw_I) (J : sw_J), K4 x1 x2 I J → AW l D cy sz RX10 cX10_countsRides 3 (some .boolean) false rm_X10_countsRides 0 0 (sw_qi G Q) 0 0 G I J 4 [(0, .ref (sz + 140)), (1, .int x1), (2, .int x2)] []) {x2 : Int32} {I : sw_I} {J : sw_J} (h : wB_X10_countsRides_28  K4 Q x2 I J) : AW l D cy sz RX10 cX10_countsRides 3 (some .boolean) false rm_X10_countsRides 0 0 (sw_qi G Q) 0 0 G I J 28 [(0, .ref (sz + 140)), (2, .int x2)] [] := by
  unfold wB_X10_countsRides_28 at h
  refine aw_iconst (v := 1) dX10_countsRides_28 (by decide) ?_
  refine aw_goto 33 dX10_countsRides_29 (by decide) ?_
  refine aw_sub [0, 1] rfl ?_
  exact t_X10_countsRides_33 hG  hK4 h
set_option maxRecDepth 20000 in
theorem tb_X10_countsRides_4 {l : Launch} {D : va_G} {cy : Nat → ClassId} {sz : Nat} {G : sw_G} (hG : sw_lay G)   {Q : Int32 → sw_I → sw_J → Prop} {K4 : Int32 → Int32 → sw_I → sw_J → Prop} (hK4 : ∀ (x1 : Int32) (x2 : Int32) (I : sw_I) (J : sw_J), K4 x1 x2 I J → AW l D cy sz RX10 cX10_countsRides 3 (some .boolean) false rm_X10_countsRides 0 0 (sw_qi G Q) 0 0 G I J 4 [(0, .ref (sz + 140)), (1, .int x1), (2, .int x2)] []) {x1 : Int32} {x2 : Int32} {I : sw_I} {J : sw_J} (h : wb_X10_countsRides_4  K4 Q x1 x2 I J) : AW l D cy sz RX10 cX10_countsRides 3 (some .boolean) false rm_X10_countsRides 0 0 (sw_qi G Q) 0 0 G I J 4 [(0, .ref (sz + 140)), (1, .int x1), (2, .int x2)] [] := by
  unfold wb_X10_countsRides_4 at h
  refine aw_iload_n 2 dX10_countsRides_4 rfl rfl ?_
  refine aw_aload_n 0 dX10_countsRides_5 rfl rfl ?_
  refine gf_X10_23 fl_X10_169 (lk140 hG) dX10_countsRides_6 ?_
  refine aw_jge 40 dX10_countsRides_9 (by decide) (fun c_1 => ?_) (fun c_1 => ?_)
  · have h := sw_if.f h c_1
    refine aw_iload_n 1 dX10_countsRides_40 rfl rfl ?_
    exact aw_zret rfl (sw_bool h.1).1 dX10_countsRides_41 ⟨rfl, _, rfl, h.2⟩
  · have h := sw_if.t h c_1
    refine aw_iload_n 1 dX10_countsRides_12 rfl rfl ?_
    refine aw_zne 28 dX10_countsRides_13 (by decide) (fun c_2 => ?_) (fun c_2 => ?_)
    · have h := sw_if.f h c_2
      refine aw_sub [0, 2] rfl ?_
      exact t_X10_countsRides_28 hG  hK4 h
    · have h := sw_if.t h c_2
      refine aw_aload_n 0 dX10_countsRides_16 rfl rfl ?_
      refine gf_X10_21 fl_X10_172 (lk140 hG) (lr140_21 hG) dX10_countsRides_17 ?_
      refine aw_iload_n 2 dX10_countsRides_20 rfl rfl ?_
      obtain ⟨hi_3, h⟩ := h
      refine aw_ild dX10_countsRides_21 (lk150 hG) (ln150 hG) hi_3 ?_
      refine aw_sipush (v := 1005) dX10_countsRides_22 (by decide) ?_
      refine aw_jne 32 dX10_countsRides_25 (by decide) (fun c_4 => ?_) (fun c_4 => ?_)
      · have h := sw_if.f h c_4
        refine aw_iconst (v := 0) dX10_countsRides_32 (by decide) ?_
        refine aw_sub [0, 2] rfl ?_
        exact t_X10_countsRides_33 hG  hK4 h
      · have h := sw_if.t h c_4
        refine aw_sub [0, 2] rfl ?_
        exact t_X10_countsRides_28 hG  hK4 h
set_option maxRecDepth 20000 in
theorem tl_X10_countsRides_4 {l : Launch} {D : va_G} {cy : Nat → ClassId} {sz : Nat} {G : sw_G} (hG : sw_lay G)   {Q : Int32 → sw_I → sw_J → Prop} : ∀ (n : Nat) (x1 : Int32) (x2 : Int32) (I : sw_I) (J : sw_J), wl_X10_countsRides_4   Q n x1 x2 I J → AW l D cy sz RX10 cX10_countsRides 3 (some .boolean) false rm_X10_countsRides 0 0 (sw_qi G Q) 0 0 G I J 4 [(0, .ref (sz + 140)), (1, .int x1), (2, .int x2)] [] := by
  intro n
  induction n with
  | zero => intro x1 x2 I J h; exact False.elim h
  | succ n ih => intro x1 x2 I J h; exact tb_X10_countsRides_4 hG  ih h
set_option maxRecDepth 20000 in
theorem t_X10_countsRides {l : Launch} {D : va_G} {cy : Nat → ClassId} {sz : Nat} {G : sw_G} (hG : sw_lay G)   {Q : Int32 → sw_I → sw_J → Prop}  {I : sw_I} {J : sw_J} (h : wp_X10_countsRides  I J Q) : AW l D cy sz RX10 cX10_countsRides 3 (some .boolean) false rm_X10_countsRides 0 0 (sw_qi G Q) 0 0 G I J 0 [(0, .ref (sz + 140))] [] := by
  unfold wp_X10_countsRides at h
  refine aw_iconst (v := 0) dX10_countsRides_0 (by decide) ?_
  refine aw_istore_n (lv' := [(1, .int 0), (0, .ref (sz + 140))]) dX10_countsRides_1 rfl (by decide) rfl ?_
  refine aw_iconst (v := 0) dX10_countsRides_2 (by decide) ?_
  refine aw_istore_n (lv' := [(2, .int 0), (1, .int 0), (0, .ref (sz + 140))]) dX10_countsRides_3 rfl (by decide) rfl ?_
  refine aw_sub [2, 1, 0] rfl ?_
  obtain ⟨n_1, h⟩ := h
  exact tl_X10_countsRides_4 hG   n_1 0 0 I J h
theorem M_X10_countsRides {l : Launch} {D : va_G} {cy : Nat → ClassId} {sz : Nat} {G : sw_G} (hG : sw_lay G)   {Q : Int32 → sw_I → sw_J → Prop}  {I : sw_I} {J : sw_J} (h : wp_X10_countsRides  I J Q) : Met l yX10_countsRides (Cond.code yX10_countsRides cX10_countsRides 3 (some .boolean) :: sw_T) rm_X10_countsRides (sw_Pc D cy sz [.ref (sz + 140)] G I J) (sw_Q D cy sz (sw_qi G Q)) 0 0 (fun q => sz ≤ q) :=
  sw_met (by decide) (fun q => by cases q) (Nat.le_of_ble_eq_true rfl) rfl (t_X10_countsRides hG  h)
-- X10_thingOf
abbrev rm_X10_thingOf : Room := { frames := 1, cells := 0, slots := 0, locals := 21 }
def wp_X10_thingOf (x1 : Int32) (x2 : Int32) (I : sw_I) (J : sw_J) (Q : Int32 → sw_I → sw_J → Prop) : Prop :=
  sw_if (x2 = 0) (Q x1 I J) (sw_if (x2 = 1) (vp_in x1 9 ∧ Q (I 153 x1.toNatClampNeg) I J) (sw_if (x2 = 2) (Q (if 0 ≤ (x1 - (I 140 29)) then (x1 - (I 140 29)) else 0 - (x1 - (I 140 29))) I J) (sw_if (x2 = 3) (vp_in x1 9 ∧ Q (I 154 x1.toNatClampNeg) I J) (sw_if (x2 = 4) (Q (I 140 28) I J) (sw_if (x2 = 5) (Q (I 140 30) I J) (Q (I 140 29) I J))))))
set_option maxRecDepth 20000 in
theorem t_X10_thingOf {l : Launch} {D : va_G} {cy : Nat → ClassId} {sz : Nat} {G : sw_G} (hG : sw_lay G)   {Q : Int32 → sw_I → sw_J → Prop} {x1 : Int32} {x2 : Int32} {I : sw_I} {J : sw_J} (h : wp_X10_thingOf x1 x2 I J Q) : AW l D cy sz RX10 cX10_thingOf 3 (some .int) false rm_X10_thingOf 0 0 (sw_qi G Q) 0 0 G I J 0 [(0, .ref (sz + 140)), (1, .int x1), (2, .int x2)] [] := by
  unfold wp_X10_thingOf at h
  refine aw_iload_n 2 dX10_thingOf_0 rfl rfl ?_
  by_cases c_1 : x2 = 0
  · have h := sw_if.t h c_1; refine aw_tableIn 40 dX10_thingOf_1 (by rw [c_1]; decide) (by rw [c_1]; decide) (by rw [c_1]; rfl) (by decide) ?_
    refine aw_iload_n 1 dX10_thingOf_40 rfl rfl ?_
    exact aw_iret rfl dX10_thingOf_41 ⟨rfl, _, rfl, h⟩
  · have h := sw_if.f h c_1
    by_cases c_2 : x2 = 1
    · have h := sw_if.t h c_2; refine aw_tableIn 42 dX10_thingOf_1 (by rw [c_2]; decide) (by rw [c_2]; decide) (by rw [c_2]; rfl) (by decide) ?_
      refine aw_aload_n 0 dX10_thingOf_42 rfl rfl ?_
      refine gf_X10_26 fl_X10_189 (lk140 hG) (lr140_26 hG) dX10_thingOf_43 ?_
      refine aw_iload_n 1 dX10_thingOf_46 rfl rfl ?_
      obtain ⟨hi_3, h⟩ := h
      refine aw_ild dX10_thingOf_47 (lk153 hG) (ln153 hG) hi_3 ?_
      exact aw_iret rfl dX10_thingOf_48 ⟨rfl, _, rfl, h⟩
    · have h := sw_if.f h c_2
      by_cases c_4 : x2 = 2
      · have h := sw_if.t h c_4; refine aw_tableIn 49 dX10_thingOf_1 (by rw [c_4]; decide) (by rw [c_4]; decide) (by rw [c_4]; rfl) (by decide) ?_
        refine aw_iload_n 1 dX10_thingOf_49 rfl rfl ?_
        refine aw_aload_n 0 dX10_thingOf_50 rfl rfl ?_
        refine gf_X10_29 fl_X10_183 (lk140 hG) dX10_thingOf_51 ?_
        refine aw_isub dX10_thingOf_54 ?_
        refine aw_mabs mm_X10_199 wm_abs (Nat.le_of_ble_eq_true rfl) (Nat.le_of_ble_eq_true rfl) ⟨Nat.le_refl _, Nat.le_refl _⟩ dX10_thingOf_55 ?_
        exact aw_iret rfl dX10_thingOf_58 ⟨rfl, _, rfl, h⟩
      · have h := sw_if.f h c_4
        by_cases c_5 : x2 = 3
        · have h := sw_if.t h c_5; refine aw_tableIn 59 dX10_thingOf_1 (by rw [c_5]; decide) (by rw [c_5]; decide) (by rw [c_5]; rfl) (by decide) ?_
          refine aw_aload_n 0 dX10_thingOf_59 rfl rfl ?_
          refine gf_X10_27 fl_X10_192 (lk140 hG) (lr140_27 hG) dX10_thingOf_60 ?_
          refine aw_iload_n 1 dX10_thingOf_63 rfl rfl ?_
          obtain ⟨hi_6, h⟩ := h
          refine aw_ild dX10_thingOf_64 (lk154 hG) (ln154 hG) hi_6 ?_
          exact aw_iret rfl dX10_thingOf_65 ⟨rfl, _, rfl, h⟩
        · have h := sw_if.f h c_5
          by_cases c_7 : x2 = 4
          · have h := sw_if.t h c_7; refine aw_tableIn 66 dX10_thingOf_1 (by rw [c_7]; decide) (by rw [c_7]; decide) (by rw [c_7]; rfl) (by decide) ?_
            refine aw_aload_n 0 dX10_thingOf_66 rfl rfl ?_
            refine gf_X10_28 fl_X10_180 (lk140 hG) dX10_thingOf_67 ?_
            exact aw_iret rfl dX10_thingOf_70 ⟨rfl, _, rfl, h⟩
          · have h := sw_if.f h c_7
            by_cases c_8 : x2 = 5
            · have h := sw_if.t h c_8; refine aw_tableIn 71 dX10_thingOf_1 (by rw [c_8]; decide) (by rw [c_8]; decide) (by rw [c_8]; rfl) (by decide) ?_
              refine aw_aload_n 0 dX10_thingOf_71 rfl rfl ?_
              refine gf_X10_30 fl_X10_186 (lk140 hG) dX10_thingOf_72 ?_
              exact aw_iret rfl dX10_thingOf_75 ⟨rfl, _, rfl, h⟩
            · have h := sw_if.f h c_8
              refine aw_tableOut 76 dX10_thingOf_1 (by have g0 := sw_ne c_1 (by decide : (0 : Int32).toInt = 0); have g1 := sw_ne c_2 (by decide : (1 : Int32).toInt = 1); have g2 := sw_ne c_4 (by decide : (2 : Int32).toInt = 2); have g3 := sw_ne c_5 (by decide : (3 : Int32).toInt = 3); have g4 := sw_ne c_7 (by decide : (4 : Int32).toInt = 4); have g5 := sw_ne c_8 (by decide : (5 : Int32).toInt = 5); omega) (by decide) ?_
              refine aw_aload_n 0 dX10_thingOf_76 rfl rfl ?_
              refine gf_X10_29 fl_X10_183 (lk140 hG) dX10_thingOf_77 ?_
              exact aw_iret rfl dX10_thingOf_80 ⟨rfl, _, rfl, h⟩
theorem M_X10_thingOf {l : Launch} {D : va_G} {cy : Nat → ClassId} {sz : Nat} {G : sw_G} (hG : sw_lay G)   {Q : Int32 → sw_I → sw_J → Prop} {x1 : Int32} {x2 : Int32} {I : sw_I} {J : sw_J} (h : wp_X10_thingOf x1 x2 I J Q) : Met l yX10_thingOf (Cond.code yX10_thingOf cX10_thingOf 3 (some .int) :: sw_T) rm_X10_thingOf (sw_Pc D cy sz [.ref (sz + 140), .int x1, .int x2] G I J) (sw_Q D cy sz (sw_qi G Q)) 0 0 (fun q => sz ≤ q) :=
  sw_met (by decide) (fun q => by cases q) (Nat.le_of_ble_eq_true rfl) rfl (t_X10_thingOf hG  h)
-- X10_worked
abbrev rm_X10_worked : Room := { frames := 1, cells := 0, slots := 0, locals := 20 }
def wB_X10_worked_50   (Q : Int32 → sw_I → sw_J → Prop) (s0 : Int32) (I : sw_I) (J : sw_J) : Prop :=
  wp_X10_flag s0 I J (fun r_1 I_2 J_3 => Q r_1 I_2 J_3)
def wB_X10_worked_64   (Q : Int32 → sw_I → sw_J → Prop) (s0 : Int32) (I : sw_I) (J : sw_J) : Prop :=
  wp_X10_flag s0 I J (fun r_1 I_2 J_3 => Q r_1 I_2 J_3)
def wB_X10_worked_78   (Q : Int32 → sw_I → sw_J → Prop) (s0 : Int32) (I : sw_I) (J : sw_J) : Prop :=
  wp_X10_flag s0 I J (fun r_1 I_2 J_3 => Q r_1 I_2 J_3)
def wp_X10_worked (x0 : Int32) (x1 : Int32) (x2 : Int32) (I : sw_I) (J : sw_J) (Q : Int32 → sw_I → sw_J → Prop) : Prop :=
  sw_if (x0 = 0) (sw_if (x1 < x2) (wB_X10_worked_50   Q 1 I J) (wB_X10_worked_50   Q 0 I J)) (sw_if (x0 = 1) (sw_if (x2 < x1) (wB_X10_worked_64   Q 1 I J) (wB_X10_worked_64   Q 0 I J)) (sw_if (x0 = 2) (sw_if (x1 = x2) (wB_X10_worked_78   Q 1 I J) (wB_X10_worked_78   Q 0 I J)) (sw_if (x0 = 3) (Q (x1 + x2) I J) (sw_if (x0 = 4) (Q (x1 - x2) I J) (sw_if (x0 = 5) (Q (x1 * x2) I J) (sw_if (x2 = 0) (Q (0 : Int32) I J) (¬ x2 = 0 ∧ Q (x1 / x2) I J)))))))
set_option maxRecDepth 20000 in
theorem t_X10_worked_50 {l : Launch} {D : va_G} {cy : Nat → ClassId} {sz : Nat} {G : sw_G} (hG : True)   {Q : Int32 → sw_I → sw_J → Prop} {s0 : Int32} {I : sw_I} {J : sw_J} (h : wB_X10_worked_50   Q s0 I J) : AW l D cy sz RX10 cX10_worked 3 (some .int) false rm_X10_worked 0 0 (sw_qi G Q) 0 0 G I J 50 [] [.int s0] := by
  unfold wB_X10_worked_50 at h
  refine aw_callS wv_X10_flag (M_X10_flag trivial  h) ml_X10_54 rfl rfl (Nat.le_of_ble_eq_true rfl) ⟨rfl, rfl⟩ ⟨Nat.le_of_ble_eq_true rfl, Nat.le_of_ble_eq_true rfl⟩ ⟨Nat.le_refl _, Nat.le_refl _⟩ dX10_worked_50 (aw_ki fun r_1 I_2 J_3 h => ?_)
  exact aw_iret rfl dX10_worked_53 ⟨rfl, _, rfl, h⟩
set_option maxRecDepth 20000 in
theorem t_X10_worked_64 {l : Launch} {D : va_G} {cy : Nat → ClassId} {sz : Nat} {G : sw_G} (hG : True)   {Q : Int32 → sw_I → sw_J → Prop} {s0 : Int32} {I : sw_I} {J : sw_J} (h : wB_X10_worked_64   Q s0 I J) : AW l D cy sz RX10 cX10_worked 3 (some .int) false rm_X10_worked 0 0 (sw_qi G Q) 0 0 G I J 64 [] [.int s0] := by
  unfold wB_X10_worked_64 at h
  refine aw_callS wv_X10_flag (M_X10_flag trivial  h) ml_X10_54 rfl rfl (Nat.le_of_ble_eq_true rfl) ⟨rfl, rfl⟩ ⟨Nat.le_of_ble_eq_true rfl, Nat.le_of_ble_eq_true rfl⟩ ⟨Nat.le_refl _, Nat.le_refl _⟩ dX10_worked_64 (aw_ki fun r_1 I_2 J_3 h => ?_)
  exact aw_iret rfl dX10_worked_67 ⟨rfl, _, rfl, h⟩
set_option maxRecDepth 20000 in
theorem t_X10_worked_78 {l : Launch} {D : va_G} {cy : Nat → ClassId} {sz : Nat} {G : sw_G} (hG : True)   {Q : Int32 → sw_I → sw_J → Prop} {s0 : Int32} {I : sw_I} {J : sw_J} (h : wB_X10_worked_78   Q s0 I J) : AW l D cy sz RX10 cX10_worked 3 (some .int) false rm_X10_worked 0 0 (sw_qi G Q) 0 0 G I J 78 [] [.int s0] := by
  unfold wB_X10_worked_78 at h
  refine aw_callS wv_X10_flag (M_X10_flag trivial  h) ml_X10_54 rfl rfl (Nat.le_of_ble_eq_true rfl) ⟨rfl, rfl⟩ ⟨Nat.le_of_ble_eq_true rfl, Nat.le_of_ble_eq_true rfl⟩ ⟨Nat.le_refl _, Nat.le_refl _⟩ dX10_worked_78 (aw_ki fun r_1 I_2 J_3 h => ?_)
  exact aw_iret rfl dX10_worked_81 ⟨rfl, _, rfl, h⟩
set_option maxRecDepth 20000 in
theorem t_X10_worked {l : Launch} {D : va_G} {cy : Nat → ClassId} {sz : Nat} {G : sw_G} (hG : True)   {Q : Int32 → sw_I → sw_J → Prop} {x0 : Int32} {x1 : Int32} {x2 : Int32} {I : sw_I} {J : sw_J} (h : wp_X10_worked x0 x1 x2 I J Q) : AW l D cy sz RX10 cX10_worked 3 (some .int) false rm_X10_worked 0 0 (sw_qi G Q) 0 0 G I J 0 [(0, .int x0), (1, .int x1), (2, .int x2)] [] := by
  unfold wp_X10_worked at h
  refine aw_iload_n 0 dX10_worked_0 rfl rfl ?_
  by_cases c_1 : x0 = 0
  · have h := sw_if.t h c_1; refine aw_tableIn 40 dX10_worked_1 (by rw [c_1]; decide) (by rw [c_1]; decide) (by rw [c_1]; rfl) (by decide) ?_
    refine aw_iload_n 1 dX10_worked_40 rfl rfl ?_
    refine aw_iload_n 2 dX10_worked_41 rfl rfl ?_
    refine aw_jge 49 dX10_worked_42 (by decide) (fun c_2 => ?_) (fun c_2 => ?_)
    · have h := sw_if.f h c_2
      refine aw_iconst (v := 0) dX10_worked_49 (by decide) ?_
      refine aw_sub [] rfl ?_
      exact t_X10_worked_50 hG   h
    · have h := sw_if.t h c_2
      refine aw_iconst (v := 1) dX10_worked_45 (by decide) ?_
      refine aw_goto 50 dX10_worked_46 (by decide) ?_
      refine aw_sub [] rfl ?_
      exact t_X10_worked_50 hG   h
  · have h := sw_if.f h c_1
    by_cases c_3 : x0 = 1
    · have h := sw_if.t h c_3; refine aw_tableIn 54 dX10_worked_1 (by rw [c_3]; decide) (by rw [c_3]; decide) (by rw [c_3]; rfl) (by decide) ?_
      refine aw_iload_n 1 dX10_worked_54 rfl rfl ?_
      refine aw_iload_n 2 dX10_worked_55 rfl rfl ?_
      refine aw_jle 63 dX10_worked_56 (by decide) (fun c_4 => ?_) (fun c_4 => ?_)
      · have h := sw_if.f h c_4
        refine aw_iconst (v := 0) dX10_worked_63 (by decide) ?_
        refine aw_sub [] rfl ?_
        exact t_X10_worked_64 hG   h
      · have h := sw_if.t h c_4
        refine aw_iconst (v := 1) dX10_worked_59 (by decide) ?_
        refine aw_goto 64 dX10_worked_60 (by decide) ?_
        refine aw_sub [] rfl ?_
        exact t_X10_worked_64 hG   h
    · have h := sw_if.f h c_3
      by_cases c_5 : x0 = 2
      · have h := sw_if.t h c_5; refine aw_tableIn 68 dX10_worked_1 (by rw [c_5]; decide) (by rw [c_5]; decide) (by rw [c_5]; rfl) (by decide) ?_
        refine aw_iload_n 1 dX10_worked_68 rfl rfl ?_
        refine aw_iload_n 2 dX10_worked_69 rfl rfl ?_
        refine aw_jne 77 dX10_worked_70 (by decide) (fun c_6 => ?_) (fun c_6 => ?_)
        · have h := sw_if.f h c_6
          refine aw_iconst (v := 0) dX10_worked_77 (by decide) ?_
          refine aw_sub [] rfl ?_
          exact t_X10_worked_78 hG   h
        · have h := sw_if.t h c_6
          refine aw_iconst (v := 1) dX10_worked_73 (by decide) ?_
          refine aw_goto 78 dX10_worked_74 (by decide) ?_
          refine aw_sub [] rfl ?_
          exact t_X10_worked_78 hG   h
      · have h := sw_if.f h c_5
        by_cases c_7 : x0 = 3
        · have h := sw_if.t h c_7; refine aw_tableIn 82 dX10_worked_1 (by rw [c_7]; decide) (by rw [c_7]; decide) (by rw [c_7]; rfl) (by decide) ?_
          refine aw_iload_n 1 dX10_worked_82 rfl rfl ?_
          refine aw_iload_n 2 dX10_worked_83 rfl rfl ?_
          refine aw_iadd dX10_worked_84 ?_
          exact aw_iret rfl dX10_worked_85 ⟨rfl, _, rfl, h⟩
        · have h := sw_if.f h c_7
          by_cases c_8 : x0 = 4
          · have h := sw_if.t h c_8; refine aw_tableIn 86 dX10_worked_1 (by rw [c_8]; decide) (by rw [c_8]; decide) (by rw [c_8]; rfl) (by decide) ?_
            refine aw_iload_n 1 dX10_worked_86 rfl rfl ?_
            refine aw_iload_n 2 dX10_worked_87 rfl rfl ?_
            refine aw_isub dX10_worked_88 ?_
            exact aw_iret rfl dX10_worked_89 ⟨rfl, _, rfl, h⟩
          · have h := sw_if.f h c_8
            by_cases c_9 : x0 = 5
            · have h := sw_if.t h c_9; refine aw_tableIn 90 dX10_worked_1 (by rw [c_9]; decide) (by rw [c_9]; decide) (by rw [c_9]; rfl) (by decide) ?_
              refine aw_iload_n 1 dX10_worked_90 rfl rfl ?_
              refine aw_iload_n 2 dX10_worked_91 rfl rfl ?_
              refine aw_imul dX10_worked_92 ?_
              exact aw_iret rfl dX10_worked_93 ⟨rfl, _, rfl, h⟩
            · have h := sw_if.f h c_9
              refine aw_tableOut 94 dX10_worked_1 (by have g0 := sw_ne c_1 (by decide : (0 : Int32).toInt = 0); have g1 := sw_ne c_3 (by decide : (1 : Int32).toInt = 1); have g2 := sw_ne c_5 (by decide : (2 : Int32).toInt = 2); have g3 := sw_ne c_7 (by decide : (3 : Int32).toInt = 3); have g4 := sw_ne c_8 (by decide : (4 : Int32).toInt = 4); have g5 := sw_ne c_9 (by decide : (5 : Int32).toInt = 5); omega) (by decide) ?_
              refine aw_iload_n 2 dX10_worked_94 rfl rfl ?_
              refine aw_zne 102 dX10_worked_95 (by decide) (fun c_10 => ?_) (fun c_10 => ?_)
              · have h := sw_if.f h c_10
                refine aw_iload_n 1 dX10_worked_102 rfl rfl ?_
                refine aw_iload_n 2 dX10_worked_103 rfl rfl ?_
                obtain ⟨hz_11, h⟩ := h
                refine aw_idiv dX10_worked_104 hz_11 ?_
                exact aw_iret rfl dX10_worked_105 ⟨rfl, _, rfl, h⟩
              · have h := sw_if.t h c_10
                refine aw_iconst (v := 0) dX10_worked_98 (by decide) ?_
                refine aw_goto 105 dX10_worked_99 (by decide) ?_
                exact aw_iret rfl dX10_worked_105 ⟨rfl, _, rfl, h⟩
theorem M_X10_worked {l : Launch} {D : va_G} {cy : Nat → ClassId} {sz : Nat} {G : sw_G} (hG : True)   {Q : Int32 → sw_I → sw_J → Prop} {x0 : Int32} {x1 : Int32} {x2 : Int32} {I : sw_I} {J : sw_J} (h : wp_X10_worked x0 x1 x2 I J Q) : Met l yX10_worked (Cond.code yX10_worked cX10_worked 3 (some .int) :: sw_T) rm_X10_worked (sw_Pc D cy sz [.int x0, .int x1, .int x2] G I J) (sw_Q D cy sz (sw_qi G Q)) 0 0 (fun q => sz ≤ q) :=
  sw_met (by decide) (fun q => by cases q) (Nat.le_of_ble_eq_true rfl) rfl (t_X10_worked hG  h)
-- X10_lawFor
abbrev rm_X10_lawFor : Room := { frames := 2, cells := 0, slots := 0, locals := 43 }
def wB_X10_lawFor_140  (K18 : Int32 → Int32 → Int32 → sw_I → sw_J → Prop) (Q : Int32 → sw_I → sw_J → Prop) (x1 : Int32) (x2 : Int32) (x3 : Int32) (I : sw_I) (J : sw_J) : Prop :=
  ∀ y_1 : Int32, y_1 = x3 + 1 → K18 x1 x2 y_1 I J
def wB_X10_lawFor_136  (K18 : Int32 → Int32 → Int32 → sw_I → sw_J → Prop) (Q : Int32 → sw_I → sw_J → Prop) (x1 : Int32) (x2 : Int32) (x3 : Int32) (s1 : Int32) (s2 : Int32) (I : sw_I) (J : sw_J) : Prop :=
  vp_in s1 80 ∧ ∀ I_2 : sw_I, I_2 = sw_up I 152 s1.toNatClampNeg s2 → ∀ y_4 : Int32, y_4 = x2 + 1 → wB_X10_lawFor_140  K18 Q x1 y_4 x3 I_2 J
def wb_X10_lawFor_18  (K18 : Int32 → Int32 → Int32 → sw_I → sw_J → Prop) (Q : Int32 → sw_I → sw_J → Prop) (x1 : Int32) (x2 : Int32) (x3 : Int32) (I : sw_I) (J : sw_J) : Prop :=
  sw_if (x3 < (I 140 23)) (vp_in x3 80 ∧ ∀ y_4 : Int32, y_4 = (I 150 x3.toNatClampNeg) → sw_if (y_4 = (3000 : Int32)) (vp_in (x2 - (1 : Int32)) 80 ∧ vp_in (x2 - (1 : Int32)) 80 ∧ ∀ I_24 : sw_I, I_24 = sw_up I 152 (x2 - (1 : Int32)).toNatClampNeg (-(I 152 (x2 - (1 : Int32)).toNatClampNeg)) → wB_X10_lawFor_140  K18 Q x1 x2 x3 I_24 J) (sw_if (y_4 < (2000 : Int32)) (sw_if (y_4 < (1000 : Int32)) (wB_X10_lawFor_136  K18 Q x1 x2 x3 x2 y_4 I J) (wp_X10_thingOf x1 (y_4 - (1000 : Int32)) I J (fun r_9 I_10 J_11 => wB_X10_lawFor_136  K18 Q x1 x2 x3 x2 r_9 I_10 J_11))) (∀ y_12 : Int32, y_12 = x2 + (-1) → vp_in (y_12 - (1 : Int32)) 80 ∧ vp_in y_12 80 ∧ wp_X10_worked (y_4 - (2000 : Int32)) (I 152 (y_12 - (1 : Int32)).toNatClampNeg) (I 152 y_12.toNatClampNeg) I J (fun r_16 I_17 J_18 => vp_in (y_12 - (1 : Int32)) 80 ∧ ∀ I_20 : sw_I, I_20 = sw_up I_17 152 (y_12 - (1 : Int32)).toNatClampNeg r_16 → wB_X10_lawFor_140  K18 Q x1 y_12 x3 I_20 J_18)))) (Q (I 152 (0 : Int32).toNatClampNeg) I J)
def wl_X10_lawFor_18   (Q : Int32 → sw_I → sw_J → Prop) : Nat → Int32 → Int32 → Int32 → sw_I → sw_J → Prop
  | 0 => fun _ _ _ _ _ => False
  | n + 1 => fun x1 x2 x3 I J => wb_X10_lawFor_18  (wl_X10_lawFor_18   Q n) Q x1 x2 x3 I J
def wp_X10_lawFor (x1 : Int32) (I : sw_I) (J : sw_J) (Q : Int32 → sw_I → sw_J → Prop) : Prop :=
  sw_if ((I 140 23) = 0) (vp_in x1 9 ∧ Q (I 153 x1.toNatClampNeg) I J) (∃ n_2 : Nat, wl_X10_lawFor_18   Q n_2 x1 0 0 I J)
set_option maxRecDepth 20000 in
theorem t_X10_lawFor_140 {l : Launch} {D : va_G} {cy : Nat → ClassId} {sz : Nat} {G : sw_G} (hG : sw_lay G)   {Q : Int32 → sw_I → sw_J → Prop} {K18 : Int32 → Int32 → Int32 → sw_I → sw_J → Prop} (hK18 : ∀ (x1 : Int32) (x2 : Int32) (x3 : Int32) (I : sw_I) (J : sw_J), K18 x1 x2 x3 I J → AW l D cy sz RX10 cX10_lawFor 5 (some .int) false rm_X10_lawFor 0 0 (sw_qi G Q) 0 0 G I J 18 [(0, .ref (sz + 140)), (1, .int x1), (2, .int x2), (3, .int x3)] []) {x1 : Int32} {x2 : Int32} {x3 : Int32} {I : sw_I} {J : sw_J} (h : wB_X10_lawFor_140  K18 Q x1 x2 x3 I J) : AW l D cy sz RX10 cX10_lawFor 5 (some .int) false rm_X10_lawFor 0 0 (sw_qi G Q) 0 0 G I J 140 [(0, .ref (sz + 140)), (1, .int x1), (2, .int x2), (3, .int x3)] [] := by
  unfold wB_X10_lawFor_140 at h
  obtain ⟨y_1, e_2⟩ : ∃ q : Int32, q = x3 + 1 := ⟨_, rfl⟩
  have h := h y_1 e_2
  refine aw_iinc (lv' := [(3, .int y_1), (0, .ref (sz + 140)), (1, .int x1), (2, .int x2)]) 3 dX10_lawFor_140 rfl (by rw [e_2]; rfl) (by decide) rfl ?_
  refine aw_goto 18 dX10_lawFor_143 (by decide) ?_
  refine aw_sub [1, 2, 3, 0] rfl ?_
  exact hK18 x1 x2 y_1 I J h
set_option maxRecDepth 20000 in
theorem t_X10_lawFor_136 {l : Launch} {D : va_G} {cy : Nat → ClassId} {sz : Nat} {G : sw_G} (hG : sw_lay G)   {Q : Int32 → sw_I → sw_J → Prop} {K18 : Int32 → Int32 → Int32 → sw_I → sw_J → Prop} (hK18 : ∀ (x1 : Int32) (x2 : Int32) (x3 : Int32) (I : sw_I) (J : sw_J), K18 x1 x2 x3 I J → AW l D cy sz RX10 cX10_lawFor 5 (some .int) false rm_X10_lawFor 0 0 (sw_qi G Q) 0 0 G I J 18 [(0, .ref (sz + 140)), (1, .int x1), (2, .int x2), (3, .int x3)] []) {x1 : Int32} {x2 : Int32} {x3 : Int32} {s1 : Int32} {s2 : Int32} {I : sw_I} {J : sw_J} (h : wB_X10_lawFor_136  K18 Q x1 x2 x3 s1 s2 I J) : AW l D cy sz RX10 cX10_lawFor 5 (some .int) false rm_X10_lawFor 0 0 (sw_qi G Q) 0 0 G I J 136 [(0, .ref (sz + 140)), (1, .int x1), (2, .int x2), (3, .int x3)] [.int s2, .int s1, .ref (sz + 152)] := by
  unfold wB_X10_lawFor_136 at h
  obtain ⟨hi_1, h⟩ := h
  refine aw_ist dX10_lawFor_136 (lk152 hG) (ln152 hG) hi_1 (aw_nameI fun I_2 e_3 => ?_)
  have h := h I_2 e_3
  obtain ⟨y_4, e_5⟩ : ∃ q : Int32, q = x2 + 1 := ⟨_, rfl⟩
  have h := h y_4 e_5
  refine aw_iinc (lv' := [(2, .int y_4), (0, .ref (sz + 140)), (1, .int x1), (3, .int x3)]) 2 dX10_lawFor_137 rfl (by rw [e_5]; rfl) (by decide) rfl ?_
  refine aw_sub [1, 2, 0, 3] rfl ?_
  exact t_X10_lawFor_140 hG  hK18 h
set_option maxRecDepth 20000 in
theorem tb_X10_lawFor_18 {l : Launch} {D : va_G} {cy : Nat → ClassId} {sz : Nat} {G : sw_G} (hG : sw_lay G)   {Q : Int32 → sw_I → sw_J → Prop} {K18 : Int32 → Int32 → Int32 → sw_I → sw_J → Prop} (hK18 : ∀ (x1 : Int32) (x2 : Int32) (x3 : Int32) (I : sw_I) (J : sw_J), K18 x1 x2 x3 I J → AW l D cy sz RX10 cX10_lawFor 5 (some .int) false rm_X10_lawFor 0 0 (sw_qi G Q) 0 0 G I J 18 [(0, .ref (sz + 140)), (1, .int x1), (2, .int x2), (3, .int x3)] []) {x1 : Int32} {x2 : Int32} {x3 : Int32} {I : sw_I} {J : sw_J} (h : wb_X10_lawFor_18  K18 Q x1 x2 x3 I J) : AW l D cy sz RX10 cX10_lawFor 5 (some .int) false rm_X10_lawFor 0 0 (sw_qi G Q) 0 0 G I J 18 [(0, .ref (sz + 140)), (1, .int x1), (2, .int x2), (3, .int x3)] [] := by
  unfold wb_X10_lawFor_18 at h
  refine aw_iload_n 3 dX10_lawFor_18 rfl rfl ?_
  refine aw_aload_n 0 dX10_lawFor_19 rfl rfl ?_
  refine gf_X10_23 fl_X10_169 (lk140 hG) dX10_lawFor_20 ?_
  refine aw_jge 146 dX10_lawFor_23 (by decide) (fun c_1 => ?_) (fun c_1 => ?_)
  · have h := sw_if.f h c_1
    refine aw_aload_n 0 dX10_lawFor_146 rfl rfl ?_
    refine gf_X10_25 fl_X10_202 (lk140 hG) (lr140_25 hG) dX10_lawFor_147 ?_
    refine aw_iconst (v := 0) dX10_lawFor_150 (by decide) ?_
    refine aw_ild dX10_lawFor_151 (lk152 hG) (ln152 hG) (by unfold vp_in; decide) ?_
    exact aw_iret rfl dX10_lawFor_152 ⟨rfl, _, rfl, h⟩
  · have h := sw_if.t h c_1
    refine aw_aload_n 0 dX10_lawFor_26 rfl rfl ?_
    refine gf_X10_21 fl_X10_172 (lk140 hG) (lr140_21 hG) dX10_lawFor_27 ?_
    refine aw_iload_n 3 dX10_lawFor_30 rfl rfl ?_
    obtain ⟨hi_3, h⟩ := h
    refine aw_ild dX10_lawFor_31 (lk150 hG) (ln150 hG) hi_3 ?_
    refine aw_topi (fun y_4 e_5 => ?_)
    have h := h y_4 e_5
    refine aw_istore (lv' := [(4, .int y_4), (0, .ref (sz + 140)), (1, .int x1), (2, .int x2), (3, .int x3)]) dX10_lawFor_32 (by decide) rfl ?_
    refine aw_iload 0 dX10_lawFor_34 rfl ?_
    refine aw_sipush (v := 3000) dX10_lawFor_36 (by decide) ?_
    refine aw_jne 62 dX10_lawFor_39 (by decide) (fun c_6 => ?_) (fun c_6 => ?_)
    · have h := sw_if.f h c_6
      refine aw_iload 0 dX10_lawFor_62 rfl ?_
      refine aw_sipush (v := 2000) dX10_lawFor_64 (by decide) ?_
      refine aw_jlt 107 dX10_lawFor_67 (by decide) (fun c_7 => ?_) (fun c_7 => ?_)
      · have h := sw_if.t h c_7
        refine aw_aload_n 1 dX10_lawFor_107 rfl rfl ?_
        refine gf_X10_25 fl_X10_202 (lk140 hG) (lr140_25 hG) dX10_lawFor_108 ?_
        refine aw_iload_n 3 dX10_lawFor_111 rfl rfl ?_
        refine aw_iload 0 dX10_lawFor_112 rfl ?_
        refine aw_sipush (v := 1000) dX10_lawFor_114 (by decide) ?_
        refine aw_jlt 134 dX10_lawFor_117 (by decide) (fun c_8 => ?_) (fun c_8 => ?_)
        · have h := sw_if.t h c_8
          refine aw_iload 0 dX10_lawFor_134 rfl ?_
          refine aw_sub [1, 2, 3, 4] rfl ?_
          exact t_X10_lawFor_136 hG  hK18 h
        · have h := sw_if.f h c_8
          refine aw_aload_n 1 dX10_lawFor_120 rfl rfl ?_
          refine aw_iload_n 2 dX10_lawFor_121 rfl rfl ?_
          refine aw_iload 0 dX10_lawFor_122 rfl ?_
          refine aw_sipush (v := 1000) dX10_lawFor_124 (by decide) ?_
          refine aw_isub dX10_lawFor_127 ?_
          refine aw_callV wv_X10_thingOf (M_X10_thingOf hG  h) ml_X10_209 rfl (by decide) (lk140 hG) rfl rfl (Nat.le_of_ble_eq_true rfl) ⟨rfl, rfl⟩ ⟨Nat.le_of_ble_eq_true rfl, Nat.le_of_ble_eq_true rfl⟩ ⟨Nat.le_refl _, Nat.le_refl _⟩ dX10_lawFor_128 (aw_ki fun r_9 I_10 J_11 h => ?_)
          refine aw_goto 136 dX10_lawFor_131 (by decide) ?_
          refine aw_sub [1, 2, 3, 4] rfl ?_
          exact t_X10_lawFor_136 hG  hK18 h
      · have h := sw_if.f h c_7
        obtain ⟨y_12, e_13⟩ : ∃ q : Int32, q = x2 + (-1) := ⟨_, rfl⟩
        have h := h y_12 e_13
        refine aw_iinc (lv' := [(2, .int y_12), (4, .int y_4), (0, .ref (sz + 140)), (1, .int x1), (3, .int x3)]) 3 dX10_lawFor_70 rfl (by rw [e_13]; rfl) (by decide) rfl ?_
        refine aw_aload_n 2 dX10_lawFor_73 rfl rfl ?_
        refine gf_X10_25 fl_X10_202 (lk140 hG) (lr140_25 hG) dX10_lawFor_74 ?_
        refine aw_iload_n 0 dX10_lawFor_77 rfl rfl ?_
        refine aw_iconst (v := 1) dX10_lawFor_78 (by decide) ?_
        refine aw_isub dX10_lawFor_79 ?_
        refine aw_iload 1 dX10_lawFor_80 rfl ?_
        refine aw_sipush (v := 2000) dX10_lawFor_82 (by decide) ?_
        refine aw_isub dX10_lawFor_85 ?_
        refine aw_aload_n 2 dX10_lawFor_86 rfl rfl ?_
        refine gf_X10_25 fl_X10_202 (lk140 hG) (lr140_25 hG) dX10_lawFor_87 ?_
        refine aw_iload_n 0 dX10_lawFor_90 rfl rfl ?_
        refine aw_iconst (v := 1) dX10_lawFor_91 (by decide) ?_
        refine aw_isub dX10_lawFor_92 ?_
        obtain ⟨hi_14, h⟩ := h
        refine aw_ild dX10_lawFor_93 (lk152 hG) (ln152 hG) hi_14 ?_
        refine aw_aload_n 2 dX10_lawFor_94 rfl rfl ?_
        refine gf_X10_25 fl_X10_202 (lk140 hG) (lr140_25 hG) dX10_lawFor_95 ?_
        refine aw_iload_n 0 dX10_lawFor_98 rfl rfl ?_
        obtain ⟨hi_15, h⟩ := h
        refine aw_ild dX10_lawFor_99 (lk152 hG) (ln152 hG) hi_15 ?_
        refine aw_callS wv_X10_worked (M_X10_worked trivial  h) ml_X10_205 rfl rfl (Nat.le_of_ble_eq_true rfl) ⟨rfl, rfl⟩ ⟨Nat.le_of_ble_eq_true rfl, Nat.le_of_ble_eq_true rfl⟩ ⟨Nat.le_refl _, Nat.le_refl _⟩ dX10_lawFor_100 (aw_ki fun r_16 I_17 J_18 h => ?_)
        obtain ⟨hi_19, h⟩ := h
        refine aw_ist dX10_lawFor_103 (lk152 hG) (ln152 hG) hi_19 (aw_nameI fun I_20 e_21 => ?_)
        have h := h I_20 e_21
        refine aw_goto 140 dX10_lawFor_104 (by decide) ?_
        refine aw_sub [2, 3, 0, 4] rfl ?_
        exact t_X10_lawFor_140 hG  hK18 h
    · have h := sw_if.t h c_6
      refine aw_aload_n 1 dX10_lawFor_42 rfl rfl ?_
      refine gf_X10_25 fl_X10_202 (lk140 hG) (lr140_25 hG) dX10_lawFor_43 ?_
      refine aw_iload_n 3 dX10_lawFor_46 rfl rfl ?_
      refine aw_iconst (v := 1) dX10_lawFor_47 (by decide) ?_
      refine aw_isub dX10_lawFor_48 ?_
      refine aw_aload_n 1 dX10_lawFor_49 rfl rfl ?_
      refine gf_X10_25 fl_X10_202 (lk140 hG) (lr140_25 hG) dX10_lawFor_50 ?_
      refine aw_iload_n 3 dX10_lawFor_53 rfl rfl ?_
      refine aw_iconst (v := 1) dX10_lawFor_54 (by decide) ?_
      refine aw_isub dX10_lawFor_55 ?_
      obtain ⟨hi_22, h⟩ := h
      refine aw_ild dX10_lawFor_56 (lk152 hG) (ln152 hG) hi_22 ?_
      refine aw_ineg dX10_lawFor_57 ?_
      obtain ⟨hi_23, h⟩ := h
      refine aw_ist dX10_lawFor_58 (lk152 hG) (ln152 hG) hi_23 (aw_nameI fun I_24 e_25 => ?_)
      have h := h I_24 e_25
      refine aw_goto 140 dX10_lawFor_59 (by decide) ?_
      refine aw_sub [1, 2, 3, 4] rfl ?_
      exact t_X10_lawFor_140 hG  hK18 h
set_option maxRecDepth 20000 in
theorem tl_X10_lawFor_18 {l : Launch} {D : va_G} {cy : Nat → ClassId} {sz : Nat} {G : sw_G} (hG : sw_lay G)   {Q : Int32 → sw_I → sw_J → Prop} : ∀ (n : Nat) (x1 : Int32) (x2 : Int32) (x3 : Int32) (I : sw_I) (J : sw_J), wl_X10_lawFor_18   Q n x1 x2 x3 I J → AW l D cy sz RX10 cX10_lawFor 5 (some .int) false rm_X10_lawFor 0 0 (sw_qi G Q) 0 0 G I J 18 [(0, .ref (sz + 140)), (1, .int x1), (2, .int x2), (3, .int x3)] [] := by
  intro n
  induction n with
  | zero => intro x1 x2 x3 I J h; exact False.elim h
  | succ n ih => intro x1 x2 x3 I J h; exact tb_X10_lawFor_18 hG  ih h
set_option maxRecDepth 20000 in
theorem t_X10_lawFor {l : Launch} {D : va_G} {cy : Nat → ClassId} {sz : Nat} {G : sw_G} (hG : sw_lay G)   {Q : Int32 → sw_I → sw_J → Prop} {x1 : Int32} {I : sw_I} {J : sw_J} (h : wp_X10_lawFor x1 I J Q) : AW l D cy sz RX10 cX10_lawFor 5 (some .int) false rm_X10_lawFor 0 0 (sw_qi G Q) 0 0 G I J 0 [(0, .ref (sz + 140)), (1, .int x1)] [] := by
  unfold wp_X10_lawFor at h
  refine aw_aload_n 0 dX10_lawFor_0 rfl rfl ?_
  refine gf_X10_23 fl_X10_169 (lk140 hG) dX10_lawFor_1 ?_
  refine aw_zne 14 dX10_lawFor_4 (by decide) (fun c_1 => ?_) (fun c_1 => ?_)
  · have h := sw_if.f h c_1
    refine aw_iconst (v := 0) dX10_lawFor_14 (by decide) ?_
    refine aw_istore_n (lv' := [(2, .int 0), (0, .ref (sz + 140)), (1, .int x1)]) dX10_lawFor_15 rfl (by decide) rfl ?_
    refine aw_iconst (v := 0) dX10_lawFor_16 (by decide) ?_
    refine aw_istore_n (lv' := [(3, .int 0), (2, .int 0), (0, .ref (sz + 140)), (1, .int x1)]) dX10_lawFor_17 rfl (by decide) rfl ?_
    refine aw_sub [2, 3, 1, 0] rfl ?_
    obtain ⟨n_2, h⟩ := h
    exact tl_X10_lawFor_18 hG   n_2 x1 0 0 I J h
  · have h := sw_if.t h c_1
    refine aw_aload_n 0 dX10_lawFor_7 rfl rfl ?_
    refine gf_X10_26 fl_X10_189 (lk140 hG) (lr140_26 hG) dX10_lawFor_8 ?_
    refine aw_iload_n 1 dX10_lawFor_11 rfl rfl ?_
    obtain ⟨hi_3, h⟩ := h
    refine aw_ild dX10_lawFor_12 (lk153 hG) (ln153 hG) hi_3 ?_
    exact aw_iret rfl dX10_lawFor_13 ⟨rfl, _, rfl, h⟩
theorem M_X10_lawFor {l : Launch} {D : va_G} {cy : Nat → ClassId} {sz : Nat} {G : sw_G} (hG : sw_lay G)   {Q : Int32 → sw_I → sw_J → Prop} {x1 : Int32} {I : sw_I} {J : sw_J} (h : wp_X10_lawFor x1 I J Q) : Met l yX10_lawFor (Cond.code yX10_lawFor cX10_lawFor 5 (some .int) :: sw_T) rm_X10_lawFor (sw_Pc D cy sz [.ref (sz + 140), .int x1] G I J) (sw_Q D cy sz (sw_qi G Q)) 0 0 (fun q => sz ≤ q) :=
  sw_met (by decide) (fun q => by cases q) (Nat.le_of_ble_eq_true rfl) rfl (t_X10_lawFor hG  h)
-- X10_leastStop
abbrev rm_X10_leastStop : Room := { frames := 3, cells := 0, slots := 0, locals := 67 }
def wB_X10_leastStop_90  (K6 : Int32 → Int32 → Int32 → sw_I → sw_J → Prop) (Q : Int32 → sw_I → sw_J → Prop) (x1 : Int32) (x2 : Int32) (x3 : Int32) (I : sw_I) (J : sw_J) : Prop :=
  ∀ y_1 : Int32, y_1 = x3 + 1 → K6 x1 x2 y_1 I J
def wB_X10_leastStop_85  (K6 : Int32 → Int32 → Int32 → sw_I → sw_J → Prop) (Q : Int32 → sw_I → sw_J → Prop) (x3 : Int32) (x4 : Int32) (I : sw_I) (J : sw_J) : Prop :=
  wB_X10_leastStop_90  K6 Q x3 x4 x3 I J
def wB_X10_leastStop_68  (K6 : Int32 → Int32 → Int32 → sw_I → sw_J → Prop) (Q : Int32 → sw_I → sw_J → Prop) (x1 : Int32) (x2 : Int32) (x3 : Int32) (x4 : Int32) (s0 : Int32) (I : sw_I) (J : sw_J) : Prop :=
  sw_if (x1 < 0) (wB_X10_leastStop_85  K6 Q x3 x4 I J) (sw_if (x4 < x2) (wB_X10_leastStop_85  K6 Q x3 x4 I J) (sw_if (s0 = 0) (wB_X10_leastStop_90  K6 Q x1 x2 x3 I J) (wB_X10_leastStop_85  K6 Q x3 x4 I J)))
def wB_X10_leastStop_67  (K6 : Int32 → Int32 → Int32 → sw_I → sw_J → Prop) (Q : Int32 → sw_I → sw_J → Prop) (x1 : Int32) (x2 : Int32) (x3 : Int32) (x4 : Int32) (I : sw_I) (J : sw_J) : Prop :=
  wB_X10_leastStop_68  K6 Q x1 x2 x3 x4 0 I J
def wb_X10_leastStop_6  (K6 : Int32 → Int32 → Int32 → sw_I → sw_J → Prop) (Q : Int32 → sw_I → sw_J → Prop) (x1 : Int32) (x2 : Int32) (x3 : Int32) (I : sw_I) (J : sw_J) : Prop :=
  sw_if (x3 < (I 140 3)) (sw_if (x3 = (I 140 29)) (wB_X10_leastStop_90  K6 Q x1 x2 x3 I J) (wp_X10_lawFor x3 I J (fun r_3 I_4 J_5 => sw_if (x1 < 0) (wB_X10_leastStop_67  K6 Q x1 x2 x3 r_3 I_4 J_5) (sw_if (r_3 = x2) (sw_if ((if 0 ≤ (x3 - (I_4 140 29)) then (x3 - (I_4 140 29)) else 0 - (x3 - (I_4 140 29))) < (if 0 ≤ (x1 - (I_4 140 29)) then (x1 - (I_4 140 29)) else 0 - (x1 - (I_4 140 29)))) (wB_X10_leastStop_68  K6 Q x1 x2 x3 r_3 1 I_4 J_5) (wB_X10_leastStop_67  K6 Q x1 x2 x3 r_3 I_4 J_5)) (wB_X10_leastStop_67  K6 Q x1 x2 x3 r_3 I_4 J_5))))) (Q x1 I J)
def wl_X10_leastStop_6   (Q : Int32 → sw_I → sw_J → Prop) : Nat → Int32 → Int32 → Int32 → sw_I → sw_J → Prop
  | 0 => fun _ _ _ _ _ => False
  | n + 1 => fun x1 x2 x3 I J => wb_X10_leastStop_6  (wl_X10_leastStop_6   Q n) Q x1 x2 x3 I J
def wp_X10_leastStop  (I : sw_I) (J : sw_J) (Q : Int32 → sw_I → sw_J → Prop) : Prop :=
  ∃ n_1 : Nat, wl_X10_leastStop_6   Q n_1 (-1) 0 0 I J
set_option maxRecDepth 20000 in
theorem t_X10_leastStop_90 {l : Launch} {D : va_G} {cy : Nat → ClassId} {sz : Nat} {G : sw_G} (hG : sw_lay G)   {Q : Int32 → sw_I → sw_J → Prop} {K6 : Int32 → Int32 → Int32 → sw_I → sw_J → Prop} (hK6 : ∀ (x1 : Int32) (x2 : Int32) (x3 : Int32) (I : sw_I) (J : sw_J), K6 x1 x2 x3 I J → AW l D cy sz RX10 cX10_leastStop 6 (some .int) false rm_X10_leastStop 0 0 (sw_qi G Q) 0 0 G I J 6 [(0, .ref (sz + 140)), (1, .int x1), (2, .int x2), (3, .int x3)] []) {x1 : Int32} {x2 : Int32} {x3 : Int32} {I : sw_I} {J : sw_J} (h : wB_X10_leastStop_90  K6 Q x1 x2 x3 I J) : AW l D cy sz RX10 cX10_leastStop 6 (some .int) false rm_X10_leastStop 0 0 (sw_qi G Q) 0 0 G I J 90 [(0, .ref (sz + 140)), (1, .int x1), (2, .int x2), (3, .int x3)] [] := by
  unfold wB_X10_leastStop_90 at h
  obtain ⟨y_1, e_2⟩ : ∃ q : Int32, q = x3 + 1 := ⟨_, rfl⟩
  have h := h y_1 e_2
  refine aw_iinc (lv' := [(3, .int y_1), (0, .ref (sz + 140)), (1, .int x1), (2, .int x2)]) 3 dX10_leastStop_90 rfl (by rw [e_2]; rfl) (by decide) rfl ?_
  refine aw_goto 6 dX10_leastStop_93 (by decide) ?_
  refine aw_sub [1, 2, 3, 0] rfl ?_
  exact hK6 x1 x2 y_1 I J h
set_option maxRecDepth 20000 in
theorem t_X10_leastStop_85 {l : Launch} {D : va_G} {cy : Nat → ClassId} {sz : Nat} {G : sw_G} (hG : sw_lay G)   {Q : Int32 → sw_I → sw_J → Prop} {K6 : Int32 → Int32 → Int32 → sw_I → sw_J → Prop} (hK6 : ∀ (x1 : Int32) (x2 : Int32) (x3 : Int32) (I : sw_I) (J : sw_J), K6 x1 x2 x3 I J → AW l D cy sz RX10 cX10_leastStop 6 (some .int) false rm_X10_leastStop 0 0 (sw_qi G Q) 0 0 G I J 6 [(0, .ref (sz + 140)), (1, .int x1), (2, .int x2), (3, .int x3)] []) {x3 : Int32} {x4 : Int32} {I : sw_I} {J : sw_J} (h : wB_X10_leastStop_85  K6 Q x3 x4 I J) : AW l D cy sz RX10 cX10_leastStop 6 (some .int) false rm_X10_leastStop 0 0 (sw_qi G Q) 0 0 G I J 85 [(0, .ref (sz + 140)), (3, .int x3), (4, .int x4)] [] := by
  unfold wB_X10_leastStop_85 at h
  refine aw_iload_n 1 dX10_leastStop_85 rfl rfl ?_
  refine aw_istore_n (lv' := [(1, .int x3), (0, .ref (sz + 140)), (3, .int x3), (4, .int x4)]) dX10_leastStop_86 rfl (by decide) rfl ?_
  refine aw_iload 3 dX10_leastStop_87 rfl ?_
  refine aw_istore_n (lv' := [(2, .int x4), (1, .int x3), (0, .ref (sz + 140)), (3, .int x3), (4, .int x4)]) dX10_leastStop_89 rfl (by decide) rfl ?_
  refine aw_sub [2, 1, 0, 3] rfl ?_
  exact t_X10_leastStop_90 hG  hK6 h
set_option maxRecDepth 20000 in
theorem t_X10_leastStop_68 {l : Launch} {D : va_G} {cy : Nat → ClassId} {sz : Nat} {G : sw_G} (hG : sw_lay G)   {Q : Int32 → sw_I → sw_J → Prop} {K6 : Int32 → Int32 → Int32 → sw_I → sw_J → Prop} (hK6 : ∀ (x1 : Int32) (x2 : Int32) (x3 : Int32) (I : sw_I) (J : sw_J), K6 x1 x2 x3 I J → AW l D cy sz RX10 cX10_leastStop 6 (some .int) false rm_X10_leastStop 0 0 (sw_qi G Q) 0 0 G I J 6 [(0, .ref (sz + 140)), (1, .int x1), (2, .int x2), (3, .int x3)] []) {x1 : Int32} {x2 : Int32} {x3 : Int32} {x4 : Int32} {s0 : Int32} {I : sw_I} {J : sw_J} (h : wB_X10_leastStop_68  K6 Q x1 x2 x3 x4 s0 I J) : AW l D cy sz RX10 cX10_leastStop 6 (some .int) false rm_X10_leastStop 0 0 (sw_qi G Q) 0 0 G I J 68 [(0, .ref (sz + 140)), (1, .int x1), (2, .int x2), (3, .int x3), (4, .int x4)] [.int s0] := by
  unfold wB_X10_leastStop_68 at h
  refine aw_istore (lv' := [(5, .int s0), (0, .ref (sz + 140)), (1, .int x1), (2, .int x2), (3, .int x3), (4, .int x4)]) dX10_leastStop_68 (by decide) rfl ?_
  refine aw_iload_n 2 dX10_leastStop_70 rfl rfl ?_
  refine aw_zlt 85 dX10_leastStop_71 (by decide) (fun c_1 => ?_) (fun c_1 => ?_)
  · have h := sw_if.t h c_1
    refine aw_sub [1, 4, 5] rfl ?_
    exact t_X10_leastStop_85 hG  hK6 h
  · have h := sw_if.f h c_1
    refine aw_iload 5 dX10_leastStop_74 rfl ?_
    refine aw_iload_n 3 dX10_leastStop_76 rfl rfl ?_
    refine aw_jlt 85 dX10_leastStop_77 (by decide) (fun c_2 => ?_) (fun c_2 => ?_)
    · have h := sw_if.t h c_2
      refine aw_sub [1, 4, 5] rfl ?_
      exact t_X10_leastStop_85 hG  hK6 h
    · have h := sw_if.f h c_2
      refine aw_iload 0 dX10_leastStop_80 rfl ?_
      refine aw_zeq 90 dX10_leastStop_82 (by decide) (fun c_3 => ?_) (fun c_3 => ?_)
      · have h := sw_if.t h c_3
        refine aw_sub [1, 2, 3, 4] rfl ?_
        exact t_X10_leastStop_90 hG  hK6 h
      · have h := sw_if.f h c_3
        refine aw_sub [1, 4, 5] rfl ?_
        exact t_X10_leastStop_85 hG  hK6 h
set_option maxRecDepth 20000 in
theorem t_X10_leastStop_67 {l : Launch} {D : va_G} {cy : Nat → ClassId} {sz : Nat} {G : sw_G} (hG : sw_lay G)   {Q : Int32 → sw_I → sw_J → Prop} {K6 : Int32 → Int32 → Int32 → sw_I → sw_J → Prop} (hK6 : ∀ (x1 : Int32) (x2 : Int32) (x3 : Int32) (I : sw_I) (J : sw_J), K6 x1 x2 x3 I J → AW l D cy sz RX10 cX10_leastStop 6 (some .int) false rm_X10_leastStop 0 0 (sw_qi G Q) 0 0 G I J 6 [(0, .ref (sz + 140)), (1, .int x1), (2, .int x2), (3, .int x3)] []) {x1 : Int32} {x2 : Int32} {x3 : Int32} {x4 : Int32} {I : sw_I} {J : sw_J} (h : wB_X10_leastStop_67  K6 Q x1 x2 x3 x4 I J) : AW l D cy sz RX10 cX10_leastStop 6 (some .int) false rm_X10_leastStop 0 0 (sw_qi G Q) 0 0 G I J 67 [(0, .ref (sz + 140)), (1, .int x1), (2, .int x2), (3, .int x3), (4, .int x4)] [] := by
  unfold wB_X10_leastStop_67 at h
  refine aw_iconst (v := 0) dX10_leastStop_67 (by decide) ?_
  refine aw_sub [0, 1, 2, 3, 4] rfl ?_
  exact t_X10_leastStop_68 hG  hK6 h
set_option maxRecDepth 20000 in
theorem tb_X10_leastStop_6 {l : Launch} {D : va_G} {cy : Nat → ClassId} {sz : Nat} {G : sw_G} (hG : sw_lay G)   {Q : Int32 → sw_I → sw_J → Prop} {K6 : Int32 → Int32 → Int32 → sw_I → sw_J → Prop} (hK6 : ∀ (x1 : Int32) (x2 : Int32) (x3 : Int32) (I : sw_I) (J : sw_J), K6 x1 x2 x3 I J → AW l D cy sz RX10 cX10_leastStop 6 (some .int) false rm_X10_leastStop 0 0 (sw_qi G Q) 0 0 G I J 6 [(0, .ref (sz + 140)), (1, .int x1), (2, .int x2), (3, .int x3)] []) {x1 : Int32} {x2 : Int32} {x3 : Int32} {I : sw_I} {J : sw_J} (h : wb_X10_leastStop_6  K6 Q x1 x2 x3 I J) : AW l D cy sz RX10 cX10_leastStop 6 (some .int) false rm_X10_leastStop 0 0 (sw_qi G Q) 0 0 G I J 6 [(0, .ref (sz + 140)), (1, .int x1), (2, .int x2), (3, .int x3)] [] := by
  unfold wb_X10_leastStop_6 at h
  refine aw_iload_n 3 dX10_leastStop_6 rfl rfl ?_
  refine aw_aload_n 0 dX10_leastStop_7 rfl rfl ?_
  refine gf_X10_3 fl_X10_22 (lk140 hG) dX10_leastStop_8 ?_
  refine aw_jge 96 dX10_leastStop_11 (by decide) (fun c_1 => ?_) (fun c_1 => ?_)
  · have h := sw_if.f h c_1
    refine aw_iload_n 1 dX10_leastStop_96 rfl rfl ?_
    exact aw_iret rfl dX10_leastStop_97 ⟨rfl, _, rfl, h⟩
  · have h := sw_if.t h c_1
    refine aw_iload_n 3 dX10_leastStop_14 rfl rfl ?_
    refine aw_aload_n 0 dX10_leastStop_15 rfl rfl ?_
    refine gf_X10_29 fl_X10_183 (lk140 hG) dX10_leastStop_16 ?_
    refine aw_jne 25 dX10_leastStop_19 (by decide) (fun c_2 => ?_) (fun c_2 => ?_)
    · have h := sw_if.f h c_2
      refine aw_aload_n 0 dX10_leastStop_25 rfl rfl ?_
      refine aw_iload_n 3 dX10_leastStop_26 rfl rfl ?_
      refine aw_callV wv_X10_lawFor (M_X10_lawFor hG  h) ml_X10_212 rfl (by decide) (lk140 hG) rfl rfl (Nat.le_of_ble_eq_true rfl) ⟨rfl, rfl⟩ ⟨Nat.le_of_ble_eq_true rfl, Nat.le_of_ble_eq_true rfl⟩ ⟨Nat.le_refl _, Nat.le_refl _⟩ dX10_leastStop_27 (aw_ki fun r_3 I_4 J_5 h => ?_)
      refine aw_istore (lv' := [(4, .int r_3), (0, .ref (sz + 140)), (1, .int x1), (2, .int x2), (3, .int x3)]) dX10_leastStop_30 (by decide) rfl ?_
      refine aw_iload_n 2 dX10_leastStop_32 rfl rfl ?_
      refine aw_zlt 67 dX10_leastStop_33 (by decide) (fun c_6 => ?_) (fun c_6 => ?_)
      · have h := sw_if.t h c_6
        refine aw_sub [1, 2, 3, 4, 0] rfl ?_
        exact t_X10_leastStop_67 hG  hK6 h
      · have h := sw_if.f h c_6
        refine aw_iload 0 dX10_leastStop_36 rfl ?_
        refine aw_iload_n 3 dX10_leastStop_38 rfl rfl ?_
        refine aw_jne 67 dX10_leastStop_39 (by decide) (fun c_7 => ?_) (fun c_7 => ?_)
        · have h := sw_if.f h c_7
          refine aw_sub [1, 2, 3, 4, 0] rfl ?_
          exact t_X10_leastStop_67 hG  hK6 h
        · have h := sw_if.t h c_7
          refine aw_iload_n 4 dX10_leastStop_42 rfl rfl ?_
          refine aw_aload_n 1 dX10_leastStop_43 rfl rfl ?_
          refine gf_X10_29 fl_X10_183 (lk140 hG) dX10_leastStop_44 ?_
          refine aw_isub dX10_leastStop_47 ?_
          refine aw_mabs mm_X10_199 wm_abs (Nat.le_of_ble_eq_true rfl) (Nat.le_of_ble_eq_true rfl) ⟨Nat.le_refl _, Nat.le_refl _⟩ dX10_leastStop_48 ?_
          refine aw_iload_n 2 dX10_leastStop_51 rfl rfl ?_
          refine aw_aload_n 1 dX10_leastStop_52 rfl rfl ?_
          refine gf_X10_29 fl_X10_183 (lk140 hG) dX10_leastStop_53 ?_
          refine aw_isub dX10_leastStop_56 ?_
          refine aw_mabs mm_X10_199 wm_abs (Nat.le_of_ble_eq_true rfl) (Nat.le_of_ble_eq_true rfl) ⟨Nat.le_refl _, Nat.le_refl _⟩ dX10_leastStop_57 ?_
          refine aw_jge 67 dX10_leastStop_60 (by decide) (fun c_8 => ?_) (fun c_8 => ?_)
          · have h := sw_if.f h c_8
            refine aw_sub [1, 2, 3, 4, 0] rfl ?_
            exact t_X10_leastStop_67 hG  hK6 h
          · have h := sw_if.t h c_8
            refine aw_iconst (v := 1) dX10_leastStop_63 (by decide) ?_
            refine aw_goto 68 dX10_leastStop_64 (by decide) ?_
            refine aw_sub [1, 2, 3, 4, 0] rfl ?_
            exact t_X10_leastStop_68 hG  hK6 h
    · have h := sw_if.t h c_2
      refine aw_goto 90 dX10_leastStop_22 (by decide) ?_
      refine aw_sub [0, 1, 2, 3] rfl ?_
      exact t_X10_leastStop_90 hG  hK6 h
set_option maxRecDepth 20000 in
theorem tl_X10_leastStop_6 {l : Launch} {D : va_G} {cy : Nat → ClassId} {sz : Nat} {G : sw_G} (hG : sw_lay G)   {Q : Int32 → sw_I → sw_J → Prop} : ∀ (n : Nat) (x1 : Int32) (x2 : Int32) (x3 : Int32) (I : sw_I) (J : sw_J), wl_X10_leastStop_6   Q n x1 x2 x3 I J → AW l D cy sz RX10 cX10_leastStop 6 (some .int) false rm_X10_leastStop 0 0 (sw_qi G Q) 0 0 G I J 6 [(0, .ref (sz + 140)), (1, .int x1), (2, .int x2), (3, .int x3)] [] := by
  intro n
  induction n with
  | zero => intro x1 x2 x3 I J h; exact False.elim h
  | succ n ih => intro x1 x2 x3 I J h; exact tb_X10_leastStop_6 hG  ih h
set_option maxRecDepth 20000 in
theorem t_X10_leastStop {l : Launch} {D : va_G} {cy : Nat → ClassId} {sz : Nat} {G : sw_G} (hG : sw_lay G)   {Q : Int32 → sw_I → sw_J → Prop}  {I : sw_I} {J : sw_J} (h : wp_X10_leastStop  I J Q) : AW l D cy sz RX10 cX10_leastStop 6 (some .int) false rm_X10_leastStop 0 0 (sw_qi G Q) 0 0 G I J 0 [(0, .ref (sz + 140))] [] := by
  unfold wp_X10_leastStop at h
  refine aw_iconst (v := (-1)) dX10_leastStop_0 (by decide) ?_
  refine aw_istore_n (lv' := [(1, .int (-1)), (0, .ref (sz + 140))]) dX10_leastStop_1 rfl (by decide) rfl ?_
  refine aw_iconst (v := 0) dX10_leastStop_2 (by decide) ?_
  refine aw_istore_n (lv' := [(2, .int 0), (1, .int (-1)), (0, .ref (sz + 140))]) dX10_leastStop_3 rfl (by decide) rfl ?_
  refine aw_iconst (v := 0) dX10_leastStop_4 (by decide) ?_
  refine aw_istore_n (lv' := [(3, .int 0), (2, .int 0), (1, .int (-1)), (0, .ref (sz + 140))]) dX10_leastStop_5 rfl (by decide) rfl ?_
  refine aw_sub [3, 2, 1, 0] rfl ?_
  obtain ⟨n_1, h⟩ := h
  exact tl_X10_leastStop_6 hG   n_1 (-1) 0 0 I J h
theorem M_X10_leastStop {l : Launch} {D : va_G} {cy : Nat → ClassId} {sz : Nat} {G : sw_G} (hG : sw_lay G)   {Q : Int32 → sw_I → sw_J → Prop}  {I : sw_I} {J : sw_J} (h : wp_X10_leastStop  I J Q) : Met l yX10_leastStop (Cond.code yX10_leastStop cX10_leastStop 6 (some .int) :: sw_T) rm_X10_leastStop (sw_Pc D cy sz [.ref (sz + 140)] G I J) (sw_Q D cy sz (sw_qi G Q)) 0 0 (fun q => sz ≤ q) :=
  sw_met (by decide) (fun q => by cases q) (Nat.le_of_ble_eq_true rfl) rfl (t_X10_leastStop hG  h)
-- X10_there
abbrev rm_X10_there : Room := { frames := 0, cells := 0, slots := 0, locals := 0 }
def wB_X10_there_30 (b1 : Nat) (n1 : Nat) (K4 : Int32 → Int32 → sw_I → sw_J → Prop) (Q : Int32 → sw_I → sw_J → Prop) (x3 : Int32) (s0 : Int32) (s1 : Int32) (I : sw_I) (J : sw_J) : Prop :=
  ∀ y_1 : Int32, y_1 = s0 ||| s1 → ∀ y_3 : Int32, y_3 = x3 + 1 → K4 y_1 y_3 I J
def wb_X10_there_4 (b1 : Nat) (n1 : Nat) (K4 : Int32 → Int32 → sw_I → sw_J → Prop) (Q : Int32 → sw_I → sw_J → Prop) (x2 : Int32) (x3 : Int32) (I : sw_I) (J : sw_J) : Prop :=
  sw_if (x3 < (I 140 4)) (vp_in x3 n1 ∧ vp_in (31 : Int32) n1 ∧ sw_if ((I b1 x3.toNatClampNeg) = (I b1 (31 : Int32).toNatClampNeg)) (wB_X10_there_30 b1 n1 K4 Q x3 x2 ((1 : Int32) <<< (x3 &&& 31)) I J) (wB_X10_there_30 b1 n1 K4 Q x3 x2 0 I J)) (Q x2 I J)
def wl_X10_there_4 (b1 : Nat) (n1 : Nat)  (Q : Int32 → sw_I → sw_J → Prop) : Nat → Int32 → Int32 → sw_I → sw_J → Prop
  | 0 => fun _ _ _ _ => False
  | n + 1 => fun x2 x3 I J => wb_X10_there_4 b1 n1 (wl_X10_there_4 b1 n1  Q n) Q x2 x3 I J
def wp_X10_there (b1 : Nat) (n1 : Nat) (I : sw_I) (J : sw_J) (Q : Int32 → sw_I → sw_J → Prop) : Prop :=
  ∃ n_1 : Nat, wl_X10_there_4 b1 n1  Q n_1 0 0 I J
set_option maxRecDepth 20000 in
theorem t_X10_there_30 {l : Launch} {D : va_G} {cy : Nat → ClassId} {sz : Nat} {G : sw_G} (hG : sw_lay G) {b1 : Nat} {n1 : Nat} (hb1 : sw_ia G b1 n1) {Q : Int32 → sw_I → sw_J → Prop} {K4 : Int32 → Int32 → sw_I → sw_J → Prop} (hK4 : ∀ (x2 : Int32) (x3 : Int32) (I : sw_I) (J : sw_J), K4 x2 x3 I J → AW l D cy sz RX10 cX10_there 4 (some .int) false rm_X10_there 0 0 (sw_qi G Q) 0 0 G I J 4 [(0, .ref (sz + 140)), (1, .ref (sz + b1)), (2, .int x2), (3, .int x3)] []) {x3 : Int32} {s0 : Int32} {s1 : Int32} {I : sw_I} {J : sw_J} (h : wB_X10_there_30 b1 n1 K4 Q x3 s0 s1 I J) : AW l D cy sz RX10 cX10_there 4 (some .int) false rm_X10_there 0 0 (sw_qi G Q) 0 0 G I J 30 [(0, .ref (sz + 140)), (1, .ref (sz + b1)), (3, .int x3)] [.int s1, .int s0] := by
  unfold wB_X10_there_30 at h
  refine aw_ior dX10_there_30 ?_
  refine aw_topi (fun y_1 e_2 => ?_)
  have h := h y_1 e_2
  refine aw_istore_n (lv' := [(2, .int y_1), (0, .ref (sz + 140)), (1, .ref (sz + b1)), (3, .int x3)]) dX10_there_31 rfl (by decide) rfl ?_
  obtain ⟨y_3, e_4⟩ : ∃ q : Int32, q = x3 + 1 := ⟨_, rfl⟩
  have h := h y_3 e_4
  refine aw_iinc (lv' := [(3, .int y_3), (2, .int y_1), (0, .ref (sz + 140)), (1, .ref (sz + b1))]) 3 dX10_there_32 rfl (by rw [e_4]; rfl) (by decide) rfl ?_
  refine aw_goto 4 dX10_there_35 (by decide) ?_
  refine aw_sub [2, 3, 1, 0] rfl ?_
  exact hK4 y_1 y_3 I J h
set_option maxRecDepth 20000 in
theorem tb_X10_there_4 {l : Launch} {D : va_G} {cy : Nat → ClassId} {sz : Nat} {G : sw_G} (hG : sw_lay G) {b1 : Nat} {n1 : Nat} (hb1 : sw_ia G b1 n1) {Q : Int32 → sw_I → sw_J → Prop} {K4 : Int32 → Int32 → sw_I → sw_J → Prop} (hK4 : ∀ (x2 : Int32) (x3 : Int32) (I : sw_I) (J : sw_J), K4 x2 x3 I J → AW l D cy sz RX10 cX10_there 4 (some .int) false rm_X10_there 0 0 (sw_qi G Q) 0 0 G I J 4 [(0, .ref (sz + 140)), (1, .ref (sz + b1)), (2, .int x2), (3, .int x3)] []) {x2 : Int32} {x3 : Int32} {I : sw_I} {J : sw_J} (h : wb_X10_there_4 b1 n1 K4 Q x2 x3 I J) : AW l D cy sz RX10 cX10_there 4 (some .int) false rm_X10_there 0 0 (sw_qi G Q) 0 0 G I J 4 [(0, .ref (sz + 140)), (1, .ref (sz + b1)), (2, .int x2), (3, .int x3)] [] := by
  unfold wb_X10_there_4 at h
  refine aw_iload_n 3 dX10_there_4 rfl rfl ?_
  refine aw_aload_n 0 dX10_there_5 rfl rfl ?_
  refine gf_X10_4 fl_X10_29 (lk140 hG) dX10_there_6 ?_
  refine aw_jge 38 dX10_there_9 (by decide) (fun c_1 => ?_) (fun c_1 => ?_)
  · have h := sw_if.f h c_1
    refine aw_iload_n 2 dX10_there_38 rfl rfl ?_
    exact aw_iret rfl dX10_there_39 ⟨rfl, _, rfl, h⟩
  · have h := sw_if.t h c_1
    refine aw_iload_n 2 dX10_there_12 rfl rfl ?_
    refine aw_aload_n 1 dX10_there_13 rfl rfl ?_
    refine aw_iload_n 3 dX10_there_14 rfl rfl ?_
    obtain ⟨hi_2, h⟩ := h
    refine aw_ild dX10_there_15 hb1.1 hb1.2 hi_2 ?_
    refine aw_aload_n 1 dX10_there_16 rfl rfl ?_
    refine aw_bipush (v := 31) dX10_there_17 (by decide) ?_
    obtain ⟨hi_3, h⟩ := h
    refine aw_ild dX10_there_19 hb1.1 hb1.2 hi_3 ?_
    refine aw_jne 29 dX10_there_20 (by decide) (fun c_4 => ?_) (fun c_4 => ?_)
    · have h := sw_if.f h c_4
      refine aw_iconst (v := 0) dX10_there_29 (by decide) ?_
      refine aw_sub [0, 1, 3] rfl ?_
      exact t_X10_there_30 hG hb1 hK4 h
    · have h := sw_if.t h c_4
      refine aw_iconst (v := 1) dX10_there_23 (by decide) ?_
      refine aw_iload_n 3 dX10_there_24 rfl rfl ?_
      refine aw_ishl dX10_there_25 ?_
      refine aw_goto 30 dX10_there_26 (by decide) ?_
      refine aw_sub [0, 1, 3] rfl ?_
      exact t_X10_there_30 hG hb1 hK4 h
set_option maxRecDepth 20000 in
theorem tl_X10_there_4 {l : Launch} {D : va_G} {cy : Nat → ClassId} {sz : Nat} {G : sw_G} (hG : sw_lay G) {b1 : Nat} {n1 : Nat} (hb1 : sw_ia G b1 n1) {Q : Int32 → sw_I → sw_J → Prop} : ∀ (n : Nat) (x2 : Int32) (x3 : Int32) (I : sw_I) (J : sw_J), wl_X10_there_4 b1 n1  Q n x2 x3 I J → AW l D cy sz RX10 cX10_there 4 (some .int) false rm_X10_there 0 0 (sw_qi G Q) 0 0 G I J 4 [(0, .ref (sz + 140)), (1, .ref (sz + b1)), (2, .int x2), (3, .int x3)] [] := by
  intro n
  induction n with
  | zero => intro x2 x3 I J h; exact False.elim h
  | succ n ih => intro x2 x3 I J h; exact tb_X10_there_4 hG hb1 ih h
set_option maxRecDepth 20000 in
theorem t_X10_there {l : Launch} {D : va_G} {cy : Nat → ClassId} {sz : Nat} {G : sw_G} (hG : sw_lay G) {b1 : Nat} {n1 : Nat} (hb1 : sw_ia G b1 n1) {Q : Int32 → sw_I → sw_J → Prop}  {I : sw_I} {J : sw_J} (h : wp_X10_there b1 n1 I J Q) : AW l D cy sz RX10 cX10_there 4 (some .int) false rm_X10_there 0 0 (sw_qi G Q) 0 0 G I J 0 [(0, .ref (sz + 140)), (1, .ref (sz + b1))] [] := by
  unfold wp_X10_there at h
  refine aw_iconst (v := 0) dX10_there_0 (by decide) ?_
  refine aw_istore_n (lv' := [(2, .int 0), (0, .ref (sz + 140)), (1, .ref (sz + b1))]) dX10_there_1 rfl (by decide) rfl ?_
  refine aw_iconst (v := 0) dX10_there_2 (by decide) ?_
  refine aw_istore_n (lv' := [(3, .int 0), (2, .int 0), (0, .ref (sz + 140)), (1, .ref (sz + b1))]) dX10_there_3 rfl (by decide) rfl ?_
  refine aw_sub [2, 3, 1, 0] rfl ?_
  obtain ⟨n_1, h⟩ := h
  exact tl_X10_there_4 hG hb1  n_1 0 0 I J h
theorem M_X10_there {l : Launch} {D : va_G} {cy : Nat → ClassId} {sz : Nat} {G : sw_G} (hG : sw_lay G) {b1 : Nat} {n1 : Nat} (hb1 : sw_ia G b1 n1) {Q : Int32 → sw_I → sw_J → Prop}  {I : sw_I} {J : sw_J} (h : wp_X10_there b1 n1 I J Q) : Met l yX10_there (Cond.code yX10_there cX10_there 4 (some .int) :: sw_T) rm_X10_there (sw_Pc D cy sz [.ref (sz + 140), .ref (sz + b1)] G I J) (sw_Q D cy sz (sw_qi G Q)) 0 0 (fun q => sz ≤ q) :=
  sw_met (by decide) (fun q => by cases q) (Nat.le_of_ble_eq_true rfl) rfl (t_X10_there hG hb1 h)
-- X10_homeBits
abbrev rm_X10_homeBits : Room := { frames := 0, cells := 0, slots := 0, locals := 0 }
def wB_X10_homeBits_28 (b1 : Nat) (n1 : Nat) (K4 : Int32 → Int32 → sw_I → sw_J → Prop) (Q : Int32 → sw_I → sw_J → Prop) (x3 : Int32) (s0 : Int32) (s1 : Int32) (I : sw_I) (J : sw_J) : Prop :=
  ∀ y_1 : Int32, y_1 = s0 ||| s1 → ∀ y_3 : Int32, y_3 = x3 + 1 → K4 y_1 y_3 I J
def wb_X10_homeBits_4 (b1 : Nat) (n1 : Nat) (K4 : Int32 → Int32 → sw_I → sw_J → Prop) (Q : Int32 → sw_I → sw_J → Prop) (x2 : Int32) (x3 : Int32) (I : sw_I) (J : sw_J) : Prop :=
  sw_if (x3 < (I 140 4)) (vp_in x3 n1 ∧ sw_if ((I b1 x3.toNatClampNeg) = (9 : Int32)) (wB_X10_homeBits_28 b1 n1 K4 Q x3 x2 ((1 : Int32) <<< (x3 &&& 31)) I J) (wB_X10_homeBits_28 b1 n1 K4 Q x3 x2 0 I J)) (Q x2 I J)
def wl_X10_homeBits_4 (b1 : Nat) (n1 : Nat)  (Q : Int32 → sw_I → sw_J → Prop) : Nat → Int32 → Int32 → sw_I → sw_J → Prop
  | 0 => fun _ _ _ _ => False
  | n + 1 => fun x2 x3 I J => wb_X10_homeBits_4 b1 n1 (wl_X10_homeBits_4 b1 n1  Q n) Q x2 x3 I J
def wp_X10_homeBits (b1 : Nat) (n1 : Nat) (I : sw_I) (J : sw_J) (Q : Int32 → sw_I → sw_J → Prop) : Prop :=
  ∃ n_1 : Nat, wl_X10_homeBits_4 b1 n1  Q n_1 0 0 I J
set_option maxRecDepth 20000 in
theorem t_X10_homeBits_28 {l : Launch} {D : va_G} {cy : Nat → ClassId} {sz : Nat} {G : sw_G} (hG : sw_lay G) {b1 : Nat} {n1 : Nat} (hb1 : sw_ia G b1 n1) {Q : Int32 → sw_I → sw_J → Prop} {K4 : Int32 → Int32 → sw_I → sw_J → Prop} (hK4 : ∀ (x2 : Int32) (x3 : Int32) (I : sw_I) (J : sw_J), K4 x2 x3 I J → AW l D cy sz RX10 cX10_homeBits 4 (some .int) false rm_X10_homeBits 0 0 (sw_qi G Q) 0 0 G I J 4 [(0, .ref (sz + 140)), (1, .ref (sz + b1)), (2, .int x2), (3, .int x3)] []) {x3 : Int32} {s0 : Int32} {s1 : Int32} {I : sw_I} {J : sw_J} (h : wB_X10_homeBits_28 b1 n1 K4 Q x3 s0 s1 I J) : AW l D cy sz RX10 cX10_homeBits 4 (some .int) false rm_X10_homeBits 0 0 (sw_qi G Q) 0 0 G I J 28 [(0, .ref (sz + 140)), (1, .ref (sz + b1)), (3, .int x3)] [.int s1, .int s0] := by
  unfold wB_X10_homeBits_28 at h
  refine aw_ior dX10_homeBits_28 ?_
  refine aw_topi (fun y_1 e_2 => ?_)
  have h := h y_1 e_2
  refine aw_istore_n (lv' := [(2, .int y_1), (0, .ref (sz + 140)), (1, .ref (sz + b1)), (3, .int x3)]) dX10_homeBits_29 rfl (by decide) rfl ?_
  obtain ⟨y_3, e_4⟩ : ∃ q : Int32, q = x3 + 1 := ⟨_, rfl⟩
  have h := h y_3 e_4
  refine aw_iinc (lv' := [(3, .int y_3), (2, .int y_1), (0, .ref (sz + 140)), (1, .ref (sz + b1))]) 3 dX10_homeBits_30 rfl (by rw [e_4]; rfl) (by decide) rfl ?_
  refine aw_goto 4 dX10_homeBits_33 (by decide) ?_
  refine aw_sub [2, 3, 1, 0] rfl ?_
  exact hK4 y_1 y_3 I J h
set_option maxRecDepth 20000 in
theorem tb_X10_homeBits_4 {l : Launch} {D : va_G} {cy : Nat → ClassId} {sz : Nat} {G : sw_G} (hG : sw_lay G) {b1 : Nat} {n1 : Nat} (hb1 : sw_ia G b1 n1) {Q : Int32 → sw_I → sw_J → Prop} {K4 : Int32 → Int32 → sw_I → sw_J → Prop} (hK4 : ∀ (x2 : Int32) (x3 : Int32) (I : sw_I) (J : sw_J), K4 x2 x3 I J → AW l D cy sz RX10 cX10_homeBits 4 (some .int) false rm_X10_homeBits 0 0 (sw_qi G Q) 0 0 G I J 4 [(0, .ref (sz + 140)), (1, .ref (sz + b1)), (2, .int x2), (3, .int x3)] []) {x2 : Int32} {x3 : Int32} {I : sw_I} {J : sw_J} (h : wb_X10_homeBits_4 b1 n1 K4 Q x2 x3 I J) : AW l D cy sz RX10 cX10_homeBits 4 (some .int) false rm_X10_homeBits 0 0 (sw_qi G Q) 0 0 G I J 4 [(0, .ref (sz + 140)), (1, .ref (sz + b1)), (2, .int x2), (3, .int x3)] [] := by
  unfold wb_X10_homeBits_4 at h
  refine aw_iload_n 3 dX10_homeBits_4 rfl rfl ?_
  refine aw_aload_n 0 dX10_homeBits_5 rfl rfl ?_
  refine gf_X10_4 fl_X10_29 (lk140 hG) dX10_homeBits_6 ?_
  refine aw_jge 36 dX10_homeBits_9 (by decide) (fun c_1 => ?_) (fun c_1 => ?_)
  · have h := sw_if.f h c_1
    refine aw_iload_n 2 dX10_homeBits_36 rfl rfl ?_
    exact aw_iret rfl dX10_homeBits_37 ⟨rfl, _, rfl, h⟩
  · have h := sw_if.t h c_1
    refine aw_iload_n 2 dX10_homeBits_12 rfl rfl ?_
    refine aw_aload_n 1 dX10_homeBits_13 rfl rfl ?_
    refine aw_iload_n 3 dX10_homeBits_14 rfl rfl ?_
    obtain ⟨hi_2, h⟩ := h
    refine aw_ild dX10_homeBits_15 hb1.1 hb1.2 hi_2 ?_
    refine aw_bipush (v := 9) dX10_homeBits_16 (by decide) ?_
    refine aw_jne 27 dX10_homeBits_18 (by decide) (fun c_3 => ?_) (fun c_3 => ?_)
    · have h := sw_if.f h c_3
      refine aw_iconst (v := 0) dX10_homeBits_27 (by decide) ?_
      refine aw_sub [0, 1, 3] rfl ?_
      exact t_X10_homeBits_28 hG hb1 hK4 h
    · have h := sw_if.t h c_3
      refine aw_iconst (v := 1) dX10_homeBits_21 (by decide) ?_
      refine aw_iload_n 3 dX10_homeBits_22 rfl rfl ?_
      refine aw_ishl dX10_homeBits_23 ?_
      refine aw_goto 28 dX10_homeBits_24 (by decide) ?_
      refine aw_sub [0, 1, 3] rfl ?_
      exact t_X10_homeBits_28 hG hb1 hK4 h
set_option maxRecDepth 20000 in
theorem tl_X10_homeBits_4 {l : Launch} {D : va_G} {cy : Nat → ClassId} {sz : Nat} {G : sw_G} (hG : sw_lay G) {b1 : Nat} {n1 : Nat} (hb1 : sw_ia G b1 n1) {Q : Int32 → sw_I → sw_J → Prop} : ∀ (n : Nat) (x2 : Int32) (x3 : Int32) (I : sw_I) (J : sw_J), wl_X10_homeBits_4 b1 n1  Q n x2 x3 I J → AW l D cy sz RX10 cX10_homeBits 4 (some .int) false rm_X10_homeBits 0 0 (sw_qi G Q) 0 0 G I J 4 [(0, .ref (sz + 140)), (1, .ref (sz + b1)), (2, .int x2), (3, .int x3)] [] := by
  intro n
  induction n with
  | zero => intro x2 x3 I J h; exact False.elim h
  | succ n ih => intro x2 x3 I J h; exact tb_X10_homeBits_4 hG hb1 ih h
set_option maxRecDepth 20000 in
theorem t_X10_homeBits {l : Launch} {D : va_G} {cy : Nat → ClassId} {sz : Nat} {G : sw_G} (hG : sw_lay G) {b1 : Nat} {n1 : Nat} (hb1 : sw_ia G b1 n1) {Q : Int32 → sw_I → sw_J → Prop}  {I : sw_I} {J : sw_J} (h : wp_X10_homeBits b1 n1 I J Q) : AW l D cy sz RX10 cX10_homeBits 4 (some .int) false rm_X10_homeBits 0 0 (sw_qi G Q) 0 0 G I J 0 [(0, .ref (sz + 140)), (1, .ref (sz + b1))] [] := by
  unfold wp_X10_homeBits at h
  refine aw_iconst (v := 0) dX10_homeBits_0 (by decide) ?_
  refine aw_istore_n (lv' := [(2, .int 0), (0, .ref (sz + 140)), (1, .ref (sz + b1))]) dX10_homeBits_1 rfl (by decide) rfl ?_
  refine aw_iconst (v := 0) dX10_homeBits_2 (by decide) ?_
  refine aw_istore_n (lv' := [(3, .int 0), (2, .int 0), (0, .ref (sz + 140)), (1, .ref (sz + b1))]) dX10_homeBits_3 rfl (by decide) rfl ?_
  refine aw_sub [2, 3, 1, 0] rfl ?_
  obtain ⟨n_1, h⟩ := h
  exact tl_X10_homeBits_4 hG hb1  n_1 0 0 I J h
theorem M_X10_homeBits {l : Launch} {D : va_G} {cy : Nat → ClassId} {sz : Nat} {G : sw_G} (hG : sw_lay G) {b1 : Nat} {n1 : Nat} (hb1 : sw_ia G b1 n1) {Q : Int32 → sw_I → sw_J → Prop}  {I : sw_I} {J : sw_J} (h : wp_X10_homeBits b1 n1 I J Q) : Met l yX10_homeBits (Cond.code yX10_homeBits cX10_homeBits 4 (some .int) :: sw_T) rm_X10_homeBits (sw_Pc D cy sz [.ref (sz + 140), .ref (sz + b1)] G I J) (sw_Q D cy sz (sw_qi G Q)) 0 0 (fun q => sz ≤ q) :=
  sw_met (by decide) (fun q => by cases q) (Nat.le_of_ble_eq_true rfl) rfl (t_X10_homeBits hG hb1 h)
-- X10_of
abbrev rm_X10_of : Room := { frames := 2, cells := 0, slots := 0, locals := 46 }
def wB_X10_of_25   (Q : Int32 → sw_I → sw_J → Prop)  (I : sw_I) (J : sw_J) : Prop :=
  wp_X10_refuse  I J (fun r_1 I_2 J_3 => Q r_1 I_2 J_3)
def wp_X10_of (x1 : Int32) (x2 : Int32) (I : sw_I) (J : sw_J) (Q : Int32 → sw_I → sw_J → Prop) : Prop :=
  ∀ I_1 : sw_I, I_1 = sw_up I 140 0 (0 : Int32) → wp_X10_isRider x1 I_1 J (fun r_3 I_4 J_5 => sw_if (r_3 = 0) (wB_X10_of_25   Q  I_4 J_5) (wp_X10_in x2.toInt64 0 5 I_4 J_5 (fun r_7 I_8 J_9 => sw_if (r_7 = 0) (wB_X10_of_25   Q  I_8 J_9) (sw_if (x2 = 0) (vp_in x1 10 ∧ Q (I_8 142 x1.toNatClampNeg) I_8 J_9) (sw_if (x2 = 1) (vp_in ((10 : Int32) + x1) 33 ∧ Q (I_8 144 ((10 : Int32) + x1).toNatClampNeg) I_8 J_9) (sw_if (x2 = 2) (vp_in x1 10 ∧ Q (I_8 143 x1.toNatClampNeg) I_8 J_9) (sw_if (x2 = 3) (vp_in x1 33 ∧ sw_if ((I_8 144 x1.toNatClampNeg) = (9 : Int32)) (Q (-1 : Int32) I_8 J_9) (vp_in x1 33 ∧ Q (I_8 144 x1.toNatClampNeg) I_8 J_9)) (sw_if (x2 = 4) (wp_X10_has (I_8 144 (30 : Int32).toNatClampNeg) x1 I_8 J_9 (fun r_23 I_24 J_25 => wp_X10_flag r_23 I_24 J_25 (fun r_26 I_27 J_28 => Q r_26 I_27 J_28))) (vp_in ((20 : Int32) + x1) 33 ∧ Q (I_8 144 ((20 : Int32) + x1).toNatClampNeg) I_8 J_9)))))))))
set_option maxRecDepth 20000 in
theorem t_X10_of_25 {l : Launch} {D : va_G} {cy : Nat → ClassId} {sz : Nat} {G : sw_G} (hG : sw_lay G)   {Q : Int32 → sw_I → sw_J → Prop}  {I : sw_I} {J : sw_J} (h : wB_X10_of_25   Q  I J) : AW l D cy sz RX10 cX10_of 3 (some .int) false rm_X10_of 0 0 (sw_qi G Q) 0 0 G I J 25 [(0, .ref (sz + 140))] [] := by
  unfold wB_X10_of_25 at h
  refine aw_aload_n 0 dX10_of_25 rfl rfl ?_
  refine aw_callV wv_X10_refuse (M_X10_refuse hG  h) ml_X10_231 rfl (by decide) (lk140 hG) rfl rfl (Nat.le_of_ble_eq_true rfl) ⟨rfl, rfl⟩ ⟨Nat.le_of_ble_eq_true rfl, Nat.le_of_ble_eq_true rfl⟩ ⟨Nat.le_refl _, Nat.le_refl _⟩ dX10_of_26 (aw_ki fun r_1 I_2 J_3 h => ?_)
  exact aw_iret rfl dX10_of_29 ⟨rfl, _, rfl, h⟩
set_option maxRecDepth 20000 in
theorem t_X10_of {l : Launch} {D : va_G} {cy : Nat → ClassId} {sz : Nat} {G : sw_G} (hG : sw_lay G)   {Q : Int32 → sw_I → sw_J → Prop} {x1 : Int32} {x2 : Int32} {I : sw_I} {J : sw_J} (h : wp_X10_of x1 x2 I J Q) : AW l D cy sz RX10 cX10_of 3 (some .int) false rm_X10_of 0 0 (sw_qi G Q) 0 0 G I J 0 [(0, .ref (sz + 140)), (1, .int x1), (2, .int x2)] [] := by
  unfold wp_X10_of at h
  refine aw_aload_n 0 dX10_of_0 rfl rfl ?_
  refine aw_iconst (v := 0) dX10_of_1 (by decide) ?_
  refine pf_X10_0 fl_X10_3 (lk140 hG) dX10_of_2 (aw_nameI fun I_1 e_2 => ?_)
  have h := h I_1 e_2
  refine aw_aload_n 0 dX10_of_5 rfl rfl ?_
  refine aw_iload_n 1 dX10_of_6 rfl rfl ?_
  refine aw_callV wv_X10_isRider (M_X10_isRider hG  h) ml_X10_226 rfl (by decide) (lk140 hG) rfl rfl (Nat.le_of_ble_eq_true rfl) ⟨rfl, rfl⟩ ⟨Nat.le_of_ble_eq_true rfl, Nat.le_of_ble_eq_true rfl⟩ ⟨Nat.le_refl _, Nat.le_refl _⟩ dX10_of_7 (aw_ki fun r_3 I_4 J_5 h => ?_)
  refine aw_zeq 25 dX10_of_10 (by decide) (fun c_6 => ?_) (fun c_6 => ?_)
  · have h := sw_if.t h c_6
    refine aw_sub [0] rfl ?_
    exact t_X10_of_25 hG   h
  · have h := sw_if.f h c_6
    refine aw_iload_n 2 dX10_of_13 rfl rfl ?_
    refine aw_i2l dX10_of_14 ?_
    refine aw_lconst (v := 0) dX10_of_15 (by decide) ?_
    refine aw_ldc2 (v := 5) dX10_of_16 k_X10_229 ?_
    refine aw_callS wv_X10_in (M_X10_in trivial  h) ml_X10_25 rfl rfl (Nat.le_of_ble_eq_true rfl) ⟨rfl, rfl⟩ ⟨Nat.le_of_ble_eq_true rfl, Nat.le_of_ble_eq_true rfl⟩ ⟨Nat.le_refl _, Nat.le_refl _⟩ dX10_of_19 (aw_ki fun r_7 I_8 J_9 h => ?_)
    refine aw_zne 30 dX10_of_22 (by decide) (fun c_10 => ?_) (fun c_10 => ?_)
    · have h := sw_if.f h c_10
      refine aw_iload_n 2 dX10_of_30 rfl rfl ?_
      by_cases c_11 : x2 = 0
      · have h := sw_if.t h c_11; refine aw_tableIn 64 dX10_of_31 (by rw [c_11]; decide) (by rw [c_11]; decide) (by rw [c_11]; rfl) (by decide) ?_
        refine aw_aload_n 0 dX10_of_64 rfl rfl ?_
        refine gf_X10_7 fl_X10_135 (lk140 hG) (lr140_7 hG) dX10_of_65 ?_
        refine aw_iload_n 1 dX10_of_68 rfl rfl ?_
        obtain ⟨hi_12, h⟩ := h
        refine aw_ild dX10_of_69 (lk142 hG) (ln142 hG) hi_12 ?_
        exact aw_iret rfl dX10_of_70 ⟨rfl, _, rfl, h⟩
      · have h := sw_if.f h c_11
        by_cases c_13 : x2 = 1
        · have h := sw_if.t h c_13; refine aw_tableIn 71 dX10_of_31 (by rw [c_13]; decide) (by rw [c_13]; decide) (by rw [c_13]; rfl) (by decide) ?_
          refine aw_aload_n 0 dX10_of_71 rfl rfl ?_
          refine gf_X10_9 fl_X10_79 (lk140 hG) (lr140_9 hG) dX10_of_72 ?_
          refine aw_bipush (v := 10) dX10_of_75 (by decide) ?_
          refine aw_iload_n 1 dX10_of_77 rfl rfl ?_
          refine aw_iadd dX10_of_78 ?_
          obtain ⟨hi_14, h⟩ := h
          refine aw_ild dX10_of_79 (lk144 hG) (ln144 hG) hi_14 ?_
          exact aw_iret rfl dX10_of_80 ⟨rfl, _, rfl, h⟩
        · have h := sw_if.f h c_13
          by_cases c_15 : x2 = 2
          · have h := sw_if.t h c_15; refine aw_tableIn 81 dX10_of_31 (by rw [c_15]; decide) (by rw [c_15]; decide) (by rw [c_15]; rfl) (by decide) ?_
            refine aw_aload_n 0 dX10_of_81 rfl rfl ?_
            refine gf_X10_8 fl_X10_138 (lk140 hG) (lr140_8 hG) dX10_of_82 ?_
            refine aw_iload_n 1 dX10_of_85 rfl rfl ?_
            obtain ⟨hi_16, h⟩ := h
            refine aw_ild dX10_of_86 (lk143 hG) (ln143 hG) hi_16 ?_
            exact aw_iret rfl dX10_of_87 ⟨rfl, _, rfl, h⟩
          · have h := sw_if.f h c_15
            by_cases c_17 : x2 = 3
            · have h := sw_if.t h c_17; refine aw_tableIn 88 dX10_of_31 (by rw [c_17]; decide) (by rw [c_17]; decide) (by rw [c_17]; rfl) (by decide) ?_
              refine aw_aload_n 0 dX10_of_88 rfl rfl ?_
              refine gf_X10_9 fl_X10_79 (lk140 hG) (lr140_9 hG) dX10_of_89 ?_
              refine aw_iload_n 1 dX10_of_92 rfl rfl ?_
              obtain ⟨hi_18, h⟩ := h
              refine aw_ild dX10_of_93 (lk144 hG) (ln144 hG) hi_18 ?_
              refine aw_bipush (v := 9) dX10_of_94 (by decide) ?_
              refine aw_jne 103 dX10_of_96 (by decide) (fun c_19 => ?_) (fun c_19 => ?_)
              · have h := sw_if.f h c_19
                refine aw_aload_n 0 dX10_of_103 rfl rfl ?_
                refine gf_X10_9 fl_X10_79 (lk140 hG) (lr140_9 hG) dX10_of_104 ?_
                refine aw_iload_n 1 dX10_of_107 rfl rfl ?_
                obtain ⟨hi_20, h⟩ := h
                refine aw_ild dX10_of_108 (lk144 hG) (ln144 hG) hi_20 ?_
                exact aw_iret rfl dX10_of_109 ⟨rfl, _, rfl, h⟩
              · have h := sw_if.t h c_19
                refine aw_iconst (v := (-1)) dX10_of_99 (by decide) ?_
                refine aw_goto 109 dX10_of_100 (by decide) ?_
                exact aw_iret rfl dX10_of_109 ⟨rfl, _, rfl, h⟩
            · have h := sw_if.f h c_17
              by_cases c_21 : x2 = 4
              · have h := sw_if.t h c_21; refine aw_tableIn 110 dX10_of_31 (by rw [c_21]; decide) (by rw [c_21]; decide) (by rw [c_21]; rfl) (by decide) ?_
                refine aw_aload_n 0 dX10_of_110 rfl rfl ?_
                refine gf_X10_9 fl_X10_79 (lk140 hG) (lr140_9 hG) dX10_of_111 ?_
                refine aw_bipush (v := 30) dX10_of_114 (by decide) ?_
                refine aw_ild dX10_of_116 (lk144 hG) (ln144 hG) (by unfold vp_in; decide) ?_
                refine aw_iload_n 1 dX10_of_117 rfl rfl ?_
                refine aw_callS wv_X10_has (M_X10_has trivial  h) ml_X10_195 rfl rfl (Nat.le_of_ble_eq_true rfl) ⟨rfl, rfl⟩ ⟨Nat.le_of_ble_eq_true rfl, Nat.le_of_ble_eq_true rfl⟩ ⟨Nat.le_refl _, Nat.le_refl _⟩ dX10_of_118 (aw_ki fun r_23 I_24 J_25 h => ?_)
                refine aw_callS wv_X10_flag (M_X10_flag trivial  h) ml_X10_54 rfl rfl (Nat.le_of_ble_eq_true rfl) ⟨rfl, rfl⟩ ⟨Nat.le_of_ble_eq_true rfl, Nat.le_of_ble_eq_true rfl⟩ ⟨Nat.le_refl _, Nat.le_refl _⟩ dX10_of_121 (aw_ki fun r_26 I_27 J_28 h => ?_)
                exact aw_iret rfl dX10_of_124 ⟨rfl, _, rfl, h⟩
              · have h := sw_if.f h c_21
                refine aw_tableOut 125 dX10_of_31 (by have g0 := sw_ne c_11 (by decide : (0 : Int32).toInt = 0); have g1 := sw_ne c_13 (by decide : (1 : Int32).toInt = 1); have g2 := sw_ne c_15 (by decide : (2 : Int32).toInt = 2); have g3 := sw_ne c_17 (by decide : (3 : Int32).toInt = 3); have g4 := sw_ne c_21 (by decide : (4 : Int32).toInt = 4); omega) (by decide) ?_
                refine aw_aload_n 0 dX10_of_125 rfl rfl ?_
                refine gf_X10_9 fl_X10_79 (lk140 hG) (lr140_9 hG) dX10_of_126 ?_
                refine aw_bipush (v := 20) dX10_of_129 (by decide) ?_
                refine aw_iload_n 1 dX10_of_131 rfl rfl ?_
                refine aw_iadd dX10_of_132 ?_
                obtain ⟨hi_29, h⟩ := h
                refine aw_ild dX10_of_133 (lk144 hG) (ln144 hG) hi_29 ?_
                exact aw_iret rfl dX10_of_134 ⟨rfl, _, rfl, h⟩
    · have h := sw_if.t h c_10
      refine aw_sub [0] rfl ?_
      exact t_X10_of_25 hG   h
theorem M_X10_of {l : Launch} {D : va_G} {cy : Nat → ClassId} {sz : Nat} {G : sw_G} (hG : sw_lay G)   {Q : Int32 → sw_I → sw_J → Prop} {x1 : Int32} {x2 : Int32} {I : sw_I} {J : sw_J} (h : wp_X10_of x1 x2 I J Q) : Met l yX10_of (Cond.code yX10_of cX10_of 3 (some .int) :: sw_T) rm_X10_of (sw_Pc D cy sz [.ref (sz + 140), .int x1, .int x2] G I J) (sw_Q D cy sz (sw_qi G Q)) 0 0 (fun q => sz ≤ q) :=
  sw_met (by decide) (fun q => by cases q) (Nat.le_of_ble_eq_true rfl) rfl (t_X10_of hG  h)
-- X10_set
abbrev rm_X10_set : Room := { frames := 2, cells := 0, slots := 0, locals := 46 }
def wB_X10_set_65   (Q : Int32 → sw_I → sw_J → Prop) (x1 : Int32) (x2 : Int32) (x3 : Int32) (s0 : Int32) (I : sw_I) (J : sw_J) : Prop :=
  wp_X10_isRider x2 I J (fun r_1 I_2 J_3 => sw_if (r_1 = 0) (Q 0 I_2 J_3) (sw_if (s0 = 0) (Q 0 I_2 J_3) (sw_if (x1 = 0) (vp_in x2 10 ∧ ∀ I_15 : sw_I, I_15 = sw_up I_2 142 x2.toNatClampNeg x3 → Q 1 I_15 J_3) (sw_if (x1 = (1 : Int32)) (vp_in ((10 : Int32) + x2) 33 ∧ ∀ I_12 : sw_I, I_12 = sw_up I_2 144 ((10 : Int32) + x2).toNatClampNeg x3 → Q 1 I_12 J_3) (vp_in x2 10 ∧ ∀ I_9 : sw_I, I_9 = sw_up I_2 143 x2.toNatClampNeg x3 → Q 1 I_9 J_3)))))
def wB_X10_set_64   (Q : Int32 → sw_I → sw_J → Prop) (x1 : Int32) (x2 : Int32) (x3 : Int32) (I : sw_I) (J : sw_J) : Prop :=
  wB_X10_set_65   Q x1 x2 x3 0 I J
def wB_X10_set_35   (Q : Int32 → sw_I → sw_J → Prop) (x1 : Int32) (x2 : Int32) (x3 : Int32) (I : sw_I) (J : sw_J) : Prop :=
  wB_X10_set_65   Q x1 x2 x3 1 I J
def wp_X10_set (x1 : Int32) (x2 : Int32) (x3 : Int32) (I : sw_I) (J : sw_J) (Q : Int32 → sw_I → sw_J → Prop) : Prop :=
  ∀ I_1 : sw_I, I_1 = sw_up I 140 0 (0 : Int32) → sw_if (x1 = 0) (wp_X10_isFloor x3 I_1 J (fun r_15 I_16 J_17 => wB_X10_set_65   Q x1 x2 x3 r_15 I_16 J_17)) (sw_if (x1 = (1 : Int32)) (sw_if (x3 = (-1 : Int32)) (wB_X10_set_35   Q x1 x2 x3 I_1 J) (wp_X10_isFloor x3 I_1 J (fun r_11 I_12 J_13 => sw_if (r_11 = 0) (wB_X10_set_65   Q x1 x2 x3 0 I_12 J_13) (wB_X10_set_35   Q x1 x2 x3 I_12 J_13)))) (sw_if (x1 = (2 : Int32)) (wp_X10_in x3.toInt64 0 10 I_1 J (fun r_6 I_7 J_8 => sw_if (r_6 = 0) (wB_X10_set_64   Q x1 x2 x3 I_7 J_8) (wB_X10_set_65   Q x1 x2 x3 1 I_7 J_8))) (wB_X10_set_64   Q x1 x2 x3 I_1 J)))
set_option maxRecDepth 20000 in
theorem t_X10_set_65 {l : Launch} {D : va_G} {cy : Nat → ClassId} {sz : Nat} {G : sw_G} (hG : sw_lay G)   {Q : Int32 → sw_I → sw_J → Prop} {x1 : Int32} {x2 : Int32} {x3 : Int32} {s0 : Int32} {I : sw_I} {J : sw_J} (h : wB_X10_set_65   Q x1 x2 x3 s0 I J) : AW l D cy sz RX10 cX10_set 5 (some .boolean) false rm_X10_set 0 0 (sw_qi G Q) 0 0 G I J 65 [(0, .ref (sz + 140)), (1, .int x1), (2, .int x2), (3, .int x3)] [.int s0] := by
  unfold wB_X10_set_65 at h
  refine aw_istore (lv' := [(4, .int s0), (0, .ref (sz + 140)), (1, .int x1), (2, .int x2), (3, .int x3)]) dX10_set_65 (by decide) rfl ?_
  refine aw_aload_n 1 dX10_set_67 rfl rfl ?_
  refine aw_iload_n 3 dX10_set_68 rfl rfl ?_
  refine aw_callV wv_X10_isRider (M_X10_isRider hG  h) ml_X10_226 rfl (by decide) (lk140 hG) rfl rfl (Nat.le_of_ble_eq_true rfl) ⟨rfl, rfl⟩ ⟨Nat.le_of_ble_eq_true rfl, Nat.le_of_ble_eq_true rfl⟩ ⟨Nat.le_refl _, Nat.le_refl _⟩ dX10_set_69 (aw_ki fun r_1 I_2 J_3 h => ?_)
  refine aw_zeq 80 dX10_set_72 (by decide) (fun c_4 => ?_) (fun c_4 => ?_)
  · have h := sw_if.t h c_4
    refine aw_iconst (v := 0) dX10_set_80 (by decide) ?_
    exact aw_zret rfl rfl dX10_set_81 ⟨rfl, _, rfl, h⟩
  · have h := sw_if.f h c_4
    refine aw_iload 0 dX10_set_75 rfl ?_
    refine aw_zne 82 dX10_set_77 (by decide) (fun c_5 => ?_) (fun c_5 => ?_)
    · have h := sw_if.f h c_5
      refine aw_iload_n 2 dX10_set_82 rfl rfl ?_
      refine aw_zne 96 dX10_set_83 (by decide) (fun c_6 => ?_) (fun c_6 => ?_)
      · have h := sw_if.f h c_6
        refine aw_iload_n 2 dX10_set_96 rfl rfl ?_
        refine aw_iconst (v := 1) dX10_set_97 (by decide) ?_
        refine aw_jne 114 dX10_set_98 (by decide) (fun c_7 => ?_) (fun c_7 => ?_)
        · have h := sw_if.f h c_7
          refine aw_aload_n 1 dX10_set_114 rfl rfl ?_
          refine gf_X10_8 fl_X10_138 (lk140 hG) (lr140_8 hG) dX10_set_115 ?_
          refine aw_iload_n 3 dX10_set_118 rfl rfl ?_
          refine aw_iload_n 4 dX10_set_119 rfl rfl ?_
          obtain ⟨hi_8, h⟩ := h
          refine aw_ist dX10_set_120 (lk143 hG) (ln143 hG) hi_8 (aw_nameI fun I_9 e_10 => ?_)
          have h := h I_9 e_10
          refine aw_iconst (v := 1) dX10_set_121 (by decide) ?_
          exact aw_zret rfl rfl dX10_set_122 ⟨rfl, _, rfl, h⟩
        · have h := sw_if.t h c_7
          refine aw_aload_n 1 dX10_set_101 rfl rfl ?_
          refine gf_X10_9 fl_X10_79 (lk140 hG) (lr140_9 hG) dX10_set_102 ?_
          refine aw_bipush (v := 10) dX10_set_105 (by decide) ?_
          refine aw_iload_n 3 dX10_set_107 rfl rfl ?_
          refine aw_iadd dX10_set_108 ?_
          refine aw_iload_n 4 dX10_set_109 rfl rfl ?_
          obtain ⟨hi_11, h⟩ := h
          refine aw_ist dX10_set_110 (lk144 hG) (ln144 hG) hi_11 (aw_nameI fun I_12 e_13 => ?_)
          have h := h I_12 e_13
          refine aw_goto 121 dX10_set_111 (by decide) ?_
          refine aw_iconst (v := 1) dX10_set_121 (by decide) ?_
          exact aw_zret rfl rfl dX10_set_122 ⟨rfl, _, rfl, h⟩
      · have h := sw_if.t h c_6
        refine aw_aload_n 1 dX10_set_86 rfl rfl ?_
        refine gf_X10_7 fl_X10_135 (lk140 hG) (lr140_7 hG) dX10_set_87 ?_
        refine aw_iload_n 3 dX10_set_90 rfl rfl ?_
        refine aw_iload_n 4 dX10_set_91 rfl rfl ?_
        obtain ⟨hi_14, h⟩ := h
        refine aw_ist dX10_set_92 (lk142 hG) (ln142 hG) hi_14 (aw_nameI fun I_15 e_16 => ?_)
        have h := h I_15 e_16
        refine aw_goto 121 dX10_set_93 (by decide) ?_
        refine aw_iconst (v := 1) dX10_set_121 (by decide) ?_
        exact aw_zret rfl rfl dX10_set_122 ⟨rfl, _, rfl, h⟩
    · have h := sw_if.t h c_5
      refine aw_iconst (v := 0) dX10_set_80 (by decide) ?_
      exact aw_zret rfl rfl dX10_set_81 ⟨rfl, _, rfl, h⟩
set_option maxRecDepth 20000 in
theorem t_X10_set_64 {l : Launch} {D : va_G} {cy : Nat → ClassId} {sz : Nat} {G : sw_G} (hG : sw_lay G)   {Q : Int32 → sw_I → sw_J → Prop} {x1 : Int32} {x2 : Int32} {x3 : Int32} {I : sw_I} {J : sw_J} (h : wB_X10_set_64   Q x1 x2 x3 I J) : AW l D cy sz RX10 cX10_set 5 (some .boolean) false rm_X10_set 0 0 (sw_qi G Q) 0 0 G I J 64 [(0, .ref (sz + 140)), (1, .int x1), (2, .int x2), (3, .int x3)] [] := by
  unfold wB_X10_set_64 at h
  refine aw_iconst (v := 0) dX10_set_64 (by decide) ?_
  refine aw_sub [0, 1, 2, 3] rfl ?_
  exact t_X10_set_65 hG   h
set_option maxRecDepth 20000 in
theorem t_X10_set_35 {l : Launch} {D : va_G} {cy : Nat → ClassId} {sz : Nat} {G : sw_G} (hG : sw_lay G)   {Q : Int32 → sw_I → sw_J → Prop} {x1 : Int32} {x2 : Int32} {x3 : Int32} {I : sw_I} {J : sw_J} (h : wB_X10_set_35   Q x1 x2 x3 I J) : AW l D cy sz RX10 cX10_set 5 (some .boolean) false rm_X10_set 0 0 (sw_qi G Q) 0 0 G I J 35 [(0, .ref (sz + 140)), (1, .int x1), (2, .int x2), (3, .int x3)] [] := by
  unfold wB_X10_set_35 at h
  refine aw_iconst (v := 1) dX10_set_35 (by decide) ?_
  refine aw_goto 65 dX10_set_36 (by decide) ?_
  refine aw_sub [0, 1, 2, 3] rfl ?_
  exact t_X10_set_65 hG   h
set_option maxRecDepth 20000 in
theorem t_X10_set {l : Launch} {D : va_G} {cy : Nat → ClassId} {sz : Nat} {G : sw_G} (hG : sw_lay G)   {Q : Int32 → sw_I → sw_J → Prop} {x1 : Int32} {x2 : Int32} {x3 : Int32} {I : sw_I} {J : sw_J} (h : wp_X10_set x1 x2 x3 I J Q) : AW l D cy sz RX10 cX10_set 5 (some .boolean) false rm_X10_set 0 0 (sw_qi G Q) 0 0 G I J 0 [(0, .ref (sz + 140)), (1, .int x1), (2, .int x2), (3, .int x3)] [] := by
  unfold wp_X10_set at h
  refine aw_aload_n 0 dX10_set_0 rfl rfl ?_
  refine aw_iconst (v := 0) dX10_set_1 (by decide) ?_
  refine pf_X10_0 fl_X10_3 (lk140 hG) dX10_set_2 (aw_nameI fun I_1 e_2 => ?_)
  have h := h I_1 e_2
  refine aw_iload_n 1 dX10_set_5 rfl rfl ?_
  refine aw_zne 17 dX10_set_6 (by decide) (fun c_3 => ?_) (fun c_3 => ?_)
  · have h := sw_if.f h c_3
    refine aw_iload_n 1 dX10_set_17 rfl rfl ?_
    refine aw_iconst (v := 1) dX10_set_18 (by decide) ?_
    refine aw_jne 43 dX10_set_19 (by decide) (fun c_4 => ?_) (fun c_4 => ?_)
    · have h := sw_if.f h c_4
      refine aw_iload_n 1 dX10_set_43 rfl rfl ?_
      refine aw_iconst (v := 2) dX10_set_44 (by decide) ?_
      refine aw_jne 64 dX10_set_45 (by decide) (fun c_5 => ?_) (fun c_5 => ?_)
      · have h := sw_if.f h c_5
        refine aw_sub [0, 1, 2, 3] rfl ?_
        exact t_X10_set_64 hG   h
      · have h := sw_if.t h c_5
        refine aw_iload_n 3 dX10_set_48 rfl rfl ?_
        refine aw_i2l dX10_set_49 ?_
        refine aw_lconst (v := 0) dX10_set_50 (by decide) ?_
        refine aw_ldc2 (v := 10) dX10_set_51 k_X10_234 ?_
        refine aw_callS wv_X10_in (M_X10_in trivial  h) ml_X10_25 rfl rfl (Nat.le_of_ble_eq_true rfl) ⟨rfl, rfl⟩ ⟨Nat.le_of_ble_eq_true rfl, Nat.le_of_ble_eq_true rfl⟩ ⟨Nat.le_refl _, Nat.le_refl _⟩ dX10_set_54 (aw_ki fun r_6 I_7 J_8 h => ?_)
        refine aw_zeq 64 dX10_set_57 (by decide) (fun c_9 => ?_) (fun c_9 => ?_)
        · have h := sw_if.t h c_9
          refine aw_sub [0, 1, 2, 3] rfl ?_
          exact t_X10_set_64 hG   h
        · have h := sw_if.f h c_9
          refine aw_iconst (v := 1) dX10_set_60 (by decide) ?_
          refine aw_goto 65 dX10_set_61 (by decide) ?_
          refine aw_sub [0, 1, 2, 3] rfl ?_
          exact t_X10_set_65 hG   h
    · have h := sw_if.t h c_4
      refine aw_iload_n 3 dX10_set_22 rfl rfl ?_
      refine aw_iconst (v := (-1)) dX10_set_23 (by decide) ?_
      refine aw_jeq 35 dX10_set_24 (by decide) (fun c_10 => ?_) (fun c_10 => ?_)
      · have h := sw_if.t h c_10
        refine aw_sub [0, 1, 2, 3] rfl ?_
        exact t_X10_set_35 hG   h
      · have h := sw_if.f h c_10
        refine aw_aload_n 0 dX10_set_27 rfl rfl ?_
        refine aw_iload_n 3 dX10_set_28 rfl rfl ?_
        refine aw_callV wv_X10_isFloor (M_X10_isFloor hG  h) ml_X10_95 rfl (by decide) (lk140 hG) rfl rfl (Nat.le_of_ble_eq_true rfl) ⟨rfl, rfl⟩ ⟨Nat.le_of_ble_eq_true rfl, Nat.le_of_ble_eq_true rfl⟩ ⟨Nat.le_refl _, Nat.le_refl _⟩ dX10_set_29 (aw_ki fun r_11 I_12 J_13 h => ?_)
        refine aw_zeq 39 dX10_set_32 (by decide) (fun c_14 => ?_) (fun c_14 => ?_)
        · have h := sw_if.t h c_14
          refine aw_iconst (v := 0) dX10_set_39 (by decide) ?_
          refine aw_goto 65 dX10_set_40 (by decide) ?_
          refine aw_sub [0, 1, 2, 3] rfl ?_
          exact t_X10_set_65 hG   h
        · have h := sw_if.f h c_14
          refine aw_sub [0, 1, 2, 3] rfl ?_
          exact t_X10_set_35 hG   h
  · have h := sw_if.t h c_3
    refine aw_aload_n 0 dX10_set_9 rfl rfl ?_
    refine aw_iload_n 3 dX10_set_10 rfl rfl ?_
    refine aw_callV wv_X10_isFloor (M_X10_isFloor hG  h) ml_X10_95 rfl (by decide) (lk140 hG) rfl rfl (Nat.le_of_ble_eq_true rfl) ⟨rfl, rfl⟩ ⟨Nat.le_of_ble_eq_true rfl, Nat.le_of_ble_eq_true rfl⟩ ⟨Nat.le_refl _, Nat.le_refl _⟩ dX10_set_11 (aw_ki fun r_15 I_16 J_17 h => ?_)
    refine aw_goto 65 dX10_set_14 (by decide) ?_
    refine aw_sub [0, 1, 2, 3] rfl ?_
    exact t_X10_set_65 hG   h
theorem M_X10_set {l : Launch} {D : va_G} {cy : Nat → ClassId} {sz : Nat} {G : sw_G} (hG : sw_lay G)   {Q : Int32 → sw_I → sw_J → Prop} {x1 : Int32} {x2 : Int32} {x3 : Int32} {I : sw_I} {J : sw_J} (h : wp_X10_set x1 x2 x3 I J Q) : Met l yX10_set (Cond.code yX10_set cX10_set 5 (some .boolean) :: sw_T) rm_X10_set (sw_Pc D cy sz [.ref (sz + 140), .int x1, .int x2, .int x3] G I J) (sw_Q D cy sz (sw_qi G Q)) 0 0 (fun q => sz ≤ q) :=
  sw_met (by decide) (fun q => by cases q) (Nat.le_of_ble_eq_true rfl) rfl (t_X10_set hG  h)
