-- X10_common
abbrev rm_X10_common (d : Nat) : Room := { frames := 0 + d, cells := 0, slots := 0, locals := 0 + d * 23 }
def wpb_X10_common (C_X10_common : Int64 → Int64 → sw_I → sw_J → (Int64 → sw_I → sw_J → Prop) → Prop) (w0 : Int64) (w2 : Int64) (I : sw_I) (J : sw_J) (Q : Int64 → sw_I → sw_J → Prop) : Prop :=
  sw_if ((lg_cmp w2 (0 : Int64)) = 0) (Q w0 I J) (¬ w2 = 0 ∧ C_X10_common w2 (w0 - w0 / w2 * w2) I J (fun r_3 I_4 J_5 => Q r_3 I_4 J_5))
set_option maxRecDepth 20000 in
theorem t_X10_common {l : Launch} {D : va_G} {cy : Nat → ClassId} {sz : Nat} {G : sw_G} (hG : True) {C_X10_common : Int64 → Int64 → sw_I → sw_J → (Int64 → sw_I → sw_J → Prop) → Prop} {dd : Nat} (hC_X10_common : ∀ {w0 : Int64} {w2 : Int64} {I : sw_I} {J : sw_J} {Q : Int64 → sw_I → sw_J → Prop}, C_X10_common w0 w2 I J Q → Met l yX10_common (Cond.code yX10_common cX10_common 4 (some .long) :: sw_T) (rm_X10_common dd) (sw_Pc D cy sz [.long w0, .long w2] G I J) (sw_Q D cy sz (sw_ql G Q)) 0 0 (fun q => sz ≤ q)) {Q : Int64 → sw_I → sw_J → Prop} {w0 : Int64} {w2 : Int64} {I : sw_I} {J : sw_J} (h : wpb_X10_common C_X10_common w0 w2 I J Q) : AW l D cy sz RX10 cX10_common 4 (some .long) false (rm_X10_common (dd + 1)) 0 0 (sw_ql G Q) 0 0 G I J 0 [(0, .long w0), (2, .long w2)] [] := by
  unfold wpb_X10_common at h
  refine aw_lload_n 1 dX10_common_0 rfl rfl ?_
  refine aw_lconst (v := 0) dX10_common_1 (by decide) ?_
  refine aw_lcmp dX10_common_2 ?_
  refine aw_zne 10 dX10_common_3 (by decide) (fun c_1 => ?_) (fun c_1 => ?_)
  · have h := sw_if.f h c_1
    refine aw_lload_n 1 dX10_common_10 rfl rfl ?_
    refine aw_lload_n 0 dX10_common_11 rfl rfl ?_
    refine aw_lload_n 1 dX10_common_12 rfl rfl ?_
    obtain ⟨hz_2, h⟩ := h
    refine aw_lrem dX10_common_13 hz_2 ?_
    refine aw_callS wv_X10_common (hC_X10_common h) ml_X10_7 rfl rfl (Nat.le_of_ble_eq_true rfl) ⟨rfl, rfl⟩ ⟨by simp only [rm_X10_common]; omega, by simp only [rm_X10_common]; omega⟩ ⟨Nat.le_refl _, Nat.le_refl _⟩ dX10_common_14 (aw_kl fun r_3 I_4 J_5 h => ?_)
    exact aw_lret rfl dX10_common_17 ⟨rfl, _, rfl, h⟩
  · have h := sw_if.t h c_1
    refine aw_lload_n 0 dX10_common_6 rfl rfl ?_
    refine aw_goto 17 dX10_common_7 (by decide) ?_
    exact aw_lret rfl dX10_common_17 ⟨rfl, _, rfl, h⟩
def wp_X10_common : Nat → Int64 → Int64 → sw_I → sw_J → (Int64 → sw_I → sw_J → Prop) → Prop
  | 0 => fun _ _ _ _ _ => False
  | d + 1 => fun w0 w2 I J Q => wpb_X10_common (wp_X10_common d) w0 w2 I J Q
theorem MG_X10_common {l : Launch} {D : va_G} {cy : Nat → ClassId} {sz : Nat} {G : sw_G} (hG : True) : ∀ d : Nat, (∀ {w0 : Int64} {w2 : Int64} {I : sw_I} {J : sw_J} {Q : Int64 → sw_I → sw_J → Prop}, wp_X10_common d w0 w2 I J Q → Met l yX10_common (Cond.code yX10_common cX10_common 4 (some .long) :: sw_T) (rm_X10_common d) (sw_Pc D cy sz [.long w0, .long w2] G I J) (sw_Q D cy sz (sw_ql G Q)) 0 0 (fun q => sz ≤ q)) := by
  intro d
  induction d with
  | zero => exact fun h => False.elim h
  | succ d ih => exact fun h => sw_met (by decide) (fun q => by cases q) (Nat.le_of_ble_eq_true rfl) rfl (t_X10_common hG ih h)
theorem M_X10_common {l : Launch} {D : va_G} {cy : Nat → ClassId} {sz : Nat} {G : sw_G} (hG : True) (d : Nat) : ∀ {w0 : Int64} {w2 : Int64} {I : sw_I} {J : sw_J} {Q : Int64 → sw_I → sw_J → Prop}, wp_X10_common d w0 w2 I J Q → Met l yX10_common (Cond.code yX10_common cX10_common 4 (some .long) :: sw_T) (rm_X10_common d) (sw_Pc D cy sz [.long w0, .long w2] G I J) (sw_Q D cy sz (sw_ql G Q)) 0 0 (fun q => sz ≤ q) := MG_X10_common hG d
-- X0_placeBehind
abbrev rm_X0_placeBehind : Room := { frames := 0, cells := 0, slots := 0, locals := 0 }
def wp_X0_placeBehind (x0 : Int32) (I : sw_I) (J : sw_J) (Q : Int32 → sw_I → sw_J → Prop) : Prop :=
  sw_if (x0 = (105 : Int32)) (Q (1 : Int32) I J) (sw_if (x0 = (111 : Int32)) (Q (1 : Int32) I J) (sw_if (x0 = (119 : Int32)) (Q (3 : Int32) I J) (sw_if (x0 = (114 : Int32)) (Q (5 : Int32) I J) (Q (-1 : Int32) I J))))
set_option maxRecDepth 20000 in
theorem t_X0_placeBehind {l : Launch} {D : va_G} {cy : Nat → ClassId} {sz : Nat} {G : sw_G} (hG : True)   {Q : Int32 → sw_I → sw_J → Prop} {x0 : Int32} {I : sw_I} {J : sw_J} (h : wp_X0_placeBehind x0 I J Q) : AW l D cy sz RX0 cX0_placeBehind 1 (some .int) false rm_X0_placeBehind 0 0 (sw_qi G Q) 0 0 G I J 0 [(0, .int x0)] [] := by
  unfold wp_X0_placeBehind at h
  refine aw_iload_n 0 dX0_placeBehind_0 rfl rfl ?_
  refine aw_bipush (v := 105) dX0_placeBehind_1 (by decide) ?_
  refine aw_jeq 12 dX0_placeBehind_3 (by decide) (fun c_1 => ?_) (fun c_1 => ?_)
  · have h := sw_if.t h c_1
    refine aw_iconst (v := 1) dX0_placeBehind_12 (by decide) ?_
    exact aw_iret rfl dX0_placeBehind_13 ⟨rfl, _, rfl, h⟩
  · have h := sw_if.f h c_1
    refine aw_iload_n 0 dX0_placeBehind_6 rfl rfl ?_
    refine aw_bipush (v := 111) dX0_placeBehind_7 (by decide) ?_
    refine aw_jne 14 dX0_placeBehind_9 (by decide) (fun c_2 => ?_) (fun c_2 => ?_)
    · have h := sw_if.f h c_2
      refine aw_iload_n 0 dX0_placeBehind_14 rfl rfl ?_
      refine aw_bipush (v := 119) dX0_placeBehind_15 (by decide) ?_
      refine aw_jne 22 dX0_placeBehind_17 (by decide) (fun c_3 => ?_) (fun c_3 => ?_)
      · have h := sw_if.f h c_3
        refine aw_iload_n 0 dX0_placeBehind_22 rfl rfl ?_
        refine aw_bipush (v := 114) dX0_placeBehind_23 (by decide) ?_
        refine aw_jne 32 dX0_placeBehind_25 (by decide) (fun c_4 => ?_) (fun c_4 => ?_)
        · have h := sw_if.f h c_4
          refine aw_iconst (v := (-1)) dX0_placeBehind_32 (by decide) ?_
          exact aw_iret rfl dX0_placeBehind_33 ⟨rfl, _, rfl, h⟩
        · have h := sw_if.t h c_4
          refine aw_iconst (v := 5) dX0_placeBehind_28 (by decide) ?_
          refine aw_goto 33 dX0_placeBehind_29 (by decide) ?_
          exact aw_iret rfl dX0_placeBehind_33 ⟨rfl, _, rfl, h⟩
      · have h := sw_if.t h c_3
        refine aw_iconst (v := 3) dX0_placeBehind_20 (by decide) ?_
        exact aw_iret rfl dX0_placeBehind_21 ⟨rfl, _, rfl, h⟩
    · have h := sw_if.t h c_2
      refine aw_iconst (v := 1) dX0_placeBehind_12 (by decide) ?_
      exact aw_iret rfl dX0_placeBehind_13 ⟨rfl, _, rfl, h⟩
theorem M_X0_placeBehind {l : Launch} {D : va_G} {cy : Nat → ClassId} {sz : Nat} {G : sw_G} (hG : True)   {Q : Int32 → sw_I → sw_J → Prop} {x0 : Int32} {I : sw_I} {J : sw_J} (h : wp_X0_placeBehind x0 I J Q) : Met l yX0_placeBehind (Cond.code yX0_placeBehind cX0_placeBehind 1 (some .int) :: sw_T) rm_X0_placeBehind (sw_Pc D cy sz [.int x0] G I J) (sw_Q D cy sz (sw_qi G Q)) 0 0 (fun q => sz ≤ q) :=
  sw_met (by decide) (fun q => by cases q) (Nat.le_of_ble_eq_true rfl) rfl (t_X0_placeBehind hG  h)
-- X0_isLetter
abbrev rm_X0_isLetter : Room := { frames := 0, cells := 0, slots := 0, locals := 0 }
def wp_X0_isLetter (x0 : Int32) (I : sw_I) (J : sw_J) (Q : Int32 → sw_I → sw_J → Prop) : Prop :=
  sw_if (x0 < (97 : Int32)) (Q 0 I J) (sw_if ((106 : Int32) < x0) (Q 0 I J) (Q 1 I J))
set_option maxRecDepth 20000 in
theorem t_X0_isLetter {l : Launch} {D : va_G} {cy : Nat → ClassId} {sz : Nat} {G : sw_G} (hG : True)   {Q : Int32 → sw_I → sw_J → Prop} {x0 : Int32} {I : sw_I} {J : sw_J} (h : wp_X0_isLetter x0 I J Q) : AW l D cy sz RX0 cX0_isLetter 1 (some .boolean) false rm_X0_isLetter 0 0 (sw_qi G Q) 0 0 G I J 0 [(0, .int x0)] [] := by
  unfold wp_X0_isLetter at h
  refine aw_iload_n 0 dX0_isLetter_0 rfl rfl ?_
  refine aw_bipush (v := 97) dX0_isLetter_1 (by decide) ?_
  refine aw_jlt 16 dX0_isLetter_3 (by decide) (fun c_1 => ?_) (fun c_1 => ?_)
  · have h := sw_if.t h c_1
    refine aw_iconst (v := 0) dX0_isLetter_16 (by decide) ?_
    exact aw_zret rfl rfl dX0_isLetter_17 ⟨rfl, _, rfl, h⟩
  · have h := sw_if.f h c_1
    refine aw_iload_n 0 dX0_isLetter_6 rfl rfl ?_
    refine aw_bipush (v := 106) dX0_isLetter_7 (by decide) ?_
    refine aw_jgt 16 dX0_isLetter_9 (by decide) (fun c_2 => ?_) (fun c_2 => ?_)
    · have h := sw_if.t h c_2
      refine aw_iconst (v := 0) dX0_isLetter_16 (by decide) ?_
      exact aw_zret rfl rfl dX0_isLetter_17 ⟨rfl, _, rfl, h⟩
    · have h := sw_if.f h c_2
      refine aw_iconst (v := 1) dX0_isLetter_12 (by decide) ?_
      refine aw_goto 17 dX0_isLetter_13 (by decide) ?_
      exact aw_zret rfl rfl dX0_isLetter_17 ⟨rfl, _, rfl, h⟩
theorem M_X0_isLetter {l : Launch} {D : va_G} {cy : Nat → ClassId} {sz : Nat} {G : sw_G} (hG : True)   {Q : Int32 → sw_I → sw_J → Prop} {x0 : Int32} {I : sw_I} {J : sw_J} (h : wp_X0_isLetter x0 I J Q) : Met l yX0_isLetter (Cond.code yX0_isLetter cX0_isLetter 1 (some .boolean) :: sw_T) rm_X0_isLetter (sw_Pc D cy sz [.int x0] G I J) (sw_Q D cy sz (sw_qi G Q)) 0 0 (fun q => sz ≤ q) :=
  sw_met (by decide) (fun q => by cases q) (Nat.le_of_ble_eq_true rfl) rfl (t_X0_isLetter hG  h)
-- X1_empty
abbrev rm_X1_empty : Room := { frames := 0, cells := 0, slots := 0, locals := 0 }
def wp_X1_empty (x1 : Int32) (I : sw_I) (J : sw_J) (Q : sw_I → sw_J → Prop) : Prop :=
  ∀ I_1 : sw_I, I_1 = sw_up I 3 0 x1 → ∀ I_3 : sw_I, I_3 = sw_up I_1 3 1 (-1 : Int32) → ∀ I_5 : sw_I, I_5 = sw_up I_3 3 2 (0 : Int32) → Q I_5 J
set_option maxRecDepth 20000 in
theorem t_X1_empty {l : Launch} {D : va_G} {cy : Nat → ClassId} {sz : Nat} {G : sw_G} (hG : sw_lay G)   {Q : sw_I → sw_J → Prop} {x1 : Int32} {I : sw_I} {J : sw_J} (h : wp_X1_empty x1 I J Q) : AW l D cy sz RX1 cX1_empty 2 none false rm_X1_empty 0 0 (sw_qv G Q) 0 0 G I J 0 [(0, .ref (sz + 3)), (1, .int x1)] [] := by
  unfold wp_X1_empty at h
  refine aw_aload_n 0 dX1_empty_0 rfl rfl ?_
  refine aw_iload_n 1 dX1_empty_1 rfl rfl ?_
  refine pf_X1_0 fl_X1_9 (lk3 hG) dX1_empty_2 (aw_nameI fun I_1 e_2 => ?_)
  have h := h I_1 e_2
  refine aw_aload_n 0 dX1_empty_5 rfl rfl ?_
  refine aw_iconst (v := (-1)) dX1_empty_6 (by decide) ?_
  refine pf_X1_1 fl_X1_15 (lk3 hG) dX1_empty_7 (aw_nameI fun I_3 e_4 => ?_)
  have h := h I_3 e_4
  refine aw_aload_n 0 dX1_empty_10 rfl rfl ?_
  refine aw_iconst (v := 0) dX1_empty_11 (by decide) ?_
  refine pf_X1_2 fl_X1_18 (lk3 hG) dX1_empty_12 (aw_nameI fun I_5 e_6 => ?_)
  have h := h I_5 e_6
  exact aw_vret rfl dX1_empty_15 ⟨rfl, rfl, h⟩
theorem M_X1_empty {l : Launch} {D : va_G} {cy : Nat → ClassId} {sz : Nat} {G : sw_G} (hG : sw_lay G)   {Q : sw_I → sw_J → Prop} {x1 : Int32} {I : sw_I} {J : sw_J} (h : wp_X1_empty x1 I J Q) : Met l yX1_empty (Cond.code yX1_empty cX1_empty 2 none :: sw_T) rm_X1_empty (sw_Pc D cy sz [.ref (sz + 3), .int x1] G I J) (sw_Q D cy sz (sw_qv G Q)) 0 0 (fun q => sz ≤ q) :=
  sw_met (by decide) (fun q => by cases q) (Nat.le_of_ble_eq_true rfl) rfl (t_X1_empty hG  h)
-- X1_hasFloor
abbrev rm_X1_hasFloor : Room := { frames := 0, cells := 0, slots := 0, locals := 0 }
def wp_X1_hasFloor (x1 : Int32) (I : sw_I) (J : sw_J) (Q : Int32 → sw_I → sw_J → Prop) : Prop :=
  sw_if (x1 < 0) (Q 0 I J) (sw_if (x1 < (I 3 0)) (Q 1 I J) (Q 0 I J))
set_option maxRecDepth 20000 in
theorem t_X1_hasFloor {l : Launch} {D : va_G} {cy : Nat → ClassId} {sz : Nat} {G : sw_G} (hG : sw_lay G)   {Q : Int32 → sw_I → sw_J → Prop} {x1 : Int32} {I : sw_I} {J : sw_J} (h : wp_X1_hasFloor x1 I J Q) : AW l D cy sz RX1 cX1_hasFloor 2 (some .boolean) false rm_X1_hasFloor 0 0 (sw_qi G Q) 0 0 G I J 0 [(0, .ref (sz + 3)), (1, .int x1)] [] := by
  unfold wp_X1_hasFloor at h
  refine aw_iload_n 1 dX1_hasFloor_0 rfl rfl ?_
  refine aw_zlt 16 dX1_hasFloor_1 (by decide) (fun c_1 => ?_) (fun c_1 => ?_)
  · have h := sw_if.t h c_1
    refine aw_iconst (v := 0) dX1_hasFloor_16 (by decide) ?_
    exact aw_zret rfl rfl dX1_hasFloor_17 ⟨rfl, _, rfl, h⟩
  · have h := sw_if.f h c_1
    refine aw_iload_n 1 dX1_hasFloor_4 rfl rfl ?_
    refine aw_aload_n 0 dX1_hasFloor_5 rfl rfl ?_
    refine gf_X1_0 fl_X1_9 (lk3 hG) dX1_hasFloor_6 ?_
    refine aw_jge 16 dX1_hasFloor_9 (by decide) (fun c_2 => ?_) (fun c_2 => ?_)
    · have h := sw_if.f h c_2
      refine aw_iconst (v := 0) dX1_hasFloor_16 (by decide) ?_
      exact aw_zret rfl rfl dX1_hasFloor_17 ⟨rfl, _, rfl, h⟩
    · have h := sw_if.t h c_2
      refine aw_iconst (v := 1) dX1_hasFloor_12 (by decide) ?_
      refine aw_goto 17 dX1_hasFloor_13 (by decide) ?_
      exact aw_zret rfl rfl dX1_hasFloor_17 ⟨rfl, _, rfl, h⟩
theorem M_X1_hasFloor {l : Launch} {D : va_G} {cy : Nat → ClassId} {sz : Nat} {G : sw_G} (hG : sw_lay G)   {Q : Int32 → sw_I → sw_J → Prop} {x1 : Int32} {I : sw_I} {J : sw_J} (h : wp_X1_hasFloor x1 I J Q) : Met l yX1_hasFloor (Cond.code yX1_hasFloor cX1_hasFloor 2 (some .boolean) :: sw_T) rm_X1_hasFloor (sw_Pc D cy sz [.ref (sz + 3), .int x1] G I J) (sw_Q D cy sz (sw_qi G Q)) 0 0 (fun q => sz ≤ q) :=
  sw_met (by decide) (fun q => by cases q) (Nat.le_of_ble_eq_true rfl) rfl (t_X1_hasFloor hG  h)
-- X1_canBeWish
abbrev rm_X1_canBeWish : Room := { frames := 1, cells := 0, slots := 0, locals := 21 }
def wB_X1_canBeWish_13   (Q : Int32 → sw_I → sw_J → Prop)  (I : sw_I) (J : sw_J) : Prop :=
  Q 1 I J
def wp_X1_canBeWish (x1 : Int32) (I : sw_I) (J : sw_J) (Q : Int32 → sw_I → sw_J → Prop) : Prop :=
  sw_if (x1 = (-1 : Int32)) (wB_X1_canBeWish_13   Q  I J) (wp_X1_hasFloor x1 I J (fun r_2 I_3 J_4 => sw_if (r_2 = 0) (Q 0 I_3 J_4) (wB_X1_canBeWish_13   Q  I_3 J_4)))
set_option maxRecDepth 20000 in
theorem t_X1_canBeWish_13 {l : Launch} {D : va_G} {cy : Nat → ClassId} {sz : Nat} {G : sw_G} (hG : sw_lay G)   {Q : Int32 → sw_I → sw_J → Prop}  {I : sw_I} {J : sw_J} (h : wB_X1_canBeWish_13   Q  I J) : AW l D cy sz RX1 cX1_canBeWish 2 (some .boolean) false rm_X1_canBeWish 0 0 (sw_qi G Q) 0 0 G I J 13 [] [] := by
  unfold wB_X1_canBeWish_13 at h
  refine aw_iconst (v := 1) dX1_canBeWish_13 (by decide) ?_
  refine aw_goto 18 dX1_canBeWish_14 (by decide) ?_
  exact aw_zret rfl rfl dX1_canBeWish_18 ⟨rfl, _, rfl, h⟩
set_option maxRecDepth 20000 in
theorem t_X1_canBeWish {l : Launch} {D : va_G} {cy : Nat → ClassId} {sz : Nat} {G : sw_G} (hG : sw_lay G)   {Q : Int32 → sw_I → sw_J → Prop} {x1 : Int32} {I : sw_I} {J : sw_J} (h : wp_X1_canBeWish x1 I J Q) : AW l D cy sz RX1 cX1_canBeWish 2 (some .boolean) false rm_X1_canBeWish 0 0 (sw_qi G Q) 0 0 G I J 0 [(0, .ref (sz + 3)), (1, .int x1)] [] := by
  unfold wp_X1_canBeWish at h
  refine aw_iload_n 1 dX1_canBeWish_0 rfl rfl ?_
  refine aw_iconst (v := (-1)) dX1_canBeWish_1 (by decide) ?_
  refine aw_jeq 13 dX1_canBeWish_2 (by decide) (fun c_1 => ?_) (fun c_1 => ?_)
  · have h := sw_if.t h c_1
    refine aw_sub [] rfl ?_
    exact t_X1_canBeWish_13 hG   h
  · have h := sw_if.f h c_1
    refine aw_aload_n 0 dX1_canBeWish_5 rfl rfl ?_
    refine aw_iload_n 1 dX1_canBeWish_6 rfl rfl ?_
    refine aw_callV wv_X1_hasFloor (M_X1_hasFloor hG  h) ml_X1_42 rfl (by decide) (lk3 hG) rfl rfl (Nat.le_of_ble_eq_true rfl) ⟨rfl, rfl⟩ ⟨Nat.le_of_ble_eq_true rfl, Nat.le_of_ble_eq_true rfl⟩ ⟨Nat.le_refl _, Nat.le_refl _⟩ dX1_canBeWish_7 (aw_ki fun r_2 I_3 J_4 h => ?_)
    refine aw_zeq 17 dX1_canBeWish_10 (by decide) (fun c_5 => ?_) (fun c_5 => ?_)
    · have h := sw_if.t h c_5
      refine aw_iconst (v := 0) dX1_canBeWish_17 (by decide) ?_
      exact aw_zret rfl rfl dX1_canBeWish_18 ⟨rfl, _, rfl, h⟩
    · have h := sw_if.f h c_5
      refine aw_sub [] rfl ?_
      exact t_X1_canBeWish_13 hG   h
theorem M_X1_canBeWish {l : Launch} {D : va_G} {cy : Nat → ClassId} {sz : Nat} {G : sw_G} (hG : sw_lay G)   {Q : Int32 → sw_I → sw_J → Prop} {x1 : Int32} {I : sw_I} {J : sw_J} (h : wp_X1_canBeWish x1 I J Q) : Met l yX1_canBeWish (Cond.code yX1_canBeWish cX1_canBeWish 2 (some .boolean) :: sw_T) rm_X1_canBeWish (sw_Pc D cy sz [.ref (sz + 3), .int x1] G I J) (sw_Q D cy sz (sw_qi G Q)) 0 0 (fun q => sz ≤ q) :=
  sw_met (by decide) (fun q => by cases q) (Nat.le_of_ble_eq_true rfl) rfl (t_X1_canBeWish hG  h)
-- X1_hasRider
abbrev rm_X1_hasRider : Room := { frames := 0, cells := 0, slots := 0, locals := 0 }
def wp_X1_hasRider (x1 : Int32) (I : sw_I) (J : sw_J) (Q : Int32 → sw_I → sw_J → Prop) : Prop :=
  sw_if (x1 < 0) (Q 0 I J) (sw_if (x1 < (I 3 2)) (Q 1 I J) (Q 0 I J))
set_option maxRecDepth 20000 in
theorem t_X1_hasRider {l : Launch} {D : va_G} {cy : Nat → ClassId} {sz : Nat} {G : sw_G} (hG : sw_lay G)   {Q : Int32 → sw_I → sw_J → Prop} {x1 : Int32} {I : sw_I} {J : sw_J} (h : wp_X1_hasRider x1 I J Q) : AW l D cy sz RX1 cX1_hasRider 2 (some .boolean) false rm_X1_hasRider 0 0 (sw_qi G Q) 0 0 G I J 0 [(0, .ref (sz + 3)), (1, .int x1)] [] := by
  unfold wp_X1_hasRider at h
  refine aw_iload_n 1 dX1_hasRider_0 rfl rfl ?_
  refine aw_zlt 16 dX1_hasRider_1 (by decide) (fun c_1 => ?_) (fun c_1 => ?_)
  · have h := sw_if.t h c_1
    refine aw_iconst (v := 0) dX1_hasRider_16 (by decide) ?_
    exact aw_zret rfl rfl dX1_hasRider_17 ⟨rfl, _, rfl, h⟩
  · have h := sw_if.f h c_1
    refine aw_iload_n 1 dX1_hasRider_4 rfl rfl ?_
    refine aw_aload_n 0 dX1_hasRider_5 rfl rfl ?_
    refine gf_X1_2 fl_X1_18 (lk3 hG) dX1_hasRider_6 ?_
    refine aw_jge 16 dX1_hasRider_9 (by decide) (fun c_2 => ?_) (fun c_2 => ?_)
    · have h := sw_if.f h c_2
      refine aw_iconst (v := 0) dX1_hasRider_16 (by decide) ?_
      exact aw_zret rfl rfl dX1_hasRider_17 ⟨rfl, _, rfl, h⟩
    · have h := sw_if.t h c_2
      refine aw_iconst (v := 1) dX1_hasRider_12 (by decide) ?_
      refine aw_goto 17 dX1_hasRider_13 (by decide) ?_
      exact aw_zret rfl rfl dX1_hasRider_17 ⟨rfl, _, rfl, h⟩
theorem M_X1_hasRider {l : Launch} {D : va_G} {cy : Nat → ClassId} {sz : Nat} {G : sw_G} (hG : sw_lay G)   {Q : Int32 → sw_I → sw_J → Prop} {x1 : Int32} {I : sw_I} {J : sw_J} (h : wp_X1_hasRider x1 I J Q) : Met l yX1_hasRider (Cond.code yX1_hasRider cX1_hasRider 2 (some .boolean) :: sw_T) rm_X1_hasRider (sw_Pc D cy sz [.ref (sz + 3), .int x1] G I J) (sw_Q D cy sz (sw_qi G Q)) 0 0 (fun q => sz ≤ q) :=
  sw_met (by decide) (fun q => by cases q) (Nat.le_of_ble_eq_true rfl) rfl (t_X1_hasRider hG  h)
-- X1_everybody
abbrev rm_X1_everybody : Room := { frames := 0, cells := 0, slots := 0, locals := 0 }
def wp_X1_everybody  (I : sw_I) (J : sw_J) (Q : Int32 → sw_I → sw_J → Prop) : Prop :=
  Q (((1 : Int32) <<< ((I 3 2) &&& 31)) - (1 : Int32)) I J
set_option maxRecDepth 20000 in
theorem t_X1_everybody {l : Launch} {D : va_G} {cy : Nat → ClassId} {sz : Nat} {G : sw_G} (hG : sw_lay G)   {Q : Int32 → sw_I → sw_J → Prop}  {I : sw_I} {J : sw_J} (h : wp_X1_everybody  I J Q) : AW l D cy sz RX1 cX1_everybody 1 (some .int) false rm_X1_everybody 0 0 (sw_qi G Q) 0 0 G I J 0 [(0, .ref (sz + 3))] [] := by
  unfold wp_X1_everybody at h
  refine aw_iconst (v := 1) dX1_everybody_0 (by decide) ?_
  refine aw_aload_n 0 dX1_everybody_1 rfl rfl ?_
  refine gf_X1_2 fl_X1_18 (lk3 hG) dX1_everybody_2 ?_
  refine aw_ishl dX1_everybody_5 ?_
  refine aw_iconst (v := 1) dX1_everybody_6 (by decide) ?_
  refine aw_isub dX1_everybody_7 ?_
  exact aw_iret rfl dX1_everybody_8 ⟨rfl, _, rfl, h⟩
theorem M_X1_everybody {l : Launch} {D : va_G} {cy : Nat → ClassId} {sz : Nat} {G : sw_G} (hG : sw_lay G)   {Q : Int32 → sw_I → sw_J → Prop}  {I : sw_I} {J : sw_J} (h : wp_X1_everybody  I J Q) : Met l yX1_everybody (Cond.code yX1_everybody cX1_everybody 1 (some .int) :: sw_T) rm_X1_everybody (sw_Pc D cy sz [.ref (sz + 3)] G I J) (sw_Q D cy sz (sw_qi G Q)) 0 0 (fun q => sz ≤ q) :=
  sw_met (by decide) (fun q => by cases q) (Nat.le_of_ble_eq_true rfl) rfl (t_X1_everybody hG  h)
-- X1_addAt
abbrev rm_X1_addAt : Room := { frames := 0, cells := 0, slots := 0, locals := 0 }
def wp_X1_addAt (b0 : Nat) (n0 : Nat) (x1 : Int32) (I : sw_I) (J : sw_J) (Q : sw_I → sw_J → Prop) : Prop :=
  sw_if (x1 < 0) (Q I J) (sw_if (x1 < (Int32.ofNat n0)) (vp_in x1 n0 ∧ vp_in x1 n0 ∧ ∀ I_5 : sw_I, I_5 = sw_up I b0 x1.toNatClampNeg ((I b0 x1.toNatClampNeg) + (1 : Int32)) → Q I_5 J) (Q I J))
set_option maxRecDepth 20000 in
theorem t_X1_addAt {l : Launch} {D : va_G} {cy : Nat → ClassId} {sz : Nat} {G : sw_G} (hG : True) {b0 : Nat} {n0 : Nat} (hb0 : sw_ia G b0 n0) {Q : sw_I → sw_J → Prop} {x1 : Int32} {I : sw_I} {J : sw_J} (h : wp_X1_addAt b0 n0 x1 I J Q) : AW l D cy sz RX1 cX1_addAt 2 none false rm_X1_addAt 0 0 (sw_qv G Q) 0 0 G I J 0 [(0, .ref (sz + b0)), (1, .int x1)] [] := by
  unfold wp_X1_addAt at h
  refine aw_iload_n 1 dX1_addAt_0 rfl rfl ?_
  refine aw_zlt 17 dX1_addAt_1 (by decide) (fun c_1 => ?_) (fun c_1 => ?_)
  · have h := sw_if.t h c_1
    exact aw_vret rfl dX1_addAt_17 ⟨rfl, rfl, h⟩
  · have h := sw_if.f h c_1
    refine aw_iload_n 1 dX1_addAt_4 rfl rfl ?_
    refine aw_aload_n 0 dX1_addAt_5 rfl rfl ?_
    refine aw_alen dX1_addAt_6 hb0.1 hb0.2 ?_
    refine aw_jge 17 dX1_addAt_7 (by decide) (fun c_2 => ?_) (fun c_2 => ?_)
    · have h := sw_if.f h c_2
      exact aw_vret rfl dX1_addAt_17 ⟨rfl, rfl, h⟩
    · have h := sw_if.t h c_2
      refine aw_aload_n 0 dX1_addAt_10 rfl rfl ?_
      refine aw_iload_n 1 dX1_addAt_11 rfl rfl ?_
      refine aw_dup2 dX1_addAt_12 rfl rfl ?_
      obtain ⟨hi_3, h⟩ := h
      refine aw_ild dX1_addAt_13 hb0.1 hb0.2 hi_3 ?_
      refine aw_iconst (v := 1) dX1_addAt_14 (by decide) ?_
      refine aw_iadd dX1_addAt_15 ?_
      obtain ⟨hi_4, h⟩ := h
      refine aw_ist dX1_addAt_16 hb0.1 hb0.2 hi_4 (aw_nameI fun I_5 e_6 => ?_)
      have h := h I_5 e_6
      exact aw_vret rfl dX1_addAt_17 ⟨rfl, rfl, h⟩
theorem M_X1_addAt {l : Launch} {D : va_G} {cy : Nat → ClassId} {sz : Nat} {G : sw_G} (hG : True) {b0 : Nat} {n0 : Nat} (hb0 : sw_ia G b0 n0) {Q : sw_I → sw_J → Prop} {x1 : Int32} {I : sw_I} {J : sw_J} (h : wp_X1_addAt b0 n0 x1 I J Q) : Met l yX1_addAt (Cond.code yX1_addAt cX1_addAt 2 none :: sw_T) rm_X1_addAt (sw_Pc D cy sz [.ref (sz + b0), .int x1] G I J) (sw_Q D cy sz (sw_qv G Q)) 0 0 (fun q => sz ≤ q) :=
  sw_met (by decide) (fun q => by cases q) (Nat.le_of_ble_eq_true rfl) rfl (t_X1_addAt hG hb0 h)
-- X1_homeAt
abbrev rm_X1_homeAt : Room := { frames := 0, cells := 0, slots := 0, locals := 0 }
def wB_X1_homeAt_41  (K5 : Int32 → Int32 → Int32 → Int32 → sw_I → sw_J → Prop) (Q : Int32 → sw_I → sw_J → Prop) (x1 : Int32) (x2 : Int32) (x3 : Int32) (x4 : Int32) (I : sw_I) (J : sw_J) : Prop :=
  ∀ y_1 : Int32, y_1 = x4 + 1 → K5 x1 x2 x3 y_1 I J
def wb_X1_homeAt_5  (K5 : Int32 → Int32 → Int32 → Int32 → sw_I → sw_J → Prop) (Q : Int32 → sw_I → sw_J → Prop) (x1 : Int32) (x2 : Int32) (x3 : Int32) (x4 : Int32) (I : sw_I) (J : sw_J) : Prop :=
  sw_if (x4 < (I 3 2)) (sw_if (((x1 >>> (x4 &&& 31)) &&& (1 : Int32)) = 0) (wB_X1_homeAt_41  K5 Q x1 x2 x3 x4 I J) (vp_in x4 10 ∧ sw_if ((I 4 x4.toNatClampNeg) = x2) (∀ y_5 : Int32, y_5 = x3 ||| ((1 : Int32) <<< (x4 &&& 31)) → wB_X1_homeAt_41  K5 Q x1 x2 y_5 x4 I J) (wB_X1_homeAt_41  K5 Q x1 x2 x3 x4 I J))) (Q x3 I J)
def wl_X1_homeAt_5   (Q : Int32 → sw_I → sw_J → Prop) : Nat → Int32 → Int32 → Int32 → Int32 → sw_I → sw_J → Prop
  | 0 => fun _ _ _ _ _ _ => False
  | n + 1 => fun x1 x2 x3 x4 I J => wb_X1_homeAt_5  (wl_X1_homeAt_5   Q n) Q x1 x2 x3 x4 I J
def wp_X1_homeAt (x1 : Int32) (x2 : Int32) (I : sw_I) (J : sw_J) (Q : Int32 → sw_I → sw_J → Prop) : Prop :=
  ∃ n_1 : Nat, wl_X1_homeAt_5   Q n_1 x1 x2 0 0 I J
set_option maxRecDepth 20000 in
theorem t_X1_homeAt_41 {l : Launch} {D : va_G} {cy : Nat → ClassId} {sz : Nat} {G : sw_G} (hG : sw_lay G)   {Q : Int32 → sw_I → sw_J → Prop} {K5 : Int32 → Int32 → Int32 → Int32 → sw_I → sw_J → Prop} (hK5 : ∀ (x1 : Int32) (x2 : Int32) (x3 : Int32) (x4 : Int32) (I : sw_I) (J : sw_J), K5 x1 x2 x3 x4 I J → AW l D cy sz RX1 cX1_homeAt 5 (some .int) false rm_X1_homeAt 0 0 (sw_qi G Q) 0 0 G I J 5 [(0, .ref (sz + 3)), (1, .int x1), (2, .int x2), (3, .int x3), (4, .int x4)] []) {x1 : Int32} {x2 : Int32} {x3 : Int32} {x4 : Int32} {I : sw_I} {J : sw_J} (h : wB_X1_homeAt_41  K5 Q x1 x2 x3 x4 I J) : AW l D cy sz RX1 cX1_homeAt 5 (some .int) false rm_X1_homeAt 0 0 (sw_qi G Q) 0 0 G I J 41 [(0, .ref (sz + 3)), (1, .int x1), (2, .int x2), (3, .int x3), (4, .int x4)] [] := by
  unfold wB_X1_homeAt_41 at h
  obtain ⟨y_1, e_2⟩ : ∃ q : Int32, q = x4 + 1 := ⟨_, rfl⟩
  have h := h y_1 e_2
  refine aw_iinc (lv' := [(4, .int y_1), (0, .ref (sz + 3)), (1, .int x1), (2, .int x2), (3, .int x3)]) 4 dX1_homeAt_41 rfl (by rw [e_2]; rfl) (by decide) rfl ?_
  refine aw_goto 5 dX1_homeAt_44 (by decide) ?_
  refine aw_sub [1, 2, 3, 4, 0] rfl ?_
  exact hK5 x1 x2 x3 y_1 I J h
set_option maxRecDepth 20000 in
theorem tb_X1_homeAt_5 {l : Launch} {D : va_G} {cy : Nat → ClassId} {sz : Nat} {G : sw_G} (hG : sw_lay G)   {Q : Int32 → sw_I → sw_J → Prop} {K5 : Int32 → Int32 → Int32 → Int32 → sw_I → sw_J → Prop} (hK5 : ∀ (x1 : Int32) (x2 : Int32) (x3 : Int32) (x4 : Int32) (I : sw_I) (J : sw_J), K5 x1 x2 x3 x4 I J → AW l D cy sz RX1 cX1_homeAt 5 (some .int) false rm_X1_homeAt 0 0 (sw_qi G Q) 0 0 G I J 5 [(0, .ref (sz + 3)), (1, .int x1), (2, .int x2), (3, .int x3), (4, .int x4)] []) {x1 : Int32} {x2 : Int32} {x3 : Int32} {x4 : Int32} {I : sw_I} {J : sw_J} (h : wb_X1_homeAt_5  K5 Q x1 x2 x3 x4 I J) : AW l D cy sz RX1 cX1_homeAt 5 (some .int) false rm_X1_homeAt 0 0 (sw_qi G Q) 0 0 G I J 5 [(0, .ref (sz + 3)), (1, .int x1), (2, .int x2), (3, .int x3), (4, .int x4)] [] := by
  unfold wb_X1_homeAt_5 at h
  refine aw_iload 4 dX1_homeAt_5 rfl ?_
  refine aw_aload_n 0 dX1_homeAt_7 rfl rfl ?_
  refine gf_X1_2 fl_X1_18 (lk3 hG) dX1_homeAt_8 ?_
  refine aw_jge 47 dX1_homeAt_11 (by decide) (fun c_1 => ?_) (fun c_1 => ?_)
  · have h := sw_if.f h c_1
    refine aw_iload_n 3 dX1_homeAt_47 rfl rfl ?_
    exact aw_iret rfl dX1_homeAt_48 ⟨rfl, _, rfl, h⟩
  · have h := sw_if.t h c_1
    refine aw_iload_n 1 dX1_homeAt_14 rfl rfl ?_
    refine aw_iload 4 dX1_homeAt_15 rfl ?_
    refine aw_ishr dX1_homeAt_17 ?_
    refine aw_iconst (v := 1) dX1_homeAt_18 (by decide) ?_
    refine aw_iand dX1_homeAt_19 ?_
    refine aw_zeq 41 dX1_homeAt_20 (by decide) (fun c_2 => ?_) (fun c_2 => ?_)
    · have h := sw_if.t h c_2
      refine aw_sub [0, 1, 2, 3, 4] rfl ?_
      exact t_X1_homeAt_41 hG  hK5 h
    · have h := sw_if.f h c_2
      refine aw_aload_n 0 dX1_homeAt_23 rfl rfl ?_
      refine gf_X1_3 fl_X1_21 (lk3 hG) (lr3_3 hG) dX1_homeAt_24 ?_
      refine aw_iload 4 dX1_homeAt_27 rfl ?_
      obtain ⟨hi_3, h⟩ := h
      refine aw_ild dX1_homeAt_29 (lk4 hG) (ln4 hG) hi_3 ?_
      refine aw_iload_n 2 dX1_homeAt_30 rfl rfl ?_
      refine aw_jne 41 dX1_homeAt_31 (by decide) (fun c_4 => ?_) (fun c_4 => ?_)
      · have h := sw_if.f h c_4
        refine aw_sub [0, 1, 2, 3, 4] rfl ?_
        exact t_X1_homeAt_41 hG  hK5 h
      · have h := sw_if.t h c_4
        refine aw_iload_n 3 dX1_homeAt_34 rfl rfl ?_
        refine aw_iconst (v := 1) dX1_homeAt_35 (by decide) ?_
        refine aw_iload 4 dX1_homeAt_36 rfl ?_
        refine aw_ishl dX1_homeAt_38 ?_
        refine aw_ior dX1_homeAt_39 ?_
        refine aw_topi (fun y_5 e_6 => ?_)
        have h := h y_5 e_6
        refine aw_istore_n (lv' := [(3, .int y_5), (0, .ref (sz + 3)), (1, .int x1), (2, .int x2), (4, .int x4)]) dX1_homeAt_40 rfl (by decide) rfl ?_
        refine aw_sub [1, 2, 3, 0, 4] rfl ?_
        exact t_X1_homeAt_41 hG  hK5 h
set_option maxRecDepth 20000 in
theorem tl_X1_homeAt_5 {l : Launch} {D : va_G} {cy : Nat → ClassId} {sz : Nat} {G : sw_G} (hG : sw_lay G)   {Q : Int32 → sw_I → sw_J → Prop} : ∀ (n : Nat) (x1 : Int32) (x2 : Int32) (x3 : Int32) (x4 : Int32) (I : sw_I) (J : sw_J), wl_X1_homeAt_5   Q n x1 x2 x3 x4 I J → AW l D cy sz RX1 cX1_homeAt 5 (some .int) false rm_X1_homeAt 0 0 (sw_qi G Q) 0 0 G I J 5 [(0, .ref (sz + 3)), (1, .int x1), (2, .int x2), (3, .int x3), (4, .int x4)] [] := by
  intro n
  induction n with
  | zero => intro x1 x2 x3 x4 I J h; exact False.elim h
  | succ n ih => intro x1 x2 x3 x4 I J h; exact tb_X1_homeAt_5 hG  ih h
set_option maxRecDepth 20000 in
theorem t_X1_homeAt {l : Launch} {D : va_G} {cy : Nat → ClassId} {sz : Nat} {G : sw_G} (hG : sw_lay G)   {Q : Int32 → sw_I → sw_J → Prop} {x1 : Int32} {x2 : Int32} {I : sw_I} {J : sw_J} (h : wp_X1_homeAt x1 x2 I J Q) : AW l D cy sz RX1 cX1_homeAt 5 (some .int) false rm_X1_homeAt 0 0 (sw_qi G Q) 0 0 G I J 0 [(0, .ref (sz + 3)), (1, .int x1), (2, .int x2)] [] := by
  unfold wp_X1_homeAt at h
  refine aw_iconst (v := 0) dX1_homeAt_0 (by decide) ?_
  refine aw_istore_n (lv' := [(3, .int 0), (0, .ref (sz + 3)), (1, .int x1), (2, .int x2)]) dX1_homeAt_1 rfl (by decide) rfl ?_
  refine aw_iconst (v := 0) dX1_homeAt_2 (by decide) ?_
  refine aw_istore (lv' := [(4, .int 0), (3, .int 0), (0, .ref (sz + 3)), (1, .int x1), (2, .int x2)]) dX1_homeAt_3 (by decide) rfl ?_
  refine aw_sub [2, 3, 4, 1, 0] rfl ?_
  obtain ⟨n_1, h⟩ := h
  exact tl_X1_homeAt_5 hG   n_1 x1 x2 0 0 I J h
theorem M_X1_homeAt {l : Launch} {D : va_G} {cy : Nat → ClassId} {sz : Nat} {G : sw_G} (hG : sw_lay G)   {Q : Int32 → sw_I → sw_J → Prop} {x1 : Int32} {x2 : Int32} {I : sw_I} {J : sw_J} (h : wp_X1_homeAt x1 x2 I J Q) : Met l yX1_homeAt (Cond.code yX1_homeAt cX1_homeAt 5 (some .int) :: sw_T) rm_X1_homeAt (sw_Pc D cy sz [.ref (sz + 3), .int x1, .int x2] G I J) (sw_Q D cy sz (sw_qi G Q)) 0 0 (fun q => sz ≤ q) :=
  sw_met (by decide) (fun q => by cases q) (Nat.le_of_ble_eq_true rfl) rfl (t_X1_homeAt hG  h)
-- X1_nextPlace
abbrev rm_X1_nextPlace : Room := { frames := 1, cells := 0, slots := 0, locals := 21 }
def wB_X1_nextPlace_86   (Q : Int32 → sw_I → sw_J → Prop)  (I : sw_I) (J : sw_J) : Prop :=
  Q (3 : Int32) I J
def wB_X1_nextPlace_134   (Q : Int32 → sw_I → sw_J → Prop) (x2 : Int32) (I : sw_I) (J : sw_J) : Prop :=
  sw_if (x2 = (59 : Int32)) (Q (0 : Int32) I J) (Q (-1 : Int32) I J)
def wp_X1_nextPlace (x1 : Int32) (x2 : Int32) (x3 : Int32) (I : sw_I) (J : sw_J) (Q : Int32 → sw_I → sw_J → Prop) : Prop :=
  sw_if (x1 = 0) (wp_X1_hasFloor (x2 - (48 : Int32)) I J (fun r_2 I_3 J_4 => sw_if (r_2 = 0) (Q (-1 : Int32) I_3 J_4) (Q (1 : Int32) I_3 J_4))) (sw_if (x1 = 1) (sw_if (x2 = (62 : Int32)) (Q (2 : Int32) I J) (Q (-1 : Int32) I J)) (sw_if (x1 = 2) (sw_if (x2 = (45 : Int32)) (wB_X1_nextPlace_86   Q  I J) (wp_X1_hasFloor (x2 - (48 : Int32)) I J (fun r_10 I_11 J_12 => sw_if (r_10 = 0) (Q (-1 : Int32) I_11 J_12) (wB_X1_nextPlace_86   Q  I_11 J_12)))) (sw_if (x1 = 3) (sw_if (x2 = (64 : Int32)) (Q (4 : Int32) I J) (Q (-1 : Int32) I J)) (sw_if (x1 = 4) (wp_X1_hasFloor (x2 - (48 : Int32)) I J (fun r_17 I_18 J_19 => sw_if (r_17 = 0) (Q (-1 : Int32) I_18 J_19) (Q (5 : Int32) I_18 J_19))) (sw_if (x1 = 5) (sw_if (x2 = (33 : Int32)) (sw_if (x3 = 0) (wB_X1_nextPlace_134   Q x2 I J) (Q (6 : Int32) I J)) (wB_X1_nextPlace_134   Q x2 I J)) (sw_if (x2 = (59 : Int32)) (Q (0 : Int32) I J) (Q (-1 : Int32) I J)))))))
set_option maxRecDepth 20000 in
theorem t_X1_nextPlace_86 {l : Launch} {D : va_G} {cy : Nat → ClassId} {sz : Nat} {G : sw_G} (hG : sw_lay G)   {Q : Int32 → sw_I → sw_J → Prop}  {I : sw_I} {J : sw_J} (h : wB_X1_nextPlace_86   Q  I J) : AW l D cy sz RX1 cX1_nextPlace 4 (some .int) false rm_X1_nextPlace 0 0 (sw_qi G Q) 0 0 G I J 86 [] [] := by
  unfold wB_X1_nextPlace_86 at h
  refine aw_iconst (v := 3) dX1_nextPlace_86 (by decide) ?_
  refine aw_goto 91 dX1_nextPlace_87 (by decide) ?_
  exact aw_iret rfl dX1_nextPlace_91 ⟨rfl, _, rfl, h⟩
set_option maxRecDepth 20000 in
theorem t_X1_nextPlace_134 {l : Launch} {D : va_G} {cy : Nat → ClassId} {sz : Nat} {G : sw_G} (hG : sw_lay G)   {Q : Int32 → sw_I → sw_J → Prop} {x2 : Int32} {I : sw_I} {J : sw_J} (h : wB_X1_nextPlace_134   Q x2 I J) : AW l D cy sz RX1 cX1_nextPlace 4 (some .int) false rm_X1_nextPlace 0 0 (sw_qi G Q) 0 0 G I J 134 [(2, .int x2)] [] := by
  unfold wB_X1_nextPlace_134 at h
  refine aw_iload_n 0 dX1_nextPlace_134 rfl rfl ?_
  refine aw_bipush (v := 59) dX1_nextPlace_135 (by decide) ?_
  refine aw_jne 144 dX1_nextPlace_137 (by decide) (fun c_1 => ?_) (fun c_1 => ?_)
  · have h := sw_if.f h c_1
    refine aw_iconst (v := (-1)) dX1_nextPlace_144 (by decide) ?_
    exact aw_iret rfl dX1_nextPlace_145 ⟨rfl, _, rfl, h⟩
  · have h := sw_if.t h c_1
    refine aw_iconst (v := 0) dX1_nextPlace_140 (by decide) ?_
    refine aw_goto 145 dX1_nextPlace_141 (by decide) ?_
    exact aw_iret rfl dX1_nextPlace_145 ⟨rfl, _, rfl, h⟩
set_option maxRecDepth 20000 in
theorem t_X1_nextPlace {l : Launch} {D : va_G} {cy : Nat → ClassId} {sz : Nat} {G : sw_G} (hG : sw_lay G)   {Q : Int32 → sw_I → sw_J → Prop} {x1 : Int32} {x2 : Int32} {x3 : Int32} {I : sw_I} {J : sw_J} (h : wp_X1_nextPlace x1 x2 x3 I J Q) : AW l D cy sz RX1 cX1_nextPlace 4 (some .int) false rm_X1_nextPlace 0 0 (sw_qi G Q) 0 0 G I J 0 [(0, .ref (sz + 3)), (1, .int x1), (2, .int x2), (3, .int x3)] [] := by
  unfold wp_X1_nextPlace at h
  refine aw_iload_n 1 dX1_nextPlace_0 rfl rfl ?_
  by_cases c_1 : x1 = 0
  · have h := sw_if.t h c_1; refine aw_tableIn 40 dX1_nextPlace_1 (by rw [c_1]; decide) (by rw [c_1]; decide) (by rw [c_1]; rfl) (by decide) ?_
    refine aw_aload_n 0 dX1_nextPlace_40 rfl rfl ?_
    refine aw_iload_n 2 dX1_nextPlace_41 rfl rfl ?_
    refine aw_bipush (v := 48) dX1_nextPlace_42 (by decide) ?_
    refine aw_isub dX1_nextPlace_44 ?_
    refine aw_callV wv_X1_hasFloor (M_X1_hasFloor hG  h) ml_X1_42 rfl (by decide) (lk3 hG) rfl rfl (Nat.le_of_ble_eq_true rfl) ⟨rfl, rfl⟩ ⟨Nat.le_of_ble_eq_true rfl, Nat.le_of_ble_eq_true rfl⟩ ⟨Nat.le_refl _, Nat.le_refl _⟩ dX1_nextPlace_45 (aw_ki fun r_2 I_3 J_4 h => ?_)
    refine aw_zeq 55 dX1_nextPlace_48 (by decide) (fun c_5 => ?_) (fun c_5 => ?_)
    · have h := sw_if.t h c_5
      refine aw_iconst (v := (-1)) dX1_nextPlace_55 (by decide) ?_
      exact aw_iret rfl dX1_nextPlace_56 ⟨rfl, _, rfl, h⟩
    · have h := sw_if.f h c_5
      refine aw_iconst (v := 1) dX1_nextPlace_51 (by decide) ?_
      refine aw_goto 56 dX1_nextPlace_52 (by decide) ?_
      exact aw_iret rfl dX1_nextPlace_56 ⟨rfl, _, rfl, h⟩
  · have h := sw_if.f h c_1
    by_cases c_6 : x1 = 1
    · have h := sw_if.t h c_6; refine aw_tableIn 57 dX1_nextPlace_1 (by rw [c_6]; decide) (by rw [c_6]; decide) (by rw [c_6]; rfl) (by decide) ?_
      refine aw_iload_n 2 dX1_nextPlace_57 rfl rfl ?_
      refine aw_bipush (v := 62) dX1_nextPlace_58 (by decide) ?_
      refine aw_jne 67 dX1_nextPlace_60 (by decide) (fun c_7 => ?_) (fun c_7 => ?_)
      · have h := sw_if.f h c_7
        refine aw_iconst (v := (-1)) dX1_nextPlace_67 (by decide) ?_
        exact aw_iret rfl dX1_nextPlace_68 ⟨rfl, _, rfl, h⟩
      · have h := sw_if.t h c_7
        refine aw_iconst (v := 2) dX1_nextPlace_63 (by decide) ?_
        refine aw_goto 68 dX1_nextPlace_64 (by decide) ?_
        exact aw_iret rfl dX1_nextPlace_68 ⟨rfl, _, rfl, h⟩
    · have h := sw_if.f h c_6
      by_cases c_8 : x1 = 2
      · have h := sw_if.t h c_8; refine aw_tableIn 69 dX1_nextPlace_1 (by rw [c_8]; decide) (by rw [c_8]; decide) (by rw [c_8]; rfl) (by decide) ?_
        refine aw_iload_n 2 dX1_nextPlace_69 rfl rfl ?_
        refine aw_bipush (v := 45) dX1_nextPlace_70 (by decide) ?_
        refine aw_jeq 86 dX1_nextPlace_72 (by decide) (fun c_9 => ?_) (fun c_9 => ?_)
        · have h := sw_if.t h c_9
          refine aw_sub [] rfl ?_
          exact t_X1_nextPlace_86 hG   h
        · have h := sw_if.f h c_9
          refine aw_aload_n 0 dX1_nextPlace_75 rfl rfl ?_
          refine aw_iload_n 2 dX1_nextPlace_76 rfl rfl ?_
          refine aw_bipush (v := 48) dX1_nextPlace_77 (by decide) ?_
          refine aw_isub dX1_nextPlace_79 ?_
          refine aw_callV wv_X1_hasFloor (M_X1_hasFloor hG  h) ml_X1_42 rfl (by decide) (lk3 hG) rfl rfl (Nat.le_of_ble_eq_true rfl) ⟨rfl, rfl⟩ ⟨Nat.le_of_ble_eq_true rfl, Nat.le_of_ble_eq_true rfl⟩ ⟨Nat.le_refl _, Nat.le_refl _⟩ dX1_nextPlace_80 (aw_ki fun r_10 I_11 J_12 h => ?_)
          refine aw_zeq 90 dX1_nextPlace_83 (by decide) (fun c_13 => ?_) (fun c_13 => ?_)
          · have h := sw_if.t h c_13
            refine aw_iconst (v := (-1)) dX1_nextPlace_90 (by decide) ?_
            exact aw_iret rfl dX1_nextPlace_91 ⟨rfl, _, rfl, h⟩
          · have h := sw_if.f h c_13
            refine aw_sub [] rfl ?_
            exact t_X1_nextPlace_86 hG   h
      · have h := sw_if.f h c_8
        by_cases c_14 : x1 = 3
        · have h := sw_if.t h c_14; refine aw_tableIn 92 dX1_nextPlace_1 (by rw [c_14]; decide) (by rw [c_14]; decide) (by rw [c_14]; rfl) (by decide) ?_
          refine aw_iload_n 2 dX1_nextPlace_92 rfl rfl ?_
          refine aw_bipush (v := 64) dX1_nextPlace_93 (by decide) ?_
          refine aw_jne 102 dX1_nextPlace_95 (by decide) (fun c_15 => ?_) (fun c_15 => ?_)
          · have h := sw_if.f h c_15
            refine aw_iconst (v := (-1)) dX1_nextPlace_102 (by decide) ?_
            exact aw_iret rfl dX1_nextPlace_103 ⟨rfl, _, rfl, h⟩
          · have h := sw_if.t h c_15
            refine aw_iconst (v := 4) dX1_nextPlace_98 (by decide) ?_
            refine aw_goto 103 dX1_nextPlace_99 (by decide) ?_
            exact aw_iret rfl dX1_nextPlace_103 ⟨rfl, _, rfl, h⟩
        · have h := sw_if.f h c_14
          by_cases c_16 : x1 = 4
          · have h := sw_if.t h c_16; refine aw_tableIn 104 dX1_nextPlace_1 (by rw [c_16]; decide) (by rw [c_16]; decide) (by rw [c_16]; rfl) (by decide) ?_
            refine aw_aload_n 0 dX1_nextPlace_104 rfl rfl ?_
            refine aw_iload_n 2 dX1_nextPlace_105 rfl rfl ?_
            refine aw_bipush (v := 48) dX1_nextPlace_106 (by decide) ?_
            refine aw_isub dX1_nextPlace_108 ?_
            refine aw_callV wv_X1_hasFloor (M_X1_hasFloor hG  h) ml_X1_42 rfl (by decide) (lk3 hG) rfl rfl (Nat.le_of_ble_eq_true rfl) ⟨rfl, rfl⟩ ⟨Nat.le_of_ble_eq_true rfl, Nat.le_of_ble_eq_true rfl⟩ ⟨Nat.le_refl _, Nat.le_refl _⟩ dX1_nextPlace_109 (aw_ki fun r_17 I_18 J_19 h => ?_)
            refine aw_zeq 119 dX1_nextPlace_112 (by decide) (fun c_20 => ?_) (fun c_20 => ?_)
            · have h := sw_if.t h c_20
              refine aw_iconst (v := (-1)) dX1_nextPlace_119 (by decide) ?_
              exact aw_iret rfl dX1_nextPlace_120 ⟨rfl, _, rfl, h⟩
            · have h := sw_if.f h c_20
              refine aw_iconst (v := 5) dX1_nextPlace_115 (by decide) ?_
              refine aw_goto 120 dX1_nextPlace_116 (by decide) ?_
              exact aw_iret rfl dX1_nextPlace_120 ⟨rfl, _, rfl, h⟩
          · have h := sw_if.f h c_16
            by_cases c_21 : x1 = 5
            · have h := sw_if.t h c_21; refine aw_tableIn 121 dX1_nextPlace_1 (by rw [c_21]; decide) (by rw [c_21]; decide) (by rw [c_21]; rfl) (by decide) ?_
              refine aw_iload_n 2 dX1_nextPlace_121 rfl rfl ?_
              refine aw_bipush (v := 33) dX1_nextPlace_122 (by decide) ?_
              refine aw_jne 134 dX1_nextPlace_124 (by decide) (fun c_22 => ?_) (fun c_22 => ?_)
              · have h := sw_if.f h c_22
                refine aw_sub [2] rfl ?_
                exact t_X1_nextPlace_134 hG   h
              · have h := sw_if.t h c_22
                refine aw_iload_n 3 dX1_nextPlace_127 rfl rfl ?_
                refine aw_zeq 134 dX1_nextPlace_128 (by decide) (fun c_23 => ?_) (fun c_23 => ?_)
                · have h := sw_if.t h c_23
                  refine aw_sub [2] rfl ?_
                  exact t_X1_nextPlace_134 hG   h
                · have h := sw_if.f h c_23
                  refine aw_bipush (v := 6) dX1_nextPlace_131 (by decide) ?_
                  exact aw_iret rfl dX1_nextPlace_133 ⟨rfl, _, rfl, h⟩
            · have h := sw_if.f h c_21
              refine aw_tableOut 146 dX1_nextPlace_1 (by have g0 := sw_ne c_1 (by decide : (0 : Int32).toInt = 0); have g1 := sw_ne c_6 (by decide : (1 : Int32).toInt = 1); have g2 := sw_ne c_8 (by decide : (2 : Int32).toInt = 2); have g3 := sw_ne c_14 (by decide : (3 : Int32).toInt = 3); have g4 := sw_ne c_16 (by decide : (4 : Int32).toInt = 4); have g5 := sw_ne c_21 (by decide : (5 : Int32).toInt = 5); omega) (by decide) ?_
              refine aw_iload_n 2 dX1_nextPlace_146 rfl rfl ?_
              refine aw_bipush (v := 59) dX1_nextPlace_147 (by decide) ?_
              refine aw_jne 156 dX1_nextPlace_149 (by decide) (fun c_24 => ?_) (fun c_24 => ?_)
              · have h := sw_if.f h c_24
                refine aw_iconst (v := (-1)) dX1_nextPlace_156 (by decide) ?_
                exact aw_iret rfl dX1_nextPlace_157 ⟨rfl, _, rfl, h⟩
              · have h := sw_if.t h c_24
                refine aw_iconst (v := 0) dX1_nextPlace_152 (by decide) ?_
                refine aw_goto 157 dX1_nextPlace_153 (by decide) ?_
                exact aw_iret rfl dX1_nextPlace_157 ⟨rfl, _, rfl, h⟩
theorem M_X1_nextPlace {l : Launch} {D : va_G} {cy : Nat → ClassId} {sz : Nat} {G : sw_G} (hG : sw_lay G)   {Q : Int32 → sw_I → sw_J → Prop} {x1 : Int32} {x2 : Int32} {x3 : Int32} {I : sw_I} {J : sw_J} (h : wp_X1_nextPlace x1 x2 x3 I J Q) : Met l yX1_nextPlace (Cond.code yX1_nextPlace cX1_nextPlace 4 (some .int) :: sw_T) rm_X1_nextPlace (sw_Pc D cy sz [.ref (sz + 3), .int x1, .int x2, .int x3] G I J) (sw_Q D cy sz (sw_qi G Q)) 0 0 (fun q => sz ≤ q) :=
  sw_met (by decide) (fun q => by cases q) (Nat.le_of_ble_eq_true rfl) rfl (t_X1_nextPlace hG  h)
-- X2_isDigit
abbrev rm_X2_isDigit : Room := { frames := 0, cells := 0, slots := 0, locals := 0 }
def wp_X2_isDigit (x0 : Int32) (I : sw_I) (J : sw_J) (Q : Int32 → sw_I → sw_J → Prop) : Prop :=
  sw_if (x0 < (48 : Int32)) (Q 0 I J) (sw_if ((57 : Int32) < x0) (Q 0 I J) (Q 1 I J))
set_option maxRecDepth 20000 in
theorem t_X2_isDigit {l : Launch} {D : va_G} {cy : Nat → ClassId} {sz : Nat} {G : sw_G} (hG : True)   {Q : Int32 → sw_I → sw_J → Prop} {x0 : Int32} {I : sw_I} {J : sw_J} (h : wp_X2_isDigit x0 I J Q) : AW l D cy sz RX2 cX2_isDigit 1 (some .boolean) false rm_X2_isDigit 0 0 (sw_qi G Q) 0 0 G I J 0 [(0, .int x0)] [] := by
  unfold wp_X2_isDigit at h
  refine aw_iload_n 0 dX2_isDigit_0 rfl rfl ?_
  refine aw_bipush (v := 48) dX2_isDigit_1 (by decide) ?_
  refine aw_jlt 16 dX2_isDigit_3 (by decide) (fun c_1 => ?_) (fun c_1 => ?_)
  · have h := sw_if.t h c_1
    refine aw_iconst (v := 0) dX2_isDigit_16 (by decide) ?_
    exact aw_zret rfl rfl dX2_isDigit_17 ⟨rfl, _, rfl, h⟩
  · have h := sw_if.f h c_1
    refine aw_iload_n 0 dX2_isDigit_6 rfl rfl ?_
    refine aw_bipush (v := 57) dX2_isDigit_7 (by decide) ?_
    refine aw_jgt 16 dX2_isDigit_9 (by decide) (fun c_2 => ?_) (fun c_2 => ?_)
    · have h := sw_if.t h c_2
      refine aw_iconst (v := 0) dX2_isDigit_16 (by decide) ?_
      exact aw_zret rfl rfl dX2_isDigit_17 ⟨rfl, _, rfl, h⟩
    · have h := sw_if.f h c_2
      refine aw_iconst (v := 1) dX2_isDigit_12 (by decide) ?_
      refine aw_goto 17 dX2_isDigit_13 (by decide) ?_
      exact aw_zret rfl rfl dX2_isDigit_17 ⟨rfl, _, rfl, h⟩
theorem M_X2_isDigit {l : Launch} {D : va_G} {cy : Nat → ClassId} {sz : Nat} {G : sw_G} (hG : True)   {Q : Int32 → sw_I → sw_J → Prop} {x0 : Int32} {I : sw_I} {J : sw_J} (h : wp_X2_isDigit x0 I J Q) : Met l yX2_isDigit (Cond.code yX2_isDigit cX2_isDigit 1 (some .boolean) :: sw_T) rm_X2_isDigit (sw_Pc D cy sz [.int x0] G I J) (sw_Q D cy sz (sw_qi G Q)) 0 0 (fun q => sz ≤ q) :=
  sw_met (by decide) (fun q => by cases q) (Nat.le_of_ble_eq_true rfl) rfl (t_X2_isDigit hG  h)
-- X2_isName
abbrev rm_X2_isName : Room := { frames := 0, cells := 0, slots := 0, locals := 0 }
def wB_X2_isName_42   (Q : Int32 → sw_I → sw_J → Prop)  (I : sw_I) (J : sw_J) : Prop :=
  Q 1 I J
def wp_X2_isName (x0 : Int32) (I : sw_I) (J : sw_J) (Q : Int32 → sw_I → sw_J → Prop) : Prop :=
  sw_if (x0 = (102 : Int32)) (wB_X2_isName_42   Q  I J) (sw_if (x0 = (119 : Int32)) (wB_X2_isName_42   Q  I J) (sw_if (x0 = (100 : Int32)) (wB_X2_isName_42   Q  I J) (sw_if (x0 = (115 : Int32)) (wB_X2_isName_42   Q  I J) (sw_if (x0 = (110 : Int32)) (wB_X2_isName_42   Q  I J) (sw_if (x0 = (114 : Int32)) (wB_X2_isName_42   Q  I J) (sw_if (x0 = (108 : Int32)) (wB_X2_isName_42   Q  I J) (Q 0 I J)))))))
set_option maxRecDepth 20000 in
theorem t_X2_isName_42 {l : Launch} {D : va_G} {cy : Nat → ClassId} {sz : Nat} {G : sw_G} (hG : True)   {Q : Int32 → sw_I → sw_J → Prop}  {I : sw_I} {J : sw_J} (h : wB_X2_isName_42   Q  I J) : AW l D cy sz RX2 cX2_isName 1 (some .boolean) false rm_X2_isName 0 0 (sw_qi G Q) 0 0 G I J 42 [] [] := by
  unfold wB_X2_isName_42 at h
  refine aw_iconst (v := 1) dX2_isName_42 (by decide) ?_
  refine aw_goto 47 dX2_isName_43 (by decide) ?_
  exact aw_zret rfl rfl dX2_isName_47 ⟨rfl, _, rfl, h⟩
set_option maxRecDepth 20000 in
theorem t_X2_isName {l : Launch} {D : va_G} {cy : Nat → ClassId} {sz : Nat} {G : sw_G} (hG : True)   {Q : Int32 → sw_I → sw_J → Prop} {x0 : Int32} {I : sw_I} {J : sw_J} (h : wp_X2_isName x0 I J Q) : AW l D cy sz RX2 cX2_isName 1 (some .boolean) false rm_X2_isName 0 0 (sw_qi G Q) 0 0 G I J 0 [(0, .int x0)] [] := by
  unfold wp_X2_isName at h
  refine aw_iload_n 0 dX2_isName_0 rfl rfl ?_
  refine aw_bipush (v := 102) dX2_isName_1 (by decide) ?_
  refine aw_jeq 42 dX2_isName_3 (by decide) (fun c_1 => ?_) (fun c_1 => ?_)
  · have h := sw_if.t h c_1
    refine aw_sub [] rfl ?_
    exact t_X2_isName_42 hG   h
  · have h := sw_if.f h c_1
    refine aw_iload_n 0 dX2_isName_6 rfl rfl ?_
    refine aw_bipush (v := 119) dX2_isName_7 (by decide) ?_
    refine aw_jeq 42 dX2_isName_9 (by decide) (fun c_2 => ?_) (fun c_2 => ?_)
    · have h := sw_if.t h c_2
      refine aw_sub [] rfl ?_
      exact t_X2_isName_42 hG   h
    · have h := sw_if.f h c_2
      refine aw_iload_n 0 dX2_isName_12 rfl rfl ?_
      refine aw_bipush (v := 100) dX2_isName_13 (by decide) ?_
      refine aw_jeq 42 dX2_isName_15 (by decide) (fun c_3 => ?_) (fun c_3 => ?_)
      · have h := sw_if.t h c_3
        refine aw_sub [] rfl ?_
        exact t_X2_isName_42 hG   h
      · have h := sw_if.f h c_3
        refine aw_iload_n 0 dX2_isName_18 rfl rfl ?_
        refine aw_bipush (v := 115) dX2_isName_19 (by decide) ?_
        refine aw_jeq 42 dX2_isName_21 (by decide) (fun c_4 => ?_) (fun c_4 => ?_)
        · have h := sw_if.t h c_4
          refine aw_sub [] rfl ?_
          exact t_X2_isName_42 hG   h
        · have h := sw_if.f h c_4
          refine aw_iload_n 0 dX2_isName_24 rfl rfl ?_
          refine aw_bipush (v := 110) dX2_isName_25 (by decide) ?_
          refine aw_jeq 42 dX2_isName_27 (by decide) (fun c_5 => ?_) (fun c_5 => ?_)
          · have h := sw_if.t h c_5
            refine aw_sub [] rfl ?_
            exact t_X2_isName_42 hG   h
          · have h := sw_if.f h c_5
            refine aw_iload_n 0 dX2_isName_30 rfl rfl ?_
            refine aw_bipush (v := 114) dX2_isName_31 (by decide) ?_
            refine aw_jeq 42 dX2_isName_33 (by decide) (fun c_6 => ?_) (fun c_6 => ?_)
            · have h := sw_if.t h c_6
              refine aw_sub [] rfl ?_
              exact t_X2_isName_42 hG   h
            · have h := sw_if.f h c_6
              refine aw_iload_n 0 dX2_isName_36 rfl rfl ?_
              refine aw_bipush (v := 108) dX2_isName_37 (by decide) ?_
              refine aw_jne 46 dX2_isName_39 (by decide) (fun c_7 => ?_) (fun c_7 => ?_)
              · have h := sw_if.f h c_7
                refine aw_iconst (v := 0) dX2_isName_46 (by decide) ?_
                exact aw_zret rfl rfl dX2_isName_47 ⟨rfl, _, rfl, h⟩
              · have h := sw_if.t h c_7
                refine aw_sub [] rfl ?_
                exact t_X2_isName_42 hG   h
theorem M_X2_isName {l : Launch} {D : va_G} {cy : Nat → ClassId} {sz : Nat} {G : sw_G} (hG : True)   {Q : Int32 → sw_I → sw_J → Prop} {x0 : Int32} {I : sw_I} {J : sw_J} (h : wp_X2_isName x0 I J Q) : Met l yX2_isName (Cond.code yX2_isName cX2_isName 1 (some .boolean) :: sw_T) rm_X2_isName (sw_Pc D cy sz [.int x0] G I J) (sw_Q D cy sz (sw_qi G Q)) 0 0 (fun q => sz ≤ q) :=
  sw_met (by decide) (fun q => by cases q) (Nat.le_of_ble_eq_true rfl) rfl (t_X2_isName hG  h)
-- X2_compares
abbrev rm_X2_compares : Room := { frames := 0, cells := 0, slots := 0, locals := 0 }
def wB_X2_compares_18   (Q : Int32 → sw_I → sw_J → Prop)  (I : sw_I) (J : sw_J) : Prop :=
  Q 1 I J
def wp_X2_compares (x0 : Int32) (I : sw_I) (J : sw_J) (Q : Int32 → sw_I → sw_J → Prop) : Prop :=
  sw_if (x0 = (60 : Int32)) (wB_X2_compares_18   Q  I J) (sw_if (x0 = (62 : Int32)) (wB_X2_compares_18   Q  I J) (sw_if (x0 = (61 : Int32)) (wB_X2_compares_18   Q  I J) (Q 0 I J)))
set_option maxRecDepth 20000 in
theorem t_X2_compares_18 {l : Launch} {D : va_G} {cy : Nat → ClassId} {sz : Nat} {G : sw_G} (hG : True)   {Q : Int32 → sw_I → sw_J → Prop}  {I : sw_I} {J : sw_J} (h : wB_X2_compares_18   Q  I J) : AW l D cy sz RX2 cX2_compares 1 (some .boolean) false rm_X2_compares 0 0 (sw_qi G Q) 0 0 G I J 18 [] [] := by
  unfold wB_X2_compares_18 at h
  refine aw_iconst (v := 1) dX2_compares_18 (by decide) ?_
  refine aw_goto 23 dX2_compares_19 (by decide) ?_
  exact aw_zret rfl rfl dX2_compares_23 ⟨rfl, _, rfl, h⟩
set_option maxRecDepth 20000 in
theorem t_X2_compares {l : Launch} {D : va_G} {cy : Nat → ClassId} {sz : Nat} {G : sw_G} (hG : True)   {Q : Int32 → sw_I → sw_J → Prop} {x0 : Int32} {I : sw_I} {J : sw_J} (h : wp_X2_compares x0 I J Q) : AW l D cy sz RX2 cX2_compares 1 (some .boolean) false rm_X2_compares 0 0 (sw_qi G Q) 0 0 G I J 0 [(0, .int x0)] [] := by
  unfold wp_X2_compares at h
  refine aw_iload_n 0 dX2_compares_0 rfl rfl ?_
  refine aw_bipush (v := 60) dX2_compares_1 (by decide) ?_
  refine aw_jeq 18 dX2_compares_3 (by decide) (fun c_1 => ?_) (fun c_1 => ?_)
  · have h := sw_if.t h c_1
    refine aw_sub [] rfl ?_
    exact t_X2_compares_18 hG   h
  · have h := sw_if.f h c_1
    refine aw_iload_n 0 dX2_compares_6 rfl rfl ?_
    refine aw_bipush (v := 62) dX2_compares_7 (by decide) ?_
    refine aw_jeq 18 dX2_compares_9 (by decide) (fun c_2 => ?_) (fun c_2 => ?_)
    · have h := sw_if.t h c_2
      refine aw_sub [] rfl ?_
      exact t_X2_compares_18 hG   h
    · have h := sw_if.f h c_2
      refine aw_iload_n 0 dX2_compares_12 rfl rfl ?_
      refine aw_bipush (v := 61) dX2_compares_13 (by decide) ?_
      refine aw_jne 22 dX2_compares_15 (by decide) (fun c_3 => ?_) (fun c_3 => ?_)
      · have h := sw_if.f h c_3
        refine aw_iconst (v := 0) dX2_compares_22 (by decide) ?_
        exact aw_zret rfl rfl dX2_compares_23 ⟨rfl, _, rfl, h⟩
      · have h := sw_if.t h c_3
        refine aw_sub [] rfl ?_
        exact t_X2_compares_18 hG   h
theorem M_X2_compares {l : Launch} {D : va_G} {cy : Nat → ClassId} {sz : Nat} {G : sw_G} (hG : True)   {Q : Int32 → sw_I → sw_J → Prop} {x0 : Int32} {I : sw_I} {J : sw_J} (h : wp_X2_compares x0 I J Q) : Met l yX2_compares (Cond.code yX2_compares cX2_compares 1 (some .boolean) :: sw_T) rm_X2_compares (sw_Pc D cy sz [.int x0] G I J) (sw_Q D cy sz (sw_qi G Q)) 0 0 (fun q => sz ≤ q) :=
  sw_met (by decide) (fun q => by cases q) (Nat.le_of_ble_eq_true rfl) rfl (t_X2_compares hG  h)
-- X2_joinsTwo
abbrev rm_X2_joinsTwo : Room := { frames := 1, cells := 0, slots := 0, locals := 20 }
def wB_X2_joinsTwo_31   (Q : Int32 → sw_I → sw_J → Prop)  (I : sw_I) (J : sw_J) : Prop :=
  Q 1 I J
def wp_X2_joinsTwo (x0 : Int32) (I : sw_I) (J : sw_J) (Q : Int32 → sw_I → sw_J → Prop) : Prop :=
  sw_if (x0 = (43 : Int32)) (wB_X2_joinsTwo_31   Q  I J) (sw_if (x0 = (45 : Int32)) (wB_X2_joinsTwo_31   Q  I J) (sw_if (x0 = (42 : Int32)) (wB_X2_joinsTwo_31   Q  I J) (sw_if (x0 = (47 : Int32)) (wB_X2_joinsTwo_31   Q  I J) (wp_X2_compares x0 I J (fun r_5 I_6 J_7 => sw_if (r_5 = 0) (Q 0 I_6 J_7) (wB_X2_joinsTwo_31   Q  I_6 J_7))))))
set_option maxRecDepth 20000 in
theorem t_X2_joinsTwo_31 {l : Launch} {D : va_G} {cy : Nat → ClassId} {sz : Nat} {G : sw_G} (hG : True)   {Q : Int32 → sw_I → sw_J → Prop}  {I : sw_I} {J : sw_J} (h : wB_X2_joinsTwo_31   Q  I J) : AW l D cy sz RX2 cX2_joinsTwo 1 (some .boolean) false rm_X2_joinsTwo 0 0 (sw_qi G Q) 0 0 G I J 31 [] [] := by
  unfold wB_X2_joinsTwo_31 at h
  refine aw_iconst (v := 1) dX2_joinsTwo_31 (by decide) ?_
  refine aw_goto 36 dX2_joinsTwo_32 (by decide) ?_
  exact aw_zret rfl rfl dX2_joinsTwo_36 ⟨rfl, _, rfl, h⟩
set_option maxRecDepth 20000 in
theorem t_X2_joinsTwo {l : Launch} {D : va_G} {cy : Nat → ClassId} {sz : Nat} {G : sw_G} (hG : True)   {Q : Int32 → sw_I → sw_J → Prop} {x0 : Int32} {I : sw_I} {J : sw_J} (h : wp_X2_joinsTwo x0 I J Q) : AW l D cy sz RX2 cX2_joinsTwo 1 (some .boolean) false rm_X2_joinsTwo 0 0 (sw_qi G Q) 0 0 G I J 0 [(0, .int x0)] [] := by
  unfold wp_X2_joinsTwo at h
  refine aw_iload_n 0 dX2_joinsTwo_0 rfl rfl ?_
  refine aw_bipush (v := 43) dX2_joinsTwo_1 (by decide) ?_
  refine aw_jeq 31 dX2_joinsTwo_3 (by decide) (fun c_1 => ?_) (fun c_1 => ?_)
  · have h := sw_if.t h c_1
    refine aw_sub [] rfl ?_
    exact t_X2_joinsTwo_31 hG   h
  · have h := sw_if.f h c_1
    refine aw_iload_n 0 dX2_joinsTwo_6 rfl rfl ?_
    refine aw_bipush (v := 45) dX2_joinsTwo_7 (by decide) ?_
    refine aw_jeq 31 dX2_joinsTwo_9 (by decide) (fun c_2 => ?_) (fun c_2 => ?_)
    · have h := sw_if.t h c_2
      refine aw_sub [] rfl ?_
      exact t_X2_joinsTwo_31 hG   h
    · have h := sw_if.f h c_2
      refine aw_iload_n 0 dX2_joinsTwo_12 rfl rfl ?_
      refine aw_bipush (v := 42) dX2_joinsTwo_13 (by decide) ?_
      refine aw_jeq 31 dX2_joinsTwo_15 (by decide) (fun c_3 => ?_) (fun c_3 => ?_)
      · have h := sw_if.t h c_3
        refine aw_sub [] rfl ?_
        exact t_X2_joinsTwo_31 hG   h
      · have h := sw_if.f h c_3
        refine aw_iload_n 0 dX2_joinsTwo_18 rfl rfl ?_
        refine aw_bipush (v := 47) dX2_joinsTwo_19 (by decide) ?_
        refine aw_jeq 31 dX2_joinsTwo_21 (by decide) (fun c_4 => ?_) (fun c_4 => ?_)
        · have h := sw_if.t h c_4
          refine aw_sub [] rfl ?_
          exact t_X2_joinsTwo_31 hG   h
        · have h := sw_if.f h c_4
          refine aw_iload_n 0 dX2_joinsTwo_24 rfl rfl ?_
          refine aw_callS wv_X2_compares (M_X2_compares trivial  h) ml_X2_32 rfl rfl (Nat.le_of_ble_eq_true rfl) ⟨rfl, rfl⟩ ⟨Nat.le_of_ble_eq_true rfl, Nat.le_of_ble_eq_true rfl⟩ ⟨Nat.le_refl _, Nat.le_refl _⟩ dX2_joinsTwo_25 (aw_ki fun r_5 I_6 J_7 h => ?_)
          refine aw_zeq 35 dX2_joinsTwo_28 (by decide) (fun c_8 => ?_) (fun c_8 => ?_)
          · have h := sw_if.t h c_8
            refine aw_iconst (v := 0) dX2_joinsTwo_35 (by decide) ?_
            exact aw_zret rfl rfl dX2_joinsTwo_36 ⟨rfl, _, rfl, h⟩
          · have h := sw_if.f h c_8
            refine aw_sub [] rfl ?_
            exact t_X2_joinsTwo_31 hG   h
theorem M_X2_joinsTwo {l : Launch} {D : va_G} {cy : Nat → ClassId} {sz : Nat} {G : sw_G} (hG : True)   {Q : Int32 → sw_I → sw_J → Prop} {x0 : Int32} {I : sw_I} {J : sw_J} (h : wp_X2_joinsTwo x0 I J Q) : Met l yX2_joinsTwo (Cond.code yX2_joinsTwo cX2_joinsTwo 1 (some .boolean) :: sw_T) rm_X2_joinsTwo (sw_Pc D cy sz [.int x0] G I J) (sw_Q D cy sz (sw_qi G Q)) 0 0 (fun q => sz ≤ q) :=
  sw_met (by decide) (fun q => by cases q) (Nat.le_of_ble_eq_true rfl) rfl (t_X2_joinsTwo hG  h)
-- X2_strength
abbrev rm_X2_strength : Room := { frames := 1, cells := 0, slots := 0, locals := 20 }
def wp_X2_strength (x0 : Int32) (I : sw_I) (J : sw_J) (Q : Int32 → sw_I → sw_J → Prop) : Prop :=
  sw_if (x0 = (126 : Int32)) (Q (4 : Int32) I J) (sw_if (x0 = (42 : Int32)) (Q (3 : Int32) I J) (sw_if (x0 = (47 : Int32)) (Q (3 : Int32) I J) (sw_if (x0 = (43 : Int32)) (Q (2 : Int32) I J) (sw_if (x0 = (45 : Int32)) (Q (2 : Int32) I J) (wp_X2_compares x0 I J (fun r_6 I_7 J_8 => sw_if (r_6 = 0) (Q (0 : Int32) I_7 J_8) (Q (1 : Int32) I_7 J_8)))))))
set_option maxRecDepth 20000 in
theorem t_X2_strength {l : Launch} {D : va_G} {cy : Nat → ClassId} {sz : Nat} {G : sw_G} (hG : True)   {Q : Int32 → sw_I → sw_J → Prop} {x0 : Int32} {I : sw_I} {J : sw_J} (h : wp_X2_strength x0 I J Q) : AW l D cy sz RX2 cX2_strength 1 (some .int) false rm_X2_strength 0 0 (sw_qi G Q) 0 0 G I J 0 [(0, .int x0)] [] := by
  unfold wp_X2_strength at h
  refine aw_iload_n 0 dX2_strength_0 rfl rfl ?_
  refine aw_bipush (v := 126) dX2_strength_1 (by decide) ?_
  refine aw_jne 8 dX2_strength_3 (by decide) (fun c_1 => ?_) (fun c_1 => ?_)
  · have h := sw_if.f h c_1
    refine aw_iload_n 0 dX2_strength_8 rfl rfl ?_
    refine aw_bipush (v := 42) dX2_strength_9 (by decide) ?_
    refine aw_jeq 20 dX2_strength_11 (by decide) (fun c_2 => ?_) (fun c_2 => ?_)
    · have h := sw_if.t h c_2
      refine aw_iconst (v := 3) dX2_strength_20 (by decide) ?_
      exact aw_iret rfl dX2_strength_21 ⟨rfl, _, rfl, h⟩
    · have h := sw_if.f h c_2
      refine aw_iload_n 0 dX2_strength_14 rfl rfl ?_
      refine aw_bipush (v := 47) dX2_strength_15 (by decide) ?_
      refine aw_jne 22 dX2_strength_17 (by decide) (fun c_3 => ?_) (fun c_3 => ?_)
      · have h := sw_if.f h c_3
        refine aw_iload_n 0 dX2_strength_22 rfl rfl ?_
        refine aw_bipush (v := 43) dX2_strength_23 (by decide) ?_
        refine aw_jeq 34 dX2_strength_25 (by decide) (fun c_4 => ?_) (fun c_4 => ?_)
        · have h := sw_if.t h c_4
          refine aw_iconst (v := 2) dX2_strength_34 (by decide) ?_
          exact aw_iret rfl dX2_strength_35 ⟨rfl, _, rfl, h⟩
        · have h := sw_if.f h c_4
          refine aw_iload_n 0 dX2_strength_28 rfl rfl ?_
          refine aw_bipush (v := 45) dX2_strength_29 (by decide) ?_
          refine aw_jne 36 dX2_strength_31 (by decide) (fun c_5 => ?_) (fun c_5 => ?_)
          · have h := sw_if.f h c_5
            refine aw_iload_n 0 dX2_strength_36 rfl rfl ?_
            refine aw_callS wv_X2_compares (M_X2_compares trivial  h) ml_X2_32 rfl rfl (Nat.le_of_ble_eq_true rfl) ⟨rfl, rfl⟩ ⟨Nat.le_of_ble_eq_true rfl, Nat.le_of_ble_eq_true rfl⟩ ⟨Nat.le_refl _, Nat.le_refl _⟩ dX2_strength_37 (aw_ki fun r_6 I_7 J_8 h => ?_)
            refine aw_zeq 47 dX2_strength_40 (by decide) (fun c_9 => ?_) (fun c_9 => ?_)
            · have h := sw_if.t h c_9
              refine aw_iconst (v := 0) dX2_strength_47 (by decide) ?_
              exact aw_iret rfl dX2_strength_48 ⟨rfl, _, rfl, h⟩
            · have h := sw_if.f h c_9
              refine aw_iconst (v := 1) dX2_strength_43 (by decide) ?_
              refine aw_goto 48 dX2_strength_44 (by decide) ?_
              exact aw_iret rfl dX2_strength_48 ⟨rfl, _, rfl, h⟩
          · have h := sw_if.t h c_5
            refine aw_iconst (v := 2) dX2_strength_34 (by decide) ?_
            exact aw_iret rfl dX2_strength_35 ⟨rfl, _, rfl, h⟩
      · have h := sw_if.t h c_3
        refine aw_iconst (v := 3) dX2_strength_20 (by decide) ?_
        exact aw_iret rfl dX2_strength_21 ⟨rfl, _, rfl, h⟩
  · have h := sw_if.t h c_1
    refine aw_iconst (v := 4) dX2_strength_6 (by decide) ?_
    exact aw_iret rfl dX2_strength_7 ⟨rfl, _, rfl, h⟩
theorem M_X2_strength {l : Launch} {D : va_G} {cy : Nat → ClassId} {sz : Nat} {G : sw_G} (hG : True)   {Q : Int32 → sw_I → sw_J → Prop} {x0 : Int32} {I : sw_I} {J : sw_J} (h : wp_X2_strength x0 I J Q) : Met l yX2_strength (Cond.code yX2_strength cX2_strength 1 (some .int) :: sw_T) rm_X2_strength (sw_Pc D cy sz [.int x0] G I J) (sw_Q D cy sz (sw_qi G Q)) 0 0 (fun q => sz ≤ q) :=
  sw_met (by decide) (fun q => by cases q) (Nat.le_of_ble_eq_true rfl) rfl (t_X2_strength hG  h)
-- X2_put
abbrev rm_X2_put : Room := { frames := 0, cells := 0, slots := 0, locals := 0 }
def wp_X2_put (x1 : Int32) (I : sw_I) (J : sw_J) (Q : sw_I → sw_J → Prop) : Prop :=
  sw_if ((I 6 3) < (40 : Int32)) (vp_in (I 6 3) 40 ∧ ∀ I_3 : sw_I, I_3 = sw_up I 7 (I 6 3).toNatClampNeg x1 → ∀ I_5 : sw_I, I_5 = sw_up I_3 6 3 ((I_3 6 3) + (1 : Int32)) → Q I_5 J) (Q I J)
set_option maxRecDepth 20000 in
theorem t_X2_put {l : Launch} {D : va_G} {cy : Nat → ClassId} {sz : Nat} {G : sw_G} (hG : sw_lay G)   {Q : sw_I → sw_J → Prop} {x1 : Int32} {I : sw_I} {J : sw_J} (h : wp_X2_put x1 I J Q) : AW l D cy sz RX2 cX2_put 2 none false rm_X2_put 0 0 (sw_qv G Q) 0 0 G I J 0 [(0, .ref (sz + 6)), (1, .int x1)] [] := by
  unfold wp_X2_put at h
  refine aw_aload_n 0 dX2_put_0 rfl rfl ?_
  refine gf_X2_3 fl_X2_21 (lk6 hG) dX2_put_1 ?_
  refine aw_bipush (v := 40) dX2_put_4 (by decide) ?_
  refine aw_jge 29 dX2_put_6 (by decide) (fun c_1 => ?_) (fun c_1 => ?_)
  · have h := sw_if.f h c_1
    exact aw_vret rfl dX2_put_29 ⟨rfl, rfl, h⟩
  · have h := sw_if.t h c_1
    refine aw_aload_n 0 dX2_put_9 rfl rfl ?_
    refine gf_X2_0 fl_X2_9 (lk6 hG) (lr6_0 hG) dX2_put_10 ?_
    refine aw_aload_n 0 dX2_put_13 rfl rfl ?_
    refine gf_X2_3 fl_X2_21 (lk6 hG) dX2_put_14 ?_
    refine aw_iload_n 1 dX2_put_17 rfl rfl ?_
    obtain ⟨hi_2, h⟩ := h
    refine aw_ist dX2_put_18 (lk7 hG) (ln7 hG) hi_2 (aw_nameI fun I_3 e_4 => ?_)
    have h := h I_3 e_4
    refine aw_aload_n 0 dX2_put_19 rfl rfl ?_
    refine aw_dup dX2_put_20 rfl ?_
    refine gf_X2_3 fl_X2_21 (lk6 hG) dX2_put_21 ?_
    refine aw_iconst (v := 1) dX2_put_24 (by decide) ?_
    refine aw_iadd dX2_put_25 ?_
    refine pf_X2_3 fl_X2_21 (lk6 hG) dX2_put_26 (aw_nameI fun I_5 e_6 => ?_)
    have h := h I_5 e_6
    exact aw_vret rfl dX2_put_29 ⟨rfl, rfl, h⟩
theorem M_X2_put {l : Launch} {D : va_G} {cy : Nat → ClassId} {sz : Nat} {G : sw_G} (hG : sw_lay G)   {Q : sw_I → sw_J → Prop} {x1 : Int32} {I : sw_I} {J : sw_J} (h : wp_X2_put x1 I J Q) : Met l yX2_put (Cond.code yX2_put cX2_put 2 none :: sw_T) rm_X2_put (sw_Pc D cy sz [.ref (sz + 6), .int x1] G I J) (sw_Q D cy sz (sw_qv G Q)) 0 0 (fun q => sz ≤ q) :=
  sw_met (by decide) (fun q => by cases q) (Nat.le_of_ble_eq_true rfl) rfl (t_X2_put hG  h)
-- X2_putDigit
abbrev rm_X2_putDigit : Room := { frames := 1, cells := 0, slots := 0, locals := 21 }
def wB_X2_putDigit_41   (Q : sw_I → sw_J → Prop) (x1 : Int32) (I : sw_I) (J : sw_J) : Prop :=
  wp_X2_put x1 I J (fun I_2 J_3 => Q I_2 J_3)
def wp_X2_putDigit (x1 : Int32) (x2 : Int32) (I : sw_I) (J : sw_J) (Q : sw_I → sw_J → Prop) : Prop :=
  sw_if (x2 = 0) (wB_X2_putDigit_41   Q x1 I J) (sw_if (0 < (I 6 3)) (vp_in ((I 6 3) - (1 : Int32)) 40 ∧ vp_in ((I 6 3) - (1 : Int32)) 40 ∧ ∀ I_5 : sw_I, I_5 = sw_up I 7 ((I 6 3) - (1 : Int32)).toNatClampNeg (((I 7 ((I 6 3) - (1 : Int32)).toNatClampNeg) * (10 : Int32)) + x1) → Q I_5 J) (wB_X2_putDigit_41   Q x1 I J))
set_option maxRecDepth 20000 in
theorem t_X2_putDigit_41 {l : Launch} {D : va_G} {cy : Nat → ClassId} {sz : Nat} {G : sw_G} (hG : sw_lay G)   {Q : sw_I → sw_J → Prop} {x1 : Int32} {I : sw_I} {J : sw_J} (h : wB_X2_putDigit_41   Q x1 I J) : AW l D cy sz RX2 cX2_putDigit 3 none false rm_X2_putDigit 0 0 (sw_qv G Q) 0 0 G I J 41 [(0, .ref (sz + 6)), (1, .int x1)] [] := by
  unfold wB_X2_putDigit_41 at h
  refine aw_aload_n 0 dX2_putDigit_41 rfl rfl ?_
  refine aw_iload_n 1 dX2_putDigit_42 rfl rfl ?_
  refine aw_callV wv_X2_put (M_X2_put hG  h) ml_X2_66 rfl (by decide) (lk6 hG) rfl rfl (Nat.le_of_ble_eq_true rfl) ⟨rfl, rfl⟩ ⟨Nat.le_of_ble_eq_true rfl, Nat.le_of_ble_eq_true rfl⟩ ⟨Nat.le_refl _, Nat.le_refl _⟩ dX2_putDigit_43 (aw_kv fun I_2 J_3 h => ?_)
  exact aw_vret rfl dX2_putDigit_46 ⟨rfl, rfl, h⟩
set_option maxRecDepth 20000 in
theorem t_X2_putDigit {l : Launch} {D : va_G} {cy : Nat → ClassId} {sz : Nat} {G : sw_G} (hG : sw_lay G)   {Q : sw_I → sw_J → Prop} {x1 : Int32} {x2 : Int32} {I : sw_I} {J : sw_J} (h : wp_X2_putDigit x1 x2 I J Q) : AW l D cy sz RX2 cX2_putDigit 3 none false rm_X2_putDigit 0 0 (sw_qv G Q) 0 0 G I J 0 [(0, .ref (sz + 6)), (1, .int x1), (2, .int x2)] [] := by
  unfold wp_X2_putDigit at h
  refine aw_iload_n 2 dX2_putDigit_0 rfl rfl ?_
  refine aw_zeq 41 dX2_putDigit_1 (by decide) (fun c_1 => ?_) (fun c_1 => ?_)
  · have h := sw_if.t h c_1
    refine aw_sub [0, 1] rfl ?_
    exact t_X2_putDigit_41 hG   h
  · have h := sw_if.f h c_1
    refine aw_aload_n 0 dX2_putDigit_4 rfl rfl ?_
    refine gf_X2_3 fl_X2_21 (lk6 hG) dX2_putDigit_5 ?_
    refine aw_zle 41 dX2_putDigit_8 (by decide) (fun c_2 => ?_) (fun c_2 => ?_)
    · have h := sw_if.f h c_2
      refine aw_sub [0, 1] rfl ?_
      exact t_X2_putDigit_41 hG   h
    · have h := sw_if.t h c_2
      refine aw_aload_n 0 dX2_putDigit_11 rfl rfl ?_
      refine gf_X2_0 fl_X2_9 (lk6 hG) (lr6_0 hG) dX2_putDigit_12 ?_
      refine aw_aload_n 0 dX2_putDigit_15 rfl rfl ?_
      refine gf_X2_3 fl_X2_21 (lk6 hG) dX2_putDigit_16 ?_
      refine aw_iconst (v := 1) dX2_putDigit_19 (by decide) ?_
      refine aw_isub dX2_putDigit_20 ?_
      refine aw_aload_n 0 dX2_putDigit_21 rfl rfl ?_
      refine gf_X2_0 fl_X2_9 (lk6 hG) (lr6_0 hG) dX2_putDigit_22 ?_
      refine aw_aload_n 0 dX2_putDigit_25 rfl rfl ?_
      refine gf_X2_3 fl_X2_21 (lk6 hG) dX2_putDigit_26 ?_
      refine aw_iconst (v := 1) dX2_putDigit_29 (by decide) ?_
      refine aw_isub dX2_putDigit_30 ?_
      obtain ⟨hi_3, h⟩ := h
      refine aw_ild dX2_putDigit_31 (lk7 hG) (ln7 hG) hi_3 ?_
      refine aw_bipush (v := 10) dX2_putDigit_32 (by decide) ?_
      refine aw_imul dX2_putDigit_34 ?_
      refine aw_iload_n 1 dX2_putDigit_35 rfl rfl ?_
      refine aw_iadd dX2_putDigit_36 ?_
      obtain ⟨hi_4, h⟩ := h
      refine aw_ist dX2_putDigit_37 (lk7 hG) (ln7 hG) hi_4 (aw_nameI fun I_5 e_6 => ?_)
      have h := h I_5 e_6
      refine aw_goto 46 dX2_putDigit_38 (by decide) ?_
      exact aw_vret rfl dX2_putDigit_46 ⟨rfl, rfl, h⟩
theorem M_X2_putDigit {l : Launch} {D : va_G} {cy : Nat → ClassId} {sz : Nat} {G : sw_G} (hG : sw_lay G)   {Q : sw_I → sw_J → Prop} {x1 : Int32} {x2 : Int32} {I : sw_I} {J : sw_J} (h : wp_X2_putDigit x1 x2 I J Q) : Met l yX2_putDigit (Cond.code yX2_putDigit cX2_putDigit 3 none :: sw_T) rm_X2_putDigit (sw_Pc D cy sz [.ref (sz + 6), .int x1, .int x2] G I J) (sw_Q D cy sz (sw_qv G Q)) 0 0 (fun q => sz ≤ q) :=
  sw_met (by decide) (fun q => by cases q) (Nat.le_of_ble_eq_true rfl) rfl (t_X2_putDigit hG  h)
-- X2_await
abbrev rm_X2_await : Room := { frames := 0, cells := 0, slots := 0, locals := 0 }
def wp_X2_await (x1 : Int32) (I : sw_I) (J : sw_J) (Q : sw_I → sw_J → Prop) : Prop :=
  sw_if ((I 6 4) < (40 : Int32)) (vp_in (I 6 4) 40 ∧ ∀ I_3 : sw_I, I_3 = sw_up I 8 (I 6 4).toNatClampNeg x1 → ∀ I_5 : sw_I, I_5 = sw_up I_3 6 4 ((I_3 6 4) + (1 : Int32)) → Q I_5 J) (Q I J)
set_option maxRecDepth 20000 in
theorem t_X2_await {l : Launch} {D : va_G} {cy : Nat → ClassId} {sz : Nat} {G : sw_G} (hG : sw_lay G)   {Q : sw_I → sw_J → Prop} {x1 : Int32} {I : sw_I} {J : sw_J} (h : wp_X2_await x1 I J Q) : AW l D cy sz RX2 cX2_await 2 none false rm_X2_await 0 0 (sw_qv G Q) 0 0 G I J 0 [(0, .ref (sz + 6)), (1, .int x1)] [] := by
  unfold wp_X2_await at h
  refine aw_aload_n 0 dX2_await_0 rfl rfl ?_
  refine gf_X2_4 fl_X2_25 (lk6 hG) dX2_await_1 ?_
  refine aw_bipush (v := 40) dX2_await_4 (by decide) ?_
  refine aw_jge 29 dX2_await_6 (by decide) (fun c_1 => ?_) (fun c_1 => ?_)
  · have h := sw_if.f h c_1
    exact aw_vret rfl dX2_await_29 ⟨rfl, rfl, h⟩
  · have h := sw_if.t h c_1
    refine aw_aload_n 0 dX2_await_9 rfl rfl ?_
    refine gf_X2_1 fl_X2_15 (lk6 hG) (lr6_1 hG) dX2_await_10 ?_
    refine aw_aload_n 0 dX2_await_13 rfl rfl ?_
    refine gf_X2_4 fl_X2_25 (lk6 hG) dX2_await_14 ?_
    refine aw_iload_n 1 dX2_await_17 rfl rfl ?_
    obtain ⟨hi_2, h⟩ := h
    refine aw_ist dX2_await_18 (lk8 hG) (ln8 hG) hi_2 (aw_nameI fun I_3 e_4 => ?_)
    have h := h I_3 e_4
    refine aw_aload_n 0 dX2_await_19 rfl rfl ?_
    refine aw_dup dX2_await_20 rfl ?_
    refine gf_X2_4 fl_X2_25 (lk6 hG) dX2_await_21 ?_
    refine aw_iconst (v := 1) dX2_await_24 (by decide) ?_
    refine aw_iadd dX2_await_25 ?_
    refine pf_X2_4 fl_X2_25 (lk6 hG) dX2_await_26 (aw_nameI fun I_5 e_6 => ?_)
    have h := h I_5 e_6
    exact aw_vret rfl dX2_await_29 ⟨rfl, rfl, h⟩
theorem M_X2_await {l : Launch} {D : va_G} {cy : Nat → ClassId} {sz : Nat} {G : sw_G} (hG : sw_lay G)   {Q : sw_I → sw_J → Prop} {x1 : Int32} {I : sw_I} {J : sw_J} (h : wp_X2_await x1 I J Q) : Met l yX2_await (Cond.code yX2_await cX2_await 2 none :: sw_T) rm_X2_await (sw_Pc D cy sz [.ref (sz + 6), .int x1] G I J) (sw_Q D cy sz (sw_qv G Q)) 0 0 (fun q => sz ≤ q) :=
  sw_met (by decide) (fun q => by cases q) (Nat.le_of_ble_eq_true rfl) rfl (t_X2_await hG  h)
-- X2_release
abbrev rm_X2_release : Room := { frames := 2, cells := 0, slots := 0, locals := 40 }
def wb_X2_release_0  (K0 : Int32 → sw_I → sw_J → Prop) (Q : sw_I → sw_J → Prop) (x1 : Int32) (I : sw_I) (J : sw_J) : Prop :=
  sw_if (0 < (I 6 4)) (vp_in ((I 6 4) - (1 : Int32)) 40 ∧ wp_X2_strength (I 8 ((I 6 4) - (1 : Int32)).toNatClampNeg) I J (fun r_3 I_4 J_5 => sw_if (r_3 < x1) (Q I_4 J_5) (∀ I_7 : sw_I, I_7 = sw_up I_4 6 4 ((I_4 6 4) - (1 : Int32)) → vp_in (I_7 6 4) 40 ∧ wp_X2_put (-(I_7 8 (I_7 6 4).toNatClampNeg)) I_7 J_5 (fun I_11 J_12 => K0 x1 I_11 J_12)))) (Q I J)
def wl_X2_release_0   (Q : sw_I → sw_J → Prop) : Nat → Int32 → sw_I → sw_J → Prop
  | 0 => fun _ _ _ => False
  | n + 1 => fun x1 I J => wb_X2_release_0  (wl_X2_release_0   Q n) Q x1 I J
def wp_X2_release (x1 : Int32) (I : sw_I) (J : sw_J) (Q : sw_I → sw_J → Prop) : Prop :=
  ∃ n_1 : Nat, wl_X2_release_0   Q n_1 x1 I J
set_option maxRecDepth 20000 in
theorem tb_X2_release_0 {l : Launch} {D : va_G} {cy : Nat → ClassId} {sz : Nat} {G : sw_G} (hG : sw_lay G)   {Q : sw_I → sw_J → Prop} {K0 : Int32 → sw_I → sw_J → Prop} (hK0 : ∀ (x1 : Int32) (I : sw_I) (J : sw_J), K0 x1 I J → AW l D cy sz RX2 cX2_release 2 none false rm_X2_release 0 0 (sw_qv G Q) 0 0 G I J 0 [(0, .ref (sz + 6)), (1, .int x1)] []) {x1 : Int32} {I : sw_I} {J : sw_J} (h : wb_X2_release_0  K0 Q x1 I J) : AW l D cy sz RX2 cX2_release 2 none false rm_X2_release 0 0 (sw_qv G Q) 0 0 G I J 0 [(0, .ref (sz + 6)), (1, .int x1)] [] := by
  unfold wb_X2_release_0 at h
  refine aw_aload_n 0 dX2_release_0 rfl rfl ?_
  refine gf_X2_4 fl_X2_25 (lk6 hG) dX2_release_1 ?_
  refine aw_zle 52 dX2_release_4 (by decide) (fun c_1 => ?_) (fun c_1 => ?_)
  · have h := sw_if.f h c_1
    exact aw_vret rfl dX2_release_52 ⟨rfl, rfl, h⟩
  · have h := sw_if.t h c_1
    refine aw_aload_n 0 dX2_release_7 rfl rfl ?_
    refine gf_X2_1 fl_X2_15 (lk6 hG) (lr6_1 hG) dX2_release_8 ?_
    refine aw_aload_n 0 dX2_release_11 rfl rfl ?_
    refine gf_X2_4 fl_X2_25 (lk6 hG) dX2_release_12 ?_
    refine aw_iconst (v := 1) dX2_release_15 (by decide) ?_
    refine aw_isub dX2_release_16 ?_
    obtain ⟨hi_2, h⟩ := h
    refine aw_ild dX2_release_17 (lk8 hG) (ln8 hG) hi_2 ?_
    refine aw_callS wv_X2_strength (M_X2_strength trivial  h) ml_X2_79 rfl rfl (Nat.le_of_ble_eq_true rfl) ⟨rfl, rfl⟩ ⟨Nat.le_of_ble_eq_true rfl, Nat.le_of_ble_eq_true rfl⟩ ⟨Nat.le_refl _, Nat.le_refl _⟩ dX2_release_18 (aw_ki fun r_3 I_4 J_5 h => ?_)
    refine aw_iload_n 1 dX2_release_21 rfl rfl ?_
    refine aw_jlt 52 dX2_release_22 (by decide) (fun c_6 => ?_) (fun c_6 => ?_)
    · have h := sw_if.t h c_6
      exact aw_vret rfl dX2_release_52 ⟨rfl, rfl, h⟩
    · have h := sw_if.f h c_6
      refine aw_aload_n 0 dX2_release_25 rfl rfl ?_
      refine aw_dup dX2_release_26 rfl ?_
      refine gf_X2_4 fl_X2_25 (lk6 hG) dX2_release_27 ?_
      refine aw_iconst (v := 1) dX2_release_30 (by decide) ?_
      refine aw_isub dX2_release_31 ?_
      refine pf_X2_4 fl_X2_25 (lk6 hG) dX2_release_32 (aw_nameI fun I_7 e_8 => ?_)
      have h := h I_7 e_8
      refine aw_aload_n 0 dX2_release_35 rfl rfl ?_
      refine aw_aload_n 0 dX2_release_36 rfl rfl ?_
      refine gf_X2_1 fl_X2_15 (lk6 hG) (lr6_1 hG) dX2_release_37 ?_
      refine aw_aload_n 0 dX2_release_40 rfl rfl ?_
      refine gf_X2_4 fl_X2_25 (lk6 hG) dX2_release_41 ?_
      obtain ⟨hi_9, h⟩ := h
      refine aw_ild dX2_release_44 (lk8 hG) (ln8 hG) hi_9 ?_
      refine aw_ineg dX2_release_45 ?_
      refine aw_callV wv_X2_put (M_X2_put hG  h) ml_X2_66 rfl (by decide) (lk6 hG) rfl rfl (Nat.le_of_ble_eq_true rfl) ⟨rfl, rfl⟩ ⟨Nat.le_of_ble_eq_true rfl, Nat.le_of_ble_eq_true rfl⟩ ⟨Nat.le_refl _, Nat.le_refl _⟩ dX2_release_46 (aw_kv fun I_11 J_12 h => ?_)
      refine aw_goto 0 dX2_release_49 (by decide) ?_
      refine aw_sub [0, 1] rfl ?_
      exact hK0 x1 I_11 J_12 h
set_option maxRecDepth 20000 in
theorem tl_X2_release_0 {l : Launch} {D : va_G} {cy : Nat → ClassId} {sz : Nat} {G : sw_G} (hG : sw_lay G)   {Q : sw_I → sw_J → Prop} : ∀ (n : Nat) (x1 : Int32) (I : sw_I) (J : sw_J), wl_X2_release_0   Q n x1 I J → AW l D cy sz RX2 cX2_release 2 none false rm_X2_release 0 0 (sw_qv G Q) 0 0 G I J 0 [(0, .ref (sz + 6)), (1, .int x1)] [] := by
  intro n
  induction n with
  | zero => intro x1 I J h; exact False.elim h
  | succ n ih => intro x1 I J h; exact tb_X2_release_0 hG  ih h
set_option maxRecDepth 20000 in
theorem t_X2_release {l : Launch} {D : va_G} {cy : Nat → ClassId} {sz : Nat} {G : sw_G} (hG : sw_lay G)   {Q : sw_I → sw_J → Prop} {x1 : Int32} {I : sw_I} {J : sw_J} (h : wp_X2_release x1 I J Q) : AW l D cy sz RX2 cX2_release 2 none false rm_X2_release 0 0 (sw_qv G Q) 0 0 G I J 0 [(0, .ref (sz + 6)), (1, .int x1)] [] := by
  unfold wp_X2_release at h
  refine aw_sub [0, 1] rfl ?_
  obtain ⟨n_1, h⟩ := h
  exact tl_X2_release_0 hG   n_1 x1 I J h
theorem M_X2_release {l : Launch} {D : va_G} {cy : Nat → ClassId} {sz : Nat} {G : sw_G} (hG : sw_lay G)   {Q : sw_I → sw_J → Prop} {x1 : Int32} {I : sw_I} {J : sw_J} (h : wp_X2_release x1 I J Q) : Met l yX2_release (Cond.code yX2_release cX2_release 2 none :: sw_T) rm_X2_release (sw_Pc D cy sz [.ref (sz + 6), .int x1] G I J) (sw_Q D cy sz (sw_qv G Q)) 0 0 (fun q => sz ≤ q) :=
  sw_met (by decide) (fun q => by cases q) (Nat.le_of_ble_eq_true rfl) rfl (t_X2_release hG  h)
-- X2_named
abbrev rm_X2_named : Room := { frames := 0, cells := 0, slots := 0, locals := 0 }
def wp_X2_named (x0 : Int32) (x2 : Int32) (I : sw_I) (J : sw_J) (Q : Int32 → sw_I → sw_J → Prop) : Prop :=
  sw_if (x0 = 100) (sw_if (x2 < (I 10 3)) (Q ((I 10 3) - x2) I J) (Q (x2 - (I 10 3)) I J)) (sw_if (x0 = 101) (Q (I 10 3) I J) (sw_if (x0 = 102) (Q x2 I J) (sw_if (x0 = 103) (Q (I 10 3) I J) (sw_if (x0 = 104) (Q (I 10 3) I J) (sw_if (x0 = 105) (Q (I 10 3) I J) (sw_if (x0 = 106) (Q (I 10 3) I J) (sw_if (x0 = 107) (Q (I 10 3) I J) (sw_if (x0 = 108) (Q (I 10 3) I J) (sw_if (x0 = 109) (Q (I 10 3) I J) (sw_if (x0 = 110) (Q (I 10 2) I J) (sw_if (x0 = 111) (Q (I 10 3) I J) (sw_if (x0 = 112) (Q (I 10 3) I J) (sw_if (x0 = 113) (Q (I 10 3) I J) (sw_if (x0 = 114) (Q (I 10 4) I J) (sw_if (x0 = 115) (sw_if (x2 < 0) (Q (0 : Int32) I J) (sw_if (x2 < (9 : Int32)) (vp_in x2 9 ∧ Q (I 12 x2.toNatClampNeg) I J) (Q (0 : Int32) I J))) (sw_if (x0 = 116) (Q (I 10 3) I J) (sw_if (x0 = 117) (Q (I 10 3) I J) (sw_if (x0 = 118) (Q (I 10 3) I J) (sw_if (x0 = 119) (sw_if (x2 < 0) (Q (0 : Int32) I J) (sw_if (x2 < (9 : Int32)) (vp_in x2 9 ∧ Q (I 11 x2.toNatClampNeg) I J) (Q (0 : Int32) I J))) (Q (I 10 3) I J))))))))))))))))))))
set_option maxRecDepth 20000 in
theorem t_X2_named {l : Launch} {D : va_G} {cy : Nat → ClassId} {sz : Nat} {G : sw_G} (hG : sw_lay G)   {Q : Int32 → sw_I → sw_J → Prop} {x0 : Int32} {x2 : Int32} {I : sw_I} {J : sw_J} (h : wp_X2_named x0 x2 I J Q) : AW l D cy sz RX2 cX2_named 3 (some .int) false rm_X2_named 0 0 (sw_qi G Q) 0 0 G I J 0 [(0, .int x0), (1, .ref (sz + 10)), (2, .int x2)] [] := by
  unfold wp_X2_named at h
  refine aw_iload_n 0 dX2_named_0 rfl rfl ?_
  by_cases c_1 : x0 = 100
  · have h := sw_if.t h c_1; refine aw_tableIn 119 dX2_named_1 (by rw [c_1]; decide) (by rw [c_1]; decide) (by rw [c_1]; rfl) (by decide) ?_
    refine aw_iload_n 2 dX2_named_119 rfl rfl ?_
    refine aw_aload_n 1 dX2_named_120 rfl rfl ?_
    refine gf_X5_3 fl_X2_95 (lk10 hG) dX2_named_121 ?_
    refine aw_jge 136 dX2_named_124 (by decide) (fun c_2 => ?_) (fun c_2 => ?_)
    · have h := sw_if.f h c_2
      refine aw_iload_n 2 dX2_named_136 rfl rfl ?_
      refine aw_aload_n 1 dX2_named_137 rfl rfl ?_
      refine gf_X5_3 fl_X2_95 (lk10 hG) dX2_named_138 ?_
      refine aw_isub dX2_named_141 ?_
      exact aw_iret rfl dX2_named_142 ⟨rfl, _, rfl, h⟩
    · have h := sw_if.t h c_2
      refine aw_aload_n 1 dX2_named_127 rfl rfl ?_
      refine gf_X5_3 fl_X2_95 (lk10 hG) dX2_named_128 ?_
      refine aw_iload_n 2 dX2_named_131 rfl rfl ?_
      refine aw_isub dX2_named_132 ?_
      refine aw_goto 142 dX2_named_133 (by decide) ?_
      exact aw_iret rfl dX2_named_142 ⟨rfl, _, rfl, h⟩
  · have h := sw_if.f h c_1
    by_cases c_3 : x0 = 101
    · have h := sw_if.t h c_3; refine aw_tableIn 174 dX2_named_1 (by rw [c_3]; decide) (by rw [c_3]; decide) (by rw [c_3]; rfl) (by decide) ?_
      refine aw_aload_n 1 dX2_named_174 rfl rfl ?_
      refine gf_X5_3 fl_X2_95 (lk10 hG) dX2_named_175 ?_
      exact aw_iret rfl dX2_named_178 ⟨rfl, _, rfl, h⟩
    · have h := sw_if.f h c_3
      by_cases c_4 : x0 = 102
      · have h := sw_if.t h c_4; refine aw_tableIn 96 dX2_named_1 (by rw [c_4]; decide) (by rw [c_4]; decide) (by rw [c_4]; rfl) (by decide) ?_
        refine aw_iload_n 2 dX2_named_96 rfl rfl ?_
        exact aw_iret rfl dX2_named_97 ⟨rfl, _, rfl, h⟩
      · have h := sw_if.f h c_4
        by_cases c_5 : x0 = 103
        · have h := sw_if.t h c_5; refine aw_tableIn 174 dX2_named_1 (by rw [c_5]; decide) (by rw [c_5]; decide) (by rw [c_5]; rfl) (by decide) ?_
          refine aw_aload_n 1 dX2_named_174 rfl rfl ?_
          refine gf_X5_3 fl_X2_95 (lk10 hG) dX2_named_175 ?_
          exact aw_iret rfl dX2_named_178 ⟨rfl, _, rfl, h⟩
        · have h := sw_if.f h c_5
          by_cases c_6 : x0 = 104
          · have h := sw_if.t h c_6; refine aw_tableIn 174 dX2_named_1 (by rw [c_6]; decide) (by rw [c_6]; decide) (by rw [c_6]; rfl) (by decide) ?_
            refine aw_aload_n 1 dX2_named_174 rfl rfl ?_
            refine gf_X5_3 fl_X2_95 (lk10 hG) dX2_named_175 ?_
            exact aw_iret rfl dX2_named_178 ⟨rfl, _, rfl, h⟩
          · have h := sw_if.f h c_6
            by_cases c_7 : x0 = 105
            · have h := sw_if.t h c_7; refine aw_tableIn 174 dX2_named_1 (by rw [c_7]; decide) (by rw [c_7]; decide) (by rw [c_7]; rfl) (by decide) ?_
              refine aw_aload_n 1 dX2_named_174 rfl rfl ?_
              refine gf_X5_3 fl_X2_95 (lk10 hG) dX2_named_175 ?_
              exact aw_iret rfl dX2_named_178 ⟨rfl, _, rfl, h⟩
            · have h := sw_if.f h c_7
              by_cases c_8 : x0 = 106
              · have h := sw_if.t h c_8; refine aw_tableIn 174 dX2_named_1 (by rw [c_8]; decide) (by rw [c_8]; decide) (by rw [c_8]; rfl) (by decide) ?_
                refine aw_aload_n 1 dX2_named_174 rfl rfl ?_
                refine gf_X5_3 fl_X2_95 (lk10 hG) dX2_named_175 ?_
                exact aw_iret rfl dX2_named_178 ⟨rfl, _, rfl, h⟩
              · have h := sw_if.f h c_8
                by_cases c_9 : x0 = 107
                · have h := sw_if.t h c_9; refine aw_tableIn 174 dX2_named_1 (by rw [c_9]; decide) (by rw [c_9]; decide) (by rw [c_9]; rfl) (by decide) ?_
                  refine aw_aload_n 1 dX2_named_174 rfl rfl ?_
                  refine gf_X5_3 fl_X2_95 (lk10 hG) dX2_named_175 ?_
                  exact aw_iret rfl dX2_named_178 ⟨rfl, _, rfl, h⟩
                · have h := sw_if.f h c_9
                  by_cases c_10 : x0 = 108
                  · have h := sw_if.t h c_10; refine aw_tableIn 174 dX2_named_1 (by rw [c_10]; decide) (by rw [c_10]; decide) (by rw [c_10]; rfl) (by decide) ?_
                    refine aw_aload_n 1 dX2_named_174 rfl rfl ?_
                    refine gf_X5_3 fl_X2_95 (lk10 hG) dX2_named_175 ?_
                    exact aw_iret rfl dX2_named_178 ⟨rfl, _, rfl, h⟩
                  · have h := sw_if.f h c_10
                    by_cases c_11 : x0 = 109
                    · have h := sw_if.t h c_11; refine aw_tableIn 174 dX2_named_1 (by rw [c_11]; decide) (by rw [c_11]; decide) (by rw [c_11]; rfl) (by decide) ?_
                      refine aw_aload_n 1 dX2_named_174 rfl rfl ?_
                      refine gf_X5_3 fl_X2_95 (lk10 hG) dX2_named_175 ?_
                      exact aw_iret rfl dX2_named_178 ⟨rfl, _, rfl, h⟩
                    · have h := sw_if.f h c_11
                      by_cases c_12 : x0 = 110
                      · have h := sw_if.t h c_12; refine aw_tableIn 164 dX2_named_1 (by rw [c_12]; decide) (by rw [c_12]; decide) (by rw [c_12]; rfl) (by decide) ?_
                        refine aw_aload_n 1 dX2_named_164 rfl rfl ?_
                        refine gf_X5_2 fl_X2_101 (lk10 hG) dX2_named_165 ?_
                        exact aw_iret rfl dX2_named_168 ⟨rfl, _, rfl, h⟩
                      · have h := sw_if.f h c_12
                        by_cases c_13 : x0 = 111
                        · have h := sw_if.t h c_13; refine aw_tableIn 174 dX2_named_1 (by rw [c_13]; decide) (by rw [c_13]; decide) (by rw [c_13]; rfl) (by decide) ?_
                          refine aw_aload_n 1 dX2_named_174 rfl rfl ?_
                          refine gf_X5_3 fl_X2_95 (lk10 hG) dX2_named_175 ?_
                          exact aw_iret rfl dX2_named_178 ⟨rfl, _, rfl, h⟩
                        · have h := sw_if.f h c_13
                          by_cases c_14 : x0 = 112
                          · have h := sw_if.t h c_14; refine aw_tableIn 174 dX2_named_1 (by rw [c_14]; decide) (by rw [c_14]; decide) (by rw [c_14]; rfl) (by decide) ?_
                            refine aw_aload_n 1 dX2_named_174 rfl rfl ?_
                            refine gf_X5_3 fl_X2_95 (lk10 hG) dX2_named_175 ?_
                            exact aw_iret rfl dX2_named_178 ⟨rfl, _, rfl, h⟩
                          · have h := sw_if.f h c_14
                            by_cases c_15 : x0 = 113
                            · have h := sw_if.t h c_15; refine aw_tableIn 174 dX2_named_1 (by rw [c_15]; decide) (by rw [c_15]; decide) (by rw [c_15]; rfl) (by decide) ?_
                              refine aw_aload_n 1 dX2_named_174 rfl rfl ?_
                              refine gf_X5_3 fl_X2_95 (lk10 hG) dX2_named_175 ?_
                              exact aw_iret rfl dX2_named_178 ⟨rfl, _, rfl, h⟩
                            · have h := sw_if.f h c_15
                              by_cases c_16 : x0 = 114
                              · have h := sw_if.t h c_16; refine aw_tableIn 169 dX2_named_1 (by rw [c_16]; decide) (by rw [c_16]; decide) (by rw [c_16]; rfl) (by decide) ?_
                                refine aw_aload_n 1 dX2_named_169 rfl rfl ?_
                                refine gf_X5_4 fl_X2_104 (lk10 hG) dX2_named_170 ?_
                                exact aw_iret rfl dX2_named_173 ⟨rfl, _, rfl, h⟩
                              · have h := sw_if.f h c_16
                                by_cases c_17 : x0 = 115
                                · have h := sw_if.t h c_17; refine aw_tableIn 143 dX2_named_1 (by rw [c_17]; decide) (by rw [c_17]; decide) (by rw [c_17]; rfl) (by decide) ?_
                                  refine aw_iload_n 2 dX2_named_143 rfl rfl ?_
                                  refine aw_zlt 162 dX2_named_144 (by decide) (fun c_18 => ?_) (fun c_18 => ?_)
                                  · have h := sw_if.t h c_18
                                    refine aw_iconst (v := 0) dX2_named_162 (by decide) ?_
                                    exact aw_iret rfl dX2_named_163 ⟨rfl, _, rfl, h⟩
                                  · have h := sw_if.f h c_18
                                    refine aw_iload_n 2 dX2_named_147 rfl rfl ?_
                                    refine aw_bipush (v := 9) dX2_named_148 (by decide) ?_
                                    refine aw_jge 162 dX2_named_150 (by decide) (fun c_19 => ?_) (fun c_19 => ?_)
                                    · have h := sw_if.f h c_19
                                      refine aw_iconst (v := 0) dX2_named_162 (by decide) ?_
                                      exact aw_iret rfl dX2_named_163 ⟨rfl, _, rfl, h⟩
                                    · have h := sw_if.t h c_19
                                      refine aw_aload_n 1 dX2_named_153 rfl rfl ?_
                                      refine gf_X5_1 fl_X2_98 (lk10 hG) (lr10_1 hG) dX2_named_154 ?_
                                      refine aw_iload_n 2 dX2_named_157 rfl rfl ?_
                                      obtain ⟨hi_20, h⟩ := h
                                      refine aw_ild dX2_named_158 (lk12 hG) (ln12 hG) hi_20 ?_
                                      refine aw_goto 163 dX2_named_159 (by decide) ?_
                                      exact aw_iret rfl dX2_named_163 ⟨rfl, _, rfl, h⟩
                                · have h := sw_if.f h c_17
                                  by_cases c_21 : x0 = 116
                                  · have h := sw_if.t h c_21; refine aw_tableIn 174 dX2_named_1 (by rw [c_21]; decide) (by rw [c_21]; decide) (by rw [c_21]; rfl) (by decide) ?_
                                    refine aw_aload_n 1 dX2_named_174 rfl rfl ?_
                                    refine gf_X5_3 fl_X2_95 (lk10 hG) dX2_named_175 ?_
                                    exact aw_iret rfl dX2_named_178 ⟨rfl, _, rfl, h⟩
                                  · have h := sw_if.f h c_21
                                    by_cases c_22 : x0 = 117
                                    · have h := sw_if.t h c_22; refine aw_tableIn 174 dX2_named_1 (by rw [c_22]; decide) (by rw [c_22]; decide) (by rw [c_22]; rfl) (by decide) ?_
                                      refine aw_aload_n 1 dX2_named_174 rfl rfl ?_
                                      refine gf_X5_3 fl_X2_95 (lk10 hG) dX2_named_175 ?_
                                      exact aw_iret rfl dX2_named_178 ⟨rfl, _, rfl, h⟩
                                    · have h := sw_if.f h c_22
                                      by_cases c_23 : x0 = 118
                                      · have h := sw_if.t h c_23; refine aw_tableIn 174 dX2_named_1 (by rw [c_23]; decide) (by rw [c_23]; decide) (by rw [c_23]; rfl) (by decide) ?_
                                        refine aw_aload_n 1 dX2_named_174 rfl rfl ?_
                                        refine gf_X5_3 fl_X2_95 (lk10 hG) dX2_named_175 ?_
                                        exact aw_iret rfl dX2_named_178 ⟨rfl, _, rfl, h⟩
                                      · have h := sw_if.f h c_23
                                        by_cases c_24 : x0 = 119
                                        · have h := sw_if.t h c_24; refine aw_tableIn 98 dX2_named_1 (by rw [c_24]; decide) (by rw [c_24]; decide) (by rw [c_24]; rfl) (by decide) ?_
                                          refine aw_iload_n 2 dX2_named_98 rfl rfl ?_
                                          refine aw_zlt 117 dX2_named_99 (by decide) (fun c_25 => ?_) (fun c_25 => ?_)
                                          · have h := sw_if.t h c_25
                                            refine aw_iconst (v := 0) dX2_named_117 (by decide) ?_
                                            exact aw_iret rfl dX2_named_118 ⟨rfl, _, rfl, h⟩
                                          · have h := sw_if.f h c_25
                                            refine aw_iload_n 2 dX2_named_102 rfl rfl ?_
                                            refine aw_bipush (v := 9) dX2_named_103 (by decide) ?_
                                            refine aw_jge 117 dX2_named_105 (by decide) (fun c_26 => ?_) (fun c_26 => ?_)
                                            · have h := sw_if.f h c_26
                                              refine aw_iconst (v := 0) dX2_named_117 (by decide) ?_
                                              exact aw_iret rfl dX2_named_118 ⟨rfl, _, rfl, h⟩
                                            · have h := sw_if.t h c_26
                                              refine aw_aload_n 1 dX2_named_108 rfl rfl ?_
                                              refine gf_X5_0 fl_X2_90 (lk10 hG) (lr10_0 hG) dX2_named_109 ?_
                                              refine aw_iload_n 2 dX2_named_112 rfl rfl ?_
                                              obtain ⟨hi_27, h⟩ := h
                                              refine aw_ild dX2_named_113 (lk11 hG) (ln11 hG) hi_27 ?_
                                              refine aw_goto 118 dX2_named_114 (by decide) ?_
                                              exact aw_iret rfl dX2_named_118 ⟨rfl, _, rfl, h⟩
                                        · have h := sw_if.f h c_24
                                          refine aw_tableOut 174 dX2_named_1 (by have g0 := sw_ne c_1 (by decide : (100 : Int32).toInt = 100); have g1 := sw_ne c_3 (by decide : (101 : Int32).toInt = 101); have g2 := sw_ne c_4 (by decide : (102 : Int32).toInt = 102); have g3 := sw_ne c_5 (by decide : (103 : Int32).toInt = 103); have g4 := sw_ne c_6 (by decide : (104 : Int32).toInt = 104); have g5 := sw_ne c_7 (by decide : (105 : Int32).toInt = 105); have g6 := sw_ne c_8 (by decide : (106 : Int32).toInt = 106); have g7 := sw_ne c_9 (by decide : (107 : Int32).toInt = 107); have g8 := sw_ne c_10 (by decide : (108 : Int32).toInt = 108); have g9 := sw_ne c_11 (by decide : (109 : Int32).toInt = 109); have g10 := sw_ne c_12 (by decide : (110 : Int32).toInt = 110); have g11 := sw_ne c_13 (by decide : (111 : Int32).toInt = 111); have g12 := sw_ne c_14 (by decide : (112 : Int32).toInt = 112); have g13 := sw_ne c_15 (by decide : (113 : Int32).toInt = 113); have g14 := sw_ne c_16 (by decide : (114 : Int32).toInt = 114); have g15 := sw_ne c_17 (by decide : (115 : Int32).toInt = 115); have g16 := sw_ne c_21 (by decide : (116 : Int32).toInt = 116); have g17 := sw_ne c_22 (by decide : (117 : Int32).toInt = 117); have g18 := sw_ne c_23 (by decide : (118 : Int32).toInt = 118); have g19 := sw_ne c_24 (by decide : (119 : Int32).toInt = 119); omega) (by decide) ?_
                                          refine aw_aload_n 1 dX2_named_174 rfl rfl ?_
                                          refine gf_X5_3 fl_X2_95 (lk10 hG) dX2_named_175 ?_
                                          exact aw_iret rfl dX2_named_178 ⟨rfl, _, rfl, h⟩
theorem M_X2_named {l : Launch} {D : va_G} {cy : Nat → ClassId} {sz : Nat} {G : sw_G} (hG : sw_lay G)   {Q : Int32 → sw_I → sw_J → Prop} {x0 : Int32} {x2 : Int32} {I : sw_I} {J : sw_J} (h : wp_X2_named x0 x2 I J Q) : Met l yX2_named (Cond.code yX2_named cX2_named 3 (some .int) :: sw_T) rm_X2_named (sw_Pc D cy sz [.int x0, .ref (sz + 10), .int x2] G I J) (sw_Q D cy sz (sw_qi G Q)) 0 0 (fun q => sz ≤ q) :=
  sw_met (by decide) (fun q => by cases q) (Nat.le_of_ble_eq_true rfl) rfl (t_X2_named hG  h)
-- X2_joined
abbrev rm_X2_joined : Room := { frames := 0, cells := 0, slots := 0, locals := 0 }
def wp_X2_joined (x0 : Int32) (x1 : Int32) (x2 : Int32) (I : sw_I) (J : sw_J) (Q : Int32 → sw_I → sw_J → Prop) : Prop :=
  sw_if (x0 = 42) (Q (x1 * x2) I J) (sw_if (x0 = 43) (Q (x1 + x2) I J) (sw_if (x0 = 45) (Q (x1 - x2) I J) (sw_if (x0 = 47) (sw_if (x2 = 0) (Q (0 : Int32) I J) (¬ x2 = 0 ∧ Q (x1 / x2) I J)) (sw_if (x0 = 60) (sw_if (x1 < x2) (Q (1 : Int32) I J) (Q (0 : Int32) I J)) (sw_if (x0 = 62) (sw_if (x2 < x1) (Q (1 : Int32) I J) (Q (0 : Int32) I J)) (sw_if (x1 = x2) (Q (1 : Int32) I J) (Q (0 : Int32) I J)))))))
set_option maxRecDepth 20000 in
theorem t_X2_joined {l : Launch} {D : va_G} {cy : Nat → ClassId} {sz : Nat} {G : sw_G} (hG : True)   {Q : Int32 → sw_I → sw_J → Prop} {x0 : Int32} {x1 : Int32} {x2 : Int32} {I : sw_I} {J : sw_J} (h : wp_X2_joined x0 x1 x2 I J Q) : AW l D cy sz RX2 cX2_joined 3 (some .int) false rm_X2_joined 0 0 (sw_qi G Q) 0 0 G I J 0 [(0, .int x0), (1, .int x1), (2, .int x2)] [] := by
  unfold wp_X2_joined at h
  refine aw_iload_n 0 dX2_joined_0 rfl rfl ?_
  by_cases c_1 : x0 = 42
  · have h := sw_if.t h c_1; refine aw_lookup 68 dX2_joined_1 (by decide) (by first | (rw [c_1]; done) | (rw [c_1]; rfl)) (by decide) ?_
    refine aw_iload_n 1 dX2_joined_68 rfl rfl ?_
    refine aw_iload_n 2 dX2_joined_69 rfl rfl ?_
    refine aw_imul dX2_joined_70 ?_
    exact aw_iret rfl dX2_joined_71 ⟨rfl, _, rfl, h⟩
  · have h := sw_if.f h c_1
    by_cases c_2 : x0 = 43
    · have h := sw_if.t h c_2; refine aw_lookup 60 dX2_joined_1 (by decide) (by first | (rw [c_2]; done) | (rw [c_2]; rfl)) (by decide) ?_
      refine aw_iload_n 1 dX2_joined_60 rfl rfl ?_
      refine aw_iload_n 2 dX2_joined_61 rfl rfl ?_
      refine aw_iadd dX2_joined_62 ?_
      exact aw_iret rfl dX2_joined_63 ⟨rfl, _, rfl, h⟩
    · have h := sw_if.f h c_2
      by_cases c_3 : x0 = 45
      · have h := sw_if.t h c_3; refine aw_lookup 64 dX2_joined_1 (by decide) (by first | (rw [c_3]; done) | (rw [c_3]; rfl)) (by decide) ?_
        refine aw_iload_n 1 dX2_joined_64 rfl rfl ?_
        refine aw_iload_n 2 dX2_joined_65 rfl rfl ?_
        refine aw_isub dX2_joined_66 ?_
        exact aw_iret rfl dX2_joined_67 ⟨rfl, _, rfl, h⟩
      · have h := sw_if.f h c_3
        by_cases c_4 : x0 = 47
        · have h := sw_if.t h c_4; refine aw_lookup 72 dX2_joined_1 (by decide) (by first | (rw [c_4]; done) | (rw [c_4]; rfl)) (by decide) ?_
          refine aw_iload_n 2 dX2_joined_72 rfl rfl ?_
          refine aw_zne 80 dX2_joined_73 (by decide) (fun c_5 => ?_) (fun c_5 => ?_)
          · have h := sw_if.f h c_5
            refine aw_iload_n 1 dX2_joined_80 rfl rfl ?_
            refine aw_iload_n 2 dX2_joined_81 rfl rfl ?_
            obtain ⟨hz_6, h⟩ := h
            refine aw_idiv dX2_joined_82 hz_6 ?_
            exact aw_iret rfl dX2_joined_83 ⟨rfl, _, rfl, h⟩
          · have h := sw_if.t h c_5
            refine aw_iconst (v := 0) dX2_joined_76 (by decide) ?_
            refine aw_goto 83 dX2_joined_77 (by decide) ?_
            exact aw_iret rfl dX2_joined_83 ⟨rfl, _, rfl, h⟩
        · have h := sw_if.f h c_4
          by_cases c_7 : x0 = 60
          · have h := sw_if.t h c_7; refine aw_lookup 84 dX2_joined_1 (by decide) (by first | (rw [c_7]; done) | (rw [c_7]; rfl)) (by decide) ?_
            refine aw_iload_n 1 dX2_joined_84 rfl rfl ?_
            refine aw_iload_n 2 dX2_joined_85 rfl rfl ?_
            refine aw_jge 93 dX2_joined_86 (by decide) (fun c_8 => ?_) (fun c_8 => ?_)
            · have h := sw_if.f h c_8
              refine aw_iconst (v := 0) dX2_joined_93 (by decide) ?_
              exact aw_iret rfl dX2_joined_94 ⟨rfl, _, rfl, h⟩
            · have h := sw_if.t h c_8
              refine aw_iconst (v := 1) dX2_joined_89 (by decide) ?_
              refine aw_goto 94 dX2_joined_90 (by decide) ?_
              exact aw_iret rfl dX2_joined_94 ⟨rfl, _, rfl, h⟩
          · have h := sw_if.f h c_7
            by_cases c_9 : x0 = 62
            · have h := sw_if.t h c_9; refine aw_lookup 95 dX2_joined_1 (by decide) (by first | (rw [c_9]; done) | (rw [c_9]; rfl)) (by decide) ?_
              refine aw_iload_n 1 dX2_joined_95 rfl rfl ?_
              refine aw_iload_n 2 dX2_joined_96 rfl rfl ?_
              refine aw_jle 104 dX2_joined_97 (by decide) (fun c_10 => ?_) (fun c_10 => ?_)
              · have h := sw_if.f h c_10
                refine aw_iconst (v := 0) dX2_joined_104 (by decide) ?_
                exact aw_iret rfl dX2_joined_105 ⟨rfl, _, rfl, h⟩
              · have h := sw_if.t h c_10
                refine aw_iconst (v := 1) dX2_joined_100 (by decide) ?_
                refine aw_goto 105 dX2_joined_101 (by decide) ?_
                exact aw_iret rfl dX2_joined_105 ⟨rfl, _, rfl, h⟩
            · have h := sw_if.f h c_9
              refine aw_lookup (off := 105) 106 dX2_joined_1 (by decide) (by have g0 := sw_ne c_1 (by decide : (42 : Int32).toInt = 42); have g1 := sw_ne c_2 (by decide : (43 : Int32).toInt = 43); have g2 := sw_ne c_3 (by decide : (45 : Int32).toInt = 45); have g3 := sw_ne c_4 (by decide : (47 : Int32).toInt = 47); have g4 := sw_ne c_7 (by decide : (60 : Int32).toInt = 60); have g5 := sw_ne c_9 (by decide : (62 : Int32).toInt = 62); simp [Op.lookupswitch.offset, g0, Ne.symm g0, g1, Ne.symm g1, g2, Ne.symm g2, g3, Ne.symm g3, g4, Ne.symm g4, g5, Ne.symm g5]) (by decide) ?_
              refine aw_iload_n 1 dX2_joined_106 rfl rfl ?_
              refine aw_iload_n 2 dX2_joined_107 rfl rfl ?_
              refine aw_jne 115 dX2_joined_108 (by decide) (fun c_11 => ?_) (fun c_11 => ?_)
              · have h := sw_if.f h c_11
                refine aw_iconst (v := 0) dX2_joined_115 (by decide) ?_
                exact aw_iret rfl dX2_joined_116 ⟨rfl, _, rfl, h⟩
              · have h := sw_if.t h c_11
                refine aw_iconst (v := 1) dX2_joined_111 (by decide) ?_
                refine aw_goto 116 dX2_joined_112 (by decide) ?_
                exact aw_iret rfl dX2_joined_116 ⟨rfl, _, rfl, h⟩
theorem M_X2_joined {l : Launch} {D : va_G} {cy : Nat → ClassId} {sz : Nat} {G : sw_G} (hG : True)   {Q : Int32 → sw_I → sw_J → Prop} {x0 : Int32} {x1 : Int32} {x2 : Int32} {I : sw_I} {J : sw_J} (h : wp_X2_joined x0 x1 x2 I J Q) : Met l yX2_joined (Cond.code yX2_joined cX2_joined 3 (some .int) :: sw_T) rm_X2_joined (sw_Pc D cy sz [.int x0, .int x1, .int x2] G I J) (sw_Q D cy sz (sw_qi G Q)) 0 0 (fun q => sz ≤ q) :=
  sw_met (by decide) (fun q => by cases q) (Nat.le_of_ble_eq_true rfl) rfl (t_X2_joined hG  h)
-- X3_copy
abbrev rm_X3_copy : Room := { frames := 1, cells := 0, slots := 0, locals := 26 }
def wp_X3_copy (a0 : Nat) (a1 : Nat) (I : sw_I) (J : sw_J) (Q : sw_I → sw_J → Prop) : Prop :=
  ∀ I_2 : sw_I, I_2 = sw_cp I (a1 + 1) (a0 + 1) (0 : Int32).toNatClampNeg (0 : Int32).toNatClampNeg (10 : Int32).toNatClampNeg → ∀ I_5 : sw_I, I_5 = sw_cp I_2 (a1 + 2) (a0 + 2) (0 : Int32).toNatClampNeg (0 : Int32).toNatClampNeg (10 : Int32).toNatClampNeg → ∀ I_8 : sw_I, I_8 = sw_cp I_5 (a1 + 3) (a0 + 3) (0 : Int32).toNatClampNeg (0 : Int32).toNatClampNeg (10 : Int32).toNatClampNeg → ∀ I_10 : sw_I, I_10 = sw_up I_8 a0 3 (I_8 a1 3) → ∀ I_12 : sw_I, I_12 = sw_up I_10 a0 4 (I_10 a1 4) → ∀ I_14 : sw_I, I_14 = sw_up I_12 a0 5 (I_12 a1 5) → Q I_14 J
set_option maxRecDepth 20000 in
theorem t_X3_copy {l : Launch} {D : va_G} {cy : Nat → ClassId} {sz : Nat} {G : sw_G} (hG : sw_lay G) {a0 : Nat} {a1 : Nat} (ha0 : sw_mom G a0) (ha1 : sw_mom G a1) {Q : sw_I → sw_J → Prop}  {I : sw_I} {J : sw_J} (h : wp_X3_copy a0 a1 I J Q) : AW l D cy sz RX3 cX3_copy 2 none false rm_X3_copy 0 0 (sw_qv G Q) 0 0 G I J 0 [(0, .ref (sz + a0)), (1, .ref (sz + a1))] [] := by
  unfold wp_X3_copy at h
  refine aw_aload_n 1 dX3_copy_0 rfl rfl ?_
  refine gf_X3_0 fl_X3_9 ha1.1 ha1.2.1.1 dX3_copy_1 ?_
  refine aw_iconst (v := 0) dX3_copy_4 (by decide) ?_
  refine aw_aload_n 0 dX3_copy_5 rfl rfl ?_
  refine gf_X3_0 fl_X3_9 ha0.1 ha0.2.1.1 dX3_copy_6 ?_
  refine aw_iconst (v := 0) dX3_copy_9 (by decide) ?_
  refine aw_bipush (v := 10) dX3_copy_10 (by decide) ?_
  refine aw_copy hG.1 mc_X3_37 wm_arraycopy ha1.2.2.1 ha1.2.2.2.2.2.1 ha0.2.2.1 ha0.2.2.2.2.2.1 (by unfold sw_cpok; decide) (Nat.le_of_ble_eq_true rfl) (Nat.le_of_ble_eq_true rfl) dX3_copy_12 (aw_nameI fun I_2 e_3 => ?_)
  have h := h I_2 e_3
  refine aw_aload_n 1 dX3_copy_15 rfl rfl ?_
  refine gf_X3_1 fl_X3_15 ha1.1 ha1.2.1.2.1 dX3_copy_16 ?_
  refine aw_iconst (v := 0) dX3_copy_19 (by decide) ?_
  refine aw_aload_n 0 dX3_copy_20 rfl rfl ?_
  refine gf_X3_1 fl_X3_15 ha0.1 ha0.2.1.2.1 dX3_copy_21 ?_
  refine aw_iconst (v := 0) dX3_copy_24 (by decide) ?_
  refine aw_bipush (v := 10) dX3_copy_25 (by decide) ?_
  refine aw_copy hG.1 mc_X3_37 wm_arraycopy ha1.2.2.2.1 ha1.2.2.2.2.2.2.1 ha0.2.2.2.1 ha0.2.2.2.2.2.2.1 (by unfold sw_cpok; decide) (Nat.le_of_ble_eq_true rfl) (Nat.le_of_ble_eq_true rfl) dX3_copy_27 (aw_nameI fun I_5 e_6 => ?_)
  have h := h I_5 e_6
  refine aw_aload_n 1 dX3_copy_30 rfl rfl ?_
  refine gf_X3_2 fl_X3_18 ha1.1 ha1.2.1.2.2 dX3_copy_31 ?_
  refine aw_iconst (v := 0) dX3_copy_34 (by decide) ?_
  refine aw_aload_n 0 dX3_copy_35 rfl rfl ?_
  refine gf_X3_2 fl_X3_18 ha0.1 ha0.2.1.2.2 dX3_copy_36 ?_
  refine aw_iconst (v := 0) dX3_copy_39 (by decide) ?_
  refine aw_bipush (v := 10) dX3_copy_40 (by decide) ?_
  refine aw_copy hG.1 mc_X3_37 wm_arraycopy ha1.2.2.2.2.1 ha1.2.2.2.2.2.2.2 ha0.2.2.2.2.1 ha0.2.2.2.2.2.2.2 (by unfold sw_cpok; decide) (Nat.le_of_ble_eq_true rfl) (Nat.le_of_ble_eq_true rfl) dX3_copy_42 (aw_nameI fun I_8 e_9 => ?_)
  have h := h I_8 e_9
  refine aw_aload_n 0 dX3_copy_45 rfl rfl ?_
  refine aw_aload_n 1 dX3_copy_46 rfl rfl ?_
  refine gf_X3_3 fl_X3_21 ha1.1 dX3_copy_47 ?_
  refine pf_X3_3 fl_X3_21 ha0.1 dX3_copy_50 (aw_nameI fun I_10 e_11 => ?_)
  have h := h I_10 e_11
  refine aw_aload_n 0 dX3_copy_53 rfl rfl ?_
  refine aw_aload_n 1 dX3_copy_54 rfl rfl ?_
  refine gf_X3_4 fl_X3_25 ha1.1 dX3_copy_55 ?_
  refine pf_X3_4 fl_X3_25 ha0.1 dX3_copy_58 (aw_nameI fun I_12 e_13 => ?_)
  have h := h I_12 e_13
  refine aw_aload_n 0 dX3_copy_61 rfl rfl ?_
  refine aw_aload_n 1 dX3_copy_62 rfl rfl ?_
  refine gf_X3_5 fl_X3_28 ha1.1 dX3_copy_63 ?_
  refine pf_X3_5 fl_X3_28 ha0.1 dX3_copy_66 (aw_nameI fun I_14 e_15 => ?_)
  have h := h I_14 e_15
  exact aw_vret rfl dX3_copy_69 ⟨rfl, rfl, h⟩
theorem M_X3_copy {l : Launch} {D : va_G} {cy : Nat → ClassId} {sz : Nat} {G : sw_G} (hG : sw_lay G) {a0 : Nat} {a1 : Nat} (ha0 : sw_mom G a0) (ha1 : sw_mom G a1) {Q : sw_I → sw_J → Prop}  {I : sw_I} {J : sw_J} (h : wp_X3_copy a0 a1 I J Q) : Met l yX3_copy (Cond.code yX3_copy cX3_copy 2 none :: sw_T) rm_X3_copy (sw_Pc D cy sz [.ref (sz + a0), .ref (sz + a1)] G I J) (sw_Q D cy sz (sw_qv G Q)) 0 0 (fun q => sz ≤ q) :=
  sw_met (by decide) (fun q => by cases q) (Nat.le_of_ble_eq_true rfl) rfl (t_X3_copy hG ha0 ha1 h)
-- X3_isIn
abbrev rm_X3_isIn : Room := { frames := 0, cells := 0, slots := 0, locals := 0 }
def wp_X3_isIn (a0 : Nat) (x1 : Int32) (I : sw_I) (J : sw_J) (Q : Int32 → sw_I → sw_J → Prop) : Prop :=
  sw_if (x1 < 0) (Q 0 I J) (sw_if (x1 < (10 : Int32)) (sw_if ((((I a0 3) >>> (x1 &&& 31)) &&& (1 : Int32)) = 0) (Q 0 I J) (Q 1 I J)) (Q 0 I J))
set_option maxRecDepth 20000 in
theorem t_X3_isIn {l : Launch} {D : va_G} {cy : Nat → ClassId} {sz : Nat} {G : sw_G} (hG : True) {a0 : Nat} (ha0 : sw_mom G a0) {Q : Int32 → sw_I → sw_J → Prop} {x1 : Int32} {I : sw_I} {J : sw_J} (h : wp_X3_isIn a0 x1 I J Q) : AW l D cy sz RX3 cX3_isIn 2 (some .boolean) false rm_X3_isIn 0 0 (sw_qi G Q) 0 0 G I J 0 [(0, .ref (sz + a0)), (1, .int x1)] [] := by
  unfold wp_X3_isIn at h
  refine aw_iload_n 1 dX3_isIn_0 rfl rfl ?_
  refine aw_zlt 25 dX3_isIn_1 (by decide) (fun c_1 => ?_) (fun c_1 => ?_)
  · have h := sw_if.t h c_1
    refine aw_iconst (v := 0) dX3_isIn_25 (by decide) ?_
    exact aw_zret rfl rfl dX3_isIn_26 ⟨rfl, _, rfl, h⟩
  · have h := sw_if.f h c_1
    refine aw_iload_n 1 dX3_isIn_4 rfl rfl ?_
    refine aw_bipush (v := 10) dX3_isIn_5 (by decide) ?_
    refine aw_jge 25 dX3_isIn_7 (by decide) (fun c_2 => ?_) (fun c_2 => ?_)
    · have h := sw_if.f h c_2
      refine aw_iconst (v := 0) dX3_isIn_25 (by decide) ?_
      exact aw_zret rfl rfl dX3_isIn_26 ⟨rfl, _, rfl, h⟩
    · have h := sw_if.t h c_2
      refine aw_aload_n 0 dX3_isIn_10 rfl rfl ?_
      refine gf_X3_3 fl_X3_21 ha0.1 dX3_isIn_11 ?_
      refine aw_iload_n 1 dX3_isIn_14 rfl rfl ?_
      refine aw_ishr dX3_isIn_15 ?_
      refine aw_iconst (v := 1) dX3_isIn_16 (by decide) ?_
      refine aw_iand dX3_isIn_17 ?_
      refine aw_zeq 25 dX3_isIn_18 (by decide) (fun c_3 => ?_) (fun c_3 => ?_)
      · have h := sw_if.t h c_3
        refine aw_iconst (v := 0) dX3_isIn_25 (by decide) ?_
        exact aw_zret rfl rfl dX3_isIn_26 ⟨rfl, _, rfl, h⟩
      · have h := sw_if.f h c_3
        refine aw_iconst (v := 1) dX3_isIn_21 (by decide) ?_
        refine aw_goto 26 dX3_isIn_22 (by decide) ?_
        exact aw_zret rfl rfl dX3_isIn_26 ⟨rfl, _, rfl, h⟩
theorem M_X3_isIn {l : Launch} {D : va_G} {cy : Nat → ClassId} {sz : Nat} {G : sw_G} (hG : True) {a0 : Nat} (ha0 : sw_mom G a0) {Q : Int32 → sw_I → sw_J → Prop} {x1 : Int32} {I : sw_I} {J : sw_J} (h : wp_X3_isIn a0 x1 I J Q) : Met l yX3_isIn (Cond.code yX3_isIn cX3_isIn 2 (some .boolean) :: sw_T) rm_X3_isIn (sw_Pc D cy sz [.ref (sz + a0), .int x1] G I J) (sw_Q D cy sz (sw_qi G Q)) 0 0 (fun q => sz ≤ q) :=
  sw_met (by decide) (fun q => by cases q) (Nat.le_of_ble_eq_true rfl) rfl (t_X3_isIn hG ha0 h)
-- X3_stands
abbrev rm_X3_stands : Room := { frames := 1, cells := 0, slots := 0, locals := 21 }
def wp_X3_stands (a0 : Nat) (x1 : Int32) (I : sw_I) (J : sw_J) (Q : Int32 → sw_I → sw_J → Prop) : Prop :=
  sw_if (x1 < 0) (Q 0 I J) (sw_if (x1 < (10 : Int32)) (vp_in x1 10 ∧ sw_if ((I (a0 + 1) x1.toNatClampNeg) = (I a0 4)) (wp_X3_isIn a0 x1 I J (fun r_5 I_6 J_7 => sw_if (r_5 = 0) (Q 1 I_6 J_7) (Q 0 I_6 J_7))) (Q 0 I J)) (Q 0 I J))
set_option maxRecDepth 20000 in
theorem t_X3_stands {l : Launch} {D : va_G} {cy : Nat → ClassId} {sz : Nat} {G : sw_G} (hG : True) {a0 : Nat} (ha0 : sw_mom G a0) {Q : Int32 → sw_I → sw_J → Prop} {x1 : Int32} {I : sw_I} {J : sw_J} (h : wp_X3_stands a0 x1 I J Q) : AW l D cy sz RX3 cX3_stands 2 (some .boolean) false rm_X3_stands 0 0 (sw_qi G Q) 0 0 G I J 0 [(0, .ref (sz + a0)), (1, .int x1)] [] := by
  unfold wp_X3_stands at h
  refine aw_iload_n 1 dX3_stands_0 rfl rfl ?_
  refine aw_zlt 35 dX3_stands_1 (by decide) (fun c_1 => ?_) (fun c_1 => ?_)
  · have h := sw_if.t h c_1
    refine aw_iconst (v := 0) dX3_stands_35 (by decide) ?_
    exact aw_zret rfl rfl dX3_stands_36 ⟨rfl, _, rfl, h⟩
  · have h := sw_if.f h c_1
    refine aw_iload_n 1 dX3_stands_4 rfl rfl ?_
    refine aw_bipush (v := 10) dX3_stands_5 (by decide) ?_
    refine aw_jge 35 dX3_stands_7 (by decide) (fun c_2 => ?_) (fun c_2 => ?_)
    · have h := sw_if.f h c_2
      refine aw_iconst (v := 0) dX3_stands_35 (by decide) ?_
      exact aw_zret rfl rfl dX3_stands_36 ⟨rfl, _, rfl, h⟩
    · have h := sw_if.t h c_2
      refine aw_aload_n 0 dX3_stands_10 rfl rfl ?_
      refine gf_X3_0 fl_X3_9 ha0.1 ha0.2.1.1 dX3_stands_11 ?_
      refine aw_iload_n 1 dX3_stands_14 rfl rfl ?_
      obtain ⟨hi_3, h⟩ := h
      refine aw_ild dX3_stands_15 ha0.2.2.1 ha0.2.2.2.2.2.1 hi_3 ?_
      refine aw_aload_n 0 dX3_stands_16 rfl rfl ?_
      refine gf_X3_4 fl_X3_25 ha0.1 dX3_stands_17 ?_
      refine aw_jne 35 dX3_stands_20 (by decide) (fun c_4 => ?_) (fun c_4 => ?_)
      · have h := sw_if.f h c_4
        refine aw_iconst (v := 0) dX3_stands_35 (by decide) ?_
        exact aw_zret rfl rfl dX3_stands_36 ⟨rfl, _, rfl, h⟩
      · have h := sw_if.t h c_4
        refine aw_aload_n 0 dX3_stands_23 rfl rfl ?_
        refine aw_iload_n 1 dX3_stands_24 rfl rfl ?_
        refine aw_callV wv_X3_isIn (M_X3_isIn trivial ha0 h) ml_X3_43 rfl (by decide) ha0.1 rfl rfl (Nat.le_of_ble_eq_true rfl) ⟨rfl, rfl⟩ ⟨Nat.le_of_ble_eq_true rfl, Nat.le_of_ble_eq_true rfl⟩ ⟨Nat.le_refl _, Nat.le_refl _⟩ dX3_stands_25 (aw_ki fun r_5 I_6 J_7 h => ?_)
        refine aw_zne 35 dX3_stands_28 (by decide) (fun c_8 => ?_) (fun c_8 => ?_)
        · have h := sw_if.f h c_8
          refine aw_iconst (v := 0) dX3_stands_35 (by decide) ?_
          exact aw_zret rfl rfl dX3_stands_36 ⟨rfl, _, rfl, h⟩
        · have h := sw_if.t h c_8
          refine aw_iconst (v := 1) dX3_stands_31 (by decide) ?_
          refine aw_goto 36 dX3_stands_32 (by decide) ?_
          exact aw_zret rfl rfl dX3_stands_36 ⟨rfl, _, rfl, h⟩
theorem M_X3_stands {l : Launch} {D : va_G} {cy : Nat → ClassId} {sz : Nat} {G : sw_G} (hG : True) {a0 : Nat} (ha0 : sw_mom G a0) {Q : Int32 → sw_I → sw_J → Prop} {x1 : Int32} {I : sw_I} {J : sw_J} (h : wp_X3_stands a0 x1 I J Q) : Met l yX3_stands (Cond.code yX3_stands cX3_stands 2 (some .boolean) :: sw_T) rm_X3_stands (sw_Pc D cy sz [.ref (sz + a0), .int x1] G I J) (sw_Q D cy sz (sw_qi G Q)) 0 0 (fun q => sz ≤ q) :=
  sw_met (by decide) (fun q => by cases q) (Nat.le_of_ble_eq_true rfl) rfl (t_X3_stands hG ha0 h)
-- X3_onFloor
abbrev rm_X3_onFloor : Room := { frames := 0, cells := 0, slots := 0, locals := 0 }
def wB_X3_onFloor_28 (a0 : Nat) (K4 : Int32 → Int32 → Int32 → sw_I → sw_J → Prop) (Q : Int32 → sw_I → sw_J → Prop) (x1 : Int32) (x3 : Int32) (s0 : Int32) (s1 : Int32) (I : sw_I) (J : sw_J) : Prop :=
  ∀ y_1 : Int32, y_1 = s0 ||| s1 → ∀ y_3 : Int32, y_3 = x3 + 1 → K4 x1 y_1 y_3 I J
def wb_X3_onFloor_4 (a0 : Nat) (K4 : Int32 → Int32 → Int32 → sw_I → sw_J → Prop) (Q : Int32 → sw_I → sw_J → Prop) (x1 : Int32) (x2 : Int32) (x3 : Int32) (I : sw_I) (J : sw_J) : Prop :=
  sw_if (x3 < (10 : Int32)) (vp_in x3 10 ∧ sw_if ((I (a0 + 1) x3.toNatClampNeg) = x1) (wB_X3_onFloor_28 a0 K4 Q x1 x3 x2 ((1 : Int32) <<< (x3 &&& 31)) I J) (wB_X3_onFloor_28 a0 K4 Q x1 x3 x2 0 I J)) (Q x2 I J)
def wl_X3_onFloor_4 (a0 : Nat)  (Q : Int32 → sw_I → sw_J → Prop) : Nat → Int32 → Int32 → Int32 → sw_I → sw_J → Prop
  | 0 => fun _ _ _ _ _ => False
  | n + 1 => fun x1 x2 x3 I J => wb_X3_onFloor_4 a0 (wl_X3_onFloor_4 a0  Q n) Q x1 x2 x3 I J
def wp_X3_onFloor (a0 : Nat) (x1 : Int32) (I : sw_I) (J : sw_J) (Q : Int32 → sw_I → sw_J → Prop) : Prop :=
  ∃ n_1 : Nat, wl_X3_onFloor_4 a0  Q n_1 x1 0 0 I J
set_option maxRecDepth 20000 in
theorem t_X3_onFloor_28 {l : Launch} {D : va_G} {cy : Nat → ClassId} {sz : Nat} {G : sw_G} (hG : True) {a0 : Nat} (ha0 : sw_mom G a0) {Q : Int32 → sw_I → sw_J → Prop} {K4 : Int32 → Int32 → Int32 → sw_I → sw_J → Prop} (hK4 : ∀ (x1 : Int32) (x2 : Int32) (x3 : Int32) (I : sw_I) (J : sw_J), K4 x1 x2 x3 I J → AW l D cy sz RX3 cX3_onFloor 4 (some .int) false rm_X3_onFloor 0 0 (sw_qi G Q) 0 0 G I J 4 [(0, .ref (sz + a0)), (1, .int x1), (2, .int x2), (3, .int x3)] []) {x1 : Int32} {x3 : Int32} {s0 : Int32} {s1 : Int32} {I : sw_I} {J : sw_J} (h : wB_X3_onFloor_28 a0 K4 Q x1 x3 s0 s1 I J) : AW l D cy sz RX3 cX3_onFloor 4 (some .int) false rm_X3_onFloor 0 0 (sw_qi G Q) 0 0 G I J 28 [(0, .ref (sz + a0)), (1, .int x1), (3, .int x3)] [.int s1, .int s0] := by
  unfold wB_X3_onFloor_28 at h
  refine aw_ior dX3_onFloor_28 ?_
  refine aw_topi (fun y_1 e_2 => ?_)
  have h := h y_1 e_2
  refine aw_istore_n (lv' := [(2, .int y_1), (0, .ref (sz + a0)), (1, .int x1), (3, .int x3)]) dX3_onFloor_29 rfl (by decide) rfl ?_
  obtain ⟨y_3, e_4⟩ : ∃ q : Int32, q = x3 + 1 := ⟨_, rfl⟩
  have h := h y_3 e_4
  refine aw_iinc (lv' := [(3, .int y_3), (2, .int y_1), (0, .ref (sz + a0)), (1, .int x1)]) 3 dX3_onFloor_30 rfl (by rw [e_4]; rfl) (by decide) rfl ?_
  refine aw_goto 4 dX3_onFloor_33 (by decide) ?_
  refine aw_sub [2, 3, 1, 0] rfl ?_
  exact hK4 x1 y_1 y_3 I J h
set_option maxRecDepth 20000 in
theorem tb_X3_onFloor_4 {l : Launch} {D : va_G} {cy : Nat → ClassId} {sz : Nat} {G : sw_G} (hG : True) {a0 : Nat} (ha0 : sw_mom G a0) {Q : Int32 → sw_I → sw_J → Prop} {K4 : Int32 → Int32 → Int32 → sw_I → sw_J → Prop} (hK4 : ∀ (x1 : Int32) (x2 : Int32) (x3 : Int32) (I : sw_I) (J : sw_J), K4 x1 x2 x3 I J → AW l D cy sz RX3 cX3_onFloor 4 (some .int) false rm_X3_onFloor 0 0 (sw_qi G Q) 0 0 G I J 4 [(0, .ref (sz + a0)), (1, .int x1), (2, .int x2), (3, .int x3)] []) {x1 : Int32} {x2 : Int32} {x3 : Int32} {I : sw_I} {J : sw_J} (h : wb_X3_onFloor_4 a0 K4 Q x1 x2 x3 I J) : AW l D cy sz RX3 cX3_onFloor 4 (some .int) false rm_X3_onFloor 0 0 (sw_qi G Q) 0 0 G I J 4 [(0, .ref (sz + a0)), (1, .int x1), (2, .int x2), (3, .int x3)] [] := by
  unfold wb_X3_onFloor_4 at h
  refine aw_iload_n 3 dX3_onFloor_4 rfl rfl ?_
  refine aw_bipush (v := 10) dX3_onFloor_5 (by decide) ?_
  refine aw_jge 36 dX3_onFloor_7 (by decide) (fun c_1 => ?_) (fun c_1 => ?_)
  · have h := sw_if.f h c_1
    refine aw_iload_n 2 dX3_onFloor_36 rfl rfl ?_
    exact aw_iret rfl dX3_onFloor_37 ⟨rfl, _, rfl, h⟩
  · have h := sw_if.t h c_1
    refine aw_iload_n 2 dX3_onFloor_10 rfl rfl ?_
    refine aw_aload_n 0 dX3_onFloor_11 rfl rfl ?_
    refine gf_X3_0 fl_X3_9 ha0.1 ha0.2.1.1 dX3_onFloor_12 ?_
    refine aw_iload_n 3 dX3_onFloor_15 rfl rfl ?_
    obtain ⟨hi_2, h⟩ := h
    refine aw_ild dX3_onFloor_16 ha0.2.2.1 ha0.2.2.2.2.2.1 hi_2 ?_
    refine aw_iload_n 1 dX3_onFloor_17 rfl rfl ?_
    refine aw_jne 27 dX3_onFloor_18 (by decide) (fun c_3 => ?_) (fun c_3 => ?_)
    · have h := sw_if.f h c_3
      refine aw_iconst (v := 0) dX3_onFloor_27 (by decide) ?_
      refine aw_sub [0, 1, 3] rfl ?_
      exact t_X3_onFloor_28 hG ha0 hK4 h
    · have h := sw_if.t h c_3
      refine aw_iconst (v := 1) dX3_onFloor_21 (by decide) ?_
      refine aw_iload_n 3 dX3_onFloor_22 rfl rfl ?_
      refine aw_ishl dX3_onFloor_23 ?_
      refine aw_goto 28 dX3_onFloor_24 (by decide) ?_
      refine aw_sub [0, 1, 3] rfl ?_
      exact t_X3_onFloor_28 hG ha0 hK4 h
set_option maxRecDepth 20000 in
theorem tl_X3_onFloor_4 {l : Launch} {D : va_G} {cy : Nat → ClassId} {sz : Nat} {G : sw_G} (hG : True) {a0 : Nat} (ha0 : sw_mom G a0) {Q : Int32 → sw_I → sw_J → Prop} : ∀ (n : Nat) (x1 : Int32) (x2 : Int32) (x3 : Int32) (I : sw_I) (J : sw_J), wl_X3_onFloor_4 a0  Q n x1 x2 x3 I J → AW l D cy sz RX3 cX3_onFloor 4 (some .int) false rm_X3_onFloor 0 0 (sw_qi G Q) 0 0 G I J 4 [(0, .ref (sz + a0)), (1, .int x1), (2, .int x2), (3, .int x3)] [] := by
  intro n
  induction n with
  | zero => intro x1 x2 x3 I J h; exact False.elim h
  | succ n ih => intro x1 x2 x3 I J h; exact tb_X3_onFloor_4 hG ha0 ih h
set_option maxRecDepth 20000 in
theorem t_X3_onFloor {l : Launch} {D : va_G} {cy : Nat → ClassId} {sz : Nat} {G : sw_G} (hG : True) {a0 : Nat} (ha0 : sw_mom G a0) {Q : Int32 → sw_I → sw_J → Prop} {x1 : Int32} {I : sw_I} {J : sw_J} (h : wp_X3_onFloor a0 x1 I J Q) : AW l D cy sz RX3 cX3_onFloor 4 (some .int) false rm_X3_onFloor 0 0 (sw_qi G Q) 0 0 G I J 0 [(0, .ref (sz + a0)), (1, .int x1)] [] := by
  unfold wp_X3_onFloor at h
  refine aw_iconst (v := 0) dX3_onFloor_0 (by decide) ?_
  refine aw_istore_n (lv' := [(2, .int 0), (0, .ref (sz + a0)), (1, .int x1)]) dX3_onFloor_1 rfl (by decide) rfl ?_
  refine aw_iconst (v := 0) dX3_onFloor_2 (by decide) ?_
  refine aw_istore_n (lv' := [(3, .int 0), (2, .int 0), (0, .ref (sz + a0)), (1, .int x1)]) dX3_onFloor_3 rfl (by decide) rfl ?_
  refine aw_sub [2, 3, 1, 0] rfl ?_
  obtain ⟨n_1, h⟩ := h
  exact tl_X3_onFloor_4 hG ha0  n_1 x1 0 0 I J h
theorem M_X3_onFloor {l : Launch} {D : va_G} {cy : Nat → ClassId} {sz : Nat} {G : sw_G} (hG : True) {a0 : Nat} (ha0 : sw_mom G a0) {Q : Int32 → sw_I → sw_J → Prop} {x1 : Int32} {I : sw_I} {J : sw_J} (h : wp_X3_onFloor a0 x1 I J Q) : Met l yX3_onFloor (Cond.code yX3_onFloor cX3_onFloor 4 (some .int) :: sw_T) rm_X3_onFloor (sw_Pc D cy sz [.ref (sz + a0), .int x1] G I J) (sw_Q D cy sz (sw_qi G Q)) 0 0 (fun q => sz ≤ q) :=
  sw_met (by decide) (fun q => by cases q) (Nat.le_of_ble_eq_true rfl) rfl (t_X3_onFloor hG ha0 h)
-- X4_prepare
abbrev rm_X4_prepare : Room := { frames := 2, cells := 0, slots := 0, locals := 47 }
def wp_X4_prepare (a1 : Nat) (I : sw_I) (J : sw_J) (Q : sw_I → sw_J → Prop) : Prop :=
  vp_in (I 21 1) 21 ∧ wp_X3_copy (23 + 4 * (I 21 1).toNatClampNeg) a1 I J (fun I_4 J_5 => Q I_4 J_5)
set_option maxRecDepth 20000 in
theorem t_X4_prepare {l : Launch} {D : va_G} {cy : Nat → ClassId} {sz : Nat} {G : sw_G} (hG : sw_lay G) {a1 : Nat} (ha1 : sw_mom G a1) {Q : sw_I → sw_J → Prop}  {I : sw_I} {J : sw_J} (h : wp_X4_prepare a1 I J Q) : AW l D cy sz RX4 cX4_prepare 2 none false rm_X4_prepare 0 0 (sw_qv G Q) 0 0 G I J 0 [(0, .ref (sz + 21)), (1, .ref (sz + a1))] [] := by
  unfold wp_X4_prepare at h
  refine aw_aload_n 0 dX4_prepare_0 rfl rfl ?_
  refine gf_X4_0 fl_X4_13 (lk21 hG) (lr21_0 hG) dX4_prepare_1 ?_
  refine aw_aload_n 0 dX4_prepare_4 rfl rfl ?_
  refine gf_X4_1 fl_X4_17 (lk21 hG) dX4_prepare_5 ?_
  obtain ⟨hi_1, h⟩ := h
  have hm_2 := la22_m hG hi_1
  refine aw_ald dX4_prepare_8 (lk22 hG) (ln22 hG) hi_1 (la22_r hG hi_1) ?_
  refine aw_aload_n 1 dX4_prepare_9 rfl rfl ?_
  refine aw_callV wv_X3_copy (M_X3_copy hG hm_2 ha1 h) ml_X4_25 rfl (by decide) hm_2.1 rfl rfl (Nat.le_of_ble_eq_true rfl) ⟨rfl, rfl⟩ ⟨Nat.le_of_ble_eq_true rfl, Nat.le_of_ble_eq_true rfl⟩ ⟨Nat.le_refl _, Nat.le_refl _⟩ dX4_prepare_10 (aw_kv fun I_4 J_5 h => ?_)
  exact aw_vret rfl dX4_prepare_13 ⟨rfl, rfl, h⟩
theorem M_X4_prepare {l : Launch} {D : va_G} {cy : Nat → ClassId} {sz : Nat} {G : sw_G} (hG : sw_lay G) {a1 : Nat} (ha1 : sw_mom G a1) {Q : sw_I → sw_J → Prop}  {I : sw_I} {J : sw_J} (h : wp_X4_prepare a1 I J Q) : Met l yX4_prepare (Cond.code yX4_prepare cX4_prepare 2 none :: sw_T) rm_X4_prepare (sw_Pc D cy sz [.ref (sz + 21), .ref (sz + a1)] G I J) (sw_Q D cy sz (sw_qv G Q)) 0 0 (fun q => sz ≤ q) :=
  sw_met (by decide) (fun q => by cases q) (Nat.le_of_ble_eq_true rfl) rfl (t_X4_prepare hG ha1 h)
-- X4_commit
abbrev rm_X4_commit : Room := { frames := 1, cells := 0, slots := 0, locals := 21 }
def wB_X4_commit_22   (Q : sw_I → sw_J → Prop) (s1 : Int32) (I : sw_I) (J : sw_J) : Prop :=
  ∀ I_1 : sw_I, I_1 = sw_up I 21 1 s1 → ∀ I_3 : sw_I, I_3 = sw_up I_1 21 2 (if (20 : Int32) < ((I_1 21 2) + (1 : Int32)) then (20 : Int32) else ((I_1 21 2) + (1 : Int32))) → Q I_3 J
def wp_X4_commit  (I : sw_I) (J : sw_J) (Q : sw_I → sw_J → Prop) : Prop :=
  sw_if (((I 21 1) + (1 : Int32)) < (21 : Int32)) (wB_X4_commit_22   Q ((I 21 1) + (1 : Int32)) I J) (wB_X4_commit_22   Q 0 I J)
set_option maxRecDepth 20000 in
theorem t_X4_commit_22 {l : Launch} {D : va_G} {cy : Nat → ClassId} {sz : Nat} {G : sw_G} (hG : sw_lay G)   {Q : sw_I → sw_J → Prop} {s1 : Int32} {I : sw_I} {J : sw_J} (h : wB_X4_commit_22   Q s1 I J) : AW l D cy sz RX4 cX4_commit 1 none false rm_X4_commit 0 0 (sw_qv G Q) 0 0 G I J 22 [(0, .ref (sz + 21))] [.int s1, .ref (sz + 21)] := by
  unfold wB_X4_commit_22 at h
  refine pf_X4_1 fl_X4_17 (lk21 hG) dX4_commit_22 (aw_nameI fun I_1 e_2 => ?_)
  have h := h I_1 e_2
  refine aw_aload_n 0 dX4_commit_25 rfl rfl ?_
  refine aw_aload_n 0 dX4_commit_26 rfl rfl ?_
  refine gf_X4_2 fl_X4_21 (lk21 hG) dX4_commit_27 ?_
  refine aw_iconst (v := 1) dX4_commit_30 (by decide) ?_
  refine aw_iadd dX4_commit_31 ?_
  refine aw_bipush (v := 20) dX4_commit_32 (by decide) ?_
  refine aw_mmin mm_X4_29 wm_min (Nat.le_of_ble_eq_true rfl) (Nat.le_of_ble_eq_true rfl) ⟨Nat.le_refl _, Nat.le_refl _⟩ dX4_commit_34 ?_
  refine pf_X4_2 fl_X4_21 (lk21 hG) dX4_commit_37 (aw_nameI fun I_3 e_4 => ?_)
  have h := h I_3 e_4
  exact aw_vret rfl dX4_commit_40 ⟨rfl, rfl, h⟩
set_option maxRecDepth 20000 in
theorem t_X4_commit {l : Launch} {D : va_G} {cy : Nat → ClassId} {sz : Nat} {G : sw_G} (hG : sw_lay G)   {Q : sw_I → sw_J → Prop}  {I : sw_I} {J : sw_J} (h : wp_X4_commit  I J Q) : AW l D cy sz RX4 cX4_commit 1 none false rm_X4_commit 0 0 (sw_qv G Q) 0 0 G I J 0 [(0, .ref (sz + 21))] [] := by
  unfold wp_X4_commit at h
  refine aw_aload_n 0 dX4_commit_0 rfl rfl ?_
  refine aw_aload_n 0 dX4_commit_1 rfl rfl ?_
  refine gf_X4_1 fl_X4_17 (lk21 hG) dX4_commit_2 ?_
  refine aw_iconst (v := 1) dX4_commit_5 (by decide) ?_
  refine aw_iadd dX4_commit_6 ?_
  refine aw_bipush (v := 21) dX4_commit_7 (by decide) ?_
  refine aw_jge 21 dX4_commit_9 (by decide) (fun c_1 => ?_) (fun c_1 => ?_)
  · have h := sw_if.f h c_1
    refine aw_iconst (v := 0) dX4_commit_21 (by decide) ?_
    refine aw_sub [0] rfl ?_
    exact t_X4_commit_22 hG   h
  · have h := sw_if.t h c_1
    refine aw_aload_n 0 dX4_commit_12 rfl rfl ?_
    refine gf_X4_1 fl_X4_17 (lk21 hG) dX4_commit_13 ?_
    refine aw_iconst (v := 1) dX4_commit_16 (by decide) ?_
    refine aw_iadd dX4_commit_17 ?_
    refine aw_goto 22 dX4_commit_18 (by decide) ?_
    refine aw_sub [0] rfl ?_
    exact t_X4_commit_22 hG   h
theorem M_X4_commit {l : Launch} {D : va_G} {cy : Nat → ClassId} {sz : Nat} {G : sw_G} (hG : sw_lay G)   {Q : sw_I → sw_J → Prop}  {I : sw_I} {J : sw_J} (h : wp_X4_commit  I J Q) : Met l yX4_commit (Cond.code yX4_commit cX4_commit 1 none :: sw_T) rm_X4_commit (sw_Pc D cy sz [.ref (sz + 21)] G I J) (sw_Q D cy sz (sw_qv G Q)) 0 0 (fun q => sz ≤ q) :=
  sw_met (by decide) (fun q => by cases q) (Nat.le_of_ble_eq_true rfl) rfl (t_X4_commit hG  h)
-- X4_bringBack
abbrev rm_X4_bringBack : Room := { frames := 2, cells := 0, slots := 0, locals := 47 }
def wB_X4_bringBack_28 (a1 : Nat)  (Q : Int32 → sw_I → sw_J → Prop) (s1 : Int32) (I : sw_I) (J : sw_J) : Prop :=
  ∀ I_1 : sw_I, I_1 = sw_up I 21 1 s1 → ∀ I_3 : sw_I, I_3 = sw_up I_1 21 2 ((I_1 21 2) - (1 : Int32)) → vp_in (I_3 21 1) 21 ∧ wp_X3_copy a1 (23 + 4 * (I_3 21 1).toNatClampNeg) I_3 J (fun I_8 J_9 => Q 1 I_8 J_9)
def wp_X4_bringBack (a1 : Nat) (I : sw_I) (J : sw_J) (Q : Int32 → sw_I → sw_J → Prop) : Prop :=
  sw_if ((I 21 2) = 0) (Q 0 I J) (sw_if (0 < (I 21 1)) (wB_X4_bringBack_28 a1  Q ((I 21 1) - (1 : Int32)) I J) (wB_X4_bringBack_28 a1  Q 20 I J))
set_option maxRecDepth 20000 in
theorem t_X4_bringBack_28 {l : Launch} {D : va_G} {cy : Nat → ClassId} {sz : Nat} {G : sw_G} (hG : sw_lay G) {a1 : Nat} (ha1 : sw_mom G a1) {Q : Int32 → sw_I → sw_J → Prop} {s1 : Int32} {I : sw_I} {J : sw_J} (h : wB_X4_bringBack_28 a1  Q s1 I J) : AW l D cy sz RX4 cX4_bringBack 2 (some .boolean) false rm_X4_bringBack 0 0 (sw_qi G Q) 0 0 G I J 28 [(0, .ref (sz + 21)), (1, .ref (sz + a1))] [.int s1, .ref (sz + 21)] := by
  unfold wB_X4_bringBack_28 at h
  refine pf_X4_1 fl_X4_17 (lk21 hG) dX4_bringBack_28 (aw_nameI fun I_1 e_2 => ?_)
  have h := h I_1 e_2
  refine aw_aload_n 0 dX4_bringBack_31 rfl rfl ?_
  refine aw_dup dX4_bringBack_32 rfl ?_
  refine gf_X4_2 fl_X4_21 (lk21 hG) dX4_bringBack_33 ?_
  refine aw_iconst (v := 1) dX4_bringBack_36 (by decide) ?_
  refine aw_isub dX4_bringBack_37 ?_
  refine pf_X4_2 fl_X4_21 (lk21 hG) dX4_bringBack_38 (aw_nameI fun I_3 e_4 => ?_)
  have h := h I_3 e_4
  refine aw_aload_n 1 dX4_bringBack_41 rfl rfl ?_
  refine aw_aload_n 0 dX4_bringBack_42 rfl rfl ?_
  refine gf_X4_0 fl_X4_13 (lk21 hG) (lr21_0 hG) dX4_bringBack_43 ?_
  refine aw_aload_n 0 dX4_bringBack_46 rfl rfl ?_
  refine gf_X4_1 fl_X4_17 (lk21 hG) dX4_bringBack_47 ?_
  obtain ⟨hi_5, h⟩ := h
  have hm_6 := la22_m hG hi_5
  refine aw_ald dX4_bringBack_50 (lk22 hG) (ln22 hG) hi_5 (la22_r hG hi_5) ?_
  refine aw_callV wv_X3_copy (M_X3_copy hG ha1 hm_6 h) ml_X4_25 rfl (by decide) ha1.1 rfl rfl (Nat.le_of_ble_eq_true rfl) ⟨rfl, rfl⟩ ⟨Nat.le_of_ble_eq_true rfl, Nat.le_of_ble_eq_true rfl⟩ ⟨Nat.le_refl _, Nat.le_refl _⟩ dX4_bringBack_51 (aw_kv fun I_8 J_9 h => ?_)
  refine aw_iconst (v := 1) dX4_bringBack_54 (by decide) ?_
  exact aw_zret rfl rfl dX4_bringBack_55 ⟨rfl, _, rfl, h⟩
set_option maxRecDepth 20000 in
theorem t_X4_bringBack {l : Launch} {D : va_G} {cy : Nat → ClassId} {sz : Nat} {G : sw_G} (hG : sw_lay G) {a1 : Nat} (ha1 : sw_mom G a1) {Q : Int32 → sw_I → sw_J → Prop}  {I : sw_I} {J : sw_J} (h : wp_X4_bringBack a1 I J Q) : AW l D cy sz RX4 cX4_bringBack 2 (some .boolean) false rm_X4_bringBack 0 0 (sw_qi G Q) 0 0 G I J 0 [(0, .ref (sz + 21)), (1, .ref (sz + a1))] [] := by
  unfold wp_X4_bringBack at h
  refine aw_aload_n 0 dX4_bringBack_0 rfl rfl ?_
  refine gf_X4_2 fl_X4_21 (lk21 hG) dX4_bringBack_1 ?_
  refine aw_zne 9 dX4_bringBack_4 (by decide) (fun c_1 => ?_) (fun c_1 => ?_)
  · have h := sw_if.f h c_1
    refine aw_aload_n 0 dX4_bringBack_9 rfl rfl ?_
    refine aw_aload_n 0 dX4_bringBack_10 rfl rfl ?_
    refine gf_X4_1 fl_X4_17 (lk21 hG) dX4_bringBack_11 ?_
    refine aw_zle 26 dX4_bringBack_14 (by decide) (fun c_2 => ?_) (fun c_2 => ?_)
    · have h := sw_if.f h c_2
      refine aw_bipush (v := 20) dX4_bringBack_26 (by decide) ?_
      refine aw_sub [0, 1] rfl ?_
      exact t_X4_bringBack_28 hG ha1  h
    · have h := sw_if.t h c_2
      refine aw_aload_n 0 dX4_bringBack_17 rfl rfl ?_
      refine gf_X4_1 fl_X4_17 (lk21 hG) dX4_bringBack_18 ?_
      refine aw_iconst (v := 1) dX4_bringBack_21 (by decide) ?_
      refine aw_isub dX4_bringBack_22 ?_
      refine aw_goto 28 dX4_bringBack_23 (by decide) ?_
      refine aw_sub [0, 1] rfl ?_
      exact t_X4_bringBack_28 hG ha1  h
  · have h := sw_if.t h c_1
    refine aw_iconst (v := 0) dX4_bringBack_7 (by decide) ?_
    exact aw_zret rfl rfl dX4_bringBack_8 ⟨rfl, _, rfl, h⟩
theorem M_X4_bringBack {l : Launch} {D : va_G} {cy : Nat → ClassId} {sz : Nat} {G : sw_G} (hG : sw_lay G) {a1 : Nat} (ha1 : sw_mom G a1) {Q : Int32 → sw_I → sw_J → Prop}  {I : sw_I} {J : sw_J} (h : wp_X4_bringBack a1 I J Q) : Met l yX4_bringBack (Cond.code yX4_bringBack cX4_bringBack 2 (some .boolean) :: sw_T) rm_X4_bringBack (sw_Pc D cy sz [.ref (sz + 21), .ref (sz + a1)] G I J) (sw_Q D cy sz (sw_qi G Q)) 0 0 (fun q => sz ≤ q) :=
  sw_met (by decide) (fun q => by cases q) (Nat.le_of_ble_eq_true rfl) rfl (t_X4_bringBack hG ha1 h)
-- X6_wantNothing
abbrev rm_X6_wantNothing : Room := { frames := 0, cells := 0, slots := 0, locals := 0 }
def wp_X6_wantNothing  (I : sw_I) (J : sw_J) (Q : sw_I → sw_J → Prop) : Prop :=
  ∀ I_1 : sw_I, I_1 = sw_up I 120 7 (0 : Int32) → Q I_1 J
set_option maxRecDepth 20000 in
theorem t_X6_wantNothing {l : Launch} {D : va_G} {cy : Nat → ClassId} {sz : Nat} {G : sw_G} (hG : sw_lay G)   {Q : sw_I → sw_J → Prop}  {I : sw_I} {J : sw_J} (h : wp_X6_wantNothing  I J Q) : AW l D cy sz RX6 cX6_wantNothing 1 none false rm_X6_wantNothing 0 0 (sw_qv G Q) 0 0 G I J 0 [(0, .ref (sz + 120))] [] := by
  unfold wp_X6_wantNothing at h
  refine aw_aload_n 0 dX6_wantNothing_0 rfl rfl ?_
  refine aw_iconst (v := 0) dX6_wantNothing_1 (by decide) ?_
  refine pf_X6_7 fl_X6_40 (lk120 hG) dX6_wantNothing_2 (aw_nameI fun I_1 e_2 => ?_)
  have h := h I_1 e_2
  exact aw_vret rfl dX6_wantNothing_5 ⟨rfl, rfl, h⟩
theorem M_X6_wantNothing {l : Launch} {D : va_G} {cy : Nat → ClassId} {sz : Nat} {G : sw_G} (hG : sw_lay G)   {Q : sw_I → sw_J → Prop}  {I : sw_I} {J : sw_J} (h : wp_X6_wantNothing  I J Q) : Met l yX6_wantNothing (Cond.code yX6_wantNothing cX6_wantNothing 1 none :: sw_T) rm_X6_wantNothing (sw_Pc D cy sz [.ref (sz + 120)] G I J) (sw_Q D cy sz (sw_qv G Q)) 0 0 (fun q => sz ≤ q) :=
  sw_met (by decide) (fun q => by cases q) (Nat.le_of_ble_eq_true rfl) rfl (t_X6_wantNothing hG  h)
-- X6_wantHome
abbrev rm_X6_wantHome : Room := { frames := 0, cells := 0, slots := 0, locals := 0 }
def wp_X6_wantHome (x1 : Int32) (I : sw_I) (J : sw_J) (Q : sw_I → sw_J → Prop) : Prop :=
  ∀ I_1 : sw_I, I_1 = sw_up I 120 7 (1 : Int32) → ∀ I_3 : sw_I, I_3 = sw_up I_1 120 8 x1 → Q I_3 J
set_option maxRecDepth 20000 in
theorem t_X6_wantHome {l : Launch} {D : va_G} {cy : Nat → ClassId} {sz : Nat} {G : sw_G} (hG : sw_lay G)   {Q : sw_I → sw_J → Prop} {x1 : Int32} {I : sw_I} {J : sw_J} (h : wp_X6_wantHome x1 I J Q) : AW l D cy sz RX6 cX6_wantHome 2 none false rm_X6_wantHome 0 0 (sw_qv G Q) 0 0 G I J 0 [(0, .ref (sz + 120)), (1, .int x1)] [] := by
  unfold wp_X6_wantHome at h
  refine aw_aload_n 0 dX6_wantHome_0 rfl rfl ?_
  refine aw_iconst (v := 1) dX6_wantHome_1 (by decide) ?_
  refine pf_X6_7 fl_X6_40 (lk120 hG) dX6_wantHome_2 (aw_nameI fun I_1 e_2 => ?_)
  have h := h I_1 e_2
  refine aw_aload_n 0 dX6_wantHome_5 rfl rfl ?_
  refine aw_iload_n 1 dX6_wantHome_6 rfl rfl ?_
  refine pf_X6_8 fl_X6_43 (lk120 hG) dX6_wantHome_7 (aw_nameI fun I_3 e_4 => ?_)
  have h := h I_3 e_4
  exact aw_vret rfl dX6_wantHome_10 ⟨rfl, rfl, h⟩
theorem M_X6_wantHome {l : Launch} {D : va_G} {cy : Nat → ClassId} {sz : Nat} {G : sw_G} (hG : sw_lay G)   {Q : sw_I → sw_J → Prop} {x1 : Int32} {I : sw_I} {J : sw_J} (h : wp_X6_wantHome x1 I J Q) : Met l yX6_wantHome (Cond.code yX6_wantHome cX6_wantHome 2 none :: sw_T) rm_X6_wantHome (sw_Pc D cy sz [.ref (sz + 120), .int x1] G I J) (sw_Q D cy sz (sw_qv G Q)) 0 0 (fun q => sz ≤ q) :=
  sw_met (by decide) (fun q => by cases q) (Nat.le_of_ble_eq_true rfl) rfl (t_X6_wantHome hG  h)
-- X6_wantGathered
abbrev rm_X6_wantGathered : Room := { frames := 0, cells := 0, slots := 0, locals := 0 }
def wp_X6_wantGathered (x1 : Int32) (x2 : Int32) (I : sw_I) (J : sw_J) (Q : sw_I → sw_J → Prop) : Prop :=
  ∀ I_1 : sw_I, I_1 = sw_up I 120 7 (2 : Int32) → ∀ I_3 : sw_I, I_3 = sw_up I_1 120 9 x1 → ∀ I_5 : sw_I, I_5 = sw_up I_3 120 8 x2 → Q I_5 J
set_option maxRecDepth 20000 in
theorem t_X6_wantGathered {l : Launch} {D : va_G} {cy : Nat → ClassId} {sz : Nat} {G : sw_G} (hG : sw_lay G)   {Q : sw_I → sw_J → Prop} {x1 : Int32} {x2 : Int32} {I : sw_I} {J : sw_J} (h : wp_X6_wantGathered x1 x2 I J Q) : AW l D cy sz RX6 cX6_wantGathered 3 none false rm_X6_wantGathered 0 0 (sw_qv G Q) 0 0 G I J 0 [(0, .ref (sz + 120)), (1, .int x1), (2, .int x2)] [] := by
  unfold wp_X6_wantGathered at h
  refine aw_aload_n 0 dX6_wantGathered_0 rfl rfl ?_
  refine aw_iconst (v := 2) dX6_wantGathered_1 (by decide) ?_
  refine pf_X6_7 fl_X6_40 (lk120 hG) dX6_wantGathered_2 (aw_nameI fun I_1 e_2 => ?_)
  have h := h I_1 e_2
  refine aw_aload_n 0 dX6_wantGathered_5 rfl rfl ?_
  refine aw_iload_n 1 dX6_wantGathered_6 rfl rfl ?_
  refine pf_X6_9 fl_X6_46 (lk120 hG) dX6_wantGathered_7 (aw_nameI fun I_3 e_4 => ?_)
  have h := h I_3 e_4
  refine aw_aload_n 0 dX6_wantGathered_10 rfl rfl ?_
  refine aw_iload_n 2 dX6_wantGathered_11 rfl rfl ?_
  refine pf_X6_8 fl_X6_43 (lk120 hG) dX6_wantGathered_12 (aw_nameI fun I_5 e_6 => ?_)
  have h := h I_5 e_6
  exact aw_vret rfl dX6_wantGathered_15 ⟨rfl, rfl, h⟩
theorem M_X6_wantGathered {l : Launch} {D : va_G} {cy : Nat → ClassId} {sz : Nat} {G : sw_G} (hG : sw_lay G)   {Q : sw_I → sw_J → Prop} {x1 : Int32} {x2 : Int32} {I : sw_I} {J : sw_J} (h : wp_X6_wantGathered x1 x2 I J Q) : Met l yX6_wantGathered (Cond.code yX6_wantGathered cX6_wantGathered 3 none :: sw_T) rm_X6_wantGathered (sw_Pc D cy sz [.ref (sz + 120), .int x1, .int x2] G I J) (sw_Q D cy sz (sw_qv G Q)) 0 0 (fun q => sz ≤ q) :=
  sw_met (by decide) (fun q => by cases q) (Nat.le_of_ble_eq_true rfl) rfl (t_X6_wantGathered hG  h)
-- X6_keyOf
abbrev rm_X6_keyOf : Room := { frames := 0, cells := 0, slots := 0, locals := 0 }
def wb_X6_keyOf_17 (a0 : Nat) (K17 : Int64 → Int32 → sw_I → sw_J → Prop) (Q : Int64 → sw_I → sw_J → Prop) (w1 : Int64) (x3 : Int32) (I : sw_I) (J : sw_J) : Prop :=
  sw_if (x3 < 0) (Q w1 I J) (vp_in x3 10 ∧ ∀ y_3 : Int64, y_3 = (w1 <<< ((4 : Int32).toInt64 &&& 63)) ||| (((I (a0 + 1) x3.toNatClampNeg) + (1 : Int32)).toInt64) → ∀ y_5 : Int32, y_5 = x3 + (-1) → K17 y_3 y_5 I J)
def wl_X6_keyOf_17 (a0 : Nat)  (Q : Int64 → sw_I → sw_J → Prop) : Nat → Int64 → Int32 → sw_I → sw_J → Prop
  | 0 => fun _ _ _ _ => False
  | n + 1 => fun w1 x3 I J => wb_X6_keyOf_17 a0 (wl_X6_keyOf_17 a0  Q n) Q w1 x3 I J
def wp_X6_keyOf (a0 : Nat) (I : sw_I) (J : sw_J) (Q : Int64 → sw_I → sw_J → Prop) : Prop :=
  ∀ y_1 : Int64, y_1 = (((I a0 5).toInt64) <<< ((4 : Int32).toInt64 &&& 63)) ||| ((I a0 4).toInt64) → ∃ n_3 : Nat, wl_X6_keyOf_17 a0  Q n_3 y_1 9 I J
set_option maxRecDepth 20000 in
theorem tb_X6_keyOf_17 {l : Launch} {D : va_G} {cy : Nat → ClassId} {sz : Nat} {G : sw_G} (hG : True) {a0 : Nat} (ha0 : sw_mom G a0) {Q : Int64 → sw_I → sw_J → Prop} {K17 : Int64 → Int32 → sw_I → sw_J → Prop} (hK17 : ∀ (w1 : Int64) (x3 : Int32) (I : sw_I) (J : sw_J), K17 w1 x3 I J → AW l D cy sz RX6 cX6_keyOf 4 (some .long) false rm_X6_keyOf 0 0 (sw_ql G Q) 0 0 G I J 17 [(0, .ref (sz + a0)), (1, .long w1), (3, .int x3)] []) {w1 : Int64} {x3 : Int32} {I : sw_I} {J : sw_J} (h : wb_X6_keyOf_17 a0 K17 Q w1 x3 I J) : AW l D cy sz RX6 cX6_keyOf 4 (some .long) false rm_X6_keyOf 0 0 (sw_ql G Q) 0 0 G I J 17 [(0, .ref (sz + a0)), (1, .long w1), (3, .int x3)] [] := by
  unfold wb_X6_keyOf_17 at h
  refine aw_iload_n 2 dX6_keyOf_17 rfl rfl ?_
  refine aw_zlt 41 dX6_keyOf_18 (by decide) (fun c_1 => ?_) (fun c_1 => ?_)
  · have h := sw_if.t h c_1
    refine aw_lload_n 1 dX6_keyOf_41 rfl rfl ?_
    exact aw_lret rfl dX6_keyOf_42 ⟨rfl, _, rfl, h⟩
  · have h := sw_if.f h c_1
    refine aw_lload_n 1 dX6_keyOf_21 rfl rfl ?_
    refine aw_iconst (v := 4) dX6_keyOf_22 (by decide) ?_
    refine aw_lshl dX6_keyOf_23 ?_
    refine aw_aload_n 0 dX6_keyOf_24 rfl rfl ?_
    refine gf_X3_0 fl_X6_107 ha0.1 ha0.2.1.1 dX6_keyOf_25 ?_
    refine aw_iload_n 2 dX6_keyOf_28 rfl rfl ?_
    obtain ⟨hi_2, h⟩ := h
    refine aw_ild dX6_keyOf_29 ha0.2.2.1 ha0.2.2.2.2.2.1 hi_2 ?_
    refine aw_iconst (v := 1) dX6_keyOf_30 (by decide) ?_
    refine aw_iadd dX6_keyOf_31 ?_
    refine aw_i2l dX6_keyOf_32 ?_
    refine aw_lor dX6_keyOf_33 ?_
    refine aw_topl (fun y_3 e_4 => ?_)
    have h := h y_3 e_4
    refine aw_lstore_n (lv' := [(1, .long y_3), (0, .ref (sz + a0)), (3, .int x3)]) dX6_keyOf_34 rfl (by decide) rfl ?_
    obtain ⟨y_5, e_6⟩ : ∃ q : Int32, q = x3 + (-1) := ⟨_, rfl⟩
    have h := h y_5 e_6
    refine aw_iinc (lv' := [(3, .int y_5), (1, .long y_3), (0, .ref (sz + a0))]) 2 dX6_keyOf_35 rfl (by rw [e_6]; rfl) (by decide) rfl ?_
    refine aw_goto 17 dX6_keyOf_38 (by decide) ?_
    refine aw_sub [2, 1, 0] rfl ?_
    exact hK17 y_3 y_5 I J h
set_option maxRecDepth 20000 in
theorem tl_X6_keyOf_17 {l : Launch} {D : va_G} {cy : Nat → ClassId} {sz : Nat} {G : sw_G} (hG : True) {a0 : Nat} (ha0 : sw_mom G a0) {Q : Int64 → sw_I → sw_J → Prop} : ∀ (n : Nat) (w1 : Int64) (x3 : Int32) (I : sw_I) (J : sw_J), wl_X6_keyOf_17 a0  Q n w1 x3 I J → AW l D cy sz RX6 cX6_keyOf 4 (some .long) false rm_X6_keyOf 0 0 (sw_ql G Q) 0 0 G I J 17 [(0, .ref (sz + a0)), (1, .long w1), (3, .int x3)] [] := by
  intro n
  induction n with
  | zero => intro w1 x3 I J h; exact False.elim h
  | succ n ih => intro w1 x3 I J h; exact tb_X6_keyOf_17 hG ha0 ih h
set_option maxRecDepth 20000 in
theorem t_X6_keyOf {l : Launch} {D : va_G} {cy : Nat → ClassId} {sz : Nat} {G : sw_G} (hG : True) {a0 : Nat} (ha0 : sw_mom G a0) {Q : Int64 → sw_I → sw_J → Prop}  {I : sw_I} {J : sw_J} (h : wp_X6_keyOf a0 I J Q) : AW l D cy sz RX6 cX6_keyOf 4 (some .long) false rm_X6_keyOf 0 0 (sw_ql G Q) 0 0 G I J 0 [(0, .ref (sz + a0))] [] := by
  unfold wp_X6_keyOf at h
  refine aw_aload_n 0 dX6_keyOf_0 rfl rfl ?_
  refine gf_X3_5 fl_X6_59 ha0.1 dX6_keyOf_1 ?_
  refine aw_i2l dX6_keyOf_4 ?_
  refine aw_iconst (v := 4) dX6_keyOf_5 (by decide) ?_
  refine aw_lshl dX6_keyOf_6 ?_
  refine aw_aload_n 0 dX6_keyOf_7 rfl rfl ?_
  refine gf_X3_4 fl_X6_80 ha0.1 dX6_keyOf_8 ?_
  refine aw_i2l dX6_keyOf_11 ?_
  refine aw_lor dX6_keyOf_12 ?_
  refine aw_topl (fun y_1 e_2 => ?_)
  have h := h y_1 e_2
  refine aw_lstore_n (lv' := [(1, .long y_1), (0, .ref (sz + a0))]) dX6_keyOf_13 rfl (by decide) rfl ?_
  refine aw_bipush (v := 9) dX6_keyOf_14 (by decide) ?_
  refine aw_istore_n (lv' := [(3, .int 9), (1, .long y_1), (0, .ref (sz + a0))]) dX6_keyOf_16 rfl (by decide) rfl ?_
  refine aw_sub [2, 1, 0] rfl ?_
  obtain ⟨n_3, h⟩ := h
  exact tl_X6_keyOf_17 hG ha0  n_3 y_1 9 I J h
theorem M_X6_keyOf {l : Launch} {D : va_G} {cy : Nat → ClassId} {sz : Nat} {G : sw_G} (hG : True) {a0 : Nat} (ha0 : sw_mom G a0) {Q : Int64 → sw_I → sw_J → Prop}  {I : sw_I} {J : sw_J} (h : wp_X6_keyOf a0 I J Q) : Met l yX6_keyOf (Cond.code yX6_keyOf cX6_keyOf 4 (some .long) :: sw_T) rm_X6_keyOf (sw_Pc D cy sz [.ref (sz + a0)] G I J) (sw_Q D cy sz (sw_ql G Q)) 0 0 (fun q => sz ≤ q) :=
  sw_met (by decide) (fun q => by cases q) (Nat.le_of_ble_eq_true rfl) rfl (t_X6_keyOf hG ha0 h)
-- X6_floorOf
abbrev rm_X6_floorOf : Room := { frames := 0, cells := 0, slots := 0, locals := 0 }
def wp_X6_floorOf (w0 : Int64) (x2 : Int32) (I : sw_I) (J : sw_J) (Q : Int32 → sw_I → sw_J → Prop) : Prop :=
  Q (((((w0.toUInt64 >>> (((4 : Int32) * x2).toInt64.toUInt64 &&& Int64.toUInt64 63)).toInt64) &&& (15 : Int64)).toInt32) - (1 : Int32)) I J
set_option maxRecDepth 20000 in
theorem t_X6_floorOf {l : Launch} {D : va_G} {cy : Nat → ClassId} {sz : Nat} {G : sw_G} (hG : True)   {Q : Int32 → sw_I → sw_J → Prop} {w0 : Int64} {x2 : Int32} {I : sw_I} {J : sw_J} (h : wp_X6_floorOf w0 x2 I J Q) : AW l D cy sz RX6 cX6_floorOf 3 (some .int) false rm_X6_floorOf 0 0 (sw_qi G Q) 0 0 G I J 0 [(0, .long w0), (2, .int x2)] [] := by
  unfold wp_X6_floorOf at h
  refine aw_lload_n 0 dX6_floorOf_0 rfl rfl ?_
  refine aw_iconst (v := 4) dX6_floorOf_1 (by decide) ?_
  refine aw_iload_n 1 dX6_floorOf_2 rfl rfl ?_
  refine aw_imul dX6_floorOf_3 ?_
  refine aw_lushr dX6_floorOf_4 ?_
  refine aw_ldc2 (v := 15) dX6_floorOf_5 k_X6_118 ?_
  refine aw_land dX6_floorOf_8 ?_
  refine aw_l2i dX6_floorOf_9 ?_
  refine aw_iconst (v := 1) dX6_floorOf_10 (by decide) ?_
  refine aw_isub dX6_floorOf_11 ?_
  exact aw_iret rfl dX6_floorOf_12 ⟨rfl, _, rfl, h⟩
theorem M_X6_floorOf {l : Launch} {D : va_G} {cy : Nat → ClassId} {sz : Nat} {G : sw_G} (hG : True)   {Q : Int32 → sw_I → sw_J → Prop} {w0 : Int64} {x2 : Int32} {I : sw_I} {J : sw_J} (h : wp_X6_floorOf w0 x2 I J Q) : Met l yX6_floorOf (Cond.code yX6_floorOf cX6_floorOf 3 (some .int) :: sw_T) rm_X6_floorOf (sw_Pc D cy sz [.long w0, .int x2] G I J) (sw_Q D cy sz (sw_qi G Q)) 0 0 (fun q => sz ≤ q) :=
  sw_met (by decide) (fun q => by cases q) (Nat.le_of_ble_eq_true rfl) rfl (t_X6_floorOf hG  h)
-- X6_liftOf
abbrev rm_X6_liftOf : Room := { frames := 0, cells := 0, slots := 0, locals := 0 }
def wp_X6_liftOf (w0 : Int64) (I : sw_I) (J : sw_J) (Q : Int32 → sw_I → sw_J → Prop) : Prop :=
  Q ((((w0.toUInt64 >>> ((40 : Int32).toInt64.toUInt64 &&& Int64.toUInt64 63)).toInt64) &&& (15 : Int64)).toInt32) I J
set_option maxRecDepth 20000 in
theorem t_X6_liftOf {l : Launch} {D : va_G} {cy : Nat → ClassId} {sz : Nat} {G : sw_G} (hG : True)   {Q : Int32 → sw_I → sw_J → Prop} {w0 : Int64} {I : sw_I} {J : sw_J} (h : wp_X6_liftOf w0 I J Q) : AW l D cy sz RX6 cX6_liftOf 2 (some .int) false rm_X6_liftOf 0 0 (sw_qi G Q) 0 0 G I J 0 [(0, .long w0)] [] := by
  unfold wp_X6_liftOf at h
  refine aw_lload_n 0 dX6_liftOf_0 rfl rfl ?_
  refine aw_bipush (v := 40) dX6_liftOf_1 (by decide) ?_
  refine aw_lushr dX6_liftOf_3 ?_
  refine aw_ldc2 (v := 15) dX6_liftOf_4 k_X6_118 ?_
  refine aw_land dX6_liftOf_7 ?_
  refine aw_l2i dX6_liftOf_8 ?_
  exact aw_iret rfl dX6_liftOf_9 ⟨rfl, _, rfl, h⟩
theorem M_X6_liftOf {l : Launch} {D : va_G} {cy : Nat → ClassId} {sz : Nat} {G : sw_G} (hG : True)   {Q : Int32 → sw_I → sw_J → Prop} {w0 : Int64} {I : sw_I} {J : sw_J} (h : wp_X6_liftOf w0 I J Q) : Met l yX6_liftOf (Cond.code yX6_liftOf cX6_liftOf 2 (some .int) :: sw_T) rm_X6_liftOf (sw_Pc D cy sz [.long w0] G I J) (sw_Q D cy sz (sw_qi G Q)) 0 0 (fun q => sz ≤ q) :=
  sw_met (by decide) (fun q => by cases q) (Nat.le_of_ble_eq_true rfl) rfl (t_X6_liftOf hG  h)
-- X6_keyAfter
abbrev rm_X6_keyAfter : Room := { frames := 0, cells := 0, slots := 0, locals := 0 }
def wB_X6_keyAfter_75  (K24 : Int32 → Int32 → Int32 → Int64 → Int32 → sw_I → sw_J → Prop) (Q : Int64 → sw_I → sw_J → Prop) (x1 : Int32) (x2 : Int32) (x3 : Int32) (x6 : Int32) (t0 : Int64) (s1 : Int32) (I : sw_I) (J : sw_J) : Prop :=
  ∀ y_1 : Int64, y_1 = t0 ||| s1.toInt64 → ∀ y_3 : Int32, y_3 = x6 + (-1) → K24 x1 x2 x3 y_1 y_3 I J
def wB_X6_keyAfter_52  (K24 : Int32 → Int32 → Int32 → Int64 → Int32 → sw_I → sw_J → Prop) (Q : Int64 → sw_I → sw_J → Prop) (x1 : Int32) (x2 : Int32) (x3 : Int32) (w4 : Int64) (x6 : Int32) (s0 : Int32) (I : sw_I) (J : sw_J) : Prop :=
  sw_if (((x2 >>> (x6 &&& 31)) &&& (1 : Int32)) = 0) (wB_X6_keyAfter_75  K24 Q x1 x2 x3 x6 (w4 <<< ((4 : Int32).toInt64 &&& 63)) (s0 + (1 : Int32)) I J) (wB_X6_keyAfter_75  K24 Q x1 x2 x3 x6 (w4 <<< ((4 : Int32).toInt64 &&& 63)) 0 I J)
def wb_X6_keyAfter_24  (K24 : Int32 → Int32 → Int32 → Int64 → Int32 → sw_I → sw_J → Prop) (Q : Int64 → sw_I → sw_J → Prop) (x1 : Int32) (x2 : Int32) (x3 : Int32) (w4 : Int64) (x6 : Int32) (I : sw_I) (J : sw_J) : Prop :=
  sw_if (x6 < 0) (Q w4 I J) (sw_if (((x1 >>> (x6 &&& 31)) &&& (1 : Int32)) = 0) (vp_in x6 10 ∧ wB_X6_keyAfter_52  K24 Q x1 x2 x3 w4 x6 (I 122 x6.toNatClampNeg) I J) (wB_X6_keyAfter_52  K24 Q x1 x2 x3 w4 x6 x3 I J))
def wl_X6_keyAfter_24   (Q : Int64 → sw_I → sw_J → Prop) : Nat → Int32 → Int32 → Int32 → Int64 → Int32 → sw_I → sw_J → Prop
  | 0 => fun _ _ _ _ _ _ _ => False
  | n + 1 => fun x1 x2 x3 w4 x6 I J => wb_X6_keyAfter_24  (wl_X6_keyAfter_24   Q n) Q x1 x2 x3 w4 x6 I J
def wp_X6_keyAfter (x1 : Int32) (x2 : Int32) (x3 : Int32) (I : sw_I) (J : sw_J) (Q : Int64 → sw_I → sw_J → Prop) : Prop :=
  ∀ y_1 : Int64, y_1 = (((((I 121 5) + (1 : Int32)) - ((I 121 5) + (1 : Int32)) / (7 : Int32) * (7 : Int32)).toInt64) <<< ((4 : Int32).toInt64 &&& 63)) ||| x3.toInt64 → ∃ n_3 : Nat, wl_X6_keyAfter_24   Q n_3 x1 x2 x3 y_1 9 I J
set_option maxRecDepth 20000 in
theorem t_X6_keyAfter_75 {l : Launch} {D : va_G} {cy : Nat → ClassId} {sz : Nat} {G : sw_G} (hG : sw_lay G)   {Q : Int64 → sw_I → sw_J → Prop} {K24 : Int32 → Int32 → Int32 → Int64 → Int32 → sw_I → sw_J → Prop} (hK24 : ∀ (x1 : Int32) (x2 : Int32) (x3 : Int32) (w4 : Int64) (x6 : Int32) (I : sw_I) (J : sw_J), K24 x1 x2 x3 w4 x6 I J → AW l D cy sz RX6 cX6_keyAfter 8 (some .long) false rm_X6_keyAfter 0 0 (sw_ql G Q) 0 0 G I J 24 [(0, .ref (sz + 120)), (1, .int x1), (2, .int x2), (3, .int x3), (4, .long w4), (6, .int x6)] []) {x1 : Int32} {x2 : Int32} {x3 : Int32} {x6 : Int32} {t0 : Int64} {s1 : Int32} {I : sw_I} {J : sw_J} (h : wB_X6_keyAfter_75  K24 Q x1 x2 x3 x6 t0 s1 I J) : AW l D cy sz RX6 cX6_keyAfter 8 (some .long) false rm_X6_keyAfter 0 0 (sw_ql G Q) 0 0 G I J 75 [(0, .ref (sz + 120)), (1, .int x1), (2, .int x2), (3, .int x3), (6, .int x6)] [.int s1, .long t0] := by
  unfold wB_X6_keyAfter_75 at h
  refine aw_i2l dX6_keyAfter_75 ?_
  refine aw_lor dX6_keyAfter_76 ?_
  refine aw_topl (fun y_1 e_2 => ?_)
  have h := h y_1 e_2
  refine aw_lstore (lv' := [(4, .long y_1), (0, .ref (sz + 120)), (1, .int x1), (2, .int x2), (3, .int x3), (6, .int x6)]) dX6_keyAfter_77 (by decide) rfl ?_
  obtain ⟨y_3, e_4⟩ : ∃ q : Int32, q = x6 + (-1) := ⟨_, rfl⟩
  have h := h y_3 e_4
  refine aw_iinc (lv' := [(6, .int y_3), (4, .long y_1), (0, .ref (sz + 120)), (1, .int x1), (2, .int x2), (3, .int x3)]) 5 dX6_keyAfter_79 rfl (by rw [e_4]; rfl) (by decide) rfl ?_
  refine aw_goto 24 dX6_keyAfter_82 (by decide) ?_
  refine aw_sub [2, 3, 4, 5, 1, 0] rfl ?_
  exact hK24 x1 x2 x3 y_1 y_3 I J h
set_option maxRecDepth 20000 in
theorem t_X6_keyAfter_52 {l : Launch} {D : va_G} {cy : Nat → ClassId} {sz : Nat} {G : sw_G} (hG : sw_lay G)   {Q : Int64 → sw_I → sw_J → Prop} {K24 : Int32 → Int32 → Int32 → Int64 → Int32 → sw_I → sw_J → Prop} (hK24 : ∀ (x1 : Int32) (x2 : Int32) (x3 : Int32) (w4 : Int64) (x6 : Int32) (I : sw_I) (J : sw_J), K24 x1 x2 x3 w4 x6 I J → AW l D cy sz RX6 cX6_keyAfter 8 (some .long) false rm_X6_keyAfter 0 0 (sw_ql G Q) 0 0 G I J 24 [(0, .ref (sz + 120)), (1, .int x1), (2, .int x2), (3, .int x3), (4, .long w4), (6, .int x6)] []) {x1 : Int32} {x2 : Int32} {x3 : Int32} {w4 : Int64} {x6 : Int32} {s0 : Int32} {I : sw_I} {J : sw_J} (h : wB_X6_keyAfter_52  K24 Q x1 x2 x3 w4 x6 s0 I J) : AW l D cy sz RX6 cX6_keyAfter 8 (some .long) false rm_X6_keyAfter 0 0 (sw_ql G Q) 0 0 G I J 52 [(0, .ref (sz + 120)), (1, .int x1), (2, .int x2), (3, .int x3), (4, .long w4), (6, .int x6)] [.int s0] := by
  unfold wB_X6_keyAfter_52 at h
  refine aw_istore (lv' := [(7, .int s0), (0, .ref (sz + 120)), (1, .int x1), (2, .int x2), (3, .int x3), (4, .long w4), (6, .int x6)]) dX6_keyAfter_52 (by decide) rfl ?_
  refine aw_lload 5 dX6_keyAfter_54 rfl ?_
  refine aw_iconst (v := 4) dX6_keyAfter_56 (by decide) ?_
  refine aw_lshl dX6_keyAfter_57 ?_
  refine aw_iload_n 3 dX6_keyAfter_58 rfl rfl ?_
  refine aw_iload 6 dX6_keyAfter_59 rfl ?_
  refine aw_ishr dX6_keyAfter_61 ?_
  refine aw_iconst (v := 1) dX6_keyAfter_62 (by decide) ?_
  refine aw_iand dX6_keyAfter_63 ?_
  refine aw_zne 74 dX6_keyAfter_64 (by decide) (fun c_1 => ?_) (fun c_1 => ?_)
  · have h := sw_if.f h c_1
    refine aw_iconst (v := 0) dX6_keyAfter_74 (by decide) ?_
    refine aw_sub [1, 2, 3, 4, 6] rfl ?_
    exact t_X6_keyAfter_75 hG  hK24 h
  · have h := sw_if.t h c_1
    refine aw_iload 0 dX6_keyAfter_67 rfl ?_
    refine aw_iconst (v := 1) dX6_keyAfter_69 (by decide) ?_
    refine aw_iadd dX6_keyAfter_70 ?_
    refine aw_goto 75 dX6_keyAfter_71 (by decide) ?_
    refine aw_sub [1, 2, 3, 4, 6] rfl ?_
    exact t_X6_keyAfter_75 hG  hK24 h
set_option maxRecDepth 20000 in
theorem tb_X6_keyAfter_24 {l : Launch} {D : va_G} {cy : Nat → ClassId} {sz : Nat} {G : sw_G} (hG : sw_lay G)   {Q : Int64 → sw_I → sw_J → Prop} {K24 : Int32 → Int32 → Int32 → Int64 → Int32 → sw_I → sw_J → Prop} (hK24 : ∀ (x1 : Int32) (x2 : Int32) (x3 : Int32) (w4 : Int64) (x6 : Int32) (I : sw_I) (J : sw_J), K24 x1 x2 x3 w4 x6 I J → AW l D cy sz RX6 cX6_keyAfter 8 (some .long) false rm_X6_keyAfter 0 0 (sw_ql G Q) 0 0 G I J 24 [(0, .ref (sz + 120)), (1, .int x1), (2, .int x2), (3, .int x3), (4, .long w4), (6, .int x6)] []) {x1 : Int32} {x2 : Int32} {x3 : Int32} {w4 : Int64} {x6 : Int32} {I : sw_I} {J : sw_J} (h : wb_X6_keyAfter_24  K24 Q x1 x2 x3 w4 x6 I J) : AW l D cy sz RX6 cX6_keyAfter 8 (some .long) false rm_X6_keyAfter 0 0 (sw_ql G Q) 0 0 G I J 24 [(0, .ref (sz + 120)), (1, .int x1), (2, .int x2), (3, .int x3), (4, .long w4), (6, .int x6)] [] := by
  unfold wb_X6_keyAfter_24 at h
  refine aw_iload 5 dX6_keyAfter_24 rfl ?_
  refine aw_zlt 85 dX6_keyAfter_26 (by decide) (fun c_1 => ?_) (fun c_1 => ?_)
  · have h := sw_if.t h c_1
    refine aw_lload 4 dX6_keyAfter_85 rfl ?_
    exact aw_lret rfl dX6_keyAfter_87 ⟨rfl, _, rfl, h⟩
  · have h := sw_if.f h c_1
    refine aw_iload_n 1 dX6_keyAfter_29 rfl rfl ?_
    refine aw_iload 5 dX6_keyAfter_30 rfl ?_
    refine aw_ishr dX6_keyAfter_32 ?_
    refine aw_iconst (v := 1) dX6_keyAfter_33 (by decide) ?_
    refine aw_iand dX6_keyAfter_34 ?_
    refine aw_zne 51 dX6_keyAfter_35 (by decide) (fun c_2 => ?_) (fun c_2 => ?_)
    · have h := sw_if.f h c_2
      refine aw_iload_n 3 dX6_keyAfter_51 rfl rfl ?_
      refine aw_sub [0, 1, 2, 3, 4, 5] rfl ?_
      exact t_X6_keyAfter_52 hG  hK24 h
    · have h := sw_if.t h c_2
      refine aw_aload_n 0 dX6_keyAfter_38 rfl rfl ?_
      refine gf_X6_0 fl_X6_12 (lk120 hG) (lr120_0 hG) dX6_keyAfter_39 ?_
      refine gf_X3_0 fl_X6_107 (lk121 hG) (lr121_0 hG) dX6_keyAfter_42 ?_
      refine aw_iload 5 dX6_keyAfter_45 rfl ?_
      obtain ⟨hi_3, h⟩ := h
      refine aw_ild dX6_keyAfter_47 (lk122 hG) (ln122 hG) hi_3 ?_
      refine aw_goto 52 dX6_keyAfter_48 (by decide) ?_
      refine aw_sub [0, 1, 2, 3, 4, 5] rfl ?_
      exact t_X6_keyAfter_52 hG  hK24 h
set_option maxRecDepth 20000 in
theorem tl_X6_keyAfter_24 {l : Launch} {D : va_G} {cy : Nat → ClassId} {sz : Nat} {G : sw_G} (hG : sw_lay G)   {Q : Int64 → sw_I → sw_J → Prop} : ∀ (n : Nat) (x1 : Int32) (x2 : Int32) (x3 : Int32) (w4 : Int64) (x6 : Int32) (I : sw_I) (J : sw_J), wl_X6_keyAfter_24   Q n x1 x2 x3 w4 x6 I J → AW l D cy sz RX6 cX6_keyAfter 8 (some .long) false rm_X6_keyAfter 0 0 (sw_ql G Q) 0 0 G I J 24 [(0, .ref (sz + 120)), (1, .int x1), (2, .int x2), (3, .int x3), (4, .long w4), (6, .int x6)] [] := by
  intro n
  induction n with
  | zero => intro x1 x2 x3 w4 x6 I J h; exact False.elim h
  | succ n ih => intro x1 x2 x3 w4 x6 I J h; exact tb_X6_keyAfter_24 hG  ih h
set_option maxRecDepth 20000 in
theorem t_X6_keyAfter {l : Launch} {D : va_G} {cy : Nat → ClassId} {sz : Nat} {G : sw_G} (hG : sw_lay G)   {Q : Int64 → sw_I → sw_J → Prop} {x1 : Int32} {x2 : Int32} {x3 : Int32} {I : sw_I} {J : sw_J} (h : wp_X6_keyAfter x1 x2 x3 I J Q) : AW l D cy sz RX6 cX6_keyAfter 8 (some .long) false rm_X6_keyAfter 0 0 (sw_ql G Q) 0 0 G I J 0 [(0, .ref (sz + 120)), (1, .int x1), (2, .int x2), (3, .int x3)] [] := by
  unfold wp_X6_keyAfter at h
  refine aw_aload_n 0 dX6_keyAfter_0 rfl rfl ?_
  refine gf_X6_0 fl_X6_12 (lk120 hG) (lr120_0 hG) dX6_keyAfter_1 ?_
  refine gf_X3_5 fl_X6_59 (lk121 hG) dX6_keyAfter_4 ?_
  refine aw_iconst (v := 1) dX6_keyAfter_7 (by decide) ?_
  refine aw_iadd dX6_keyAfter_8 ?_
  refine aw_bipush (v := 7) dX6_keyAfter_9 (by decide) ?_
  refine aw_irem dX6_keyAfter_11 (by decide) ?_
  refine aw_i2l dX6_keyAfter_12 ?_
  refine aw_iconst (v := 4) dX6_keyAfter_13 (by decide) ?_
  refine aw_lshl dX6_keyAfter_14 ?_
  refine aw_iload_n 3 dX6_keyAfter_15 rfl rfl ?_
  refine aw_i2l dX6_keyAfter_16 ?_
  refine aw_lor dX6_keyAfter_17 ?_
  refine aw_topl (fun y_1 e_2 => ?_)
  have h := h y_1 e_2
  refine aw_lstore (lv' := [(4, .long y_1), (0, .ref (sz + 120)), (1, .int x1), (2, .int x2), (3, .int x3)]) dX6_keyAfter_18 (by decide) rfl ?_
  refine aw_bipush (v := 9) dX6_keyAfter_20 (by decide) ?_
  refine aw_istore (lv' := [(6, .int 9), (4, .long y_1), (0, .ref (sz + 120)), (1, .int x1), (2, .int x2), (3, .int x3)]) dX6_keyAfter_22 (by decide) rfl ?_
  refine aw_sub [2, 3, 4, 5, 1, 0] rfl ?_
  obtain ⟨n_3, h⟩ := h
  exact tl_X6_keyAfter_24 hG   n_3 x1 x2 x3 y_1 9 I J h
theorem M_X6_keyAfter {l : Launch} {D : va_G} {cy : Nat → ClassId} {sz : Nat} {G : sw_G} (hG : sw_lay G)   {Q : Int64 → sw_I → sw_J → Prop} {x1 : Int32} {x2 : Int32} {x3 : Int32} {I : sw_I} {J : sw_J} (h : wp_X6_keyAfter x1 x2 x3 I J Q) : Met l yX6_keyAfter (Cond.code yX6_keyAfter cX6_keyAfter 8 (some .long) :: sw_T) rm_X6_keyAfter (sw_Pc D cy sz [.ref (sz + 120), .int x1, .int x2, .int x3] G I J) (sw_Q D cy sz (sw_ql G Q)) 0 0 (fun q => sz ≤ q) :=
  sw_met (by decide) (fun q => by cases q) (Nat.le_of_ble_eq_true rfl) rfl (t_X6_keyAfter hG  h)
-- X6_add
abbrev rm_X6_add : Room := { frames := 0, cells := 0, slots := 0, locals := 0 }
def wB_X6_add_73   (Q : Int32 → sw_I → sw_J → Prop) (w1 : Int64) (x3 : Int32) (x4 : Int32) (x5 : Int32) (I : sw_I) (J : sw_J) : Prop :=
  sw_if ((I 120 4) < (3000 : Int32)) (vp_in (I 120 4) 3000 ∧ ∀ J_3 : sw_J, J_3 = sw_up J 125 (I 120 4).toNatClampNeg w1 → vp_in (I 120 4) 3000 ∧ ∀ I_6 : sw_I, I_6 = sw_up I 126 (I 120 4).toNatClampNeg ((x3 <<< ((10 : Int32) &&& 31)) ||| x4) → vp_in x5 4096 ∧ ∀ I_9 : sw_I, I_9 = sw_up I_6 127 x5.toNatClampNeg ((I_6 120 4) + (1 : Int32)) → ∀ I_11 : sw_I, I_11 = sw_up I_9 120 4 ((I_9 120 4) + (1 : Int32)) → Q ((I_11 120 4) - (1 : Int32)) I_11 J_3) (∀ I_13 : sw_I, I_13 = sw_up I 120 6 (1 : Int32) → Q (-1 : Int32) I_13 J)
def wb_X6_add_18  (K18 : Int64 → Int32 → Int32 → Int32 → Int32 → sw_I → sw_J → Prop) (Q : Int32 → sw_I → sw_J → Prop) (w1 : Int64) (x3 : Int32) (x4 : Int32) (x5 : Int32) (x6 : Int32) (I : sw_I) (J : sw_J) : Prop :=
  sw_if (x6 < (4096 : Int32)) (vp_in x5 4096 ∧ sw_if ((I 127 x5.toNatClampNeg) = 0) (wB_X6_add_73   Q w1 x3 x4 x5 I J) (vp_in x5 4096 ∧ vp_in ((I 127 x5.toNatClampNeg) - (1 : Int32)) 3000 ∧ sw_if ((lg_cmp (J 125 ((I 127 x5.toNatClampNeg) - (1 : Int32)).toNatClampNeg) w1) = 0) (Q (-1 : Int32) I J) (∀ y_7 : Int32, y_7 = (x5 + (1 : Int32)) &&& (4095 : Int32) → ∀ y_9 : Int32, y_9 = x6 + 1 → K18 w1 x3 x4 y_7 y_9 I J))) (wB_X6_add_73   Q w1 x3 x4 x5 I J)
def wl_X6_add_18   (Q : Int32 → sw_I → sw_J → Prop) : Nat → Int64 → Int32 → Int32 → Int32 → Int32 → sw_I → sw_J → Prop
  | 0 => fun _ _ _ _ _ _ _ => False
  | n + 1 => fun w1 x3 x4 x5 x6 I J => wb_X6_add_18  (wl_X6_add_18   Q n) Q w1 x3 x4 x5 x6 I J
def wp_X6_add (w1 : Int64) (x3 : Int32) (x4 : Int32) (I : sw_I) (J : sw_J) (Q : Int32 → sw_I → sw_J → Prop) : Prop :=
  ∀ y_1 : Int32, y_1 = ((((w1 * (-7046029254386353131 : Int64)).toUInt64 >>> ((52 : Int32).toInt64.toUInt64 &&& Int64.toUInt64 63)).toInt64).toInt32) &&& (4095 : Int32) → ∃ n_3 : Nat, wl_X6_add_18   Q n_3 w1 x3 x4 y_1 0 I J
set_option maxRecDepth 20000 in
theorem t_X6_add_73 {l : Launch} {D : va_G} {cy : Nat → ClassId} {sz : Nat} {G : sw_G} (hG : sw_lay G)   {Q : Int32 → sw_I → sw_J → Prop} {w1 : Int64} {x3 : Int32} {x4 : Int32} {x5 : Int32} {I : sw_I} {J : sw_J} (h : wB_X6_add_73   Q w1 x3 x4 x5 I J) : AW l D cy sz RX6 cX6_add 7 (some .int) false rm_X6_add 0 0 (sw_qi G Q) 0 0 G I J 73 [(0, .ref (sz + 120)), (1, .long w1), (3, .int x3), (4, .int x4), (5, .int x5)] [] := by
  unfold wB_X6_add_73 at h
  refine aw_aload_n 0 dX6_add_73 rfl rfl ?_
  refine gf_X6_4 fl_X6_29 (lk120 hG) dX6_add_74 ?_
  refine aw_sipush (v := 3000) dX6_add_77 (by decide) ?_
  refine aw_jlt 90 dX6_add_80 (by decide) (fun c_1 => ?_) (fun c_1 => ?_)
  · have h := sw_if.t h c_1
    refine aw_aload_n 0 dX6_add_90 rfl rfl ?_
    refine gf_X6_1 fl_X6_18 (lk120 hG) (lr120_1 hG) dX6_add_91 ?_
    refine aw_aload_n 0 dX6_add_94 rfl rfl ?_
    refine gf_X6_4 fl_X6_29 (lk120 hG) dX6_add_95 ?_
    refine aw_lload_n 1 dX6_add_98 rfl rfl ?_
    obtain ⟨hi_2, h⟩ := h
    refine aw_lst dX6_add_99 (lk125 hG) (ln125 hG) hi_2 (aw_nameJ fun J_3 e_4 => ?_)
    have h := h J_3 e_4
    refine aw_aload_n 0 dX6_add_100 rfl rfl ?_
    refine gf_X6_2 fl_X6_22 (lk120 hG) (lr120_2 hG) dX6_add_101 ?_
    refine aw_aload_n 0 dX6_add_104 rfl rfl ?_
    refine gf_X6_4 fl_X6_29 (lk120 hG) dX6_add_105 ?_
    refine aw_iload_n 2 dX6_add_108 rfl rfl ?_
    refine aw_bipush (v := 10) dX6_add_109 (by decide) ?_
    refine aw_ishl dX6_add_111 ?_
    refine aw_iload 3 dX6_add_112 rfl ?_
    refine aw_ior dX6_add_114 ?_
    obtain ⟨hi_5, h⟩ := h
    refine aw_ist dX6_add_115 (lk126 hG) (ln126 hG) hi_5 (aw_nameI fun I_6 e_7 => ?_)
    have h := h I_6 e_7
    refine aw_aload_n 0 dX6_add_116 rfl rfl ?_
    refine gf_X6_3 fl_X6_26 (lk120 hG) (lr120_3 hG) dX6_add_117 ?_
    refine aw_iload 4 dX6_add_120 rfl ?_
    refine aw_aload_n 0 dX6_add_122 rfl rfl ?_
    refine gf_X6_4 fl_X6_29 (lk120 hG) dX6_add_123 ?_
    refine aw_iconst (v := 1) dX6_add_126 (by decide) ?_
    refine aw_iadd dX6_add_127 ?_
    obtain ⟨hi_8, h⟩ := h
    refine aw_ist dX6_add_128 (lk127 hG) (ln127 hG) hi_8 (aw_nameI fun I_9 e_10 => ?_)
    have h := h I_9 e_10
    refine aw_aload_n 0 dX6_add_129 rfl rfl ?_
    refine aw_dup dX6_add_130 rfl ?_
    refine gf_X6_4 fl_X6_29 (lk120 hG) dX6_add_131 ?_
    refine aw_iconst (v := 1) dX6_add_134 (by decide) ?_
    refine aw_iadd dX6_add_135 ?_
    refine pf_X6_4 fl_X6_29 (lk120 hG) dX6_add_136 (aw_nameI fun I_11 e_12 => ?_)
    have h := h I_11 e_12
    refine aw_aload_n 0 dX6_add_139 rfl rfl ?_
    refine gf_X6_4 fl_X6_29 (lk120 hG) dX6_add_140 ?_
    refine aw_iconst (v := 1) dX6_add_143 (by decide) ?_
    refine aw_isub dX6_add_144 ?_
    exact aw_iret rfl dX6_add_145 ⟨rfl, _, rfl, h⟩
  · have h := sw_if.f h c_1
    refine aw_aload_n 0 dX6_add_83 rfl rfl ?_
    refine aw_iconst (v := 1) dX6_add_84 (by decide) ?_
    refine pf_X6_6 (by decide) fl_X6_36 (lk120 hG) dX6_add_85 (aw_nameI fun I_13 e_14 => ?_)
    have h := h I_13 e_14
    refine aw_iconst (v := (-1)) dX6_add_88 (by decide) ?_
    exact aw_iret rfl dX6_add_89 ⟨rfl, _, rfl, h⟩
set_option maxRecDepth 20000 in
theorem tb_X6_add_18 {l : Launch} {D : va_G} {cy : Nat → ClassId} {sz : Nat} {G : sw_G} (hG : sw_lay G)   {Q : Int32 → sw_I → sw_J → Prop} {K18 : Int64 → Int32 → Int32 → Int32 → Int32 → sw_I → sw_J → Prop} (hK18 : ∀ (w1 : Int64) (x3 : Int32) (x4 : Int32) (x5 : Int32) (x6 : Int32) (I : sw_I) (J : sw_J), K18 w1 x3 x4 x5 x6 I J → AW l D cy sz RX6 cX6_add 7 (some .int) false rm_X6_add 0 0 (sw_qi G Q) 0 0 G I J 18 [(0, .ref (sz + 120)), (1, .long w1), (3, .int x3), (4, .int x4), (5, .int x5), (6, .int x6)] []) {w1 : Int64} {x3 : Int32} {x4 : Int32} {x5 : Int32} {x6 : Int32} {I : sw_I} {J : sw_J} (h : wb_X6_add_18  K18 Q w1 x3 x4 x5 x6 I J) : AW l D cy sz RX6 cX6_add 7 (some .int) false rm_X6_add 0 0 (sw_qi G Q) 0 0 G I J 18 [(0, .ref (sz + 120)), (1, .long w1), (3, .int x3), (4, .int x4), (5, .int x5), (6, .int x6)] [] := by
  unfold wb_X6_add_18 at h
  refine aw_iload 5 dX6_add_18 rfl ?_
  refine aw_sipush (v := 4096) dX6_add_20 (by decide) ?_
  refine aw_jge 73 dX6_add_23 (by decide) (fun c_1 => ?_) (fun c_1 => ?_)
  · have h := sw_if.f h c_1
    refine aw_sub [0, 1, 2, 3, 4] rfl ?_
    exact t_X6_add_73 hG   h
  · have h := sw_if.t h c_1
    refine aw_aload_n 0 dX6_add_26 rfl rfl ?_
    refine gf_X6_3 fl_X6_26 (lk120 hG) (lr120_3 hG) dX6_add_27 ?_
    refine aw_iload 4 dX6_add_30 rfl ?_
    obtain ⟨hi_2, h⟩ := h
    refine aw_ild dX6_add_32 (lk127 hG) (ln127 hG) hi_2 ?_
    refine aw_zeq 73 dX6_add_33 (by decide) (fun c_3 => ?_) (fun c_3 => ?_)
    · have h := sw_if.t h c_3
      refine aw_sub [0, 1, 2, 3, 4] rfl ?_
      exact t_X6_add_73 hG   h
    · have h := sw_if.f h c_3
      refine aw_aload_n 0 dX6_add_36 rfl rfl ?_
      refine gf_X6_1 fl_X6_18 (lk120 hG) (lr120_1 hG) dX6_add_37 ?_
      refine aw_aload_n 0 dX6_add_40 rfl rfl ?_
      refine gf_X6_3 fl_X6_26 (lk120 hG) (lr120_3 hG) dX6_add_41 ?_
      refine aw_iload 4 dX6_add_44 rfl ?_
      obtain ⟨hi_4, h⟩ := h
      refine aw_ild dX6_add_46 (lk127 hG) (ln127 hG) hi_4 ?_
      refine aw_iconst (v := 1) dX6_add_47 (by decide) ?_
      refine aw_isub dX6_add_48 ?_
      obtain ⟨hi_5, h⟩ := h
      refine aw_lld dX6_add_49 (lk125 hG) (ln125 hG) hi_5 ?_
      refine aw_lload_n 1 dX6_add_50 rfl rfl ?_
      refine aw_lcmp dX6_add_51 ?_
      refine aw_zne 57 dX6_add_52 (by decide) (fun c_6 => ?_) (fun c_6 => ?_)
      · have h := sw_if.f h c_6
        refine aw_iload 4 dX6_add_57 rfl ?_
        refine aw_iconst (v := 1) dX6_add_59 (by decide) ?_
        refine aw_iadd dX6_add_60 ?_
        refine aw_sipush (v := 4095) dX6_add_61 (by decide) ?_
        refine aw_iand dX6_add_64 ?_
        refine aw_topi (fun y_7 e_8 => ?_)
        have h := h y_7 e_8
        refine aw_istore (lv' := [(5, .int y_7), (0, .ref (sz + 120)), (1, .long w1), (3, .int x3), (4, .int x4), (6, .int x6)]) dX6_add_65 (by decide) rfl ?_
        obtain ⟨y_9, e_10⟩ : ∃ q : Int32, q = x6 + 1 := ⟨_, rfl⟩
        have h := h y_9 e_10
        refine aw_iinc (lv' := [(6, .int y_9), (5, .int y_7), (0, .ref (sz + 120)), (1, .long w1), (3, .int x3), (4, .int x4)]) 5 dX6_add_67 rfl (by rw [e_10]; rfl) (by decide) rfl ?_
        refine aw_goto 18 dX6_add_70 (by decide) ?_
        refine aw_sub [2, 3, 4, 5, 1, 0] rfl ?_
        exact hK18 w1 x3 x4 y_7 y_9 I J h
      · have h := sw_if.t h c_6
        refine aw_iconst (v := (-1)) dX6_add_55 (by decide) ?_
        exact aw_iret rfl dX6_add_56 ⟨rfl, _, rfl, h⟩
set_option maxRecDepth 20000 in
theorem tl_X6_add_18 {l : Launch} {D : va_G} {cy : Nat → ClassId} {sz : Nat} {G : sw_G} (hG : sw_lay G)   {Q : Int32 → sw_I → sw_J → Prop} : ∀ (n : Nat) (w1 : Int64) (x3 : Int32) (x4 : Int32) (x5 : Int32) (x6 : Int32) (I : sw_I) (J : sw_J), wl_X6_add_18   Q n w1 x3 x4 x5 x6 I J → AW l D cy sz RX6 cX6_add 7 (some .int) false rm_X6_add 0 0 (sw_qi G Q) 0 0 G I J 18 [(0, .ref (sz + 120)), (1, .long w1), (3, .int x3), (4, .int x4), (5, .int x5), (6, .int x6)] [] := by
  intro n
  induction n with
  | zero => intro w1 x3 x4 x5 x6 I J h; exact False.elim h
  | succ n ih => intro w1 x3 x4 x5 x6 I J h; exact tb_X6_add_18 hG  ih h
set_option maxRecDepth 20000 in
theorem t_X6_add {l : Launch} {D : va_G} {cy : Nat → ClassId} {sz : Nat} {G : sw_G} (hG : sw_lay G)   {Q : Int32 → sw_I → sw_J → Prop} {w1 : Int64} {x3 : Int32} {x4 : Int32} {I : sw_I} {J : sw_J} (h : wp_X6_add w1 x3 x4 I J Q) : AW l D cy sz RX6 cX6_add 7 (some .int) false rm_X6_add 0 0 (sw_qi G Q) 0 0 G I J 0 [(0, .ref (sz + 120)), (1, .long w1), (3, .int x3), (4, .int x4)] [] := by
  unfold wp_X6_add at h
  refine aw_lload_n 1 dX6_add_0 rfl rfl ?_
  refine aw_ldc2 (v := (-7046029254386353131)) dX6_add_1 k_X6_120 ?_
  refine aw_lmul dX6_add_4 ?_
  refine aw_bipush (v := 52) dX6_add_5 (by decide) ?_
  refine aw_lushr dX6_add_7 ?_
  refine aw_l2i dX6_add_8 ?_
  refine aw_sipush (v := 4095) dX6_add_9 (by decide) ?_
  refine aw_iand dX6_add_12 ?_
  refine aw_topi (fun y_1 e_2 => ?_)
  have h := h y_1 e_2
  refine aw_istore (lv' := [(5, .int y_1), (0, .ref (sz + 120)), (1, .long w1), (3, .int x3), (4, .int x4)]) dX6_add_13 (by decide) rfl ?_
  refine aw_iconst (v := 0) dX6_add_15 (by decide) ?_
  refine aw_istore (lv' := [(6, .int 0), (5, .int y_1), (0, .ref (sz + 120)), (1, .long w1), (3, .int x3), (4, .int x4)]) dX6_add_16 (by decide) rfl ?_
  refine aw_sub [2, 3, 4, 5, 1, 0] rfl ?_
  obtain ⟨n_3, h⟩ := h
  exact tl_X6_add_18 hG   n_3 w1 x3 x4 y_1 0 I J h
theorem M_X6_add {l : Launch} {D : va_G} {cy : Nat → ClassId} {sz : Nat} {G : sw_G} (hG : sw_lay G)   {Q : Int32 → sw_I → sw_J → Prop} {w1 : Int64} {x3 : Int32} {x4 : Int32} {I : sw_I} {J : sw_J} (h : wp_X6_add w1 x3 x4 I J Q) : Met l yX6_add (Cond.code yX6_add cX6_add 7 (some .int) :: sw_T) rm_X6_add (sw_Pc D cy sz [.ref (sz + 120), .long w1, .int x3, .int x4] G I J) (sw_Q D cy sz (sw_qi G Q)) 0 0 (fun q => sz ≤ q) :=
  sw_met (by decide) (fun q => by cases q) (Nat.le_of_ble_eq_true rfl) rfl (t_X6_add hG  h)
-- X6_isState
abbrev rm_X6_isState : Room := { frames := 0, cells := 0, slots := 0, locals := 0 }
def wp_X6_isState (x1 : Int32) (I : sw_I) (J : sw_J) (Q : Int32 → sw_I → sw_J → Prop) : Prop :=
  sw_if (x1 < 0) (Q 0 I J) (sw_if (x1 < (I 120 4)) (Q 1 I J) (Q 0 I J))
set_option maxRecDepth 20000 in
theorem t_X6_isState {l : Launch} {D : va_G} {cy : Nat → ClassId} {sz : Nat} {G : sw_G} (hG : sw_lay G)   {Q : Int32 → sw_I → sw_J → Prop} {x1 : Int32} {I : sw_I} {J : sw_J} (h : wp_X6_isState x1 I J Q) : AW l D cy sz RX6 cX6_isState 2 (some .boolean) false rm_X6_isState 0 0 (sw_qi G Q) 0 0 G I J 0 [(0, .ref (sz + 120)), (1, .int x1)] [] := by
  unfold wp_X6_isState at h
  refine aw_iload_n 1 dX6_isState_0 rfl rfl ?_
  refine aw_zlt 16 dX6_isState_1 (by decide) (fun c_1 => ?_) (fun c_1 => ?_)
  · have h := sw_if.t h c_1
    refine aw_iconst (v := 0) dX6_isState_16 (by decide) ?_
    exact aw_zret rfl rfl dX6_isState_17 ⟨rfl, _, rfl, h⟩
  · have h := sw_if.f h c_1
    refine aw_iload_n 1 dX6_isState_4 rfl rfl ?_
    refine aw_aload_n 0 dX6_isState_5 rfl rfl ?_
    refine gf_X6_4 fl_X6_29 (lk120 hG) dX6_isState_6 ?_
    refine aw_jge 16 dX6_isState_9 (by decide) (fun c_2 => ?_) (fun c_2 => ?_)
    · have h := sw_if.f h c_2
      refine aw_iconst (v := 0) dX6_isState_16 (by decide) ?_
      exact aw_zret rfl rfl dX6_isState_17 ⟨rfl, _, rfl, h⟩
    · have h := sw_if.t h c_2
      refine aw_iconst (v := 1) dX6_isState_12 (by decide) ?_
      refine aw_goto 17 dX6_isState_13 (by decide) ?_
      exact aw_zret rfl rfl dX6_isState_17 ⟨rfl, _, rfl, h⟩
theorem M_X6_isState {l : Launch} {D : va_G} {cy : Nat → ClassId} {sz : Nat} {G : sw_G} (hG : sw_lay G)   {Q : Int32 → sw_I → sw_J → Prop} {x1 : Int32} {I : sw_I} {J : sw_J} (h : wp_X6_isState x1 I J Q) : Met l yX6_isState (Cond.code yX6_isState cX6_isState 2 (some .boolean) :: sw_T) rm_X6_isState (sw_Pc D cy sz [.ref (sz + 120), .int x1] G I J) (sw_Q D cy sz (sw_qi G Q)) 0 0 (fun q => sz ≤ q) :=
  sw_met (by decide) (fun q => by cases q) (Nat.le_of_ble_eq_true rfl) rfl (t_X6_isState hG  h)
