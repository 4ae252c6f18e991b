-- X10_enter
abbrev rm_X10_enter : Room := { frames := 3, cells := 0, slots := 0, locals := 67 }
def wp_X10_enter (x1 : Int32) (I : sw_I) (J : sw_J) (Q : Int32 → sw_I → sw_J → Prop) : Prop :=
  ∀ I_1 : sw_I, I_1 = sw_up I 131 0 (0 : Int32) → wp_X10_canEnter x1 I_1 J (fun r_3 I_4 J_5 => sw_if (r_3 = 0) (Q 0 I_4 J_5) (wp_X10_putsBy  I_4 J_5 (fun I_8 J_9 => ∀ I_12 : sw_I, I_12 = sw_up I_8 135 (30 : Int32).toNatClampNeg ((I_8 135 (30 : Int32).toNatClampNeg) ||| ((1 : Int32) <<< (x1 &&& 31))) → wp_X10_adds  I_12 J_9 (fun I_15 J_16 => Q 1 I_15 J_16))))
set_option maxRecDepth 20000 in
theorem t_X10_enter {l : Launch} {D : va_G} {cy : Nat → ClassId} {sz : Nat} {G : sw_G} (hG : sw_lay G)   {Q : Int32 → sw_I → sw_J → Prop} {x1 : Int32} {I : sw_I} {J : sw_J} (h : wp_X10_enter x1 I J Q) : AW l D cy sz RX10 cX10_enter 2 (some .boolean) false rm_X10_enter 0 0 (sw_qi G Q) 0 0 G I J 0 [(0, .ref (sz + 131)), (1, .int x1)] [] := by
  unfold wp_X10_enter at h
  refine aw_aload_n 0 dX10_enter_0 rfl rfl ?_
  refine aw_iconst (v := 0) dX10_enter_1 (by decide) ?_
  refine pf_X10_0 fl_X10_3 (lk131 hG) dX10_enter_2 (aw_nameI fun I_1 e_2 => ?_)
  have h := h I_1 e_2
  refine aw_aload_n 0 dX10_enter_5 rfl rfl ?_
  refine aw_iload_n 1 dX10_enter_6 rfl rfl ?_
  refine aw_callV wv_X10_canEnter (M_X10_canEnter hG  h) ml_X10_248 rfl (by decide) (lk131 hG) rfl rfl (Nat.le_of_ble_eq_true rfl) ⟨rfl, rfl⟩ ⟨Nat.le_of_ble_eq_true rfl, Nat.le_of_ble_eq_true rfl⟩ ⟨Nat.le_refl _, Nat.le_refl _⟩ dX10_enter_7 (aw_ki fun r_3 I_4 J_5 h => ?_)
  refine aw_zne 15 dX10_enter_10 (by decide) (fun c_6 => ?_) (fun c_6 => ?_)
  · have h := sw_if.f h c_6
    refine aw_aload_n 0 dX10_enter_15 rfl rfl ?_
    refine aw_callV wv_X10_putsBy (M_X10_putsBy hG  h) ml_X10_251 rfl (by decide) (lk131 hG) rfl rfl (Nat.le_of_ble_eq_true rfl) ⟨rfl, rfl⟩ ⟨Nat.le_of_ble_eq_true rfl, Nat.le_of_ble_eq_true rfl⟩ ⟨Nat.le_refl _, Nat.le_refl _⟩ dX10_enter_16 (aw_kv fun I_8 J_9 h => ?_)
    refine aw_aload_n 0 dX10_enter_19 rfl rfl ?_
    refine gf_X10_9 fl_X10_79 (lk131 hG) (lr131_9 hG) dX10_enter_20 ?_
    refine aw_bipush (v := 30) dX10_enter_23 (by decide) ?_
    refine aw_dup2 dX10_enter_25 rfl rfl ?_
    refine aw_ild dX10_enter_26 (lk135 hG) (ln135 hG) (by unfold vp_in; decide) ?_
    refine aw_iconst (v := 1) dX10_enter_27 (by decide) ?_
    refine aw_iload_n 1 dX10_enter_28 rfl rfl ?_
    refine aw_ishl dX10_enter_29 ?_
    refine aw_ior dX10_enter_30 ?_
    refine aw_ist dX10_enter_31 (lk135 hG) (ln135 hG) (by unfold vp_in; decide) (aw_nameI fun I_12 e_13 => ?_)
    have h := h I_12 e_13
    refine aw_aload_n 0 dX10_enter_32 rfl rfl ?_
    refine aw_callV wv_X10_adds (M_X10_adds hG  h) ml_X10_255 rfl (by decide) (lk131 hG) rfl rfl (Nat.le_of_ble_eq_true rfl) ⟨rfl, rfl⟩ ⟨Nat.le_of_ble_eq_true rfl, Nat.le_of_ble_eq_true rfl⟩ ⟨Nat.le_refl _, Nat.le_refl _⟩ dX10_enter_33 (aw_kv fun I_15 J_16 h => ?_)
    refine aw_iconst (v := 1) dX10_enter_36 (by decide) ?_
    exact aw_zret rfl rfl dX10_enter_37 ⟨rfl, _, rfl, h⟩
  · have h := sw_if.t h c_6
    refine aw_iconst (v := 0) dX10_enter_13 (by decide) ?_
    exact aw_zret rfl rfl dX10_enter_14 ⟨rfl, _, rfl, h⟩
theorem M_X10_enter {l : Launch} {D : va_G} {cy : Nat → ClassId} {sz : Nat} {G : sw_G} (hG : sw_lay G)   {Q : Int32 → sw_I → sw_J → Prop} {x1 : Int32} {I : sw_I} {J : sw_J} (h : wp_X10_enter x1 I J Q) : Met l yX10_enter (Cond.code yX10_enter cX10_enter 2 (some .boolean) :: sw_T) rm_X10_enter (sw_Pc D cy sz [.ref (sz + 131), .int x1] G I J) (sw_Q D cy sz (sw_qi G Q)) 0 0 (fun q => sz ≤ q) :=
  sw_met (by decide) (fun q => by cases q) (Nat.le_of_ble_eq_true rfl) rfl (t_X10_enter hG  h)
-- X10_leave
abbrev rm_X10_leave : Room := { frames := 3, cells := 0, slots := 0, locals := 67 }
def wp_X10_leave (x1 : Int32) (I : sw_I) (J : sw_J) (Q : Int32 → sw_I → sw_J → Prop) : Prop :=
  ∀ I_1 : sw_I, I_1 = sw_up I 131 0 (0 : Int32) → wp_X10_canLeave x1 I_1 J (fun r_3 I_4 J_5 => sw_if (r_3 = 0) (Q 0 I_4 J_5) (wp_X10_putsBy  I_4 J_5 (fun I_8 J_9 => ∀ I_12 : sw_I, I_12 = sw_up I_8 135 (30 : Int32).toNatClampNeg ((I_8 135 (30 : Int32).toNatClampNeg) &&& (((1 : Int32) <<< (x1 &&& 31)) ^^^ (-1 : Int32))) → wp_X10_adds  I_12 J_9 (fun I_15 J_16 => Q 1 I_15 J_16))))
set_option maxRecDepth 20000 in
theorem t_X10_leave {l : Launch} {D : va_G} {cy : Nat → ClassId} {sz : Nat} {G : sw_G} (hG : sw_lay G)   {Q : Int32 → sw_I → sw_J → Prop} {x1 : Int32} {I : sw_I} {J : sw_J} (h : wp_X10_leave x1 I J Q) : AW l D cy sz RX10 cX10_leave 2 (some .boolean) false rm_X10_leave 0 0 (sw_qi G Q) 0 0 G I J 0 [(0, .ref (sz + 131)), (1, .int x1)] [] := by
  unfold wp_X10_leave at h
  refine aw_aload_n 0 dX10_leave_0 rfl rfl ?_
  refine aw_iconst (v := 0) dX10_leave_1 (by decide) ?_
  refine pf_X10_0 fl_X10_3 (lk131 hG) dX10_leave_2 (aw_nameI fun I_1 e_2 => ?_)
  have h := h I_1 e_2
  refine aw_aload_n 0 dX10_leave_5 rfl rfl ?_
  refine aw_iload_n 1 dX10_leave_6 rfl rfl ?_
  refine aw_callV wv_X10_canLeave (M_X10_canLeave hG  h) ml_X10_258 rfl (by decide) (lk131 hG) rfl rfl (Nat.le_of_ble_eq_true rfl) ⟨rfl, rfl⟩ ⟨Nat.le_of_ble_eq_true rfl, Nat.le_of_ble_eq_true rfl⟩ ⟨Nat.le_refl _, Nat.le_refl _⟩ dX10_leave_7 (aw_ki fun r_3 I_4 J_5 h => ?_)
  refine aw_zne 15 dX10_leave_10 (by decide) (fun c_6 => ?_) (fun c_6 => ?_)
  · have h := sw_if.f h c_6
    refine aw_aload_n 0 dX10_leave_15 rfl rfl ?_
    refine aw_callV wv_X10_putsBy (M_X10_putsBy hG  h) ml_X10_251 rfl (by decide) (lk131 hG) rfl rfl (Nat.le_of_ble_eq_true rfl) ⟨rfl, rfl⟩ ⟨Nat.le_of_ble_eq_true rfl, Nat.le_of_ble_eq_true rfl⟩ ⟨Nat.le_refl _, Nat.le_refl _⟩ dX10_leave_16 (aw_kv fun I_8 J_9 h => ?_)
    refine aw_aload_n 0 dX10_leave_19 rfl rfl ?_
    refine gf_X10_9 fl_X10_79 (lk131 hG) (lr131_9 hG) dX10_leave_20 ?_
    refine aw_bipush (v := 30) dX10_leave_23 (by decide) ?_
    refine aw_dup2 dX10_leave_25 rfl rfl ?_
    refine aw_ild dX10_leave_26 (lk135 hG) (ln135 hG) (by unfold vp_in; decide) ?_
    refine aw_iconst (v := 1) dX10_leave_27 (by decide) ?_
    refine aw_iload_n 1 dX10_leave_28 rfl rfl ?_
    refine aw_ishl dX10_leave_29 ?_
    refine aw_iconst (v := (-1)) dX10_leave_30 (by decide) ?_
    refine aw_ixor dX10_leave_31 ?_
    refine aw_iand dX10_leave_32 ?_
    refine aw_ist dX10_leave_33 (lk135 hG) (ln135 hG) (by unfold vp_in; decide) (aw_nameI fun I_12 e_13 => ?_)
    have h := h I_12 e_13
    refine aw_aload_n 0 dX10_leave_34 rfl rfl ?_
    refine aw_callV wv_X10_adds (M_X10_adds hG  h) ml_X10_255 rfl (by decide) (lk131 hG) rfl rfl (Nat.le_of_ble_eq_true rfl) ⟨rfl, rfl⟩ ⟨Nat.le_of_ble_eq_true rfl, Nat.le_of_ble_eq_true rfl⟩ ⟨Nat.le_refl _, Nat.le_refl _⟩ dX10_leave_35 (aw_kv fun I_15 J_16 h => ?_)
    refine aw_iconst (v := 1) dX10_leave_38 (by decide) ?_
    exact aw_zret rfl rfl dX10_leave_39 ⟨rfl, _, rfl, h⟩
  · have h := sw_if.t h c_6
    refine aw_iconst (v := 0) dX10_leave_13 (by decide) ?_
    exact aw_zret rfl rfl dX10_leave_14 ⟨rfl, _, rfl, h⟩
theorem M_X10_leave {l : Launch} {D : va_G} {cy : Nat → ClassId} {sz : Nat} {G : sw_G} (hG : sw_lay G)   {Q : Int32 → sw_I → sw_J → Prop} {x1 : Int32} {I : sw_I} {J : sw_J} (h : wp_X10_leave x1 I J Q) : Met l yX10_leave (Cond.code yX10_leave cX10_leave 2 (some .boolean) :: sw_T) rm_X10_leave (sw_Pc D cy sz [.ref (sz + 131), .int x1] G I J) (sw_Q D cy sz (sw_qi G Q)) 0 0 (fun q => sz ≤ q) :=
  sw_met (by decide) (fun q => by cases q) (Nat.le_of_ble_eq_true rfl) rfl (t_X10_leave hG  h)
-- X10_readsAct
abbrev rm_X10_readsAct : Room := { frames := 5, cells := 0, slots := 0, locals := 107 }
def wB_X10_readsAct_275   (Q : Int32 → sw_I → sw_J → Prop)  (I : sw_I) (J : sw_J) : Prop :=
  ∀ I_1 : sw_I, I_1 = sw_up I 131 38 ((I 131 38) + (1 : Int32)) → Q 1 I_1 J
def wB_X10_readsAct_195   (Q : Int32 → sw_I → sw_J → Prop) (x1 : Int32) (x3 : Int32) (I : sw_I) (J : sw_J) : Prop :=
  vp_in (I 131 38) 60 ∧ ∀ I_2 : sw_I, I_2 = sw_up I 148 (I 131 38).toNatClampNeg x3 → sw_if (x3 = 0) (Q 0 I_2 J) (sw_if (x1 = (2 : Int32)) (vp_in (I_2 131 38) 60 ∧ ∀ I_7 : sw_I, I_7 = sw_up I_2 149 (I_2 131 38).toNatClampNeg (-1 : Int32) → wp_X10_takes 45 I_7 J (fun r_9 I_10 J_11 => sw_if (r_9 = 0) (wp_X10_isDigit  I_10 J_11 (fun r_13 I_14 J_15 => sw_if (r_13 = 0) (Q 0 I_14 J_15) (vp_in (I_14 131 13) 80 ∧ vp_in (I_14 131 38) 60 ∧ ∀ I_19 : sw_I, I_19 = sw_up I_14 149 (I_14 131 38).toNatClampNeg ((I_14 137 (I_14 131 13).toNatClampNeg) - (48 : Int32)) → ∀ I_21 : sw_I, I_21 = sw_up I_19 131 13 ((I_19 131 13) + (1 : Int32)) → wB_X10_readsAct_275   Q  I_21 J_15))) (wB_X10_readsAct_275   Q  I_10 J_11))) (wB_X10_readsAct_275   Q  I_2 J))
def wB_X10_readsAct_163  (K117 : Int32 → Int32 → Int32 → sw_I → sw_J → Prop) (Q : Int32 → sw_I → sw_J → Prop) (x1 : Int32) (x3 : Int32) (I : sw_I) (J : sw_J) : Prop :=
  vp_in (I 131 13) 80 ∧ ∀ y_2 : Int32, y_2 = (I 137 (I 131 13).toNatClampNeg) - (97 : Int32) → ∀ y_4 : Int32, y_4 = x3 ||| ((1 : Int32) <<< (y_2 &&& 31)) → ∀ I_6 : sw_I, I_6 = sw_up I 131 13 ((I 131 13) + (1 : Int32)) → K117 x1 y_2 y_4 I_6 J
def wb_X10_readsAct_117  (K117 : Int32 → Int32 → Int32 → sw_I → sw_J → Prop) (Q : Int32 → sw_I → sw_J → Prop) (x1 : Int32) (x2 : Int32) (x3 : Int32) (I : sw_I) (J : sw_J) : Prop :=
  sw_if ((I 131 13) < (I 131 14)) (vp_in (I 131 13) 80 ∧ wp_X10_in (((I 137 (I 131 13).toNatClampNeg) - (97 : Int32)).toInt64) ((x2 + (1 : Int32)).toInt64) 9 I J (fun r_3 I_4 J_5 => sw_if (r_3 = 0) (wB_X10_readsAct_195   Q x1 x3 I_4 J_5) (sw_if (x1 < (2 : Int32)) (wB_X10_readsAct_163  K117 Q x1 x3 I_4 J_5) (sw_if (x3 = 0) (wB_X10_readsAct_163  K117 Q x1 x3 I_4 J_5) (wB_X10_readsAct_195   Q x1 x3 I_4 J_5))))) (wB_X10_readsAct_195   Q x1 x3 I J)
def wl_X10_readsAct_117   (Q : Int32 → sw_I → sw_J → Prop) : Nat → Int32 → Int32 → Int32 → sw_I → sw_J → Prop
  | 0 => fun _ _ _ _ _ => False
  | n + 1 => fun x1 x2 x3 I J => wb_X10_readsAct_117  (wl_X10_readsAct_117   Q n) Q x1 x2 x3 I J
def wB_X10_readsAct_101   (Q : Int32 → sw_I → sw_J → Prop)  (I : sw_I) (J : sw_J) : Prop :=
  ∀ I_1 : sw_I, I_1 = sw_up I 131 38 ((I 131 38) + (1 : Int32)) → Q 1 I_1 J
def wp_X10_readsAct  (I : sw_I) (J : sw_J) (Q : Int32 → sw_I → sw_J → Prop) : Prop :=
  wp_X10_among 4 I J (fun r_1 I_2 J_3 => sw_if (r_1 < 0) (Q 0 I_2 J_3) (∀ I_5 : sw_I, I_5 = sw_up I_2 131 13 ((I_2 131 13) + (1 : Int32)) → vp_in (I_5 131 38) 60 ∧ ∀ I_8 : sw_I, I_8 = sw_up I_5 147 (I_5 131 38).toNatClampNeg r_1 → sw_if (r_1 = (3 : Int32)) (vp_in (I_8 131 38) 60 ∧ ∀ I_13 : sw_I, I_13 = sw_up I_8 150 (I_8 131 38).toNatClampNeg (1 : Int32) → wp_X10_isDigit  I_13 J_3 (fun r_15 I_16 J_17 => sw_if (r_15 = 0) (wB_X10_readsAct_101   Q  I_16 J_17) (vp_in (I_16 131 13) 80 ∧ sw_if ((I_16 137 (I_16 131 13).toNatClampNeg) = (48 : Int32)) (wB_X10_readsAct_101   Q  I_16 J_17) (vp_in (I_16 131 13) 80 ∧ vp_in (I_16 131 38) 60 ∧ ∀ I_23 : sw_I, I_23 = sw_up I_16 150 (I_16 131 38).toNatClampNeg ((I_16 137 (I_16 131 13).toNatClampNeg) - (48 : Int32)) → ∀ I_25 : sw_I, I_25 = sw_up I_23 131 13 ((I_23 131 13) + (1 : Int32)) → wB_X10_readsAct_101   Q  I_25 J_17)))) (∃ n_11 : Nat, wl_X10_readsAct_117   Q n_11 r_1 (-1) 0 I_8 J_3)))
set_option maxRecDepth 20000 in
theorem t_X10_readsAct_275 {l : Launch} {D : va_G} {cy : Nat → ClassId} {sz : Nat} {G : sw_G} (hG : sw_lay G)   {Q : Int32 → sw_I → sw_J → Prop}  {I : sw_I} {J : sw_J} (h : wB_X10_readsAct_275   Q  I J) : AW l D cy sz RX10 cX10_readsAct 4 (some .boolean) false rm_X10_readsAct 0 0 (sw_qi G Q) 0 0 G I J 275 [(0, .ref (sz + 131))] [] := by
  unfold wB_X10_readsAct_275 at h
  refine aw_aload_n 0 dX10_readsAct_275 rfl rfl ?_
  refine aw_dup dX10_readsAct_276 rfl ?_
  refine gf_X10_38 fl_X10_271 (lk131 hG) dX10_readsAct_277 ?_
  refine aw_iconst (v := 1) dX10_readsAct_280 (by decide) ?_
  refine aw_iadd dX10_readsAct_281 ?_
  refine pf_X10_38 fl_X10_271 (lk131 hG) dX10_readsAct_282 (aw_nameI fun I_1 e_2 => ?_)
  have h := h I_1 e_2
  refine aw_iconst (v := 1) dX10_readsAct_285 (by decide) ?_
  exact aw_zret rfl rfl dX10_readsAct_286 ⟨rfl, _, rfl, h⟩
set_option maxRecDepth 20000 in
theorem t_X10_readsAct_195 {l : Launch} {D : va_G} {cy : Nat → ClassId} {sz : Nat} {G : sw_G} (hG : sw_lay G)   {Q : Int32 → sw_I → sw_J → Prop} {x1 : Int32} {x3 : Int32} {I : sw_I} {J : sw_J} (h : wB_X10_readsAct_195   Q x1 x3 I J) : AW l D cy sz RX10 cX10_readsAct 4 (some .boolean) false rm_X10_readsAct 0 0 (sw_qi G Q) 0 0 G I J 195 [(0, .ref (sz + 131)), (1, .int x1), (3, .int x3)] [] := by
  unfold wB_X10_readsAct_195 at h
  refine aw_aload_n 0 dX10_readsAct_195 rfl rfl ?_
  refine gf_X10_35 fl_X10_277 (lk131 hG) (lr131_35 hG) dX10_readsAct_196 ?_
  refine aw_aload_n 0 dX10_readsAct_199 rfl rfl ?_
  refine gf_X10_38 fl_X10_271 (lk131 hG) dX10_readsAct_200 ?_
  refine aw_iload_n 2 dX10_readsAct_203 rfl rfl ?_
  obtain ⟨hi_1, h⟩ := h
  refine aw_ist dX10_readsAct_204 (lk148 hG) (ln148 hG) hi_1 (aw_nameI fun I_2 e_3 => ?_)
  have h := h I_2 e_3
  refine aw_iload_n 2 dX10_readsAct_205 rfl rfl ?_
  refine aw_zne 211 dX10_readsAct_206 (by decide) (fun c_4 => ?_) (fun c_4 => ?_)
  · have h := sw_if.f h c_4
    refine aw_iload_n 1 dX10_readsAct_211 rfl rfl ?_
    refine aw_iconst (v := 2) dX10_readsAct_212 (by decide) ?_
    refine aw_jne 275 dX10_readsAct_213 (by decide) (fun c_5 => ?_) (fun c_5 => ?_)
    · have h := sw_if.f h c_5
      refine aw_sub [0] rfl ?_
      exact t_X10_readsAct_275 hG   h
    · have h := sw_if.t h c_5
      refine aw_aload_n 0 dX10_readsAct_216 rfl rfl ?_
      refine gf_X10_36 fl_X10_280 (lk131 hG) (lr131_36 hG) dX10_readsAct_217 ?_
      refine aw_aload_n 0 dX10_readsAct_220 rfl rfl ?_
      refine gf_X10_38 fl_X10_271 (lk131 hG) dX10_readsAct_221 ?_
      refine aw_iconst (v := (-1)) dX10_readsAct_224 (by decide) ?_
      obtain ⟨hi_6, h⟩ := h
      refine aw_ist dX10_readsAct_225 (lk149 hG) (ln149 hG) hi_6 (aw_nameI fun I_7 e_8 => ?_)
      have h := h I_7 e_8
      refine aw_aload_n 0 dX10_readsAct_226 rfl rfl ?_
      refine aw_bipush (v := 45) dX10_readsAct_227 (by decide) ?_
      refine aw_callV wv_X10_takes (M_X10_takes hG  h) ml_X10_108 rfl (by decide) (lk131 hG) rfl rfl (Nat.le_of_ble_eq_true rfl) ⟨rfl, rfl⟩ ⟨Nat.le_of_ble_eq_true rfl, Nat.le_of_ble_eq_true rfl⟩ ⟨Nat.le_refl _, Nat.le_refl _⟩ dX10_readsAct_229 (aw_ki fun r_9 I_10 J_11 h => ?_)
      refine aw_zne 275 dX10_readsAct_232 (by decide) (fun c_12 => ?_) (fun c_12 => ?_)
      · have h := sw_if.f h c_12
        refine aw_sub [0] rfl ?_
        exact t_X10_readsAct_275 hG   h
      · have h := sw_if.t h c_12
        refine aw_aload_n 0 dX10_readsAct_235 rfl rfl ?_
        refine aw_callV wv_X10_isDigit (M_X10_isDigit hG  h) ml_X10_91 rfl (by decide) (lk131 hG) rfl rfl (Nat.le_of_ble_eq_true rfl) ⟨rfl, rfl⟩ ⟨Nat.le_of_ble_eq_true rfl, Nat.le_of_ble_eq_true rfl⟩ ⟨Nat.le_refl _, Nat.le_refl _⟩ dX10_readsAct_236 (aw_ki fun r_13 I_14 J_15 h => ?_)
        refine aw_zne 244 dX10_readsAct_239 (by decide) (fun c_16 => ?_) (fun c_16 => ?_)
        · have h := sw_if.f h c_16
          refine aw_aload_n 0 dX10_readsAct_244 rfl rfl ?_
          refine gf_X10_36 fl_X10_280 (lk131 hG) (lr131_36 hG) dX10_readsAct_245 ?_
          refine aw_aload_n 0 dX10_readsAct_248 rfl rfl ?_
          refine gf_X10_38 fl_X10_271 (lk131 hG) dX10_readsAct_249 ?_
          refine aw_aload_n 0 dX10_readsAct_252 rfl rfl ?_
          refine gf_X10_11 fl_X10_35 (lk131 hG) (lr131_11 hG) dX10_readsAct_253 ?_
          refine aw_aload_n 0 dX10_readsAct_256 rfl rfl ?_
          refine gf_X10_13 fl_X10_39 (lk131 hG) dX10_readsAct_257 ?_
          obtain ⟨hi_17, h⟩ := h
          refine aw_ild dX10_readsAct_260 (lk137 hG) (ln137 hG) hi_17 ?_
          refine aw_bipush (v := 48) dX10_readsAct_261 (by decide) ?_
          refine aw_isub dX10_readsAct_263 ?_
          obtain ⟨hi_18, h⟩ := h
          refine aw_ist dX10_readsAct_264 (lk149 hG) (ln149 hG) hi_18 (aw_nameI fun I_19 e_20 => ?_)
          have h := h I_19 e_20
          refine aw_aload_n 0 dX10_readsAct_265 rfl rfl ?_
          refine aw_dup dX10_readsAct_266 rfl ?_
          refine gf_X10_13 fl_X10_39 (lk131 hG) dX10_readsAct_267 ?_
          refine aw_iconst (v := 1) dX10_readsAct_270 (by decide) ?_
          refine aw_iadd dX10_readsAct_271 ?_
          refine pf_X10_13 fl_X10_39 (lk131 hG) dX10_readsAct_272 (aw_nameI fun I_21 e_22 => ?_)
          have h := h I_21 e_22
          refine aw_sub [0] rfl ?_
          exact t_X10_readsAct_275 hG   h
        · have h := sw_if.t h c_16
          refine aw_iconst (v := 0) dX10_readsAct_242 (by decide) ?_
          exact aw_zret rfl rfl dX10_readsAct_243 ⟨rfl, _, rfl, h⟩
  · have h := sw_if.t h c_4
    refine aw_iconst (v := 0) dX10_readsAct_209 (by decide) ?_
    exact aw_zret rfl rfl dX10_readsAct_210 ⟨rfl, _, rfl, h⟩
set_option maxRecDepth 20000 in
theorem t_X10_readsAct_163 {l : Launch} {D : va_G} {cy : Nat → ClassId} {sz : Nat} {G : sw_G} (hG : sw_lay G)   {Q : Int32 → sw_I → sw_J → Prop} {K117 : Int32 → Int32 → Int32 → sw_I → sw_J → Prop} (hK117 : ∀ (x1 : Int32) (x2 : Int32) (x3 : Int32) (I : sw_I) (J : sw_J), K117 x1 x2 x3 I J → AW l D cy sz RX10 cX10_readsAct 4 (some .boolean) false rm_X10_readsAct 0 0 (sw_qi G Q) 0 0 G I J 117 [(0, .ref (sz + 131)), (1, .int x1), (2, .int x2), (3, .int x3)] []) {x1 : Int32} {x3 : Int32} {I : sw_I} {J : sw_J} (h : wB_X10_readsAct_163  K117 Q x1 x3 I J) : AW l D cy sz RX10 cX10_readsAct 4 (some .boolean) false rm_X10_readsAct 0 0 (sw_qi G Q) 0 0 G I J 163 [(0, .ref (sz + 131)), (1, .int x1), (3, .int x3)] [] := by
  unfold wB_X10_readsAct_163 at h
  refine aw_aload_n 0 dX10_readsAct_163 rfl rfl ?_
  refine gf_X10_11 fl_X10_35 (lk131 hG) (lr131_11 hG) dX10_readsAct_164 ?_
  refine aw_aload_n 0 dX10_readsAct_167 rfl rfl ?_
  refine gf_X10_13 fl_X10_39 (lk131 hG) dX10_readsAct_168 ?_
  obtain ⟨hi_1, h⟩ := h
  refine aw_ild dX10_readsAct_171 (lk137 hG) (ln137 hG) hi_1 ?_
  refine aw_bipush (v := 97) dX10_readsAct_172 (by decide) ?_
  refine aw_isub dX10_readsAct_174 ?_
  refine aw_topi (fun y_2 e_3 => ?_)
  have h := h y_2 e_3
  refine aw_istore_n (lv' := [(2, .int y_2), (0, .ref (sz + 131)), (1, .int x1), (3, .int x3)]) dX10_readsAct_175 rfl (by decide) rfl ?_
  refine aw_iload_n 3 dX10_readsAct_176 rfl rfl ?_
  refine aw_iconst (v := 1) dX10_readsAct_177 (by decide) ?_
  refine aw_iload_n 0 dX10_readsAct_178 rfl rfl ?_
  refine aw_ishl dX10_readsAct_179 ?_
  refine aw_ior dX10_readsAct_180 ?_
  refine aw_topi (fun y_4 e_5 => ?_)
  have h := h y_4 e_5
  refine aw_istore_n (lv' := [(3, .int y_4), (2, .int y_2), (0, .ref (sz + 131)), (1, .int x1)]) dX10_readsAct_181 rfl (by decide) rfl ?_
  refine aw_aload_n 2 dX10_readsAct_182 rfl rfl ?_
  refine aw_dup dX10_readsAct_183 rfl ?_
  refine gf_X10_13 fl_X10_39 (lk131 hG) dX10_readsAct_184 ?_
  refine aw_iconst (v := 1) dX10_readsAct_187 (by decide) ?_
  refine aw_iadd dX10_readsAct_188 ?_
  refine pf_X10_13 fl_X10_39 (lk131 hG) dX10_readsAct_189 (aw_nameI fun I_6 e_7 => ?_)
  have h := h I_6 e_7
  refine aw_goto 117 dX10_readsAct_192 (by decide) ?_
  refine aw_sub [2, 3, 1, 0] rfl ?_
  exact hK117 x1 y_2 y_4 I_6 J h
set_option maxRecDepth 20000 in
theorem tb_X10_readsAct_117 {l : Launch} {D : va_G} {cy : Nat → ClassId} {sz : Nat} {G : sw_G} (hG : sw_lay G)   {Q : Int32 → sw_I → sw_J → Prop} {K117 : Int32 → Int32 → Int32 → sw_I → sw_J → Prop} (hK117 : ∀ (x1 : Int32) (x2 : Int32) (x3 : Int32) (I : sw_I) (J : sw_J), K117 x1 x2 x3 I J → AW l D cy sz RX10 cX10_readsAct 4 (some .boolean) false rm_X10_readsAct 0 0 (sw_qi G Q) 0 0 G I J 117 [(0, .ref (sz + 131)), (1, .int x1), (2, .int x2), (3, .int x3)] []) {x1 : Int32} {x2 : Int32} {x3 : Int32} {I : sw_I} {J : sw_J} (h : wb_X10_readsAct_117  K117 Q x1 x2 x3 I J) : AW l D cy sz RX10 cX10_readsAct 4 (some .boolean) false rm_X10_readsAct 0 0 (sw_qi G Q) 0 0 G I J 117 [(0, .ref (sz + 131)), (1, .int x1), (2, .int x2), (3, .int x3)] [] := by
  unfold wb_X10_readsAct_117 at h
  refine aw_aload_n 0 dX10_readsAct_117 rfl rfl ?_
  refine gf_X10_13 fl_X10_39 (lk131 hG) dX10_readsAct_118 ?_
  refine aw_aload_n 0 dX10_readsAct_121 rfl rfl ?_
  refine gf_X10_14 fl_X10_51 (lk131 hG) dX10_readsAct_122 ?_
  refine aw_jge 195 dX10_readsAct_125 (by decide) (fun c_1 => ?_) (fun c_1 => ?_)
  · have h := sw_if.f h c_1
    refine aw_sub [0, 1, 3] rfl ?_
    exact t_X10_readsAct_195 hG   h
  · have h := sw_if.t h c_1
    refine aw_aload_n 0 dX10_readsAct_128 rfl rfl ?_
    refine gf_X10_11 fl_X10_35 (lk131 hG) (lr131_11 hG) dX10_readsAct_129 ?_
    refine aw_aload_n 0 dX10_readsAct_132 rfl rfl ?_
    refine gf_X10_13 fl_X10_39 (lk131 hG) dX10_readsAct_133 ?_
    obtain ⟨hi_2, h⟩ := h
    refine aw_ild dX10_readsAct_136 (lk137 hG) (ln137 hG) hi_2 ?_
    refine aw_bipush (v := 97) dX10_readsAct_137 (by decide) ?_
    refine aw_isub dX10_readsAct_139 ?_
    refine aw_i2l dX10_readsAct_140 ?_
    refine aw_iload_n 2 dX10_readsAct_141 rfl rfl ?_
    refine aw_iconst (v := 1) dX10_readsAct_142 (by decide) ?_
    refine aw_iadd dX10_readsAct_143 ?_
    refine aw_i2l dX10_readsAct_144 ?_
    refine aw_ldc2 (v := 9) dX10_readsAct_145 k_X10_74 ?_
    refine aw_callS wv_X10_in (M_X10_in trivial  h) ml_X10_25 rfl rfl (Nat.le_of_ble_eq_true rfl) ⟨rfl, rfl⟩ ⟨Nat.le_of_ble_eq_true rfl, Nat.le_of_ble_eq_true rfl⟩ ⟨Nat.le_refl _, Nat.le_refl _⟩ dX10_readsAct_148 (aw_ki fun r_3 I_4 J_5 h => ?_)
    refine aw_zeq 195 dX10_readsAct_151 (by decide) (fun c_6 => ?_) (fun c_6 => ?_)
    · have h := sw_if.t h c_6
      refine aw_sub [0, 1, 3] rfl ?_
      exact t_X10_readsAct_195 hG   h
    · have h := sw_if.f h c_6
      refine aw_iload_n 1 dX10_readsAct_154 rfl rfl ?_
      refine aw_iconst (v := 2) dX10_readsAct_155 (by decide) ?_
      refine aw_jlt 163 dX10_readsAct_156 (by decide) (fun c_7 => ?_) (fun c_7 => ?_)
      · have h := sw_if.t h c_7
        refine aw_sub [0, 1, 3] rfl ?_
        exact t_X10_readsAct_163 hG  hK117 h
      · have h := sw_if.f h c_7
        refine aw_iload_n 3 dX10_readsAct_159 rfl rfl ?_
        refine aw_zne 195 dX10_readsAct_160 (by decide) (fun c_8 => ?_) (fun c_8 => ?_)
        · have h := sw_if.f h c_8
          refine aw_sub [0, 1, 3] rfl ?_
          exact t_X10_readsAct_195 hG   h
        · have h := sw_if.t h c_8
          refine aw_sub [0, 1, 3] rfl ?_
          exact t_X10_readsAct_163 hG  hK117 h
set_option maxRecDepth 20000 in
theorem tl_X10_readsAct_117 {l : Launch} {D : va_G} {cy : Nat → ClassId} {sz : Nat} {G : sw_G} (hG : sw_lay G)   {Q : Int32 → sw_I → sw_J → Prop} : ∀ (n : Nat) (x1 : Int32) (x2 : Int32) (x3 : Int32) (I : sw_I) (J : sw_J), wl_X10_readsAct_117   Q n x1 x2 x3 I J → AW l D cy sz RX10 cX10_readsAct 4 (some .boolean) false rm_X10_readsAct 0 0 (sw_qi G Q) 0 0 G I J 117 [(0, .ref (sz + 131)), (1, .int x1), (2, .int x2), (3, .int x3)] [] := by
  intro n
  induction n with
  | zero => intro x1 x2 x3 I J h; exact False.elim h
  | succ n ih => intro x1 x2 x3 I J h; exact tb_X10_readsAct_117 hG  ih h
set_option maxRecDepth 20000 in
theorem t_X10_readsAct_101 {l : Launch} {D : va_G} {cy : Nat → ClassId} {sz : Nat} {G : sw_G} (hG : sw_lay G)   {Q : Int32 → sw_I → sw_J → Prop}  {I : sw_I} {J : sw_J} (h : wB_X10_readsAct_101   Q  I J) : AW l D cy sz RX10 cX10_readsAct 4 (some .boolean) false rm_X10_readsAct 0 0 (sw_qi G Q) 0 0 G I J 101 [(0, .ref (sz + 131))] [] := by
  unfold wB_X10_readsAct_101 at h
  refine aw_aload_n 0 dX10_readsAct_101 rfl rfl ?_
  refine aw_dup dX10_readsAct_102 rfl ?_
  refine gf_X10_38 fl_X10_271 (lk131 hG) dX10_readsAct_103 ?_
  refine aw_iconst (v := 1) dX10_readsAct_106 (by decide) ?_
  refine aw_iadd dX10_readsAct_107 ?_
  refine pf_X10_38 fl_X10_271 (lk131 hG) dX10_readsAct_108 (aw_nameI fun I_1 e_2 => ?_)
  have h := h I_1 e_2
  refine aw_iconst (v := 1) dX10_readsAct_111 (by decide) ?_
  exact aw_zret rfl rfl dX10_readsAct_112 ⟨rfl, _, rfl, h⟩
set_option maxRecDepth 20000 in
theorem t_X10_readsAct {l : Launch} {D : va_G} {cy : Nat → ClassId} {sz : Nat} {G : sw_G} (hG : sw_lay G)   {Q : Int32 → sw_I → sw_J → Prop}  {I : sw_I} {J : sw_J} (h : wp_X10_readsAct  I J Q) : AW l D cy sz RX10 cX10_readsAct 4 (some .boolean) false rm_X10_readsAct 0 0 (sw_qi G Q) 0 0 G I J 0 [(0, .ref (sz + 131))] [] := by
  unfold wp_X10_readsAct at h
  refine aw_aload_n 0 dX10_readsAct_0 rfl rfl ?_
  refine aw_ldcSW (i := 4) rfl (by decide) rfl sw_sr4 dX10_readsAct_1 ?_
  refine aw_callV wv_X10_among (M_X10_among hG (by decide) h) ml_X10_156 rfl (by decide) (lk131 hG) rfl rfl (Nat.le_of_ble_eq_true rfl) ⟨rfl, rfl⟩ ⟨Nat.le_of_ble_eq_true rfl, Nat.le_of_ble_eq_true rfl⟩ ⟨Nat.le_refl _, Nat.le_refl _⟩ dX10_readsAct_4 (aw_ki fun r_1 I_2 J_3 h => ?_)
  refine aw_istore_n (lv' := [(1, .int r_1), (0, .ref (sz + 131))]) dX10_readsAct_7 rfl (by decide) rfl ?_
  refine aw_iload_n 0 dX10_readsAct_8 rfl rfl ?_
  refine aw_zge 14 dX10_readsAct_9 (by decide) (fun c_4 => ?_) (fun c_4 => ?_)
  · have h := sw_if.f h c_4
    refine aw_aload_n 1 dX10_readsAct_14 rfl rfl ?_
    refine aw_dup dX10_readsAct_15 rfl ?_
    refine gf_X10_13 fl_X10_39 (lk131 hG) dX10_readsAct_16 ?_
    refine aw_iconst (v := 1) dX10_readsAct_19 (by decide) ?_
    refine aw_iadd dX10_readsAct_20 ?_
    refine pf_X10_13 fl_X10_39 (lk131 hG) dX10_readsAct_21 (aw_nameI fun I_5 e_6 => ?_)
    have h := h I_5 e_6
    refine aw_aload_n 1 dX10_readsAct_24 rfl rfl ?_
    refine gf_X10_34 fl_X10_268 (lk131 hG) (lr131_34 hG) dX10_readsAct_25 ?_
    refine aw_aload_n 1 dX10_readsAct_28 rfl rfl ?_
    refine gf_X10_38 fl_X10_271 (lk131 hG) dX10_readsAct_29 ?_
    refine aw_iload_n 0 dX10_readsAct_32 rfl rfl ?_
    obtain ⟨hi_7, h⟩ := h
    refine aw_ist dX10_readsAct_33 (lk147 hG) (ln147 hG) hi_7 (aw_nameI fun I_8 e_9 => ?_)
    have h := h I_8 e_9
    refine aw_iload_n 0 dX10_readsAct_34 rfl rfl ?_
    refine aw_iconst (v := 3) dX10_readsAct_35 (by decide) ?_
    refine aw_jne 113 dX10_readsAct_36 (by decide) (fun c_10 => ?_) (fun c_10 => ?_)
    · have h := sw_if.f h c_10
      refine aw_iconst (v := (-1)) dX10_readsAct_113 (by decide) ?_
      refine aw_istore_n (lv' := [(2, .int (-1)), (1, .int r_1), (0, .ref (sz + 131))]) dX10_readsAct_114 rfl (by decide) rfl ?_
      refine aw_iconst (v := 0) dX10_readsAct_115 (by decide) ?_
      refine aw_istore_n (lv' := [(3, .int 0), (2, .int (-1)), (1, .int r_1), (0, .ref (sz + 131))]) dX10_readsAct_116 rfl (by decide) rfl ?_
      refine aw_sub [3, 2, 1, 0] rfl ?_
      obtain ⟨n_11, h⟩ := h
      exact tl_X10_readsAct_117 hG   n_11 r_1 (-1) 0 I_8 J_3 h
    · have h := sw_if.t h c_10
      refine aw_aload_n 1 dX10_readsAct_39 rfl rfl ?_
      refine gf_X10_37 fl_X10_274 (lk131 hG) (lr131_37 hG) dX10_readsAct_40 ?_
      refine aw_aload_n 1 dX10_readsAct_43 rfl rfl ?_
      refine gf_X10_38 fl_X10_271 (lk131 hG) dX10_readsAct_44 ?_
      refine aw_iconst (v := 1) dX10_readsAct_47 (by decide) ?_
      obtain ⟨hi_12, h⟩ := h
      refine aw_ist dX10_readsAct_48 (lk150 hG) (ln150 hG) hi_12 (aw_nameI fun I_13 e_14 => ?_)
      have h := h I_13 e_14
      refine aw_aload_n 1 dX10_readsAct_49 rfl rfl ?_
      refine aw_callV wv_X10_isDigit (M_X10_isDigit hG  h) ml_X10_91 rfl (by decide) (lk131 hG) rfl rfl (Nat.le_of_ble_eq_true rfl) ⟨rfl, rfl⟩ ⟨Nat.le_of_ble_eq_true rfl, Nat.le_of_ble_eq_true rfl⟩ ⟨Nat.le_refl _, Nat.le_refl _⟩ dX10_readsAct_50 (aw_ki fun r_15 I_16 J_17 h => ?_)
      refine aw_zeq 101 dX10_readsAct_53 (by decide) (fun c_18 => ?_) (fun c_18 => ?_)
      · have h := sw_if.t h c_18
        refine aw_sub [1] rfl ?_
        exact t_X10_readsAct_101 hG   h
      · have h := sw_if.f h c_18
        refine aw_aload_n 1 dX10_readsAct_56 rfl rfl ?_
        refine gf_X10_11 fl_X10_35 (lk131 hG) (lr131_11 hG) dX10_readsAct_57 ?_
        refine aw_aload_n 1 dX10_readsAct_60 rfl rfl ?_
        refine gf_X10_13 fl_X10_39 (lk131 hG) dX10_readsAct_61 ?_
        obtain ⟨hi_19, h⟩ := h
        refine aw_ild dX10_readsAct_64 (lk137 hG) (ln137 hG) hi_19 ?_
        refine aw_bipush (v := 48) dX10_readsAct_65 (by decide) ?_
        refine aw_jeq 101 dX10_readsAct_67 (by decide) (fun c_20 => ?_) (fun c_20 => ?_)
        · have h := sw_if.t h c_20
          refine aw_sub [1] rfl ?_
          exact t_X10_readsAct_101 hG   h
        · have h := sw_if.f h c_20
          refine aw_aload_n 1 dX10_readsAct_70 rfl rfl ?_
          refine gf_X10_37 fl_X10_274 (lk131 hG) (lr131_37 hG) dX10_readsAct_71 ?_
          refine aw_aload_n 1 dX10_readsAct_74 rfl rfl ?_
          refine gf_X10_38 fl_X10_271 (lk131 hG) dX10_readsAct_75 ?_
          refine aw_aload_n 1 dX10_readsAct_78 rfl rfl ?_
          refine gf_X10_11 fl_X10_35 (lk131 hG) (lr131_11 hG) dX10_readsAct_79 ?_
          refine aw_aload_n 1 dX10_readsAct_82 rfl rfl ?_
          refine gf_X10_13 fl_X10_39 (lk131 hG) dX10_readsAct_83 ?_
          obtain ⟨hi_21, h⟩ := h
          refine aw_ild dX10_readsAct_86 (lk137 hG) (ln137 hG) hi_21 ?_
          refine aw_bipush (v := 48) dX10_readsAct_87 (by decide) ?_
          refine aw_isub dX10_readsAct_89 ?_
          obtain ⟨hi_22, h⟩ := h
          refine aw_ist dX10_readsAct_90 (lk150 hG) (ln150 hG) hi_22 (aw_nameI fun I_23 e_24 => ?_)
          have h := h I_23 e_24
          refine aw_aload_n 1 dX10_readsAct_91 rfl rfl ?_
          refine aw_dup dX10_readsAct_92 rfl ?_
          refine gf_X10_13 fl_X10_39 (lk131 hG) dX10_readsAct_93 ?_
          refine aw_iconst (v := 1) dX10_readsAct_96 (by decide) ?_
          refine aw_iadd dX10_readsAct_97 ?_
          refine pf_X10_13 fl_X10_39 (lk131 hG) dX10_readsAct_98 (aw_nameI fun I_25 e_26 => ?_)
          have h := h I_25 e_26
          refine aw_sub [1] rfl ?_
          exact t_X10_readsAct_101 hG   h
  · have h := sw_if.t h c_4
    refine aw_iconst (v := 0) dX10_readsAct_12 (by decide) ?_
    exact aw_zret rfl rfl dX10_readsAct_13 ⟨rfl, _, rfl, h⟩
theorem M_X10_readsAct {l : Launch} {D : va_G} {cy : Nat → ClassId} {sz : Nat} {G : sw_G} (hG : sw_lay G)   {Q : Int32 → sw_I → sw_J → Prop}  {I : sw_I} {J : sw_J} (h : wp_X10_readsAct  I J Q) : Met l yX10_readsAct (Cond.code yX10_readsAct cX10_readsAct 4 (some .boolean) :: sw_T) rm_X10_readsAct (sw_Pc D cy sz [.ref (sz + 131)] G I J) (sw_Q D cy sz (sw_qi G Q)) 0 0 (fun q => sz ≤ q) :=
  sw_met (by decide) (fun q => by cases q) (Nat.le_of_ble_eq_true rfl) rfl (t_X10_readsAct hG  h)
-- X10_puts
abbrev rm_X10_puts : Room := { frames := 0, cells := 0, slots := 0, locals := 0 }
def wb_X10_puts_2 (b0 : Nat) (n0 : Nat) (b1 : Nat) (n1 : Nat) (K2 : Int32 → sw_I → sw_J → Prop) (Q : sw_I → sw_J → Prop) (x2 : Int32) (I : sw_I) (J : sw_J) : Prop :=
  sw_if (x2 < (33 : Int32)) (vp_in x2 n0 ∧ vp_in x2 n1 ∧ ∀ I_4 : sw_I, I_4 = sw_up I b1 x2.toNatClampNeg (I b0 x2.toNatClampNeg) → ∀ y_6 : Int32, y_6 = x2 + 1 → K2 y_6 I_4 J) (Q I J)
def wl_X10_puts_2 (b0 : Nat) (n0 : Nat) (b1 : Nat) (n1 : Nat)  (Q : sw_I → sw_J → Prop) : Nat → Int32 → sw_I → sw_J → Prop
  | 0 => fun _ _ _ => False
  | n + 1 => fun x2 I J => wb_X10_puts_2 b0 n0 b1 n1 (wl_X10_puts_2 b0 n0 b1 n1  Q n) Q x2 I J
def wp_X10_puts (b0 : Nat) (n0 : Nat) (b1 : Nat) (n1 : Nat) (I : sw_I) (J : sw_J) (Q : sw_I → sw_J → Prop) : Prop :=
  ∃ n_1 : Nat, wl_X10_puts_2 b0 n0 b1 n1  Q n_1 0 I J
set_option maxRecDepth 20000 in
theorem tb_X10_puts_2 {l : Launch} {D : va_G} {cy : Nat → ClassId} {sz : Nat} {G : sw_G} (hG : True) {b0 : Nat} {n0 : Nat} {b1 : Nat} {n1 : Nat} (hb0 : sw_ia G b0 n0) (hb1 : sw_ia G b1 n1) {Q : sw_I → sw_J → Prop} {K2 : Int32 → sw_I → sw_J → Prop} (hK2 : ∀ (x2 : Int32) (I : sw_I) (J : sw_J), K2 x2 I J → AW l D cy sz RX10 cX10_puts 3 none false rm_X10_puts 0 0 (sw_qv G Q) 0 0 G I J 2 [(0, .ref (sz + b0)), (1, .ref (sz + b1)), (2, .int x2)] []) {x2 : Int32} {I : sw_I} {J : sw_J} (h : wb_X10_puts_2 b0 n0 b1 n1 K2 Q x2 I J) : AW l D cy sz RX10 cX10_puts 3 none false rm_X10_puts 0 0 (sw_qv G Q) 0 0 G I J 2 [(0, .ref (sz + b0)), (1, .ref (sz + b1)), (2, .int x2)] [] := by
  unfold wb_X10_puts_2 at h
  refine aw_iload_n 2 dX10_puts_2 rfl rfl ?_
  refine aw_bipush (v := 33) dX10_puts_3 (by decide) ?_
  refine aw_jge 20 dX10_puts_5 (by decide) (fun c_1 => ?_) (fun c_1 => ?_)
  · have h := sw_if.f h c_1
    exact aw_vret rfl dX10_puts_20 ⟨rfl, rfl, h⟩
  · have h := sw_if.t h c_1
    refine aw_aload_n 1 dX10_puts_8 rfl rfl ?_
    refine aw_iload_n 2 dX10_puts_9 rfl rfl ?_
    refine aw_aload_n 0 dX10_puts_10 rfl rfl ?_
    refine aw_iload_n 2 dX10_puts_11 rfl rfl ?_
    obtain ⟨hi_2, h⟩ := h
    refine aw_ild dX10_puts_12 hb0.1 hb0.2 hi_2 ?_
    obtain ⟨hi_3, h⟩ := h
    refine aw_ist dX10_puts_13 hb1.1 hb1.2 hi_3 (aw_nameI fun I_4 e_5 => ?_)
    have h := h I_4 e_5
    obtain ⟨y_6, e_7⟩ : ∃ q : Int32, q = x2 + 1 := ⟨_, rfl⟩
    have h := h y_6 e_7
    refine aw_iinc (lv' := [(2, .int y_6), (0, .ref (sz + b0)), (1, .ref (sz + b1))]) 2 dX10_puts_14 rfl (by rw [e_7]; rfl) (by decide) rfl ?_
    refine aw_goto 2 dX10_puts_17 (by decide) ?_
    refine aw_sub [1, 2, 0] rfl ?_
    exact hK2 y_6 I_4 J h
set_option maxRecDepth 20000 in
theorem tl_X10_puts_2 {l : Launch} {D : va_G} {cy : Nat → ClassId} {sz : Nat} {G : sw_G} (hG : True) {b0 : Nat} {n0 : Nat} {b1 : Nat} {n1 : Nat} (hb0 : sw_ia G b0 n0) (hb1 : sw_ia G b1 n1) {Q : sw_I → sw_J → Prop} : ∀ (n : Nat) (x2 : Int32) (I : sw_I) (J : sw_J), wl_X10_puts_2 b0 n0 b1 n1  Q n x2 I J → AW l D cy sz RX10 cX10_puts 3 none false rm_X10_puts 0 0 (sw_qv G Q) 0 0 G I J 2 [(0, .ref (sz + b0)), (1, .ref (sz + b1)), (2, .int x2)] [] := by
  intro n
  induction n with
  | zero => intro x2 I J h; exact False.elim h
  | succ n ih => intro x2 I J h; exact tb_X10_puts_2 hG hb0 hb1 ih h
set_option maxRecDepth 20000 in
theorem t_X10_puts {l : Launch} {D : va_G} {cy : Nat → ClassId} {sz : Nat} {G : sw_G} (hG : True) {b0 : Nat} {n0 : Nat} {b1 : Nat} {n1 : Nat} (hb0 : sw_ia G b0 n0) (hb1 : sw_ia G b1 n1) {Q : sw_I → sw_J → Prop}  {I : sw_I} {J : sw_J} (h : wp_X10_puts b0 n0 b1 n1 I J Q) : AW l D cy sz RX10 cX10_puts 3 none false rm_X10_puts 0 0 (sw_qv G Q) 0 0 G I J 0 [(0, .ref (sz + b0)), (1, .ref (sz + b1))] [] := by
  unfold wp_X10_puts at h
  refine aw_iconst (v := 0) dX10_puts_0 (by decide) ?_
  refine aw_istore_n (lv' := [(2, .int 0), (0, .ref (sz + b0)), (1, .ref (sz + b1))]) dX10_puts_1 rfl (by decide) rfl ?_
  refine aw_sub [1, 2, 0] rfl ?_
  obtain ⟨n_1, h⟩ := h
  exact tl_X10_puts_2 hG hb0 hb1  n_1 0 I J h
theorem M_X10_puts {l : Launch} {D : va_G} {cy : Nat → ClassId} {sz : Nat} {G : sw_G} (hG : True) {b0 : Nat} {n0 : Nat} {b1 : Nat} {n1 : Nat} (hb0 : sw_ia G b0 n0) (hb1 : sw_ia G b1 n1) {Q : sw_I → sw_J → Prop}  {I : sw_I} {J : sw_J} (h : wp_X10_puts b0 n0 b1 n1 I J Q) : Met l yX10_puts (Cond.code yX10_puts cX10_puts 3 none :: sw_T) rm_X10_puts (sw_Pc D cy sz [.ref (sz + b0), .ref (sz + b1)] G I J) (sw_Q D cy sz (sw_qv G Q)) 0 0 (fun q => sz ≤ q) :=
  sw_met (by decide) (fun q => by cases q) (Nat.le_of_ble_eq_true rfl) rfl (t_X10_puts hG hb0 hb1 h)
-- X10_packed
abbrev rm_X10_packed : Room := { frames := 0, cells := 0, slots := 0, locals := 0 }
def wb_X10_packed_5 (b1 : Nat) (n1 : Nat) (K5 : Int64 → Int32 → sw_I → sw_J → Prop) (Q : Int64 → sw_I → sw_J → Prop) (w2 : Int64) (x4 : Int32) (I : sw_I) (J : sw_J) : Prop :=
  sw_if (x4 < (I 131 4)) (vp_in x4 n1 ∧ ∀ y_5 : Int64, y_5 = (w2 <<< ((4 : Int32).toInt64 &&& 63)) ||| ((I b1 x4.toNatClampNeg).toInt64) → ∀ y_7 : Int32, y_7 = x4 + 1 → K5 y_5 y_7 I J) (vp_in (31 : Int32) n1 ∧ vp_in (32 : Int32) n1 ∧ Q ((((w2 <<< ((4 : Int32).toInt64 &&& 63)) ||| ((I b1 (31 : Int32).toNatClampNeg).toInt64)) <<< ((3 : Int32).toInt64 &&& 63)) ||| (((I b1 (32 : Int32).toNatClampNeg) - (I b1 (32 : Int32).toNatClampNeg) / (7 : Int32) * (7 : Int32)).toInt64)) I J)
def wl_X10_packed_5 (b1 : Nat) (n1 : Nat)  (Q : Int64 → sw_I → sw_J → Prop) : Nat → Int64 → Int32 → sw_I → sw_J → Prop
  | 0 => fun _ _ _ _ => False
  | n + 1 => fun w2 x4 I J => wb_X10_packed_5 b1 n1 (wl_X10_packed_5 b1 n1  Q n) Q w2 x4 I J
def wp_X10_packed (b1 : Nat) (n1 : Nat) (I : sw_I) (J : sw_J) (Q : Int64 → sw_I → sw_J → Prop) : Prop :=
  ∃ n_1 : Nat, wl_X10_packed_5 b1 n1  Q n_1 0 0 I J
set_option maxRecDepth 20000 in
theorem tb_X10_packed_5 {l : Launch} {D : va_G} {cy : Nat → ClassId} {sz : Nat} {G : sw_G} (hG : sw_lay G) {b1 : Nat} {n1 : Nat} (hb1 : sw_ia G b1 n1) {Q : Int64 → sw_I → sw_J → Prop} {K5 : Int64 → Int32 → sw_I → sw_J → Prop} (hK5 : ∀ (w2 : Int64) (x4 : Int32) (I : sw_I) (J : sw_J), K5 w2 x4 I J → AW l D cy sz RX10 cX10_packed 5 (some .long) false rm_X10_packed 0 0 (sw_ql G Q) 0 0 G I J 5 [(0, .ref (sz + 131)), (1, .ref (sz + b1)), (2, .long w2), (4, .int x4)] []) {w2 : Int64} {x4 : Int32} {I : sw_I} {J : sw_J} (h : wb_X10_packed_5 b1 n1 K5 Q w2 x4 I J) : AW l D cy sz RX10 cX10_packed 5 (some .long) false rm_X10_packed 0 0 (sw_ql G Q) 0 0 G I J 5 [(0, .ref (sz + 131)), (1, .ref (sz + b1)), (2, .long w2), (4, .int x4)] [] := by
  unfold wb_X10_packed_5 at h
  refine aw_iload 3 dX10_packed_5 rfl ?_
  refine aw_aload_n 0 dX10_packed_7 rfl rfl ?_
  refine gf_X10_4 fl_X10_29 (lk131 hG) dX10_packed_8 ?_
  refine aw_jge 30 dX10_packed_11 (by decide) (fun c_1 => ?_) (fun c_1 => ?_)
  · have h := sw_if.f h c_1
    refine aw_lload_n 2 dX10_packed_30 rfl rfl ?_
    refine aw_iconst (v := 4) dX10_packed_31 (by decide) ?_
    refine aw_lshl dX10_packed_32 ?_
    refine aw_aload_n 1 dX10_packed_33 rfl rfl ?_
    refine aw_bipush (v := 31) dX10_packed_34 (by decide) ?_
    obtain ⟨hi_2, h⟩ := h
    refine aw_ild dX10_packed_36 hb1.1 hb1.2 hi_2 ?_
    refine aw_i2l dX10_packed_37 ?_
    refine aw_lor dX10_packed_38 ?_
    refine aw_iconst (v := 3) dX10_packed_39 (by decide) ?_
    refine aw_lshl dX10_packed_40 ?_
    refine aw_aload_n 1 dX10_packed_41 rfl rfl ?_
    refine aw_bipush (v := 32) dX10_packed_42 (by decide) ?_
    obtain ⟨hi_3, h⟩ := h
    refine aw_ild dX10_packed_44 hb1.1 hb1.2 hi_3 ?_
    refine aw_bipush (v := 7) dX10_packed_45 (by decide) ?_
    refine aw_irem dX10_packed_47 (by decide) ?_
    refine aw_i2l dX10_packed_48 ?_
    refine aw_lor dX10_packed_49 ?_
    exact aw_lret rfl dX10_packed_50 ⟨rfl, _, rfl, h⟩
  · have h := sw_if.t h c_1
    refine aw_lload_n 2 dX10_packed_14 rfl rfl ?_
    refine aw_iconst (v := 4) dX10_packed_15 (by decide) ?_
    refine aw_lshl dX10_packed_16 ?_
    refine aw_aload_n 1 dX10_packed_17 rfl rfl ?_
    refine aw_iload 3 dX10_packed_18 rfl ?_
    obtain ⟨hi_4, h⟩ := h
    refine aw_ild dX10_packed_20 hb1.1 hb1.2 hi_4 ?_
    refine aw_i2l dX10_packed_21 ?_
    refine aw_lor dX10_packed_22 ?_
    refine aw_topl (fun y_5 e_6 => ?_)
    have h := h y_5 e_6
    refine aw_lstore_n (lv' := [(2, .long y_5), (0, .ref (sz + 131)), (1, .ref (sz + b1)), (4, .int x4)]) dX10_packed_23 rfl (by decide) rfl ?_
    obtain ⟨y_7, e_8⟩ : ∃ q : Int32, q = x4 + 1 := ⟨_, rfl⟩
    have h := h y_7 e_8
    refine aw_iinc (lv' := [(4, .int y_7), (2, .long y_5), (0, .ref (sz + 131)), (1, .ref (sz + b1))]) 3 dX10_packed_24 rfl (by rw [e_8]; rfl) (by decide) rfl ?_
    refine aw_goto 5 dX10_packed_27 (by decide) ?_
    refine aw_sub [2, 3, 1, 0] rfl ?_
    exact hK5 y_5 y_7 I J h
set_option maxRecDepth 20000 in
theorem tl_X10_packed_5 {l : Launch} {D : va_G} {cy : Nat → ClassId} {sz : Nat} {G : sw_G} (hG : sw_lay G) {b1 : Nat} {n1 : Nat} (hb1 : sw_ia G b1 n1) {Q : Int64 → sw_I → sw_J → Prop} : ∀ (n : Nat) (w2 : Int64) (x4 : Int32) (I : sw_I) (J : sw_J), wl_X10_packed_5 b1 n1  Q n w2 x4 I J → AW l D cy sz RX10 cX10_packed 5 (some .long) false rm_X10_packed 0 0 (sw_ql G Q) 0 0 G I J 5 [(0, .ref (sz + 131)), (1, .ref (sz + b1)), (2, .long w2), (4, .int x4)] [] := by
  intro n
  induction n with
  | zero => intro w2 x4 I J h; exact False.elim h
  | succ n ih => intro w2 x4 I J h; exact tb_X10_packed_5 hG hb1 ih h
set_option maxRecDepth 20000 in
theorem t_X10_packed {l : Launch} {D : va_G} {cy : Nat → ClassId} {sz : Nat} {G : sw_G} (hG : sw_lay G) {b1 : Nat} {n1 : Nat} (hb1 : sw_ia G b1 n1) {Q : Int64 → sw_I → sw_J → Prop}  {I : sw_I} {J : sw_J} (h : wp_X10_packed b1 n1 I J Q) : AW l D cy sz RX10 cX10_packed 5 (some .long) false rm_X10_packed 0 0 (sw_ql G Q) 0 0 G I J 0 [(0, .ref (sz + 131)), (1, .ref (sz + b1))] [] := by
  unfold wp_X10_packed at h
  refine aw_lconst (v := 0) dX10_packed_0 (by decide) ?_
  refine aw_lstore_n (lv' := [(2, .long 0), (0, .ref (sz + 131)), (1, .ref (sz + b1))]) dX10_packed_1 rfl (by decide) rfl ?_
  refine aw_iconst (v := 0) dX10_packed_2 (by decide) ?_
  refine aw_istore (lv' := [(4, .int 0), (2, .long 0), (0, .ref (sz + 131)), (1, .ref (sz + b1))]) dX10_packed_3 (by decide) rfl ?_
  refine aw_sub [2, 3, 1, 0] rfl ?_
  obtain ⟨n_1, h⟩ := h
  exact tl_X10_packed_5 hG hb1  n_1 0 0 I J h
theorem M_X10_packed {l : Launch} {D : va_G} {cy : Nat → ClassId} {sz : Nat} {G : sw_G} (hG : sw_lay G) {b1 : Nat} {n1 : Nat} (hb1 : sw_ia G b1 n1) {Q : Int64 → sw_I → sw_J → Prop}  {I : sw_I} {J : sw_J} (h : wp_X10_packed b1 n1 I J Q) : Met l yX10_packed (Cond.code yX10_packed cX10_packed 5 (some .long) :: sw_T) rm_X10_packed (sw_Pc D cy sz [.ref (sz + 131), .ref (sz + b1)] G I J) (sw_Q D cy sz (sw_ql G Q)) 0 0 (fun q => sz ≤ q) :=
  sw_met (by decide) (fun q => by cases q) (Nat.le_of_ble_eq_true rfl) rfl (t_X10_packed hG hb1 h)
-- X10_unpacks
abbrev rm_X10_unpacks : Room := { frames := 0, cells := 0, slots := 0, locals := 0 }
def wb_X10_unpacks_48  (K48 : Int64 → Int32 → sw_I → sw_J → Prop) (Q : sw_I → sw_J → Prop) (w2 : Int64) (x4 : Int32) (I : sw_I) (J : sw_J) : Prop :=
  sw_if (x4 < 0) (∀ I_3 : sw_I, I_3 = sw_up I 136 (30 : Int32).toNatClampNeg (0 : Int32) → Q I_3 J) (vp_in x4 33 ∧ ∀ I_6 : sw_I, I_6 = sw_up I 136 x4.toNatClampNeg ((w2 &&& (15 : Int64)).toInt32) → ∀ y_8 : Int64, y_8 = w2 >>> ((4 : Int32).toInt64 &&& 63) → ∀ y_10 : Int32, y_10 = x4 + (-1) → K48 y_8 y_10 I_6 J)
def wl_X10_unpacks_48   (Q : sw_I → sw_J → Prop) : Nat → Int64 → Int32 → sw_I → sw_J → Prop
  | 0 => fun _ _ _ _ => False
  | n + 1 => fun w2 x4 I J => wb_X10_unpacks_48  (wl_X10_unpacks_48   Q n) Q w2 x4 I J
def wp_X10_unpacks (x1 : Int32) (I : sw_I) (J : sw_J) (Q : sw_I → sw_J → Prop) : Prop :=
  vp_in x1 3000 ∧ ∀ y_2 : Int64, y_2 = (J 152 x1.toNatClampNeg) → ∀ I_5 : sw_I, I_5 = sw_up I 136 (32 : Int32).toNatClampNeg ((y_2 &&& (7 : Int64)).toInt32) → ∀ I_8 : sw_I, I_8 = sw_up I_5 136 (31 : Int32).toNatClampNeg (((y_2 >>> ((3 : Int32).toInt64 &&& 63)) &&& (15 : Int64)).toInt32) → ∀ y_10 : Int64, y_10 = y_2 >>> ((7 : Int32).toInt64 &&& 63) → ∀ y_12 : Int32, y_12 = (I_8 131 4) - (1 : Int32) → ∃ n_14 : Nat, wl_X10_unpacks_48   Q n_14 y_10 y_12 I_8 J
set_option maxRecDepth 20000 in
theorem tb_X10_unpacks_48 {l : Launch} {D : va_G} {cy : Nat → ClassId} {sz : Nat} {G : sw_G} (hG : sw_lay G)   {Q : sw_I → sw_J → Prop} {K48 : Int64 → Int32 → sw_I → sw_J → Prop} (hK48 : ∀ (w2 : Int64) (x4 : Int32) (I : sw_I) (J : sw_J), K48 w2 x4 I J → AW l D cy sz RX10 cX10_unpacks 5 none false rm_X10_unpacks 0 0 (sw_qv G Q) 0 0 G I J 48 [(0, .ref (sz + 131)), (2, .long w2), (4, .int x4)] []) {w2 : Int64} {x4 : Int32} {I : sw_I} {J : sw_J} (h : wb_X10_unpacks_48  K48 Q w2 x4 I J) : AW l D cy sz RX10 cX10_unpacks 5 none false rm_X10_unpacks 0 0 (sw_qv G Q) 0 0 G I J 48 [(0, .ref (sz + 131)), (2, .long w2), (4, .int x4)] [] := by
  unfold wb_X10_unpacks_48 at h
  refine aw_iload 2 dX10_unpacks_48 rfl ?_
  refine aw_zlt 76 dX10_unpacks_50 (by decide) (fun c_1 => ?_) (fun c_1 => ?_)
  · have h := sw_if.t h c_1
    refine aw_aload_n 0 dX10_unpacks_76 rfl rfl ?_
    refine gf_X10_10 fl_X10_313 (lk131 hG) (lr131_10 hG) dX10_unpacks_77 ?_
    refine aw_bipush (v := 30) dX10_unpacks_80 (by decide) ?_
    refine aw_iconst (v := 0) dX10_unpacks_82 (by decide) ?_
    refine aw_ist dX10_unpacks_83 (lk136 hG) (ln136 hG) (by unfold vp_in; decide) (aw_nameI fun I_3 e_4 => ?_)
    have h := h I_3 e_4
    exact aw_vret rfl dX10_unpacks_84 ⟨rfl, rfl, h⟩
  · have h := sw_if.f h c_1
    refine aw_aload_n 0 dX10_unpacks_53 rfl rfl ?_
    refine gf_X10_10 fl_X10_313 (lk131 hG) (lr131_10 hG) dX10_unpacks_54 ?_
    refine aw_iload 2 dX10_unpacks_57 rfl ?_
    refine aw_lload_n 1 dX10_unpacks_59 rfl rfl ?_
    refine aw_ldc2 (v := 15) dX10_unpacks_60 k_X10_338 ?_
    refine aw_land dX10_unpacks_63 ?_
    refine aw_l2i dX10_unpacks_64 ?_
    obtain ⟨hi_5, h⟩ := h
    refine aw_ist dX10_unpacks_65 (lk136 hG) (ln136 hG) hi_5 (aw_nameI fun I_6 e_7 => ?_)
    have h := h I_6 e_7
    refine aw_lload_n 1 dX10_unpacks_66 rfl rfl ?_
    refine aw_iconst (v := 4) dX10_unpacks_67 (by decide) ?_
    refine aw_lshr dX10_unpacks_68 ?_
    refine aw_topl (fun y_8 e_9 => ?_)
    have h := h y_8 e_9
    refine aw_lstore_n (lv' := [(2, .long y_8), (0, .ref (sz + 131)), (4, .int x4)]) dX10_unpacks_69 rfl (by decide) rfl ?_
    obtain ⟨y_10, e_11⟩ : ∃ q : Int32, q = x4 + (-1) := ⟨_, rfl⟩
    have h := h y_10 e_11
    refine aw_iinc (lv' := [(4, .int y_10), (2, .long y_8), (0, .ref (sz + 131))]) 2 dX10_unpacks_70 rfl (by rw [e_11]; rfl) (by decide) rfl ?_
    refine aw_goto 48 dX10_unpacks_73 (by decide) ?_
    refine aw_sub [2, 1, 0] rfl ?_
    exact hK48 y_8 y_10 I_6 J h
set_option maxRecDepth 20000 in
theorem tl_X10_unpacks_48 {l : Launch} {D : va_G} {cy : Nat → ClassId} {sz : Nat} {G : sw_G} (hG : sw_lay G)   {Q : sw_I → sw_J → Prop} : ∀ (n : Nat) (w2 : Int64) (x4 : Int32) (I : sw_I) (J : sw_J), wl_X10_unpacks_48   Q n w2 x4 I J → AW l D cy sz RX10 cX10_unpacks 5 none false rm_X10_unpacks 0 0 (sw_qv G Q) 0 0 G I J 48 [(0, .ref (sz + 131)), (2, .long w2), (4, .int x4)] [] := by
  intro n
  induction n with
  | zero => intro w2 x4 I J h; exact False.elim h
  | succ n ih => intro w2 x4 I J h; exact tb_X10_unpacks_48 hG  ih h
set_option maxRecDepth 20000 in
theorem t_X10_unpacks {l : Launch} {D : va_G} {cy : Nat → ClassId} {sz : Nat} {G : sw_G} (hG : sw_lay G)   {Q : sw_I → sw_J → Prop} {x1 : Int32} {I : sw_I} {J : sw_J} (h : wp_X10_unpacks x1 I J Q) : AW l D cy sz RX10 cX10_unpacks 5 none false rm_X10_unpacks 0 0 (sw_qv G Q) 0 0 G I J 0 [(0, .ref (sz + 131)), (1, .int x1)] [] := by
  unfold wp_X10_unpacks at h
  refine aw_aload_n 0 dX10_unpacks_0 rfl rfl ?_
  refine gf_X10_43 fl_X10_333 (lk131 hG) (lr131_43 hG) dX10_unpacks_1 ?_
  refine aw_iload_n 1 dX10_unpacks_4 rfl rfl ?_
  obtain ⟨hi_1, h⟩ := h
  refine aw_lld dX10_unpacks_5 (lk152 hG) (ln152 hG) hi_1 ?_
  refine aw_topl (fun y_2 e_3 => ?_)
  have h := h y_2 e_3
  refine aw_lstore_n (lv' := [(2, .long y_2), (0, .ref (sz + 131)), (1, .int x1)]) dX10_unpacks_6 rfl (by decide) rfl ?_
  refine aw_aload_n 1 dX10_unpacks_7 rfl rfl ?_
  refine gf_X10_10 fl_X10_313 (lk131 hG) (lr131_10 hG) dX10_unpacks_8 ?_
  refine aw_bipush (v := 32) dX10_unpacks_11 (by decide) ?_
  refine aw_lload_n 0 dX10_unpacks_13 rfl rfl ?_
  refine aw_ldc2 (v := 7) dX10_unpacks_14 k_X10_336 ?_
  refine aw_land dX10_unpacks_17 ?_
  refine aw_l2i dX10_unpacks_18 ?_
  refine aw_ist dX10_unpacks_19 (lk136 hG) (ln136 hG) (by unfold vp_in; decide) (aw_nameI fun I_5 e_6 => ?_)
  have h := h I_5 e_6
  refine aw_aload_n 1 dX10_unpacks_20 rfl rfl ?_
  refine gf_X10_10 fl_X10_313 (lk131 hG) (lr131_10 hG) dX10_unpacks_21 ?_
  refine aw_bipush (v := 31) dX10_unpacks_24 (by decide) ?_
  refine aw_lload_n 0 dX10_unpacks_26 rfl rfl ?_
  refine aw_iconst (v := 3) dX10_unpacks_27 (by decide) ?_
  refine aw_lshr dX10_unpacks_28 ?_
  refine aw_ldc2 (v := 15) dX10_unpacks_29 k_X10_338 ?_
  refine aw_land dX10_unpacks_32 ?_
  refine aw_l2i dX10_unpacks_33 ?_
  refine aw_ist dX10_unpacks_34 (lk136 hG) (ln136 hG) (by unfold vp_in; decide) (aw_nameI fun I_8 e_9 => ?_)
  have h := h I_8 e_9
  refine aw_lload_n 0 dX10_unpacks_35 rfl rfl ?_
  refine aw_bipush (v := 7) dX10_unpacks_36 (by decide) ?_
  refine aw_lshr dX10_unpacks_38 ?_
  refine aw_topl (fun y_10 e_11 => ?_)
  have h := h y_10 e_11
  refine aw_lstore_n (lv' := [(2, .long y_10), (0, .ref (sz + 131)), (1, .int x1)]) dX10_unpacks_39 rfl (by decide) rfl ?_
  refine aw_aload_n 1 dX10_unpacks_40 rfl rfl ?_
  refine gf_X10_4 fl_X10_29 (lk131 hG) dX10_unpacks_41 ?_
  refine aw_iconst (v := 1) dX10_unpacks_44 (by decide) ?_
  refine aw_isub dX10_unpacks_45 ?_
  refine aw_topi (fun y_12 e_13 => ?_)
  have h := h y_12 e_13
  refine aw_istore (lv' := [(4, .int y_12), (2, .long y_10), (0, .ref (sz + 131)), (1, .int x1)]) dX10_unpacks_46 (by decide) rfl ?_
  refine aw_sub [2, 1, 0] rfl ?_
  obtain ⟨n_14, h⟩ := h
  exact tl_X10_unpacks_48 hG   n_14 y_10 y_12 I_8 J h
theorem M_X10_unpacks {l : Launch} {D : va_G} {cy : Nat → ClassId} {sz : Nat} {G : sw_G} (hG : sw_lay G)   {Q : sw_I → sw_J → Prop} {x1 : Int32} {I : sw_I} {J : sw_J} (h : wp_X10_unpacks x1 I J Q) : Met l yX10_unpacks (Cond.code yX10_unpacks cX10_unpacks 5 none :: sw_T) rm_X10_unpacks (sw_Pc D cy sz [.ref (sz + 131), .int x1] G I J) (sw_Q D cy sz (sw_qv G Q)) 0 0 (fun q => sz ≤ q) :=
  sw_met (by decide) (fun q => by cases q) (Nat.le_of_ble_eq_true rfl) rfl (t_X10_unpacks hG  h)
-- X10_slotOf
abbrev rm_X10_slotOf : Room := { frames := 0, cells := 0, slots := 0, locals := 0 }
def wb_X10_slotOf_20  (K20 : Int64 → Int32 → sw_I → sw_J → Prop) (Q : Int32 → sw_I → sw_J → Prop) (w1 : Int64) (x3 : Int32) (I : sw_I) (J : sw_J) : Prop :=
  vp_in x3 16384 ∧ sw_if ((I 156 x3.toNatClampNeg) < 0) (Q x3 I J) (vp_in x3 16384 ∧ vp_in (I 156 x3.toNatClampNeg) 3000 ∧ sw_if ((lg_cmp (J 152 (I 156 x3.toNatClampNeg).toNatClampNeg) w1) = 0) (Q x3 I J) (∀ y_6 : Int32, y_6 = (x3 + (1 : Int32)) - (x3 + (1 : Int32)) / (16384 : Int32) * (16384 : Int32) → K20 w1 y_6 I J))
def wl_X10_slotOf_20   (Q : Int32 → sw_I → sw_J → Prop) : Nat → Int64 → Int32 → sw_I → sw_J → Prop
  | 0 => fun _ _ _ _ => False
  | n + 1 => fun w1 x3 I J => wb_X10_slotOf_20  (wl_X10_slotOf_20   Q n) Q w1 x3 I J
def wp_X10_slotOf (w1 : Int64) (I : sw_I) (J : sw_J) (Q : Int32 → sw_I → sw_J → Prop) : Prop :=
  ∀ y_1 : Int32, y_1 = ((((w1 ^^^ ((w1.toUInt64 >>> ((23 : Int32).toInt64.toUInt64 &&& Int64.toUInt64 63)).toInt64)) * (31 : Int64)) &&& (9223372036854775807 : Int64)) - (((w1 ^^^ ((w1.toUInt64 >>> ((23 : Int32).toInt64.toUInt64 &&& Int64.toUInt64 63)).toInt64)) * (31 : Int64)) &&& (9223372036854775807 : Int64)) / (16384 : Int64) * (16384 : Int64)).toInt32 → ∃ n_3 : Nat, wl_X10_slotOf_20   Q n_3 w1 y_1 I J
set_option maxRecDepth 20000 in
theorem tb_X10_slotOf_20 {l : Launch} {D : va_G} {cy : Nat → ClassId} {sz : Nat} {G : sw_G} (hG : sw_lay G)   {Q : Int32 → sw_I → sw_J → Prop} {K20 : Int64 → Int32 → sw_I → sw_J → Prop} (hK20 : ∀ (w1 : Int64) (x3 : Int32) (I : sw_I) (J : sw_J), K20 w1 x3 I J → AW l D cy sz RX10 cX10_slotOf 4 (some .int) false rm_X10_slotOf 0 0 (sw_qi G Q) 0 0 G I J 20 [(0, .ref (sz + 131)), (1, .long w1), (3, .int x3)] []) {w1 : Int64} {x3 : Int32} {I : sw_I} {J : sw_J} (h : wb_X10_slotOf_20  K20 Q w1 x3 I J) : AW l D cy sz RX10 cX10_slotOf 4 (some .int) false rm_X10_slotOf 0 0 (sw_qi G Q) 0 0 G I J 20 [(0, .ref (sz + 131)), (1, .long w1), (3, .int x3)] [] := by
  unfold wb_X10_slotOf_20 at h
  refine aw_aload_n 0 dX10_slotOf_20 rfl rfl ?_
  refine gf_X10_47 fl_X10_348 (lk131 hG) (lr131_47 hG) dX10_slotOf_21 ?_
  refine aw_iload_n 2 dX10_slotOf_24 rfl rfl ?_
  obtain ⟨hi_1, h⟩ := h
  refine aw_ild dX10_slotOf_25 (lk156 hG) (ln156 hG) hi_1 ?_
  refine aw_zlt 56 dX10_slotOf_26 (by decide) (fun c_2 => ?_) (fun c_2 => ?_)
  · have h := sw_if.t h c_2
    refine aw_iload_n 2 dX10_slotOf_56 rfl rfl ?_
    exact aw_iret rfl dX10_slotOf_57 ⟨rfl, _, rfl, h⟩
  · have h := sw_if.f h c_2
    refine aw_aload_n 0 dX10_slotOf_29 rfl rfl ?_
    refine gf_X10_43 fl_X10_333 (lk131 hG) (lr131_43 hG) dX10_slotOf_30 ?_
    refine aw_aload_n 0 dX10_slotOf_33 rfl rfl ?_
    refine gf_X10_47 fl_X10_348 (lk131 hG) (lr131_47 hG) dX10_slotOf_34 ?_
    refine aw_iload_n 2 dX10_slotOf_37 rfl rfl ?_
    obtain ⟨hi_3, h⟩ := h
    refine aw_ild dX10_slotOf_38 (lk156 hG) (ln156 hG) hi_3 ?_
    obtain ⟨hi_4, h⟩ := h
    refine aw_lld dX10_slotOf_39 (lk152 hG) (ln152 hG) hi_4 ?_
    refine aw_lload_n 1 dX10_slotOf_40 rfl rfl ?_
    refine aw_lcmp dX10_slotOf_41 ?_
    refine aw_zeq 56 dX10_slotOf_42 (by decide) (fun c_5 => ?_) (fun c_5 => ?_)
    · have h := sw_if.t h c_5
      refine aw_iload_n 2 dX10_slotOf_56 rfl rfl ?_
      exact aw_iret rfl dX10_slotOf_57 ⟨rfl, _, rfl, h⟩
    · have h := sw_if.f h c_5
      refine aw_iload_n 2 dX10_slotOf_45 rfl rfl ?_
      refine aw_iconst (v := 1) dX10_slotOf_46 (by decide) ?_
      refine aw_iadd dX10_slotOf_47 ?_
      refine aw_sipush (v := 16384) dX10_slotOf_48 (by decide) ?_
      refine aw_irem dX10_slotOf_51 (by decide) ?_
      refine aw_topi (fun y_6 e_7 => ?_)
      have h := h y_6 e_7
      refine aw_istore_n (lv' := [(3, .int y_6), (0, .ref (sz + 131)), (1, .long w1)]) dX10_slotOf_52 rfl (by decide) rfl ?_
      refine aw_goto 20 dX10_slotOf_53 (by decide) ?_
      refine aw_sub [1, 2, 0] rfl ?_
      exact hK20 w1 y_6 I J h
set_option maxRecDepth 20000 in
theorem tl_X10_slotOf_20 {l : Launch} {D : va_G} {cy : Nat → ClassId} {sz : Nat} {G : sw_G} (hG : sw_lay G)   {Q : Int32 → sw_I → sw_J → Prop} : ∀ (n : Nat) (w1 : Int64) (x3 : Int32) (I : sw_I) (J : sw_J), wl_X10_slotOf_20   Q n w1 x3 I J → AW l D cy sz RX10 cX10_slotOf 4 (some .int) false rm_X10_slotOf 0 0 (sw_qi G Q) 0 0 G I J 20 [(0, .ref (sz + 131)), (1, .long w1), (3, .int x3)] [] := by
  intro n
  induction n with
  | zero => intro w1 x3 I J h; exact False.elim h
  | succ n ih => intro w1 x3 I J h; exact tb_X10_slotOf_20 hG  ih h
set_option maxRecDepth 20000 in
theorem t_X10_slotOf {l : Launch} {D : va_G} {cy : Nat → ClassId} {sz : Nat} {G : sw_G} (hG : sw_lay G)   {Q : Int32 → sw_I → sw_J → Prop} {w1 : Int64} {I : sw_I} {J : sw_J} (h : wp_X10_slotOf w1 I J Q) : AW l D cy sz RX10 cX10_slotOf 4 (some .int) false rm_X10_slotOf 0 0 (sw_qi G Q) 0 0 G I J 0 [(0, .ref (sz + 131)), (1, .long w1)] [] := by
  unfold wp_X10_slotOf at h
  refine aw_lload_n 1 dX10_slotOf_0 rfl rfl ?_
  refine aw_lload_n 1 dX10_slotOf_1 rfl rfl ?_
  refine aw_bipush (v := 23) dX10_slotOf_2 (by decide) ?_
  refine aw_lushr dX10_slotOf_4 ?_
  refine aw_lxor dX10_slotOf_5 ?_
  refine aw_ldc2 (v := 31) dX10_slotOf_6 k_X10_340 ?_
  refine aw_lmul dX10_slotOf_9 ?_
  refine aw_ldc2 (v := 9223372036854775807) dX10_slotOf_10 k_X10_344 ?_
  refine aw_land dX10_slotOf_13 ?_
  refine aw_ldc2 (v := 16384) dX10_slotOf_14 k_X10_346 ?_
  refine aw_lrem dX10_slotOf_17 (by decide) ?_
  refine aw_l2i dX10_slotOf_18 ?_
  refine aw_topi (fun y_1 e_2 => ?_)
  have h := h y_1 e_2
  refine aw_istore_n (lv' := [(3, .int y_1), (0, .ref (sz + 131)), (1, .long w1)]) dX10_slotOf_19 rfl (by decide) rfl ?_
  refine aw_sub [1, 2, 0] rfl ?_
  obtain ⟨n_3, h⟩ := h
  exact tl_X10_slotOf_20 hG   n_3 w1 y_1 I J h
theorem M_X10_slotOf {l : Launch} {D : va_G} {cy : Nat → ClassId} {sz : Nat} {G : sw_G} (hG : sw_lay G)   {Q : Int32 → sw_I → sw_J → Prop} {w1 : Int64} {I : sw_I} {J : sw_J} (h : wp_X10_slotOf w1 I J Q) : Met l yX10_slotOf (Cond.code yX10_slotOf cX10_slotOf 4 (some .int) :: sw_T) rm_X10_slotOf (sw_Pc D cy sz [.ref (sz + 131), .long w1] G I J) (sw_Q D cy sz (sw_qi G Q)) 0 0 (fun q => sz ≤ q) :=
  sw_met (by decide) (fun q => by cases q) (Nat.le_of_ble_eq_true rfl) rfl (t_X10_slotOf hG  h)
-- X10_finds
abbrev rm_X10_finds : Room := { frames := 1, cells := 0, slots := 0, locals := 24 }
def wB_X10_finds_97   (Q : sw_I → sw_J → Prop) (x5 : Int32) (s1 : Int32) (s2 : Int32) (I : sw_I) (J : sw_J) : Prop :=
  vp_in s1 3000 ∧ ∀ I_2 : sw_I, I_2 = sw_up I 155 s1.toNatClampNeg s2 → vp_in x5 16384 ∧ ∀ I_5 : sw_I, I_5 = sw_up I_2 156 x5.toNatClampNeg (I_2 131 48) → ∀ I_7 : sw_I, I_7 = sw_up I_5 131 48 ((I_5 131 48) + (1 : Int32)) → Q I_7 J
def wp_X10_finds (x1 : Int32) (x2 : Int32) (I : sw_I) (J : sw_J) (Q : sw_I → sw_J → Prop) : Prop :=
  wp_X10_packed 136 33 I J (fun r_1 I_2 J_3 => wp_X10_slotOf r_1 I_2 J_3 (fun r_4 I_5 J_6 => vp_in r_4 16384 ∧ sw_if ((I_5 156 r_4.toNatClampNeg) < 0) (sw_if ((I_5 131 48) = (3000 : Int32)) (∀ I_21 : sw_I, I_21 = sw_up I_5 131 49 (1 : Int32) → Q I_21 J_6) (vp_in (I_5 131 48) 3000 ∧ ∀ J_11 : sw_J, J_11 = sw_up J_6 152 (I_5 131 48).toNatClampNeg r_1 → vp_in (I_5 131 48) 3000 ∧ ∀ I_14 : sw_I, I_14 = sw_up I_5 153 (I_5 131 48).toNatClampNeg x1 → vp_in (I_14 131 48) 3000 ∧ ∀ I_17 : sw_I, I_17 = sw_up I_14 154 (I_14 131 48).toNatClampNeg x2 → sw_if (x1 < 0) (wB_X10_finds_97   Q r_4 (I_17 131 48) 0 I_17 J_11) (vp_in x1 3000 ∧ wB_X10_finds_97   Q r_4 (I_17 131 48) ((I_17 155 x1.toNatClampNeg) + (1 : Int32)) I_17 J_11))) (Q I_5 J_6)))
set_option maxRecDepth 20000 in
theorem t_X10_finds_97 {l : Launch} {D : va_G} {cy : Nat → ClassId} {sz : Nat} {G : sw_G} (hG : sw_lay G)   {Q : sw_I → sw_J → Prop} {x5 : Int32} {s1 : Int32} {s2 : Int32} {I : sw_I} {J : sw_J} (h : wB_X10_finds_97   Q x5 s1 s2 I J) : AW l D cy sz RX10 cX10_finds 6 none false rm_X10_finds 0 0 (sw_qv G Q) 0 0 G I J 97 [(0, .ref (sz + 131)), (5, .int x5)] [.int s2, .int s1, .ref (sz + 155)] := by
  unfold wB_X10_finds_97 at h
  obtain ⟨hi_1, h⟩ := h
  refine aw_ist dX10_finds_97 (lk155 hG) (ln155 hG) hi_1 (aw_nameI fun I_2 e_3 => ?_)
  have h := h I_2 e_3
  refine aw_aload_n 0 dX10_finds_98 rfl rfl ?_
  refine gf_X10_47 fl_X10_348 (lk131 hG) (lr131_47 hG) dX10_finds_99 ?_
  refine aw_iload 1 dX10_finds_102 rfl ?_
  refine aw_aload_n 0 dX10_finds_104 rfl rfl ?_
  refine gf_X10_48 fl_X10_359 (lk131 hG) dX10_finds_105 ?_
  obtain ⟨hi_4, h⟩ := h
  refine aw_ist dX10_finds_108 (lk156 hG) (ln156 hG) hi_4 (aw_nameI fun I_5 e_6 => ?_)
  have h := h I_5 e_6
  refine aw_aload_n 0 dX10_finds_109 rfl rfl ?_
  refine aw_dup dX10_finds_110 rfl ?_
  refine gf_X10_48 fl_X10_359 (lk131 hG) dX10_finds_111 ?_
  refine aw_iconst (v := 1) dX10_finds_114 (by decide) ?_
  refine aw_iadd dX10_finds_115 ?_
  refine pf_X10_48 fl_X10_359 (lk131 hG) dX10_finds_116 (aw_nameI fun I_7 e_8 => ?_)
  have h := h I_7 e_8
  exact aw_vret rfl dX10_finds_119 ⟨rfl, rfl, h⟩
set_option maxRecDepth 20000 in
theorem t_X10_finds {l : Launch} {D : va_G} {cy : Nat → ClassId} {sz : Nat} {G : sw_G} (hG : sw_lay G)   {Q : sw_I → sw_J → Prop} {x1 : Int32} {x2 : Int32} {I : sw_I} {J : sw_J} (h : wp_X10_finds x1 x2 I J Q) : AW l D cy sz RX10 cX10_finds 6 none false rm_X10_finds 0 0 (sw_qv G Q) 0 0 G I J 0 [(0, .ref (sz + 131)), (1, .int x1), (2, .int x2)] [] := by
  unfold wp_X10_finds at h
  refine aw_aload_n 0 dX10_finds_0 rfl rfl ?_
  refine aw_aload_n 0 dX10_finds_1 rfl rfl ?_
  refine gf_X10_10 fl_X10_313 (lk131 hG) (lr131_10 hG) dX10_finds_2 ?_
  refine aw_callV wv_X10_packed (M_X10_packed hG ⟨(lk136 hG), (ln136 hG)⟩ h) ml_X10_351 rfl (by decide) (lk131 hG) rfl rfl (Nat.le_of_ble_eq_true rfl) ⟨rfl, rfl⟩ ⟨Nat.le_of_ble_eq_true rfl, Nat.le_of_ble_eq_true rfl⟩ ⟨Nat.le_refl _, Nat.le_refl _⟩ dX10_finds_5 (aw_kl fun r_1 I_2 J_3 h => ?_)
  refine aw_lstore_n (lv' := [(3, .long r_1), (0, .ref (sz + 131)), (1, .int x1), (2, .int x2)]) dX10_finds_8 rfl (by decide) rfl ?_
  refine aw_aload_n 1 dX10_finds_9 rfl rfl ?_
  refine aw_lload_n 0 dX10_finds_10 rfl rfl ?_
  refine aw_callV wv_X10_slotOf (M_X10_slotOf hG  h) ml_X10_355 rfl (by decide) (lk131 hG) rfl rfl (Nat.le_of_ble_eq_true rfl) ⟨rfl, rfl⟩ ⟨Nat.le_of_ble_eq_true rfl, Nat.le_of_ble_eq_true rfl⟩ ⟨Nat.le_refl _, Nat.le_refl _⟩ dX10_finds_11 (aw_ki fun r_4 I_5 J_6 h => ?_)
  refine aw_istore (lv' := [(5, .int r_4), (3, .long r_1), (0, .ref (sz + 131)), (1, .int x1), (2, .int x2)]) dX10_finds_14 (by decide) rfl ?_
  refine aw_aload_n 2 dX10_finds_16 rfl rfl ?_
  refine gf_X10_47 fl_X10_348 (lk131 hG) (lr131_47 hG) dX10_finds_17 ?_
  refine aw_iload 0 dX10_finds_20 rfl ?_
  obtain ⟨hi_7, h⟩ := h
  refine aw_ild dX10_finds_22 (lk156 hG) (ln156 hG) hi_7 ?_
  refine aw_zlt 27 dX10_finds_23 (by decide) (fun c_8 => ?_) (fun c_8 => ?_)
  · have h := sw_if.t h c_8
    refine aw_aload_n 2 dX10_finds_27 rfl rfl ?_
    refine gf_X10_48 fl_X10_359 (lk131 hG) dX10_finds_28 ?_
    refine aw_sipush (v := 3000) dX10_finds_31 (by decide) ?_
    refine aw_jne 43 dX10_finds_34 (by decide) (fun c_9 => ?_) (fun c_9 => ?_)
    · have h := sw_if.f h c_9
      refine aw_aload_n 2 dX10_finds_43 rfl rfl ?_
      refine gf_X10_43 fl_X10_333 (lk131 hG) (lr131_43 hG) dX10_finds_44 ?_
      refine aw_aload_n 2 dX10_finds_47 rfl rfl ?_
      refine gf_X10_48 fl_X10_359 (lk131 hG) dX10_finds_48 ?_
      refine aw_lload_n 1 dX10_finds_51 rfl rfl ?_
      obtain ⟨hi_10, h⟩ := h
      refine aw_lst dX10_finds_52 (lk152 hG) (ln152 hG) hi_10 (aw_nameJ fun J_11 e_12 => ?_)
      have h := h J_11 e_12
      refine aw_aload_n 2 dX10_finds_53 rfl rfl ?_
      refine gf_X10_44 fl_X10_366 (lk131 hG) (lr131_44 hG) dX10_finds_54 ?_
      refine aw_aload_n 2 dX10_finds_57 rfl rfl ?_
      refine gf_X10_48 fl_X10_359 (lk131 hG) dX10_finds_58 ?_
      refine aw_iload_n 3 dX10_finds_61 rfl rfl ?_
      obtain ⟨hi_13, h⟩ := h
      refine aw_ist dX10_finds_62 (lk153 hG) (ln153 hG) hi_13 (aw_nameI fun I_14 e_15 => ?_)
      have h := h I_14 e_15
      refine aw_aload_n 2 dX10_finds_63 rfl rfl ?_
      refine gf_X10_45 fl_X10_369 (lk131 hG) (lr131_45 hG) dX10_finds_64 ?_
      refine aw_aload_n 2 dX10_finds_67 rfl rfl ?_
      refine gf_X10_48 fl_X10_359 (lk131 hG) dX10_finds_68 ?_
      refine aw_iload_n 4 dX10_finds_71 rfl rfl ?_
      obtain ⟨hi_16, h⟩ := h
      refine aw_ist dX10_finds_72 (lk154 hG) (ln154 hG) hi_16 (aw_nameI fun I_17 e_18 => ?_)
      have h := h I_17 e_18
      refine aw_aload_n 2 dX10_finds_73 rfl rfl ?_
      refine gf_X10_46 fl_X10_372 (lk131 hG) (lr131_46 hG) dX10_finds_74 ?_
      refine aw_aload_n 2 dX10_finds_77 rfl rfl ?_
      refine gf_X10_48 fl_X10_359 (lk131 hG) dX10_finds_78 ?_
      refine aw_iload_n 3 dX10_finds_81 rfl rfl ?_
      refine aw_zge 89 dX10_finds_82 (by decide) (fun c_19 => ?_) (fun c_19 => ?_)
      · have h := sw_if.f h c_19
        refine aw_aload_n 2 dX10_finds_89 rfl rfl ?_
        refine gf_X10_46 fl_X10_372 (lk131 hG) (lr131_46 hG) dX10_finds_90 ?_
        refine aw_iload_n 3 dX10_finds_93 rfl rfl ?_
        obtain ⟨hi_20, h⟩ := h
        refine aw_ild dX10_finds_94 (lk155 hG) (ln155 hG) hi_20 ?_
        refine aw_iconst (v := 1) dX10_finds_95 (by decide) ?_
        refine aw_iadd dX10_finds_96 ?_
        refine aw_sub [2, 0] rfl ?_
        exact t_X10_finds_97 hG   h
      · have h := sw_if.t h c_19
        refine aw_iconst (v := 0) dX10_finds_85 (by decide) ?_
        refine aw_goto 97 dX10_finds_86 (by decide) ?_
        refine aw_sub [2, 0] rfl ?_
        exact t_X10_finds_97 hG   h
    · have h := sw_if.t h c_9
      refine aw_aload_n 2 dX10_finds_37 rfl rfl ?_
      refine aw_iconst (v := 1) dX10_finds_38 (by decide) ?_
      refine pf_X10_49 (by decide) fl_X10_362 (lk131 hG) dX10_finds_39 (aw_nameI fun I_21 e_22 => ?_)
      have h := h I_21 e_22
      exact aw_vret rfl dX10_finds_42 ⟨rfl, rfl, h⟩
  · have h := sw_if.f h c_8
    exact aw_vret rfl dX10_finds_26 ⟨rfl, rfl, h⟩
theorem M_X10_finds {l : Launch} {D : va_G} {cy : Nat → ClassId} {sz : Nat} {G : sw_G} (hG : sw_lay G)   {Q : sw_I → sw_J → Prop} {x1 : Int32} {x2 : Int32} {I : sw_I} {J : sw_J} (h : wp_X10_finds x1 x2 I J Q) : Met l yX10_finds (Cond.code yX10_finds cX10_finds 6 none :: sw_T) rm_X10_finds (sw_Pc D cy sz [.ref (sz + 131), .int x1, .int x2] G I J) (sw_Q D cy sz (sw_qv G Q)) 0 0 (fun q => sz ≤ q) :=
  sw_met (by decide) (fun q => by cases q) (Nat.le_of_ble_eq_true rfl) rfl (t_X10_finds hG  h)
-- X10_findsFirst
abbrev rm_X10_findsFirst : Room := { frames := 2, cells := 0, slots := 0, locals := 49 }
def wb_X10_findsFirst_2  (K2 : Int32 → sw_I → sw_J → Prop) (Q : sw_I → sw_J → Prop) (x1 : Int32) (I : sw_I) (J : sw_J) : Prop :=
  sw_if (x1 < (16384 : Int32)) (vp_in x1 16384 ∧ ∀ I_13 : sw_I, I_13 = sw_up I 156 x1.toNatClampNeg (-1 : Int32) → ∀ y_15 : Int32, y_15 = x1 + 1 → K2 y_15 I_13 J) (∀ I_2 : sw_I, I_2 = sw_up I 131 48 (0 : Int32) → ∀ I_4 : sw_I, I_4 = sw_up I_2 131 49 (0 : Int32) → wp_X10_puts 135 33 136 33 I_4 J (fun I_7 J_8 => wp_X10_finds (-1) 0 I_7 J_8 (fun I_10 J_11 => Q I_10 J_11)))
def wl_X10_findsFirst_2   (Q : sw_I → sw_J → Prop) : Nat → Int32 → sw_I → sw_J → Prop
  | 0 => fun _ _ _ => False
  | n + 1 => fun x1 I J => wb_X10_findsFirst_2  (wl_X10_findsFirst_2   Q n) Q x1 I J
def wp_X10_findsFirst  (I : sw_I) (J : sw_J) (Q : sw_I → sw_J → Prop) : Prop :=
  ∃ n_1 : Nat, wl_X10_findsFirst_2   Q n_1 0 I J
set_option maxRecDepth 20000 in
theorem tb_X10_findsFirst_2 {l : Launch} {D : va_G} {cy : Nat → ClassId} {sz : Nat} {G : sw_G} (hG : sw_lay G)   {Q : sw_I → sw_J → Prop} {K2 : Int32 → sw_I → sw_J → Prop} (hK2 : ∀ (x1 : Int32) (I : sw_I) (J : sw_J), K2 x1 I J → AW l D cy sz RX10 cX10_findsFirst 2 none false rm_X10_findsFirst 0 0 (sw_qv G Q) 0 0 G I J 2 [(0, .ref (sz + 131)), (1, .int x1)] []) {x1 : Int32} {I : sw_I} {J : sw_J} (h : wb_X10_findsFirst_2  K2 Q x1 I J) : AW l D cy sz RX10 cX10_findsFirst 2 none false rm_X10_findsFirst 0 0 (sw_qv G Q) 0 0 G I J 2 [(0, .ref (sz + 131)), (1, .int x1)] [] := by
  unfold wb_X10_findsFirst_2 at h
  refine aw_iload_n 1 dX10_findsFirst_2 rfl rfl ?_
  refine aw_sipush (v := 16384) dX10_findsFirst_3 (by decide) ?_
  refine aw_jge 22 dX10_findsFirst_6 (by decide) (fun c_1 => ?_) (fun c_1 => ?_)
  · have h := sw_if.f h c_1
    refine aw_aload_n 0 dX10_findsFirst_22 rfl rfl ?_
    refine aw_iconst (v := 0) dX10_findsFirst_23 (by decide) ?_
    refine pf_X10_48 fl_X10_359 (lk131 hG) dX10_findsFirst_24 (aw_nameI fun I_2 e_3 => ?_)
    have h := h I_2 e_3
    refine aw_aload_n 0 dX10_findsFirst_27 rfl rfl ?_
    refine aw_iconst (v := 0) dX10_findsFirst_28 (by decide) ?_
    refine pf_X10_49 (by decide) fl_X10_362 (lk131 hG) dX10_findsFirst_29 (aw_nameI fun I_4 e_5 => ?_)
    have h := h I_4 e_5
    refine aw_aload_n 0 dX10_findsFirst_32 rfl rfl ?_
    refine gf_X10_9 fl_X10_79 (lk131 hG) (lr131_9 hG) dX10_findsFirst_33 ?_
    refine aw_aload_n 0 dX10_findsFirst_36 rfl rfl ?_
    refine gf_X10_10 fl_X10_313 (lk131 hG) (lr131_10 hG) dX10_findsFirst_37 ?_
    refine aw_callS wv_X10_puts (M_X10_puts trivial ⟨(lk135 hG), (ln135 hG)⟩ ⟨(lk136 hG), (ln136 hG)⟩ h) ml_X10_316 rfl rfl (Nat.le_of_ble_eq_true rfl) ⟨rfl, rfl⟩ ⟨Nat.le_of_ble_eq_true rfl, Nat.le_of_ble_eq_true rfl⟩ ⟨Nat.le_refl _, Nat.le_refl _⟩ dX10_findsFirst_40 (aw_kv fun I_7 J_8 h => ?_)
    refine aw_aload_n 0 dX10_findsFirst_43 rfl rfl ?_
    refine aw_iconst (v := (-1)) dX10_findsFirst_44 (by decide) ?_
    refine aw_iconst (v := 0) dX10_findsFirst_45 (by decide) ?_
    refine aw_callV wv_X10_finds (M_X10_finds hG  h) ml_X10_375 rfl (by decide) (lk131 hG) rfl rfl (Nat.le_of_ble_eq_true rfl) ⟨rfl, rfl⟩ ⟨Nat.le_of_ble_eq_true rfl, Nat.le_of_ble_eq_true rfl⟩ ⟨Nat.le_refl _, Nat.le_refl _⟩ dX10_findsFirst_46 (aw_kv fun I_10 J_11 h => ?_)
    exact aw_vret rfl dX10_findsFirst_49 ⟨rfl, rfl, h⟩
  · have h := sw_if.t h c_1
    refine aw_aload_n 0 dX10_findsFirst_9 rfl rfl ?_
    refine gf_X10_47 fl_X10_348 (lk131 hG) (lr131_47 hG) dX10_findsFirst_10 ?_
    refine aw_iload_n 1 dX10_findsFirst_13 rfl rfl ?_
    refine aw_iconst (v := (-1)) dX10_findsFirst_14 (by decide) ?_
    obtain ⟨hi_12, h⟩ := h
    refine aw_ist dX10_findsFirst_15 (lk156 hG) (ln156 hG) hi_12 (aw_nameI fun I_13 e_14 => ?_)
    have h := h I_13 e_14
    obtain ⟨y_15, e_16⟩ : ∃ q : Int32, q = x1 + 1 := ⟨_, rfl⟩
    have h := h y_15 e_16
    refine aw_iinc (lv' := [(1, .int y_15), (0, .ref (sz + 131))]) 1 dX10_findsFirst_16 rfl (by rw [e_16]; rfl) (by decide) rfl ?_
    refine aw_goto 2 dX10_findsFirst_19 (by decide) ?_
    refine aw_sub [1, 0] rfl ?_
    exact hK2 y_15 I_13 J h
set_option maxRecDepth 20000 in
theorem tl_X10_findsFirst_2 {l : Launch} {D : va_G} {cy : Nat → ClassId} {sz : Nat} {G : sw_G} (hG : sw_lay G)   {Q : sw_I → sw_J → Prop} : ∀ (n : Nat) (x1 : Int32) (I : sw_I) (J : sw_J), wl_X10_findsFirst_2   Q n x1 I J → AW l D cy sz RX10 cX10_findsFirst 2 none false rm_X10_findsFirst 0 0 (sw_qv G Q) 0 0 G I J 2 [(0, .ref (sz + 131)), (1, .int x1)] [] := by
  intro n
  induction n with
  | zero => intro x1 I J h; exact False.elim h
  | succ n ih => intro x1 I J h; exact tb_X10_findsFirst_2 hG  ih h
set_option maxRecDepth 20000 in
theorem t_X10_findsFirst {l : Launch} {D : va_G} {cy : Nat → ClassId} {sz : Nat} {G : sw_G} (hG : sw_lay G)   {Q : sw_I → sw_J → Prop}  {I : sw_I} {J : sw_J} (h : wp_X10_findsFirst  I J Q) : AW l D cy sz RX10 cX10_findsFirst 2 none false rm_X10_findsFirst 0 0 (sw_qv G Q) 0 0 G I J 0 [(0, .ref (sz + 131))] [] := by
  unfold wp_X10_findsFirst at h
  refine aw_iconst (v := 0) dX10_findsFirst_0 (by decide) ?_
  refine aw_istore_n (lv' := [(1, .int 0), (0, .ref (sz + 131))]) dX10_findsFirst_1 rfl (by decide) rfl ?_
  refine aw_sub [1, 0] rfl ?_
  obtain ⟨n_1, h⟩ := h
  exact tl_X10_findsFirst_2 hG   n_1 0 I J h
theorem M_X10_findsFirst {l : Launch} {D : va_G} {cy : Nat → ClassId} {sz : Nat} {G : sw_G} (hG : sw_lay G)   {Q : sw_I → sw_J → Prop}  {I : sw_I} {J : sw_J} (h : wp_X10_findsFirst  I J Q) : Met l yX10_findsFirst (Cond.code yX10_findsFirst cX10_findsFirst 2 none :: sw_T) rm_X10_findsFirst (sw_Pc D cy sz [.ref (sz + 131)] G I J) (sw_Q D cy sz (sw_qv G Q)) 0 0 (fun q => sz ≤ q) :=
  sw_met (by decide) (fun q => by cases q) (Nat.le_of_ble_eq_true rfl) rfl (t_X10_findsFirst hG  h)
-- X10_isAim
abbrev rm_X10_isAim : Room := { frames := 1, cells := 0, slots := 0, locals := 24 }
def wp_X10_isAim (x1 : Int32) (I : sw_I) (J : sw_J) (Q : Int32 → sw_I → sw_J → Prop) : Prop :=
  wp_X10_unpacks x1 I J (fun I_2 J_3 => sw_if ((I_2 131 50) = (2 : Int32)) (sw_if ((I_2 136 (31 : Int32).toNatClampNeg) = (I_2 131 52)) (wp_X10_there 136 33 I_2 J_3 (fun r_14 I_15 J_16 => sw_if (r_14 = (I_15 131 51)) (Q 1 I_15 J_16) (Q 0 I_15 J_16))) (Q 0 I_2 J_3)) (sw_if ((I_2 131 50) = 0) (wp_X10_homeBits 136 33 I_2 J_3 (fun r_8 I_9 J_10 => sw_if (r_8 = (((1 : Int32) <<< ((I_9 131 4) &&& 31)) - (1 : Int32))) (Q 1 I_9 J_10) (Q 0 I_9 J_10))) (vp_in (I_2 131 51) 33 ∧ sw_if ((I_2 136 (I_2 131 51).toNatClampNeg) = (9 : Int32)) (Q 1 I_2 J_3) (Q 0 I_2 J_3))))
set_option maxRecDepth 20000 in
theorem t_X10_isAim {l : Launch} {D : va_G} {cy : Nat → ClassId} {sz : Nat} {G : sw_G} (hG : sw_lay G)   {Q : Int32 → sw_I → sw_J → Prop} {x1 : Int32} {I : sw_I} {J : sw_J} (h : wp_X10_isAim x1 I J Q) : AW l D cy sz RX10 cX10_isAim 2 (some .boolean) false rm_X10_isAim 0 0 (sw_qi G Q) 0 0 G I J 0 [(0, .ref (sz + 131)), (1, .int x1)] [] := by
  unfold wp_X10_isAim at h
  refine aw_aload_n 0 dX10_isAim_0 rfl rfl ?_
  refine aw_iload_n 1 dX10_isAim_1 rfl rfl ?_
  refine aw_callV wv_X10_unpacks (M_X10_unpacks hG  h) ml_X10_379 rfl (by decide) (lk131 hG) rfl rfl (Nat.le_of_ble_eq_true rfl) ⟨rfl, rfl⟩ ⟨Nat.le_of_ble_eq_true rfl, Nat.le_of_ble_eq_true rfl⟩ ⟨Nat.le_refl _, Nat.le_refl _⟩ dX10_isAim_2 (aw_kv fun I_2 J_3 h => ?_)
  refine aw_aload_n 0 dX10_isAim_5 rfl rfl ?_
  refine gf_X10_50 fl_X10_382 (lk131 hG) dX10_isAim_6 ?_
  refine aw_iconst (v := 2) dX10_isAim_9 (by decide) ?_
  refine aw_jne 48 dX10_isAim_10 (by decide) (fun c_4 => ?_) (fun c_4 => ?_)
  · have h := sw_if.f h c_4
    refine aw_aload_n 0 dX10_isAim_48 rfl rfl ?_
    refine gf_X10_50 fl_X10_382 (lk131 hG) dX10_isAim_49 ?_
    refine aw_zne 82 dX10_isAim_52 (by decide) (fun c_5 => ?_) (fun c_5 => ?_)
    · have h := sw_if.f h c_5
      refine aw_aload_n 0 dX10_isAim_82 rfl rfl ?_
      refine gf_X10_10 fl_X10_313 (lk131 hG) (lr131_10 hG) dX10_isAim_83 ?_
      refine aw_aload_n 0 dX10_isAim_86 rfl rfl ?_
      refine gf_X10_51 fl_X10_388 (lk131 hG) dX10_isAim_87 ?_
      obtain ⟨hi_6, h⟩ := h
      refine aw_ild dX10_isAim_90 (lk136 hG) (ln136 hG) hi_6 ?_
      refine aw_bipush (v := 9) dX10_isAim_91 (by decide) ?_
      refine aw_jne 100 dX10_isAim_93 (by decide) (fun c_7 => ?_) (fun c_7 => ?_)
      · have h := sw_if.f h c_7
        refine aw_iconst (v := 0) dX10_isAim_100 (by decide) ?_
        exact aw_zret rfl rfl dX10_isAim_101 ⟨rfl, _, rfl, h⟩
      · have h := sw_if.t h c_7
        refine aw_iconst (v := 1) dX10_isAim_96 (by decide) ?_
        refine aw_goto 101 dX10_isAim_97 (by decide) ?_
        exact aw_zret rfl rfl dX10_isAim_101 ⟨rfl, _, rfl, h⟩
    · have h := sw_if.t h c_5
      refine aw_aload_n 0 dX10_isAim_55 rfl rfl ?_
      refine aw_aload_n 0 dX10_isAim_56 rfl rfl ?_
      refine gf_X10_10 fl_X10_313 (lk131 hG) (lr131_10 hG) dX10_isAim_57 ?_
      refine aw_callV wv_X10_homeBits (M_X10_homeBits hG ⟨(lk136 hG), (ln136 hG)⟩ h) ml_X10_391 rfl (by decide) (lk131 hG) rfl rfl (Nat.le_of_ble_eq_true rfl) ⟨rfl, rfl⟩ ⟨Nat.le_of_ble_eq_true rfl, Nat.le_of_ble_eq_true rfl⟩ ⟨Nat.le_refl _, Nat.le_refl _⟩ dX10_isAim_60 (aw_ki fun r_8 I_9 J_10 h => ?_)
      refine aw_iconst (v := 1) dX10_isAim_63 (by decide) ?_
      refine aw_aload_n 0 dX10_isAim_64 rfl rfl ?_
      refine gf_X10_4 fl_X10_29 (lk131 hG) dX10_isAim_65 ?_
      refine aw_ishl dX10_isAim_68 ?_
      refine aw_iconst (v := 1) dX10_isAim_69 (by decide) ?_
      refine aw_isub dX10_isAim_70 ?_
      refine aw_jne 78 dX10_isAim_71 (by decide) (fun c_11 => ?_) (fun c_11 => ?_)
      · have h := sw_if.f h c_11
        refine aw_iconst (v := 0) dX10_isAim_78 (by decide) ?_
        refine aw_goto 101 dX10_isAim_79 (by decide) ?_
        exact aw_zret rfl rfl dX10_isAim_101 ⟨rfl, _, rfl, h⟩
      · have h := sw_if.t h c_11
        refine aw_iconst (v := 1) dX10_isAim_74 (by decide) ?_
        refine aw_goto 101 dX10_isAim_75 (by decide) ?_
        exact aw_zret rfl rfl dX10_isAim_101 ⟨rfl, _, rfl, h⟩
  · have h := sw_if.t h c_4
    refine aw_aload_n 0 dX10_isAim_13 rfl rfl ?_
    refine gf_X10_10 fl_X10_313 (lk131 hG) (lr131_10 hG) dX10_isAim_14 ?_
    refine aw_bipush (v := 31) dX10_isAim_17 (by decide) ?_
    refine aw_ild dX10_isAim_19 (lk136 hG) (ln136 hG) (by unfold vp_in; decide) ?_
    refine aw_aload_n 0 dX10_isAim_20 rfl rfl ?_
    refine gf_X10_52 fl_X10_385 (lk131 hG) dX10_isAim_21 ?_
    refine aw_jne 46 dX10_isAim_24 (by decide) (fun c_13 => ?_) (fun c_13 => ?_)
    · have h := sw_if.f h c_13
      refine aw_iconst (v := 0) dX10_isAim_46 (by decide) ?_
      exact aw_zret rfl rfl dX10_isAim_47 ⟨rfl, _, rfl, h⟩
    · have h := sw_if.t h c_13
      refine aw_aload_n 0 dX10_isAim_27 rfl rfl ?_
      refine aw_aload_n 0 dX10_isAim_28 rfl rfl ?_
      refine gf_X10_10 fl_X10_313 (lk131 hG) (lr131_10 hG) dX10_isAim_29 ?_
      refine aw_callV wv_X10_there (M_X10_there hG ⟨(lk136 hG), (ln136 hG)⟩ h) ml_X10_295 rfl (by decide) (lk131 hG) rfl rfl (Nat.le_of_ble_eq_true rfl) ⟨rfl, rfl⟩ ⟨Nat.le_of_ble_eq_true rfl, Nat.le_of_ble_eq_true rfl⟩ ⟨Nat.le_refl _, Nat.le_refl _⟩ dX10_isAim_32 (aw_ki fun r_14 I_15 J_16 h => ?_)
      refine aw_aload_n 0 dX10_isAim_35 rfl rfl ?_
      refine gf_X10_51 fl_X10_388 (lk131 hG) dX10_isAim_36 ?_
      refine aw_jne 46 dX10_isAim_39 (by decide) (fun c_17 => ?_) (fun c_17 => ?_)
      · have h := sw_if.f h c_17
        refine aw_iconst (v := 0) dX10_isAim_46 (by decide) ?_
        exact aw_zret rfl rfl dX10_isAim_47 ⟨rfl, _, rfl, h⟩
      · have h := sw_if.t h c_17
        refine aw_iconst (v := 1) dX10_isAim_42 (by decide) ?_
        refine aw_goto 47 dX10_isAim_43 (by decide) ?_
        exact aw_zret rfl rfl dX10_isAim_47 ⟨rfl, _, rfl, h⟩
theorem M_X10_isAim {l : Launch} {D : va_G} {cy : Nat → ClassId} {sz : Nat} {G : sw_G} (hG : sw_lay G)   {Q : Int32 → sw_I → sw_J → Prop} {x1 : Int32} {I : sw_I} {J : sw_J} (h : wp_X10_isAim x1 I J Q) : Met l yX10_isAim (Cond.code yX10_isAim cX10_isAim 2 (some .boolean) :: sw_T) rm_X10_isAim (sw_Pc D cy sz [.ref (sz + 131), .int x1] G I J) (sw_Q D cy sz (sw_qi G Q)) 0 0 (fun q => sz ≤ q) :=
  sw_met (by decide) (fun q => by cases q) (Nat.le_of_ble_eq_true rfl) rfl (t_X10_isAim hG  h)
-- X10_tellsWay
abbrev rm_X10_tellsWay : Room := { frames := 1, cells := 0, slots := 0, locals := 22 }
def wb_X10_tellsWay_59  (K59 : Int32 → Int32 → sw_I → sw_J → Prop) (Q : Int32 → sw_I → sw_J → Prop) (x2 : Int32) (x4 : Int32) (I : sw_I) (J : sw_J) : Prop :=
  sw_if (x4 < x2) (sw_if (x4 < (10 : Int32)) (vp_in x4 3000 ∧ wp_X10_enters ((I 157 x4.toNatClampNeg).toInt64) I J (fun I_5 J_6 => ∀ y_7 : Int32, y_7 = x4 + 1 → K59 x2 y_7 I_5 J_6)) (Q x2 I J)) (Q x2 I J)
def wl_X10_tellsWay_59   (Q : Int32 → sw_I → sw_J → Prop) : Nat → Int32 → Int32 → sw_I → sw_J → Prop
  | 0 => fun _ _ _ _ => False
  | n + 1 => fun x2 x4 I J => wb_X10_tellsWay_59  (wl_X10_tellsWay_59   Q n) Q x2 x4 I J
def wb_X10_tellsWay_20  (K20 : Int32 → Int32 → Int32 → sw_I → sw_J → Prop) (Q : Int32 → sw_I → sw_J → Prop) (x2 : Int32) (x3 : Int32) (x4 : Int32) (I : sw_I) (J : sw_J) : Prop :=
  sw_if (x4 < 0) (∀ I_2 : sw_I, I_2 = sw_up I 131 1 (0 : Int32) → ∃ n_4 : Nat, wl_X10_tellsWay_59   Q n_4 x2 0 I_2 J) (vp_in x3 3000 ∧ vp_in x4 3000 ∧ ∀ I_7 : sw_I, I_7 = sw_up I 157 x4.toNatClampNeg (I 154 x3.toNatClampNeg) → vp_in x3 3000 ∧ ∀ y_10 : Int32, y_10 = (I_7 153 x3.toNatClampNeg) → ∀ y_12 : Int32, y_12 = x4 + (-1) → K20 x2 y_10 y_12 I_7 J)
def wl_X10_tellsWay_20   (Q : Int32 → sw_I → sw_J → Prop) : Nat → Int32 → Int32 → Int32 → sw_I → sw_J → Prop
  | 0 => fun _ _ _ _ _ => False
  | n + 1 => fun x2 x3 x4 I J => wb_X10_tellsWay_20  (wl_X10_tellsWay_20   Q n) Q x2 x3 x4 I J
def wp_X10_tellsWay (x1 : Int32) (I : sw_I) (J : sw_J) (Q : Int32 → sw_I → sw_J → Prop) : Prop :=
  sw_if (x1 < 0) (Q x1 I J) (vp_in x1 3000 ∧ ∀ y_3 : Int32, y_3 = (I 155 x1.toNatClampNeg) → ∀ y_5 : Int32, y_5 = y_3 - (1 : Int32) → ∃ n_7 : Nat, wl_X10_tellsWay_20   Q n_7 y_3 x1 y_5 I J)
set_option maxRecDepth 20000 in
theorem tb_X10_tellsWay_59 {l : Launch} {D : va_G} {cy : Nat → ClassId} {sz : Nat} {G : sw_G} (hG : sw_lay G)   {Q : Int32 → sw_I → sw_J → Prop} {K59 : Int32 → Int32 → sw_I → sw_J → Prop} (hK59 : ∀ (x2 : Int32) (x4 : Int32) (I : sw_I) (J : sw_J), K59 x2 x4 I J → AW l D cy sz RX10 cX10_tellsWay 5 (some .int) false rm_X10_tellsWay 0 0 (sw_qi G Q) 0 0 G I J 59 [(0, .ref (sz + 131)), (2, .int x2), (4, .int x4)] []) {x2 : Int32} {x4 : Int32} {I : sw_I} {J : sw_J} (h : wb_X10_tellsWay_59  K59 Q x2 x4 I J) : AW l D cy sz RX10 cX10_tellsWay 5 (some .int) false rm_X10_tellsWay 0 0 (sw_qi G Q) 0 0 G I J 59 [(0, .ref (sz + 131)), (2, .int x2), (4, .int x4)] [] := by
  unfold wb_X10_tellsWay_59 at h
  refine aw_iload 2 dX10_tellsWay_59 rfl ?_
  refine aw_iload_n 1 dX10_tellsWay_61 rfl rfl ?_
  refine aw_jge 90 dX10_tellsWay_62 (by decide) (fun c_1 => ?_) (fun c_1 => ?_)
  · have h := sw_if.f h c_1
    refine aw_iload_n 1 dX10_tellsWay_90 rfl rfl ?_
    exact aw_iret rfl dX10_tellsWay_91 ⟨rfl, _, rfl, h⟩
  · have h := sw_if.t h c_1
    refine aw_iload 2 dX10_tellsWay_65 rfl ?_
    refine aw_bipush (v := 10) dX10_tellsWay_67 (by decide) ?_
    refine aw_jge 90 dX10_tellsWay_69 (by decide) (fun c_2 => ?_) (fun c_2 => ?_)
    · have h := sw_if.f h c_2
      refine aw_iload_n 1 dX10_tellsWay_90 rfl rfl ?_
      exact aw_iret rfl dX10_tellsWay_91 ⟨rfl, _, rfl, h⟩
    · have h := sw_if.t h c_2
      refine aw_aload_n 0 dX10_tellsWay_72 rfl rfl ?_
      refine aw_aload_n 0 dX10_tellsWay_73 rfl rfl ?_
      refine gf_X10_53 fl_X10_403 (lk131 hG) (lr131_53 hG) dX10_tellsWay_74 ?_
      refine aw_iload 2 dX10_tellsWay_77 rfl ?_
      obtain ⟨hi_3, h⟩ := h
      refine aw_ild dX10_tellsWay_79 (lk157 hG) (ln157 hG) hi_3 ?_
      refine aw_i2l dX10_tellsWay_80 ?_
      refine aw_callV wv_X10_enters (M_X10_enters hG  h) ml_X10_18 rfl (by decide) (lk131 hG) rfl rfl (Nat.le_of_ble_eq_true rfl) ⟨rfl, rfl⟩ ⟨Nat.le_of_ble_eq_true rfl, Nat.le_of_ble_eq_true rfl⟩ ⟨Nat.le_refl _, Nat.le_refl _⟩ dX10_tellsWay_81 (aw_kv fun I_5 J_6 h => ?_)
      obtain ⟨y_7, e_8⟩ : ∃ q : Int32, q = x4 + 1 := ⟨_, rfl⟩
      have h := h y_7 e_8
      refine aw_iinc (lv' := [(4, .int y_7), (0, .ref (sz + 131)), (2, .int x2)]) 2 dX10_tellsWay_84 rfl (by rw [e_8]; rfl) (by decide) rfl ?_
      refine aw_goto 59 dX10_tellsWay_87 (by decide) ?_
      refine aw_sub [1, 2, 0] rfl ?_
      exact hK59 x2 y_7 I_5 J_6 h
set_option maxRecDepth 20000 in
theorem tl_X10_tellsWay_59 {l : Launch} {D : va_G} {cy : Nat → ClassId} {sz : Nat} {G : sw_G} (hG : sw_lay G)   {Q : Int32 → sw_I → sw_J → Prop} : ∀ (n : Nat) (x2 : Int32) (x4 : Int32) (I : sw_I) (J : sw_J), wl_X10_tellsWay_59   Q n x2 x4 I J → AW l D cy sz RX10 cX10_tellsWay 5 (some .int) false rm_X10_tellsWay 0 0 (sw_qi G Q) 0 0 G I J 59 [(0, .ref (sz + 131)), (2, .int x2), (4, .int x4)] [] := by
  intro n
  induction n with
  | zero => intro x2 x4 I J h; exact False.elim h
  | succ n ih => intro x2 x4 I J h; exact tb_X10_tellsWay_59 hG  ih h
set_option maxRecDepth 20000 in
theorem tb_X10_tellsWay_20 {l : Launch} {D : va_G} {cy : Nat → ClassId} {sz : Nat} {G : sw_G} (hG : sw_lay G)   {Q : Int32 → sw_I → sw_J → Prop} {K20 : Int32 → Int32 → Int32 → sw_I → sw_J → Prop} (hK20 : ∀ (x2 : Int32) (x3 : Int32) (x4 : Int32) (I : sw_I) (J : sw_J), K20 x2 x3 x4 I J → AW l D cy sz RX10 cX10_tellsWay 5 (some .int) false rm_X10_tellsWay 0 0 (sw_qi G Q) 0 0 G I J 20 [(0, .ref (sz + 131)), (2, .int x2), (3, .int x3), (4, .int x4)] []) {x2 : Int32} {x3 : Int32} {x4 : Int32} {I : sw_I} {J : sw_J} (h : wb_X10_tellsWay_20  K20 Q x2 x3 x4 I J) : AW l D cy sz RX10 cX10_tellsWay 5 (some .int) false rm_X10_tellsWay 0 0 (sw_qi G Q) 0 0 G I J 20 [(0, .ref (sz + 131)), (2, .int x2), (3, .int x3), (4, .int x4)] [] := by
  unfold wb_X10_tellsWay_20 at h
  refine aw_iload 3 dX10_tellsWay_20 rfl ?_
  refine aw_zlt 51 dX10_tellsWay_22 (by decide) (fun c_1 => ?_) (fun c_1 => ?_)
  · have h := sw_if.t h c_1
    refine aw_aload_n 0 dX10_tellsWay_51 rfl rfl ?_
    refine aw_iconst (v := 0) dX10_tellsWay_52 (by decide) ?_
    refine pf_X10_1 fl_X10_15 (lk131 hG) dX10_tellsWay_53 (aw_nameI fun I_2 e_3 => ?_)
    have h := h I_2 e_3
    refine aw_iconst (v := 0) dX10_tellsWay_56 (by decide) ?_
    refine aw_istore (lv' := [(4, .int 0), (0, .ref (sz + 131)), (2, .int x2), (3, .int x3)]) dX10_tellsWay_57 (by decide) rfl ?_
    refine aw_sub [1, 2, 0] rfl ?_
    obtain ⟨n_4, h⟩ := h
    exact tl_X10_tellsWay_59 hG   n_4 x2 0 I_2 J h
  · have h := sw_if.f h c_1
    refine aw_aload_n 0 dX10_tellsWay_25 rfl rfl ?_
    refine gf_X10_53 fl_X10_403 (lk131 hG) (lr131_53 hG) dX10_tellsWay_26 ?_
    refine aw_iload 3 dX10_tellsWay_29 rfl ?_
    refine aw_aload_n 0 dX10_tellsWay_31 rfl rfl ?_
    refine gf_X10_45 fl_X10_369 (lk131 hG) (lr131_45 hG) dX10_tellsWay_32 ?_
    refine aw_iload_n 2 dX10_tellsWay_35 rfl rfl ?_
    obtain ⟨hi_5, h⟩ := h
    refine aw_ild dX10_tellsWay_36 (lk154 hG) (ln154 hG) hi_5 ?_
    obtain ⟨hi_6, h⟩ := h
    refine aw_ist dX10_tellsWay_37 (lk157 hG) (ln157 hG) hi_6 (aw_nameI fun I_7 e_8 => ?_)
    have h := h I_7 e_8
    refine aw_aload_n 0 dX10_tellsWay_38 rfl rfl ?_
    refine gf_X10_44 fl_X10_366 (lk131 hG) (lr131_44 hG) dX10_tellsWay_39 ?_
    refine aw_iload_n 2 dX10_tellsWay_42 rfl rfl ?_
    obtain ⟨hi_9, h⟩ := h
    refine aw_ild dX10_tellsWay_43 (lk153 hG) (ln153 hG) hi_9 ?_
    refine aw_topi (fun y_10 e_11 => ?_)
    have h := h y_10 e_11
    refine aw_istore_n (lv' := [(3, .int y_10), (0, .ref (sz + 131)), (2, .int x2), (4, .int x4)]) dX10_tellsWay_44 rfl (by decide) rfl ?_
    obtain ⟨y_12, e_13⟩ : ∃ q : Int32, q = x4 + (-1) := ⟨_, rfl⟩
    have h := h y_12 e_13
    refine aw_iinc (lv' := [(4, .int y_12), (3, .int y_10), (0, .ref (sz + 131)), (2, .int x2)]) 3 dX10_tellsWay_45 rfl (by rw [e_13]; rfl) (by decide) rfl ?_
    refine aw_goto 20 dX10_tellsWay_48 (by decide) ?_
    refine aw_sub [2, 3, 1, 0] rfl ?_
    exact hK20 x2 y_10 y_12 I_7 J h
set_option maxRecDepth 20000 in
theorem tl_X10_tellsWay_20 {l : Launch} {D : va_G} {cy : Nat → ClassId} {sz : Nat} {G : sw_G} (hG : sw_lay G)   {Q : Int32 → sw_I → sw_J → Prop} : ∀ (n : Nat) (x2 : Int32) (x3 : Int32) (x4 : Int32) (I : sw_I) (J : sw_J), wl_X10_tellsWay_20   Q n x2 x3 x4 I J → AW l D cy sz RX10 cX10_tellsWay 5 (some .int) false rm_X10_tellsWay 0 0 (sw_qi G Q) 0 0 G I J 20 [(0, .ref (sz + 131)), (2, .int x2), (3, .int x3), (4, .int x4)] [] := by
  intro n
  induction n with
  | zero => intro x2 x3 x4 I J h; exact False.elim h
  | succ n ih => intro x2 x3 x4 I J h; exact tb_X10_tellsWay_20 hG  ih h
set_option maxRecDepth 20000 in
theorem t_X10_tellsWay {l : Launch} {D : va_G} {cy : Nat → ClassId} {sz : Nat} {G : sw_G} (hG : sw_lay G)   {Q : Int32 → sw_I → sw_J → Prop} {x1 : Int32} {I : sw_I} {J : sw_J} (h : wp_X10_tellsWay x1 I J Q) : AW l D cy sz RX10 cX10_tellsWay 5 (some .int) false rm_X10_tellsWay 0 0 (sw_qi G Q) 0 0 G I J 0 [(0, .ref (sz + 131)), (1, .int x1)] [] := by
  unfold wp_X10_tellsWay at h
  refine aw_iload_n 1 dX10_tellsWay_0 rfl rfl ?_
  refine aw_zge 6 dX10_tellsWay_1 (by decide) (fun c_1 => ?_) (fun c_1 => ?_)
  · have h := sw_if.f h c_1
    refine aw_aload_n 0 dX10_tellsWay_6 rfl rfl ?_
    refine gf_X10_46 fl_X10_372 (lk131 hG) (lr131_46 hG) dX10_tellsWay_7 ?_
    refine aw_iload_n 1 dX10_tellsWay_10 rfl rfl ?_
    obtain ⟨hi_2, h⟩ := h
    refine aw_ild dX10_tellsWay_11 (lk155 hG) (ln155 hG) hi_2 ?_
    refine aw_topi (fun y_3 e_4 => ?_)
    have h := h y_3 e_4
    refine aw_istore_n (lv' := [(2, .int y_3), (0, .ref (sz + 131)), (1, .int x1)]) dX10_tellsWay_12 rfl (by decide) rfl ?_
    refine aw_iload_n 2 dX10_tellsWay_13 rfl rfl ?_
    refine aw_istore_n (lv' := [(3, .int x1), (2, .int y_3), (0, .ref (sz + 131)), (1, .int x1)]) dX10_tellsWay_14 rfl (by decide) rfl ?_
    refine aw_iload_n 1 dX10_tellsWay_15 rfl rfl ?_
    refine aw_iconst (v := 1) dX10_tellsWay_16 (by decide) ?_
    refine aw_isub dX10_tellsWay_17 ?_
    refine aw_topi (fun y_5 e_6 => ?_)
    have h := h y_5 e_6
    refine aw_istore (lv' := [(4, .int y_5), (3, .int x1), (2, .int y_3), (0, .ref (sz + 131)), (1, .int x1)]) dX10_tellsWay_18 (by decide) rfl ?_
    refine aw_sub [3, 2, 1, 0] rfl ?_
    obtain ⟨n_7, h⟩ := h
    exact tl_X10_tellsWay_20 hG   n_7 y_3 x1 y_5 I J h
  · have h := sw_if.t h c_1
    refine aw_iload_n 1 dX10_tellsWay_4 rfl rfl ?_
    exact aw_iret rfl dX10_tellsWay_5 ⟨rfl, _, rfl, h⟩
theorem M_X10_tellsWay {l : Launch} {D : va_G} {cy : Nat → ClassId} {sz : Nat} {G : sw_G} (hG : sw_lay G)   {Q : Int32 → sw_I → sw_J → Prop} {x1 : Int32} {I : sw_I} {J : sw_J} (h : wp_X10_tellsWay x1 I J Q) : Met l yX10_tellsWay (Cond.code yX10_tellsWay cX10_tellsWay 5 (some .int) :: sw_T) rm_X10_tellsWay (sw_Pc D cy sz [.ref (sz + 131), .int x1] G I J) (sw_Q D cy sz (sw_qi G Q)) 0 0 (fun q => sz ≤ q) :=
  sw_met (by decide) (fun q => by cases q) (Nat.le_of_ble_eq_true rfl) rfl (t_X10_tellsWay hG  h)
-- X10_saw
abbrev rm_X10_saw : Room := { frames := 2, cells := 0, slots := 0, locals := 46 }
def wp_X10_saw (x1 : Int32) (x2 : Int32) (x3 : Int32) (I : sw_I) (J : sw_J) (Q : Int32 → sw_I → sw_J → Prop) : Prop :=
  ∀ I_1 : sw_I, I_1 = sw_up I 131 0 (0 : Int32) → wp_X10_isFloor x1 I_1 J (fun r_3 I_4 J_5 => sw_if (r_3 = 0) (Q (-1 : Int32) I_4 J_5) (wp_X10_isFloor x3 I_4 J_5 (fun r_7 I_8 J_9 => sw_if (r_7 = 0) (Q (-1 : Int32) I_8 J_9) (sw_if (x1 = x3) (Q (-1 : Int32) I_8 J_9) (wp_X10_in x2.toInt64 0 ((((1 : Int32) <<< ((I_8 131 4) &&& 31)) - (1 : Int32)).toInt64) I_8 J_9 (fun r_12 I_13 J_14 => sw_if (r_12 = 0) (Q (-1 : Int32) I_13 J_14) (sw_if ((I_13 131 54) = (8 : Int32)) (Q (-1 : Int32) I_13 J_14) (vp_in (I_13 131 54) 8 ∧ ∀ I_18 : sw_I, I_18 = sw_up I_13 158 (I_13 131 54).toNatClampNeg x1 → vp_in (I_18 131 54) 8 ∧ ∀ I_21 : sw_I, I_21 = sw_up I_18 159 (I_18 131 54).toNatClampNeg x2 → vp_in (I_21 131 54) 8 ∧ ∀ I_24 : sw_I, I_24 = sw_up I_21 160 (I_21 131 54).toNatClampNeg x3 → ∀ I_26 : sw_I, I_26 = sw_up I_24 131 54 ((I_24 131 54) + (1 : Int32)) → Q (I_26 131 54) I_26 J_14))))))))
set_option maxRecDepth 20000 in
theorem t_X10_saw {l : Launch} {D : va_G} {cy : Nat → ClassId} {sz : Nat} {G : sw_G} (hG : sw_lay G)   {Q : Int32 → sw_I → sw_J → Prop} {x1 : Int32} {x2 : Int32} {x3 : Int32} {I : sw_I} {J : sw_J} (h : wp_X10_saw x1 x2 x3 I J Q) : AW l D cy sz RX10 cX10_saw 4 (some .int) false rm_X10_saw 0 0 (sw_qi G Q) 0 0 G I J 0 [(0, .ref (sz + 131)), (1, .int x1), (2, .int x2), (3, .int x3)] [] := by
  unfold wp_X10_saw at h
  refine aw_aload_n 0 dX10_saw_0 rfl rfl ?_
  refine aw_iconst (v := 0) dX10_saw_1 (by decide) ?_
  refine pf_X10_0 fl_X10_3 (lk131 hG) dX10_saw_2 (aw_nameI fun I_1 e_2 => ?_)
  have h := h I_1 e_2
  refine aw_aload_n 0 dX10_saw_5 rfl rfl ?_
  refine aw_iload_n 1 dX10_saw_6 rfl rfl ?_
  refine aw_callV wv_X10_isFloor (M_X10_isFloor hG  h) ml_X10_95 rfl (by decide) (lk131 hG) rfl rfl (Nat.le_of_ble_eq_true rfl) ⟨rfl, rfl⟩ ⟨Nat.le_of_ble_eq_true rfl, Nat.le_of_ble_eq_true rfl⟩ ⟨Nat.le_refl _, Nat.le_refl _⟩ dX10_saw_7 (aw_ki fun r_3 I_4 J_5 h => ?_)
  refine aw_zeq 53 dX10_saw_10 (by decide) (fun c_6 => ?_) (fun c_6 => ?_)
  · have h := sw_if.t h c_6
    refine aw_iconst (v := (-1)) dX10_saw_53 (by decide) ?_
    exact aw_iret rfl dX10_saw_54 ⟨rfl, _, rfl, h⟩
  · have h := sw_if.f h c_6
    refine aw_aload_n 0 dX10_saw_13 rfl rfl ?_
    refine aw_iload_n 3 dX10_saw_14 rfl rfl ?_
    refine aw_callV wv_X10_isFloor (M_X10_isFloor hG  h) ml_X10_95 rfl (by decide) (lk131 hG) rfl rfl (Nat.le_of_ble_eq_true rfl) ⟨rfl, rfl⟩ ⟨Nat.le_of_ble_eq_true rfl, Nat.le_of_ble_eq_true rfl⟩ ⟨Nat.le_refl _, Nat.le_refl _⟩ dX10_saw_15 (aw_ki fun r_7 I_8 J_9 h => ?_)
    refine aw_zeq 53 dX10_saw_18 (by decide) (fun c_10 => ?_) (fun c_10 => ?_)
    · have h := sw_if.t h c_10
      refine aw_iconst (v := (-1)) dX10_saw_53 (by decide) ?_
      exact aw_iret rfl dX10_saw_54 ⟨rfl, _, rfl, h⟩
    · have h := sw_if.f h c_10
      refine aw_iload_n 1 dX10_saw_21 rfl rfl ?_
      refine aw_iload_n 3 dX10_saw_22 rfl rfl ?_
      refine aw_jeq 53 dX10_saw_23 (by decide) (fun c_11 => ?_) (fun c_11 => ?_)
      · have h := sw_if.t h c_11
        refine aw_iconst (v := (-1)) dX10_saw_53 (by decide) ?_
        exact aw_iret rfl dX10_saw_54 ⟨rfl, _, rfl, h⟩
      · have h := sw_if.f h c_11
        refine aw_iload_n 2 dX10_saw_26 rfl rfl ?_
        refine aw_i2l dX10_saw_27 ?_
        refine aw_lconst (v := 0) dX10_saw_28 (by decide) ?_
        refine aw_iconst (v := 1) dX10_saw_29 (by decide) ?_
        refine aw_aload_n 0 dX10_saw_30 rfl rfl ?_
        refine gf_X10_4 fl_X10_29 (lk131 hG) dX10_saw_31 ?_
        refine aw_ishl dX10_saw_34 ?_
        refine aw_iconst (v := 1) dX10_saw_35 (by decide) ?_
        refine aw_isub dX10_saw_36 ?_
        refine aw_i2l dX10_saw_37 ?_
        refine aw_callS wv_X10_in (M_X10_in trivial  h) ml_X10_25 rfl rfl (Nat.le_of_ble_eq_true rfl) ⟨rfl, rfl⟩ ⟨Nat.le_of_ble_eq_true rfl, Nat.le_of_ble_eq_true rfl⟩ ⟨Nat.le_refl _, Nat.le_refl _⟩ dX10_saw_38 (aw_ki fun r_12 I_13 J_14 h => ?_)
        refine aw_zeq 53 dX10_saw_41 (by decide) (fun c_15 => ?_) (fun c_15 => ?_)
        · have h := sw_if.t h c_15
          refine aw_iconst (v := (-1)) dX10_saw_53 (by decide) ?_
          exact aw_iret rfl dX10_saw_54 ⟨rfl, _, rfl, h⟩
        · have h := sw_if.f h c_15
          refine aw_aload_n 0 dX10_saw_44 rfl rfl ?_
          refine gf_X10_54 fl_X10_85 (lk131 hG) dX10_saw_45 ?_
          refine aw_bipush (v := 8) dX10_saw_48 (by decide) ?_
          refine aw_jne 55 dX10_saw_50 (by decide) (fun c_16 => ?_) (fun c_16 => ?_)
          · have h := sw_if.f h c_16
            refine aw_aload_n 0 dX10_saw_55 rfl rfl ?_
            refine gf_X10_55 fl_X10_418 (lk131 hG) (lr131_55 hG) dX10_saw_56 ?_
            refine aw_aload_n 0 dX10_saw_59 rfl rfl ?_
            refine gf_X10_54 fl_X10_85 (lk131 hG) dX10_saw_60 ?_
            refine aw_iload_n 1 dX10_saw_63 rfl rfl ?_
            obtain ⟨hi_17, h⟩ := h
            refine aw_ist dX10_saw_64 (lk158 hG) (ln158 hG) hi_17 (aw_nameI fun I_18 e_19 => ?_)
            have h := h I_18 e_19
            refine aw_aload_n 0 dX10_saw_65 rfl rfl ?_
            refine gf_X10_56 fl_X10_421 (lk131 hG) (lr131_56 hG) dX10_saw_66 ?_
            refine aw_aload_n 0 dX10_saw_69 rfl rfl ?_
            refine gf_X10_54 fl_X10_85 (lk131 hG) dX10_saw_70 ?_
            refine aw_iload_n 2 dX10_saw_73 rfl rfl ?_
            obtain ⟨hi_20, h⟩ := h
            refine aw_ist dX10_saw_74 (lk159 hG) (ln159 hG) hi_20 (aw_nameI fun I_21 e_22 => ?_)
            have h := h I_21 e_22
            refine aw_aload_n 0 dX10_saw_75 rfl rfl ?_
            refine gf_X10_57 fl_X10_424 (lk131 hG) (lr131_57 hG) dX10_saw_76 ?_
            refine aw_aload_n 0 dX10_saw_79 rfl rfl ?_
            refine gf_X10_54 fl_X10_85 (lk131 hG) dX10_saw_80 ?_
            refine aw_iload_n 3 dX10_saw_83 rfl rfl ?_
            obtain ⟨hi_23, h⟩ := h
            refine aw_ist dX10_saw_84 (lk160 hG) (ln160 hG) hi_23 (aw_nameI fun I_24 e_25 => ?_)
            have h := h I_24 e_25
            refine aw_aload_n 0 dX10_saw_85 rfl rfl ?_
            refine aw_dup dX10_saw_86 rfl ?_
            refine gf_X10_54 fl_X10_85 (lk131 hG) dX10_saw_87 ?_
            refine aw_iconst (v := 1) dX10_saw_90 (by decide) ?_
            refine aw_iadd dX10_saw_91 ?_
            refine pf_X10_54 fl_X10_85 (lk131 hG) dX10_saw_92 (aw_nameI fun I_26 e_27 => ?_)
            have h := h I_26 e_27
            refine aw_aload_n 0 dX10_saw_95 rfl rfl ?_
            refine gf_X10_54 fl_X10_85 (lk131 hG) dX10_saw_96 ?_
            exact aw_iret rfl dX10_saw_99 ⟨rfl, _, rfl, h⟩
          · have h := sw_if.t h c_16
            refine aw_iconst (v := (-1)) dX10_saw_53 (by decide) ?_
            exact aw_iret rfl dX10_saw_54 ⟨rfl, _, rfl, h⟩
theorem M_X10_saw {l : Launch} {D : va_G} {cy : Nat → ClassId} {sz : Nat} {G : sw_G} (hG : sw_lay G)   {Q : Int32 → sw_I → sw_J → Prop} {x1 : Int32} {x2 : Int32} {x3 : Int32} {I : sw_I} {J : sw_J} (h : wp_X10_saw x1 x2 x3 I J Q) : Met l yX10_saw (Cond.code yX10_saw cX10_saw 4 (some .int) :: sw_T) rm_X10_saw (sw_Pc D cy sz [.ref (sz + 131), .int x1, .int x2, .int x3] G I J) (sw_Q D cy sz (sw_qi G Q)) 0 0 (fun q => sz ≤ q) :=
  sw_met (by decide) (fun q => by cases q) (Nat.le_of_ble_eq_true rfl) rfl (t_X10_saw hG  h)
-- X10_forget
abbrev rm_X10_forget : Room := { frames := 0, cells := 0, slots := 0, locals := 0 }
def wp_X10_forget  (I : sw_I) (J : sw_J) (Q : Int32 → sw_I → sw_J → Prop) : Prop :=
  ∀ I_1 : sw_I, I_1 = sw_up I 131 0 (0 : Int32) → ∀ y_3 : Int32, y_3 = (I_1 131 54) → ∀ I_5 : sw_I, I_5 = sw_up I_1 131 54 (0 : Int32) → Q y_3 I_5 J
set_option maxRecDepth 20000 in
theorem t_X10_forget {l : Launch} {D : va_G} {cy : Nat → ClassId} {sz : Nat} {G : sw_G} (hG : sw_lay G)   {Q : Int32 → sw_I → sw_J → Prop}  {I : sw_I} {J : sw_J} (h : wp_X10_forget  I J Q) : AW l D cy sz RX10 cX10_forget 2 (some .int) false rm_X10_forget 0 0 (sw_qi G Q) 0 0 G I J 0 [(0, .ref (sz + 131))] [] := by
  unfold wp_X10_forget at h
  refine aw_aload_n 0 dX10_forget_0 rfl rfl ?_
  refine aw_iconst (v := 0) dX10_forget_1 (by decide) ?_
  refine pf_X10_0 fl_X10_3 (lk131 hG) dX10_forget_2 (aw_nameI fun I_1 e_2 => ?_)
  have h := h I_1 e_2
  refine aw_aload_n 0 dX10_forget_5 rfl rfl ?_
  refine gf_X10_54 fl_X10_85 (lk131 hG) dX10_forget_6 ?_
  refine aw_topi (fun y_3 e_4 => ?_)
  have h := h y_3 e_4
  refine aw_istore_n (lv' := [(1, .int y_3), (0, .ref (sz + 131))]) dX10_forget_9 rfl (by decide) rfl ?_
  refine aw_aload_n 1 dX10_forget_10 rfl rfl ?_
  refine aw_iconst (v := 0) dX10_forget_11 (by decide) ?_
  refine pf_X10_54 fl_X10_85 (lk131 hG) dX10_forget_12 (aw_nameI fun I_5 e_6 => ?_)
  have h := h I_5 e_6
  refine aw_iload_n 0 dX10_forget_15 rfl rfl ?_
  exact aw_iret rfl dX10_forget_16 ⟨rfl, _, rfl, h⟩
theorem M_X10_forget {l : Launch} {D : va_G} {cy : Nat → ClassId} {sz : Nat} {G : sw_G} (hG : sw_lay G)   {Q : Int32 → sw_I → sw_J → Prop}  {I : sw_I} {J : sw_J} (h : wp_X10_forget  I J Q) : Met l yX10_forget (Cond.code yX10_forget cX10_forget 2 (some .int) :: sw_T) rm_X10_forget (sw_Pc D cy sz [.ref (sz + 131)] G I J) (sw_Q D cy sz (sw_qi G Q)) 0 0 (fun q => sz ≤ q) :=
  sw_met (by decide) (fun q => by cases q) (Nat.le_of_ble_eq_true rfl) rfl (t_X10_forget hG  h)
-- X10_keep
abbrev rm_X10_keep : Room := { frames := 1, cells := 0, slots := 0, locals := 25 }
def wb_X10_keep_38  (K38 : Int32 → Int32 → sw_I → sw_J → Prop) (Q : Int32 → sw_I → sw_J → Prop) (x1 : Int32) (x2 : Int32) (I : sw_I) (J : sw_J) : Prop :=
  sw_if (x2 < (33 : Int32)) (vp_in x2 33 ∧ vp_in (((33 : Int32) * x1) + x2) 99 ∧ ∀ I_4 : sw_I, I_4 = sw_up I 164 (((33 : Int32) * x1) + x2).toNatClampNeg (I 135 x2.toNatClampNeg) → ∀ y_6 : Int32, y_6 = x2 + 1 → K38 x1 y_6 I_4 J) (Q 1 I J)
def wl_X10_keep_38   (Q : Int32 → sw_I → sw_J → Prop) : Nat → Int32 → Int32 → sw_I → sw_J → Prop
  | 0 => fun _ _ _ _ => False
  | n + 1 => fun x1 x2 I J => wb_X10_keep_38  (wl_X10_keep_38   Q n) Q x1 x2 I J
def wp_X10_keep (x1 : Int32) (I : sw_I) (J : sw_J) (Q : Int32 → sw_I → sw_J → Prop) : Prop :=
  ∀ I_1 : sw_I, I_1 = sw_up I 131 0 (0 : Int32) → wp_X10_in x1.toInt64 0 2 I_1 J (fun r_3 I_4 J_5 => sw_if (r_3 = 0) (Q 0 I_4 J_5) (vp_in x1 3 ∧ ∀ I_8 : sw_I, I_8 = sw_up I_4 162 x1.toNatClampNeg (1 : Int32) → vp_in x1 3 ∧ ∀ I_11 : sw_I, I_11 = sw_up I_8 163 x1.toNatClampNeg (I_8 131 6) → ∃ n_13 : Nat, wl_X10_keep_38   Q n_13 x1 0 I_11 J_5))
set_option maxRecDepth 20000 in
theorem tb_X10_keep_38 {l : Launch} {D : va_G} {cy : Nat → ClassId} {sz : Nat} {G : sw_G} (hG : sw_lay G)   {Q : Int32 → sw_I → sw_J → Prop} {K38 : Int32 → Int32 → sw_I → sw_J → Prop} (hK38 : ∀ (x1 : Int32) (x2 : Int32) (I : sw_I) (J : sw_J), K38 x1 x2 I J → AW l D cy sz RX10 cX10_keep 3 (some .boolean) false rm_X10_keep 0 0 (sw_qi G Q) 0 0 G I J 38 [(0, .ref (sz + 131)), (1, .int x1), (2, .int x2)] []) {x1 : Int32} {x2 : Int32} {I : sw_I} {J : sw_J} (h : wb_X10_keep_38  K38 Q x1 x2 I J) : AW l D cy sz RX10 cX10_keep 3 (some .boolean) false rm_X10_keep 0 0 (sw_qi G Q) 0 0 G I J 38 [(0, .ref (sz + 131)), (1, .int x1), (2, .int x2)] [] := by
  unfold wb_X10_keep_38 at h
  refine aw_iload_n 2 dX10_keep_38 rfl rfl ?_
  refine aw_bipush (v := 33) dX10_keep_39 (by decide) ?_
  refine aw_jge 67 dX10_keep_41 (by decide) (fun c_1 => ?_) (fun c_1 => ?_)
  · have h := sw_if.f h c_1
    refine aw_iconst (v := 1) dX10_keep_67 (by decide) ?_
    exact aw_zret rfl rfl dX10_keep_68 ⟨rfl, _, rfl, h⟩
  · have h := sw_if.t h c_1
    refine aw_aload_n 0 dX10_keep_44 rfl rfl ?_
    refine gf_X10_61 fl_X10_465 (lk131 hG) (lr131_61 hG) dX10_keep_45 ?_
    refine aw_bipush (v := 33) dX10_keep_48 (by decide) ?_
    refine aw_iload_n 1 dX10_keep_50 rfl rfl ?_
    refine aw_imul dX10_keep_51 ?_
    refine aw_iload_n 2 dX10_keep_52 rfl rfl ?_
    refine aw_iadd dX10_keep_53 ?_
    refine aw_aload_n 0 dX10_keep_54 rfl rfl ?_
    refine gf_X10_9 fl_X10_79 (lk131 hG) (lr131_9 hG) dX10_keep_55 ?_
    refine aw_iload_n 2 dX10_keep_58 rfl rfl ?_
    obtain ⟨hi_2, h⟩ := h
    refine aw_ild dX10_keep_59 (lk135 hG) (ln135 hG) hi_2 ?_
    obtain ⟨hi_3, h⟩ := h
    refine aw_ist dX10_keep_60 (lk164 hG) (ln164 hG) hi_3 (aw_nameI fun I_4 e_5 => ?_)
    have h := h I_4 e_5
    obtain ⟨y_6, e_7⟩ : ∃ q : Int32, q = x2 + 1 := ⟨_, rfl⟩
    have h := h y_6 e_7
    refine aw_iinc (lv' := [(2, .int y_6), (0, .ref (sz + 131)), (1, .int x1)]) 2 dX10_keep_61 rfl (by rw [e_7]; rfl) (by decide) rfl ?_
    refine aw_goto 38 dX10_keep_64 (by decide) ?_
    refine aw_sub [1, 2, 0] rfl ?_
    exact hK38 x1 y_6 I_4 J h
set_option maxRecDepth 20000 in
theorem tl_X10_keep_38 {l : Launch} {D : va_G} {cy : Nat → ClassId} {sz : Nat} {G : sw_G} (hG : sw_lay G)   {Q : Int32 → sw_I → sw_J → Prop} : ∀ (n : Nat) (x1 : Int32) (x2 : Int32) (I : sw_I) (J : sw_J), wl_X10_keep_38   Q n x1 x2 I J → AW l D cy sz RX10 cX10_keep 3 (some .boolean) false rm_X10_keep 0 0 (sw_qi G Q) 0 0 G I J 38 [(0, .ref (sz + 131)), (1, .int x1), (2, .int x2)] [] := by
  intro n
  induction n with
  | zero => intro x1 x2 I J h; exact False.elim h
  | succ n ih => intro x1 x2 I J h; exact tb_X10_keep_38 hG  ih h
set_option maxRecDepth 20000 in
theorem t_X10_keep {l : Launch} {D : va_G} {cy : Nat → ClassId} {sz : Nat} {G : sw_G} (hG : sw_lay G)   {Q : Int32 → sw_I → sw_J → Prop} {x1 : Int32} {I : sw_I} {J : sw_J} (h : wp_X10_keep x1 I J Q) : AW l D cy sz RX10 cX10_keep 3 (some .boolean) false rm_X10_keep 0 0 (sw_qi G Q) 0 0 G I J 0 [(0, .ref (sz + 131)), (1, .int x1)] [] := by
  unfold wp_X10_keep at h
  refine aw_aload_n 0 dX10_keep_0 rfl rfl ?_
  refine aw_iconst (v := 0) dX10_keep_1 (by decide) ?_
  refine pf_X10_0 fl_X10_3 (lk131 hG) dX10_keep_2 (aw_nameI fun I_1 e_2 => ?_)
  have h := h I_1 e_2
  refine aw_iload_n 1 dX10_keep_5 rfl rfl ?_
  refine aw_i2l dX10_keep_6 ?_
  refine aw_lconst (v := 0) dX10_keep_7 (by decide) ?_
  refine aw_ldc2 (v := 2) dX10_keep_8 k_X10_72 ?_
  refine aw_callS wv_X10_in (M_X10_in trivial  h) ml_X10_25 rfl rfl (Nat.le_of_ble_eq_true rfl) ⟨rfl, rfl⟩ ⟨Nat.le_of_ble_eq_true rfl, Nat.le_of_ble_eq_true rfl⟩ ⟨Nat.le_refl _, Nat.le_refl _⟩ dX10_keep_11 (aw_ki fun r_3 I_4 J_5 h => ?_)
  refine aw_zne 19 dX10_keep_14 (by decide) (fun c_6 => ?_) (fun c_6 => ?_)
  · have h := sw_if.f h c_6
    refine aw_aload_n 0 dX10_keep_19 rfl rfl ?_
    refine gf_X10_59 fl_X10_458 (lk131 hG) (lr131_59 hG) dX10_keep_20 ?_
    refine aw_iload_n 1 dX10_keep_23 rfl rfl ?_
    refine aw_iconst (v := 1) dX10_keep_24 (by decide) ?_
    obtain ⟨hi_7, h⟩ := h
    refine aw_zst dX10_keep_25 (lk162 hG) (ln162 hG) hi_7 rfl (aw_nameI fun I_8 e_9 => ?_)
    have h := h I_8 e_9
    refine aw_aload_n 0 dX10_keep_26 rfl rfl ?_
    refine gf_X10_60 fl_X10_462 (lk131 hG) (lr131_60 hG) dX10_keep_27 ?_
    refine aw_iload_n 1 dX10_keep_30 rfl rfl ?_
    refine aw_aload_n 0 dX10_keep_31 rfl rfl ?_
    refine gf_X10_6 fl_X10_88 (lk131 hG) dX10_keep_32 ?_
    obtain ⟨hi_10, h⟩ := h
    refine aw_ist dX10_keep_35 (lk163 hG) (ln163 hG) hi_10 (aw_nameI fun I_11 e_12 => ?_)
    have h := h I_11 e_12
    refine aw_iconst (v := 0) dX10_keep_36 (by decide) ?_
    refine aw_istore_n (lv' := [(2, .int 0), (0, .ref (sz + 131)), (1, .int x1)]) dX10_keep_37 rfl (by decide) rfl ?_
    refine aw_sub [1, 2, 0] rfl ?_
    obtain ⟨n_13, h⟩ := h
    exact tl_X10_keep_38 hG   n_13 x1 0 I_11 J_5 h
  · have h := sw_if.t h c_6
    refine aw_iconst (v := 0) dX10_keep_17 (by decide) ?_
    exact aw_zret rfl rfl dX10_keep_18 ⟨rfl, _, rfl, h⟩
theorem M_X10_keep {l : Launch} {D : va_G} {cy : Nat → ClassId} {sz : Nat} {G : sw_G} (hG : sw_lay G)   {Q : Int32 → sw_I → sw_J → Prop} {x1 : Int32} {I : sw_I} {J : sw_J} (h : wp_X10_keep x1 I J Q) : Met l yX10_keep (Cond.code yX10_keep cX10_keep 3 (some .boolean) :: sw_T) rm_X10_keep (sw_Pc D cy sz [.ref (sz + 131), .int x1] G I J) (sw_Q D cy sz (sw_qi G Q)) 0 0 (fun q => sz ≤ q) :=
  sw_met (by decide) (fun q => by cases q) (Nat.le_of_ble_eq_true rfl) rfl (t_X10_keep hG  h)
-- X10_again
abbrev rm_X10_again : Room := { frames := 1, cells := 0, slots := 0, locals := 25 }
def wb_X10_again_43  (K43 : Int32 → Int32 → sw_I → sw_J → Prop) (Q : Int32 → sw_I → sw_J → Prop) (x1 : Int32) (x2 : Int32) (I : sw_I) (J : sw_J) : Prop :=
  sw_if (x2 < (33 : Int32)) (vp_in (((33 : Int32) * x1) + x2) 99 ∧ vp_in x2 33 ∧ ∀ I_6 : sw_I, I_6 = sw_up I 135 x2.toNatClampNeg (I 164 (((33 : Int32) * x1) + x2).toNatClampNeg) → ∀ y_8 : Int32, y_8 = x2 + 1 → K43 x1 y_8 I_6 J) (∀ I_2 : sw_I, I_2 = sw_up I 131 32 (0 : Int32) → Q 1 I_2 J)
def wl_X10_again_43   (Q : Int32 → sw_I → sw_J → Prop) : Nat → Int32 → Int32 → sw_I → sw_J → Prop
  | 0 => fun _ _ _ _ => False
  | n + 1 => fun x1 x2 I J => wb_X10_again_43  (wl_X10_again_43   Q n) Q x1 x2 I J
def wp_X10_again (x1 : Int32) (I : sw_I) (J : sw_J) (Q : Int32 → sw_I → sw_J → Prop) : Prop :=
  ∀ I_1 : sw_I, I_1 = sw_up I 131 0 (0 : Int32) → wp_X10_in x1.toInt64 0 2 I_1 J (fun r_3 I_4 J_5 => sw_if (r_3 = 0) (Q 0 I_4 J_5) (vp_in x1 3 ∧ sw_if ((I_4 162 x1.toNatClampNeg) = 0) (Q 0 I_4 J_5) (vp_in x1 3 ∧ sw_if ((I_4 163 x1.toNatClampNeg) = (I_4 131 6)) (∃ n_11 : Nat, wl_X10_again_43   Q n_11 x1 0 I_4 J_5) (Q 0 I_4 J_5))))
set_option maxRecDepth 20000 in
theorem tb_X10_again_43 {l : Launch} {D : va_G} {cy : Nat → ClassId} {sz : Nat} {G : sw_G} (hG : sw_lay G)   {Q : Int32 → sw_I → sw_J → Prop} {K43 : Int32 → Int32 → sw_I → sw_J → Prop} (hK43 : ∀ (x1 : Int32) (x2 : Int32) (I : sw_I) (J : sw_J), K43 x1 x2 I J → AW l D cy sz RX10 cX10_again 3 (some .boolean) false rm_X10_again 0 0 (sw_qi G Q) 0 0 G I J 43 [(0, .ref (sz + 131)), (1, .int x1), (2, .int x2)] []) {x1 : Int32} {x2 : Int32} {I : sw_I} {J : sw_J} (h : wb_X10_again_43  K43 Q x1 x2 I J) : AW l D cy sz RX10 cX10_again 3 (some .boolean) false rm_X10_again 0 0 (sw_qi G Q) 0 0 G I J 43 [(0, .ref (sz + 131)), (1, .int x1), (2, .int x2)] [] := by
  unfold wb_X10_again_43 at h
  refine aw_iload_n 2 dX10_again_43 rfl rfl ?_
  refine aw_bipush (v := 33) dX10_again_44 (by decide) ?_
  refine aw_jge 72 dX10_again_46 (by decide) (fun c_1 => ?_) (fun c_1 => ?_)
  · have h := sw_if.f h c_1
    refine aw_aload_n 0 dX10_again_72 rfl rfl ?_
    refine aw_iconst (v := 0) dX10_again_73 (by decide) ?_
    refine pf_X10_32 fl_X10_82 (lk131 hG) dX10_again_74 (aw_nameI fun I_2 e_3 => ?_)
    have h := h I_2 e_3
    refine aw_iconst (v := 1) dX10_again_77 (by decide) ?_
    exact aw_zret rfl rfl dX10_again_78 ⟨rfl, _, rfl, h⟩
  · have h := sw_if.t h c_1
    refine aw_aload_n 0 dX10_again_49 rfl rfl ?_
    refine gf_X10_9 fl_X10_79 (lk131 hG) (lr131_9 hG) dX10_again_50 ?_
    refine aw_iload_n 2 dX10_again_53 rfl rfl ?_
    refine aw_aload_n 0 dX10_again_54 rfl rfl ?_
    refine gf_X10_61 fl_X10_465 (lk131 hG) (lr131_61 hG) dX10_again_55 ?_
    refine aw_bipush (v := 33) dX10_again_58 (by decide) ?_
    refine aw_iload_n 1 dX10_again_60 rfl rfl ?_
    refine aw_imul dX10_again_61 ?_
    refine aw_iload_n 2 dX10_again_62 rfl rfl ?_
    refine aw_iadd dX10_again_63 ?_
    obtain ⟨hi_4, h⟩ := h
    refine aw_ild dX10_again_64 (lk164 hG) (ln164 hG) hi_4 ?_
    obtain ⟨hi_5, h⟩ := h
    refine aw_ist dX10_again_65 (lk135 hG) (ln135 hG) hi_5 (aw_nameI fun I_6 e_7 => ?_)
    have h := h I_6 e_7
    obtain ⟨y_8, e_9⟩ : ∃ q : Int32, q = x2 + 1 := ⟨_, rfl⟩
    have h := h y_8 e_9
    refine aw_iinc (lv' := [(2, .int y_8), (0, .ref (sz + 131)), (1, .int x1)]) 2 dX10_again_66 rfl (by rw [e_9]; rfl) (by decide) rfl ?_
    refine aw_goto 43 dX10_again_69 (by decide) ?_
    refine aw_sub [1, 2, 0] rfl ?_
    exact hK43 x1 y_8 I_6 J h
set_option maxRecDepth 20000 in
theorem tl_X10_again_43 {l : Launch} {D : va_G} {cy : Nat → ClassId} {sz : Nat} {G : sw_G} (hG : sw_lay G)   {Q : Int32 → sw_I → sw_J → Prop} : ∀ (n : Nat) (x1 : Int32) (x2 : Int32) (I : sw_I) (J : sw_J), wl_X10_again_43   Q n x1 x2 I J → AW l D cy sz RX10 cX10_again 3 (some .boolean) false rm_X10_again 0 0 (sw_qi G Q) 0 0 G I J 43 [(0, .ref (sz + 131)), (1, .int x1), (2, .int x2)] [] := by
  intro n
  induction n with
  | zero => intro x1 x2 I J h; exact False.elim h
  | succ n ih => intro x1 x2 I J h; exact tb_X10_again_43 hG  ih h
set_option maxRecDepth 20000 in
theorem t_X10_again {l : Launch} {D : va_G} {cy : Nat → ClassId} {sz : Nat} {G : sw_G} (hG : sw_lay G)   {Q : Int32 → sw_I → sw_J → Prop} {x1 : Int32} {I : sw_I} {J : sw_J} (h : wp_X10_again x1 I J Q) : AW l D cy sz RX10 cX10_again 3 (some .boolean) false rm_X10_again 0 0 (sw_qi G Q) 0 0 G I J 0 [(0, .ref (sz + 131)), (1, .int x1)] [] := by
  unfold wp_X10_again at h
  refine aw_aload_n 0 dX10_again_0 rfl rfl ?_
  refine aw_iconst (v := 0) dX10_again_1 (by decide) ?_
  refine pf_X10_0 fl_X10_3 (lk131 hG) dX10_again_2 (aw_nameI fun I_1 e_2 => ?_)
  have h := h I_1 e_2
  refine aw_iload_n 1 dX10_again_5 rfl rfl ?_
  refine aw_i2l dX10_again_6 ?_
  refine aw_lconst (v := 0) dX10_again_7 (by decide) ?_
  refine aw_ldc2 (v := 2) dX10_again_8 k_X10_72 ?_
  refine aw_callS wv_X10_in (M_X10_in trivial  h) ml_X10_25 rfl rfl (Nat.le_of_ble_eq_true rfl) ⟨rfl, rfl⟩ ⟨Nat.le_of_ble_eq_true rfl, Nat.le_of_ble_eq_true rfl⟩ ⟨Nat.le_refl _, Nat.le_refl _⟩ dX10_again_11 (aw_ki fun r_3 I_4 J_5 h => ?_)
  refine aw_zeq 39 dX10_again_14 (by decide) (fun c_6 => ?_) (fun c_6 => ?_)
  · have h := sw_if.t h c_6
    refine aw_iconst (v := 0) dX10_again_39 (by decide) ?_
    exact aw_zret rfl rfl dX10_again_40 ⟨rfl, _, rfl, h⟩
  · have h := sw_if.f h c_6
    refine aw_aload_n 0 dX10_again_17 rfl rfl ?_
    refine gf_X10_59 fl_X10_458 (lk131 hG) (lr131_59 hG) dX10_again_18 ?_
    refine aw_iload_n 1 dX10_again_21 rfl rfl ?_
    obtain ⟨hi_7, h⟩ := h
    refine aw_zld dX10_again_22 (lk162 hG) (ln162 hG) hi_7 ?_
    refine aw_zeq 39 dX10_again_23 (by decide) (fun c_8 => ?_) (fun c_8 => ?_)
    · have h := sw_if.t h c_8
      refine aw_iconst (v := 0) dX10_again_39 (by decide) ?_
      exact aw_zret rfl rfl dX10_again_40 ⟨rfl, _, rfl, h⟩
    · have h := sw_if.f h c_8
      refine aw_aload_n 0 dX10_again_26 rfl rfl ?_
      refine gf_X10_60 fl_X10_462 (lk131 hG) (lr131_60 hG) dX10_again_27 ?_
      refine aw_iload_n 1 dX10_again_30 rfl rfl ?_
      obtain ⟨hi_9, h⟩ := h
      refine aw_ild dX10_again_31 (lk163 hG) (ln163 hG) hi_9 ?_
      refine aw_aload_n 0 dX10_again_32 rfl rfl ?_
      refine gf_X10_6 fl_X10_88 (lk131 hG) dX10_again_33 ?_
      refine aw_jeq 41 dX10_again_36 (by decide) (fun c_10 => ?_) (fun c_10 => ?_)
      · have h := sw_if.t h c_10
        refine aw_iconst (v := 0) dX10_again_41 (by decide) ?_
        refine aw_istore_n (lv' := [(2, .int 0), (0, .ref (sz + 131)), (1, .int x1)]) dX10_again_42 rfl (by decide) rfl ?_
        refine aw_sub [1, 2, 0] rfl ?_
        obtain ⟨n_11, h⟩ := h
        exact tl_X10_again_43 hG   n_11 x1 0 I_4 J_5 h
      · have h := sw_if.f h c_10
        refine aw_iconst (v := 0) dX10_again_39 (by decide) ?_
        exact aw_zret rfl rfl dX10_again_40 ⟨rfl, _, rfl, h⟩
theorem M_X10_again {l : Launch} {D : va_G} {cy : Nat → ClassId} {sz : Nat} {G : sw_G} (hG : sw_lay G)   {Q : Int32 → sw_I → sw_J → Prop} {x1 : Int32} {I : sw_I} {J : sw_J} (h : wp_X10_again x1 I J Q) : Met l yX10_again (Cond.code yX10_again cX10_again 3 (some .boolean) :: sw_T) rm_X10_again (sw_Pc D cy sz [.ref (sz + 131), .int x1] G I J) (sw_Q D cy sz (sw_qi G Q)) 0 0 (fun q => sz ≤ q) :=
  sw_met (by decide) (fun q => by cases q) (Nat.le_of_ble_eq_true rfl) rfl (t_X10_again hG  h)
-- X10_count
abbrev rm_X10_count : Room := { frames := 1, cells := 0, slots := 0, locals := 23 }
def wp_X10_count (x1 : Int32) (I : sw_I) (J : sw_J) (Q : Int32 → sw_I → sw_J → Prop) : Prop :=
  ∀ I_1 : sw_I, I_1 = sw_up I 131 0 (0 : Int32) → sw_if (x1 = 0) (Q (I_1 131 3) I_1 J) (sw_if (x1 = 1) (Q (I_1 131 4) I_1 J) (sw_if (x1 = 2) (Q (I_1 135 (31 : Int32).toNatClampNeg) I_1 J) (sw_if (x1 = 3) (Q (I_1 135 (32 : Int32).toNatClampNeg) I_1 J) (sw_if (x1 = 4) (Q (I_1 135 (30 : Int32).toNatClampNeg) I_1 J) (sw_if (x1 = 5) (wp_X10_there 135 33 I_1 J (fun r_12 I_13 J_14 => Q (r_12 &&& ((I_13 135 (30 : Int32).toNatClampNeg) ^^^ (-1 : Int32))) I_13 J_14)) (sw_if (x1 = 6) (wp_X10_homeBits 135 33 I_1 J (fun r_17 I_18 J_19 => Q r_17 I_18 J_19)) (sw_if (x1 = 7) (Q (I_1 131 5) I_1 J) (sw_if (x1 = 8) (Q (I_1 131 32) I_1 J) (sw_if (x1 = 9) (Q (I_1 131 54) I_1 J) (sw_if (x1 = 10) (Q (I_1 131 1) I_1 J) (sw_if (x1 = 11) (Q (I_1 131 12) I_1 J) (Q (-100 : Int32) I_1 J))))))))))))
set_option maxRecDepth 20000 in
theorem t_X10_count {l : Launch} {D : va_G} {cy : Nat → ClassId} {sz : Nat} {G : sw_G} (hG : sw_lay G)   {Q : Int32 → sw_I → sw_J → Prop} {x1 : Int32} {I : sw_I} {J : sw_J} (h : wp_X10_count x1 I J Q) : AW l D cy sz RX10 cX10_count 2 (some .int) false rm_X10_count 0 0 (sw_qi G Q) 0 0 G I J 0 [(0, .ref (sz + 131)), (1, .int x1)] [] := by
  unfold wp_X10_count at h
  refine aw_aload_n 0 dX10_count_0 rfl rfl ?_
  refine aw_iconst (v := 0) dX10_count_1 (by decide) ?_
  refine pf_X10_0 fl_X10_3 (lk131 hG) dX10_count_2 (aw_nameI fun I_1 e_2 => ?_)
  have h := h I_1 e_2
  refine aw_iload_n 1 dX10_count_5 rfl rfl ?_
  by_cases c_3 : x1 = 0
  · have h := sw_if.t h c_3; refine aw_tableIn 68 dX10_count_6 (by rw [c_3]; decide) (by rw [c_3]; decide) (by rw [c_3]; rfl) (by decide) ?_
    refine aw_aload_n 0 dX10_count_68 rfl rfl ?_
    refine gf_X10_3 fl_X10_22 (lk131 hG) dX10_count_69 ?_
    exact aw_iret rfl dX10_count_72 ⟨rfl, _, rfl, h⟩
  · have h := sw_if.f h c_3
    by_cases c_4 : x1 = 1
    · have h := sw_if.t h c_4; refine aw_tableIn 73 dX10_count_6 (by rw [c_4]; decide) (by rw [c_4]; decide) (by rw [c_4]; rfl) (by decide) ?_
      refine aw_aload_n 0 dX10_count_73 rfl rfl ?_
      refine gf_X10_4 fl_X10_29 (lk131 hG) dX10_count_74 ?_
      exact aw_iret rfl dX10_count_77 ⟨rfl, _, rfl, h⟩
    · have h := sw_if.f h c_4
      by_cases c_5 : x1 = 2
      · have h := sw_if.t h c_5; refine aw_tableIn 78 dX10_count_6 (by rw [c_5]; decide) (by rw [c_5]; decide) (by rw [c_5]; rfl) (by decide) ?_
        refine aw_aload_n 0 dX10_count_78 rfl rfl ?_
        refine gf_X10_9 fl_X10_79 (lk131 hG) (lr131_9 hG) dX10_count_79 ?_
        refine aw_bipush (v := 31) dX10_count_82 (by decide) ?_
        refine aw_ild dX10_count_84 (lk135 hG) (ln135 hG) (by unfold vp_in; decide) ?_
        exact aw_iret rfl dX10_count_85 ⟨rfl, _, rfl, h⟩
      · have h := sw_if.f h c_5
        by_cases c_7 : x1 = 3
        · have h := sw_if.t h c_7; refine aw_tableIn 86 dX10_count_6 (by rw [c_7]; decide) (by rw [c_7]; decide) (by rw [c_7]; rfl) (by decide) ?_
          refine aw_aload_n 0 dX10_count_86 rfl rfl ?_
          refine gf_X10_9 fl_X10_79 (lk131 hG) (lr131_9 hG) dX10_count_87 ?_
          refine aw_bipush (v := 32) dX10_count_90 (by decide) ?_
          refine aw_ild dX10_count_92 (lk135 hG) (ln135 hG) (by unfold vp_in; decide) ?_
          exact aw_iret rfl dX10_count_93 ⟨rfl, _, rfl, h⟩
        · have h := sw_if.f h c_7
          by_cases c_9 : x1 = 4
          · have h := sw_if.t h c_9; refine aw_tableIn 94 dX10_count_6 (by rw [c_9]; decide) (by rw [c_9]; decide) (by rw [c_9]; rfl) (by decide) ?_
            refine aw_aload_n 0 dX10_count_94 rfl rfl ?_
            refine gf_X10_9 fl_X10_79 (lk131 hG) (lr131_9 hG) dX10_count_95 ?_
            refine aw_bipush (v := 30) dX10_count_98 (by decide) ?_
            refine aw_ild dX10_count_100 (lk135 hG) (ln135 hG) (by unfold vp_in; decide) ?_
            exact aw_iret rfl dX10_count_101 ⟨rfl, _, rfl, h⟩
          · have h := sw_if.f h c_9
            by_cases c_11 : x1 = 5
            · have h := sw_if.t h c_11; refine aw_tableIn 102 dX10_count_6 (by rw [c_11]; decide) (by rw [c_11]; decide) (by rw [c_11]; rfl) (by decide) ?_
              refine aw_aload_n 0 dX10_count_102 rfl rfl ?_
              refine aw_aload_n 0 dX10_count_103 rfl rfl ?_
              refine gf_X10_9 fl_X10_79 (lk131 hG) (lr131_9 hG) dX10_count_104 ?_
              refine aw_callV wv_X10_there (M_X10_there hG ⟨(lk135 hG), (ln135 hG)⟩ h) ml_X10_295 rfl (by decide) (lk131 hG) rfl rfl (Nat.le_of_ble_eq_true rfl) ⟨rfl, rfl⟩ ⟨Nat.le_of_ble_eq_true rfl, Nat.le_of_ble_eq_true rfl⟩ ⟨Nat.le_refl _, Nat.le_refl _⟩ dX10_count_107 (aw_ki fun r_12 I_13 J_14 h => ?_)
              refine aw_aload_n 0 dX10_count_110 rfl rfl ?_
              refine gf_X10_9 fl_X10_79 (lk131 hG) (lr131_9 hG) dX10_count_111 ?_
              refine aw_bipush (v := 30) dX10_count_114 (by decide) ?_
              refine aw_ild dX10_count_116 (lk135 hG) (ln135 hG) (by unfold vp_in; decide) ?_
              refine aw_iconst (v := (-1)) dX10_count_117 (by decide) ?_
              refine aw_ixor dX10_count_118 ?_
              refine aw_iand dX10_count_119 ?_
              exact aw_iret rfl dX10_count_120 ⟨rfl, _, rfl, h⟩
            · have h := sw_if.f h c_11
              by_cases c_16 : x1 = 6
              · have h := sw_if.t h c_16; refine aw_tableIn 121 dX10_count_6 (by rw [c_16]; decide) (by rw [c_16]; decide) (by rw [c_16]; rfl) (by decide) ?_
                refine aw_aload_n 0 dX10_count_121 rfl rfl ?_
                refine aw_aload_n 0 dX10_count_122 rfl rfl ?_
                refine gf_X10_9 fl_X10_79 (lk131 hG) (lr131_9 hG) dX10_count_123 ?_
                refine aw_callV wv_X10_homeBits (M_X10_homeBits hG ⟨(lk135 hG), (ln135 hG)⟩ h) ml_X10_391 rfl (by decide) (lk131 hG) rfl rfl (Nat.le_of_ble_eq_true rfl) ⟨rfl, rfl⟩ ⟨Nat.le_of_ble_eq_true rfl, Nat.le_of_ble_eq_true rfl⟩ ⟨Nat.le_refl _, Nat.le_refl _⟩ dX10_count_126 (aw_ki fun r_17 I_18 J_19 h => ?_)
                exact aw_iret rfl dX10_count_129 ⟨rfl, _, rfl, h⟩
              · have h := sw_if.f h c_16
                by_cases c_20 : x1 = 7
                · have h := sw_if.t h c_20; refine aw_tableIn 130 dX10_count_6 (by rw [c_20]; decide) (by rw [c_20]; decide) (by rw [c_20]; rfl) (by decide) ?_
                  refine aw_aload_n 0 dX10_count_130 rfl rfl ?_
                  refine gf_X10_5 fl_X10_76 (lk131 hG) dX10_count_131 ?_
                  exact aw_iret rfl dX10_count_134 ⟨rfl, _, rfl, h⟩
                · have h := sw_if.f h c_20
                  by_cases c_21 : x1 = 8
                  · have h := sw_if.t h c_21; refine aw_tableIn 135 dX10_count_6 (by rw [c_21]; decide) (by rw [c_21]; decide) (by rw [c_21]; rfl) (by decide) ?_
                    refine aw_aload_n 0 dX10_count_135 rfl rfl ?_
                    refine gf_X10_32 fl_X10_82 (lk131 hG) dX10_count_136 ?_
                    exact aw_iret rfl dX10_count_139 ⟨rfl, _, rfl, h⟩
                  · have h := sw_if.f h c_21
                    by_cases c_22 : x1 = 9
                    · have h := sw_if.t h c_22; refine aw_tableIn 140 dX10_count_6 (by rw [c_22]; decide) (by rw [c_22]; decide) (by rw [c_22]; rfl) (by decide) ?_
                      refine aw_aload_n 0 dX10_count_140 rfl rfl ?_
                      refine gf_X10_54 fl_X10_85 (lk131 hG) dX10_count_141 ?_
                      exact aw_iret rfl dX10_count_144 ⟨rfl, _, rfl, h⟩
                    · have h := sw_if.f h c_22
                      by_cases c_23 : x1 = 10
                      · have h := sw_if.t h c_23; refine aw_tableIn 145 dX10_count_6 (by rw [c_23]; decide) (by rw [c_23]; decide) (by rw [c_23]; rfl) (by decide) ?_
                        refine aw_aload_n 0 dX10_count_145 rfl rfl ?_
                        refine gf_X10_1 fl_X10_15 (lk131 hG) dX10_count_146 ?_
                        exact aw_iret rfl dX10_count_149 ⟨rfl, _, rfl, h⟩
                      · have h := sw_if.f h c_23
                        by_cases c_24 : x1 = 11
                        · have h := sw_if.t h c_24; refine aw_tableIn 150 dX10_count_6 (by rw [c_24]; decide) (by rw [c_24]; decide) (by rw [c_24]; rfl) (by decide) ?_
                          refine aw_aload_n 0 dX10_count_150 rfl rfl ?_
                          refine gf_X10_12 fl_X10_32 (lk131 hG) dX10_count_151 ?_
                          exact aw_iret rfl dX10_count_154 ⟨rfl, _, rfl, h⟩
                        · have h := sw_if.f h c_24
                          refine aw_tableOut 155 dX10_count_6 (by have g0 := sw_ne c_3 (by decide : (0 : Int32).toInt = 0); have g1 := sw_ne c_4 (by decide : (1 : Int32).toInt = 1); have g2 := sw_ne c_5 (by decide : (2 : Int32).toInt = 2); have g3 := sw_ne c_7 (by decide : (3 : Int32).toInt = 3); have g4 := sw_ne c_9 (by decide : (4 : Int32).toInt = 4); have g5 := sw_ne c_11 (by decide : (5 : Int32).toInt = 5); have g6 := sw_ne c_16 (by decide : (6 : Int32).toInt = 6); have g7 := sw_ne c_20 (by decide : (7 : Int32).toInt = 7); have g8 := sw_ne c_21 (by decide : (8 : Int32).toInt = 8); have g9 := sw_ne c_22 (by decide : (9 : Int32).toInt = 9); have g10 := sw_ne c_23 (by decide : (10 : Int32).toInt = 10); have g11 := sw_ne c_24 (by decide : (11 : Int32).toInt = 11); omega) (by decide) ?_
                          refine aw_bipush (v := (-100)) dX10_count_155 (by decide) ?_
                          exact aw_iret rfl dX10_count_157 ⟨rfl, _, rfl, h⟩
theorem M_X10_count {l : Launch} {D : va_G} {cy : Nat → ClassId} {sz : Nat} {G : sw_G} (hG : sw_lay G)   {Q : Int32 → sw_I → sw_J → Prop} {x1 : Int32} {I : sw_I} {J : sw_J} (h : wp_X10_count x1 I J Q) : Met l yX10_count (Cond.code yX10_count cX10_count 2 (some .int) :: sw_T) rm_X10_count (sw_Pc D cy sz [.ref (sz + 131), .int x1] G I J) (sw_Q D cy sz (sw_qi G Q)) 0 0 (fun q => sz ≤ q) :=
  sw_met (by decide) (fun q => by cases q) (Nat.le_of_ble_eq_true rfl) rfl (t_X10_count hG  h)
-- X10_row
abbrev rm_X10_row : Room := { frames := 1, cells := 0, slots := 0, locals := 25 }
def wp_X10_row (x1 : Int32) (I : sw_I) (J : sw_J) (Q : Int64 → sw_I → sw_J → Prop) : Prop :=
  ∀ I_1 : sw_I, I_1 = sw_up I 131 0 (0 : Int32) → wp_X10_in x1.toInt64 0 (((I_1 131 1) - (1 : Int32)).toInt64) I_1 J (fun r_3 I_4 J_5 => sw_if (r_3 = 0) (∀ I_8 : sw_I, I_8 = sw_up I_4 131 0 (1 : Int32) → Q (0 : Int64) I_8 J_5) (vp_in x1 24 ∧ Q (J_5 132 x1.toNatClampNeg) I_4 J_5))
set_option maxRecDepth 20000 in
theorem t_X10_row {l : Launch} {D : va_G} {cy : Nat → ClassId} {sz : Nat} {G : sw_G} (hG : sw_lay G)   {Q : Int64 → sw_I → sw_J → Prop} {x1 : Int32} {I : sw_I} {J : sw_J} (h : wp_X10_row x1 I J Q) : AW l D cy sz RX10 cX10_row 2 (some .long) false rm_X10_row 0 0 (sw_ql G Q) 0 0 G I J 0 [(0, .ref (sz + 131)), (1, .int x1)] [] := by
  unfold wp_X10_row at h
  refine aw_aload_n 0 dX10_row_0 rfl rfl ?_
  refine aw_iconst (v := 0) dX10_row_1 (by decide) ?_
  refine pf_X10_0 fl_X10_3 (lk131 hG) dX10_row_2 (aw_nameI fun I_1 e_2 => ?_)
  have h := h I_1 e_2
  refine aw_iload_n 1 dX10_row_5 rfl rfl ?_
  refine aw_i2l dX10_row_6 ?_
  refine aw_lconst (v := 0) dX10_row_7 (by decide) ?_
  refine aw_aload_n 0 dX10_row_8 rfl rfl ?_
  refine gf_X10_1 fl_X10_15 (lk131 hG) dX10_row_9 ?_
  refine aw_iconst (v := 1) dX10_row_12 (by decide) ?_
  refine aw_isub dX10_row_13 ?_
  refine aw_i2l dX10_row_14 ?_
  refine aw_callS wv_X10_in (M_X10_in trivial  h) ml_X10_25 rfl rfl (Nat.le_of_ble_eq_true rfl) ⟨rfl, rfl⟩ ⟨Nat.le_of_ble_eq_true rfl, Nat.le_of_ble_eq_true rfl⟩ ⟨Nat.le_refl _, Nat.le_refl _⟩ dX10_row_15 (aw_ki fun r_3 I_4 J_5 h => ?_)
  refine aw_zne 28 dX10_row_18 (by decide) (fun c_6 => ?_) (fun c_6 => ?_)
  · have h := sw_if.f h c_6
    refine aw_aload_n 0 dX10_row_28 rfl rfl ?_
    refine gf_X10_2 fl_X10_11 (lk131 hG) (lr131_2 hG) dX10_row_29 ?_
    refine aw_iload_n 1 dX10_row_32 rfl rfl ?_
    obtain ⟨hi_7, h⟩ := h
    refine aw_lld dX10_row_33 (lk132 hG) (ln132 hG) hi_7 ?_
    exact aw_lret rfl dX10_row_34 ⟨rfl, _, rfl, h⟩
  · have h := sw_if.t h c_6
    refine aw_aload_n 0 dX10_row_21 rfl rfl ?_
    refine aw_iconst (v := 1) dX10_row_22 (by decide) ?_
    refine pf_X10_0 fl_X10_3 (lk131 hG) dX10_row_23 (aw_nameI fun I_8 e_9 => ?_)
    have h := h I_8 e_9
    refine aw_lconst (v := 0) dX10_row_26 (by decide) ?_
    exact aw_lret rfl dX10_row_27 ⟨rfl, _, rfl, h⟩
theorem M_X10_row {l : Launch} {D : va_G} {cy : Nat → ClassId} {sz : Nat} {G : sw_G} (hG : sw_lay G)   {Q : Int64 → sw_I → sw_J → Prop} {x1 : Int32} {I : sw_I} {J : sw_J} (h : wp_X10_row x1 I J Q) : Met l yX10_row (Cond.code yX10_row cX10_row 2 (some .long) :: sw_T) rm_X10_row (sw_Pc D cy sz [.ref (sz + 131), .int x1] G I J) (sw_Q D cy sz (sw_ql G Q)) 0 0 (fun q => sz ≤ q) :=
  sw_met (by decide) (fun q => by cases q) (Nat.le_of_ble_eq_true rfl) rfl (t_X10_row hG  h)
-- J6_numberOfTrailingZeros_0f7a4
abbrev rm_J6_numberOfTrailingZeros_0f7a4 : Room := { frames := 0, cells := 0, slots := 0, locals := 0 }
def wB_J6_numberOfTrailingZeros_0f7a4_74   (Q : Int32 → sw_I → sw_J → Prop) (x0 : Int32) (x1 : Int32) (I : sw_I) (J : sw_J) : Prop :=
  Q (x1 + ((x0.toUInt32 >>> ((1 : Int32).toUInt32 &&& Int32.toUInt32 31)).toInt32)) I J
def wB_J6_numberOfTrailingZeros_0f7a4_62   (Q : Int32 → sw_I → sw_J → Prop) (x0 : Int32) (x1 : Int32) (I : sw_I) (J : sw_J) : Prop :=
  sw_if ((4 : Int32) < x0) (∀ y_2 : Int32, y_2 = x1 + 2 → ∀ y_4 : Int32, y_4 = (x0.toUInt32 >>> ((2 : Int32).toUInt32 &&& Int32.toUInt32 31)).toInt32 → wB_J6_numberOfTrailingZeros_0f7a4_74   Q y_4 y_2 I J) (wB_J6_numberOfTrailingZeros_0f7a4_74   Q x0 x1 I J)
def wB_J6_numberOfTrailingZeros_0f7a4_49   (Q : Int32 → sw_I → sw_J → Prop) (x0 : Int32) (x1 : Int32) (I : sw_I) (J : sw_J) : Prop :=
  sw_if ((16 : Int32) < x0) (∀ y_2 : Int32, y_2 = x1 + 4 → ∀ y_4 : Int32, y_4 = (x0.toUInt32 >>> ((4 : Int32).toUInt32 &&& Int32.toUInt32 31)).toInt32 → wB_J6_numberOfTrailingZeros_0f7a4_62   Q y_4 y_2 I J) (wB_J6_numberOfTrailingZeros_0f7a4_62   Q x0 x1 I J)
def wB_J6_numberOfTrailingZeros_0f7a4_34   (Q : Int32 → sw_I → sw_J → Prop) (x0 : Int32) (x1 : Int32) (I : sw_I) (J : sw_J) : Prop :=
  sw_if ((256 : Int32) < x0) (∀ y_2 : Int32, y_2 = x1 + 8 → ∀ y_4 : Int32, y_4 = (x0.toUInt32 >>> ((8 : Int32).toUInt32 &&& Int32.toUInt32 31)).toInt32 → wB_J6_numberOfTrailingZeros_0f7a4_49   Q y_4 y_2 I J) (wB_J6_numberOfTrailingZeros_0f7a4_49   Q x0 x1 I J)
def wp_J6_numberOfTrailingZeros_0f7a4 (x0 : Int32) (I : sw_I) (J : sw_J) (Q : Int32 → sw_I → sw_J → Prop) : Prop :=
  ∀ y_1 : Int32, y_1 = (x0 ^^^ (-1 : Int32)) &&& (x0 - (1 : Int32)) → sw_if (0 < y_1) (sw_if ((65536 : Int32) < y_1) (∀ y_5 : Int32, y_5 = 1 + 16 → ∀ y_7 : Int32, y_7 = (y_1.toUInt32 >>> ((16 : Int32).toUInt32 &&& Int32.toUInt32 31)).toInt32 → wB_J6_numberOfTrailingZeros_0f7a4_34   Q y_7 y_5 I J) (wB_J6_numberOfTrailingZeros_0f7a4_34   Q y_1 1 I J)) (Q (y_1 &&& (32 : Int32)) I J)
set_option maxRecDepth 20000 in
theorem t_J6_numberOfTrailingZeros_0f7a4_74 {l : Launch} {D : va_G} {cy : Nat → ClassId} {sz : Nat} {G : sw_G} (hG : True)   {Q : Int32 → sw_I → sw_J → Prop} {x0 : Int32} {x1 : Int32} {I : sw_I} {J : sw_J} (h : wB_J6_numberOfTrailingZeros_0f7a4_74   Q x0 x1 I J) : AW l D cy sz RJ6 cJ6_numberOfTrailingZeros_0f7a4 2 (some .int) false rm_J6_numberOfTrailingZeros_0f7a4 0 0 (sw_qi G Q) 0 0 G I J 74 [(0, .int x0), (1, .int x1)] [] := by
  unfold wB_J6_numberOfTrailingZeros_0f7a4_74 at h
  refine aw_iload_n 1 dJ6_numberOfTrailingZeros_0f7a4_74 rfl rfl ?_
  refine aw_iload_n 0 dJ6_numberOfTrailingZeros_0f7a4_75 rfl rfl ?_
  refine aw_iconst (v := 1) dJ6_numberOfTrailingZeros_0f7a4_76 (by decide) ?_
  refine aw_iushr dJ6_numberOfTrailingZeros_0f7a4_77 ?_
  refine aw_iadd dJ6_numberOfTrailingZeros_0f7a4_78 ?_
  exact aw_iret rfl dJ6_numberOfTrailingZeros_0f7a4_79 ⟨rfl, _, rfl, h⟩
set_option maxRecDepth 20000 in
theorem t_J6_numberOfTrailingZeros_0f7a4_62 {l : Launch} {D : va_G} {cy : Nat → ClassId} {sz : Nat} {G : sw_G} (hG : True)   {Q : Int32 → sw_I → sw_J → Prop} {x0 : Int32} {x1 : Int32} {I : sw_I} {J : sw_J} (h : wB_J6_numberOfTrailingZeros_0f7a4_62   Q x0 x1 I J) : AW l D cy sz RJ6 cJ6_numberOfTrailingZeros_0f7a4 2 (some .int) false rm_J6_numberOfTrailingZeros_0f7a4 0 0 (sw_qi G Q) 0 0 G I J 62 [(0, .int x0), (1, .int x1)] [] := by
  unfold wB_J6_numberOfTrailingZeros_0f7a4_62 at h
  refine aw_iload_n 0 dJ6_numberOfTrailingZeros_0f7a4_62 rfl rfl ?_
  refine aw_iconst (v := 4) dJ6_numberOfTrailingZeros_0f7a4_63 (by decide) ?_
  refine aw_jle 74 dJ6_numberOfTrailingZeros_0f7a4_64 (by decide) (fun c_1 => ?_) (fun c_1 => ?_)
  · have h := sw_if.f h c_1
    refine aw_sub [0, 1] rfl ?_
    exact t_J6_numberOfTrailingZeros_0f7a4_74 hG   h
  · have h := sw_if.t h c_1
    obtain ⟨y_2, e_3⟩ : ∃ q : Int32, q = x1 + 2 := ⟨_, rfl⟩
    have h := h y_2 e_3
    refine aw_iinc (lv' := [(1, .int y_2), (0, .int x0)]) 1 dJ6_numberOfTrailingZeros_0f7a4_67 rfl (by rw [e_3]; rfl) (by decide) rfl ?_
    refine aw_iload_n 1 dJ6_numberOfTrailingZeros_0f7a4_70 rfl rfl ?_
    refine aw_iconst (v := 2) dJ6_numberOfTrailingZeros_0f7a4_71 (by decide) ?_
    refine aw_iushr dJ6_numberOfTrailingZeros_0f7a4_72 ?_
    refine aw_topi (fun y_4 e_5 => ?_)
    have h := h y_4 e_5
    refine aw_istore_n (lv' := [(0, .int y_4), (1, .int y_2)]) dJ6_numberOfTrailingZeros_0f7a4_73 rfl (by decide) rfl ?_
    refine aw_sub [0, 1] rfl ?_
    exact t_J6_numberOfTrailingZeros_0f7a4_74 hG   h
set_option maxRecDepth 20000 in
theorem t_J6_numberOfTrailingZeros_0f7a4_49 {l : Launch} {D : va_G} {cy : Nat → ClassId} {sz : Nat} {G : sw_G} (hG : True)   {Q : Int32 → sw_I → sw_J → Prop} {x0 : Int32} {x1 : Int32} {I : sw_I} {J : sw_J} (h : wB_J6_numberOfTrailingZeros_0f7a4_49   Q x0 x1 I J) : AW l D cy sz RJ6 cJ6_numberOfTrailingZeros_0f7a4 2 (some .int) false rm_J6_numberOfTrailingZeros_0f7a4 0 0 (sw_qi G Q) 0 0 G I J 49 [(0, .int x0), (1, .int x1)] [] := by
  unfold wB_J6_numberOfTrailingZeros_0f7a4_49 at h
  refine aw_iload_n 0 dJ6_numberOfTrailingZeros_0f7a4_49 rfl rfl ?_
  refine aw_bipush (v := 16) dJ6_numberOfTrailingZeros_0f7a4_50 (by decide) ?_
  refine aw_jle 62 dJ6_numberOfTrailingZeros_0f7a4_52 (by decide) (fun c_1 => ?_) (fun c_1 => ?_)
  · have h := sw_if.f h c_1
    refine aw_sub [0, 1] rfl ?_
    exact t_J6_numberOfTrailingZeros_0f7a4_62 hG   h
  · have h := sw_if.t h c_1
    obtain ⟨y_2, e_3⟩ : ∃ q : Int32, q = x1 + 4 := ⟨_, rfl⟩
    have h := h y_2 e_3
    refine aw_iinc (lv' := [(1, .int y_2), (0, .int x0)]) 1 dJ6_numberOfTrailingZeros_0f7a4_55 rfl (by rw [e_3]; rfl) (by decide) rfl ?_
    refine aw_iload_n 1 dJ6_numberOfTrailingZeros_0f7a4_58 rfl rfl ?_
    refine aw_iconst (v := 4) dJ6_numberOfTrailingZeros_0f7a4_59 (by decide) ?_
    refine aw_iushr dJ6_numberOfTrailingZeros_0f7a4_60 ?_
    refine aw_topi (fun y_4 e_5 => ?_)
    have h := h y_4 e_5
    refine aw_istore_n (lv' := [(0, .int y_4), (1, .int y_2)]) dJ6_numberOfTrailingZeros_0f7a4_61 rfl (by decide) rfl ?_
    refine aw_sub [0, 1] rfl ?_
    exact t_J6_numberOfTrailingZeros_0f7a4_62 hG   h
set_option maxRecDepth 20000 in
theorem t_J6_numberOfTrailingZeros_0f7a4_34 {l : Launch} {D : va_G} {cy : Nat → ClassId} {sz : Nat} {G : sw_G} (hG : True)   {Q : Int32 → sw_I → sw_J → Prop} {x0 : Int32} {x1 : Int32} {I : sw_I} {J : sw_J} (h : wB_J6_numberOfTrailingZeros_0f7a4_34   Q x0 x1 I J) : AW l D cy sz RJ6 cJ6_numberOfTrailingZeros_0f7a4 2 (some .int) false rm_J6_numberOfTrailingZeros_0f7a4 0 0 (sw_qi G Q) 0 0 G I J 34 [(0, .int x0), (1, .int x1)] [] := by
  unfold wB_J6_numberOfTrailingZeros_0f7a4_34 at h
  refine aw_iload_n 0 dJ6_numberOfTrailingZeros_0f7a4_34 rfl rfl ?_
  refine aw_sipush (v := 256) dJ6_numberOfTrailingZeros_0f7a4_35 (by decide) ?_
  refine aw_jle 49 dJ6_numberOfTrailingZeros_0f7a4_38 (by decide) (fun c_1 => ?_) (fun c_1 => ?_)
  · have h := sw_if.f h c_1
    refine aw_sub [0, 1] rfl ?_
    exact t_J6_numberOfTrailingZeros_0f7a4_49 hG   h
  · have h := sw_if.t h c_1
    obtain ⟨y_2, e_3⟩ : ∃ q : Int32, q = x1 + 8 := ⟨_, rfl⟩
    have h := h y_2 e_3
    refine aw_iinc (lv' := [(1, .int y_2), (0, .int x0)]) 1 dJ6_numberOfTrailingZeros_0f7a4_41 rfl (by rw [e_3]; rfl) (by decide) rfl ?_
    refine aw_iload_n 1 dJ6_numberOfTrailingZeros_0f7a4_44 rfl rfl ?_
    refine aw_bipush (v := 8) dJ6_numberOfTrailingZeros_0f7a4_45 (by decide) ?_
    refine aw_iushr dJ6_numberOfTrailingZeros_0f7a4_47 ?_
    refine aw_topi (fun y_4 e_5 => ?_)
    have h := h y_4 e_5
    refine aw_istore_n (lv' := [(0, .int y_4), (1, .int y_2)]) dJ6_numberOfTrailingZeros_0f7a4_48 rfl (by decide) rfl ?_
    refine aw_sub [0, 1] rfl ?_
    exact t_J6_numberOfTrailingZeros_0f7a4_49 hG   h
set_option maxRecDepth 20000 in
theorem t_J6_numberOfTrailingZeros_0f7a4 {l : Launch} {D : va_G} {cy : Nat → ClassId} {sz : Nat} {G : sw_G} (hG : True)   {Q : Int32 → sw_I → sw_J → Prop} {x0 : Int32} {I : sw_I} {J : sw_J} (h : wp_J6_numberOfTrailingZeros_0f7a4 x0 I J Q) : AW l D cy sz RJ6 cJ6_numberOfTrailingZeros_0f7a4 2 (some .int) false rm_J6_numberOfTrailingZeros_0f7a4 0 0 (sw_qi G Q) 0 0 G I J 0 [(0, .int x0)] [] := by
  unfold wp_J6_numberOfTrailingZeros_0f7a4 at h
  refine aw_iload_n 0 dJ6_numberOfTrailingZeros_0f7a4_0 rfl rfl ?_
  refine aw_iconst (v := (-1)) dJ6_numberOfTrailingZeros_0f7a4_1 (by decide) ?_
  refine aw_ixor dJ6_numberOfTrailingZeros_0f7a4_2 ?_
  refine aw_iload_n 0 dJ6_numberOfTrailingZeros_0f7a4_3 rfl rfl ?_
  refine aw_iconst (v := 1) dJ6_numberOfTrailingZeros_0f7a4_4 (by decide) ?_
  refine aw_isub dJ6_numberOfTrailingZeros_0f7a4_5 ?_
  refine aw_iand dJ6_numberOfTrailingZeros_0f7a4_6 ?_
  refine aw_topi (fun y_1 e_2 => ?_)
  have h := h y_1 e_2
  refine aw_istore_n (lv' := [(0, .int y_1)]) dJ6_numberOfTrailingZeros_0f7a4_7 rfl (by decide) rfl ?_
  refine aw_iload_n 0 dJ6_numberOfTrailingZeros_0f7a4_8 rfl rfl ?_
  refine aw_zgt 17 dJ6_numberOfTrailingZeros_0f7a4_9 (by decide) (fun c_3 => ?_) (fun c_3 => ?_)
  · have h := sw_if.t h c_3
    refine aw_iconst (v := 1) dJ6_numberOfTrailingZeros_0f7a4_17 (by decide) ?_
    refine aw_istore_n (lv' := [(1, .int 1), (0, .int y_1)]) dJ6_numberOfTrailingZeros_0f7a4_18 rfl (by decide) rfl ?_
    refine aw_iload_n 1 dJ6_numberOfTrailingZeros_0f7a4_19 rfl rfl ?_
    refine aw_ldcw (v := 65536) dJ6_numberOfTrailingZeros_0f7a4_20 k_J6_264 ?_
    refine aw_jle 34 dJ6_numberOfTrailingZeros_0f7a4_23 (by decide) (fun c_4 => ?_) (fun c_4 => ?_)
    · have h := sw_if.f h c_4
      refine aw_sub [1, 0] rfl ?_
      exact t_J6_numberOfTrailingZeros_0f7a4_34 hG   h
    · have h := sw_if.t h c_4
      obtain ⟨y_5, e_6⟩ : ∃ q : Int32, q = 1 + 16 := ⟨_, rfl⟩
      have h := h y_5 e_6
      refine aw_iinc (lv' := [(1, .int y_5), (0, .int y_1)]) 0 dJ6_numberOfTrailingZeros_0f7a4_26 rfl (by rw [e_6]; rfl) (by decide) rfl ?_
      refine aw_iload_n 1 dJ6_numberOfTrailingZeros_0f7a4_29 rfl rfl ?_
      refine aw_bipush (v := 16) dJ6_numberOfTrailingZeros_0f7a4_30 (by decide) ?_
      refine aw_iushr dJ6_numberOfTrailingZeros_0f7a4_32 ?_
      refine aw_topi (fun y_7 e_8 => ?_)
      have h := h y_7 e_8
      refine aw_istore_n (lv' := [(0, .int y_7), (1, .int y_5)]) dJ6_numberOfTrailingZeros_0f7a4_33 rfl (by decide) rfl ?_
      refine aw_sub [0, 1] rfl ?_
      exact t_J6_numberOfTrailingZeros_0f7a4_34 hG   h
  · have h := sw_if.f h c_3
    refine aw_iload_n 0 dJ6_numberOfTrailingZeros_0f7a4_12 rfl rfl ?_
    refine aw_bipush (v := 32) dJ6_numberOfTrailingZeros_0f7a4_13 (by decide) ?_
    refine aw_iand dJ6_numberOfTrailingZeros_0f7a4_15 ?_
    exact aw_iret rfl dJ6_numberOfTrailingZeros_0f7a4_16 ⟨rfl, _, rfl, h⟩
theorem M_J6_numberOfTrailingZeros_0f7a4 {l : Launch} {D : va_G} {cy : Nat → ClassId} {sz : Nat} {G : sw_G} (hG : True)   {Q : Int32 → sw_I → sw_J → Prop} {x0 : Int32} {I : sw_I} {J : sw_J} (h : wp_J6_numberOfTrailingZeros_0f7a4 x0 I J Q) : Met l yJ6_numberOfTrailingZeros_0f7a4 (Cond.code yJ6_numberOfTrailingZeros_0f7a4 cJ6_numberOfTrailingZeros_0f7a4 2 (some .int) :: sw_T) rm_J6_numberOfTrailingZeros_0f7a4 (sw_Pc D cy sz [.int x0] G I J) (sw_Q D cy sz (sw_qi G Q)) 0 0 (fun q => sz ≤ q) :=
  sw_met (by decide) (fun q => by cases q) (Nat.le_of_ble_eq_true rfl) rfl (t_J6_numberOfTrailingZeros_0f7a4 hG  h)
-- J6_bitCount_0f7a4
abbrev rm_J6_bitCount_0f7a4 : Room := { frames := 0, cells := 0, slots := 0, locals := 0 }
def wp_J6_bitCount_0f7a4 (x0 : Int32) (I : sw_I) (J : sw_J) (Q : Int32 → sw_I → sw_J → Prop) : Prop :=
  ∀ y_1 : Int32, y_1 = x0 - (((x0.toUInt32 >>> ((1 : Int32).toUInt32 &&& Int32.toUInt32 31)).toInt32) &&& (1431655765 : Int32)) → ∀ y_3 : Int32, y_3 = (y_1 &&& (858993459 : Int32)) + (((y_1.toUInt32 >>> ((2 : Int32).toUInt32 &&& Int32.toUInt32 31)).toInt32) &&& (858993459 : Int32)) → ∀ y_5 : Int32, y_5 = (y_3 + ((y_3.toUInt32 >>> ((4 : Int32).toUInt32 &&& Int32.toUInt32 31)).toInt32)) &&& (252645135 : Int32) → ∀ y_7 : Int32, y_7 = y_5 + ((y_5.toUInt32 >>> ((8 : Int32).toUInt32 &&& Int32.toUInt32 31)).toInt32) → ∀ y_9 : Int32, y_9 = y_7 + ((y_7.toUInt32 >>> ((16 : Int32).toUInt32 &&& Int32.toUInt32 31)).toInt32) → Q (y_9 &&& (63 : Int32)) I J
set_option maxRecDepth 20000 in
theorem t_J6_bitCount_0f7a4 {l : Launch} {D : va_G} {cy : Nat → ClassId} {sz : Nat} {G : sw_G} (hG : True)   {Q : Int32 → sw_I → sw_J → Prop} {x0 : Int32} {I : sw_I} {J : sw_J} (h : wp_J6_bitCount_0f7a4 x0 I J Q) : AW l D cy sz RJ6 cJ6_bitCount_0f7a4 1 (some .int) false rm_J6_bitCount_0f7a4 0 0 (sw_qi G Q) 0 0 G I J 0 [(0, .int x0)] [] := by
  unfold wp_J6_bitCount_0f7a4 at h
  refine aw_iload_n 0 dJ6_bitCount_0f7a4_0 rfl rfl ?_
  refine aw_iload_n 0 dJ6_bitCount_0f7a4_1 rfl rfl ?_
  refine aw_iconst (v := 1) dJ6_bitCount_0f7a4_2 (by decide) ?_
  refine aw_iushr dJ6_bitCount_0f7a4_3 ?_
  refine aw_ldcw (v := 1431655765) dJ6_bitCount_0f7a4_4 k_J6_265 ?_
  refine aw_iand dJ6_bitCount_0f7a4_7 ?_
  refine aw_isub dJ6_bitCount_0f7a4_8 ?_
  refine aw_topi (fun y_1 e_2 => ?_)
  have h := h y_1 e_2
  refine aw_istore_n (lv' := [(0, .int y_1)]) dJ6_bitCount_0f7a4_9 rfl (by decide) rfl ?_
  refine aw_iload_n 0 dJ6_bitCount_0f7a4_10 rfl rfl ?_
  refine aw_ldcw (v := 858993459) dJ6_bitCount_0f7a4_11 k_J6_266 ?_
  refine aw_iand dJ6_bitCount_0f7a4_14 ?_
  refine aw_iload_n 0 dJ6_bitCount_0f7a4_15 rfl rfl ?_
  refine aw_iconst (v := 2) dJ6_bitCount_0f7a4_16 (by decide) ?_
  refine aw_iushr dJ6_bitCount_0f7a4_17 ?_
  refine aw_ldcw (v := 858993459) dJ6_bitCount_0f7a4_18 k_J6_266 ?_
  refine aw_iand dJ6_bitCount_0f7a4_21 ?_
  refine aw_iadd dJ6_bitCount_0f7a4_22 ?_
  refine aw_topi (fun y_3 e_4 => ?_)
  have h := h y_3 e_4
  refine aw_istore_n (lv' := [(0, .int y_3)]) dJ6_bitCount_0f7a4_23 rfl (by decide) rfl ?_
  refine aw_iload_n 0 dJ6_bitCount_0f7a4_24 rfl rfl ?_
  refine aw_iload_n 0 dJ6_bitCount_0f7a4_25 rfl rfl ?_
  refine aw_iconst (v := 4) dJ6_bitCount_0f7a4_26 (by decide) ?_
  refine aw_iushr dJ6_bitCount_0f7a4_27 ?_
  refine aw_iadd dJ6_bitCount_0f7a4_28 ?_
  refine aw_ldcw (v := 252645135) dJ6_bitCount_0f7a4_29 k_J6_267 ?_
  refine aw_iand dJ6_bitCount_0f7a4_32 ?_
  refine aw_topi (fun y_5 e_6 => ?_)
  have h := h y_5 e_6
  refine aw_istore_n (lv' := [(0, .int y_5)]) dJ6_bitCount_0f7a4_33 rfl (by decide) rfl ?_
  refine aw_iload_n 0 dJ6_bitCount_0f7a4_34 rfl rfl ?_
  refine aw_iload_n 0 dJ6_bitCount_0f7a4_35 rfl rfl ?_
  refine aw_bipush (v := 8) dJ6_bitCount_0f7a4_36 (by decide) ?_
  refine aw_iushr dJ6_bitCount_0f7a4_38 ?_
  refine aw_iadd dJ6_bitCount_0f7a4_39 ?_
  refine aw_topi (fun y_7 e_8 => ?_)
  have h := h y_7 e_8
  refine aw_istore_n (lv' := [(0, .int y_7)]) dJ6_bitCount_0f7a4_40 rfl (by decide) rfl ?_
  refine aw_iload_n 0 dJ6_bitCount_0f7a4_41 rfl rfl ?_
  refine aw_iload_n 0 dJ6_bitCount_0f7a4_42 rfl rfl ?_
  refine aw_bipush (v := 16) dJ6_bitCount_0f7a4_43 (by decide) ?_
  refine aw_iushr dJ6_bitCount_0f7a4_45 ?_
  refine aw_iadd dJ6_bitCount_0f7a4_46 ?_
  refine aw_topi (fun y_9 e_10 => ?_)
  have h := h y_9 e_10
  refine aw_istore_n (lv' := [(0, .int y_9)]) dJ6_bitCount_0f7a4_47 rfl (by decide) rfl ?_
  refine aw_iload_n 0 dJ6_bitCount_0f7a4_48 rfl rfl ?_
  refine aw_bipush (v := 63) dJ6_bitCount_0f7a4_49 (by decide) ?_
  refine aw_iand dJ6_bitCount_0f7a4_51 ?_
  exact aw_iret rfl dJ6_bitCount_0f7a4_52 ⟨rfl, _, rfl, h⟩
theorem M_J6_bitCount_0f7a4 {l : Launch} {D : va_G} {cy : Nat → ClassId} {sz : Nat} {G : sw_G} (hG : True)   {Q : Int32 → sw_I → sw_J → Prop} {x0 : Int32} {I : sw_I} {J : sw_J} (h : wp_J6_bitCount_0f7a4 x0 I J Q) : Met l yJ6_bitCount_0f7a4 (Cond.code yJ6_bitCount_0f7a4 cJ6_bitCount_0f7a4 1 (some .int) :: sw_T) rm_J6_bitCount_0f7a4 (sw_Pc D cy sz [.int x0] G I J) (sw_Q D cy sz (sw_qi G Q)) 0 0 (fun q => sz ≤ q) :=
  sw_met (by decide) (fun q => by cases q) (Nat.le_of_ble_eq_true rfl) rfl (t_J6_bitCount_0f7a4 hG  h)
-- J7_fill_d0a16
abbrev rm_J7_fill_d0a16 : Room := { frames := 0, cells := 0, slots := 0, locals := 0 }
def wb_J7_fill_d0a16_6 (b0 : Nat) (n0 : Nat) (K6 : Int64 → Int32 → Int32 → sw_I → sw_J → Prop) (Q : sw_I → sw_J → Prop) (w1 : Int64) (x3 : Int32) (x4 : Int32) (I : sw_I) (J : sw_J) : Prop :=
  sw_if (x3 < x4) (vp_in x3 n0 ∧ ∀ J_3 : sw_J, J_3 = sw_up J b0 x3.toNatClampNeg w1 → ∀ y_5 : Int32, y_5 = x3 + 1 → K6 w1 y_5 x4 I J_3) (Q I J)
def wl_J7_fill_d0a16_6 (b0 : Nat) (n0 : Nat)  (Q : sw_I → sw_J → Prop) : Nat → Int64 → Int32 → Int32 → sw_I → sw_J → Prop
  | 0 => fun _ _ _ _ _ => False
  | n + 1 => fun w1 x3 x4 I J => wb_J7_fill_d0a16_6 b0 n0 (wl_J7_fill_d0a16_6 b0 n0  Q n) Q w1 x3 x4 I J
def wp_J7_fill_d0a16 (b0 : Nat) (n0 : Nat) (w1 : Int64) (I : sw_I) (J : sw_J) (Q : sw_I → sw_J → Prop) : Prop :=
  ∀ y_1 : Int32, y_1 = (Int32.ofNat n0) → ∃ n_3 : Nat, wl_J7_fill_d0a16_6 b0 n0  Q n_3 w1 0 y_1 I J
set_option maxRecDepth 20000 in
theorem tb_J7_fill_d0a16_6 {l : Launch} {D : va_G} {cy : Nat → ClassId} {sz : Nat} {G : sw_G} (hG : True) {b0 : Nat} {n0 : Nat} (hb0 : sw_la G b0 n0) {Q : sw_I → sw_J → Prop} {K6 : Int64 → Int32 → Int32 → sw_I → sw_J → Prop} (hK6 : ∀ (w1 : Int64) (x3 : Int32) (x4 : Int32) (I : sw_I) (J : sw_J), K6 w1 x3 x4 I J → AW l D cy sz RJ7 cJ7_fill_d0a16 5 none false rm_J7_fill_d0a16 0 0 (sw_qv G Q) 0 0 G I J 6 [(0, .ref (sz + b0)), (1, .long w1), (3, .int x3), (4, .int x4)] []) {w1 : Int64} {x3 : Int32} {x4 : Int32} {I : sw_I} {J : sw_J} (h : wb_J7_fill_d0a16_6 b0 n0 K6 Q w1 x3 x4 I J) : AW l D cy sz RJ7 cJ7_fill_d0a16 5 none false rm_J7_fill_d0a16 0 0 (sw_qv G Q) 0 0 G I J 6 [(0, .ref (sz + b0)), (1, .long w1), (3, .int x3), (4, .int x4)] [] := by
  unfold wb_J7_fill_d0a16_6 at h
  refine aw_iload_n 2 dJ7_fill_d0a16_6 rfl rfl ?_
  refine aw_iload 3 dJ7_fill_d0a16_7 rfl ?_
  refine aw_jge 22 dJ7_fill_d0a16_9 (by decide) (fun c_1 => ?_) (fun c_1 => ?_)
  · have h := sw_if.f h c_1
    exact aw_vret rfl dJ7_fill_d0a16_22 ⟨rfl, rfl, h⟩
  · have h := sw_if.t h c_1
    refine aw_aload_n 0 dJ7_fill_d0a16_12 rfl rfl ?_
    refine aw_iload_n 2 dJ7_fill_d0a16_13 rfl rfl ?_
    refine aw_lload_n 1 dJ7_fill_d0a16_14 rfl rfl ?_
    obtain ⟨hi_2, h⟩ := h
    refine aw_lst dJ7_fill_d0a16_15 hb0.1 hb0.2 hi_2 (aw_nameJ fun J_3 e_4 => ?_)
    have h := h J_3 e_4
    obtain ⟨y_5, e_6⟩ : ∃ q : Int32, q = x3 + 1 := ⟨_, rfl⟩
    have h := h y_5 e_6
    refine aw_iinc (lv' := [(3, .int y_5), (0, .ref (sz + b0)), (1, .long w1), (4, .int x4)]) 2 dJ7_fill_d0a16_16 rfl (by rw [e_6]; rfl) (by decide) rfl ?_
    refine aw_goto 6 dJ7_fill_d0a16_19 (by decide) ?_
    refine aw_sub [1, 2, 0, 3] rfl ?_
    exact hK6 w1 y_5 x4 I J_3 h
set_option maxRecDepth 20000 in
theorem tl_J7_fill_d0a16_6 {l : Launch} {D : va_G} {cy : Nat → ClassId} {sz : Nat} {G : sw_G} (hG : True) {b0 : Nat} {n0 : Nat} (hb0 : sw_la G b0 n0) {Q : sw_I → sw_J → Prop} : ∀ (n : Nat) (w1 : Int64) (x3 : Int32) (x4 : Int32) (I : sw_I) (J : sw_J), wl_J7_fill_d0a16_6 b0 n0  Q n w1 x3 x4 I J → AW l D cy sz RJ7 cJ7_fill_d0a16 5 none false rm_J7_fill_d0a16 0 0 (sw_qv G Q) 0 0 G I J 6 [(0, .ref (sz + b0)), (1, .long w1), (3, .int x3), (4, .int x4)] [] := by
  intro n
  induction n with
  | zero => intro w1 x3 x4 I J h; exact False.elim h
  | succ n ih => intro w1 x3 x4 I J h; exact tb_J7_fill_d0a16_6 hG hb0 ih h
set_option maxRecDepth 20000 in
theorem t_J7_fill_d0a16 {l : Launch} {D : va_G} {cy : Nat → ClassId} {sz : Nat} {G : sw_G} (hG : True) {b0 : Nat} {n0 : Nat} (hb0 : sw_la G b0 n0) {Q : sw_I → sw_J → Prop} {w1 : Int64} {I : sw_I} {J : sw_J} (h : wp_J7_fill_d0a16 b0 n0 w1 I J Q) : AW l D cy sz RJ7 cJ7_fill_d0a16 5 none false rm_J7_fill_d0a16 0 0 (sw_qv G Q) 0 0 G I J 0 [(0, .ref (sz + b0)), (1, .long w1)] [] := by
  unfold wp_J7_fill_d0a16 at h
  refine aw_iconst (v := 0) dJ7_fill_d0a16_0 (by decide) ?_
  refine aw_istore_n (lv' := [(3, .int 0), (0, .ref (sz + b0)), (1, .long w1)]) dJ7_fill_d0a16_1 rfl (by decide) rfl ?_
  refine aw_aload_n 1 dJ7_fill_d0a16_2 rfl rfl ?_
  refine aw_alenL dJ7_fill_d0a16_3 hb0.1 hb0.2 ?_
  refine aw_topi (fun y_1 e_2 => ?_)
  have h := h y_1 e_2
  refine aw_istore (lv' := [(4, .int y_1), (3, .int 0), (0, .ref (sz + b0)), (1, .long w1)]) dJ7_fill_d0a16_4 (by decide) rfl ?_
  refine aw_sub [2, 3, 1, 0] rfl ?_
  obtain ⟨n_3, h⟩ := h
  exact tl_J7_fill_d0a16_6 hG hb0  n_3 w1 0 y_1 I J h
theorem M_J7_fill_d0a16 {l : Launch} {D : va_G} {cy : Nat → ClassId} {sz : Nat} {G : sw_G} (hG : True) {b0 : Nat} {n0 : Nat} (hb0 : sw_la G b0 n0) {Q : sw_I → sw_J → Prop} {w1 : Int64} {I : sw_I} {J : sw_J} (h : wp_J7_fill_d0a16 b0 n0 w1 I J Q) : Met l yJ7_fill_d0a16 (Cond.code yJ7_fill_d0a16 cJ7_fill_d0a16 5 none :: sw_T) rm_J7_fill_d0a16 (sw_Pc D cy sz [.ref (sz + b0), .long w1] G I J) (sw_Q D cy sz (sw_qv G Q)) 0 0 (fun q => sz ≤ q) :=
  sw_met (by decide) (fun q => by cases q) (Nat.le_of_ble_eq_true rfl) rfl (t_J7_fill_d0a16 hG hb0 h)
-- J7_fill_53178
abbrev rm_J7_fill_53178 : Room := { frames := 0, cells := 0, slots := 0, locals := 0 }
def wb_J7_fill_53178_5 (b0 : Nat) (n0 : Nat) (K5 : Int32 → Int32 → Int32 → sw_I → sw_J → Prop) (Q : sw_I → sw_J → Prop) (x1 : Int32) (x2 : Int32) (x3 : Int32) (I : sw_I) (J : sw_J) : Prop :=
  sw_if (x2 < x3) (vp_in x2 n0 ∧ ∀ I_3 : sw_I, I_3 = sw_up I b0 x2.toNatClampNeg x1 → ∀ y_5 : Int32, y_5 = x2 + 1 → K5 x1 y_5 x3 I_3 J) (Q I J)
def wl_J7_fill_53178_5 (b0 : Nat) (n0 : Nat)  (Q : sw_I → sw_J → Prop) : Nat → Int32 → Int32 → Int32 → sw_I → sw_J → Prop
  | 0 => fun _ _ _ _ _ => False
  | n + 1 => fun x1 x2 x3 I J => wb_J7_fill_53178_5 b0 n0 (wl_J7_fill_53178_5 b0 n0  Q n) Q x1 x2 x3 I J
def wp_J7_fill_53178 (b0 : Nat) (n0 : Nat) (x1 : Int32) (I : sw_I) (J : sw_J) (Q : sw_I → sw_J → Prop) : Prop :=
  ∀ y_1 : Int32, y_1 = (Int32.ofNat n0) → ∃ n_3 : Nat, wl_J7_fill_53178_5 b0 n0  Q n_3 x1 0 y_1 I J
set_option maxRecDepth 20000 in
theorem tb_J7_fill_53178_5 {l : Launch} {D : va_G} {cy : Nat → ClassId} {sz : Nat} {G : sw_G} (hG : True) {b0 : Nat} {n0 : Nat} (hb0 : sw_ia G b0 n0) {Q : sw_I → sw_J → Prop} {K5 : Int32 → Int32 → Int32 → sw_I → sw_J → Prop} (hK5 : ∀ (x1 : Int32) (x2 : Int32) (x3 : Int32) (I : sw_I) (J : sw_J), K5 x1 x2 x3 I J → AW l D cy sz RJ7 cJ7_fill_53178 4 none false rm_J7_fill_53178 0 0 (sw_qv G Q) 0 0 G I J 5 [(0, .ref (sz + b0)), (1, .int x1), (2, .int x2), (3, .int x3)] []) {x1 : Int32} {x2 : Int32} {x3 : Int32} {I : sw_I} {J : sw_J} (h : wb_J7_fill_53178_5 b0 n0 K5 Q x1 x2 x3 I J) : AW l D cy sz RJ7 cJ7_fill_53178 4 none false rm_J7_fill_53178 0 0 (sw_qv G Q) 0 0 G I J 5 [(0, .ref (sz + b0)), (1, .int x1), (2, .int x2), (3, .int x3)] [] := by
  unfold wb_J7_fill_53178_5 at h
  refine aw_iload_n 2 dJ7_fill_53178_5 rfl rfl ?_
  refine aw_iload_n 3 dJ7_fill_53178_6 rfl rfl ?_
  refine aw_jge 20 dJ7_fill_53178_7 (by decide) (fun c_1 => ?_) (fun c_1 => ?_)
  · have h := sw_if.f h c_1
    exact aw_vret rfl dJ7_fill_53178_20 ⟨rfl, rfl, h⟩
  · have h := sw_if.t h c_1
    refine aw_aload_n 0 dJ7_fill_53178_10 rfl rfl ?_
    refine aw_iload_n 2 dJ7_fill_53178_11 rfl rfl ?_
    refine aw_iload_n 1 dJ7_fill_53178_12 rfl rfl ?_
    obtain ⟨hi_2, h⟩ := h
    refine aw_ist dJ7_fill_53178_13 hb0.1 hb0.2 hi_2 (aw_nameI fun I_3 e_4 => ?_)
    have h := h I_3 e_4
    obtain ⟨y_5, e_6⟩ : ∃ q : Int32, q = x2 + 1 := ⟨_, rfl⟩
    have h := h y_5 e_6
    refine aw_iinc (lv' := [(2, .int y_5), (0, .ref (sz + b0)), (1, .int x1), (3, .int x3)]) 2 dJ7_fill_53178_14 rfl (by rw [e_6]; rfl) (by decide) rfl ?_
    refine aw_goto 5 dJ7_fill_53178_17 (by decide) ?_
    refine aw_sub [1, 2, 0, 3] rfl ?_
    exact hK5 x1 y_5 x3 I_3 J h
set_option maxRecDepth 20000 in
theorem tl_J7_fill_53178_5 {l : Launch} {D : va_G} {cy : Nat → ClassId} {sz : Nat} {G : sw_G} (hG : True) {b0 : Nat} {n0 : Nat} (hb0 : sw_ia G b0 n0) {Q : sw_I → sw_J → Prop} : ∀ (n : Nat) (x1 : Int32) (x2 : Int32) (x3 : Int32) (I : sw_I) (J : sw_J), wl_J7_fill_53178_5 b0 n0  Q n x1 x2 x3 I J → AW l D cy sz RJ7 cJ7_fill_53178 4 none false rm_J7_fill_53178 0 0 (sw_qv G Q) 0 0 G I J 5 [(0, .ref (sz + b0)), (1, .int x1), (2, .int x2), (3, .int x3)] [] := by
  intro n
  induction n with
  | zero => intro x1 x2 x3 I J h; exact False.elim h
  | succ n ih => intro x1 x2 x3 I J h; exact tb_J7_fill_53178_5 hG hb0 ih h
set_option maxRecDepth 20000 in
theorem t_J7_fill_53178 {l : Launch} {D : va_G} {cy : Nat → ClassId} {sz : Nat} {G : sw_G} (hG : True) {b0 : Nat} {n0 : Nat} (hb0 : sw_ia G b0 n0) {Q : sw_I → sw_J → Prop} {x1 : Int32} {I : sw_I} {J : sw_J} (h : wp_J7_fill_53178 b0 n0 x1 I J Q) : AW l D cy sz RJ7 cJ7_fill_53178 4 none false rm_J7_fill_53178 0 0 (sw_qv G Q) 0 0 G I J 0 [(0, .ref (sz + b0)), (1, .int x1)] [] := by
  unfold wp_J7_fill_53178 at h
  refine aw_iconst (v := 0) dJ7_fill_53178_0 (by decide) ?_
  refine aw_istore_n (lv' := [(2, .int 0), (0, .ref (sz + b0)), (1, .int x1)]) dJ7_fill_53178_1 rfl (by decide) rfl ?_
  refine aw_aload_n 1 dJ7_fill_53178_2 rfl rfl ?_
  refine aw_alen dJ7_fill_53178_3 hb0.1 hb0.2 ?_
  refine aw_topi (fun y_1 e_2 => ?_)
  have h := h y_1 e_2
  refine aw_istore_n (lv' := [(3, .int y_1), (2, .int 0), (0, .ref (sz + b0)), (1, .int x1)]) dJ7_fill_53178_4 rfl (by decide) rfl ?_
  refine aw_sub [2, 3, 1, 0] rfl ?_
  obtain ⟨n_3, h⟩ := h
  exact tl_J7_fill_53178_5 hG hb0  n_3 x1 0 y_1 I J h
theorem M_J7_fill_53178 {l : Launch} {D : va_G} {cy : Nat → ClassId} {sz : Nat} {G : sw_G} (hG : True) {b0 : Nat} {n0 : Nat} (hb0 : sw_ia G b0 n0) {Q : sw_I → sw_J → Prop} {x1 : Int32} {I : sw_I} {J : sw_J} (h : wp_J7_fill_53178 b0 n0 x1 I J Q) : Met l yJ7_fill_53178 (Cond.code yJ7_fill_53178 cJ7_fill_53178 4 none :: sw_T) rm_J7_fill_53178 (sw_Pc D cy sz [.ref (sz + b0), .int x1] G I J) (sw_Q D cy sz (sw_qv G Q)) 0 0 (fun q => sz ≤ q) :=
  sw_met (by decide) (fun q => by cases q) (Nat.le_of_ble_eq_true rfl) rfl (t_J7_fill_53178 hG hb0 h)
