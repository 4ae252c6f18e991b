-- X10_fits
abbrev rm_X10_fits : Room := { frames := 6, cells := 0, slots := 0, locals := 136 }
def wB_X10_fits_72  (K30 : Int32 → Int32 → Int32 → sw_I → sw_J → Prop) (Q : Int32 → sw_I → sw_J → Prop) (x1 : Int32) (x3 : Int32) (s0 : Int32) (s1 : Int32) (I : sw_I) (J : sw_J) : Prop :=
  ∀ y_1 : Int32, y_1 = s0 ||| s1 → ∀ y_3 : Int32, y_3 = x3 + 1 → K30 x1 y_1 y_3 I J
def wB_X10_fits_67  (K30 : Int32 → Int32 → Int32 → sw_I → sw_J → Prop) (Q : Int32 → sw_I → sw_J → Prop) (x1 : Int32) (x3 : Int32) (s0 : Int32) (s1 : Int32) (s2 : Int32) (I : sw_I) (J : sw_J) : Prop :=
  wB_X10_fits_72  K30 Q x1 x3 s0 (s1 <<< (s2 &&& 31)) I J
def wb_X10_fits_30  (K30 : Int32 → Int32 → Int32 → sw_I → sw_J → Prop) (Q : Int32 → sw_I → sw_J → Prop) (x1 : Int32) (x2 : Int32) (x3 : Int32) (I : sw_I) (J : sw_J) : Prop :=
  sw_if (x3 < (I 140 3)) (vp_in ((10 : Int32) + x1) 33 ∧ ∀ I_3 : sw_I, I_3 = sw_up I 145 ((10 : Int32) + x1).toNatClampNeg x3 → wp_X10_areSo  I_3 J (fun r_5 I_6 J_7 => sw_if (r_5 = 0) (wB_X10_fits_72  K30 Q x1 x3 x2 0 I_6 J_7) (sw_if (x3 < 0) (wB_X10_fits_67  K30 Q x1 x3 x2 1 9 I_6 J_7) (wB_X10_fits_67  K30 Q x1 x3 x2 1 x3 I_6 J_7)))) (Q x2 I J)
def wl_X10_fits_30   (Q : Int32 → sw_I → sw_J → Prop) : Nat → Int32 → Int32 → Int32 → sw_I → sw_J → Prop
  | 0 => fun _ _ _ _ _ => False
  | n + 1 => fun x1 x2 x3 I J => wb_X10_fits_30  (wl_X10_fits_30   Q n) Q x1 x2 x3 I J
def wp_X10_fits (x1 : Int32) (I : sw_I) (J : sw_J) (Q : Int32 → sw_I → sw_J → Prop) : Prop :=
  ∀ I_1 : sw_I, I_1 = sw_up I 140 0 (0 : Int32) → wp_X10_isRider x1 I_1 J (fun r_3 I_4 J_5 => sw_if (r_3 = 0) (Q (-1 : Int32) I_4 J_5) (wp_X10_puts 144 33 145 33 I_4 J_5 (fun I_8 J_9 => ∃ n_10 : Nat, wl_X10_fits_30   Q n_10 x1 0 (-1) I_8 J_9)))
set_option maxRecDepth 20000 in
theorem t_X10_fits_72 {l : Launch} {D : va_G} {cy : Nat → ClassId} {sz : Nat} {G : sw_G} (hG : sw_lay G)   {Q : Int32 → sw_I → sw_J → Prop} {K30 : Int32 → Int32 → Int32 → sw_I → sw_J → Prop} (hK30 : ∀ (x1 : Int32) (x2 : Int32) (x3 : Int32) (I : sw_I) (J : sw_J), K30 x1 x2 x3 I J → AW l D cy sz RX10 cX10_fits 4 (some .int) false rm_X10_fits 0 0 (sw_qi G Q) 0 0 G I J 30 [(0, .ref (sz + 140)), (1, .int x1), (2, .int x2), (3, .int x3)] []) {x1 : Int32} {x3 : Int32} {s0 : Int32} {s1 : Int32} {I : sw_I} {J : sw_J} (h : wB_X10_fits_72  K30 Q x1 x3 s0 s1 I J) : AW l D cy sz RX10 cX10_fits 4 (some .int) false rm_X10_fits 0 0 (sw_qi G Q) 0 0 G I J 72 [(0, .ref (sz + 140)), (1, .int x1), (3, .int x3)] [.int s1, .int s0] := by
  unfold wB_X10_fits_72 at h
  refine aw_ior dX10_fits_72 ?_
  refine aw_topi (fun y_1 e_2 => ?_)
  have h := h y_1 e_2
  refine aw_istore_n (lv' := [(2, .int y_1), (0, .ref (sz + 140)), (1, .int x1), (3, .int x3)]) dX10_fits_73 rfl (by decide) rfl ?_
  obtain ⟨y_3, e_4⟩ : ∃ q : Int32, q = x3 + 1 := ⟨_, rfl⟩
  have h := h y_3 e_4
  refine aw_iinc (lv' := [(3, .int y_3), (2, .int y_1), (0, .ref (sz + 140)), (1, .int x1)]) 3 dX10_fits_74 rfl (by rw [e_4]; rfl) (by decide) rfl ?_
  refine aw_goto 30 dX10_fits_77 (by decide) ?_
  refine aw_sub [2, 3, 1, 0] rfl ?_
  exact hK30 x1 y_1 y_3 I J h
set_option maxRecDepth 20000 in
theorem t_X10_fits_67 {l : Launch} {D : va_G} {cy : Nat → ClassId} {sz : Nat} {G : sw_G} (hG : sw_lay G)   {Q : Int32 → sw_I → sw_J → Prop} {K30 : Int32 → Int32 → Int32 → sw_I → sw_J → Prop} (hK30 : ∀ (x1 : Int32) (x2 : Int32) (x3 : Int32) (I : sw_I) (J : sw_J), K30 x1 x2 x3 I J → AW l D cy sz RX10 cX10_fits 4 (some .int) false rm_X10_fits 0 0 (sw_qi G Q) 0 0 G I J 30 [(0, .ref (sz + 140)), (1, .int x1), (2, .int x2), (3, .int x3)] []) {x1 : Int32} {x3 : Int32} {s0 : Int32} {s1 : Int32} {s2 : Int32} {I : sw_I} {J : sw_J} (h : wB_X10_fits_67  K30 Q x1 x3 s0 s1 s2 I J) : AW l D cy sz RX10 cX10_fits 4 (some .int) false rm_X10_fits 0 0 (sw_qi G Q) 0 0 G I J 67 [(0, .ref (sz + 140)), (1, .int x1), (3, .int x3)] [.int s2, .int s1, .int s0] := by
  unfold wB_X10_fits_67 at h
  refine aw_ishl dX10_fits_67 ?_
  refine aw_goto 72 dX10_fits_68 (by decide) ?_
  refine aw_sub [0, 1, 2] rfl ?_
  exact t_X10_fits_72 hG  hK30 h
set_option maxRecDepth 20000 in
theorem tb_X10_fits_30 {l : Launch} {D : va_G} {cy : Nat → ClassId} {sz : Nat} {G : sw_G} (hG : sw_lay G)   {Q : Int32 → sw_I → sw_J → Prop} {K30 : Int32 → Int32 → Int32 → sw_I → sw_J → Prop} (hK30 : ∀ (x1 : Int32) (x2 : Int32) (x3 : Int32) (I : sw_I) (J : sw_J), K30 x1 x2 x3 I J → AW l D cy sz RX10 cX10_fits 4 (some .int) false rm_X10_fits 0 0 (sw_qi G Q) 0 0 G I J 30 [(0, .ref (sz + 140)), (1, .int x1), (2, .int x2), (3, .int x3)] []) {x1 : Int32} {x2 : Int32} {x3 : Int32} {I : sw_I} {J : sw_J} (h : wb_X10_fits_30  K30 Q x1 x2 x3 I J) : AW l D cy sz RX10 cX10_fits 4 (some .int) false rm_X10_fits 0 0 (sw_qi G Q) 0 0 G I J 30 [(0, .ref (sz + 140)), (1, .int x1), (2, .int x2), (3, .int x3)] [] := by
  unfold wb_X10_fits_30 at h
  refine aw_iload_n 3 dX10_fits_30 rfl rfl ?_
  refine aw_aload_n 0 dX10_fits_31 rfl rfl ?_
  refine gf_X10_3 fl_X10_22 (lk140 hG) dX10_fits_32 ?_
  refine aw_jge 80 dX10_fits_35 (by decide) (fun c_1 => ?_) (fun c_1 => ?_)
  · have h := sw_if.f h c_1
    refine aw_iload_n 2 dX10_fits_80 rfl rfl ?_
    exact aw_iret rfl dX10_fits_81 ⟨rfl, _, rfl, h⟩
  · have h := sw_if.t h c_1
    refine aw_aload_n 0 dX10_fits_38 rfl rfl ?_
    refine gf_X10_10 fl_X10_313 (lk140 hG) (lr140_10 hG) dX10_fits_39 ?_
    refine aw_bipush (v := 10) dX10_fits_42 (by decide) ?_
    refine aw_iload_n 1 dX10_fits_44 rfl rfl ?_
    refine aw_iadd dX10_fits_45 ?_
    refine aw_iload_n 3 dX10_fits_46 rfl rfl ?_
    obtain ⟨hi_2, h⟩ := h
    refine aw_ist dX10_fits_47 (lk145 hG) (ln145 hG) hi_2 (aw_nameI fun I_3 e_4 => ?_)
    have h := h I_3 e_4
    refine aw_iload_n 2 dX10_fits_48 rfl rfl ?_
    refine aw_aload_n 0 dX10_fits_49 rfl rfl ?_
    refine aw_callV wv_X10_areSo (M_X10_areSo hG  h) ml_X10_430 rfl (by decide) (lk140 hG) rfl rfl (Nat.le_of_ble_eq_true rfl) ⟨rfl, rfl⟩ ⟨Nat.le_of_ble_eq_true rfl, Nat.le_of_ble_eq_true rfl⟩ ⟨Nat.le_refl _, Nat.le_refl _⟩ dX10_fits_50 (aw_ki fun r_5 I_6 J_7 h => ?_)
    refine aw_zeq 71 dX10_fits_53 (by decide) (fun c_8 => ?_) (fun c_8 => ?_)
    · have h := sw_if.t h c_8
      refine aw_iconst (v := 0) dX10_fits_71 (by decide) ?_
      refine aw_sub [0, 1, 3] rfl ?_
      exact t_X10_fits_72 hG  hK30 h
    · have h := sw_if.f h c_8
      refine aw_iconst (v := 1) dX10_fits_56 (by decide) ?_
      refine aw_iload_n 3 dX10_fits_57 rfl rfl ?_
      refine aw_zge 66 dX10_fits_58 (by decide) (fun c_9 => ?_) (fun c_9 => ?_)
      · have h := sw_if.f h c_9
        refine aw_iload_n 3 dX10_fits_66 rfl rfl ?_
        refine aw_sub [0, 1, 3] rfl ?_
        exact t_X10_fits_67 hG  hK30 h
      · have h := sw_if.t h c_9
        refine aw_bipush (v := 9) dX10_fits_61 (by decide) ?_
        refine aw_goto 67 dX10_fits_63 (by decide) ?_
        refine aw_sub [0, 1, 3] rfl ?_
        exact t_X10_fits_67 hG  hK30 h
set_option maxRecDepth 20000 in
theorem tl_X10_fits_30 {l : Launch} {D : va_G} {cy : Nat → ClassId} {sz : Nat} {G : sw_G} (hG : sw_lay G)   {Q : Int32 → sw_I → sw_J → Prop} : ∀ (n : Nat) (x1 : Int32) (x2 : Int32) (x3 : Int32) (I : sw_I) (J : sw_J), wl_X10_fits_30   Q n x1 x2 x3 I J → AW l D cy sz RX10 cX10_fits 4 (some .int) false rm_X10_fits 0 0 (sw_qi G Q) 0 0 G I J 30 [(0, .ref (sz + 140)), (1, .int x1), (2, .int x2), (3, .int x3)] [] := by
  intro n
  induction n with
  | zero => intro x1 x2 x3 I J h; exact False.elim h
  | succ n ih => intro x1 x2 x3 I J h; exact tb_X10_fits_30 hG  ih h
set_option maxRecDepth 20000 in
theorem t_X10_fits {l : Launch} {D : va_G} {cy : Nat → ClassId} {sz : Nat} {G : sw_G} (hG : sw_lay G)   {Q : Int32 → sw_I → sw_J → Prop} {x1 : Int32} {I : sw_I} {J : sw_J} (h : wp_X10_fits x1 I J Q) : AW l D cy sz RX10 cX10_fits 4 (some .int) false rm_X10_fits 0 0 (sw_qi G Q) 0 0 G I J 0 [(0, .ref (sz + 140)), (1, .int x1)] [] := by
  unfold wp_X10_fits at h
  refine aw_aload_n 0 dX10_fits_0 rfl rfl ?_
  refine aw_iconst (v := 0) dX10_fits_1 (by decide) ?_
  refine pf_X10_0 fl_X10_3 (lk140 hG) dX10_fits_2 (aw_nameI fun I_1 e_2 => ?_)
  have h := h I_1 e_2
  refine aw_aload_n 0 dX10_fits_5 rfl rfl ?_
  refine aw_iload_n 1 dX10_fits_6 rfl rfl ?_
  refine aw_callV wv_X10_isRider (M_X10_isRider hG  h) ml_X10_226 rfl (by decide) (lk140 hG) rfl rfl (Nat.le_of_ble_eq_true rfl) ⟨rfl, rfl⟩ ⟨Nat.le_of_ble_eq_true rfl, Nat.le_of_ble_eq_true rfl⟩ ⟨Nat.le_refl _, Nat.le_refl _⟩ dX10_fits_7 (aw_ki fun r_3 I_4 J_5 h => ?_)
  refine aw_zne 15 dX10_fits_10 (by decide) (fun c_6 => ?_) (fun c_6 => ?_)
  · have h := sw_if.f h c_6
    refine aw_aload_n 0 dX10_fits_15 rfl rfl ?_
    refine gf_X10_9 fl_X10_79 (lk140 hG) (lr140_9 hG) dX10_fits_16 ?_
    refine aw_aload_n 0 dX10_fits_19 rfl rfl ?_
    refine gf_X10_10 fl_X10_313 (lk140 hG) (lr140_10 hG) dX10_fits_20 ?_
    refine aw_callS wv_X10_puts (M_X10_puts trivial ⟨(lk144 hG), (ln144 hG)⟩ ⟨(lk145 hG), (ln145 hG)⟩ h) ml_X10_316 rfl rfl (Nat.le_of_ble_eq_true rfl) ⟨rfl, rfl⟩ ⟨Nat.le_of_ble_eq_true rfl, Nat.le_of_ble_eq_true rfl⟩ ⟨Nat.le_refl _, Nat.le_refl _⟩ dX10_fits_23 (aw_kv fun I_8 J_9 h => ?_)
    refine aw_iconst (v := 0) dX10_fits_26 (by decide) ?_
    refine aw_istore_n (lv' := [(2, .int 0), (0, .ref (sz + 140)), (1, .int x1)]) dX10_fits_27 rfl (by decide) rfl ?_
    refine aw_iconst (v := (-1)) dX10_fits_28 (by decide) ?_
    refine aw_istore_n (lv' := [(3, .int (-1)), (2, .int 0), (0, .ref (sz + 140)), (1, .int x1)]) dX10_fits_29 rfl (by decide) rfl ?_
    refine aw_sub [2, 3, 1, 0] rfl ?_
    obtain ⟨n_10, h⟩ := h
    exact tl_X10_fits_30 hG   n_10 x1 0 (-1) I_8 J_9 h
  · have h := sw_if.t h c_6
    refine aw_iconst (v := (-1)) dX10_fits_13 (by decide) ?_
    exact aw_iret rfl dX10_fits_14 ⟨rfl, _, rfl, h⟩
theorem M_X10_fits {l : Launch} {D : va_G} {cy : Nat → ClassId} {sz : Nat} {G : sw_G} (hG : sw_lay G)   {Q : Int32 → sw_I → sw_J → Prop} {x1 : Int32} {I : sw_I} {J : sw_J} (h : wp_X10_fits x1 I J Q) : Met l yX10_fits (Cond.code yX10_fits cX10_fits 4 (some .int) :: sw_T) rm_X10_fits (sw_Pc D cy sz [.ref (sz + 140), .int x1] G I J) (sw_Q D cy sz (sw_qi G Q)) 0 0 (fun q => sz ≤ q) :=
  sw_met (by decide) (fun q => by cases q) (Nat.le_of_ble_eq_true rfl) rfl (t_X10_fits hG  h)
-- X10_tellsLies
abbrev rm_X10_tellsLies : Room := { frames := 6, cells := 0, slots := 0, locals := 136 }
def wB_X10_tellsLies_128  (K13 : Int32 → Int32 → Int32 → Int32 → sw_I → sw_J → Prop) (Q : Int32 → sw_I → sw_J → Prop) (x1 : Int32) (x2 : Int32) (x3 : Int32) (x4 : Int32) (I : sw_I) (J : sw_J) : Prop :=
  ∀ y_1 : Int32, y_1 = x4 + 1 → K13 x1 x2 x3 y_1 I J
def wB_X10_tellsLies_63  (K13 : Int32 → Int32 → Int32 → Int32 → sw_I → sw_J → Prop) (Q : Int32 → sw_I → sw_J → Prop) (x1 : Int32) (x2 : Int32) (x3 : Int32) (x4 : Int32) (I : sw_I) (J : sw_J) : Prop :=
  vp_in ((10 : Int32) + x1) 33 ∧ ∀ I_2 : sw_I, I_2 = sw_up I 145 ((10 : Int32) + x1).toNatClampNeg x3 → vp_in ((10 : Int32) + x2) 33 ∧ ∀ I_5 : sw_I, I_5 = sw_up I_2 145 ((10 : Int32) + x2).toNatClampNeg x4 → wp_X10_areSo  I_5 J (fun r_7 I_8 J_9 => sw_if (r_7 = 0) (wB_X10_tellsLies_128  K13 Q x1 x2 x3 x4 I_8 J_9) (∀ I_11 : sw_I, I_11 = sw_up I_8 140 1 (0 : Int32) → wp_X10_enters ((((1 : Int32) <<< (x1 &&& 31)) ||| ((1 : Int32) <<< (x2 &&& 31))).toInt64) I_11 J_9 (fun I_14 J_15 => wp_X10_enters x3.toInt64 I_14 J_15 (fun I_17 J_18 => sw_if (x1 = x2) (Q 1 I_17 J_18) (wp_X10_enters x4.toInt64 I_17 J_18 (fun I_21 J_22 => Q 1 I_21 J_22))))))
def wb_X10_tellsLies_13  (K2 : Int32 → Int32 → Int32 → sw_I → sw_J → Prop) (K13 : Int32 → Int32 → Int32 → Int32 → sw_I → sw_J → Prop) (Q : Int32 → sw_I → sw_J → Prop) (x1 : Int32) (x2 : Int32) (x3 : Int32) (x4 : Int32) (I : sw_I) (J : sw_J) : Prop :=
  sw_if (x4 < (I 140 3)) (vp_in ((10 : Int32) + x1) 33 ∧ sw_if (x3 = (I 144 ((10 : Int32) + x1).toNatClampNeg)) (wB_X10_tellsLies_128  K13 Q x1 x2 x3 x4 I J) (vp_in ((10 : Int32) + x2) 33 ∧ sw_if (x4 = (I 144 ((10 : Int32) + x2).toNatClampNeg)) (wB_X10_tellsLies_128  K13 Q x1 x2 x3 x4 I J) (sw_if (x1 = x2) (sw_if (x3 = x4) (wB_X10_tellsLies_63  K13 Q x1 x2 x3 x4 I J) (wB_X10_tellsLies_128  K13 Q x1 x2 x3 x4 I J)) (wB_X10_tellsLies_63  K13 Q x1 x2 x3 x4 I J)))) (∀ y_2 : Int32, y_2 = x3 + 1 → K2 x1 x2 y_2 I J)
def wl_X10_tellsLies_13  (K2 : Int32 → Int32 → Int32 → sw_I → sw_J → Prop) (Q : Int32 → sw_I → sw_J → Prop) : Nat → Int32 → Int32 → Int32 → Int32 → sw_I → sw_J → Prop
  | 0 => fun _ _ _ _ _ _ => False
  | n + 1 => fun x1 x2 x3 x4 I J => wb_X10_tellsLies_13  K2 (wl_X10_tellsLies_13  K2 Q n) Q x1 x2 x3 x4 I J
def wb_X10_tellsLies_2  (K2 : Int32 → Int32 → Int32 → sw_I → sw_J → Prop) (Q : Int32 → sw_I → sw_J → Prop) (x1 : Int32) (x2 : Int32) (x3 : Int32) (I : sw_I) (J : sw_J) : Prop :=
  sw_if (x3 < (I 140 3)) (∃ n_10 : Nat, wl_X10_tellsLies_13  K2 Q n_10 x1 x2 x3 (-1) I J) (vp_in ((10 : Int32) + x1) 33 ∧ vp_in ((10 : Int32) + x1) 33 ∧ ∀ I_4 : sw_I, I_4 = sw_up I 145 ((10 : Int32) + x1).toNatClampNeg (I 144 ((10 : Int32) + x1).toNatClampNeg) → vp_in ((10 : Int32) + x2) 33 ∧ vp_in ((10 : Int32) + x2) 33 ∧ ∀ I_8 : sw_I, I_8 = sw_up I_4 145 ((10 : Int32) + x2).toNatClampNeg (I_4 144 ((10 : Int32) + x2).toNatClampNeg) → Q 0 I_8 J)
def wl_X10_tellsLies_2   (Q : Int32 → sw_I → sw_J → Prop) : Nat → Int32 → Int32 → Int32 → sw_I → sw_J → Prop
  | 0 => fun _ _ _ _ _ => False
  | n + 1 => fun x1 x2 x3 I J => wb_X10_tellsLies_2  (wl_X10_tellsLies_2   Q n) Q x1 x2 x3 I J
def wp_X10_tellsLies (x1 : Int32) (x2 : Int32) (I : sw_I) (J : sw_J) (Q : Int32 → sw_I → sw_J → Prop) : Prop :=
  ∃ n_1 : Nat, wl_X10_tellsLies_2   Q n_1 x1 x2 (-1) I J
set_option maxRecDepth 20000 in
theorem t_X10_tellsLies_128 {l : Launch} {D : va_G} {cy : Nat → ClassId} {sz : Nat} {G : sw_G} (hG : sw_lay G)   {Q : Int32 → sw_I → sw_J → Prop} {K13 : Int32 → Int32 → Int32 → Int32 → sw_I → sw_J → Prop} (hK13 : ∀ (x1 : Int32) (x2 : Int32) (x3 : Int32) (x4 : Int32) (I : sw_I) (J : sw_J), K13 x1 x2 x3 x4 I J → AW l D cy sz RX10 cX10_tellsLies 5 (some .boolean) false rm_X10_tellsLies 0 0 (sw_qi G Q) 0 0 G I J 13 [(0, .ref (sz + 140)), (1, .int x1), (2, .int x2), (3, .int x3), (4, .int x4)] []) {x1 : Int32} {x2 : Int32} {x3 : Int32} {x4 : Int32} {I : sw_I} {J : sw_J} (h : wB_X10_tellsLies_128  K13 Q x1 x2 x3 x4 I J) : AW l D cy sz RX10 cX10_tellsLies 5 (some .boolean) false rm_X10_tellsLies 0 0 (sw_qi G Q) 0 0 G I J 128 [(0, .ref (sz + 140)), (1, .int x1), (2, .int x2), (3, .int x3), (4, .int x4)] [] := by
  unfold wB_X10_tellsLies_128 at h
  obtain ⟨y_1, e_2⟩ : ∃ q : Int32, q = x4 + 1 := ⟨_, rfl⟩
  have h := h y_1 e_2
  refine aw_iinc (lv' := [(4, .int y_1), (0, .ref (sz + 140)), (1, .int x1), (2, .int x2), (3, .int x3)]) 4 dX10_tellsLies_128 rfl (by rw [e_2]; rfl) (by decide) rfl ?_
  refine aw_goto 13 dX10_tellsLies_131 (by decide) ?_
  refine aw_sub [1, 2, 3, 4, 0] rfl ?_
  exact hK13 x1 x2 x3 y_1 I J h
set_option maxRecDepth 20000 in
theorem t_X10_tellsLies_63 {l : Launch} {D : va_G} {cy : Nat → ClassId} {sz : Nat} {G : sw_G} (hG : sw_lay G)   {Q : Int32 → sw_I → sw_J → Prop} {K13 : Int32 → Int32 → Int32 → Int32 → sw_I → sw_J → Prop} (hK13 : ∀ (x1 : Int32) (x2 : Int32) (x3 : Int32) (x4 : Int32) (I : sw_I) (J : sw_J), K13 x1 x2 x3 x4 I J → AW l D cy sz RX10 cX10_tellsLies 5 (some .boolean) false rm_X10_tellsLies 0 0 (sw_qi G Q) 0 0 G I J 13 [(0, .ref (sz + 140)), (1, .int x1), (2, .int x2), (3, .int x3), (4, .int x4)] []) {x1 : Int32} {x2 : Int32} {x3 : Int32} {x4 : Int32} {I : sw_I} {J : sw_J} (h : wB_X10_tellsLies_63  K13 Q x1 x2 x3 x4 I J) : AW l D cy sz RX10 cX10_tellsLies 5 (some .boolean) false rm_X10_tellsLies 0 0 (sw_qi G Q) 0 0 G I J 63 [(0, .ref (sz + 140)), (1, .int x1), (2, .int x2), (3, .int x3), (4, .int x4)] [] := by
  unfold wB_X10_tellsLies_63 at h
  refine aw_aload_n 0 dX10_tellsLies_63 rfl rfl ?_
  refine gf_X10_10 fl_X10_313 (lk140 hG) (lr140_10 hG) dX10_tellsLies_64 ?_
  refine aw_bipush (v := 10) dX10_tellsLies_67 (by decide) ?_
  refine aw_iload_n 1 dX10_tellsLies_69 rfl rfl ?_
  refine aw_iadd dX10_tellsLies_70 ?_
  refine aw_iload_n 3 dX10_tellsLies_71 rfl rfl ?_
  obtain ⟨hi_1, h⟩ := h
  refine aw_ist dX10_tellsLies_72 (lk145 hG) (ln145 hG) hi_1 (aw_nameI fun I_2 e_3 => ?_)
  have h := h I_2 e_3
  refine aw_aload_n 0 dX10_tellsLies_73 rfl rfl ?_
  refine gf_X10_10 fl_X10_313 (lk140 hG) (lr140_10 hG) dX10_tellsLies_74 ?_
  refine aw_bipush (v := 10) dX10_tellsLies_77 (by decide) ?_
  refine aw_iload_n 2 dX10_tellsLies_79 rfl rfl ?_
  refine aw_iadd dX10_tellsLies_80 ?_
  refine aw_iload 4 dX10_tellsLies_81 rfl ?_
  obtain ⟨hi_4, h⟩ := h
  refine aw_ist dX10_tellsLies_83 (lk145 hG) (ln145 hG) hi_4 (aw_nameI fun I_5 e_6 => ?_)
  have h := h I_5 e_6
  refine aw_aload_n 0 dX10_tellsLies_84 rfl rfl ?_
  refine aw_callV wv_X10_areSo (M_X10_areSo hG  h) ml_X10_430 rfl (by decide) (lk140 hG) rfl rfl (Nat.le_of_ble_eq_true rfl) ⟨rfl, rfl⟩ ⟨Nat.le_of_ble_eq_true rfl, Nat.le_of_ble_eq_true rfl⟩ ⟨Nat.le_refl _, Nat.le_refl _⟩ dX10_tellsLies_85 (aw_ki fun r_7 I_8 J_9 h => ?_)
  refine aw_zeq 128 dX10_tellsLies_88 (by decide) (fun c_10 => ?_) (fun c_10 => ?_)
  · have h := sw_if.t h c_10
    refine aw_sub [0, 1, 2, 3, 4] rfl ?_
    exact t_X10_tellsLies_128 hG  hK13 h
  · have h := sw_if.f h c_10
    refine aw_aload_n 0 dX10_tellsLies_91 rfl rfl ?_
    refine aw_iconst (v := 0) dX10_tellsLies_92 (by decide) ?_
    refine pf_X10_1 fl_X10_15 (lk140 hG) dX10_tellsLies_93 (aw_nameI fun I_11 e_12 => ?_)
    have h := h I_11 e_12
    refine aw_aload_n 0 dX10_tellsLies_96 rfl rfl ?_
    refine aw_iconst (v := 1) dX10_tellsLies_97 (by decide) ?_
    refine aw_iload_n 1 dX10_tellsLies_98 rfl rfl ?_
    refine aw_ishl dX10_tellsLies_99 ?_
    refine aw_iconst (v := 1) dX10_tellsLies_100 (by decide) ?_
    refine aw_iload_n 2 dX10_tellsLies_101 rfl rfl ?_
    refine aw_ishl dX10_tellsLies_102 ?_
    refine aw_ior dX10_tellsLies_103 ?_
    refine aw_i2l dX10_tellsLies_104 ?_
    refine aw_callV wv_X10_enters (M_X10_enters hG  h) ml_X10_18 rfl (by decide) (lk140 hG) rfl rfl (Nat.le_of_ble_eq_true rfl) ⟨rfl, rfl⟩ ⟨Nat.le_of_ble_eq_true rfl, Nat.le_of_ble_eq_true rfl⟩ ⟨Nat.le_refl _, Nat.le_refl _⟩ dX10_tellsLies_105 (aw_kv fun I_14 J_15 h => ?_)
    refine aw_aload_n 0 dX10_tellsLies_108 rfl rfl ?_
    refine aw_iload_n 3 dX10_tellsLies_109 rfl rfl ?_
    refine aw_i2l dX10_tellsLies_110 ?_
    refine aw_callV wv_X10_enters (M_X10_enters hG  h) ml_X10_18 rfl (by decide) (lk140 hG) rfl rfl (Nat.le_of_ble_eq_true rfl) ⟨rfl, rfl⟩ ⟨Nat.le_of_ble_eq_true rfl, Nat.le_of_ble_eq_true rfl⟩ ⟨Nat.le_refl _, Nat.le_refl _⟩ dX10_tellsLies_111 (aw_kv fun I_17 J_18 h => ?_)
    refine aw_iload_n 1 dX10_tellsLies_114 rfl rfl ?_
    refine aw_iload_n 2 dX10_tellsLies_115 rfl rfl ?_
    refine aw_jeq 126 dX10_tellsLies_116 (by decide) (fun c_19 => ?_) (fun c_19 => ?_)
    · have h := sw_if.t h c_19
      refine aw_iconst (v := 1) dX10_tellsLies_126 (by decide) ?_
      exact aw_zret rfl rfl dX10_tellsLies_127 ⟨rfl, _, rfl, h⟩
    · have h := sw_if.f h c_19
      refine aw_aload_n 0 dX10_tellsLies_119 rfl rfl ?_
      refine aw_iload 4 dX10_tellsLies_120 rfl ?_
      refine aw_i2l dX10_tellsLies_122 ?_
      refine aw_callV wv_X10_enters (M_X10_enters hG  h) ml_X10_18 rfl (by decide) (lk140 hG) rfl rfl (Nat.le_of_ble_eq_true rfl) ⟨rfl, rfl⟩ ⟨Nat.le_of_ble_eq_true rfl, Nat.le_of_ble_eq_true rfl⟩ ⟨Nat.le_refl _, Nat.le_refl _⟩ dX10_tellsLies_123 (aw_kv fun I_21 J_22 h => ?_)
      refine aw_iconst (v := 1) dX10_tellsLies_126 (by decide) ?_
      exact aw_zret rfl rfl dX10_tellsLies_127 ⟨rfl, _, rfl, h⟩
set_option maxRecDepth 20000 in
theorem tb_X10_tellsLies_13 {l : Launch} {D : va_G} {cy : Nat → ClassId} {sz : Nat} {G : sw_G} (hG : sw_lay G)   {Q : Int32 → sw_I → sw_J → Prop} {K2 : Int32 → Int32 → Int32 → sw_I → sw_J → Prop} (hK2 : ∀ (x1 : Int32) (x2 : Int32) (x3 : Int32) (I : sw_I) (J : sw_J), K2 x1 x2 x3 I J → AW l D cy sz RX10 cX10_tellsLies 5 (some .boolean) false rm_X10_tellsLies 0 0 (sw_qi G Q) 0 0 G I J 2 [(0, .ref (sz + 140)), (1, .int x1), (2, .int x2), (3, .int x3)] []) {K13 : Int32 → Int32 → Int32 → Int32 → sw_I → sw_J → Prop} (hK13 : ∀ (x1 : Int32) (x2 : Int32) (x3 : Int32) (x4 : Int32) (I : sw_I) (J : sw_J), K13 x1 x2 x3 x4 I J → AW l D cy sz RX10 cX10_tellsLies 5 (some .boolean) false rm_X10_tellsLies 0 0 (sw_qi G Q) 0 0 G I J 13 [(0, .ref (sz + 140)), (1, .int x1), (2, .int x2), (3, .int x3), (4, .int x4)] []) {x1 : Int32} {x2 : Int32} {x3 : Int32} {x4 : Int32} {I : sw_I} {J : sw_J} (h : wb_X10_tellsLies_13  K2 K13 Q x1 x2 x3 x4 I J) : AW l D cy sz RX10 cX10_tellsLies 5 (some .boolean) false rm_X10_tellsLies 0 0 (sw_qi G Q) 0 0 G I J 13 [(0, .ref (sz + 140)), (1, .int x1), (2, .int x2), (3, .int x3), (4, .int x4)] [] := by
  unfold wb_X10_tellsLies_13 at h
  refine aw_iload 4 dX10_tellsLies_13 rfl ?_
  refine aw_aload_n 0 dX10_tellsLies_15 rfl rfl ?_
  refine gf_X10_3 fl_X10_22 (lk140 hG) dX10_tellsLies_16 ?_
  refine aw_jge 134 dX10_tellsLies_19 (by decide) (fun c_1 => ?_) (fun c_1 => ?_)
  · have h := sw_if.f h c_1
    obtain ⟨y_2, e_3⟩ : ∃ q : Int32, q = x3 + 1 := ⟨_, rfl⟩
    have h := h y_2 e_3
    refine aw_iinc (lv' := [(3, .int y_2), (0, .ref (sz + 140)), (1, .int x1), (2, .int x2), (4, .int x4)]) 3 dX10_tellsLies_134 rfl (by rw [e_3]; rfl) (by decide) rfl ?_
    refine aw_goto 2 dX10_tellsLies_137 (by decide) ?_
    refine aw_sub [1, 2, 3, 0] rfl ?_
    exact hK2 x1 x2 y_2 I J h
  · have h := sw_if.t h c_1
    refine aw_iload_n 3 dX10_tellsLies_22 rfl rfl ?_
    refine aw_aload_n 0 dX10_tellsLies_23 rfl rfl ?_
    refine gf_X10_9 fl_X10_79 (lk140 hG) (lr140_9 hG) dX10_tellsLies_24 ?_
    refine aw_bipush (v := 10) dX10_tellsLies_27 (by decide) ?_
    refine aw_iload_n 1 dX10_tellsLies_29 rfl rfl ?_
    refine aw_iadd dX10_tellsLies_30 ?_
    obtain ⟨hi_4, h⟩ := h
    refine aw_ild dX10_tellsLies_31 (lk144 hG) (ln144 hG) hi_4 ?_
    refine aw_jeq 128 dX10_tellsLies_32 (by decide) (fun c_5 => ?_) (fun c_5 => ?_)
    · have h := sw_if.t h c_5
      refine aw_sub [0, 1, 2, 3, 4] rfl ?_
      exact t_X10_tellsLies_128 hG  hK13 h
    · have h := sw_if.f h c_5
      refine aw_iload 4 dX10_tellsLies_35 rfl ?_
      refine aw_aload_n 0 dX10_tellsLies_37 rfl rfl ?_
      refine gf_X10_9 fl_X10_79 (lk140 hG) (lr140_9 hG) dX10_tellsLies_38 ?_
      refine aw_bipush (v := 10) dX10_tellsLies_41 (by decide) ?_
      refine aw_iload_n 2 dX10_tellsLies_43 rfl rfl ?_
      refine aw_iadd dX10_tellsLies_44 ?_
      obtain ⟨hi_6, h⟩ := h
      refine aw_ild dX10_tellsLies_45 (lk144 hG) (ln144 hG) hi_6 ?_
      refine aw_jeq 128 dX10_tellsLies_46 (by decide) (fun c_7 => ?_) (fun c_7 => ?_)
      · have h := sw_if.t h c_7
        refine aw_sub [0, 1, 2, 3, 4] rfl ?_
        exact t_X10_tellsLies_128 hG  hK13 h
      · have h := sw_if.f h c_7
        refine aw_iload_n 1 dX10_tellsLies_49 rfl rfl ?_
        refine aw_iload_n 2 dX10_tellsLies_50 rfl rfl ?_
        refine aw_jne 63 dX10_tellsLies_51 (by decide) (fun c_8 => ?_) (fun c_8 => ?_)
        · have h := sw_if.f h c_8
          refine aw_sub [0, 1, 2, 3, 4] rfl ?_
          exact t_X10_tellsLies_63 hG  hK13 h
        · have h := sw_if.t h c_8
          refine aw_iload_n 3 dX10_tellsLies_54 rfl rfl ?_
          refine aw_iload 4 dX10_tellsLies_55 rfl ?_
          refine aw_jeq 63 dX10_tellsLies_57 (by decide) (fun c_9 => ?_) (fun c_9 => ?_)
          · have h := sw_if.t h c_9
            refine aw_sub [0, 1, 2, 3, 4] rfl ?_
            exact t_X10_tellsLies_63 hG  hK13 h
          · have h := sw_if.f h c_9
            refine aw_goto 128 dX10_tellsLies_60 (by decide) ?_
            refine aw_sub [0, 1, 2, 3, 4] rfl ?_
            exact t_X10_tellsLies_128 hG  hK13 h
set_option maxRecDepth 20000 in
theorem tl_X10_tellsLies_13 {l : Launch} {D : va_G} {cy : Nat → ClassId} {sz : Nat} {G : sw_G} (hG : sw_lay G)   {Q : Int32 → sw_I → sw_J → Prop} {K2 : Int32 → Int32 → Int32 → sw_I → sw_J → Prop} (hK2 : ∀ (x1 : Int32) (x2 : Int32) (x3 : Int32) (I : sw_I) (J : sw_J), K2 x1 x2 x3 I J → AW l D cy sz RX10 cX10_tellsLies 5 (some .boolean) false rm_X10_tellsLies 0 0 (sw_qi G Q) 0 0 G I J 2 [(0, .ref (sz + 140)), (1, .int x1), (2, .int x2), (3, .int x3)] []) : ∀ (n : Nat) (x1 : Int32) (x2 : Int32) (x3 : Int32) (x4 : Int32) (I : sw_I) (J : sw_J), wl_X10_tellsLies_13  K2 Q n x1 x2 x3 x4 I J → AW l D cy sz RX10 cX10_tellsLies 5 (some .boolean) false rm_X10_tellsLies 0 0 (sw_qi G Q) 0 0 G I J 13 [(0, .ref (sz + 140)), (1, .int x1), (2, .int x2), (3, .int x3), (4, .int x4)] [] := by
  intro n
  induction n with
  | zero => intro x1 x2 x3 x4 I J h; exact False.elim h
  | succ n ih => intro x1 x2 x3 x4 I J h; exact tb_X10_tellsLies_13 hG  hK2 ih h
set_option maxRecDepth 20000 in
theorem tb_X10_tellsLies_2 {l : Launch} {D : va_G} {cy : Nat → ClassId} {sz : Nat} {G : sw_G} (hG : sw_lay G)   {Q : Int32 → sw_I → sw_J → Prop} {K2 : Int32 → Int32 → Int32 → sw_I → sw_J → Prop} (hK2 : ∀ (x1 : Int32) (x2 : Int32) (x3 : Int32) (I : sw_I) (J : sw_J), K2 x1 x2 x3 I J → AW l D cy sz RX10 cX10_tellsLies 5 (some .boolean) false rm_X10_tellsLies 0 0 (sw_qi G Q) 0 0 G I J 2 [(0, .ref (sz + 140)), (1, .int x1), (2, .int x2), (3, .int x3)] []) {x1 : Int32} {x2 : Int32} {x3 : Int32} {I : sw_I} {J : sw_J} (h : wb_X10_tellsLies_2  K2 Q x1 x2 x3 I J) : AW l D cy sz RX10 cX10_tellsLies 5 (some .boolean) false rm_X10_tellsLies 0 0 (sw_qi G Q) 0 0 G I J 2 [(0, .ref (sz + 140)), (1, .int x1), (2, .int x2), (3, .int x3)] [] := by
  unfold wb_X10_tellsLies_2 at h
  refine aw_iload_n 3 dX10_tellsLies_2 rfl rfl ?_
  refine aw_aload_n 0 dX10_tellsLies_3 rfl rfl ?_
  refine gf_X10_3 fl_X10_22 (lk140 hG) dX10_tellsLies_4 ?_
  refine aw_jge 140 dX10_tellsLies_7 (by decide) (fun c_1 => ?_) (fun c_1 => ?_)
  · have h := sw_if.f h c_1
    refine aw_aload_n 0 dX10_tellsLies_140 rfl rfl ?_
    refine gf_X10_10 fl_X10_313 (lk140 hG) (lr140_10 hG) dX10_tellsLies_141 ?_
    refine aw_bipush (v := 10) dX10_tellsLies_144 (by decide) ?_
    refine aw_iload_n 1 dX10_tellsLies_146 rfl rfl ?_
    refine aw_iadd dX10_tellsLies_147 ?_
    refine aw_aload_n 0 dX10_tellsLies_148 rfl rfl ?_
    refine gf_X10_9 fl_X10_79 (lk140 hG) (lr140_9 hG) dX10_tellsLies_149 ?_
    refine aw_bipush (v := 10) dX10_tellsLies_152 (by decide) ?_
    refine aw_iload_n 1 dX10_tellsLies_154 rfl rfl ?_
    refine aw_iadd dX10_tellsLies_155 ?_
    obtain ⟨hi_2, h⟩ := h
    refine aw_ild dX10_tellsLies_156 (lk144 hG) (ln144 hG) hi_2 ?_
    obtain ⟨hi_3, h⟩ := h
    refine aw_ist dX10_tellsLies_157 (lk145 hG) (ln145 hG) hi_3 (aw_nameI fun I_4 e_5 => ?_)
    have h := h I_4 e_5
    refine aw_aload_n 0 dX10_tellsLies_158 rfl rfl ?_
    refine gf_X10_10 fl_X10_313 (lk140 hG) (lr140_10 hG) dX10_tellsLies_159 ?_
    refine aw_bipush (v := 10) dX10_tellsLies_162 (by decide) ?_
    refine aw_iload_n 2 dX10_tellsLies_164 rfl rfl ?_
    refine aw_iadd dX10_tellsLies_165 ?_
    refine aw_aload_n 0 dX10_tellsLies_166 rfl rfl ?_
    refine gf_X10_9 fl_X10_79 (lk140 hG) (lr140_9 hG) dX10_tellsLies_167 ?_
    refine aw_bipush (v := 10) dX10_tellsLies_170 (by decide) ?_
    refine aw_iload_n 2 dX10_tellsLies_172 rfl rfl ?_
    refine aw_iadd dX10_tellsLies_173 ?_
    obtain ⟨hi_6, h⟩ := h
    refine aw_ild dX10_tellsLies_174 (lk144 hG) (ln144 hG) hi_6 ?_
    obtain ⟨hi_7, h⟩ := h
    refine aw_ist dX10_tellsLies_175 (lk145 hG) (ln145 hG) hi_7 (aw_nameI fun I_8 e_9 => ?_)
    have h := h I_8 e_9
    refine aw_iconst (v := 0) dX10_tellsLies_176 (by decide) ?_
    exact aw_zret rfl rfl dX10_tellsLies_177 ⟨rfl, _, rfl, h⟩
  · have h := sw_if.t h c_1
    refine aw_iconst (v := (-1)) dX10_tellsLies_10 (by decide) ?_
    refine aw_istore (lv' := [(4, .int (-1)), (0, .ref (sz + 140)), (1, .int x1), (2, .int x2), (3, .int x3)]) dX10_tellsLies_11 (by decide) rfl ?_
    refine aw_sub [1, 2, 3, 4, 0] rfl ?_
    obtain ⟨n_10, h⟩ := h
    exact tl_X10_tellsLies_13 hG  hK2 n_10 x1 x2 x3 (-1) I J h
set_option maxRecDepth 20000 in
theorem tl_X10_tellsLies_2 {l : Launch} {D : va_G} {cy : Nat → ClassId} {sz : Nat} {G : sw_G} (hG : sw_lay G)   {Q : Int32 → sw_I → sw_J → Prop} : ∀ (n : Nat) (x1 : Int32) (x2 : Int32) (x3 : Int32) (I : sw_I) (J : sw_J), wl_X10_tellsLies_2   Q n x1 x2 x3 I J → AW l D cy sz RX10 cX10_tellsLies 5 (some .boolean) false rm_X10_tellsLies 0 0 (sw_qi G Q) 0 0 G I J 2 [(0, .ref (sz + 140)), (1, .int x1), (2, .int x2), (3, .int x3)] [] := by
  intro n
  induction n with
  | zero => intro x1 x2 x3 I J h; exact False.elim h
  | succ n ih => intro x1 x2 x3 I J h; exact tb_X10_tellsLies_2 hG  ih h
set_option maxRecDepth 20000 in
theorem t_X10_tellsLies {l : Launch} {D : va_G} {cy : Nat → ClassId} {sz : Nat} {G : sw_G} (hG : sw_lay G)   {Q : Int32 → sw_I → sw_J → Prop} {x1 : Int32} {x2 : Int32} {I : sw_I} {J : sw_J} (h : wp_X10_tellsLies x1 x2 I J Q) : AW l D cy sz RX10 cX10_tellsLies 5 (some .boolean) false rm_X10_tellsLies 0 0 (sw_qi G Q) 0 0 G I J 0 [(0, .ref (sz + 140)), (1, .int x1), (2, .int x2)] [] := by
  unfold wp_X10_tellsLies at h
  refine aw_iconst (v := (-1)) dX10_tellsLies_0 (by decide) ?_
  refine aw_istore_n (lv' := [(3, .int (-1)), (0, .ref (sz + 140)), (1, .int x1), (2, .int x2)]) dX10_tellsLies_1 rfl (by decide) rfl ?_
  refine aw_sub [1, 2, 3, 0] rfl ?_
  obtain ⟨n_1, h⟩ := h
  exact tl_X10_tellsLies_2 hG   n_1 x1 x2 (-1) I J h
theorem M_X10_tellsLies {l : Launch} {D : va_G} {cy : Nat → ClassId} {sz : Nat} {G : sw_G} (hG : sw_lay G)   {Q : Int32 → sw_I → sw_J → Prop} {x1 : Int32} {x2 : Int32} {I : sw_I} {J : sw_J} (h : wp_X10_tellsLies x1 x2 I J Q) : Met l yX10_tellsLies (Cond.code yX10_tellsLies cX10_tellsLies 5 (some .boolean) :: sw_T) rm_X10_tellsLies (sw_Pc D cy sz [.ref (sz + 140), .int x1, .int x2] G I J) (sw_Q D cy sz (sw_qi G Q)) 0 0 (fun q => sz ≤ q) :=
  sw_met (by decide) (fun q => by cases q) (Nat.le_of_ble_eq_true rfl) rfl (t_X10_tellsLies hG  h)
-- X10_lies
abbrev rm_X10_lies : Room := { frames := 7, cells := 0, slots := 0, locals := 160 }
def wb_X10_lies_74  (K64 : Int32 → sw_I → sw_J → Prop) (K74 : Int32 → Int32 → sw_I → sw_J → Prop) (Q : Int32 → sw_I → sw_J → Prop) (x1 : Int32) (x2 : Int32) (I : sw_I) (J : sw_J) : Prop :=
  sw_if (x2 < x1) (wp_X10_tellsLies x2 x1 I J (fun r_4 I_5 J_6 => sw_if (r_4 = 0) (∀ y_8 : Int32, y_8 = x2 + 1 → K74 x1 y_8 I_5 J_6) (Q (2 : Int32) I_5 J_6))) (∀ y_2 : Int32, y_2 = x1 + 1 → K64 y_2 I J)
def wl_X10_lies_74  (K64 : Int32 → sw_I → sw_J → Prop) (Q : Int32 → sw_I → sw_J → Prop) : Nat → Int32 → Int32 → sw_I → sw_J → Prop
  | 0 => fun _ _ _ _ => False
  | n + 1 => fun x1 x2 I J => wb_X10_lies_74  K64 (wl_X10_lies_74  K64 Q n) Q x1 x2 I J
def wb_X10_lies_64  (K64 : Int32 → sw_I → sw_J → Prop) (Q : Int32 → sw_I → sw_J → Prop) (x1 : Int32) (I : sw_I) (J : sw_J) : Prop :=
  sw_if (x1 < (I 140 4)) (∃ n_2 : Nat, wl_X10_lies_74  K64 Q n_2 x1 0 I J) (Q (-2 : Int32) I J)
def wl_X10_lies_64   (Q : Int32 → sw_I → sw_J → Prop) : Nat → Int32 → sw_I → sw_J → Prop
  | 0 => fun _ _ _ => False
  | n + 1 => fun x1 I J => wb_X10_lies_64  (wl_X10_lies_64   Q n) Q x1 I J
def wb_X10_lies_37  (K37 : Int32 → sw_I → sw_J → Prop) (Q : Int32 → sw_I → sw_J → Prop) (x1 : Int32) (I : sw_I) (J : sw_J) : Prop :=
  sw_if (x1 < (I 140 4)) (wp_X10_tellsLies x1 x1 I J (fun r_3 I_4 J_5 => sw_if (r_3 = 0) (∀ y_7 : Int32, y_7 = x1 + 1 → K37 y_7 I_4 J_5) (Q (1 : Int32) I_4 J_5))) (∃ n_2 : Nat, wl_X10_lies_64   Q n_2 0 I J)
def wl_X10_lies_37   (Q : Int32 → sw_I → sw_J → Prop) : Nat → Int32 → sw_I → sw_J → Prop
  | 0 => fun _ _ _ => False
  | n + 1 => fun x1 I J => wb_X10_lies_37  (wl_X10_lies_37   Q n) Q x1 I J
def wp_X10_lies  (I : sw_I) (J : sw_J) (Q : Int32 → sw_I → sw_J → Prop) : Prop :=
  ∀ I_1 : sw_I, I_1 = sw_up I 140 0 (0 : Int32) → wp_X10_puts 144 33 145 33 I_1 J (fun I_4 J_5 => wp_X10_areSo  I_4 J_5 (fun r_6 I_7 J_8 => sw_if (r_6 = 0) (∃ n_10 : Nat, wl_X10_lies_37   Q n_10 0 I_7 J_8) (∀ I_11 : sw_I, I_11 = sw_up I_7 140 1 (0 : Int32) → wp_X10_enters 0 I_11 J_8 (fun I_14 J_15 => Q (0 : Int32) I_14 J_15))))
set_option maxRecDepth 20000 in
theorem tb_X10_lies_74 {l : Launch} {D : va_G} {cy : Nat → ClassId} {sz : Nat} {G : sw_G} (hG : sw_lay G)   {Q : Int32 → sw_I → sw_J → Prop} {K64 : Int32 → sw_I → sw_J → Prop} (hK64 : ∀ (x1 : Int32) (I : sw_I) (J : sw_J), K64 x1 I J → AW l D cy sz RX10 cX10_lies 3 (some .int) false rm_X10_lies 0 0 (sw_qi G Q) 0 0 G I J 64 [(0, .ref (sz + 140)), (1, .int x1)] []) {K74 : Int32 → Int32 → sw_I → sw_J → Prop} (hK74 : ∀ (x1 : Int32) (x2 : Int32) (I : sw_I) (J : sw_J), K74 x1 x2 I J → AW l D cy sz RX10 cX10_lies 3 (some .int) false rm_X10_lies 0 0 (sw_qi G Q) 0 0 G I J 74 [(0, .ref (sz + 140)), (1, .int x1), (2, .int x2)] []) {x1 : Int32} {x2 : Int32} {I : sw_I} {J : sw_J} (h : wb_X10_lies_74  K64 K74 Q x1 x2 I J) : AW l D cy sz RX10 cX10_lies 3 (some .int) false rm_X10_lies 0 0 (sw_qi G Q) 0 0 G I J 74 [(0, .ref (sz + 140)), (1, .int x1), (2, .int x2)] [] := by
  unfold wb_X10_lies_74 at h
  refine aw_iload_n 2 dX10_lies_74 rfl rfl ?_
  refine aw_iload_n 1 dX10_lies_75 rfl rfl ?_
  refine aw_jge 96 dX10_lies_76 (by decide) (fun c_1 => ?_) (fun c_1 => ?_)
  · have h := sw_if.f h c_1
    obtain ⟨y_2, e_3⟩ : ∃ q : Int32, q = x1 + 1 := ⟨_, rfl⟩
    have h := h y_2 e_3
    refine aw_iinc (lv' := [(1, .int y_2), (0, .ref (sz + 140)), (2, .int x2)]) 1 dX10_lies_96 rfl (by rw [e_3]; rfl) (by decide) rfl ?_
    refine aw_goto 64 dX10_lies_99 (by decide) ?_
    refine aw_sub [1, 0] rfl ?_
    exact hK64 y_2 I J h
  · have h := sw_if.t h c_1
    refine aw_aload_n 0 dX10_lies_79 rfl rfl ?_
    refine aw_iload_n 2 dX10_lies_80 rfl rfl ?_
    refine aw_iload_n 1 dX10_lies_81 rfl rfl ?_
    refine aw_callV wv_X10_tellsLies (M_X10_tellsLies hG  h) ml_X10_433 rfl (by decide) (lk140 hG) rfl rfl (Nat.le_of_ble_eq_true rfl) ⟨rfl, rfl⟩ ⟨Nat.le_of_ble_eq_true rfl, Nat.le_of_ble_eq_true rfl⟩ ⟨Nat.le_refl _, Nat.le_refl _⟩ dX10_lies_82 (aw_ki fun r_4 I_5 J_6 h => ?_)
    refine aw_zeq 90 dX10_lies_85 (by decide) (fun c_7 => ?_) (fun c_7 => ?_)
    · have h := sw_if.t h c_7
      obtain ⟨y_8, e_9⟩ : ∃ q : Int32, q = x2 + 1 := ⟨_, rfl⟩
      have h := h y_8 e_9
      refine aw_iinc (lv' := [(2, .int y_8), (0, .ref (sz + 140)), (1, .int x1)]) 2 dX10_lies_90 rfl (by rw [e_9]; rfl) (by decide) rfl ?_
      refine aw_goto 74 dX10_lies_93 (by decide) ?_
      refine aw_sub [1, 2, 0] rfl ?_
      exact hK74 x1 y_8 I_5 J_6 h
    · have h := sw_if.f h c_7
      refine aw_iconst (v := 2) dX10_lies_88 (by decide) ?_
      exact aw_iret rfl dX10_lies_89 ⟨rfl, _, rfl, h⟩
set_option maxRecDepth 20000 in
theorem tl_X10_lies_74 {l : Launch} {D : va_G} {cy : Nat → ClassId} {sz : Nat} {G : sw_G} (hG : sw_lay G)   {Q : Int32 → sw_I → sw_J → Prop} {K64 : Int32 → sw_I → sw_J → Prop} (hK64 : ∀ (x1 : Int32) (I : sw_I) (J : sw_J), K64 x1 I J → AW l D cy sz RX10 cX10_lies 3 (some .int) false rm_X10_lies 0 0 (sw_qi G Q) 0 0 G I J 64 [(0, .ref (sz + 140)), (1, .int x1)] []) : ∀ (n : Nat) (x1 : Int32) (x2 : Int32) (I : sw_I) (J : sw_J), wl_X10_lies_74  K64 Q n x1 x2 I J → AW l D cy sz RX10 cX10_lies 3 (some .int) false rm_X10_lies 0 0 (sw_qi G Q) 0 0 G I J 74 [(0, .ref (sz + 140)), (1, .int x1), (2, .int x2)] [] := by
  intro n
  induction n with
  | zero => intro x1 x2 I J h; exact False.elim h
  | succ n ih => intro x1 x2 I J h; exact tb_X10_lies_74 hG  hK64 ih h
set_option maxRecDepth 20000 in
theorem tb_X10_lies_64 {l : Launch} {D : va_G} {cy : Nat → ClassId} {sz : Nat} {G : sw_G} (hG : sw_lay G)   {Q : Int32 → sw_I → sw_J → Prop} {K64 : Int32 → sw_I → sw_J → Prop} (hK64 : ∀ (x1 : Int32) (I : sw_I) (J : sw_J), K64 x1 I J → AW l D cy sz RX10 cX10_lies 3 (some .int) false rm_X10_lies 0 0 (sw_qi G Q) 0 0 G I J 64 [(0, .ref (sz + 140)), (1, .int x1)] []) {x1 : Int32} {I : sw_I} {J : sw_J} (h : wb_X10_lies_64  K64 Q x1 I J) : AW l D cy sz RX10 cX10_lies 3 (some .int) false rm_X10_lies 0 0 (sw_qi G Q) 0 0 G I J 64 [(0, .ref (sz + 140)), (1, .int x1)] [] := by
  unfold wb_X10_lies_64 at h
  refine aw_iload_n 1 dX10_lies_64 rfl rfl ?_
  refine aw_aload_n 0 dX10_lies_65 rfl rfl ?_
  refine gf_X10_4 fl_X10_29 (lk140 hG) dX10_lies_66 ?_
  refine aw_jge 102 dX10_lies_69 (by decide) (fun c_1 => ?_) (fun c_1 => ?_)
  · have h := sw_if.f h c_1
    refine aw_bipush (v := (-2)) dX10_lies_102 (by decide) ?_
    exact aw_iret rfl dX10_lies_104 ⟨rfl, _, rfl, h⟩
  · have h := sw_if.t h c_1
    refine aw_iconst (v := 0) dX10_lies_72 (by decide) ?_
    refine aw_istore_n (lv' := [(2, .int 0), (0, .ref (sz + 140)), (1, .int x1)]) dX10_lies_73 rfl (by decide) rfl ?_
    refine aw_sub [1, 2, 0] rfl ?_
    obtain ⟨n_2, h⟩ := h
    exact tl_X10_lies_74 hG  hK64 n_2 x1 0 I J h
set_option maxRecDepth 20000 in
theorem tl_X10_lies_64 {l : Launch} {D : va_G} {cy : Nat → ClassId} {sz : Nat} {G : sw_G} (hG : sw_lay G)   {Q : Int32 → sw_I → sw_J → Prop} : ∀ (n : Nat) (x1 : Int32) (I : sw_I) (J : sw_J), wl_X10_lies_64   Q n x1 I J → AW l D cy sz RX10 cX10_lies 3 (some .int) false rm_X10_lies 0 0 (sw_qi G Q) 0 0 G I J 64 [(0, .ref (sz + 140)), (1, .int x1)] [] := by
  intro n
  induction n with
  | zero => intro x1 I J h; exact False.elim h
  | succ n ih => intro x1 I J h; exact tb_X10_lies_64 hG  ih h
set_option maxRecDepth 20000 in
theorem tb_X10_lies_37 {l : Launch} {D : va_G} {cy : Nat → ClassId} {sz : Nat} {G : sw_G} (hG : sw_lay G)   {Q : Int32 → sw_I → sw_J → Prop} {K37 : Int32 → sw_I → sw_J → Prop} (hK37 : ∀ (x1 : Int32) (I : sw_I) (J : sw_J), K37 x1 I J → AW l D cy sz RX10 cX10_lies 3 (some .int) false rm_X10_lies 0 0 (sw_qi G Q) 0 0 G I J 37 [(0, .ref (sz + 140)), (1, .int x1)] []) {x1 : Int32} {I : sw_I} {J : sw_J} (h : wb_X10_lies_37  K37 Q x1 I J) : AW l D cy sz RX10 cX10_lies 3 (some .int) false rm_X10_lies 0 0 (sw_qi G Q) 0 0 G I J 37 [(0, .ref (sz + 140)), (1, .int x1)] [] := by
  unfold wb_X10_lies_37 at h
  refine aw_iload_n 1 dX10_lies_37 rfl rfl ?_
  refine aw_aload_n 0 dX10_lies_38 rfl rfl ?_
  refine gf_X10_4 fl_X10_29 (lk140 hG) dX10_lies_39 ?_
  refine aw_jge 62 dX10_lies_42 (by decide) (fun c_1 => ?_) (fun c_1 => ?_)
  · have h := sw_if.f h c_1
    refine aw_iconst (v := 0) dX10_lies_62 (by decide) ?_
    refine aw_istore_n (lv' := [(1, .int 0), (0, .ref (sz + 140))]) dX10_lies_63 rfl (by decide) rfl ?_
    refine aw_sub [1, 0] rfl ?_
    obtain ⟨n_2, h⟩ := h
    exact tl_X10_lies_64 hG   n_2 0 I J h
  · have h := sw_if.t h c_1
    refine aw_aload_n 0 dX10_lies_45 rfl rfl ?_
    refine aw_iload_n 1 dX10_lies_46 rfl rfl ?_
    refine aw_iload_n 1 dX10_lies_47 rfl rfl ?_
    refine aw_callV wv_X10_tellsLies (M_X10_tellsLies hG  h) ml_X10_433 rfl (by decide) (lk140 hG) rfl rfl (Nat.le_of_ble_eq_true rfl) ⟨rfl, rfl⟩ ⟨Nat.le_of_ble_eq_true rfl, Nat.le_of_ble_eq_true rfl⟩ ⟨Nat.le_refl _, Nat.le_refl _⟩ dX10_lies_48 (aw_ki fun r_3 I_4 J_5 h => ?_)
    refine aw_zeq 56 dX10_lies_51 (by decide) (fun c_6 => ?_) (fun c_6 => ?_)
    · have h := sw_if.t h c_6
      obtain ⟨y_7, e_8⟩ : ∃ q : Int32, q = x1 + 1 := ⟨_, rfl⟩
      have h := h y_7 e_8
      refine aw_iinc (lv' := [(1, .int y_7), (0, .ref (sz + 140))]) 1 dX10_lies_56 rfl (by rw [e_8]; rfl) (by decide) rfl ?_
      refine aw_goto 37 dX10_lies_59 (by decide) ?_
      refine aw_sub [1, 0] rfl ?_
      exact hK37 y_7 I_4 J_5 h
    · have h := sw_if.f h c_6
      refine aw_iconst (v := 1) dX10_lies_54 (by decide) ?_
      exact aw_iret rfl dX10_lies_55 ⟨rfl, _, rfl, h⟩
set_option maxRecDepth 20000 in
theorem tl_X10_lies_37 {l : Launch} {D : va_G} {cy : Nat → ClassId} {sz : Nat} {G : sw_G} (hG : sw_lay G)   {Q : Int32 → sw_I → sw_J → Prop} : ∀ (n : Nat) (x1 : Int32) (I : sw_I) (J : sw_J), wl_X10_lies_37   Q n x1 I J → AW l D cy sz RX10 cX10_lies 3 (some .int) false rm_X10_lies 0 0 (sw_qi G Q) 0 0 G I J 37 [(0, .ref (sz + 140)), (1, .int x1)] [] := by
  intro n
  induction n with
  | zero => intro x1 I J h; exact False.elim h
  | succ n ih => intro x1 I J h; exact tb_X10_lies_37 hG  ih h
set_option maxRecDepth 20000 in
theorem t_X10_lies {l : Launch} {D : va_G} {cy : Nat → ClassId} {sz : Nat} {G : sw_G} (hG : sw_lay G)   {Q : Int32 → sw_I → sw_J → Prop}  {I : sw_I} {J : sw_J} (h : wp_X10_lies  I J Q) : AW l D cy sz RX10 cX10_lies 3 (some .int) false rm_X10_lies 0 0 (sw_qi G Q) 0 0 G I J 0 [(0, .ref (sz + 140))] [] := by
  unfold wp_X10_lies at h
  refine aw_aload_n 0 dX10_lies_0 rfl rfl ?_
  refine aw_iconst (v := 0) dX10_lies_1 (by decide) ?_
  refine pf_X10_0 fl_X10_3 (lk140 hG) dX10_lies_2 (aw_nameI fun I_1 e_2 => ?_)
  have h := h I_1 e_2
  refine aw_aload_n 0 dX10_lies_5 rfl rfl ?_
  refine gf_X10_9 fl_X10_79 (lk140 hG) (lr140_9 hG) dX10_lies_6 ?_
  refine aw_aload_n 0 dX10_lies_9 rfl rfl ?_
  refine gf_X10_10 fl_X10_313 (lk140 hG) (lr140_10 hG) dX10_lies_10 ?_
  refine aw_callS wv_X10_puts (M_X10_puts trivial ⟨(lk144 hG), (ln144 hG)⟩ ⟨(lk145 hG), (ln145 hG)⟩ h) ml_X10_316 rfl rfl (Nat.le_of_ble_eq_true rfl) ⟨rfl, rfl⟩ ⟨Nat.le_of_ble_eq_true rfl, Nat.le_of_ble_eq_true rfl⟩ ⟨Nat.le_refl _, Nat.le_refl _⟩ dX10_lies_13 (aw_kv fun I_4 J_5 h => ?_)
  refine aw_aload_n 0 dX10_lies_16 rfl rfl ?_
  refine aw_callV wv_X10_areSo (M_X10_areSo hG  h) ml_X10_430 rfl (by decide) (lk140 hG) rfl rfl (Nat.le_of_ble_eq_true rfl) ⟨rfl, rfl⟩ ⟨Nat.le_of_ble_eq_true rfl, Nat.le_of_ble_eq_true rfl⟩ ⟨Nat.le_refl _, Nat.le_refl _⟩ dX10_lies_17 (aw_ki fun r_6 I_7 J_8 h => ?_)
  refine aw_zeq 35 dX10_lies_20 (by decide) (fun c_9 => ?_) (fun c_9 => ?_)
  · have h := sw_if.t h c_9
    refine aw_iconst (v := 0) dX10_lies_35 (by decide) ?_
    refine aw_istore_n (lv' := [(1, .int 0), (0, .ref (sz + 140))]) dX10_lies_36 rfl (by decide) rfl ?_
    refine aw_sub [1, 0] rfl ?_
    obtain ⟨n_10, h⟩ := h
    exact tl_X10_lies_37 hG   n_10 0 I_7 J_8 h
  · have h := sw_if.f h c_9
    refine aw_aload_n 0 dX10_lies_23 rfl rfl ?_
    refine aw_iconst (v := 0) dX10_lies_24 (by decide) ?_
    refine pf_X10_1 fl_X10_15 (lk140 hG) dX10_lies_25 (aw_nameI fun I_11 e_12 => ?_)
    have h := h I_11 e_12
    refine aw_aload_n 0 dX10_lies_28 rfl rfl ?_
    refine aw_lconst (v := 0) dX10_lies_29 (by decide) ?_
    refine aw_callV wv_X10_enters (M_X10_enters hG  h) ml_X10_18 rfl (by decide) (lk140 hG) rfl rfl (Nat.le_of_ble_eq_true rfl) ⟨rfl, rfl⟩ ⟨Nat.le_of_ble_eq_true rfl, Nat.le_of_ble_eq_true rfl⟩ ⟨Nat.le_refl _, Nat.le_refl _⟩ dX10_lies_30 (aw_kv fun I_14 J_15 h => ?_)
    refine aw_iconst (v := 0) dX10_lies_33 (by decide) ?_
    exact aw_iret rfl dX10_lies_34 ⟨rfl, _, rfl, h⟩
theorem M_X10_lies {l : Launch} {D : va_G} {cy : Nat → ClassId} {sz : Nat} {G : sw_G} (hG : sw_lay G)   {Q : Int32 → sw_I → sw_J → Prop}  {I : sw_I} {J : sw_J} (h : wp_X10_lies  I J Q) : Met l yX10_lies (Cond.code yX10_lies cX10_lies 3 (some .int) :: sw_T) rm_X10_lies (sw_Pc D cy sz [.ref (sz + 140)] G I J) (sw_Q D cy sz (sw_qi G Q)) 0 0 (fun q => sz ≤ q) :=
  sw_met (by decide) (fun q => by cases q) (Nat.le_of_ble_eq_true rfl) rfl (t_X10_lies hG  h)
-- X10_isTruly
abbrev rm_X10_isTruly : Room := { frames := 6, cells := 0, slots := 0, locals := 136 }
def wB_X10_isTruly_109  (K32 : Int32 → Int32 → Int32 → sw_I → sw_J → Prop) (Q : Int32 → sw_I → sw_J → Prop) (x1 : Int32) (x2 : Int32) (x3 : Int32) (s1 : Int32) (s2 : Int32) (I : sw_I) (J : sw_J) : Prop :=
  vp_in s1 33 ∧ ∀ I_2 : sw_I, I_2 = sw_up I 145 s1.toNatClampNeg s2 → ∀ y_4 : Int32, y_4 = x3 + 1 → K32 x1 x2 y_4 I_2 J
def wB_X10_isTruly_83  (K32 : Int32 → Int32 → Int32 → sw_I → sw_J → Prop) (Q : Int32 → sw_I → sw_J → Prop) (x1 : Int32) (x2 : Int32) (x3 : Int32) (I : sw_I) (J : sw_J) : Prop :=
  sw_if (x3 = x1) (wB_X10_isTruly_109  K32 Q x1 x2 x3 ((10 : Int32) + x3) x2 I J) (vp_in ((10 : Int32) + x3) 33 ∧ wB_X10_isTruly_109  K32 Q x1 x2 x3 ((10 : Int32) + x3) (I 144 ((10 : Int32) + x3).toNatClampNeg) I J)
def wb_X10_isTruly_43  (K32 : Int32 → Int32 → Int32 → sw_I → sw_J → Prop) (K43 : Int32 → Int32 → Int32 → Int32 → sw_I → sw_J → Prop) (Q : Int32 → sw_I → sw_J → Prop) (x1 : Int32) (x2 : Int32) (x3 : Int32) (x4 : Int32) (I : sw_I) (J : sw_J) : Prop :=
  sw_if (x4 < (I 140 3)) (sw_if (x3 = x1) (wB_X10_isTruly_83  K32 Q x1 x2 x3 I J) (vp_in ((10 : Int32) + x3) 33 ∧ ∀ I_4 : sw_I, I_4 = sw_up I 145 ((10 : Int32) + x3).toNatClampNeg x4 → wp_X10_areSo  I_4 J (fun r_6 I_7 J_8 => sw_if (r_6 = 0) (∀ y_10 : Int32, y_10 = x4 + 1 → K43 x1 x2 x3 y_10 I_7 J_8) (Q 1 I_7 J_8)))) (wB_X10_isTruly_83  K32 Q x1 x2 x3 I J)
def wl_X10_isTruly_43  (K32 : Int32 → Int32 → Int32 → sw_I → sw_J → Prop) (Q : Int32 → sw_I → sw_J → Prop) : Nat → Int32 → Int32 → Int32 → Int32 → sw_I → sw_J → Prop
  | 0 => fun _ _ _ _ _ _ => False
  | n + 1 => fun x1 x2 x3 x4 I J => wb_X10_isTruly_43  K32 (wl_X10_isTruly_43  K32 Q n) Q x1 x2 x3 x4 I J
def wb_X10_isTruly_32  (K32 : Int32 → Int32 → Int32 → sw_I → sw_J → Prop) (Q : Int32 → sw_I → sw_J → Prop) (x1 : Int32) (x2 : Int32) (x3 : Int32) (I : sw_I) (J : sw_J) : Prop :=
  sw_if (x3 < (I 140 4)) (∃ n_2 : Nat, wl_X10_isTruly_43  K32 Q n_2 x1 x2 x3 (-1) I J) (Q 0 I J)
def wl_X10_isTruly_32   (Q : Int32 → sw_I → sw_J → Prop) : Nat → Int32 → Int32 → Int32 → sw_I → sw_J → Prop
  | 0 => fun _ _ _ _ _ => False
  | n + 1 => fun x1 x2 x3 I J => wb_X10_isTruly_32  (wl_X10_isTruly_32   Q n) Q x1 x2 x3 I J
def wp_X10_isTruly (x1 : Int32) (x2 : Int32) (I : sw_I) (J : sw_J) (Q : Int32 → sw_I → sw_J → Prop) : Prop :=
  wp_X10_puts 144 33 145 33 I J (fun I_2 J_3 => vp_in ((10 : Int32) + x1) 33 ∧ ∀ I_5 : sw_I, I_5 = sw_up I_2 145 ((10 : Int32) + x1).toNatClampNeg x2 → wp_X10_areSo  I_5 J_3 (fun r_7 I_8 J_9 => sw_if (r_7 = 0) (∃ n_11 : Nat, wl_X10_isTruly_32   Q n_11 x1 x2 0 I_8 J_9) (Q 1 I_8 J_9)))
set_option maxRecDepth 20000 in
theorem t_X10_isTruly_109 {l : Launch} {D : va_G} {cy : Nat → ClassId} {sz : Nat} {G : sw_G} (hG : sw_lay G)   {Q : Int32 → sw_I → sw_J → Prop} {K32 : Int32 → Int32 → Int32 → sw_I → sw_J → Prop} (hK32 : ∀ (x1 : Int32) (x2 : Int32) (x3 : Int32) (I : sw_I) (J : sw_J), K32 x1 x2 x3 I J → AW l D cy sz RX10 cX10_isTruly 5 (some .boolean) false rm_X10_isTruly 0 0 (sw_qi G Q) 0 0 G I J 32 [(0, .ref (sz + 140)), (1, .int x1), (2, .int x2), (3, .int x3)] []) {x1 : Int32} {x2 : Int32} {x3 : Int32} {s1 : Int32} {s2 : Int32} {I : sw_I} {J : sw_J} (h : wB_X10_isTruly_109  K32 Q x1 x2 x3 s1 s2 I J) : AW l D cy sz RX10 cX10_isTruly 5 (some .boolean) false rm_X10_isTruly 0 0 (sw_qi G Q) 0 0 G I J 109 [(0, .ref (sz + 140)), (1, .int x1), (2, .int x2), (3, .int x3)] [.int s2, .int s1, .ref (sz + 145)] := by
  unfold wB_X10_isTruly_109 at h
  obtain ⟨hi_1, h⟩ := h
  refine aw_ist dX10_isTruly_109 (lk145 hG) (ln145 hG) hi_1 (aw_nameI fun I_2 e_3 => ?_)
  have h := h I_2 e_3
  obtain ⟨y_4, e_5⟩ : ∃ q : Int32, q = x3 + 1 := ⟨_, rfl⟩
  have h := h y_4 e_5
  refine aw_iinc (lv' := [(3, .int y_4), (0, .ref (sz + 140)), (1, .int x1), (2, .int x2)]) 3 dX10_isTruly_110 rfl (by rw [e_5]; rfl) (by decide) rfl ?_
  refine aw_goto 32 dX10_isTruly_113 (by decide) ?_
  refine aw_sub [1, 2, 3, 0] rfl ?_
  exact hK32 x1 x2 y_4 I_2 J h
set_option maxRecDepth 20000 in
theorem t_X10_isTruly_83 {l : Launch} {D : va_G} {cy : Nat → ClassId} {sz : Nat} {G : sw_G} (hG : sw_lay G)   {Q : Int32 → sw_I → sw_J → Prop} {K32 : Int32 → Int32 → Int32 → sw_I → sw_J → Prop} (hK32 : ∀ (x1 : Int32) (x2 : Int32) (x3 : Int32) (I : sw_I) (J : sw_J), K32 x1 x2 x3 I J → AW l D cy sz RX10 cX10_isTruly 5 (some .boolean) false rm_X10_isTruly 0 0 (sw_qi G Q) 0 0 G I J 32 [(0, .ref (sz + 140)), (1, .int x1), (2, .int x2), (3, .int x3)] []) {x1 : Int32} {x2 : Int32} {x3 : Int32} {I : sw_I} {J : sw_J} (h : wB_X10_isTruly_83  K32 Q x1 x2 x3 I J) : AW l D cy sz RX10 cX10_isTruly 5 (some .boolean) false rm_X10_isTruly 0 0 (sw_qi G Q) 0 0 G I J 83 [(0, .ref (sz + 140)), (1, .int x1), (2, .int x2), (3, .int x3)] [] := by
  unfold wB_X10_isTruly_83 at h
  refine aw_aload_n 0 dX10_isTruly_83 rfl rfl ?_
  refine gf_X10_10 fl_X10_313 (lk140 hG) (lr140_10 hG) dX10_isTruly_84 ?_
  refine aw_bipush (v := 10) dX10_isTruly_87 (by decide) ?_
  refine aw_iload_n 3 dX10_isTruly_89 rfl rfl ?_
  refine aw_iadd dX10_isTruly_90 ?_
  refine aw_iload_n 3 dX10_isTruly_91 rfl rfl ?_
  refine aw_iload_n 1 dX10_isTruly_92 rfl rfl ?_
  refine aw_jne 100 dX10_isTruly_93 (by decide) (fun c_1 => ?_) (fun c_1 => ?_)
  · have h := sw_if.f h c_1
    refine aw_aload_n 0 dX10_isTruly_100 rfl rfl ?_
    refine gf_X10_9 fl_X10_79 (lk140 hG) (lr140_9 hG) dX10_isTruly_101 ?_
    refine aw_bipush (v := 10) dX10_isTruly_104 (by decide) ?_
    refine aw_iload_n 3 dX10_isTruly_106 rfl rfl ?_
    refine aw_iadd dX10_isTruly_107 ?_
    obtain ⟨hi_2, h⟩ := h
    refine aw_ild dX10_isTruly_108 (lk144 hG) (ln144 hG) hi_2 ?_
    refine aw_sub [0, 1, 2, 3] rfl ?_
    exact t_X10_isTruly_109 hG  hK32 h
  · have h := sw_if.t h c_1
    refine aw_iload_n 2 dX10_isTruly_96 rfl rfl ?_
    refine aw_goto 109 dX10_isTruly_97 (by decide) ?_
    refine aw_sub [0, 1, 2, 3] rfl ?_
    exact t_X10_isTruly_109 hG  hK32 h
set_option maxRecDepth 20000 in
theorem tb_X10_isTruly_43 {l : Launch} {D : va_G} {cy : Nat → ClassId} {sz : Nat} {G : sw_G} (hG : sw_lay G)   {Q : Int32 → sw_I → sw_J → Prop} {K32 : Int32 → Int32 → Int32 → sw_I → sw_J → Prop} (hK32 : ∀ (x1 : Int32) (x2 : Int32) (x3 : Int32) (I : sw_I) (J : sw_J), K32 x1 x2 x3 I J → AW l D cy sz RX10 cX10_isTruly 5 (some .boolean) false rm_X10_isTruly 0 0 (sw_qi G Q) 0 0 G I J 32 [(0, .ref (sz + 140)), (1, .int x1), (2, .int x2), (3, .int x3)] []) {K43 : Int32 → Int32 → Int32 → Int32 → sw_I → sw_J → Prop} (hK43 : ∀ (x1 : Int32) (x2 : Int32) (x3 : Int32) (x4 : Int32) (I : sw_I) (J : sw_J), K43 x1 x2 x3 x4 I J → AW l D cy sz RX10 cX10_isTruly 5 (some .boolean) false rm_X10_isTruly 0 0 (sw_qi G Q) 0 0 G I J 43 [(0, .ref (sz + 140)), (1, .int x1), (2, .int x2), (3, .int x3), (4, .int x4)] []) {x1 : Int32} {x2 : Int32} {x3 : Int32} {x4 : Int32} {I : sw_I} {J : sw_J} (h : wb_X10_isTruly_43  K32 K43 Q x1 x2 x3 x4 I J) : AW l D cy sz RX10 cX10_isTruly 5 (some .boolean) false rm_X10_isTruly 0 0 (sw_qi G Q) 0 0 G I J 43 [(0, .ref (sz + 140)), (1, .int x1), (2, .int x2), (3, .int x3), (4, .int x4)] [] := by
  unfold wb_X10_isTruly_43 at h
  refine aw_iload 4 dX10_isTruly_43 rfl ?_
  refine aw_aload_n 0 dX10_isTruly_45 rfl rfl ?_
  refine gf_X10_3 fl_X10_22 (lk140 hG) dX10_isTruly_46 ?_
  refine aw_jge 83 dX10_isTruly_49 (by decide) (fun c_1 => ?_) (fun c_1 => ?_)
  · have h := sw_if.f h c_1
    refine aw_sub [0, 1, 2, 3] rfl ?_
    exact t_X10_isTruly_83 hG  hK32 h
  · have h := sw_if.t h c_1
    refine aw_iload_n 3 dX10_isTruly_52 rfl rfl ?_
    refine aw_iload_n 1 dX10_isTruly_53 rfl rfl ?_
    refine aw_jeq 83 dX10_isTruly_54 (by decide) (fun c_2 => ?_) (fun c_2 => ?_)
    · have h := sw_if.t h c_2
      refine aw_sub [0, 1, 2, 3] rfl ?_
      exact t_X10_isTruly_83 hG  hK32 h
    · have h := sw_if.f h c_2
      refine aw_aload_n 0 dX10_isTruly_57 rfl rfl ?_
      refine gf_X10_10 fl_X10_313 (lk140 hG) (lr140_10 hG) dX10_isTruly_58 ?_
      refine aw_bipush (v := 10) dX10_isTruly_61 (by decide) ?_
      refine aw_iload_n 3 dX10_isTruly_63 rfl rfl ?_
      refine aw_iadd dX10_isTruly_64 ?_
      refine aw_iload 4 dX10_isTruly_65 rfl ?_
      obtain ⟨hi_3, h⟩ := h
      refine aw_ist dX10_isTruly_67 (lk145 hG) (ln145 hG) hi_3 (aw_nameI fun I_4 e_5 => ?_)
      have h := h I_4 e_5
      refine aw_aload_n 0 dX10_isTruly_68 rfl rfl ?_
      refine aw_callV wv_X10_areSo (M_X10_areSo hG  h) ml_X10_430 rfl (by decide) (lk140 hG) rfl rfl (Nat.le_of_ble_eq_true rfl) ⟨rfl, rfl⟩ ⟨Nat.le_of_ble_eq_true rfl, Nat.le_of_ble_eq_true rfl⟩ ⟨Nat.le_refl _, Nat.le_refl _⟩ dX10_isTruly_69 (aw_ki fun r_6 I_7 J_8 h => ?_)
      refine aw_zeq 77 dX10_isTruly_72 (by decide) (fun c_9 => ?_) (fun c_9 => ?_)
      · have h := sw_if.t h c_9
        obtain ⟨y_10, e_11⟩ : ∃ q : Int32, q = x4 + 1 := ⟨_, rfl⟩
        have h := h y_10 e_11
        refine aw_iinc (lv' := [(4, .int y_10), (0, .ref (sz + 140)), (1, .int x1), (2, .int x2), (3, .int x3)]) 4 dX10_isTruly_77 rfl (by rw [e_11]; rfl) (by decide) rfl ?_
        refine aw_goto 43 dX10_isTruly_80 (by decide) ?_
        refine aw_sub [1, 2, 3, 4, 0] rfl ?_
        exact hK43 x1 x2 x3 y_10 I_7 J_8 h
      · have h := sw_if.f h c_9
        refine aw_iconst (v := 1) dX10_isTruly_75 (by decide) ?_
        exact aw_zret rfl rfl dX10_isTruly_76 ⟨rfl, _, rfl, h⟩
set_option maxRecDepth 20000 in
theorem tl_X10_isTruly_43 {l : Launch} {D : va_G} {cy : Nat → ClassId} {sz : Nat} {G : sw_G} (hG : sw_lay G)   {Q : Int32 → sw_I → sw_J → Prop} {K32 : Int32 → Int32 → Int32 → sw_I → sw_J → Prop} (hK32 : ∀ (x1 : Int32) (x2 : Int32) (x3 : Int32) (I : sw_I) (J : sw_J), K32 x1 x2 x3 I J → AW l D cy sz RX10 cX10_isTruly 5 (some .boolean) false rm_X10_isTruly 0 0 (sw_qi G Q) 0 0 G I J 32 [(0, .ref (sz + 140)), (1, .int x1), (2, .int x2), (3, .int x3)] []) : ∀ (n : Nat) (x1 : Int32) (x2 : Int32) (x3 : Int32) (x4 : Int32) (I : sw_I) (J : sw_J), wl_X10_isTruly_43  K32 Q n x1 x2 x3 x4 I J → AW l D cy sz RX10 cX10_isTruly 5 (some .boolean) false rm_X10_isTruly 0 0 (sw_qi G Q) 0 0 G I J 43 [(0, .ref (sz + 140)), (1, .int x1), (2, .int x2), (3, .int x3), (4, .int x4)] [] := by
  intro n
  induction n with
  | zero => intro x1 x2 x3 x4 I J h; exact False.elim h
  | succ n ih => intro x1 x2 x3 x4 I J h; exact tb_X10_isTruly_43 hG  hK32 ih h
set_option maxRecDepth 20000 in
theorem tb_X10_isTruly_32 {l : Launch} {D : va_G} {cy : Nat → ClassId} {sz : Nat} {G : sw_G} (hG : sw_lay G)   {Q : Int32 → sw_I → sw_J → Prop} {K32 : Int32 → Int32 → Int32 → sw_I → sw_J → Prop} (hK32 : ∀ (x1 : Int32) (x2 : Int32) (x3 : Int32) (I : sw_I) (J : sw_J), K32 x1 x2 x3 I J → AW l D cy sz RX10 cX10_isTruly 5 (some .boolean) false rm_X10_isTruly 0 0 (sw_qi G Q) 0 0 G I J 32 [(0, .ref (sz + 140)), (1, .int x1), (2, .int x2), (3, .int x3)] []) {x1 : Int32} {x2 : Int32} {x3 : Int32} {I : sw_I} {J : sw_J} (h : wb_X10_isTruly_32  K32 Q x1 x2 x3 I J) : AW l D cy sz RX10 cX10_isTruly 5 (some .boolean) false rm_X10_isTruly 0 0 (sw_qi G Q) 0 0 G I J 32 [(0, .ref (sz + 140)), (1, .int x1), (2, .int x2), (3, .int x3)] [] := by
  unfold wb_X10_isTruly_32 at h
  refine aw_iload_n 3 dX10_isTruly_32 rfl rfl ?_
  refine aw_aload_n 0 dX10_isTruly_33 rfl rfl ?_
  refine gf_X10_4 fl_X10_29 (lk140 hG) dX10_isTruly_34 ?_
  refine aw_jge 116 dX10_isTruly_37 (by decide) (fun c_1 => ?_) (fun c_1 => ?_)
  · have h := sw_if.f h c_1
    refine aw_iconst (v := 0) dX10_isTruly_116 (by decide) ?_
    exact aw_zret rfl rfl dX10_isTruly_117 ⟨rfl, _, rfl, h⟩
  · have h := sw_if.t h c_1
    refine aw_iconst (v := (-1)) dX10_isTruly_40 (by decide) ?_
    refine aw_istore (lv' := [(4, .int (-1)), (0, .ref (sz + 140)), (1, .int x1), (2, .int x2), (3, .int x3)]) dX10_isTruly_41 (by decide) rfl ?_
    refine aw_sub [1, 2, 3, 4, 0] rfl ?_
    obtain ⟨n_2, h⟩ := h
    exact tl_X10_isTruly_43 hG  hK32 n_2 x1 x2 x3 (-1) I J h
set_option maxRecDepth 20000 in
theorem tl_X10_isTruly_32 {l : Launch} {D : va_G} {cy : Nat → ClassId} {sz : Nat} {G : sw_G} (hG : sw_lay G)   {Q : Int32 → sw_I → sw_J → Prop} : ∀ (n : Nat) (x1 : Int32) (x2 : Int32) (x3 : Int32) (I : sw_I) (J : sw_J), wl_X10_isTruly_32   Q n x1 x2 x3 I J → AW l D cy sz RX10 cX10_isTruly 5 (some .boolean) false rm_X10_isTruly 0 0 (sw_qi G Q) 0 0 G I J 32 [(0, .ref (sz + 140)), (1, .int x1), (2, .int x2), (3, .int x3)] [] := by
  intro n
  induction n with
  | zero => intro x1 x2 x3 I J h; exact False.elim h
  | succ n ih => intro x1 x2 x3 I J h; exact tb_X10_isTruly_32 hG  ih h
set_option maxRecDepth 20000 in
theorem t_X10_isTruly {l : Launch} {D : va_G} {cy : Nat → ClassId} {sz : Nat} {G : sw_G} (hG : sw_lay G)   {Q : Int32 → sw_I → sw_J → Prop} {x1 : Int32} {x2 : Int32} {I : sw_I} {J : sw_J} (h : wp_X10_isTruly x1 x2 I J Q) : AW l D cy sz RX10 cX10_isTruly 5 (some .boolean) false rm_X10_isTruly 0 0 (sw_qi G Q) 0 0 G I J 0 [(0, .ref (sz + 140)), (1, .int x1), (2, .int x2)] [] := by
  unfold wp_X10_isTruly at h
  refine aw_aload_n 0 dX10_isTruly_0 rfl rfl ?_
  refine gf_X10_9 fl_X10_79 (lk140 hG) (lr140_9 hG) dX10_isTruly_1 ?_
  refine aw_aload_n 0 dX10_isTruly_4 rfl rfl ?_
  refine gf_X10_10 fl_X10_313 (lk140 hG) (lr140_10 hG) dX10_isTruly_5 ?_
  refine aw_callS wv_X10_puts (M_X10_puts trivial ⟨(lk144 hG), (ln144 hG)⟩ ⟨(lk145 hG), (ln145 hG)⟩ h) ml_X10_316 rfl rfl (Nat.le_of_ble_eq_true rfl) ⟨rfl, rfl⟩ ⟨Nat.le_of_ble_eq_true rfl, Nat.le_of_ble_eq_true rfl⟩ ⟨Nat.le_refl _, Nat.le_refl _⟩ dX10_isTruly_8 (aw_kv fun I_2 J_3 h => ?_)
  refine aw_aload_n 0 dX10_isTruly_11 rfl rfl ?_
  refine gf_X10_10 fl_X10_313 (lk140 hG) (lr140_10 hG) dX10_isTruly_12 ?_
  refine aw_bipush (v := 10) dX10_isTruly_15 (by decide) ?_
  refine aw_iload_n 1 dX10_isTruly_17 rfl rfl ?_
  refine aw_iadd dX10_isTruly_18 ?_
  refine aw_iload_n 2 dX10_isTruly_19 rfl rfl ?_
  obtain ⟨hi_4, h⟩ := h
  refine aw_ist dX10_isTruly_20 (lk145 hG) (ln145 hG) hi_4 (aw_nameI fun I_5 e_6 => ?_)
  have h := h I_5 e_6
  refine aw_aload_n 0 dX10_isTruly_21 rfl rfl ?_
  refine aw_callV wv_X10_areSo (M_X10_areSo hG  h) ml_X10_430 rfl (by decide) (lk140 hG) rfl rfl (Nat.le_of_ble_eq_true rfl) ⟨rfl, rfl⟩ ⟨Nat.le_of_ble_eq_true rfl, Nat.le_of_ble_eq_true rfl⟩ ⟨Nat.le_refl _, Nat.le_refl _⟩ dX10_isTruly_22 (aw_ki fun r_7 I_8 J_9 h => ?_)
  refine aw_zeq 30 dX10_isTruly_25 (by decide) (fun c_10 => ?_) (fun c_10 => ?_)
  · have h := sw_if.t h c_10
    refine aw_iconst (v := 0) dX10_isTruly_30 (by decide) ?_
    refine aw_istore_n (lv' := [(3, .int 0), (0, .ref (sz + 140)), (1, .int x1), (2, .int x2)]) dX10_isTruly_31 rfl (by decide) rfl ?_
    refine aw_sub [1, 2, 3, 0] rfl ?_
    obtain ⟨n_11, h⟩ := h
    exact tl_X10_isTruly_32 hG   n_11 x1 x2 0 I_8 J_9 h
  · have h := sw_if.f h c_10
    refine aw_iconst (v := 1) dX10_isTruly_28 (by decide) ?_
    exact aw_zret rfl rfl dX10_isTruly_29 ⟨rfl, _, rfl, h⟩
theorem M_X10_isTruly {l : Launch} {D : va_G} {cy : Nat → ClassId} {sz : Nat} {G : sw_G} (hG : sw_lay G)   {Q : Int32 → sw_I → sw_J → Prop} {x1 : Int32} {x2 : Int32} {I : sw_I} {J : sw_J} (h : wp_X10_isTruly x1 x2 I J Q) : Met l yX10_isTruly (Cond.code yX10_isTruly cX10_isTruly 5 (some .boolean) :: sw_T) rm_X10_isTruly (sw_Pc D cy sz [.ref (sz + 140), .int x1, .int x2] G I J) (sw_Q D cy sz (sw_qi G Q)) 0 0 (fun q => sz ≤ q) :=
  sw_met (by decide) (fun q => by cases q) (Nat.le_of_ble_eq_true rfl) rfl (t_X10_isTruly hG  h)
-- X10_truly
abbrev rm_X10_truly : Room := { frames := 7, cells := 0, slots := 0, locals := 160 }
def wB_X10_truly_44  (K19 : Int32 → Int32 → Int32 → sw_I → sw_J → Prop) (Q : Int32 → sw_I → sw_J → Prop) (x1 : Int32) (x3 : Int32) (s0 : Int32) (s1 : Int32) (I : sw_I) (J : sw_J) : Prop :=
  ∀ y_1 : Int32, y_1 = s0 ||| s1 → ∀ y_3 : Int32, y_3 = x3 + 1 → K19 x1 y_1 y_3 I J
def wb_X10_truly_19  (K19 : Int32 → Int32 → Int32 → sw_I → sw_J → Prop) (Q : Int32 → sw_I → sw_J → Prop) (x1 : Int32) (x2 : Int32) (x3 : Int32) (I : sw_I) (J : sw_J) : Prop :=
  sw_if (x3 < (I 140 4)) (wp_X10_isTruly x3 x1 I J (fun r_2 I_3 J_4 => sw_if (r_2 = 0) (wB_X10_truly_44  K19 Q x1 x3 x2 0 I_3 J_4) (wB_X10_truly_44  K19 Q x1 x3 x2 ((1 : Int32) <<< (x3 &&& 31)) I_3 J_4))) (Q x2 I J)
def wl_X10_truly_19   (Q : Int32 → sw_I → sw_J → Prop) : Nat → Int32 → Int32 → Int32 → sw_I → sw_J → Prop
  | 0 => fun _ _ _ _ _ => False
  | n + 1 => fun x1 x2 x3 I J => wb_X10_truly_19  (wl_X10_truly_19   Q n) Q x1 x2 x3 I J
def wp_X10_truly (x1 : Int32) (I : sw_I) (J : sw_J) (Q : Int32 → sw_I → sw_J → Prop) : Prop :=
  ∀ I_1 : sw_I, I_1 = sw_up I 140 0 (0 : Int32) → wp_X10_isFloor x1 I_1 J (fun r_3 I_4 J_5 => sw_if (r_3 = 0) (Q (-1 : Int32) I_4 J_5) (∃ n_7 : Nat, wl_X10_truly_19   Q n_7 x1 0 0 I_4 J_5))
set_option maxRecDepth 20000 in
theorem t_X10_truly_44 {l : Launch} {D : va_G} {cy : Nat → ClassId} {sz : Nat} {G : sw_G} (hG : sw_lay G)   {Q : Int32 → sw_I → sw_J → Prop} {K19 : Int32 → Int32 → Int32 → sw_I → sw_J → Prop} (hK19 : ∀ (x1 : Int32) (x2 : Int32) (x3 : Int32) (I : sw_I) (J : sw_J), K19 x1 x2 x3 I J → AW l D cy sz RX10 cX10_truly 4 (some .int) false rm_X10_truly 0 0 (sw_qi G Q) 0 0 G I J 19 [(0, .ref (sz + 140)), (1, .int x1), (2, .int x2), (3, .int x3)] []) {x1 : Int32} {x3 : Int32} {s0 : Int32} {s1 : Int32} {I : sw_I} {J : sw_J} (h : wB_X10_truly_44  K19 Q x1 x3 s0 s1 I J) : AW l D cy sz RX10 cX10_truly 4 (some .int) false rm_X10_truly 0 0 (sw_qi G Q) 0 0 G I J 44 [(0, .ref (sz + 140)), (1, .int x1), (3, .int x3)] [.int s1, .int s0] := by
  unfold wB_X10_truly_44 at h
  refine aw_ior dX10_truly_44 ?_
  refine aw_topi (fun y_1 e_2 => ?_)
  have h := h y_1 e_2
  refine aw_istore_n (lv' := [(2, .int y_1), (0, .ref (sz + 140)), (1, .int x1), (3, .int x3)]) dX10_truly_45 rfl (by decide) rfl ?_
  obtain ⟨y_3, e_4⟩ : ∃ q : Int32, q = x3 + 1 := ⟨_, rfl⟩
  have h := h y_3 e_4
  refine aw_iinc (lv' := [(3, .int y_3), (2, .int y_1), (0, .ref (sz + 140)), (1, .int x1)]) 3 dX10_truly_46 rfl (by rw [e_4]; rfl) (by decide) rfl ?_
  refine aw_goto 19 dX10_truly_49 (by decide) ?_
  refine aw_sub [2, 3, 1, 0] rfl ?_
  exact hK19 x1 y_1 y_3 I J h
set_option maxRecDepth 20000 in
theorem tb_X10_truly_19 {l : Launch} {D : va_G} {cy : Nat → ClassId} {sz : Nat} {G : sw_G} (hG : sw_lay G)   {Q : Int32 → sw_I → sw_J → Prop} {K19 : Int32 → Int32 → Int32 → sw_I → sw_J → Prop} (hK19 : ∀ (x1 : Int32) (x2 : Int32) (x3 : Int32) (I : sw_I) (J : sw_J), K19 x1 x2 x3 I J → AW l D cy sz RX10 cX10_truly 4 (some .int) false rm_X10_truly 0 0 (sw_qi G Q) 0 0 G I J 19 [(0, .ref (sz + 140)), (1, .int x1), (2, .int x2), (3, .int x3)] []) {x1 : Int32} {x2 : Int32} {x3 : Int32} {I : sw_I} {J : sw_J} (h : wb_X10_truly_19  K19 Q x1 x2 x3 I J) : AW l D cy sz RX10 cX10_truly 4 (some .int) false rm_X10_truly 0 0 (sw_qi G Q) 0 0 G I J 19 [(0, .ref (sz + 140)), (1, .int x1), (2, .int x2), (3, .int x3)] [] := by
  unfold wb_X10_truly_19 at h
  refine aw_iload_n 3 dX10_truly_19 rfl rfl ?_
  refine aw_aload_n 0 dX10_truly_20 rfl rfl ?_
  refine gf_X10_4 fl_X10_29 (lk140 hG) dX10_truly_21 ?_
  refine aw_jge 52 dX10_truly_24 (by decide) (fun c_1 => ?_) (fun c_1 => ?_)
  · have h := sw_if.f h c_1
    refine aw_iload_n 2 dX10_truly_52 rfl rfl ?_
    exact aw_iret rfl dX10_truly_53 ⟨rfl, _, rfl, h⟩
  · have h := sw_if.t h c_1
    refine aw_iload_n 2 dX10_truly_27 rfl rfl ?_
    refine aw_aload_n 0 dX10_truly_28 rfl rfl ?_
    refine aw_iload_n 3 dX10_truly_29 rfl rfl ?_
    refine aw_iload_n 1 dX10_truly_30 rfl rfl ?_
    refine aw_callV wv_X10_isTruly (M_X10_isTruly hG  h) ml_X10_436 rfl (by decide) (lk140 hG) rfl rfl (Nat.le_of_ble_eq_true rfl) ⟨rfl, rfl⟩ ⟨Nat.le_of_ble_eq_true rfl, Nat.le_of_ble_eq_true rfl⟩ ⟨Nat.le_refl _, Nat.le_refl _⟩ dX10_truly_31 (aw_ki fun r_2 I_3 J_4 h => ?_)
    refine aw_zeq 43 dX10_truly_34 (by decide) (fun c_5 => ?_) (fun c_5 => ?_)
    · have h := sw_if.t h c_5
      refine aw_iconst (v := 0) dX10_truly_43 (by decide) ?_
      refine aw_sub [0, 1, 3] rfl ?_
      exact t_X10_truly_44 hG  hK19 h
    · have h := sw_if.f h c_5
      refine aw_iconst (v := 1) dX10_truly_37 (by decide) ?_
      refine aw_iload_n 3 dX10_truly_38 rfl rfl ?_
      refine aw_ishl dX10_truly_39 ?_
      refine aw_goto 44 dX10_truly_40 (by decide) ?_
      refine aw_sub [0, 1, 3] rfl ?_
      exact t_X10_truly_44 hG  hK19 h
set_option maxRecDepth 20000 in
theorem tl_X10_truly_19 {l : Launch} {D : va_G} {cy : Nat → ClassId} {sz : Nat} {G : sw_G} (hG : sw_lay G)   {Q : Int32 → sw_I → sw_J → Prop} : ∀ (n : Nat) (x1 : Int32) (x2 : Int32) (x3 : Int32) (I : sw_I) (J : sw_J), wl_X10_truly_19   Q n x1 x2 x3 I J → AW l D cy sz RX10 cX10_truly 4 (some .int) false rm_X10_truly 0 0 (sw_qi G Q) 0 0 G I J 19 [(0, .ref (sz + 140)), (1, .int x1), (2, .int x2), (3, .int x3)] [] := by
  intro n
  induction n with
  | zero => intro x1 x2 x3 I J h; exact False.elim h
  | succ n ih => intro x1 x2 x3 I J h; exact tb_X10_truly_19 hG  ih h
set_option maxRecDepth 20000 in
theorem t_X10_truly {l : Launch} {D : va_G} {cy : Nat → ClassId} {sz : Nat} {G : sw_G} (hG : sw_lay G)   {Q : Int32 → sw_I → sw_J → Prop} {x1 : Int32} {I : sw_I} {J : sw_J} (h : wp_X10_truly x1 I J Q) : AW l D cy sz RX10 cX10_truly 4 (some .int) false rm_X10_truly 0 0 (sw_qi G Q) 0 0 G I J 0 [(0, .ref (sz + 140)), (1, .int x1)] [] := by
  unfold wp_X10_truly at h
  refine aw_aload_n 0 dX10_truly_0 rfl rfl ?_
  refine aw_iconst (v := 0) dX10_truly_1 (by decide) ?_
  refine pf_X10_0 fl_X10_3 (lk140 hG) dX10_truly_2 (aw_nameI fun I_1 e_2 => ?_)
  have h := h I_1 e_2
  refine aw_aload_n 0 dX10_truly_5 rfl rfl ?_
  refine aw_iload_n 1 dX10_truly_6 rfl rfl ?_
  refine aw_callV wv_X10_isFloor (M_X10_isFloor hG  h) ml_X10_95 rfl (by decide) (lk140 hG) rfl rfl (Nat.le_of_ble_eq_true rfl) ⟨rfl, rfl⟩ ⟨Nat.le_of_ble_eq_true rfl, Nat.le_of_ble_eq_true rfl⟩ ⟨Nat.le_refl _, Nat.le_refl _⟩ dX10_truly_7 (aw_ki fun r_3 I_4 J_5 h => ?_)
  refine aw_zne 15 dX10_truly_10 (by decide) (fun c_6 => ?_) (fun c_6 => ?_)
  · have h := sw_if.f h c_6
    refine aw_iconst (v := 0) dX10_truly_15 (by decide) ?_
    refine aw_istore_n (lv' := [(2, .int 0), (0, .ref (sz + 140)), (1, .int x1)]) dX10_truly_16 rfl (by decide) rfl ?_
    refine aw_iconst (v := 0) dX10_truly_17 (by decide) ?_
    refine aw_istore_n (lv' := [(3, .int 0), (2, .int 0), (0, .ref (sz + 140)), (1, .int x1)]) dX10_truly_18 rfl (by decide) rfl ?_
    refine aw_sub [2, 3, 1, 0] rfl ?_
    obtain ⟨n_7, h⟩ := h
    exact tl_X10_truly_19 hG   n_7 x1 0 0 I_4 J_5 h
  · have h := sw_if.t h c_6
    refine aw_iconst (v := (-1)) dX10_truly_13 (by decide) ?_
    exact aw_iret rfl dX10_truly_14 ⟨rfl, _, rfl, h⟩
theorem M_X10_truly {l : Launch} {D : va_G} {cy : Nat → ClassId} {sz : Nat} {G : sw_G} (hG : sw_lay G)   {Q : Int32 → sw_I → sw_J → Prop} {x1 : Int32} {I : sw_I} {J : sw_J} (h : wp_X10_truly x1 I J Q) : Met l yX10_truly (Cond.code yX10_truly cX10_truly 4 (some .int) :: sw_T) rm_X10_truly (sw_Pc D cy sz [.ref (sz + 140), .int x1] G I J) (sw_Q D cy sz (sw_qi G Q)) 0 0 (fun q => sz ≤ q) :=
  sw_met (by decide) (fun q => by cases q) (Nat.le_of_ble_eq_true rfl) rfl (t_X10_truly hG  h)
-- X10_rideAlone
abbrev rm_X10_rideAlone : Room := { frames := 6, cells := 0, slots := 0, locals := 140 }
def wB_X10_rideAlone_49  (K13 : Int32 → Int32 → Int32 → sw_I → sw_J → Prop) (Q : Int32 → sw_I → sw_J → Prop) (x1 : Int32) (x2 : Int32) (x3 : Int32) (s1 : Int32) (s2 : Int32) (I : sw_I) (J : sw_J) : Prop :=
  vp_in s1 33 ∧ ∀ I_2 : sw_I, I_2 = sw_up I 145 s1.toNatClampNeg s2 → ∀ y_4 : Int32, y_4 = x3 + 1 → K13 x1 x2 y_4 I_2 J
def wb_X10_rideAlone_13  (K13 : Int32 → Int32 → Int32 → sw_I → sw_J → Prop) (Q : Int32 → sw_I → sw_J → Prop) (x1 : Int32) (x2 : Int32) (x3 : Int32) (I : sw_I) (J : sw_J) : Prop :=
  sw_if (x3 < (I 140 4)) (wp_X10_has (x2 &&& (x1 ^^^ (-1 : Int32))) x3 I J (fun r_8 I_9 J_10 => sw_if (r_8 = 0) (vp_in x3 33 ∧ wB_X10_rideAlone_49  K13 Q x1 x2 x3 x3 (I_9 145 x3.toNatClampNeg) I_9 J_10) (wB_X10_rideAlone_49  K13 Q x1 x2 x3 x3 9 I_9 J_10))) (wp_X10_travels 145 33 x1 I J (fun r_2 I_3 J_4 => wp_J6_bitCount_0f7a4 r_2 I_3 J_4 (fun r_5 I_6 J_7 => Q r_5 I_6 J_7)))
def wl_X10_rideAlone_13   (Q : Int32 → sw_I → sw_J → Prop) : Nat → Int32 → Int32 → Int32 → sw_I → sw_J → Prop
  | 0 => fun _ _ _ _ _ => False
  | n + 1 => fun x1 x2 x3 I J => wb_X10_rideAlone_13  (wl_X10_rideAlone_13   Q n) Q x1 x2 x3 I J
def wp_X10_rideAlone (x1 : Int32) (x2 : Int32) (I : sw_I) (J : sw_J) (Q : Int32 → sw_I → sw_J → Prop) : Prop :=
  wp_X10_puts 144 33 145 33 I J (fun I_2 J_3 => ∃ n_4 : Nat, wl_X10_rideAlone_13   Q n_4 x1 x2 0 I_2 J_3)
set_option maxRecDepth 20000 in
theorem t_X10_rideAlone_49 {l : Launch} {D : va_G} {cy : Nat → ClassId} {sz : Nat} {G : sw_G} (hG : sw_lay G)   {Q : Int32 → sw_I → sw_J → Prop} {K13 : Int32 → Int32 → Int32 → sw_I → sw_J → Prop} (hK13 : ∀ (x1 : Int32) (x2 : Int32) (x3 : Int32) (I : sw_I) (J : sw_J), K13 x1 x2 x3 I J → AW l D cy sz RX10 cX10_rideAlone 4 (some .int) false rm_X10_rideAlone 0 0 (sw_qi G Q) 0 0 G I J 13 [(0, .ref (sz + 140)), (1, .int x1), (2, .int x2), (3, .int x3)] []) {x1 : Int32} {x2 : Int32} {x3 : Int32} {s1 : Int32} {s2 : Int32} {I : sw_I} {J : sw_J} (h : wB_X10_rideAlone_49  K13 Q x1 x2 x3 s1 s2 I J) : AW l D cy sz RX10 cX10_rideAlone 4 (some .int) false rm_X10_rideAlone 0 0 (sw_qi G Q) 0 0 G I J 49 [(0, .ref (sz + 140)), (1, .int x1), (2, .int x2), (3, .int x3)] [.int s2, .int s1, .ref (sz + 145)] := by
  unfold wB_X10_rideAlone_49 at h
  obtain ⟨hi_1, h⟩ := h
  refine aw_ist dX10_rideAlone_49 (lk145 hG) (ln145 hG) hi_1 (aw_nameI fun I_2 e_3 => ?_)
  have h := h I_2 e_3
  obtain ⟨y_4, e_5⟩ : ∃ q : Int32, q = x3 + 1 := ⟨_, rfl⟩
  have h := h y_4 e_5
  refine aw_iinc (lv' := [(3, .int y_4), (0, .ref (sz + 140)), (1, .int x1), (2, .int x2)]) 3 dX10_rideAlone_50 rfl (by rw [e_5]; rfl) (by decide) rfl ?_
  refine aw_goto 13 dX10_rideAlone_53 (by decide) ?_
  refine aw_sub [1, 2, 3, 0] rfl ?_
  exact hK13 x1 x2 y_4 I_2 J h
set_option maxRecDepth 20000 in
theorem tb_X10_rideAlone_13 {l : Launch} {D : va_G} {cy : Nat → ClassId} {sz : Nat} {G : sw_G} (hG : sw_lay G)   {Q : Int32 → sw_I → sw_J → Prop} {K13 : Int32 → Int32 → Int32 → sw_I → sw_J → Prop} (hK13 : ∀ (x1 : Int32) (x2 : Int32) (x3 : Int32) (I : sw_I) (J : sw_J), K13 x1 x2 x3 I J → AW l D cy sz RX10 cX10_rideAlone 4 (some .int) false rm_X10_rideAlone 0 0 (sw_qi G Q) 0 0 G I J 13 [(0, .ref (sz + 140)), (1, .int x1), (2, .int x2), (3, .int x3)] []) {x1 : Int32} {x2 : Int32} {x3 : Int32} {I : sw_I} {J : sw_J} (h : wb_X10_rideAlone_13  K13 Q x1 x2 x3 I J) : AW l D cy sz RX10 cX10_rideAlone 4 (some .int) false rm_X10_rideAlone 0 0 (sw_qi G Q) 0 0 G I J 13 [(0, .ref (sz + 140)), (1, .int x1), (2, .int x2), (3, .int x3)] [] := by
  unfold wb_X10_rideAlone_13 at h
  refine aw_iload_n 3 dX10_rideAlone_13 rfl rfl ?_
  refine aw_aload_n 0 dX10_rideAlone_14 rfl rfl ?_
  refine gf_X10_4 fl_X10_29 (lk140 hG) dX10_rideAlone_15 ?_
  refine aw_jge 56 dX10_rideAlone_18 (by decide) (fun c_1 => ?_) (fun c_1 => ?_)
  · have h := sw_if.f h c_1
    refine aw_aload_n 0 dX10_rideAlone_56 rfl rfl ?_
    refine aw_aload_n 0 dX10_rideAlone_57 rfl rfl ?_
    refine gf_X10_10 fl_X10_313 (lk140 hG) (lr140_10 hG) dX10_rideAlone_58 ?_
    refine aw_iload_n 1 dX10_rideAlone_61 rfl rfl ?_
    refine aw_callV wv_X10_travels (M_X10_travels hG ⟨(lk145 hG), (ln145 hG)⟩ h) ml_X10_261 rfl (by decide) (lk140 hG) rfl rfl (Nat.le_of_ble_eq_true rfl) ⟨rfl, rfl⟩ ⟨Nat.le_of_ble_eq_true rfl, Nat.le_of_ble_eq_true rfl⟩ ⟨Nat.le_refl _, Nat.le_refl _⟩ dX10_rideAlone_62 (aw_ki fun r_2 I_3 J_4 h => ?_)
    refine aw_callS wv_J6_bitCount_0f7a4 (M_J6_bitCount_0f7a4 trivial  h) ml_X10_175 rfl rfl (Nat.le_of_ble_eq_true rfl) ⟨rfl, rfl⟩ ⟨Nat.le_of_ble_eq_true rfl, Nat.le_of_ble_eq_true rfl⟩ ⟨Nat.le_refl _, Nat.le_refl _⟩ dX10_rideAlone_65 (aw_ki fun r_5 I_6 J_7 h => ?_)
    exact aw_iret rfl dX10_rideAlone_68 ⟨rfl, _, rfl, h⟩
  · have h := sw_if.t h c_1
    refine aw_aload_n 0 dX10_rideAlone_21 rfl rfl ?_
    refine gf_X10_10 fl_X10_313 (lk140 hG) (lr140_10 hG) dX10_rideAlone_22 ?_
    refine aw_iload_n 3 dX10_rideAlone_25 rfl rfl ?_
    refine aw_iload_n 2 dX10_rideAlone_26 rfl rfl ?_
    refine aw_iload_n 1 dX10_rideAlone_27 rfl rfl ?_
    refine aw_iconst (v := (-1)) dX10_rideAlone_28 (by decide) ?_
    refine aw_ixor dX10_rideAlone_29 ?_
    refine aw_iand dX10_rideAlone_30 ?_
    refine aw_iload_n 3 dX10_rideAlone_31 rfl rfl ?_
    refine aw_callS wv_X10_has (M_X10_has trivial  h) ml_X10_195 rfl rfl (Nat.le_of_ble_eq_true rfl) ⟨rfl, rfl⟩ ⟨Nat.le_of_ble_eq_true rfl, Nat.le_of_ble_eq_true rfl⟩ ⟨Nat.le_refl _, Nat.le_refl _⟩ dX10_rideAlone_32 (aw_ki fun r_8 I_9 J_10 h => ?_)
    refine aw_zeq 43 dX10_rideAlone_35 (by decide) (fun c_11 => ?_) (fun c_11 => ?_)
    · have h := sw_if.t h c_11
      refine aw_aload_n 0 dX10_rideAlone_43 rfl rfl ?_
      refine gf_X10_10 fl_X10_313 (lk140 hG) (lr140_10 hG) dX10_rideAlone_44 ?_
      refine aw_iload_n 3 dX10_rideAlone_47 rfl rfl ?_
      obtain ⟨hi_12, h⟩ := h
      refine aw_ild dX10_rideAlone_48 (lk145 hG) (ln145 hG) hi_12 ?_
      refine aw_sub [0, 1, 2, 3] rfl ?_
      exact t_X10_rideAlone_49 hG  hK13 h
    · have h := sw_if.f h c_11
      refine aw_bipush (v := 9) dX10_rideAlone_38 (by decide) ?_
      refine aw_goto 49 dX10_rideAlone_40 (by decide) ?_
      refine aw_sub [0, 1, 2, 3] rfl ?_
      exact t_X10_rideAlone_49 hG  hK13 h
set_option maxRecDepth 20000 in
theorem tl_X10_rideAlone_13 {l : Launch} {D : va_G} {cy : Nat → ClassId} {sz : Nat} {G : sw_G} (hG : sw_lay G)   {Q : Int32 → sw_I → sw_J → Prop} : ∀ (n : Nat) (x1 : Int32) (x2 : Int32) (x3 : Int32) (I : sw_I) (J : sw_J), wl_X10_rideAlone_13   Q n x1 x2 x3 I J → AW l D cy sz RX10 cX10_rideAlone 4 (some .int) false rm_X10_rideAlone 0 0 (sw_qi G Q) 0 0 G I J 13 [(0, .ref (sz + 140)), (1, .int x1), (2, .int x2), (3, .int x3)] [] := by
  intro n
  induction n with
  | zero => intro x1 x2 x3 I J h; exact False.elim h
  | succ n ih => intro x1 x2 x3 I J h; exact tb_X10_rideAlone_13 hG  ih h
set_option maxRecDepth 20000 in
theorem t_X10_rideAlone {l : Launch} {D : va_G} {cy : Nat → ClassId} {sz : Nat} {G : sw_G} (hG : sw_lay G)   {Q : Int32 → sw_I → sw_J → Prop} {x1 : Int32} {x2 : Int32} {I : sw_I} {J : sw_J} (h : wp_X10_rideAlone x1 x2 I J Q) : AW l D cy sz RX10 cX10_rideAlone 4 (some .int) false rm_X10_rideAlone 0 0 (sw_qi G Q) 0 0 G I J 0 [(0, .ref (sz + 140)), (1, .int x1), (2, .int x2)] [] := by
  unfold wp_X10_rideAlone at h
  refine aw_aload_n 0 dX10_rideAlone_0 rfl rfl ?_
  refine gf_X10_9 fl_X10_79 (lk140 hG) (lr140_9 hG) dX10_rideAlone_1 ?_
  refine aw_aload_n 0 dX10_rideAlone_4 rfl rfl ?_
  refine gf_X10_10 fl_X10_313 (lk140 hG) (lr140_10 hG) dX10_rideAlone_5 ?_
  refine aw_callS wv_X10_puts (M_X10_puts trivial ⟨(lk144 hG), (ln144 hG)⟩ ⟨(lk145 hG), (ln145 hG)⟩ h) ml_X10_316 rfl rfl (Nat.le_of_ble_eq_true rfl) ⟨rfl, rfl⟩ ⟨Nat.le_of_ble_eq_true rfl, Nat.le_of_ble_eq_true rfl⟩ ⟨Nat.le_refl _, Nat.le_refl _⟩ dX10_rideAlone_8 (aw_kv fun I_2 J_3 h => ?_)
  refine aw_iconst (v := 0) dX10_rideAlone_11 (by decide) ?_
  refine aw_istore_n (lv' := [(3, .int 0), (0, .ref (sz + 140)), (1, .int x1), (2, .int x2)]) dX10_rideAlone_12 rfl (by decide) rfl ?_
  refine aw_sub [1, 2, 3, 0] rfl ?_
  obtain ⟨n_4, h⟩ := h
  exact tl_X10_rideAlone_13 hG   n_4 x1 x2 0 I_2 J_3 h
theorem M_X10_rideAlone {l : Launch} {D : va_G} {cy : Nat → ClassId} {sz : Nat} {G : sw_G} (hG : sw_lay G)   {Q : Int32 → sw_I → sw_J → Prop} {x1 : Int32} {x2 : Int32} {I : sw_I} {J : sw_J} (h : wp_X10_rideAlone x1 x2 I J Q) : Met l yX10_rideAlone (Cond.code yX10_rideAlone cX10_rideAlone 4 (some .int) :: sw_T) rm_X10_rideAlone (sw_Pc D cy sz [.ref (sz + 140), .int x1, .int x2] G I J) (sw_Q D cy sz (sw_qi G Q)) 0 0 (fun q => sz ≤ q) :=
  sw_met (by decide) (fun q => by cases q) (Nat.le_of_ble_eq_true rfl) rfl (t_X10_rideAlone hG  h)
-- X10_split
abbrev rm_X10_split : Room := { frames := 7, cells := 0, slots := 0, locals := 163 }
def wB_X10_split_108  (K24 : Int32 → Int32 → Int32 → Int32 → Int32 → sw_I → sw_J → Prop) (Q : Int32 → sw_I → sw_J → Prop) (x1 : Int32) (x2 : Int32) (x3 : Int32) (x4 : Int32) (x5 : Int32) (I : sw_I) (J : sw_J) : Prop :=
  ∀ y_1 : Int32, y_1 = x5 + 1 → K24 x1 x2 x3 x4 y_1 I J
def wb_X10_split_24  (K24 : Int32 → Int32 → Int32 → Int32 → Int32 → sw_I → sw_J → Prop) (Q : Int32 → sw_I → sw_J → Prop) (x1 : Int32) (x2 : Int32) (x3 : Int32) (x4 : Int32) (x5 : Int32) (I : sw_I) (J : sw_J) : Prop :=
  sw_if (x5 < ((1 : Int32) <<< ((I 140 4) &&& 31))) (sw_if ((x5 &&& (x1 ^^^ (-1 : Int32))) = 0) (wp_X10_rideAlone x5 x1 I J (fun r_14 I_15 J_16 => ∀ y_18 : Int32, y_18 = (I_15 145 (31 : Int32).toNatClampNeg) → wp_X10_rideAlone (x1 &&& (x5 ^^^ (-1 : Int32))) x1 I_15 J_16 (fun r_20 I_21 J_22 => ∀ y_23 : Int32, y_23 = r_14 + r_20 → sw_if (x2 < y_23) (∀ y_27 : Int32, y_27 = ((10 : Int32) * y_18) + (I_21 145 (31 : Int32).toNatClampNeg) → wB_X10_split_108  K24 Q x1 y_23 x5 y_27 x5 I_21 J_22) (wB_X10_split_108  K24 Q x1 x2 x3 x4 x5 I_21 J_22)))) (wB_X10_split_108  K24 Q x1 x2 x3 x4 x5 I J)) (∀ I_2 : sw_I, I_2 = sw_up I 140 1 (0 : Int32) → wp_X10_enters x3.toInt64 I_2 J (fun I_5 J_6 => wp_X10_enters ((x4 / (10 : Int32)).toInt64) I_5 J_6 (fun I_8 J_9 => wp_X10_enters ((x4 - x4 / (10 : Int32) * (10 : Int32)).toInt64) I_8 J_9 (fun I_11 J_12 => Q x2 I_11 J_12))))
def wl_X10_split_24   (Q : Int32 → sw_I → sw_J → Prop) : Nat → Int32 → Int32 → Int32 → Int32 → Int32 → sw_I → sw_J → Prop
  | 0 => fun _ _ _ _ _ _ _ => False
  | n + 1 => fun x1 x2 x3 x4 x5 I J => wb_X10_split_24  (wl_X10_split_24   Q n) Q x1 x2 x3 x4 x5 I J
def wp_X10_split  (I : sw_I) (J : sw_J) (Q : Int32 → sw_I → sw_J → Prop) : Prop :=
  ∀ I_1 : sw_I, I_1 = sw_up I 140 0 (0 : Int32) → wp_X10_there 144 33 I_1 J (fun r_3 I_4 J_5 => ∃ n_6 : Nat, wl_X10_split_24   Q n_6 r_3 (-1) 0 0 0 I_4 J_5)
set_option maxRecDepth 20000 in
theorem t_X10_split_108 {l : Launch} {D : va_G} {cy : Nat → ClassId} {sz : Nat} {G : sw_G} (hG : sw_lay G)   {Q : Int32 → sw_I → sw_J → Prop} {K24 : Int32 → Int32 → Int32 → Int32 → Int32 → sw_I → sw_J → Prop} (hK24 : ∀ (x1 : Int32) (x2 : Int32) (x3 : Int32) (x4 : Int32) (x5 : Int32) (I : sw_I) (J : sw_J), K24 x1 x2 x3 x4 x5 I J → AW l D cy sz RX10 cX10_split 8 (some .int) false rm_X10_split 0 0 (sw_qi G Q) 0 0 G I J 24 [(0, .ref (sz + 140)), (1, .int x1), (2, .int x2), (3, .int x3), (4, .int x4), (5, .int x5)] []) {x1 : Int32} {x2 : Int32} {x3 : Int32} {x4 : Int32} {x5 : Int32} {I : sw_I} {J : sw_J} (h : wB_X10_split_108  K24 Q x1 x2 x3 x4 x5 I J) : AW l D cy sz RX10 cX10_split 8 (some .int) false rm_X10_split 0 0 (sw_qi G Q) 0 0 G I J 108 [(0, .ref (sz + 140)), (1, .int x1), (2, .int x2), (3, .int x3), (4, .int x4), (5, .int x5)] [] := by
  unfold wB_X10_split_108 at h
  obtain ⟨y_1, e_2⟩ : ∃ q : Int32, q = x5 + 1 := ⟨_, rfl⟩
  have h := h y_1 e_2
  refine aw_iinc (lv' := [(5, .int y_1), (0, .ref (sz + 140)), (1, .int x1), (2, .int x2), (3, .int x3), (4, .int x4)]) 5 dX10_split_108 rfl (by rw [e_2]; rfl) (by decide) rfl ?_
  refine aw_goto 24 dX10_split_111 (by decide) ?_
  refine aw_sub [1, 2, 3, 4, 5, 0] rfl ?_
  exact hK24 x1 x2 x3 x4 y_1 I J h
set_option maxRecDepth 20000 in
theorem tb_X10_split_24 {l : Launch} {D : va_G} {cy : Nat → ClassId} {sz : Nat} {G : sw_G} (hG : sw_lay G)   {Q : Int32 → sw_I → sw_J → Prop} {K24 : Int32 → Int32 → Int32 → Int32 → Int32 → sw_I → sw_J → Prop} (hK24 : ∀ (x1 : Int32) (x2 : Int32) (x3 : Int32) (x4 : Int32) (x5 : Int32) (I : sw_I) (J : sw_J), K24 x1 x2 x3 x4 x5 I J → AW l D cy sz RX10 cX10_split 8 (some .int) false rm_X10_split 0 0 (sw_qi G Q) 0 0 G I J 24 [(0, .ref (sz + 140)), (1, .int x1), (2, .int x2), (3, .int x3), (4, .int x4), (5, .int x5)] []) {x1 : Int32} {x2 : Int32} {x3 : Int32} {x4 : Int32} {x5 : Int32} {I : sw_I} {J : sw_J} (h : wb_X10_split_24  K24 Q x1 x2 x3 x4 x5 I J) : AW l D cy sz RX10 cX10_split 8 (some .int) false rm_X10_split 0 0 (sw_qi G Q) 0 0 G I J 24 [(0, .ref (sz + 140)), (1, .int x1), (2, .int x2), (3, .int x3), (4, .int x4), (5, .int x5)] [] := by
  unfold wb_X10_split_24 at h
  refine aw_iload 5 dX10_split_24 rfl ?_
  refine aw_iconst (v := 1) dX10_split_26 (by decide) ?_
  refine aw_aload_n 0 dX10_split_27 rfl rfl ?_
  refine gf_X10_4 fl_X10_29 (lk140 hG) dX10_split_28 ?_
  refine aw_ishl dX10_split_31 ?_
  refine aw_jge 114 dX10_split_32 (by decide) (fun c_1 => ?_) (fun c_1 => ?_)
  · have h := sw_if.f h c_1
    refine aw_aload_n 0 dX10_split_114 rfl rfl ?_
    refine aw_iconst (v := 0) dX10_split_115 (by decide) ?_
    refine pf_X10_1 fl_X10_15 (lk140 hG) dX10_split_116 (aw_nameI fun I_2 e_3 => ?_)
    have h := h I_2 e_3
    refine aw_aload_n 0 dX10_split_119 rfl rfl ?_
    refine aw_iload_n 3 dX10_split_120 rfl rfl ?_
    refine aw_i2l dX10_split_121 ?_
    refine aw_callV wv_X10_enters (M_X10_enters hG  h) ml_X10_18 rfl (by decide) (lk140 hG) rfl rfl (Nat.le_of_ble_eq_true rfl) ⟨rfl, rfl⟩ ⟨Nat.le_of_ble_eq_true rfl, Nat.le_of_ble_eq_true rfl⟩ ⟨Nat.le_refl _, Nat.le_refl _⟩ dX10_split_122 (aw_kv fun I_5 J_6 h => ?_)
    refine aw_aload_n 0 dX10_split_125 rfl rfl ?_
    refine aw_iload 4 dX10_split_126 rfl ?_
    refine aw_bipush (v := 10) dX10_split_128 (by decide) ?_
    refine aw_idiv dX10_split_130 (by decide) ?_
    refine aw_i2l dX10_split_131 ?_
    refine aw_callV wv_X10_enters (M_X10_enters hG  h) ml_X10_18 rfl (by decide) (lk140 hG) rfl rfl (Nat.le_of_ble_eq_true rfl) ⟨rfl, rfl⟩ ⟨Nat.le_of_ble_eq_true rfl, Nat.le_of_ble_eq_true rfl⟩ ⟨Nat.le_refl _, Nat.le_refl _⟩ dX10_split_132 (aw_kv fun I_8 J_9 h => ?_)
    refine aw_aload_n 0 dX10_split_135 rfl rfl ?_
    refine aw_iload 4 dX10_split_136 rfl ?_
    refine aw_bipush (v := 10) dX10_split_138 (by decide) ?_
    refine aw_irem dX10_split_140 (by decide) ?_
    refine aw_i2l dX10_split_141 ?_
    refine aw_callV wv_X10_enters (M_X10_enters hG  h) ml_X10_18 rfl (by decide) (lk140 hG) rfl rfl (Nat.le_of_ble_eq_true rfl) ⟨rfl, rfl⟩ ⟨Nat.le_of_ble_eq_true rfl, Nat.le_of_ble_eq_true rfl⟩ ⟨Nat.le_refl _, Nat.le_refl _⟩ dX10_split_142 (aw_kv fun I_11 J_12 h => ?_)
    refine aw_iload_n 2 dX10_split_145 rfl rfl ?_
    exact aw_iret rfl dX10_split_146 ⟨rfl, _, rfl, h⟩
  · have h := sw_if.t h c_1
    refine aw_iload 5 dX10_split_35 rfl ?_
    refine aw_iload_n 1 dX10_split_37 rfl rfl ?_
    refine aw_iconst (v := (-1)) dX10_split_38 (by decide) ?_
    refine aw_ixor dX10_split_39 ?_
    refine aw_iand dX10_split_40 ?_
    refine aw_zeq 47 dX10_split_41 (by decide) (fun c_13 => ?_) (fun c_13 => ?_)
    · have h := sw_if.t h c_13
      refine aw_aload_n 0 dX10_split_47 rfl rfl ?_
      refine aw_iload 5 dX10_split_48 rfl ?_
      refine aw_iload_n 1 dX10_split_50 rfl rfl ?_
      refine aw_callV wv_X10_rideAlone (M_X10_rideAlone hG  h) ml_X10_455 rfl (by decide) (lk140 hG) rfl rfl (Nat.le_of_ble_eq_true rfl) ⟨rfl, rfl⟩ ⟨Nat.le_of_ble_eq_true rfl, Nat.le_of_ble_eq_true rfl⟩ ⟨Nat.le_refl _, Nat.le_refl _⟩ dX10_split_51 (aw_ki fun r_14 I_15 J_16 h => ?_)
      refine aw_istore (lv' := [(6, .int r_14), (0, .ref (sz + 140)), (1, .int x1), (2, .int x2), (3, .int x3), (4, .int x4), (5, .int x5)]) dX10_split_54 (by decide) rfl ?_
      refine aw_aload_n 1 dX10_split_56 rfl rfl ?_
      refine gf_X10_10 fl_X10_313 (lk140 hG) (lr140_10 hG) dX10_split_57 ?_
      refine aw_bipush (v := 31) dX10_split_60 (by decide) ?_
      refine aw_ild dX10_split_62 (lk145 hG) (ln145 hG) (by unfold vp_in; decide) ?_
      refine aw_topi (fun y_18 e_19 => ?_)
      have h := h y_18 e_19
      refine aw_istore (lv' := [(7, .int y_18), (6, .int r_14), (0, .ref (sz + 140)), (1, .int x1), (2, .int x2), (3, .int x3), (4, .int x4), (5, .int x5)]) dX10_split_63 (by decide) rfl ?_
      refine aw_iload 1 dX10_split_65 rfl ?_
      refine aw_aload_n 2 dX10_split_67 rfl rfl ?_
      refine aw_iload_n 3 dX10_split_68 rfl rfl ?_
      refine aw_iload 7 dX10_split_69 rfl ?_
      refine aw_iconst (v := (-1)) dX10_split_71 (by decide) ?_
      refine aw_ixor dX10_split_72 ?_
      refine aw_iand dX10_split_73 ?_
      refine aw_iload_n 3 dX10_split_74 rfl rfl ?_
      refine aw_callV wv_X10_rideAlone (M_X10_rideAlone hG  h) ml_X10_455 rfl (by decide) (lk140 hG) rfl rfl (Nat.le_of_ble_eq_true rfl) ⟨rfl, rfl⟩ ⟨Nat.le_of_ble_eq_true rfl, Nat.le_of_ble_eq_true rfl⟩ ⟨Nat.le_refl _, Nat.le_refl _⟩ dX10_split_75 (aw_ki fun r_20 I_21 J_22 h => ?_)
      refine aw_iadd dX10_split_78 ?_
      refine aw_topi (fun y_23 e_24 => ?_)
      have h := h y_23 e_24
      refine aw_istore (lv' := [(6, .int y_23), (7, .int y_18), (0, .ref (sz + 140)), (1, .int x1), (2, .int x2), (3, .int x3), (4, .int x4), (5, .int x5)]) dX10_split_79 (by decide) rfl ?_
      refine aw_iload 0 dX10_split_81 rfl ?_
      refine aw_iload_n 4 dX10_split_83 rfl rfl ?_
      refine aw_jle 108 dX10_split_84 (by decide) (fun c_25 => ?_) (fun c_25 => ?_)
      · have h := sw_if.f h c_25
        refine aw_sub [2, 3, 4, 5, 6, 7] rfl ?_
        exact t_X10_split_108 hG  hK24 h
      · have h := sw_if.t h c_25
        refine aw_iload 0 dX10_split_87 rfl ?_
        refine aw_istore_n (lv' := [(2, .int y_23), (6, .int y_23), (7, .int y_18), (0, .ref (sz + 140)), (1, .int x1), (3, .int x3), (4, .int x4), (5, .int x5)]) dX10_split_89 rfl (by decide) rfl ?_
        refine aw_iload 7 dX10_split_90 rfl ?_
        refine aw_istore_n (lv' := [(3, .int x5), (2, .int y_23), (6, .int y_23), (7, .int y_18), (0, .ref (sz + 140)), (1, .int x1), (4, .int x4), (5, .int x5)]) dX10_split_92 rfl (by decide) rfl ?_
        refine aw_bipush (v := 10) dX10_split_93 (by decide) ?_
        refine aw_iload 3 dX10_split_95 rfl ?_
        refine aw_imul dX10_split_97 ?_
        refine aw_aload_n 4 dX10_split_98 rfl rfl ?_
        refine gf_X10_10 fl_X10_313 (lk140 hG) (lr140_10 hG) dX10_split_99 ?_
        refine aw_bipush (v := 31) dX10_split_102 (by decide) ?_
        refine aw_ild dX10_split_104 (lk145 hG) (ln145 hG) (by unfold vp_in; decide) ?_
        refine aw_iadd dX10_split_105 ?_
        refine aw_topi (fun y_27 e_28 => ?_)
        have h := h y_27 e_28
        refine aw_istore (lv' := [(4, .int y_27), (3, .int x5), (2, .int y_23), (6, .int y_23), (7, .int y_18), (0, .ref (sz + 140)), (1, .int x1), (5, .int x5)]) dX10_split_106 (by decide) rfl ?_
        refine aw_sub [5, 6, 2, 1, 0, 7] rfl ?_
        exact t_X10_split_108 hG  hK24 h
    · have h := sw_if.f h c_13
      refine aw_goto 108 dX10_split_44 (by decide) ?_
      refine aw_sub [0, 1, 2, 3, 4, 5] rfl ?_
      exact t_X10_split_108 hG  hK24 h
set_option maxRecDepth 20000 in
theorem tl_X10_split_24 {l : Launch} {D : va_G} {cy : Nat → ClassId} {sz : Nat} {G : sw_G} (hG : sw_lay G)   {Q : Int32 → sw_I → sw_J → Prop} : ∀ (n : Nat) (x1 : Int32) (x2 : Int32) (x3 : Int32) (x4 : Int32) (x5 : Int32) (I : sw_I) (J : sw_J), wl_X10_split_24   Q n x1 x2 x3 x4 x5 I J → AW l D cy sz RX10 cX10_split 8 (some .int) false rm_X10_split 0 0 (sw_qi G Q) 0 0 G I J 24 [(0, .ref (sz + 140)), (1, .int x1), (2, .int x2), (3, .int x3), (4, .int x4), (5, .int x5)] [] := by
  intro n
  induction n with
  | zero => intro x1 x2 x3 x4 x5 I J h; exact False.elim h
  | succ n ih => intro x1 x2 x3 x4 x5 I J h; exact tb_X10_split_24 hG  ih h
set_option maxRecDepth 20000 in
theorem t_X10_split {l : Launch} {D : va_G} {cy : Nat → ClassId} {sz : Nat} {G : sw_G} (hG : sw_lay G)   {Q : Int32 → sw_I → sw_J → Prop}  {I : sw_I} {J : sw_J} (h : wp_X10_split  I J Q) : AW l D cy sz RX10 cX10_split 8 (some .int) false rm_X10_split 0 0 (sw_qi G Q) 0 0 G I J 0 [(0, .ref (sz + 140))] [] := by
  unfold wp_X10_split at h
  refine aw_aload_n 0 dX10_split_0 rfl rfl ?_
  refine aw_iconst (v := 0) dX10_split_1 (by decide) ?_
  refine pf_X10_0 fl_X10_3 (lk140 hG) dX10_split_2 (aw_nameI fun I_1 e_2 => ?_)
  have h := h I_1 e_2
  refine aw_aload_n 0 dX10_split_5 rfl rfl ?_
  refine aw_aload_n 0 dX10_split_6 rfl rfl ?_
  refine gf_X10_9 fl_X10_79 (lk140 hG) (lr140_9 hG) dX10_split_7 ?_
  refine aw_callV wv_X10_there (M_X10_there hG ⟨(lk144 hG), (ln144 hG)⟩ h) ml_X10_295 rfl (by decide) (lk140 hG) rfl rfl (Nat.le_of_ble_eq_true rfl) ⟨rfl, rfl⟩ ⟨Nat.le_of_ble_eq_true rfl, Nat.le_of_ble_eq_true rfl⟩ ⟨Nat.le_refl _, Nat.le_refl _⟩ dX10_split_10 (aw_ki fun r_3 I_4 J_5 h => ?_)
  refine aw_istore_n (lv' := [(1, .int r_3), (0, .ref (sz + 140))]) dX10_split_13 rfl (by decide) rfl ?_
  refine aw_iconst (v := (-1)) dX10_split_14 (by decide) ?_
  refine aw_istore_n (lv' := [(2, .int (-1)), (1, .int r_3), (0, .ref (sz + 140))]) dX10_split_15 rfl (by decide) rfl ?_
  refine aw_iconst (v := 0) dX10_split_16 (by decide) ?_
  refine aw_istore_n (lv' := [(3, .int 0), (2, .int (-1)), (1, .int r_3), (0, .ref (sz + 140))]) dX10_split_17 rfl (by decide) rfl ?_
  refine aw_iconst (v := 0) dX10_split_18 (by decide) ?_
  refine aw_istore (lv' := [(4, .int 0), (3, .int 0), (2, .int (-1)), (1, .int r_3), (0, .ref (sz + 140))]) dX10_split_19 (by decide) rfl ?_
  refine aw_iconst (v := 0) dX10_split_21 (by decide) ?_
  refine aw_istore (lv' := [(5, .int 0), (4, .int 0), (3, .int 0), (2, .int (-1)), (1, .int r_3), (0, .ref (sz + 140))]) dX10_split_22 (by decide) rfl ?_
  refine aw_sub [5, 4, 3, 2, 1, 0] rfl ?_
  obtain ⟨n_6, h⟩ := h
  exact tl_X10_split_24 hG   n_6 r_3 (-1) 0 0 0 I_4 J_5 h
theorem M_X10_split {l : Launch} {D : va_G} {cy : Nat → ClassId} {sz : Nat} {G : sw_G} (hG : sw_lay G)   {Q : Int32 → sw_I → sw_J → Prop}  {I : sw_I} {J : sw_J} (h : wp_X10_split  I J Q) : Met l yX10_split (Cond.code yX10_split cX10_split 8 (some .int) :: sw_T) rm_X10_split (sw_Pc D cy sz [.ref (sz + 140)] G I J) (sw_Q D cy sz (sw_qi G Q)) 0 0 (fun q => sz ≤ q) :=
  sw_met (by decide) (fun q => by cases q) (Nat.le_of_ble_eq_true rfl) rfl (t_X10_split hG  h)
-- X10_bets
abbrev rm_X10_bets (d : Nat) : Room := { frames := 5 + d, cells := 0, slots := 0, locals := 115 + d * 23 }
def wpb_X10_bets (C_X10_bets : Int32 → Int64 → sw_I → sw_J → (sw_I → sw_J → Prop) → Prop) (x1 : Int32) (w2 : Int64) (I : sw_I) (J : sw_J) (Q : sw_I → sw_J → Prop) : Prop :=
  sw_if ((lg_cmp w2 (0 : Int64)) = 0) (Q I J) (sw_if (x1 = (I 140 4)) (wp_X10_stopOf 145 33 (I 144 (30 : Int32).toNatClampNeg) I J (fun r_28 I_29 J_30 => vp_in r_28 9 ∧ vp_in r_28 9 ∧ ∀ J_33 : sw_J, J_33 = sw_up J_30 170 r_28.toNatClampNeg ((J_30 170 r_28.toNatClampNeg) + w2) → Q I_29 J_33)) (wp_X10_has (I 144 (30 : Int32).toNatClampNeg) x1 I J (fun r_4 I_5 J_6 => sw_if (r_4 = 0) (C_X10_bets (x1 + (1 : Int32)) w2 I_5 J_6 (fun I_25 J_26 => Q I_25 J_26)) (vp_in x1 10 ∧ vp_in ((10 : Int32) + x1) 33 ∧ ∀ I_10 : sw_I, I_10 = sw_up I_5 145 ((10 : Int32) + x1).toNatClampNeg (I_5 142 x1.toNatClampNeg) → vp_in x1 10 ∧ C_X10_bets (x1 + (1 : Int32)) ((w2 / (10 : Int64)) * ((I_10 143 x1.toNatClampNeg).toInt64)) I_10 J_6 (fun I_14 J_15 => vp_in ((10 : Int32) + x1) 33 ∧ vp_in ((10 : Int32) + x1) 33 ∧ ∀ I_18 : sw_I, I_18 = sw_up I_14 145 ((10 : Int32) + x1).toNatClampNeg (I_14 144 ((10 : Int32) + x1).toNatClampNeg) → vp_in x1 10 ∧ C_X10_bets (x1 + (1 : Int32)) ((w2 / (10 : Int64)) * (((10 : Int32) - (I_18 143 x1.toNatClampNeg)).toInt64)) I_18 J_15 (fun I_22 J_23 => Q I_22 J_23))))))
set_option maxRecDepth 20000 in
theorem t_X10_bets {l : Launch} {D : va_G} {cy : Nat → ClassId} {sz : Nat} {G : sw_G} (hG : sw_lay G) {C_X10_bets : Int32 → Int64 → sw_I → sw_J → (sw_I → sw_J → Prop) → Prop} {dd : Nat} (hC_X10_bets : ∀ {x1 : Int32} {w2 : Int64} {I : sw_I} {J : sw_J} {Q : sw_I → sw_J → Prop}, C_X10_bets x1 w2 I J Q → Met l yX10_bets (Cond.code yX10_bets cX10_bets 4 none :: sw_T) (rm_X10_bets dd) (sw_Pc D cy sz [.ref (sz + 140), .int x1, .long w2] G I J) (sw_Q D cy sz (sw_qv G Q)) 0 0 (fun q => sz ≤ q)) {Q : sw_I → sw_J → Prop} {x1 : Int32} {w2 : Int64} {I : sw_I} {J : sw_J} (h : wpb_X10_bets C_X10_bets x1 w2 I J Q) : AW l D cy sz RX10 cX10_bets 4 none false (rm_X10_bets (dd + 1)) 0 0 (sw_qv G Q) 0 0 G I J 0 [(0, .ref (sz + 140)), (1, .int x1), (2, .long w2)] [] := by
  unfold wpb_X10_bets at h
  refine aw_lload_n 2 dX10_bets_0 rfl rfl ?_
  refine aw_lconst (v := 0) dX10_bets_1 (by decide) ?_
  refine aw_lcmp dX10_bets_2 ?_
  refine aw_zne 7 dX10_bets_3 (by decide) (fun c_1 => ?_) (fun c_1 => ?_)
  · have h := sw_if.f h c_1
    refine aw_iload_n 1 dX10_bets_7 rfl rfl ?_
    refine aw_aload_n 0 dX10_bets_8 rfl rfl ?_
    refine gf_X10_4 fl_X10_29 (lk140 hG) dX10_bets_9 ?_
    refine aw_jne 40 dX10_bets_12 (by decide) (fun c_2 => ?_) (fun c_2 => ?_)
    · have h := sw_if.f h c_2
      refine aw_aload_n 0 dX10_bets_40 rfl rfl ?_
      refine gf_X10_9 fl_X10_79 (lk140 hG) (lr140_9 hG) dX10_bets_41 ?_
      refine aw_bipush (v := 30) dX10_bets_44 (by decide) ?_
      refine aw_ild dX10_bets_46 (lk144 hG) (ln144 hG) (by unfold vp_in; decide) ?_
      refine aw_iload_n 1 dX10_bets_47 rfl rfl ?_
      refine aw_callS wv_X10_has (M_X10_has trivial  h) ml_X10_195 rfl rfl (Nat.le_of_ble_eq_true rfl) ⟨rfl, rfl⟩ ⟨by simp only [rm_X10_bets, rm_X10_has]; omega, by simp only [rm_X10_bets, rm_X10_has]; omega⟩ ⟨Nat.le_refl _, Nat.le_refl _⟩ dX10_bets_48 (aw_ki fun r_4 I_5 J_6 h => ?_)
      refine aw_zne 63 dX10_bets_51 (by decide) (fun c_7 => ?_) (fun c_7 => ?_)
      · have h := sw_if.f h c_7
        refine aw_aload_n 0 dX10_bets_63 rfl rfl ?_
        refine gf_X10_10 fl_X10_313 (lk140 hG) (lr140_10 hG) dX10_bets_64 ?_
        refine aw_bipush (v := 10) dX10_bets_67 (by decide) ?_
        refine aw_iload_n 1 dX10_bets_69 rfl rfl ?_
        refine aw_iadd dX10_bets_70 ?_
        refine aw_aload_n 0 dX10_bets_71 rfl rfl ?_
        refine gf_X10_7 fl_X10_135 (lk140 hG) (lr140_7 hG) dX10_bets_72 ?_
        refine aw_iload_n 1 dX10_bets_75 rfl rfl ?_
        obtain ⟨hi_8, h⟩ := h
        refine aw_ild dX10_bets_76 (lk142 hG) (ln142 hG) hi_8 ?_
        obtain ⟨hi_9, h⟩ := h
        refine aw_ist dX10_bets_77 (lk145 hG) (ln145 hG) hi_9 (aw_nameI fun I_10 e_11 => ?_)
        have h := h I_10 e_11
        refine aw_aload_n 0 dX10_bets_78 rfl rfl ?_
        refine aw_iload_n 1 dX10_bets_79 rfl rfl ?_
        refine aw_iconst (v := 1) dX10_bets_80 (by decide) ?_
        refine aw_iadd dX10_bets_81 ?_
        refine aw_lload_n 2 dX10_bets_82 rfl rfl ?_
        refine aw_ldc2 (v := 10) dX10_bets_83 k_X10_234 ?_
        refine aw_ldiv dX10_bets_86 (by decide) ?_
        refine aw_aload_n 0 dX10_bets_87 rfl rfl ?_
        refine gf_X10_8 fl_X10_138 (lk140 hG) (lr140_8 hG) dX10_bets_88 ?_
        refine aw_iload_n 1 dX10_bets_91 rfl rfl ?_
        obtain ⟨hi_12, h⟩ := h
        refine aw_ild dX10_bets_92 (lk143 hG) (ln143 hG) hi_12 ?_
        refine aw_i2l dX10_bets_93 ?_
        refine aw_lmul dX10_bets_94 ?_
        refine aw_callV wv_X10_bets (hC_X10_bets h) ml_X10_442 rfl (by decide) (lk140 hG) rfl rfl (Nat.le_of_ble_eq_true rfl) ⟨rfl, rfl⟩ ⟨by simp only [rm_X10_bets]; omega, by simp only [rm_X10_bets]; omega⟩ ⟨Nat.le_refl _, Nat.le_refl _⟩ dX10_bets_95 (aw_kv fun I_14 J_15 h => ?_)
        refine aw_aload_n 0 dX10_bets_98 rfl rfl ?_
        refine gf_X10_10 fl_X10_313 (lk140 hG) (lr140_10 hG) dX10_bets_99 ?_
        refine aw_bipush (v := 10) dX10_bets_102 (by decide) ?_
        refine aw_iload_n 1 dX10_bets_104 rfl rfl ?_
        refine aw_iadd dX10_bets_105 ?_
        refine aw_aload_n 0 dX10_bets_106 rfl rfl ?_
        refine gf_X10_9 fl_X10_79 (lk140 hG) (lr140_9 hG) dX10_bets_107 ?_
        refine aw_bipush (v := 10) dX10_bets_110 (by decide) ?_
        refine aw_iload_n 1 dX10_bets_112 rfl rfl ?_
        refine aw_iadd dX10_bets_113 ?_
        obtain ⟨hi_16, h⟩ := h
        refine aw_ild dX10_bets_114 (lk144 hG) (ln144 hG) hi_16 ?_
        obtain ⟨hi_17, h⟩ := h
        refine aw_ist dX10_bets_115 (lk145 hG) (ln145 hG) hi_17 (aw_nameI fun I_18 e_19 => ?_)
        have h := h I_18 e_19
        refine aw_aload_n 0 dX10_bets_116 rfl rfl ?_
        refine aw_iload_n 1 dX10_bets_117 rfl rfl ?_
        refine aw_iconst (v := 1) dX10_bets_118 (by decide) ?_
        refine aw_iadd dX10_bets_119 ?_
        refine aw_lload_n 2 dX10_bets_120 rfl rfl ?_
        refine aw_ldc2 (v := 10) dX10_bets_121 k_X10_234 ?_
        refine aw_ldiv dX10_bets_124 (by decide) ?_
        refine aw_bipush (v := 10) dX10_bets_125 (by decide) ?_
        refine aw_aload_n 0 dX10_bets_127 rfl rfl ?_
        refine gf_X10_8 fl_X10_138 (lk140 hG) (lr140_8 hG) dX10_bets_128 ?_
        refine aw_iload_n 1 dX10_bets_131 rfl rfl ?_
        obtain ⟨hi_20, h⟩ := h
        refine aw_ild dX10_bets_132 (lk143 hG) (ln143 hG) hi_20 ?_
        refine aw_isub dX10_bets_133 ?_
        refine aw_i2l dX10_bets_134 ?_
        refine aw_lmul dX10_bets_135 ?_
        refine aw_callV wv_X10_bets (hC_X10_bets h) ml_X10_442 rfl (by decide) (lk140 hG) rfl rfl (Nat.le_of_ble_eq_true rfl) ⟨rfl, rfl⟩ ⟨by simp only [rm_X10_bets]; omega, by simp only [rm_X10_bets]; omega⟩ ⟨Nat.le_refl _, Nat.le_refl _⟩ dX10_bets_136 (aw_kv fun I_22 J_23 h => ?_)
        exact aw_vret rfl dX10_bets_139 ⟨rfl, rfl, h⟩
      · have h := sw_if.t h c_7
        refine aw_aload_n 0 dX10_bets_54 rfl rfl ?_
        refine aw_iload_n 1 dX10_bets_55 rfl rfl ?_
        refine aw_iconst (v := 1) dX10_bets_56 (by decide) ?_
        refine aw_iadd dX10_bets_57 ?_
        refine aw_lload_n 2 dX10_bets_58 rfl rfl ?_
        refine aw_callV wv_X10_bets (hC_X10_bets h) ml_X10_442 rfl (by decide) (lk140 hG) rfl rfl (Nat.le_of_ble_eq_true rfl) ⟨rfl, rfl⟩ ⟨by simp only [rm_X10_bets]; omega, by simp only [rm_X10_bets]; omega⟩ ⟨Nat.le_refl _, Nat.le_refl _⟩ dX10_bets_59 (aw_kv fun I_25 J_26 h => ?_)
        exact aw_vret rfl dX10_bets_62 ⟨rfl, rfl, h⟩
    · have h := sw_if.t h c_2
      refine aw_aload_n 0 dX10_bets_15 rfl rfl ?_
      refine gf_X10_58 fl_X10_439 (lk140 hG) (lr140_58 hG) dX10_bets_16 ?_
      refine aw_aload_n 0 dX10_bets_19 rfl rfl ?_
      refine aw_aload_n 0 dX10_bets_20 rfl rfl ?_
      refine gf_X10_10 fl_X10_313 (lk140 hG) (lr140_10 hG) dX10_bets_21 ?_
      refine aw_aload_n 0 dX10_bets_24 rfl rfl ?_
      refine gf_X10_9 fl_X10_79 (lk140 hG) (lr140_9 hG) dX10_bets_25 ?_
      refine aw_bipush (v := 30) dX10_bets_28 (by decide) ?_
      refine aw_ild dX10_bets_30 (lk144 hG) (ln144 hG) (by unfold vp_in; decide) ?_
      refine aw_callV wv_X10_stopOf (M_X10_stopOf hG ⟨(lk145 hG), (ln145 hG)⟩ h) ml_X10_222 rfl (by decide) (lk140 hG) rfl rfl (Nat.le_of_ble_eq_true rfl) ⟨rfl, rfl⟩ ⟨by simp only [rm_X10_bets, rm_X10_stopOf]; omega, by simp only [rm_X10_bets, rm_X10_stopOf]; omega⟩ ⟨Nat.le_refl _, Nat.le_refl _⟩ dX10_bets_31 (aw_ki fun r_28 I_29 J_30 h => ?_)
      refine aw_dup2 dX10_bets_34 rfl rfl ?_
      obtain ⟨hi_31, h⟩ := h
      refine aw_lld dX10_bets_35 (lk170 hG) (ln170 hG) hi_31 ?_
      refine aw_lload_n 2 dX10_bets_36 rfl rfl ?_
      refine aw_ladd dX10_bets_37 ?_
      obtain ⟨hi_32, h⟩ := h
      refine aw_lst dX10_bets_38 (lk170 hG) (ln170 hG) hi_32 (aw_nameJ fun J_33 e_34 => ?_)
      have h := h J_33 e_34
      exact aw_vret rfl dX10_bets_39 ⟨rfl, rfl, h⟩
  · have h := sw_if.t h c_1
    exact aw_vret rfl dX10_bets_6 ⟨rfl, rfl, h⟩
def wp_X10_bets : Nat → Int32 → Int64 → sw_I → sw_J → (sw_I → sw_J → Prop) → Prop
  | 0 => fun _ _ _ _ _ => False
  | d + 1 => fun x1 w2 I J Q => wpb_X10_bets (wp_X10_bets d) x1 w2 I J Q
theorem MG_X10_bets {l : Launch} {D : va_G} {cy : Nat → ClassId} {sz : Nat} {G : sw_G} (hG : sw_lay G) : ∀ d : Nat, (∀ {x1 : Int32} {w2 : Int64} {I : sw_I} {J : sw_J} {Q : sw_I → sw_J → Prop}, wp_X10_bets d x1 w2 I J Q → Met l yX10_bets (Cond.code yX10_bets cX10_bets 4 none :: sw_T) (rm_X10_bets d) (sw_Pc D cy sz [.ref (sz + 140), .int x1, .long w2] G I J) (sw_Q D cy sz (sw_qv G Q)) 0 0 (fun q => sz ≤ q)) := by
  intro d
  induction d with
  | zero => exact fun h => False.elim h
  | succ d ih => exact fun h => sw_met (by decide) (fun q => by cases q) (Nat.le_of_ble_eq_true rfl) rfl (t_X10_bets hG ih h)
theorem M_X10_bets {l : Launch} {D : va_G} {cy : Nat → ClassId} {sz : Nat} {G : sw_G} (hG : sw_lay G) (d : Nat) : ∀ {x1 : Int32} {w2 : Int64} {I : sw_I} {J : sw_J} {Q : sw_I → sw_J → Prop}, wp_X10_bets d x1 w2 I J Q → Met l yX10_bets (Cond.code yX10_bets cX10_bets 4 none :: sw_T) (rm_X10_bets d) (sw_Pc D cy sz [.ref (sz + 140), .int x1, .long w2] G I J) (sw_Q D cy sz (sw_qv G Q)) 0 0 (fun q => sz ≤ q) := MG_X10_bets hG d
-- X0_flawOf
abbrev rm_X0_flawOf : Room := { frames := 2, cells := 0, slots := 0, locals := 42 }
def wB_X0_flawOf_75   (Q : Int32 → sw_I → sw_J → Prop) (s1 : Int32) (s2 : Int32) (I : sw_I) (J : sw_J) : Prop :=
  wp_X8_flawAtEnd s1 s2 I J (fun r_1 I_2 J_3 => Q r_1 I_2 J_3)
def wB_X0_flawOf_70   (Q : Int32 → sw_I → sw_J → Prop) (s1 : Int32) (I : sw_I) (J : sw_J) : Prop :=
  wB_X0_flawOf_75   Q s1 1 I J
def wb_X0_flawOf_23  (K23 : Int32 → Int32 → Int32 → sw_I → sw_J → Prop) (Q : Int32 → sw_I → sw_J → Prop) (x1 : Int32) (x2 : Int32) (x3 : Int32) (I : sw_I) (J : sw_J) : Prop :=
  sw_if (x3 < x1) (wp_X8_at x3 I J (fun r_4 I_5 J_6 => wp_X8_at (x3 - (1 : Int32)) I_5 J_6 (fun r_7 I_8 J_9 => wp_X0_nextPlace x2 r_4 r_7 I_8 J_9 (fun r_10 I_11 J_12 => sw_if (r_10 < 0) (Q x3 I_11 J_12) (∀ y_14 : Int32, y_14 = x3 + 1 → K23 x1 r_10 y_14 I_11 J_12))))) (sw_if (x2 = (2 : Int32)) (wB_X0_flawOf_70   Q 60 I J) (sw_if (x2 < (5 : Int32)) (wB_X0_flawOf_75   Q 60 0 I J) (wB_X0_flawOf_70   Q 60 I J)))
def wl_X0_flawOf_23   (Q : Int32 → sw_I → sw_J → Prop) : Nat → Int32 → Int32 → Int32 → sw_I → sw_J → Prop
  | 0 => fun _ _ _ _ _ => False
  | n + 1 => fun x1 x2 x3 I J => wb_X0_flawOf_23  (wl_X0_flawOf_23   Q n) Q x1 x2 x3 I J
def wp_X0_flawOf  (I : sw_I) (J : sw_J) (Q : Int32 → sw_I → sw_J → Prop) : Prop :=
  sw_if ((I 1 1) = 0) (Q (-1 : Int32) I J) (∀ y_2 : Int32, y_2 = (if (60 : Int32) < (I 1 1) then (60 : Int32) else (I 1 1)) → ∃ n_4 : Nat, wl_X0_flawOf_23   Q n_4 y_2 0 0 I J)
set_option maxRecDepth 20000 in
theorem t_X0_flawOf_75 {l : Launch} {D : va_G} {cy : Nat → ClassId} {sz : Nat} {G : sw_G} (hG : sw_lay G)   {Q : Int32 → sw_I → sw_J → Prop} {s1 : Int32} {s2 : Int32} {I : sw_I} {J : sw_J} (h : wB_X0_flawOf_75   Q s1 s2 I J) : AW l D cy sz RX0 cX0_flawOf 4 (some .int) false rm_X0_flawOf 0 0 (sw_qi G Q) 0 0 G I J 75 [] [.int s2, .int s1, .ref (sz + 1)] := by
  unfold wB_X0_flawOf_75 at h
  refine aw_callV wv_X8_flawAtEnd (M_X8_flawAtEnd hG  h) ml_X0_40 rfl (by decide) (lk1 hG) rfl rfl (Nat.le_of_ble_eq_true rfl) ⟨rfl, rfl⟩ ⟨Nat.le_of_ble_eq_true rfl, Nat.le_of_ble_eq_true rfl⟩ ⟨Nat.le_refl _, Nat.le_refl _⟩ dX0_flawOf_75 (aw_ki fun r_1 I_2 J_3 h => ?_)
  exact aw_iret rfl dX0_flawOf_78 ⟨rfl, _, rfl, h⟩
set_option maxRecDepth 20000 in
theorem t_X0_flawOf_70 {l : Launch} {D : va_G} {cy : Nat → ClassId} {sz : Nat} {G : sw_G} (hG : sw_lay G)   {Q : Int32 → sw_I → sw_J → Prop} {s1 : Int32} {I : sw_I} {J : sw_J} (h : wB_X0_flawOf_70   Q s1 I J) : AW l D cy sz RX0 cX0_flawOf 4 (some .int) false rm_X0_flawOf 0 0 (sw_qi G Q) 0 0 G I J 70 [] [.int s1, .ref (sz + 1)] := by
  unfold wB_X0_flawOf_70 at h
  refine aw_iconst (v := 1) dX0_flawOf_70 (by decide) ?_
  refine aw_goto 75 dX0_flawOf_71 (by decide) ?_
  refine aw_sub [] rfl ?_
  exact t_X0_flawOf_75 hG   h
set_option maxRecDepth 20000 in
theorem tb_X0_flawOf_23 {l : Launch} {D : va_G} {cy : Nat → ClassId} {sz : Nat} {G : sw_G} (hG : sw_lay G)   {Q : Int32 → sw_I → sw_J → Prop} {K23 : Int32 → Int32 → Int32 → sw_I → sw_J → Prop} (hK23 : ∀ (x1 : Int32) (x2 : Int32) (x3 : Int32) (I : sw_I) (J : sw_J), K23 x1 x2 x3 I J → AW l D cy sz RX0 cX0_flawOf 4 (some .int) false rm_X0_flawOf 0 0 (sw_qi G Q) 0 0 G I J 23 [(0, .ref (sz + 1)), (1, .int x1), (2, .int x2), (3, .int x3)] []) {x1 : Int32} {x2 : Int32} {x3 : Int32} {I : sw_I} {J : sw_J} (h : wb_X0_flawOf_23  K23 Q x1 x2 x3 I J) : AW l D cy sz RX0 cX0_flawOf 4 (some .int) false rm_X0_flawOf 0 0 (sw_qi G Q) 0 0 G I J 23 [(0, .ref (sz + 1)), (1, .int x1), (2, .int x2), (3, .int x3)] [] := by
  unfold wb_X0_flawOf_23 at h
  refine aw_iload_n 3 dX0_flawOf_23 rfl rfl ?_
  refine aw_iload_n 1 dX0_flawOf_24 rfl rfl ?_
  refine aw_jge 57 dX0_flawOf_25 (by decide) (fun c_1 => ?_) (fun c_1 => ?_)
  · have h := sw_if.f h c_1
    refine aw_aload_n 0 dX0_flawOf_57 rfl rfl ?_
    refine aw_bipush (v := 60) dX0_flawOf_58 (by decide) ?_
    refine aw_iload_n 2 dX0_flawOf_60 rfl rfl ?_
    refine aw_iconst (v := 2) dX0_flawOf_61 (by decide) ?_
    refine aw_jeq 70 dX0_flawOf_62 (by decide) (fun c_2 => ?_) (fun c_2 => ?_)
    · have h := sw_if.t h c_2
      refine aw_sub [] rfl ?_
      exact t_X0_flawOf_70 hG   h
    · have h := sw_if.f h c_2
      refine aw_iload_n 2 dX0_flawOf_65 rfl rfl ?_
      refine aw_iconst (v := 5) dX0_flawOf_66 (by decide) ?_
      refine aw_jlt 74 dX0_flawOf_67 (by decide) (fun c_3 => ?_) (fun c_3 => ?_)
      · have h := sw_if.t h c_3
        refine aw_iconst (v := 0) dX0_flawOf_74 (by decide) ?_
        refine aw_sub [] rfl ?_
        exact t_X0_flawOf_75 hG   h
      · have h := sw_if.f h c_3
        refine aw_sub [] rfl ?_
        exact t_X0_flawOf_70 hG   h
  · have h := sw_if.t h c_1
    refine aw_iload_n 2 dX0_flawOf_28 rfl rfl ?_
    refine aw_aload_n 0 dX0_flawOf_29 rfl rfl ?_
    refine aw_iload_n 3 dX0_flawOf_30 rfl rfl ?_
    refine aw_callV wv_X8_at (M_X8_at hG  h) ml_X0_32 rfl (by decide) (lk1 hG) rfl rfl (Nat.le_of_ble_eq_true rfl) ⟨rfl, rfl⟩ ⟨Nat.le_of_ble_eq_true rfl, Nat.le_of_ble_eq_true rfl⟩ ⟨Nat.le_refl _, Nat.le_refl _⟩ dX0_flawOf_31 (aw_ki fun r_4 I_5 J_6 h => ?_)
    refine aw_aload_n 0 dX0_flawOf_34 rfl rfl ?_
    refine aw_iload_n 3 dX0_flawOf_35 rfl rfl ?_
    refine aw_iconst (v := 1) dX0_flawOf_36 (by decide) ?_
    refine aw_isub dX0_flawOf_37 ?_
    refine aw_callV wv_X8_at (M_X8_at hG  h) ml_X0_32 rfl (by decide) (lk1 hG) rfl rfl (Nat.le_of_ble_eq_true rfl) ⟨rfl, rfl⟩ ⟨Nat.le_of_ble_eq_true rfl, Nat.le_of_ble_eq_true rfl⟩ ⟨Nat.le_refl _, Nat.le_refl _⟩ dX0_flawOf_38 (aw_ki fun r_7 I_8 J_9 h => ?_)
    refine aw_callS wv_X0_nextPlace (M_X0_nextPlace trivial  h) ml_X0_36 rfl rfl (Nat.le_of_ble_eq_true rfl) ⟨rfl, rfl⟩ ⟨Nat.le_of_ble_eq_true rfl, Nat.le_of_ble_eq_true rfl⟩ ⟨Nat.le_refl _, Nat.le_refl _⟩ dX0_flawOf_41 (aw_ki fun r_10 I_11 J_12 h => ?_)
    refine aw_istore_n (lv' := [(2, .int r_10), (0, .ref (sz + 1)), (1, .int x1), (3, .int x3)]) dX0_flawOf_44 rfl (by decide) rfl ?_
    refine aw_iload_n 0 dX0_flawOf_45 rfl rfl ?_
    refine aw_zge 51 dX0_flawOf_46 (by decide) (fun c_13 => ?_) (fun c_13 => ?_)
    · have h := sw_if.f h c_13
      obtain ⟨y_14, e_15⟩ : ∃ q : Int32, q = x3 + 1 := ⟨_, rfl⟩
      have h := h y_14 e_15
      refine aw_iinc (lv' := [(3, .int y_14), (2, .int r_10), (0, .ref (sz + 1)), (1, .int x1)]) 3 dX0_flawOf_51 rfl (by rw [e_15]; rfl) (by decide) rfl ?_
      refine aw_goto 23 dX0_flawOf_54 (by decide) ?_
      refine aw_sub [2, 3, 1, 0] rfl ?_
      exact hK23 x1 r_10 y_14 I_11 J_12 h
    · have h := sw_if.t h c_13
      refine aw_iload_n 3 dX0_flawOf_49 rfl rfl ?_
      exact aw_iret rfl dX0_flawOf_50 ⟨rfl, _, rfl, h⟩
set_option maxRecDepth 20000 in
theorem tl_X0_flawOf_23 {l : Launch} {D : va_G} {cy : Nat → ClassId} {sz : Nat} {G : sw_G} (hG : sw_lay G)   {Q : Int32 → sw_I → sw_J → Prop} : ∀ (n : Nat) (x1 : Int32) (x2 : Int32) (x3 : Int32) (I : sw_I) (J : sw_J), wl_X0_flawOf_23   Q n x1 x2 x3 I J → AW l D cy sz RX0 cX0_flawOf 4 (some .int) false rm_X0_flawOf 0 0 (sw_qi G Q) 0 0 G I J 23 [(0, .ref (sz + 1)), (1, .int x1), (2, .int x2), (3, .int x3)] [] := by
  intro n
  induction n with
  | zero => intro x1 x2 x3 I J h; exact False.elim h
  | succ n ih => intro x1 x2 x3 I J h; exact tb_X0_flawOf_23 hG  ih h
set_option maxRecDepth 20000 in
theorem t_X0_flawOf {l : Launch} {D : va_G} {cy : Nat → ClassId} {sz : Nat} {G : sw_G} (hG : sw_lay G)   {Q : Int32 → sw_I → sw_J → Prop}  {I : sw_I} {J : sw_J} (h : wp_X0_flawOf  I J Q) : AW l D cy sz RX0 cX0_flawOf 4 (some .int) false rm_X0_flawOf 0 0 (sw_qi G Q) 0 0 G I J 0 [(0, .ref (sz + 1))] [] := by
  unfold wp_X0_flawOf at h
  refine aw_aload_n 0 dX0_flawOf_0 rfl rfl ?_
  refine gf_X8_1 fl_X0_21 (lk1 hG) dX0_flawOf_1 ?_
  refine aw_zne 9 dX0_flawOf_4 (by decide) (fun c_1 => ?_) (fun c_1 => ?_)
  · have h := sw_if.f h c_1
    refine aw_aload_n 0 dX0_flawOf_9 rfl rfl ?_
    refine gf_X8_1 fl_X0_21 (lk1 hG) dX0_flawOf_10 ?_
    refine aw_bipush (v := 60) dX0_flawOf_13 (by decide) ?_
    refine aw_mmin mm_X0_26 wm_min (Nat.le_of_ble_eq_true rfl) (Nat.le_of_ble_eq_true rfl) ⟨Nat.le_refl _, Nat.le_refl _⟩ dX0_flawOf_15 ?_
    refine aw_topi (fun y_2 e_3 => ?_)
    have h := h y_2 e_3
    refine aw_istore_n (lv' := [(1, .int y_2), (0, .ref (sz + 1))]) dX0_flawOf_18 rfl (by decide) rfl ?_
    refine aw_iconst (v := 0) dX0_flawOf_19 (by decide) ?_
    refine aw_istore_n (lv' := [(2, .int 0), (1, .int y_2), (0, .ref (sz + 1))]) dX0_flawOf_20 rfl (by decide) rfl ?_
    refine aw_iconst (v := 0) dX0_flawOf_21 (by decide) ?_
    refine aw_istore_n (lv' := [(3, .int 0), (2, .int 0), (1, .int y_2), (0, .ref (sz + 1))]) dX0_flawOf_22 rfl (by decide) rfl ?_
    refine aw_sub [3, 2, 1, 0] rfl ?_
    obtain ⟨n_4, h⟩ := h
    exact tl_X0_flawOf_23 hG   n_4 y_2 0 0 I J h
  · have h := sw_if.t h c_1
    refine aw_iconst (v := (-1)) dX0_flawOf_7 (by decide) ?_
    exact aw_iret rfl dX0_flawOf_8 ⟨rfl, _, rfl, h⟩
theorem M_X0_flawOf {l : Launch} {D : va_G} {cy : Nat → ClassId} {sz : Nat} {G : sw_G} (hG : sw_lay G)   {Q : Int32 → sw_I → sw_J → Prop}  {I : sw_I} {J : sw_J} (h : wp_X0_flawOf  I J Q) : Met l yX0_flawOf (Cond.code yX0_flawOf cX0_flawOf 4 (some .int) :: sw_T) rm_X0_flawOf (sw_Pc D cy sz [.ref (sz + 1)] G I J) (sw_Q D cy sz (sw_qi G Q)) 0 0 (fun q => sz ≤ q) :=
  sw_met (by decide) (fun q => by cases q) (Nat.le_of_ble_eq_true rfl) rfl (t_X0_flawOf hG  h)
-- X1_nextStop
abbrev rm_X1_nextStop : Room := { frames := 2, cells := 0, slots := 0, locals := 47 }
def wB_X1_nextStop_143 (a1 : Nat) (K50 : Int32 → Int32 → Int32 → sw_I → sw_J → Prop) (Q : Int32 → sw_I → sw_J → Prop) (x3 : Int32) (x4 : Int32) (x5 : Int32) (I : sw_I) (J : sw_J) : Prop :=
  ∀ y_1 : Int32, y_1 = x5 + 1 → K50 x3 x4 y_1 I J
def wB_X1_nextStop_129 (a1 : Nat) (K50 : Int32 → Int32 → Int32 → sw_I → sw_J → Prop) (Q : Int32 → sw_I → sw_J → Prop) (x3 : Int32) (x4 : Int32) (x5 : Int32) (x6 : Int32) (s0 : Int32) (I : sw_I) (J : sw_J) : Prop :=
  sw_if (s0 = 0) (wB_X1_nextStop_143 a1 K50 Q x3 x4 x5 I J) (wB_X1_nextStop_143 a1 K50 Q x5 x6 x5 I J)
def wB_X1_nextStop_124 (a1 : Nat) (K50 : Int32 → Int32 → Int32 → sw_I → sw_J → Prop) (Q : Int32 → sw_I → sw_J → Prop) (x3 : Int32) (x4 : Int32) (x5 : Int32) (x6 : Int32) (I : sw_I) (J : sw_J) : Prop :=
  wB_X1_nextStop_129 a1 K50 Q x3 x4 x5 x6 1 I J
def wB_X1_nextStop_128 (a1 : Nat) (K50 : Int32 → Int32 → Int32 → sw_I → sw_J → Prop) (Q : Int32 → sw_I → sw_J → Prop) (x3 : Int32) (x4 : Int32) (x5 : Int32) (x6 : Int32) (I : sw_I) (J : sw_J) : Prop :=
  wB_X1_nextStop_129 a1 K50 Q x3 x4 x5 x6 0 I J
def wb_X1_nextStop_50 (a1 : Nat) (K50 : Int32 → Int32 → Int32 → sw_I → sw_J → Prop) (Q : Int32 → sw_I → sw_J → Prop) (x3 : Int32) (x4 : Int32) (x5 : Int32) (I : sw_I) (J : sw_J) : Prop :=
  sw_if (x5 < (I 3 0)) (sw_if (x5 = (I a1 4)) (wB_X1_nextStop_143 a1 K50 Q x3 x4 x5 I J) (wp_X2_worth x5 I J (fun r_3 I_4 J_5 => sw_if (x3 = (-1 : Int32)) (wB_X1_nextStop_124 a1 K50 Q x3 x4 x5 r_3 I_4 J_5) (sw_if (r_3 < x4) (wB_X1_nextStop_124 a1 K50 Q x3 x4 x5 r_3 I_4 J_5) (sw_if (r_3 = x4) (sw_if ((if 0 ≤ (x5 - (I_4 a1 4)) then (x5 - (I_4 a1 4)) else 0 - (x5 - (I_4 a1 4))) < (if 0 ≤ (x3 - (I_4 a1 4)) then (x3 - (I_4 a1 4)) else 0 - (x3 - (I_4 a1 4)))) (wB_X1_nextStop_124 a1 K50 Q x3 x4 x5 r_3 I_4 J_5) (wB_X1_nextStop_128 a1 K50 Q x3 x4 x5 r_3 I_4 J_5)) (wB_X1_nextStop_128 a1 K50 Q x3 x4 x5 r_3 I_4 J_5)))))) (Q x3 I J)
def wl_X1_nextStop_50 (a1 : Nat)  (Q : Int32 → sw_I → sw_J → Prop) : Nat → Int32 → Int32 → Int32 → sw_I → sw_J → Prop
  | 0 => fun _ _ _ _ _ => False
  | n + 1 => fun x3 x4 x5 I J => wb_X1_nextStop_50 a1 (wl_X1_nextStop_50 a1  Q n) Q x3 x4 x5 I J
def wB_X1_nextStop_36 (a1 : Nat)  (Q : Int32 → sw_I → sw_J → Prop) (x2 : Int32) (I : sw_I) (J : sw_J) : Prop :=
  wp_X1_look a1 x2 I J (fun I_2 J_3 => ∃ n_4 : Nat, wl_X1_nextStop_50 a1  Q n_4 (-1) 0 0 I_2 J_3)
def wp_X1_nextStop (a1 : Nat) (x2 : Int32) (I : sw_I) (J : sw_J) (Q : Int32 → sw_I → sw_J → Prop) : Prop :=
  sw_if ((((I a1 5) + (1 : Int32)) - ((I a1 5) + (1 : Int32)) / (7 : Int32) * (7 : Int32)) = 0) (sw_if ((I 3 1) = (-1 : Int32)) (wB_X1_nextStop_36 a1  Q x2 I J) (sw_if ((I 3 1) = (I a1 4)) (wB_X1_nextStop_36 a1  Q x2 I J) (Q (I 3 1) I J))) (wB_X1_nextStop_36 a1  Q x2 I J)
set_option maxRecDepth 20000 in
theorem t_X1_nextStop_143 {l : Launch} {D : va_G} {cy : Nat → ClassId} {sz : Nat} {G : sw_G} (hG : sw_lay G) {a1 : Nat} (ha1 : sw_mom G a1) {Q : Int32 → sw_I → sw_J → Prop} {K50 : Int32 → Int32 → Int32 → sw_I → sw_J → Prop} (hK50 : ∀ (x3 : Int32) (x4 : Int32) (x5 : Int32) (I : sw_I) (J : sw_J), K50 x3 x4 x5 I J → AW l D cy sz RX1 cX1_nextStop 8 (some .int) false rm_X1_nextStop 0 0 (sw_qi G Q) 0 0 G I J 50 [(0, .ref (sz + 3)), (1, .ref (sz + a1)), (3, .int x3), (4, .int x4), (5, .int x5)] []) {x3 : Int32} {x4 : Int32} {x5 : Int32} {I : sw_I} {J : sw_J} (h : wB_X1_nextStop_143 a1 K50 Q x3 x4 x5 I J) : AW l D cy sz RX1 cX1_nextStop 8 (some .int) false rm_X1_nextStop 0 0 (sw_qi G Q) 0 0 G I J 143 [(0, .ref (sz + 3)), (1, .ref (sz + a1)), (3, .int x3), (4, .int x4), (5, .int x5)] [] := by
  unfold wB_X1_nextStop_143 at h
  obtain ⟨y_1, e_2⟩ : ∃ q : Int32, q = x5 + 1 := ⟨_, rfl⟩
  have h := h y_1 e_2
  refine aw_iinc (lv' := [(5, .int y_1), (0, .ref (sz + 3)), (1, .ref (sz + a1)), (3, .int x3), (4, .int x4)]) 4 dX1_nextStop_143 rfl (by rw [e_2]; rfl) (by decide) rfl ?_
  refine aw_goto 50 dX1_nextStop_146 (by decide) ?_
  refine aw_sub [1, 2, 3, 4, 0] rfl ?_
  exact hK50 x3 x4 y_1 I J h
set_option maxRecDepth 20000 in
theorem t_X1_nextStop_129 {l : Launch} {D : va_G} {cy : Nat → ClassId} {sz : Nat} {G : sw_G} (hG : sw_lay G) {a1 : Nat} (ha1 : sw_mom G a1) {Q : Int32 → sw_I → sw_J → Prop} {K50 : Int32 → Int32 → Int32 → sw_I → sw_J → Prop} (hK50 : ∀ (x3 : Int32) (x4 : Int32) (x5 : Int32) (I : sw_I) (J : sw_J), K50 x3 x4 x5 I J → AW l D cy sz RX1 cX1_nextStop 8 (some .int) false rm_X1_nextStop 0 0 (sw_qi G Q) 0 0 G I J 50 [(0, .ref (sz + 3)), (1, .ref (sz + a1)), (3, .int x3), (4, .int x4), (5, .int x5)] []) {x3 : Int32} {x4 : Int32} {x5 : Int32} {x6 : Int32} {s0 : Int32} {I : sw_I} {J : sw_J} (h : wB_X1_nextStop_129 a1 K50 Q x3 x4 x5 x6 s0 I J) : AW l D cy sz RX1 cX1_nextStop 8 (some .int) false rm_X1_nextStop 0 0 (sw_qi G Q) 0 0 G I J 129 [(0, .ref (sz + 3)), (1, .ref (sz + a1)), (3, .int x3), (4, .int x4), (5, .int x5), (6, .int x6)] [.int s0] := by
  unfold wB_X1_nextStop_129 at h
  refine aw_istore (lv' := [(7, .int s0), (0, .ref (sz + 3)), (1, .ref (sz + a1)), (3, .int x3), (4, .int x4), (5, .int x5), (6, .int x6)]) dX1_nextStop_129 (by decide) rfl ?_
  refine aw_iload 0 dX1_nextStop_131 rfl ?_
  refine aw_zeq 143 dX1_nextStop_133 (by decide) (fun c_1 => ?_) (fun c_1 => ?_)
  · have h := sw_if.t h c_1
    refine aw_sub [1, 2, 3, 4, 5] rfl ?_
    exact t_X1_nextStop_143 hG ha1 hK50 h
  · have h := sw_if.f h c_1
    refine aw_iload 5 dX1_nextStop_136 rfl ?_
    refine aw_istore_n (lv' := [(3, .int x5), (7, .int s0), (0, .ref (sz + 3)), (1, .ref (sz + a1)), (4, .int x4), (5, .int x5), (6, .int x6)]) dX1_nextStop_138 rfl (by decide) rfl ?_
    refine aw_iload 6 dX1_nextStop_139 rfl ?_
    refine aw_istore (lv' := [(4, .int x6), (3, .int x5), (7, .int s0), (0, .ref (sz + 3)), (1, .ref (sz + a1)), (5, .int x5), (6, .int x6)]) dX1_nextStop_141 (by decide) rfl ?_
    refine aw_sub [3, 4, 1, 0, 5] rfl ?_
    exact t_X1_nextStop_143 hG ha1 hK50 h
set_option maxRecDepth 20000 in
theorem t_X1_nextStop_124 {l : Launch} {D : va_G} {cy : Nat → ClassId} {sz : Nat} {G : sw_G} (hG : sw_lay G) {a1 : Nat} (ha1 : sw_mom G a1) {Q : Int32 → sw_I → sw_J → Prop} {K50 : Int32 → Int32 → Int32 → sw_I → sw_J → Prop} (hK50 : ∀ (x3 : Int32) (x4 : Int32) (x5 : Int32) (I : sw_I) (J : sw_J), K50 x3 x4 x5 I J → AW l D cy sz RX1 cX1_nextStop 8 (some .int) false rm_X1_nextStop 0 0 (sw_qi G Q) 0 0 G I J 50 [(0, .ref (sz + 3)), (1, .ref (sz + a1)), (3, .int x3), (4, .int x4), (5, .int x5)] []) {x3 : Int32} {x4 : Int32} {x5 : Int32} {x6 : Int32} {I : sw_I} {J : sw_J} (h : wB_X1_nextStop_124 a1 K50 Q x3 x4 x5 x6 I J) : AW l D cy sz RX1 cX1_nextStop 8 (some .int) false rm_X1_nextStop 0 0 (sw_qi G Q) 0 0 G I J 124 [(0, .ref (sz + 3)), (1, .ref (sz + a1)), (3, .int x3), (4, .int x4), (5, .int x5), (6, .int x6)] [] := by
  unfold wB_X1_nextStop_124 at h
  refine aw_iconst (v := 1) dX1_nextStop_124 (by decide) ?_
  refine aw_goto 129 dX1_nextStop_125 (by decide) ?_
  refine aw_sub [0, 1, 2, 3, 4, 5] rfl ?_
  exact t_X1_nextStop_129 hG ha1 hK50 h
set_option maxRecDepth 20000 in
theorem t_X1_nextStop_128 {l : Launch} {D : va_G} {cy : Nat → ClassId} {sz : Nat} {G : sw_G} (hG : sw_lay G) {a1 : Nat} (ha1 : sw_mom G a1) {Q : Int32 → sw_I → sw_J → Prop} {K50 : Int32 → Int32 → Int32 → sw_I → sw_J → Prop} (hK50 : ∀ (x3 : Int32) (x4 : Int32) (x5 : Int32) (I : sw_I) (J : sw_J), K50 x3 x4 x5 I J → AW l D cy sz RX1 cX1_nextStop 8 (some .int) false rm_X1_nextStop 0 0 (sw_qi G Q) 0 0 G I J 50 [(0, .ref (sz + 3)), (1, .ref (sz + a1)), (3, .int x3), (4, .int x4), (5, .int x5)] []) {x3 : Int32} {x4 : Int32} {x5 : Int32} {x6 : Int32} {I : sw_I} {J : sw_J} (h : wB_X1_nextStop_128 a1 K50 Q x3 x4 x5 x6 I J) : AW l D cy sz RX1 cX1_nextStop 8 (some .int) false rm_X1_nextStop 0 0 (sw_qi G Q) 0 0 G I J 128 [(0, .ref (sz + 3)), (1, .ref (sz + a1)), (3, .int x3), (4, .int x4), (5, .int x5), (6, .int x6)] [] := by
  unfold wB_X1_nextStop_128 at h
  refine aw_iconst (v := 0) dX1_nextStop_128 (by decide) ?_
  refine aw_sub [0, 1, 2, 3, 4, 5] rfl ?_
  exact t_X1_nextStop_129 hG ha1 hK50 h
set_option maxRecDepth 20000 in
theorem tb_X1_nextStop_50 {l : Launch} {D : va_G} {cy : Nat → ClassId} {sz : Nat} {G : sw_G} (hG : sw_lay G) {a1 : Nat} (ha1 : sw_mom G a1) {Q : Int32 → sw_I → sw_J → Prop} {K50 : Int32 → Int32 → Int32 → sw_I → sw_J → Prop} (hK50 : ∀ (x3 : Int32) (x4 : Int32) (x5 : Int32) (I : sw_I) (J : sw_J), K50 x3 x4 x5 I J → AW l D cy sz RX1 cX1_nextStop 8 (some .int) false rm_X1_nextStop 0 0 (sw_qi G Q) 0 0 G I J 50 [(0, .ref (sz + 3)), (1, .ref (sz + a1)), (3, .int x3), (4, .int x4), (5, .int x5)] []) {x3 : Int32} {x4 : Int32} {x5 : Int32} {I : sw_I} {J : sw_J} (h : wb_X1_nextStop_50 a1 K50 Q x3 x4 x5 I J) : AW l D cy sz RX1 cX1_nextStop 8 (some .int) false rm_X1_nextStop 0 0 (sw_qi G Q) 0 0 G I J 50 [(0, .ref (sz + 3)), (1, .ref (sz + a1)), (3, .int x3), (4, .int x4), (5, .int x5)] [] := by
  unfold wb_X1_nextStop_50 at h
  refine aw_iload 4 dX1_nextStop_50 rfl ?_
  refine aw_aload_n 0 dX1_nextStop_52 rfl rfl ?_
  refine gf_X1_0 fl_X1_9 (lk3 hG) dX1_nextStop_53 ?_
  refine aw_jge 149 dX1_nextStop_56 (by decide) (fun c_1 => ?_) (fun c_1 => ?_)
  · have h := sw_if.f h c_1
    refine aw_iload_n 2 dX1_nextStop_149 rfl rfl ?_
    exact aw_iret rfl dX1_nextStop_150 ⟨rfl, _, rfl, h⟩
  · have h := sw_if.t h c_1
    refine aw_iload 4 dX1_nextStop_59 rfl ?_
    refine aw_aload_n 1 dX1_nextStop_61 rfl rfl ?_
    refine gf_X3_4 fl_X1_67 ha1.1 dX1_nextStop_62 ?_
    refine aw_jeq 143 dX1_nextStop_65 (by decide) (fun c_2 => ?_) (fun c_2 => ?_)
    · have h := sw_if.t h c_2
      refine aw_sub [0, 1, 2, 3, 4] rfl ?_
      exact t_X1_nextStop_143 hG ha1 hK50 h
    · have h := sw_if.f h c_2
      refine aw_aload_n 0 dX1_nextStop_68 rfl rfl ?_
      refine gf_X1_5 fl_X1_31 (lk3 hG) (lr3_5 hG) dX1_nextStop_69 ?_
      refine aw_aload_n 0 dX1_nextStop_72 rfl rfl ?_
      refine gf_X1_6 fl_X1_38 (lk3 hG) (lr3_6 hG) dX1_nextStop_73 ?_
      refine aw_iload 4 dX1_nextStop_76 rfl ?_
      refine aw_callV wv_X2_worth (M_X2_worth hG  h) ml_X1_90 rfl (by decide) (lk6 hG) rfl rfl (Nat.le_of_ble_eq_true rfl) ⟨rfl, rfl⟩ ⟨Nat.le_of_ble_eq_true rfl, Nat.le_of_ble_eq_true rfl⟩ ⟨Nat.le_refl _, Nat.le_refl _⟩ dX1_nextStop_78 (aw_ki fun r_3 I_4 J_5 h => ?_)
      refine aw_istore (lv' := [(6, .int r_3), (0, .ref (sz + 3)), (1, .ref (sz + a1)), (3, .int x3), (4, .int x4), (5, .int x5)]) dX1_nextStop_81 (by decide) rfl ?_
      refine aw_iload_n 3 dX1_nextStop_83 rfl rfl ?_
      refine aw_iconst (v := (-1)) dX1_nextStop_84 (by decide) ?_
      refine aw_jeq 124 dX1_nextStop_85 (by decide) (fun c_6 => ?_) (fun c_6 => ?_)
      · have h := sw_if.t h c_6
        refine aw_sub [1, 2, 3, 4, 5, 0] rfl ?_
        exact t_X1_nextStop_124 hG ha1 hK50 h
      · have h := sw_if.f h c_6
        refine aw_iload 0 dX1_nextStop_88 rfl ?_
        refine aw_iload 4 dX1_nextStop_90 rfl ?_
        refine aw_jlt 124 dX1_nextStop_92 (by decide) (fun c_7 => ?_) (fun c_7 => ?_)
        · have h := sw_if.t h c_7
          refine aw_sub [1, 2, 3, 4, 5, 0] rfl ?_
          exact t_X1_nextStop_124 hG ha1 hK50 h
        · have h := sw_if.f h c_7
          refine aw_iload 0 dX1_nextStop_95 rfl ?_
          refine aw_iload 4 dX1_nextStop_97 rfl ?_
          refine aw_jne 128 dX1_nextStop_99 (by decide) (fun c_8 => ?_) (fun c_8 => ?_)
          · have h := sw_if.f h c_8
            refine aw_sub [1, 2, 3, 4, 5, 0] rfl ?_
            exact t_X1_nextStop_128 hG ha1 hK50 h
          · have h := sw_if.t h c_8
            refine aw_iload 5 dX1_nextStop_102 rfl ?_
            refine aw_aload_n 2 dX1_nextStop_104 rfl rfl ?_
            refine gf_X3_4 fl_X1_67 ha1.1 dX1_nextStop_105 ?_
            refine aw_isub dX1_nextStop_108 ?_
            refine aw_mabs mm_X1_94 wm_abs (Nat.le_of_ble_eq_true rfl) (Nat.le_of_ble_eq_true rfl) ⟨Nat.le_refl _, Nat.le_refl _⟩ dX1_nextStop_109 ?_
            refine aw_iload_n 3 dX1_nextStop_112 rfl rfl ?_
            refine aw_aload_n 2 dX1_nextStop_113 rfl rfl ?_
            refine gf_X3_4 fl_X1_67 ha1.1 dX1_nextStop_114 ?_
            refine aw_isub dX1_nextStop_117 ?_
            refine aw_mabs mm_X1_94 wm_abs (Nat.le_of_ble_eq_true rfl) (Nat.le_of_ble_eq_true rfl) ⟨Nat.le_refl _, Nat.le_refl _⟩ dX1_nextStop_118 ?_
            refine aw_jge 128 dX1_nextStop_121 (by decide) (fun c_9 => ?_) (fun c_9 => ?_)
            · have h := sw_if.f h c_9
              refine aw_sub [1, 2, 3, 4, 5, 0] rfl ?_
              exact t_X1_nextStop_128 hG ha1 hK50 h
            · have h := sw_if.t h c_9
              refine aw_sub [1, 2, 3, 4, 5, 0] rfl ?_
              exact t_X1_nextStop_124 hG ha1 hK50 h
set_option maxRecDepth 20000 in
theorem tl_X1_nextStop_50 {l : Launch} {D : va_G} {cy : Nat → ClassId} {sz : Nat} {G : sw_G} (hG : sw_lay G) {a1 : Nat} (ha1 : sw_mom G a1) {Q : Int32 → sw_I → sw_J → Prop} : ∀ (n : Nat) (x3 : Int32) (x4 : Int32) (x5 : Int32) (I : sw_I) (J : sw_J), wl_X1_nextStop_50 a1  Q n x3 x4 x5 I J → AW l D cy sz RX1 cX1_nextStop 8 (some .int) false rm_X1_nextStop 0 0 (sw_qi G Q) 0 0 G I J 50 [(0, .ref (sz + 3)), (1, .ref (sz + a1)), (3, .int x3), (4, .int x4), (5, .int x5)] [] := by
  intro n
  induction n with
  | zero => intro x3 x4 x5 I J h; exact False.elim h
  | succ n ih => intro x3 x4 x5 I J h; exact tb_X1_nextStop_50 hG ha1 ih h
set_option maxRecDepth 20000 in
theorem t_X1_nextStop_36 {l : Launch} {D : va_G} {cy : Nat → ClassId} {sz : Nat} {G : sw_G} (hG : sw_lay G) {a1 : Nat} (ha1 : sw_mom G a1) {Q : Int32 → sw_I → sw_J → Prop} {x2 : Int32} {I : sw_I} {J : sw_J} (h : wB_X1_nextStop_36 a1  Q x2 I J) : AW l D cy sz RX1 cX1_nextStop 8 (some .int) false rm_X1_nextStop 0 0 (sw_qi G Q) 0 0 G I J 36 [(0, .ref (sz + 3)), (1, .ref (sz + a1)), (2, .int x2)] [] := by
  unfold wB_X1_nextStop_36 at h
  refine aw_aload_n 0 dX1_nextStop_36 rfl rfl ?_
  refine aw_aload_n 1 dX1_nextStop_37 rfl rfl ?_
  refine aw_iload_n 2 dX1_nextStop_38 rfl rfl ?_
  refine aw_callV wv_X1_look (M_X1_look hG ha1 h) ml_X1_86 rfl (by decide) (lk3 hG) rfl rfl (Nat.le_of_ble_eq_true rfl) ⟨rfl, rfl⟩ ⟨Nat.le_of_ble_eq_true rfl, Nat.le_of_ble_eq_true rfl⟩ ⟨Nat.le_refl _, Nat.le_refl _⟩ dX1_nextStop_39 (aw_kv fun I_2 J_3 h => ?_)
  refine aw_iconst (v := (-1)) dX1_nextStop_42 (by decide) ?_
  refine aw_istore_n (lv' := [(3, .int (-1)), (0, .ref (sz + 3)), (1, .ref (sz + a1)), (2, .int x2)]) dX1_nextStop_43 rfl (by decide) rfl ?_
  refine aw_iconst (v := 0) dX1_nextStop_44 (by decide) ?_
  refine aw_istore (lv' := [(4, .int 0), (3, .int (-1)), (0, .ref (sz + 3)), (1, .ref (sz + a1)), (2, .int x2)]) dX1_nextStop_45 (by decide) rfl ?_
  refine aw_iconst (v := 0) dX1_nextStop_47 (by decide) ?_
  refine aw_istore (lv' := [(5, .int 0), (4, .int 0), (3, .int (-1)), (0, .ref (sz + 3)), (1, .ref (sz + a1)), (2, .int x2)]) dX1_nextStop_48 (by decide) rfl ?_
  refine aw_sub [3, 4, 2, 1, 0] rfl ?_
  obtain ⟨n_4, h⟩ := h
  exact tl_X1_nextStop_50 hG ha1  n_4 (-1) 0 0 I_2 J_3 h
set_option maxRecDepth 20000 in
theorem t_X1_nextStop {l : Launch} {D : va_G} {cy : Nat → ClassId} {sz : Nat} {G : sw_G} (hG : sw_lay G) {a1 : Nat} (ha1 : sw_mom G a1) {Q : Int32 → sw_I → sw_J → Prop} {x2 : Int32} {I : sw_I} {J : sw_J} (h : wp_X1_nextStop a1 x2 I J Q) : AW l D cy sz RX1 cX1_nextStop 8 (some .int) false rm_X1_nextStop 0 0 (sw_qi G Q) 0 0 G I J 0 [(0, .ref (sz + 3)), (1, .ref (sz + a1)), (2, .int x2)] [] := by
  unfold wp_X1_nextStop at h
  refine aw_aload_n 1 dX1_nextStop_0 rfl rfl ?_
  refine gf_X3_5 fl_X1_73 ha1.1 dX1_nextStop_1 ?_
  refine aw_iconst (v := 1) dX1_nextStop_4 (by decide) ?_
  refine aw_iadd dX1_nextStop_5 ?_
  refine aw_bipush (v := 7) dX1_nextStop_6 (by decide) ?_
  refine aw_irem dX1_nextStop_8 (by decide) ?_
  refine aw_zne 36 dX1_nextStop_9 (by decide) (fun c_1 => ?_) (fun c_1 => ?_)
  · have h := sw_if.f h c_1
    refine aw_sub [0, 1, 2] rfl ?_
    exact t_X1_nextStop_36 hG ha1  h
  · have h := sw_if.t h c_1
    refine aw_aload_n 0 dX1_nextStop_12 rfl rfl ?_
    refine gf_X1_1 fl_X1_15 (lk3 hG) dX1_nextStop_13 ?_
    refine aw_iconst (v := (-1)) dX1_nextStop_16 (by decide) ?_
    refine aw_jeq 36 dX1_nextStop_17 (by decide) (fun c_2 => ?_) (fun c_2 => ?_)
    · have h := sw_if.t h c_2
      refine aw_sub [0, 1, 2] rfl ?_
      exact t_X1_nextStop_36 hG ha1  h
    · have h := sw_if.f h c_2
      refine aw_aload_n 0 dX1_nextStop_20 rfl rfl ?_
      refine gf_X1_1 fl_X1_15 (lk3 hG) dX1_nextStop_21 ?_
      refine aw_aload_n 1 dX1_nextStop_24 rfl rfl ?_
      refine gf_X3_4 fl_X1_67 ha1.1 dX1_nextStop_25 ?_
      refine aw_jeq 36 dX1_nextStop_28 (by decide) (fun c_3 => ?_) (fun c_3 => ?_)
      · have h := sw_if.t h c_3
        refine aw_sub [0, 1, 2] rfl ?_
        exact t_X1_nextStop_36 hG ha1  h
      · have h := sw_if.f h c_3
        refine aw_aload_n 0 dX1_nextStop_31 rfl rfl ?_
        refine gf_X1_1 fl_X1_15 (lk3 hG) dX1_nextStop_32 ?_
        exact aw_iret rfl dX1_nextStop_35 ⟨rfl, _, rfl, h⟩
theorem M_X1_nextStop {l : Launch} {D : va_G} {cy : Nat → ClassId} {sz : Nat} {G : sw_G} (hG : sw_lay G) {a1 : Nat} (ha1 : sw_mom G a1) {Q : Int32 → sw_I → sw_J → Prop} {x2 : Int32} {I : sw_I} {J : sw_J} (h : wp_X1_nextStop a1 x2 I J Q) : Met l yX1_nextStop (Cond.code yX1_nextStop cX1_nextStop 8 (some .int) :: sw_T) rm_X1_nextStop (sw_Pc D cy sz [.ref (sz + 3), .ref (sz + a1), .int x2] G I J) (sw_Q D cy sz (sw_qi G Q)) 0 0 (fun q => sz ≤ q) :=
  sw_met (by decide) (fun q => by cases q) (Nat.le_of_ble_eq_true rfl) rfl (t_X1_nextStop hG ha1 h)
-- X1_carry
abbrev rm_X1_carry : Room := { frames := 3, cells := 0, slots := 0, locals := 74 }
def wB_X1_carry_73 (a1 : Nat) (K23 : Int32 → Int32 → Int32 → sw_I → sw_J → Prop) (Q : Int32 → sw_I → sw_J → Prop) (x2 : Int32) (x3 : Int32) (x4 : Int32) (I : sw_I) (J : sw_J) : Prop :=
  ∀ y_1 : Int32, y_1 = x4 + 1 → K23 x2 x3 y_1 I J
def wB_X1_carry_72 (a1 : Nat) (K23 : Int32 → Int32 → Int32 → sw_I → sw_J → Prop) (Q : Int32 → sw_I → sw_J → Prop) (x2 : Int32) (x3 : Int32) (x4 : Int32) (s1 : Int32) (s2 : Int32) (I : sw_I) (J : sw_J) : Prop :=
  vp_in s1 10 ∧ ∀ I_2 : sw_I, I_2 = sw_up I (a1 + 1) s1.toNatClampNeg s2 → wB_X1_carry_73 a1 K23 Q x2 x3 x4 I_2 J
def wb_X1_carry_23 (a1 : Nat) (K23 : Int32 → Int32 → Int32 → sw_I → sw_J → Prop) (Q : Int32 → sw_I → sw_J → Prop) (x2 : Int32) (x3 : Int32) (x4 : Int32) (I : sw_I) (J : sw_J) : Prop :=
  sw_if (x4 < (I 3 2)) (wp_X3_isIn a1 x4 I J (fun r_8 I_9 J_10 => sw_if (r_8 = 0) (wB_X1_carry_73 a1 K23 Q x2 x3 x4 I_9 J_10) (vp_in x4 10 ∧ vp_in x4 10 ∧ ∀ I_14 : sw_I, I_14 = sw_up I_9 (a1 + 3) x4.toNatClampNeg ((I_9 (a1 + 3) x4.toNatClampNeg) + (1 : Int32)) → sw_if (((x3 >>> (x4 &&& 31)) &&& (1 : Int32)) = 0) (wB_X1_carry_72 a1 K23 Q x2 x3 x4 x4 x2 I_14 J_10) (wB_X1_carry_72 a1 K23 Q x2 x3 x4 x4 (-1) I_14 J_10)))) (∀ I_2 : sw_I, I_2 = sw_up I a1 3 ((I a1 3) &&& (x3 ^^^ (-1 : Int32))) → ∀ I_4 : sw_I, I_4 = sw_up I_2 a1 4 x2 → ∀ I_6 : sw_I, I_6 = sw_up I_4 a1 5 ((I_4 a1 5) + (1 : Int32)) → Q x3 I_6 J)
def wl_X1_carry_23 (a1 : Nat)  (Q : Int32 → sw_I → sw_J → Prop) : Nat → Int32 → Int32 → Int32 → sw_I → sw_J → Prop
  | 0 => fun _ _ _ _ _ => False
  | n + 1 => fun x2 x3 x4 I J => wb_X1_carry_23 a1 (wl_X1_carry_23 a1  Q n) Q x2 x3 x4 I J
def wp_X1_carry (a1 : Nat) (I : sw_I) (J : sw_J) (Q : Int32 → sw_I → sw_J → Prop) : Prop :=
  wp_X1_nextStop a1 (I a1 3) I J (fun r_1 I_2 J_3 => wp_X1_homeAt (I_2 a1 3) r_1 I_2 J_3 (fun r_4 I_5 J_6 => ∃ n_7 : Nat, wl_X1_carry_23 a1  Q n_7 r_1 r_4 0 I_5 J_6))
set_option maxRecDepth 20000 in
theorem t_X1_carry_73 {l : Launch} {D : va_G} {cy : Nat → ClassId} {sz : Nat} {G : sw_G} (hG : sw_lay G) {a1 : Nat} (ha1 : sw_mom G a1) {Q : Int32 → sw_I → sw_J → Prop} {K23 : Int32 → Int32 → Int32 → sw_I → sw_J → Prop} (hK23 : ∀ (x2 : Int32) (x3 : Int32) (x4 : Int32) (I : sw_I) (J : sw_J), K23 x2 x3 x4 I J → AW l D cy sz RX1 cX1_carry 5 (some .int) false rm_X1_carry 0 0 (sw_qi G Q) 0 0 G I J 23 [(0, .ref (sz + 3)), (1, .ref (sz + a1)), (2, .int x2), (3, .int x3), (4, .int x4)] []) {x2 : Int32} {x3 : Int32} {x4 : Int32} {I : sw_I} {J : sw_J} (h : wB_X1_carry_73 a1 K23 Q x2 x3 x4 I J) : AW l D cy sz RX1 cX1_carry 5 (some .int) false rm_X1_carry 0 0 (sw_qi G Q) 0 0 G I J 73 [(0, .ref (sz + 3)), (1, .ref (sz + a1)), (2, .int x2), (3, .int x3), (4, .int x4)] [] := by
  unfold wB_X1_carry_73 at h
  obtain ⟨y_1, e_2⟩ : ∃ q : Int32, q = x4 + 1 := ⟨_, rfl⟩
  have h := h y_1 e_2
  refine aw_iinc (lv' := [(4, .int y_1), (0, .ref (sz + 3)), (1, .ref (sz + a1)), (2, .int x2), (3, .int x3)]) 4 dX1_carry_73 rfl (by rw [e_2]; rfl) (by decide) rfl ?_
  refine aw_goto 23 dX1_carry_76 (by decide) ?_
  refine aw_sub [1, 2, 3, 4, 0] rfl ?_
  exact hK23 x2 x3 y_1 I J h
set_option maxRecDepth 20000 in
theorem t_X1_carry_72 {l : Launch} {D : va_G} {cy : Nat → ClassId} {sz : Nat} {G : sw_G} (hG : sw_lay G) {a1 : Nat} (ha1 : sw_mom G a1) {Q : Int32 → sw_I → sw_J → Prop} {K23 : Int32 → Int32 → Int32 → sw_I → sw_J → Prop} (hK23 : ∀ (x2 : Int32) (x3 : Int32) (x4 : Int32) (I : sw_I) (J : sw_J), K23 x2 x3 x4 I J → AW l D cy sz RX1 cX1_carry 5 (some .int) false rm_X1_carry 0 0 (sw_qi G Q) 0 0 G I J 23 [(0, .ref (sz + 3)), (1, .ref (sz + a1)), (2, .int x2), (3, .int x3), (4, .int x4)] []) {x2 : Int32} {x3 : Int32} {x4 : Int32} {s1 : Int32} {s2 : Int32} {I : sw_I} {J : sw_J} (h : wB_X1_carry_72 a1 K23 Q x2 x3 x4 s1 s2 I J) : AW l D cy sz RX1 cX1_carry 5 (some .int) false rm_X1_carry 0 0 (sw_qi G Q) 0 0 G I J 72 [(0, .ref (sz + 3)), (1, .ref (sz + a1)), (2, .int x2), (3, .int x3), (4, .int x4)] [.int s2, .int s1, .ref (sz + (a1 + 1))] := by
  unfold wB_X1_carry_72 at h
  obtain ⟨hi_1, h⟩ := h
  refine aw_ist dX1_carry_72 ha1.2.2.1 ha1.2.2.2.2.2.1 hi_1 (aw_nameI fun I_2 e_3 => ?_)
  have h := h I_2 e_3
  refine aw_sub [0, 1, 2, 3, 4] rfl ?_
  exact t_X1_carry_73 hG ha1 hK23 h
set_option maxRecDepth 20000 in
theorem tb_X1_carry_23 {l : Launch} {D : va_G} {cy : Nat → ClassId} {sz : Nat} {G : sw_G} (hG : sw_lay G) {a1 : Nat} (ha1 : sw_mom G a1) {Q : Int32 → sw_I → sw_J → Prop} {K23 : Int32 → Int32 → Int32 → sw_I → sw_J → Prop} (hK23 : ∀ (x2 : Int32) (x3 : Int32) (x4 : Int32) (I : sw_I) (J : sw_J), K23 x2 x3 x4 I J → AW l D cy sz RX1 cX1_carry 5 (some .int) false rm_X1_carry 0 0 (sw_qi G Q) 0 0 G I J 23 [(0, .ref (sz + 3)), (1, .ref (sz + a1)), (2, .int x2), (3, .int x3), (4, .int x4)] []) {x2 : Int32} {x3 : Int32} {x4 : Int32} {I : sw_I} {J : sw_J} (h : wb_X1_carry_23 a1 K23 Q x2 x3 x4 I J) : AW l D cy sz RX1 cX1_carry 5 (some .int) false rm_X1_carry 0 0 (sw_qi G Q) 0 0 G I J 23 [(0, .ref (sz + 3)), (1, .ref (sz + a1)), (2, .int x2), (3, .int x3), (4, .int x4)] [] := by
  unfold wb_X1_carry_23 at h
  refine aw_iload 4 dX1_carry_23 rfl ?_
  refine aw_aload_n 0 dX1_carry_25 rfl rfl ?_
  refine gf_X1_2 fl_X1_18 (lk3 hG) dX1_carry_26 ?_
  refine aw_jge 79 dX1_carry_29 (by decide) (fun c_1 => ?_) (fun c_1 => ?_)
  · have h := sw_if.f h c_1
    refine aw_aload_n 1 dX1_carry_79 rfl rfl ?_
    refine aw_dup dX1_carry_80 rfl ?_
    refine gf_X3_3 fl_X1_99 ha1.1 dX1_carry_81 ?_
    refine aw_iload_n 3 dX1_carry_84 rfl rfl ?_
    refine aw_iconst (v := (-1)) dX1_carry_85 (by decide) ?_
    refine aw_ixor dX1_carry_86 ?_
    refine aw_iand dX1_carry_87 ?_
    refine pf_X3_3 fl_X1_99 ha1.1 dX1_carry_88 (aw_nameI fun I_2 e_3 => ?_)
    have h := h I_2 e_3
    refine aw_aload_n 1 dX1_carry_91 rfl rfl ?_
    refine aw_iload_n 2 dX1_carry_92 rfl rfl ?_
    refine pf_X3_4 fl_X1_67 ha1.1 dX1_carry_93 (aw_nameI fun I_4 e_5 => ?_)
    have h := h I_4 e_5
    refine aw_aload_n 1 dX1_carry_96 rfl rfl ?_
    refine aw_dup dX1_carry_97 rfl ?_
    refine gf_X3_5 fl_X1_73 ha1.1 dX1_carry_98 ?_
    refine aw_iconst (v := 1) dX1_carry_101 (by decide) ?_
    refine aw_iadd dX1_carry_102 ?_
    refine pf_X3_5 fl_X1_73 ha1.1 dX1_carry_103 (aw_nameI fun I_6 e_7 => ?_)
    have h := h I_6 e_7
    refine aw_iload_n 3 dX1_carry_106 rfl rfl ?_
    exact aw_iret rfl dX1_carry_107 ⟨rfl, _, rfl, h⟩
  · have h := sw_if.t h c_1
    refine aw_aload_n 1 dX1_carry_32 rfl rfl ?_
    refine aw_iload 4 dX1_carry_33 rfl ?_
    refine aw_callV wv_X3_isIn (M_X3_isIn trivial ha1 h) ml_X1_110 rfl (by decide) ha1.1 rfl rfl (Nat.le_of_ble_eq_true rfl) ⟨rfl, rfl⟩ ⟨Nat.le_of_ble_eq_true rfl, Nat.le_of_ble_eq_true rfl⟩ ⟨Nat.le_refl _, Nat.le_refl _⟩ dX1_carry_35 (aw_ki fun r_8 I_9 J_10 h => ?_)
    refine aw_zeq 73 dX1_carry_38 (by decide) (fun c_11 => ?_) (fun c_11 => ?_)
    · have h := sw_if.t h c_11
      refine aw_sub [0, 1, 2, 3, 4] rfl ?_
      exact t_X1_carry_73 hG ha1 hK23 h
    · have h := sw_if.f h c_11
      refine aw_aload_n 1 dX1_carry_41 rfl rfl ?_
      refine gf_X3_2 fl_X1_113 ha1.1 ha1.2.1.2.2 dX1_carry_42 ?_
      refine aw_iload 4 dX1_carry_45 rfl ?_
      refine aw_dup2 dX1_carry_47 rfl rfl ?_
      obtain ⟨hi_12, h⟩ := h
      refine aw_ild dX1_carry_48 ha1.2.2.2.2.1 ha1.2.2.2.2.2.2.2 hi_12 ?_
      refine aw_iconst (v := 1) dX1_carry_49 (by decide) ?_
      refine aw_iadd dX1_carry_50 ?_
      obtain ⟨hi_13, h⟩ := h
      refine aw_ist dX1_carry_51 ha1.2.2.2.2.1 ha1.2.2.2.2.2.2.2 hi_13 (aw_nameI fun I_14 e_15 => ?_)
      have h := h I_14 e_15
      refine aw_aload_n 1 dX1_carry_52 rfl rfl ?_
      refine gf_X3_0 fl_X1_77 ha1.1 ha1.2.1.1 dX1_carry_53 ?_
      refine aw_iload 4 dX1_carry_56 rfl ?_
      refine aw_iload_n 3 dX1_carry_58 rfl rfl ?_
      refine aw_iload 4 dX1_carry_59 rfl ?_
      refine aw_ishr dX1_carry_61 ?_
      refine aw_iconst (v := 1) dX1_carry_62 (by decide) ?_
      refine aw_iand dX1_carry_63 ?_
      refine aw_zeq 71 dX1_carry_64 (by decide) (fun c_16 => ?_) (fun c_16 => ?_)
      · have h := sw_if.t h c_16
        refine aw_iload_n 2 dX1_carry_71 rfl rfl ?_
        refine aw_sub [0, 1, 2, 3, 4] rfl ?_
        exact t_X1_carry_72 hG ha1 hK23 h
      · have h := sw_if.f h c_16
        refine aw_iconst (v := (-1)) dX1_carry_67 (by decide) ?_
        refine aw_goto 72 dX1_carry_68 (by decide) ?_
        refine aw_sub [0, 1, 2, 3, 4] rfl ?_
        exact t_X1_carry_72 hG ha1 hK23 h
set_option maxRecDepth 20000 in
theorem tl_X1_carry_23 {l : Launch} {D : va_G} {cy : Nat → ClassId} {sz : Nat} {G : sw_G} (hG : sw_lay G) {a1 : Nat} (ha1 : sw_mom G a1) {Q : Int32 → sw_I → sw_J → Prop} : ∀ (n : Nat) (x2 : Int32) (x3 : Int32) (x4 : Int32) (I : sw_I) (J : sw_J), wl_X1_carry_23 a1  Q n x2 x3 x4 I J → AW l D cy sz RX1 cX1_carry 5 (some .int) false rm_X1_carry 0 0 (sw_qi G Q) 0 0 G I J 23 [(0, .ref (sz + 3)), (1, .ref (sz + a1)), (2, .int x2), (3, .int x3), (4, .int x4)] [] := by
  intro n
  induction n with
  | zero => intro x2 x3 x4 I J h; exact False.elim h
  | succ n ih => intro x2 x3 x4 I J h; exact tb_X1_carry_23 hG ha1 ih h
set_option maxRecDepth 20000 in
theorem t_X1_carry {l : Launch} {D : va_G} {cy : Nat → ClassId} {sz : Nat} {G : sw_G} (hG : sw_lay G) {a1 : Nat} (ha1 : sw_mom G a1) {Q : Int32 → sw_I → sw_J → Prop}  {I : sw_I} {J : sw_J} (h : wp_X1_carry a1 I J Q) : AW l D cy sz RX1 cX1_carry 5 (some .int) false rm_X1_carry 0 0 (sw_qi G Q) 0 0 G I J 0 [(0, .ref (sz + 3)), (1, .ref (sz + a1))] [] := by
  unfold wp_X1_carry at h
  refine aw_aload_n 0 dX1_carry_0 rfl rfl ?_
  refine aw_aload_n 1 dX1_carry_1 rfl rfl ?_
  refine aw_aload_n 1 dX1_carry_2 rfl rfl ?_
  refine gf_X3_3 fl_X1_99 ha1.1 dX1_carry_3 ?_
  refine aw_callV wv_X1_nextStop (M_X1_nextStop hG ha1 h) ml_X1_102 rfl (by decide) (lk3 hG) rfl rfl (Nat.le_of_ble_eq_true rfl) ⟨rfl, rfl⟩ ⟨Nat.le_of_ble_eq_true rfl, Nat.le_of_ble_eq_true rfl⟩ ⟨Nat.le_refl _, Nat.le_refl _⟩ dX1_carry_6 (aw_ki fun r_1 I_2 J_3 h => ?_)
  refine aw_istore_n (lv' := [(2, .int r_1), (0, .ref (sz + 3)), (1, .ref (sz + a1))]) dX1_carry_9 rfl (by decide) rfl ?_
  refine aw_aload_n 1 dX1_carry_10 rfl rfl ?_
  refine aw_aload_n 2 dX1_carry_11 rfl rfl ?_
  refine gf_X3_3 fl_X1_99 ha1.1 dX1_carry_12 ?_
  refine aw_iload_n 0 dX1_carry_15 rfl rfl ?_
  refine aw_callV wv_X1_homeAt (M_X1_homeAt hG  h) ml_X1_106 rfl (by decide) (lk3 hG) rfl rfl (Nat.le_of_ble_eq_true rfl) ⟨rfl, rfl⟩ ⟨Nat.le_of_ble_eq_true rfl, Nat.le_of_ble_eq_true rfl⟩ ⟨Nat.le_refl _, Nat.le_refl _⟩ dX1_carry_16 (aw_ki fun r_4 I_5 J_6 h => ?_)
  refine aw_istore_n (lv' := [(3, .int r_4), (2, .int r_1), (0, .ref (sz + 3)), (1, .ref (sz + a1))]) dX1_carry_19 rfl (by decide) rfl ?_
  refine aw_iconst (v := 0) dX1_carry_20 (by decide) ?_
  refine aw_istore (lv' := [(4, .int 0), (3, .int r_4), (2, .int r_1), (0, .ref (sz + 3)), (1, .ref (sz + a1))]) dX1_carry_21 (by decide) rfl ?_
  refine aw_sub [3, 4, 2, 1, 0] rfl ?_
  obtain ⟨n_7, h⟩ := h
  exact tl_X1_carry_23 hG ha1  n_7 r_1 r_4 0 I_5 J_6 h
theorem M_X1_carry {l : Launch} {D : va_G} {cy : Nat → ClassId} {sz : Nat} {G : sw_G} (hG : sw_lay G) {a1 : Nat} (ha1 : sw_mom G a1) {Q : Int32 → sw_I → sw_J → Prop}  {I : sw_I} {J : sw_J} (h : wp_X1_carry a1 I J Q) : Met l yX1_carry (Cond.code yX1_carry cX1_carry 5 (some .int) :: sw_T) rm_X1_carry (sw_Pc D cy sz [.ref (sz + 3), .ref (sz + a1)] G I J) (sw_Q D cy sz (sw_qi G Q)) 0 0 (fun q => sz ≤ q) :=
  sw_met (by decide) (fun q => by cases q) (Nat.le_of_ble_eq_true rfl) rfl (t_X1_carry hG ha1 h)
-- X6_goOnFrom
abbrev rm_X6_goOnFrom : Room := { frames := 3, cells := 0, slots := 0, locals := 74 }
def wb_X6_goOnFrom_37  (K37 : Int32 → Int32 → Int32 → Int32 → Int32 → sw_I → sw_J → Prop) (Q : Int32 → sw_I → sw_J → Prop) (x2 : Int32) (x3 : Int32) (x4 : Int32) (x5 : Int32) (x6 : Int32) (I : sw_I) (J : sw_J) : Prop :=
  sw_if (x6 < x4) (sw_if ((I 120 6) = 0) (wp_X1_nextStop 121 x5 I J (fun r_3 I_4 J_5 => wp_X1_homeAt x5 r_3 I_4 J_5 (fun r_6 I_7 J_8 => wp_X6_keyAfter x5 r_6 r_3 I_7 J_8 (fun r_9 I_10 J_11 => wp_X6_add r_9 x2 x5 I_10 J_11 (fun r_12 I_13 J_14 => wp_X6_isWanted r_12 I_13 J_14 (fun r_15 I_16 J_17 => sw_if (r_15 = 0) (wp_X9_nextSet x5 x3 I_16 J_17 (fun r_19 I_20 J_21 => ∀ y_22 : Int32, y_22 = x6 + 1 → K37 x2 x3 x4 r_19 y_22 I_20 J_21)) (Q r_12 I_16 J_17))))))) (Q (-1 : Int32) I J)) (Q (-1 : Int32) I J)
def wl_X6_goOnFrom_37   (Q : Int32 → sw_I → sw_J → Prop) : Nat → Int32 → Int32 → Int32 → Int32 → Int32 → sw_I → sw_J → Prop
  | 0 => fun _ _ _ _ _ _ _ => False
  | n + 1 => fun x2 x3 x4 x5 x6 I J => wb_X6_goOnFrom_37  (wl_X6_goOnFrom_37   Q n) Q x2 x3 x4 x5 x6 I J
def wp_X6_goOnFrom (x2 : Int32) (I : sw_I) (J : sw_J) (Q : Int32 → sw_I → sw_J → Prop) : Prop :=
  vp_in x2 3000 ∧ wp_X6_bringUp (J 125 x2.toNatClampNeg) I J (fun I_3 J_4 => wp_X3_onFloor 121 (I_3 121 4) I_3 J_4 (fun r_5 I_6 J_7 => wp_X9_setsOf r_5 I_6 J_7 (fun r_8 I_9 J_10 => ∃ n_11 : Nat, wl_X6_goOnFrom_37   Q n_11 x2 r_5 r_8 0 0 I_9 J_10)))
set_option maxRecDepth 20000 in
theorem tb_X6_goOnFrom_37 {l : Launch} {D : va_G} {cy : Nat → ClassId} {sz : Nat} {G : sw_G} (hG : sw_lay G)   {Q : Int32 → sw_I → sw_J → Prop} {K37 : Int32 → Int32 → Int32 → Int32 → Int32 → sw_I → sw_J → Prop} (hK37 : ∀ (x2 : Int32) (x3 : Int32) (x4 : Int32) (x5 : Int32) (x6 : Int32) (I : sw_I) (J : sw_J), K37 x2 x3 x4 x5 x6 I J → AW l D cy sz RX6 cX6_goOnFrom 9 (some .int) false rm_X6_goOnFrom 0 0 (sw_qi G Q) 0 0 G I J 37 [(0, .ref (sz + 120)), (1, .ref (sz + 3)), (2, .int x2), (3, .int x3), (4, .int x4), (5, .int x5), (6, .int x6)] []) {x2 : Int32} {x3 : Int32} {x4 : Int32} {x5 : Int32} {x6 : Int32} {I : sw_I} {J : sw_J} (h : wb_X6_goOnFrom_37  K37 Q x2 x3 x4 x5 x6 I J) : AW l D cy sz RX6 cX6_goOnFrom 9 (some .int) false rm_X6_goOnFrom 0 0 (sw_qi G Q) 0 0 G I J 37 [(0, .ref (sz + 120)), (1, .ref (sz + 3)), (2, .int x2), (3, .int x3), (4, .int x4), (5, .int x5), (6, .int x6)] [] := by
  unfold wb_X6_goOnFrom_37 at h
  refine aw_iload 6 dX6_goOnFrom_37 rfl ?_
  refine aw_iload 4 dX6_goOnFrom_39 rfl ?_
  refine aw_jge 114 dX6_goOnFrom_41 (by decide) (fun c_1 => ?_) (fun c_1 => ?_)
  · have h := sw_if.f h c_1
    refine aw_iconst (v := (-1)) dX6_goOnFrom_114 (by decide) ?_
    exact aw_iret rfl dX6_goOnFrom_115 ⟨rfl, _, rfl, h⟩
  · have h := sw_if.t h c_1
    refine aw_aload_n 0 dX6_goOnFrom_44 rfl rfl ?_
    refine gf_X6_6 fl_X6_36 (lk120 hG) dX6_goOnFrom_45 ?_
    refine aw_zne 114 dX6_goOnFrom_48 (by decide) (fun c_2 => ?_) (fun c_2 => ?_)
    · have h := sw_if.f h c_2
      refine aw_iconst (v := (-1)) dX6_goOnFrom_114 (by decide) ?_
      exact aw_iret rfl dX6_goOnFrom_115 ⟨rfl, _, rfl, h⟩
    · have h := sw_if.t h c_2
      refine aw_aload_n 1 dX6_goOnFrom_51 rfl rfl ?_
      refine aw_aload_n 0 dX6_goOnFrom_52 rfl rfl ?_
      refine gf_X6_0 fl_X6_12 (lk120 hG) (lr120_0 hG) dX6_goOnFrom_53 ?_
      refine aw_iload 5 dX6_goOnFrom_56 rfl ?_
      refine aw_callV wv_X1_nextStop (M_X1_nextStop hG (lm121 hG) h) ml_X6_90 rfl (by decide) (lk3 hG) rfl rfl (Nat.le_of_ble_eq_true rfl) ⟨rfl, rfl⟩ ⟨Nat.le_of_ble_eq_true rfl, Nat.le_of_ble_eq_true rfl⟩ ⟨Nat.le_refl _, Nat.le_refl _⟩ dX6_goOnFrom_58 (aw_ki fun r_3 I_4 J_5 h => ?_)
      refine aw_istore (lv' := [(7, .int r_3), (0, .ref (sz + 120)), (1, .ref (sz + 3)), (2, .int x2), (3, .int x3), (4, .int x4), (5, .int x5), (6, .int x6)]) dX6_goOnFrom_61 (by decide) rfl ?_
      refine aw_aload_n 1 dX6_goOnFrom_63 rfl rfl ?_
      refine aw_aload_n 1 dX6_goOnFrom_64 rfl rfl ?_
      refine aw_iload 6 dX6_goOnFrom_65 rfl ?_
      refine aw_aload_n 2 dX6_goOnFrom_67 rfl rfl ?_
      refine aw_iload 6 dX6_goOnFrom_68 rfl ?_
      refine aw_iload 0 dX6_goOnFrom_70 rfl ?_
      refine aw_callV wv_X1_homeAt (M_X1_homeAt hG  h) ml_X6_96 rfl (by decide) (lk3 hG) rfl rfl (Nat.le_of_ble_eq_true rfl) ⟨rfl, rfl⟩ ⟨Nat.le_of_ble_eq_true rfl, Nat.le_of_ble_eq_true rfl⟩ ⟨Nat.le_refl _, Nat.le_refl _⟩ dX6_goOnFrom_72 (aw_ki fun r_6 I_7 J_8 h => ?_)
      refine aw_iload 0 dX6_goOnFrom_75 rfl ?_
      refine aw_callV wv_X6_keyAfter (M_X6_keyAfter hG  h) ml_X6_100 rfl (by decide) (lk120 hG) rfl rfl (Nat.le_of_ble_eq_true rfl) ⟨rfl, rfl⟩ ⟨Nat.le_of_ble_eq_true rfl, Nat.le_of_ble_eq_true rfl⟩ ⟨Nat.le_refl _, Nat.le_refl _⟩ dX6_goOnFrom_77 (aw_kl fun r_9 I_10 J_11 h => ?_)
      refine aw_iload_n 3 dX6_goOnFrom_80 rfl rfl ?_
      refine aw_iload 6 dX6_goOnFrom_81 rfl ?_
      refine aw_callV wv_X6_add (M_X6_add hG  h) ml_X6_64 rfl (by decide) (lk120 hG) rfl rfl (Nat.le_of_ble_eq_true rfl) ⟨rfl, rfl⟩ ⟨Nat.le_of_ble_eq_true rfl, Nat.le_of_ble_eq_true rfl⟩ ⟨Nat.le_refl _, Nat.le_refl _⟩ dX6_goOnFrom_83 (aw_ki fun r_12 I_13 J_14 h => ?_)
      refine aw_istore (lv' := [(8, .int r_12), (7, .int r_3), (0, .ref (sz + 120)), (1, .ref (sz + 3)), (2, .int x2), (3, .int x3), (4, .int x4), (5, .int x5), (6, .int x6)]) dX6_goOnFrom_86 (by decide) rfl ?_
      refine aw_aload_n 2 dX6_goOnFrom_88 rfl rfl ?_
      refine aw_iload 0 dX6_goOnFrom_89 rfl ?_
      refine aw_callV wv_X6_isWanted (M_X6_isWanted hG  h) ml_X6_68 rfl (by decide) (lk120 hG) rfl rfl (Nat.le_of_ble_eq_true rfl) ⟨rfl, rfl⟩ ⟨Nat.le_of_ble_eq_true rfl, Nat.le_of_ble_eq_true rfl⟩ ⟨Nat.le_refl _, Nat.le_refl _⟩ dX6_goOnFrom_91 (aw_ki fun r_15 I_16 J_17 h => ?_)
      refine aw_zeq 100 dX6_goOnFrom_94 (by decide) (fun c_18 => ?_) (fun c_18 => ?_)
      · have h := sw_if.t h c_18
        refine aw_iload 7 dX6_goOnFrom_100 rfl ?_
        refine aw_iload_n 5 dX6_goOnFrom_102 rfl rfl ?_
        refine aw_callSN wv_X9_nextSet (M_X9_nextSet trivial  h) ml_X6_104 rfl rfl (Nat.le_of_ble_eq_true rfl) ⟨rfl, rfl⟩ ⟨Nat.le_of_ble_eq_true rfl, Nat.le_of_ble_eq_true rfl⟩ ⟨Nat.le_refl _, Nat.le_refl _⟩ dX6_goOnFrom_103 (aw_ki fun r_19 I_20 J_21 h => ?_)
        refine aw_istore (lv' := [(5, .int r_19), (8, .int r_12), (7, .int r_3), (0, .ref (sz + 120)), (1, .ref (sz + 3)), (2, .int x2), (3, .int x3), (4, .int x4), (6, .int x6)]) dX6_goOnFrom_106 (by decide) rfl ?_
        obtain ⟨y_22, e_23⟩ : ∃ q : Int32, q = x6 + 1 := ⟨_, rfl⟩
        have h := h y_22 e_23
        refine aw_iinc (lv' := [(6, .int y_22), (5, .int r_19), (8, .int r_12), (7, .int r_3), (0, .ref (sz + 120)), (1, .ref (sz + 3)), (2, .int x2), (3, .int x3), (4, .int x4)]) 8 dX6_goOnFrom_108 rfl (by rw [e_23]; rfl) (by decide) rfl ?_
        refine aw_goto 37 dX6_goOnFrom_111 (by decide) ?_
        refine aw_sub [4, 5, 6, 7, 8, 1, 0] rfl ?_
        exact hK37 x2 x3 x4 r_19 y_22 I_20 J_21 h
      · have h := sw_if.f h c_18
        refine aw_iload 0 dX6_goOnFrom_97 rfl ?_
        exact aw_iret rfl dX6_goOnFrom_99 ⟨rfl, _, rfl, h⟩
set_option maxRecDepth 20000 in
theorem tl_X6_goOnFrom_37 {l : Launch} {D : va_G} {cy : Nat → ClassId} {sz : Nat} {G : sw_G} (hG : sw_lay G)   {Q : Int32 → sw_I → sw_J → Prop} : ∀ (n : Nat) (x2 : Int32) (x3 : Int32) (x4 : Int32) (x5 : Int32) (x6 : Int32) (I : sw_I) (J : sw_J), wl_X6_goOnFrom_37   Q n x2 x3 x4 x5 x6 I J → AW l D cy sz RX6 cX6_goOnFrom 9 (some .int) false rm_X6_goOnFrom 0 0 (sw_qi G Q) 0 0 G I J 37 [(0, .ref (sz + 120)), (1, .ref (sz + 3)), (2, .int x2), (3, .int x3), (4, .int x4), (5, .int x5), (6, .int x6)] [] := by
  intro n
  induction n with
  | zero => intro x2 x3 x4 x5 x6 I J h; exact False.elim h
  | succ n ih => intro x2 x3 x4 x5 x6 I J h; exact tb_X6_goOnFrom_37 hG  ih h
set_option maxRecDepth 20000 in
theorem t_X6_goOnFrom {l : Launch} {D : va_G} {cy : Nat → ClassId} {sz : Nat} {G : sw_G} (hG : sw_lay G)   {Q : Int32 → sw_I → sw_J → Prop} {x2 : Int32} {I : sw_I} {J : sw_J} (h : wp_X6_goOnFrom x2 I J Q) : AW l D cy sz RX6 cX6_goOnFrom 9 (some .int) false rm_X6_goOnFrom 0 0 (sw_qi G Q) 0 0 G I J 0 [(0, .ref (sz + 120)), (1, .ref (sz + 3)), (2, .int x2)] [] := by
  unfold wp_X6_goOnFrom at h
  refine aw_aload_n 0 dX6_goOnFrom_0 rfl rfl ?_
  refine aw_aload_n 0 dX6_goOnFrom_1 rfl rfl ?_
  refine gf_X6_1 fl_X6_18 (lk120 hG) (lr120_1 hG) dX6_goOnFrom_2 ?_
  refine aw_iload_n 2 dX6_goOnFrom_5 rfl rfl ?_
  obtain ⟨hi_1, h⟩ := h
  refine aw_lld dX6_goOnFrom_6 (lk125 hG) (ln125 hG) hi_1 ?_
  refine aw_callV wv_X6_bringUp (M_X6_bringUp hG  h) ml_X6_76 rfl (by decide) (lk120 hG) rfl rfl (Nat.le_of_ble_eq_true rfl) ⟨rfl, rfl⟩ ⟨Nat.le_of_ble_eq_true rfl, Nat.le_of_ble_eq_true rfl⟩ ⟨Nat.le_refl _, Nat.le_refl _⟩ dX6_goOnFrom_7 (aw_kv fun I_3 J_4 h => ?_)
  refine aw_aload_n 0 dX6_goOnFrom_10 rfl rfl ?_
  refine gf_X6_0 fl_X6_12 (lk120 hG) (lr120_0 hG) dX6_goOnFrom_11 ?_
  refine aw_aload_n 0 dX6_goOnFrom_14 rfl rfl ?_
  refine gf_X6_0 fl_X6_12 (lk120 hG) (lr120_0 hG) dX6_goOnFrom_15 ?_
  refine gf_X3_4 fl_X6_80 (lk121 hG) dX6_goOnFrom_18 ?_
  refine aw_callV wv_X3_onFloor (M_X3_onFloor trivial (lm121 hG) h) ml_X6_83 rfl (by decide) (lk121 hG) rfl rfl (Nat.le_of_ble_eq_true rfl) ⟨rfl, rfl⟩ ⟨Nat.le_of_ble_eq_true rfl, Nat.le_of_ble_eq_true rfl⟩ ⟨Nat.le_refl _, Nat.le_refl _⟩ dX6_goOnFrom_21 (aw_ki fun r_5 I_6 J_7 h => ?_)
  refine aw_istore_n (lv' := [(3, .int r_5), (0, .ref (sz + 120)), (1, .ref (sz + 3)), (2, .int x2)]) dX6_goOnFrom_24 rfl (by decide) rfl ?_
  refine aw_iload_n 0 dX6_goOnFrom_25 rfl rfl ?_
  refine aw_callSN wv_X9_setsOf (M_X9_setsOf trivial  h) ml_X6_87 rfl rfl (Nat.le_of_ble_eq_true rfl) ⟨rfl, rfl⟩ ⟨Nat.le_of_ble_eq_true rfl, Nat.le_of_ble_eq_true rfl⟩ ⟨Nat.le_refl _, Nat.le_refl _⟩ dX6_goOnFrom_26 (aw_ki fun r_8 I_9 J_10 h => ?_)
  refine aw_istore (lv' := [(4, .int r_8), (3, .int r_5), (0, .ref (sz + 120)), (1, .ref (sz + 3)), (2, .int x2)]) dX6_goOnFrom_29 (by decide) rfl ?_
  refine aw_iconst (v := 0) dX6_goOnFrom_31 (by decide) ?_
  refine aw_istore (lv' := [(5, .int 0), (4, .int r_8), (3, .int r_5), (0, .ref (sz + 120)), (1, .ref (sz + 3)), (2, .int x2)]) dX6_goOnFrom_32 (by decide) rfl ?_
  refine aw_iconst (v := 0) dX6_goOnFrom_34 (by decide) ?_
  refine aw_istore (lv' := [(6, .int 0), (5, .int 0), (4, .int r_8), (3, .int r_5), (0, .ref (sz + 120)), (1, .ref (sz + 3)), (2, .int x2)]) dX6_goOnFrom_35 (by decide) rfl ?_
  refine aw_sub [4, 5, 6, 3, 2, 1, 0] rfl ?_
  obtain ⟨n_11, h⟩ := h
  exact tl_X6_goOnFrom_37 hG   n_11 x2 r_5 r_8 0 0 I_9 J_10 h
theorem M_X6_goOnFrom {l : Launch} {D : va_G} {cy : Nat → ClassId} {sz : Nat} {G : sw_G} (hG : sw_lay G)   {Q : Int32 → sw_I → sw_J → Prop} {x2 : Int32} {I : sw_I} {J : sw_J} (h : wp_X6_goOnFrom x2 I J Q) : Met l yX6_goOnFrom (Cond.code yX6_goOnFrom cX6_goOnFrom 9 (some .int) :: sw_T) rm_X6_goOnFrom (sw_Pc D cy sz [.ref (sz + 120), .ref (sz + 3), .int x2] G I J) (sw_Q D cy sz (sw_qi G Q)) 0 0 (fun q => sz ≤ q) :=
  sw_met (by decide) (fun q => by cases q) (Nat.le_of_ble_eq_true rfl) rfl (t_X6_goOnFrom hG  h)
-- X7_notSo
abbrev rm_X7_notSo : Room := { frames := 3, cells := 0, slots := 0, locals := 74 }
def wB_X7_notSo_56  (K4 : Int32 → Int32 → sw_I → sw_J → Prop) (Q : Int32 → sw_I → sw_J → Prop) (x3 : Int32) (s0 : Int32) (s1 : Int32) (I : sw_I) (J : sw_J) : Prop :=
  ∀ y_1 : Int32, y_1 = s0 ||| s1 → ∀ y_3 : Int32, y_3 = x3 + 1 → K4 y_1 y_3 I J
def wb_X7_notSo_4  (K4 : Int32 → Int32 → sw_I → sw_J → Prop) (Q : Int32 → sw_I → sw_J → Prop) (x2 : Int32) (x3 : Int32) (I : sw_I) (J : sw_J) : Prop :=
  sw_if (x3 < (I 109 4)) (vp_in x3 8 ∧ ∀ I_3 : sw_I, I_3 = sw_up I 113 4 (I 110 x3.toNatClampNeg) → vp_in x3 8 ∧ wp_X1_nextStop 113 (I_3 111 x3.toNatClampNeg) I_3 J (fun r_6 I_7 J_8 => vp_in x3 8 ∧ sw_if (r_6 = (I_7 112 x3.toNatClampNeg)) (wB_X7_notSo_56  K4 Q x3 x2 0 I_7 J_8) (wB_X7_notSo_56  K4 Q x3 x2 ((1 : Int32) <<< (x3 &&& 31)) I_7 J_8))) (Q x2 I J)
def wl_X7_notSo_4   (Q : Int32 → sw_I → sw_J → Prop) : Nat → Int32 → Int32 → sw_I → sw_J → Prop
  | 0 => fun _ _ _ _ => False
  | n + 1 => fun x2 x3 I J => wb_X7_notSo_4  (wl_X7_notSo_4   Q n) Q x2 x3 I J
def wp_X7_notSo  (I : sw_I) (J : sw_J) (Q : Int32 → sw_I → sw_J → Prop) : Prop :=
  ∃ n_1 : Nat, wl_X7_notSo_4   Q n_1 0 0 I J
set_option maxRecDepth 20000 in
theorem t_X7_notSo_56 {l : Launch} {D : va_G} {cy : Nat → ClassId} {sz : Nat} {G : sw_G} (hG : sw_lay G)   {Q : Int32 → sw_I → sw_J → Prop} {K4 : Int32 → Int32 → sw_I → sw_J → Prop} (hK4 : ∀ (x2 : Int32) (x3 : Int32) (I : sw_I) (J : sw_J), K4 x2 x3 I J → AW l D cy sz RX7 cX7_notSo 4 (some .int) false rm_X7_notSo 0 0 (sw_qi G Q) 0 0 G I J 4 [(0, .ref (sz + 109)), (1, .ref (sz + 3)), (2, .int x2), (3, .int x3)] []) {x3 : Int32} {s0 : Int32} {s1 : Int32} {I : sw_I} {J : sw_J} (h : wB_X7_notSo_56  K4 Q x3 s0 s1 I J) : AW l D cy sz RX7 cX7_notSo 4 (some .int) false rm_X7_notSo 0 0 (sw_qi G Q) 0 0 G I J 56 [(0, .ref (sz + 109)), (1, .ref (sz + 3)), (3, .int x3)] [.int s1, .int s0] := by
  unfold wB_X7_notSo_56 at h
  refine aw_ior dX7_notSo_56 ?_
  refine aw_topi (fun y_1 e_2 => ?_)
  have h := h y_1 e_2
  refine aw_istore_n (lv' := [(2, .int y_1), (0, .ref (sz + 109)), (1, .ref (sz + 3)), (3, .int x3)]) dX7_notSo_57 rfl (by decide) rfl ?_
  obtain ⟨y_3, e_4⟩ : ∃ q : Int32, q = x3 + 1 := ⟨_, rfl⟩
  have h := h y_3 e_4
  refine aw_iinc (lv' := [(3, .int y_3), (2, .int y_1), (0, .ref (sz + 109)), (1, .ref (sz + 3))]) 3 dX7_notSo_58 rfl (by rw [e_4]; rfl) (by decide) rfl ?_
  refine aw_goto 4 dX7_notSo_61 (by decide) ?_
  refine aw_sub [2, 3, 1, 0] rfl ?_
  exact hK4 y_1 y_3 I J h
set_option maxRecDepth 20000 in
theorem tb_X7_notSo_4 {l : Launch} {D : va_G} {cy : Nat → ClassId} {sz : Nat} {G : sw_G} (hG : sw_lay G)   {Q : Int32 → sw_I → sw_J → Prop} {K4 : Int32 → Int32 → sw_I → sw_J → Prop} (hK4 : ∀ (x2 : Int32) (x3 : Int32) (I : sw_I) (J : sw_J), K4 x2 x3 I J → AW l D cy sz RX7 cX7_notSo 4 (some .int) false rm_X7_notSo 0 0 (sw_qi G Q) 0 0 G I J 4 [(0, .ref (sz + 109)), (1, .ref (sz + 3)), (2, .int x2), (3, .int x3)] []) {x2 : Int32} {x3 : Int32} {I : sw_I} {J : sw_J} (h : wb_X7_notSo_4  K4 Q x2 x3 I J) : AW l D cy sz RX7 cX7_notSo 4 (some .int) false rm_X7_notSo 0 0 (sw_qi G Q) 0 0 G I J 4 [(0, .ref (sz + 109)), (1, .ref (sz + 3)), (2, .int x2), (3, .int x3)] [] := by
  unfold wb_X7_notSo_4 at h
  refine aw_iload_n 3 dX7_notSo_4 rfl rfl ?_
  refine aw_aload_n 0 dX7_notSo_5 rfl rfl ?_
  refine gf_X7_4 fl_X7_28 (lk109 hG) dX7_notSo_6 ?_
  refine aw_jge 64 dX7_notSo_9 (by decide) (fun c_1 => ?_) (fun c_1 => ?_)
  · have h := sw_if.f h c_1
    refine aw_iload_n 2 dX7_notSo_64 rfl rfl ?_
    exact aw_iret rfl dX7_notSo_65 ⟨rfl, _, rfl, h⟩
  · have h := sw_if.t h c_1
    refine aw_aload_n 0 dX7_notSo_12 rfl rfl ?_
    refine gf_X7_3 fl_X7_24 (lk109 hG) (lr109_3 hG) dX7_notSo_13 ?_
    refine aw_aload_n 0 dX7_notSo_16 rfl rfl ?_
    refine gf_X7_0 fl_X7_9 (lk109 hG) (lr109_0 hG) dX7_notSo_17 ?_
    refine aw_iload_n 3 dX7_notSo_20 rfl rfl ?_
    obtain ⟨hi_2, h⟩ := h
    refine aw_ild dX7_notSo_21 (lk110 hG) (ln110 hG) hi_2 ?_
    refine pf_X3_4 fl_X7_41 (lk113 hG) dX7_notSo_22 (aw_nameI fun I_3 e_4 => ?_)
    have h := h I_3 e_4
    refine aw_iload_n 2 dX7_notSo_25 rfl rfl ?_
    refine aw_aload_n 1 dX7_notSo_26 rfl rfl ?_
    refine aw_aload_n 0 dX7_notSo_27 rfl rfl ?_
    refine gf_X7_3 fl_X7_24 (lk109 hG) (lr109_3 hG) dX7_notSo_28 ?_
    refine aw_aload_n 0 dX7_notSo_31 rfl rfl ?_
    refine gf_X7_1 fl_X7_15 (lk109 hG) (lr109_1 hG) dX7_notSo_32 ?_
    refine aw_iload_n 3 dX7_notSo_35 rfl rfl ?_
    obtain ⟨hi_5, h⟩ := h
    refine aw_ild dX7_notSo_36 (lk111 hG) (ln111 hG) hi_5 ?_
    refine aw_callV wv_X1_nextStop (M_X1_nextStop hG (lm113 hG) h) ml_X7_44 rfl (by decide) (lk3 hG) rfl rfl (Nat.le_of_ble_eq_true rfl) ⟨rfl, rfl⟩ ⟨Nat.le_of_ble_eq_true rfl, Nat.le_of_ble_eq_true rfl⟩ ⟨Nat.le_refl _, Nat.le_refl _⟩ dX7_notSo_37 (aw_ki fun r_6 I_7 J_8 h => ?_)
    refine aw_aload_n 0 dX7_notSo_40 rfl rfl ?_
    refine gf_X7_2 fl_X7_18 (lk109 hG) (lr109_2 hG) dX7_notSo_41 ?_
    refine aw_iload_n 3 dX7_notSo_44 rfl rfl ?_
    obtain ⟨hi_9, h⟩ := h
    refine aw_ild dX7_notSo_45 (lk112 hG) (ln112 hG) hi_9 ?_
    refine aw_jne 53 dX7_notSo_46 (by decide) (fun c_10 => ?_) (fun c_10 => ?_)
    · have h := sw_if.f h c_10
      refine aw_iconst (v := 1) dX7_notSo_53 (by decide) ?_
      refine aw_iload_n 3 dX7_notSo_54 rfl rfl ?_
      refine aw_ishl dX7_notSo_55 ?_
      refine aw_sub [0, 1, 3] rfl ?_
      exact t_X7_notSo_56 hG  hK4 h
    · have h := sw_if.t h c_10
      refine aw_iconst (v := 0) dX7_notSo_49 (by decide) ?_
      refine aw_goto 56 dX7_notSo_50 (by decide) ?_
      refine aw_sub [0, 1, 3] rfl ?_
      exact t_X7_notSo_56 hG  hK4 h
set_option maxRecDepth 20000 in
theorem tl_X7_notSo_4 {l : Launch} {D : va_G} {cy : Nat → ClassId} {sz : Nat} {G : sw_G} (hG : sw_lay G)   {Q : Int32 → sw_I → sw_J → Prop} : ∀ (n : Nat) (x2 : Int32) (x3 : Int32) (I : sw_I) (J : sw_J), wl_X7_notSo_4   Q n x2 x3 I J → AW l D cy sz RX7 cX7_notSo 4 (some .int) false rm_X7_notSo 0 0 (sw_qi G Q) 0 0 G I J 4 [(0, .ref (sz + 109)), (1, .ref (sz + 3)), (2, .int x2), (3, .int x3)] [] := by
  intro n
  induction n with
  | zero => intro x2 x3 I J h; exact False.elim h
  | succ n ih => intro x2 x3 I J h; exact tb_X7_notSo_4 hG  ih h
set_option maxRecDepth 20000 in
theorem t_X7_notSo {l : Launch} {D : va_G} {cy : Nat → ClassId} {sz : Nat} {G : sw_G} (hG : sw_lay G)   {Q : Int32 → sw_I → sw_J → Prop}  {I : sw_I} {J : sw_J} (h : wp_X7_notSo  I J Q) : AW l D cy sz RX7 cX7_notSo 4 (some .int) false rm_X7_notSo 0 0 (sw_qi G Q) 0 0 G I J 0 [(0, .ref (sz + 109)), (1, .ref (sz + 3))] [] := by
  unfold wp_X7_notSo at h
  refine aw_iconst (v := 0) dX7_notSo_0 (by decide) ?_
  refine aw_istore_n (lv' := [(2, .int 0), (0, .ref (sz + 109)), (1, .ref (sz + 3))]) dX7_notSo_1 rfl (by decide) rfl ?_
  refine aw_iconst (v := 0) dX7_notSo_2 (by decide) ?_
  refine aw_istore_n (lv' := [(3, .int 0), (2, .int 0), (0, .ref (sz + 109)), (1, .ref (sz + 3))]) dX7_notSo_3 rfl (by decide) rfl ?_
  refine aw_sub [2, 3, 1, 0] rfl ?_
  obtain ⟨n_1, h⟩ := h
  exact tl_X7_notSo_4 hG   n_1 0 0 I J h
theorem M_X7_notSo {l : Launch} {D : va_G} {cy : Nat → ClassId} {sz : Nat} {G : sw_G} (hG : sw_lay G)   {Q : Int32 → sw_I → sw_J → Prop}  {I : sw_I} {J : sw_J} (h : wp_X7_notSo  I J Q) : Met l yX7_notSo (Cond.code yX7_notSo cX7_notSo 4 (some .int) :: sw_T) rm_X7_notSo (sw_Pc D cy sz [.ref (sz + 109), .ref (sz + 3)] G I J) (sw_Q D cy sz (sw_qi G Q)) 0 0 (fun q => sz ≤ q) :=
  sw_met (by decide) (fun q => by cases q) (Nat.le_of_ble_eq_true rfl) rfl (t_X7_notSo hG  h)
