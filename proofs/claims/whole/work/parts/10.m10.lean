-- X9_comeHome
abbrev rm_X9_comeHome : Room := { frames := 4, cells := 0, slots := 0, locals := 98 }
def wb_X9_comeHome_24  (K24 : Int32 → Int32 → Int32 → sw_I → sw_J → Prop) (Q : Int32 → sw_I → sw_J → Prop) (x2 : Int32) (x3 : Int32) (x4 : Int32) (I : sw_I) (J : sw_J) : Prop :=
  sw_if (x4 < x2) (wp_X1_carry 17 I J (fun r_2 I_3 J_4 => ∀ y_5 : Int32, y_5 = x3 ||| r_2 → ∀ y_7 : Int32, y_7 = x4 + 1 → K24 x2 y_5 y_7 I_3 J_4)) (Q x3 I J)
def wl_X9_comeHome_24   (Q : Int32 → sw_I → sw_J → Prop) : Nat → Int32 → Int32 → Int32 → sw_I → sw_J → Prop
  | 0 => fun _ _ _ _ _ => False
  | n + 1 => fun x2 x3 x4 I J => wb_X9_comeHome_24  (wl_X9_comeHome_24   Q n) Q x2 x3 x4 I J
def wp_X9_comeHome (x1 : Int32) (x2 : Int32) (I : sw_I) (J : sw_J) (Q : Int32 → sw_I → sw_J → Prop) : Prop :=
  wp_X3_copy 17 13 I J (fun I_2 J_3 => ∀ I_4 : sw_I, I_4 = sw_up I_2 17 3 x1 → ∃ n_6 : Nat, wl_X9_comeHome_24   Q n_6 x2 0 0 I_4 J_3)
set_option maxRecDepth 20000 in
theorem tb_X9_comeHome_24 {l : Launch} {D : va_G} {cy : Nat → ClassId} {sz : Nat} {G : sw_G} (hG : sw_lay G)   {Q : Int32 → sw_I → sw_J → Prop} {K24 : Int32 → Int32 → Int32 → sw_I → sw_J → Prop} (hK24 : ∀ (x2 : Int32) (x3 : Int32) (x4 : Int32) (I : sw_I) (J : sw_J), K24 x2 x3 x4 I J → AW l D cy sz RX9 cX9_comeHome 5 (some .int) false rm_X9_comeHome 0 0 (sw_qi G Q) 0 0 G I J 24 [(0, .ref (sz + 0)), (2, .int x2), (3, .int x3), (4, .int x4)] []) {x2 : Int32} {x3 : Int32} {x4 : Int32} {I : sw_I} {J : sw_J} (h : wb_X9_comeHome_24  K24 Q x2 x3 x4 I J) : AW l D cy sz RX9 cX9_comeHome 5 (some .int) false rm_X9_comeHome 0 0 (sw_qi G Q) 0 0 G I J 24 [(0, .ref (sz + 0)), (2, .int x2), (3, .int x3), (4, .int x4)] [] := by
  unfold wb_X9_comeHome_24 at h
  refine aw_iload 3 dX9_comeHome_24 rfl ?_
  refine aw_iload_n 1 dX9_comeHome_26 rfl rfl ?_
  refine aw_jge 50 dX9_comeHome_27 (by decide) (fun c_1 => ?_) (fun c_1 => ?_)
  · have h := sw_if.f h c_1
    refine aw_iload_n 2 dX9_comeHome_50 rfl rfl ?_
    exact aw_iret rfl dX9_comeHome_51 ⟨rfl, _, rfl, h⟩
  · have h := sw_if.t h c_1
    refine aw_iload_n 2 dX9_comeHome_30 rfl rfl ?_
    refine aw_aload_n 0 dX9_comeHome_31 rfl rfl ?_
    refine gf_X9_1 fl_X9_19 (lk0 hG) (lr0_1 hG) dX9_comeHome_32 ?_
    refine aw_aload_n 0 dX9_comeHome_35 rfl rfl ?_
    refine gf_X9_3 fl_X9_30 (lk0 hG) (lr0_3 hG) dX9_comeHome_36 ?_
    refine aw_callV wv_X1_carry (M_X1_carry hG (lm17 hG) h) ml_X9_188 rfl (by decide) (lk3 hG) rfl rfl (Nat.le_of_ble_eq_true rfl) ⟨rfl, rfl⟩ ⟨Nat.le_of_ble_eq_true rfl, Nat.le_of_ble_eq_true rfl⟩ ⟨Nat.le_refl _, Nat.le_refl _⟩ dX9_comeHome_39 (aw_ki fun r_2 I_3 J_4 h => ?_)
    refine aw_ior dX9_comeHome_42 ?_
    refine aw_topi (fun y_5 e_6 => ?_)
    have h := h y_5 e_6
    refine aw_istore_n (lv' := [(3, .int y_5), (0, .ref (sz + 0)), (2, .int x2), (4, .int x4)]) dX9_comeHome_43 rfl (by decide) rfl ?_
    obtain ⟨y_7, e_8⟩ : ∃ q : Int32, q = x4 + 1 := ⟨_, rfl⟩
    have h := h y_7 e_8
    refine aw_iinc (lv' := [(4, .int y_7), (3, .int y_5), (0, .ref (sz + 0)), (2, .int x2)]) 3 dX9_comeHome_44 rfl (by rw [e_8]; rfl) (by decide) rfl ?_
    refine aw_goto 24 dX9_comeHome_47 (by decide) ?_
    refine aw_sub [2, 3, 1, 0] rfl ?_
    exact hK24 x2 y_5 y_7 I_3 J_4 h
set_option maxRecDepth 20000 in
theorem tl_X9_comeHome_24 {l : Launch} {D : va_G} {cy : Nat → ClassId} {sz : Nat} {G : sw_G} (hG : sw_lay G)   {Q : Int32 → sw_I → sw_J → Prop} : ∀ (n : Nat) (x2 : Int32) (x3 : Int32) (x4 : Int32) (I : sw_I) (J : sw_J), wl_X9_comeHome_24   Q n x2 x3 x4 I J → AW l D cy sz RX9 cX9_comeHome 5 (some .int) false rm_X9_comeHome 0 0 (sw_qi G Q) 0 0 G I J 24 [(0, .ref (sz + 0)), (2, .int x2), (3, .int x3), (4, .int x4)] [] := by
  intro n
  induction n with
  | zero => intro x2 x3 x4 I J h; exact False.elim h
  | succ n ih => intro x2 x3 x4 I J h; exact tb_X9_comeHome_24 hG  ih h
set_option maxRecDepth 20000 in
theorem t_X9_comeHome {l : Launch} {D : va_G} {cy : Nat → ClassId} {sz : Nat} {G : sw_G} (hG : sw_lay G)   {Q : Int32 → sw_I → sw_J → Prop} {x1 : Int32} {x2 : Int32} {I : sw_I} {J : sw_J} (h : wp_X9_comeHome x1 x2 I J Q) : AW l D cy sz RX9 cX9_comeHome 5 (some .int) false rm_X9_comeHome 0 0 (sw_qi G Q) 0 0 G I J 0 [(0, .ref (sz + 0)), (1, .int x1), (2, .int x2)] [] := by
  unfold wp_X9_comeHome at h
  refine aw_aload_n 0 dX9_comeHome_0 rfl rfl ?_
  refine gf_X9_3 fl_X9_30 (lk0 hG) (lr0_3 hG) dX9_comeHome_1 ?_
  refine aw_aload_n 0 dX9_comeHome_4 rfl rfl ?_
  refine gf_X9_2 fl_X9_26 (lk0 hG) (lr0_2 hG) dX9_comeHome_5 ?_
  refine aw_callV wv_X3_copy (M_X3_copy hG (lm17 hG) (lm13 hG) h) ml_X9_259 rfl (by decide) (lk17 hG) rfl rfl (Nat.le_of_ble_eq_true rfl) ⟨rfl, rfl⟩ ⟨Nat.le_of_ble_eq_true rfl, Nat.le_of_ble_eq_true rfl⟩ ⟨Nat.le_refl _, Nat.le_refl _⟩ dX9_comeHome_8 (aw_kv fun I_2 J_3 h => ?_)
  refine aw_aload_n 0 dX9_comeHome_11 rfl rfl ?_
  refine gf_X9_3 fl_X9_30 (lk0 hG) (lr0_3 hG) dX9_comeHome_12 ?_
  refine aw_iload_n 1 dX9_comeHome_15 rfl rfl ?_
  refine pf_X3_3 fl_X9_142 (lk17 hG) dX9_comeHome_16 (aw_nameI fun I_4 e_5 => ?_)
  have h := h I_4 e_5
  refine aw_iconst (v := 0) dX9_comeHome_19 (by decide) ?_
  refine aw_istore_n (lv' := [(3, .int 0), (0, .ref (sz + 0)), (1, .int x1), (2, .int x2)]) dX9_comeHome_20 rfl (by decide) rfl ?_
  refine aw_iconst (v := 0) dX9_comeHome_21 (by decide) ?_
  refine aw_istore (lv' := [(4, .int 0), (3, .int 0), (0, .ref (sz + 0)), (1, .int x1), (2, .int x2)]) dX9_comeHome_22 (by decide) rfl ?_
  refine aw_sub [2, 4, 1, 0] rfl ?_
  obtain ⟨n_6, h⟩ := h
  exact tl_X9_comeHome_24 hG   n_6 x2 0 0 I_4 J_3 h
theorem M_X9_comeHome {l : Launch} {D : va_G} {cy : Nat → ClassId} {sz : Nat} {G : sw_G} (hG : sw_lay G)   {Q : Int32 → sw_I → sw_J → Prop} {x1 : Int32} {x2 : Int32} {I : sw_I} {J : sw_J} (h : wp_X9_comeHome x1 x2 I J Q) : Met l yX9_comeHome (Cond.code yX9_comeHome cX9_comeHome 5 (some .int) :: sw_T) rm_X9_comeHome (sw_Pc D cy sz [.ref (sz + 0), .int x1, .int x2] G I J) (sw_Q D cy sz (sw_qi G Q)) 0 0 (fun q => sz ≤ q) :=
  sw_met (by decide) (fun q => by cases q) (Nat.le_of_ble_eq_true rfl) rfl (t_X9_comeHome hG  h)
-- X9_explainedBy
abbrev rm_X9_explainedBy : Room := { frames := 5, cells := 0, slots := 0, locals := 124 }
def wB_X9_explainedBy_120  (K20 : Int32 → Int32 → Int32 → Int32 → Int32 → sw_I → sw_J → Prop) (Q : Int32 → sw_I → sw_J → Prop) (x1 : Int32) (x2 : Int32) (x3 : Int32) (x4 : Int32) (x5 : Int32) (I : sw_I) (J : sw_J) : Prop :=
  ∀ y_1 : Int32, y_1 = x5 + 1 → K20 x1 x2 x3 x4 y_1 I J
def wB_X9_explainedBy_104  (K20 : Int32 → Int32 → Int32 → Int32 → Int32 → sw_I → sw_J → Prop) (Q : Int32 → sw_I → sw_J → Prop) (x1 : Int32) (x2 : Int32) (x3 : Int32) (x4 : Int32) (x5 : Int32) (x6 : Int32) (x7 : Int32) (I : sw_I) (J : sw_J) : Prop :=
  sw_if (x7 = 0) (wB_X9_explainedBy_120  K20 Q x1 x2 x3 x4 x5 I J) (wp_X9_tellLiars x1 x5 x6 I J (fun I_3 J_4 => Q 1 I_3 J_4))
def wB_X9_explainedBy_102  (K20 : Int32 → Int32 → Int32 → Int32 → Int32 → sw_I → sw_J → Prop) (Q : Int32 → sw_I → sw_J → Prop) (x1 : Int32) (x2 : Int32) (x3 : Int32) (x4 : Int32) (x5 : Int32) (x6 : Int32) (s0 : Int32) (I : sw_I) (J : sw_J) : Prop :=
  wB_X9_explainedBy_104  K20 Q x1 x2 x3 x4 x5 x6 s0 I J
def wb_X9_explainedBy_20  (K20 : Int32 → Int32 → Int32 → Int32 → Int32 → sw_I → sw_J → Prop) (Q : Int32 → sw_I → sw_J → Prop) (x1 : Int32) (x2 : Int32) (x3 : Int32) (x4 : Int32) (x5 : Int32) (I : sw_I) (J : sw_J) : Prop :=
  sw_if (x5 < (I 3 0)) (vp_in x2 10 ∧ sw_if (x5 = (I 15 x2.toNatClampNeg)) (wB_X9_explainedBy_120  K20 Q x1 x2 x3 x4 x5 I J) (sw_if (x3 = 0) (wp_X7_allSoIf x2 x5 I J (fun r_9 I_10 J_11 => wB_X9_explainedBy_104  K20 Q x1 x2 x3 x4 x5 (-1) r_9 I_10 J_11)) (wp_X7_otherWishSo x2 x5 x4 I J (fun r_5 I_6 J_7 => sw_if (r_5 = (-2 : Int32)) (wB_X9_explainedBy_102  K20 Q x1 x2 x3 x4 x5 r_5 0 I_6 J_7) (wB_X9_explainedBy_102  K20 Q x1 x2 x3 x4 x5 r_5 1 I_6 J_7))))) (Q 0 I J)
def wl_X9_explainedBy_20   (Q : Int32 → sw_I → sw_J → Prop) : Nat → Int32 → Int32 → Int32 → Int32 → Int32 → sw_I → sw_J → Prop
  | 0 => fun _ _ _ _ _ _ _ => False
  | n + 1 => fun x1 x2 x3 x4 x5 I J => wb_X9_explainedBy_20  (wl_X9_explainedBy_20   Q n) Q x1 x2 x3 x4 x5 I J
def wp_X9_explainedBy (x1 : Int32) (I : sw_I) (J : sw_J) (Q : Int32 → sw_I → sw_J → Prop) : Prop :=
  wp_J6_numberOfTrailingZeros_0f7a4 x1 I J (fun r_1 I_2 J_3 => ∀ y_4 : Int32, y_4 = x1 &&& (x1 - (1 : Int32)) → wp_J6_numberOfTrailingZeros_0f7a4 y_4 I_2 J_3 (fun r_6 I_7 J_8 => ∃ n_9 : Nat, wl_X9_explainedBy_20   Q n_9 x1 r_1 y_4 r_6 (-1) I_7 J_8))
set_option maxRecDepth 20000 in
theorem t_X9_explainedBy_120 {l : Launch} {D : va_G} {cy : Nat → ClassId} {sz : Nat} {G : sw_G} (hG : sw_lay G)   {Q : Int32 → sw_I → sw_J → Prop} {K20 : Int32 → Int32 → Int32 → Int32 → Int32 → sw_I → sw_J → Prop} (hK20 : ∀ (x1 : Int32) (x2 : Int32) (x3 : Int32) (x4 : Int32) (x5 : Int32) (I : sw_I) (J : sw_J), K20 x1 x2 x3 x4 x5 I J → AW l D cy sz RX9 cX9_explainedBy 8 (some .boolean) false rm_X9_explainedBy 0 0 (sw_qi G Q) 0 0 G I J 20 [(0, .ref (sz + 0)), (1, .int x1), (2, .int x2), (3, .int x3), (4, .int x4), (5, .int x5)] []) {x1 : Int32} {x2 : Int32} {x3 : Int32} {x4 : Int32} {x5 : Int32} {I : sw_I} {J : sw_J} (h : wB_X9_explainedBy_120  K20 Q x1 x2 x3 x4 x5 I J) : AW l D cy sz RX9 cX9_explainedBy 8 (some .boolean) false rm_X9_explainedBy 0 0 (sw_qi G Q) 0 0 G I J 120 [(0, .ref (sz + 0)), (1, .int x1), (2, .int x2), (3, .int x3), (4, .int x4), (5, .int x5)] [] := by
  unfold wB_X9_explainedBy_120 at h
  obtain ⟨y_1, e_2⟩ : ∃ q : Int32, q = x5 + 1 := ⟨_, rfl⟩
  have h := h y_1 e_2
  refine aw_iinc (lv' := [(5, .int y_1), (0, .ref (sz + 0)), (1, .int x1), (2, .int x2), (3, .int x3), (4, .int x4)]) 5 dX9_explainedBy_120 rfl (by rw [e_2]; rfl) (by decide) rfl ?_
  refine aw_goto 20 dX9_explainedBy_123 (by decide) ?_
  refine aw_sub [1, 2, 3, 4, 5, 0] rfl ?_
  exact hK20 x1 x2 x3 x4 y_1 I J h
set_option maxRecDepth 20000 in
theorem t_X9_explainedBy_104 {l : Launch} {D : va_G} {cy : Nat → ClassId} {sz : Nat} {G : sw_G} (hG : sw_lay G)   {Q : Int32 → sw_I → sw_J → Prop} {K20 : Int32 → Int32 → Int32 → Int32 → Int32 → sw_I → sw_J → Prop} (hK20 : ∀ (x1 : Int32) (x2 : Int32) (x3 : Int32) (x4 : Int32) (x5 : Int32) (I : sw_I) (J : sw_J), K20 x1 x2 x3 x4 x5 I J → AW l D cy sz RX9 cX9_explainedBy 8 (some .boolean) false rm_X9_explainedBy 0 0 (sw_qi G Q) 0 0 G I J 20 [(0, .ref (sz + 0)), (1, .int x1), (2, .int x2), (3, .int x3), (4, .int x4), (5, .int x5)] []) {x1 : Int32} {x2 : Int32} {x3 : Int32} {x4 : Int32} {x5 : Int32} {x6 : Int32} {x7 : Int32} {I : sw_I} {J : sw_J} (h : wB_X9_explainedBy_104  K20 Q x1 x2 x3 x4 x5 x6 x7 I J) : AW l D cy sz RX9 cX9_explainedBy 8 (some .boolean) false rm_X9_explainedBy 0 0 (sw_qi G Q) 0 0 G I J 104 [(0, .ref (sz + 0)), (1, .int x1), (2, .int x2), (3, .int x3), (4, .int x4), (5, .int x5), (6, .int x6), (7, .int x7)] [] := by
  unfold wB_X9_explainedBy_104 at h
  refine aw_iload 7 dX9_explainedBy_104 rfl ?_
  refine aw_zeq 120 dX9_explainedBy_106 (by decide) (fun c_1 => ?_) (fun c_1 => ?_)
  · have h := sw_if.t h c_1
    refine aw_sub [0, 1, 2, 3, 4, 5] rfl ?_
    exact t_X9_explainedBy_120 hG  hK20 h
  · have h := sw_if.f h c_1
    refine aw_aload_n 0 dX9_explainedBy_109 rfl rfl ?_
    refine aw_iload_n 1 dX9_explainedBy_110 rfl rfl ?_
    refine aw_iload 5 dX9_explainedBy_111 rfl ?_
    refine aw_iload 6 dX9_explainedBy_113 rfl ?_
    refine aw_callV wv_X9_tellLiars (M_X9_tellLiars hG  h) ml_X9_382 rfl (by decide) (lk0 hG) rfl rfl (Nat.le_of_ble_eq_true rfl) ⟨rfl, rfl⟩ ⟨Nat.le_of_ble_eq_true rfl, Nat.le_of_ble_eq_true rfl⟩ ⟨Nat.le_refl _, Nat.le_refl _⟩ dX9_explainedBy_115 (aw_kv fun I_3 J_4 h => ?_)
    refine aw_iconst (v := 1) dX9_explainedBy_118 (by decide) ?_
    exact aw_zret rfl rfl dX9_explainedBy_119 ⟨rfl, _, rfl, h⟩
set_option maxRecDepth 20000 in
theorem t_X9_explainedBy_102 {l : Launch} {D : va_G} {cy : Nat → ClassId} {sz : Nat} {G : sw_G} (hG : sw_lay G)   {Q : Int32 → sw_I → sw_J → Prop} {K20 : Int32 → Int32 → Int32 → Int32 → Int32 → sw_I → sw_J → Prop} (hK20 : ∀ (x1 : Int32) (x2 : Int32) (x3 : Int32) (x4 : Int32) (x5 : Int32) (I : sw_I) (J : sw_J), K20 x1 x2 x3 x4 x5 I J → AW l D cy sz RX9 cX9_explainedBy 8 (some .boolean) false rm_X9_explainedBy 0 0 (sw_qi G Q) 0 0 G I J 20 [(0, .ref (sz + 0)), (1, .int x1), (2, .int x2), (3, .int x3), (4, .int x4), (5, .int x5)] []) {x1 : Int32} {x2 : Int32} {x3 : Int32} {x4 : Int32} {x5 : Int32} {x6 : Int32} {s0 : Int32} {I : sw_I} {J : sw_J} (h : wB_X9_explainedBy_102  K20 Q x1 x2 x3 x4 x5 x6 s0 I J) : AW l D cy sz RX9 cX9_explainedBy 8 (some .boolean) false rm_X9_explainedBy 0 0 (sw_qi G Q) 0 0 G I J 102 [(0, .ref (sz + 0)), (1, .int x1), (2, .int x2), (3, .int x3), (4, .int x4), (5, .int x5), (6, .int x6)] [.int s0] := by
  unfold wB_X9_explainedBy_102 at h
  refine aw_istore (lv' := [(7, .int s0), (0, .ref (sz + 0)), (1, .int x1), (2, .int x2), (3, .int x3), (4, .int x4), (5, .int x5), (6, .int x6)]) dX9_explainedBy_102 (by decide) rfl ?_
  refine aw_sub [1, 2, 3, 4, 5, 6, 7, 0] rfl ?_
  exact t_X9_explainedBy_104 hG  hK20 h
set_option maxRecDepth 20000 in
theorem tb_X9_explainedBy_20 {l : Launch} {D : va_G} {cy : Nat → ClassId} {sz : Nat} {G : sw_G} (hG : sw_lay G)   {Q : Int32 → sw_I → sw_J → Prop} {K20 : Int32 → Int32 → Int32 → Int32 → Int32 → sw_I → sw_J → Prop} (hK20 : ∀ (x1 : Int32) (x2 : Int32) (x3 : Int32) (x4 : Int32) (x5 : Int32) (I : sw_I) (J : sw_J), K20 x1 x2 x3 x4 x5 I J → AW l D cy sz RX9 cX9_explainedBy 8 (some .boolean) false rm_X9_explainedBy 0 0 (sw_qi G Q) 0 0 G I J 20 [(0, .ref (sz + 0)), (1, .int x1), (2, .int x2), (3, .int x3), (4, .int x4), (5, .int x5)] []) {x1 : Int32} {x2 : Int32} {x3 : Int32} {x4 : Int32} {x5 : Int32} {I : sw_I} {J : sw_J} (h : wb_X9_explainedBy_20  K20 Q x1 x2 x3 x4 x5 I J) : AW l D cy sz RX9 cX9_explainedBy 8 (some .boolean) false rm_X9_explainedBy 0 0 (sw_qi G Q) 0 0 G I J 20 [(0, .ref (sz + 0)), (1, .int x1), (2, .int x2), (3, .int x3), (4, .int x4), (5, .int x5)] [] := by
  unfold wb_X9_explainedBy_20 at h
  refine aw_iload 5 dX9_explainedBy_20 rfl ?_
  refine aw_aload_n 0 dX9_explainedBy_22 rfl rfl ?_
  refine gf_X9_1 fl_X9_19 (lk0 hG) (lr0_1 hG) dX9_explainedBy_23 ?_
  refine gf_X1_0 fl_X9_229 (lk3 hG) dX9_explainedBy_26 ?_
  refine aw_jge 126 dX9_explainedBy_29 (by decide) (fun c_1 => ?_) (fun c_1 => ?_)
  · have h := sw_if.f h c_1
    refine aw_iconst (v := 0) dX9_explainedBy_126 (by decide) ?_
    exact aw_zret rfl rfl dX9_explainedBy_127 ⟨rfl, _, rfl, h⟩
  · have h := sw_if.t h c_1
    refine aw_iload 5 dX9_explainedBy_32 rfl ?_
    refine aw_aload_n 0 dX9_explainedBy_34 rfl rfl ?_
    refine gf_X9_2 fl_X9_26 (lk0 hG) (lr0_2 hG) dX9_explainedBy_35 ?_
    refine gf_X3_1 fl_X9_133 (lk13 hG) (lr13_1 hG) dX9_explainedBy_38 ?_
    refine aw_iload_n 2 dX9_explainedBy_41 rfl rfl ?_
    obtain ⟨hi_2, h⟩ := h
    refine aw_ild dX9_explainedBy_42 (lk15 hG) (ln15 hG) hi_2 ?_
    refine aw_jeq 120 dX9_explainedBy_43 (by decide) (fun c_3 => ?_) (fun c_3 => ?_)
    · have h := sw_if.t h c_3
      refine aw_sub [0, 1, 2, 3, 4, 5] rfl ?_
      exact t_X9_explainedBy_120 hG  hK20 h
    · have h := sw_if.f h c_3
      refine aw_iconst (v := (-1)) dX9_explainedBy_46 (by decide) ?_
      refine aw_istore (lv' := [(6, .int (-1)), (0, .ref (sz + 0)), (1, .int x1), (2, .int x2), (3, .int x3), (4, .int x4), (5, .int x5)]) dX9_explainedBy_47 (by decide) rfl ?_
      refine aw_iload_n 4 dX9_explainedBy_49 rfl rfl ?_
      refine aw_zne 72 dX9_explainedBy_50 (by decide) (fun c_4 => ?_) (fun c_4 => ?_)
      · have h := sw_if.f h c_4
        refine aw_aload_n 1 dX9_explainedBy_72 rfl rfl ?_
        refine gf_X9_7 fl_X9_51 (lk0 hG) (lr0_7 hG) dX9_explainedBy_73 ?_
        refine aw_aload_n 1 dX9_explainedBy_76 rfl rfl ?_
        refine gf_X9_1 fl_X9_19 (lk0 hG) (lr0_1 hG) dX9_explainedBy_77 ?_
        refine aw_iload_n 3 dX9_explainedBy_80 rfl rfl ?_
        refine aw_iload 6 dX9_explainedBy_81 rfl ?_
        refine aw_iload 5 dX9_explainedBy_83 rfl ?_
        refine aw_callV wv_X7_otherWishSo (M_X7_otherWishSo hG  h) ml_X9_378 rfl (by decide) (lk109 hG) rfl rfl (Nat.le_of_ble_eq_true rfl) ⟨rfl, rfl⟩ ⟨Nat.le_of_ble_eq_true rfl, Nat.le_of_ble_eq_true rfl⟩ ⟨Nat.le_refl _, Nat.le_refl _⟩ dX9_explainedBy_85 (aw_ki fun r_5 I_6 J_7 h => ?_)
        refine aw_istore (lv' := [(6, .int r_5), (0, .ref (sz + 0)), (1, .int x1), (2, .int x2), (3, .int x3), (4, .int x4), (5, .int x5)]) dX9_explainedBy_88 (by decide) rfl ?_
        refine aw_iload 0 dX9_explainedBy_90 rfl ?_
        refine aw_bipush (v := (-2)) dX9_explainedBy_92 (by decide) ?_
        refine aw_jeq 101 dX9_explainedBy_94 (by decide) (fun c_8 => ?_) (fun c_8 => ?_)
        · have h := sw_if.t h c_8
          refine aw_iconst (v := 0) dX9_explainedBy_101 (by decide) ?_
          refine aw_sub [1, 2, 3, 4, 5, 6, 0] rfl ?_
          exact t_X9_explainedBy_102 hG  hK20 h
        · have h := sw_if.f h c_8
          refine aw_iconst (v := 1) dX9_explainedBy_97 (by decide) ?_
          refine aw_goto 102 dX9_explainedBy_98 (by decide) ?_
          refine aw_sub [1, 2, 3, 4, 5, 6, 0] rfl ?_
          exact t_X9_explainedBy_102 hG  hK20 h
      · have h := sw_if.t h c_4
        refine aw_aload_n 1 dX9_explainedBy_53 rfl rfl ?_
        refine gf_X9_7 fl_X9_51 (lk0 hG) (lr0_7 hG) dX9_explainedBy_54 ?_
        refine aw_aload_n 1 dX9_explainedBy_57 rfl rfl ?_
        refine gf_X9_1 fl_X9_19 (lk0 hG) (lr0_1 hG) dX9_explainedBy_58 ?_
        refine aw_iload_n 3 dX9_explainedBy_61 rfl rfl ?_
        refine aw_iload 6 dX9_explainedBy_62 rfl ?_
        refine aw_callV wv_X7_allSoIf (M_X7_allSoIf hG  h) ml_X9_326 rfl (by decide) (lk109 hG) rfl rfl (Nat.le_of_ble_eq_true rfl) ⟨rfl, rfl⟩ ⟨Nat.le_of_ble_eq_true rfl, Nat.le_of_ble_eq_true rfl⟩ ⟨Nat.le_refl _, Nat.le_refl _⟩ dX9_explainedBy_64 (aw_ki fun r_9 I_10 J_11 h => ?_)
        refine aw_istore (lv' := [(7, .int r_9), (6, .int (-1)), (0, .ref (sz + 0)), (1, .int x1), (2, .int x2), (3, .int x3), (4, .int x4), (5, .int x5)]) dX9_explainedBy_67 (by decide) rfl ?_
        refine aw_goto 104 dX9_explainedBy_69 (by decide) ?_
        refine aw_sub [2, 3, 4, 5, 6, 7, 1, 0] rfl ?_
        exact t_X9_explainedBy_104 hG  hK20 h
set_option maxRecDepth 20000 in
theorem tl_X9_explainedBy_20 {l : Launch} {D : va_G} {cy : Nat → ClassId} {sz : Nat} {G : sw_G} (hG : sw_lay G)   {Q : Int32 → sw_I → sw_J → Prop} : ∀ (n : Nat) (x1 : Int32) (x2 : Int32) (x3 : Int32) (x4 : Int32) (x5 : Int32) (I : sw_I) (J : sw_J), wl_X9_explainedBy_20   Q n x1 x2 x3 x4 x5 I J → AW l D cy sz RX9 cX9_explainedBy 8 (some .boolean) false rm_X9_explainedBy 0 0 (sw_qi G Q) 0 0 G I J 20 [(0, .ref (sz + 0)), (1, .int x1), (2, .int x2), (3, .int x3), (4, .int x4), (5, .int x5)] [] := by
  intro n
  induction n with
  | zero => intro x1 x2 x3 x4 x5 I J h; exact False.elim h
  | succ n ih => intro x1 x2 x3 x4 x5 I J h; exact tb_X9_explainedBy_20 hG  ih h
set_option maxRecDepth 20000 in
theorem t_X9_explainedBy {l : Launch} {D : va_G} {cy : Nat → ClassId} {sz : Nat} {G : sw_G} (hG : sw_lay G)   {Q : Int32 → sw_I → sw_J → Prop} {x1 : Int32} {I : sw_I} {J : sw_J} (h : wp_X9_explainedBy x1 I J Q) : AW l D cy sz RX9 cX9_explainedBy 8 (some .boolean) false rm_X9_explainedBy 0 0 (sw_qi G Q) 0 0 G I J 0 [(0, .ref (sz + 0)), (1, .int x1)] [] := by
  unfold wp_X9_explainedBy at h
  refine aw_iload_n 1 dX9_explainedBy_0 rfl rfl ?_
  refine aw_callS wv_J6_numberOfTrailingZeros_0f7a4 (M_J6_numberOfTrailingZeros_0f7a4 trivial  h) ml_X9_375 rfl rfl (Nat.le_of_ble_eq_true rfl) ⟨rfl, rfl⟩ ⟨Nat.le_of_ble_eq_true rfl, Nat.le_of_ble_eq_true rfl⟩ ⟨Nat.le_refl _, Nat.le_refl _⟩ dX9_explainedBy_1 (aw_ki fun r_1 I_2 J_3 h => ?_)
  refine aw_istore_n (lv' := [(2, .int r_1), (0, .ref (sz + 0)), (1, .int x1)]) dX9_explainedBy_4 rfl (by decide) rfl ?_
  refine aw_iload_n 2 dX9_explainedBy_5 rfl rfl ?_
  refine aw_iload_n 2 dX9_explainedBy_6 rfl rfl ?_
  refine aw_iconst (v := 1) dX9_explainedBy_7 (by decide) ?_
  refine aw_isub dX9_explainedBy_8 ?_
  refine aw_iand dX9_explainedBy_9 ?_
  refine aw_topi (fun y_4 e_5 => ?_)
  have h := h y_4 e_5
  refine aw_istore_n (lv' := [(3, .int y_4), (2, .int r_1), (0, .ref (sz + 0)), (1, .int x1)]) dX9_explainedBy_10 rfl (by decide) rfl ?_
  refine aw_iload_n 0 dX9_explainedBy_11 rfl rfl ?_
  refine aw_callS wv_J6_numberOfTrailingZeros_0f7a4 (M_J6_numberOfTrailingZeros_0f7a4 trivial  h) ml_X9_375 rfl rfl (Nat.le_of_ble_eq_true rfl) ⟨rfl, rfl⟩ ⟨Nat.le_of_ble_eq_true rfl, Nat.le_of_ble_eq_true rfl⟩ ⟨Nat.le_refl _, Nat.le_refl _⟩ dX9_explainedBy_12 (aw_ki fun r_6 I_7 J_8 h => ?_)
  refine aw_istore (lv' := [(4, .int r_6), (3, .int y_4), (2, .int r_1), (0, .ref (sz + 0)), (1, .int x1)]) dX9_explainedBy_15 (by decide) rfl ?_
  refine aw_iconst (v := (-1)) dX9_explainedBy_17 (by decide) ?_
  refine aw_istore (lv' := [(5, .int (-1)), (4, .int r_6), (3, .int y_4), (2, .int r_1), (0, .ref (sz + 0)), (1, .int x1)]) dX9_explainedBy_18 (by decide) rfl ?_
  refine aw_sub [4, 5, 3, 2, 1, 0] rfl ?_
  obtain ⟨n_9, h⟩ := h
  exact tl_X9_explainedBy_20 hG   n_9 x1 r_1 y_4 r_6 (-1) I_7 J_8 h
theorem M_X9_explainedBy {l : Launch} {D : va_G} {cy : Nat → ClassId} {sz : Nat} {G : sw_G} (hG : sw_lay G)   {Q : Int32 → sw_I → sw_J → Prop} {x1 : Int32} {I : sw_I} {J : sw_J} (h : wp_X9_explainedBy x1 I J Q) : Met l yX9_explainedBy (Cond.code yX9_explainedBy cX9_explainedBy 8 (some .boolean) :: sw_T) rm_X9_explainedBy (sw_Pc D cy sz [.ref (sz + 0), .int x1] G I J) (sw_Q D cy sz (sw_qi G Q)) 0 0 (fun q => sz ≤ q) :=
  sw_met (by decide) (fun q => by cases q) (Nat.le_of_ble_eq_true rfl) rfl (t_X9_explainedBy hG  h)
-- X9_weighStops
abbrev rm_X9_weighStops : Room := { frames := 3, cells := 0, slots := 0, locals := 74 }
def wB_X9_weighStops_86  (K37 : Int32 → Int32 → Int64 → Int32 → sw_I → sw_J → Prop) (Q : Int64 → sw_I → sw_J → Prop) (x1 : Int32) (x2 : Int32) (w3 : Int64) (x5 : Int32) (I : sw_I) (J : sw_J) : Prop :=
  wp_X9_nextSet x2 (I 13 3) I J (fun r_1 I_2 J_3 => ∀ y_4 : Int32, y_4 = x5 + 1 → K37 x1 r_1 w3 y_4 I_2 J_3)
def wb_X9_weighStops_37  (K37 : Int32 → Int32 → Int64 → Int32 → sw_I → sw_J → Prop) (Q : Int64 → sw_I → sw_J → Prop) (x1 : Int32) (x2 : Int32) (w3 : Int64) (x5 : Int32) (I : sw_I) (J : sw_J) : Prop :=
  sw_if (x5 < x1) (wp_X9_weightOf x2 I J (fun r_2 I_3 J_4 => sw_if (0 < (lg_cmp r_2 (0 : Int64))) (wp_X1_nextStop 17 (I_3 13 3) I_3 J_4 (fun r_6 I_7 J_8 => wp_X9_addChance r_6 r_2 I_7 J_8 (fun I_10 J_11 => ∀ y_12 : Int64, y_12 = w3 + r_2 → wB_X9_weighStops_86  K37 Q x1 x2 y_12 x5 I_10 J_11))) (wB_X9_weighStops_86  K37 Q x1 x2 w3 x5 I_3 J_4))) (Q w3 I J)
def wl_X9_weighStops_37   (Q : Int64 → sw_I → sw_J → Prop) : Nat → Int32 → Int32 → Int64 → Int32 → sw_I → sw_J → Prop
  | 0 => fun _ _ _ _ _ _ => False
  | n + 1 => fun x1 x2 w3 x5 I J => wb_X9_weighStops_37  (wl_X9_weighStops_37   Q n) Q x1 x2 w3 x5 I J
def wp_X9_weighStops  (I : sw_I) (J : sw_J) (Q : Int64 → sw_I → sw_J → Prop) : Prop :=
  wp_J7_fill_d0a16 117 9 0 I J (fun I_2 J_3 => wp_X3_copy 17 13 I_2 J_3 (fun I_5 J_6 => wp_X9_setsOf (I_5 13 3) I_5 J_6 (fun r_7 I_8 J_9 => ∃ n_10 : Nat, wl_X9_weighStops_37   Q n_10 r_7 0 0 0 I_8 J_9)))
set_option maxRecDepth 20000 in
theorem t_X9_weighStops_86 {l : Launch} {D : va_G} {cy : Nat → ClassId} {sz : Nat} {G : sw_G} (hG : sw_lay G)   {Q : Int64 → sw_I → sw_J → Prop} {K37 : Int32 → Int32 → Int64 → Int32 → sw_I → sw_J → Prop} (hK37 : ∀ (x1 : Int32) (x2 : Int32) (w3 : Int64) (x5 : Int32) (I : sw_I) (J : sw_J), K37 x1 x2 w3 x5 I J → AW l D cy sz RX9 cX9_weighStops 8 (some .long) false rm_X9_weighStops 0 0 (sw_ql G Q) 0 0 G I J 37 [(0, .ref (sz + 0)), (1, .int x1), (2, .int x2), (3, .long w3), (5, .int x5)] []) {x1 : Int32} {x2 : Int32} {w3 : Int64} {x5 : Int32} {I : sw_I} {J : sw_J} (h : wB_X9_weighStops_86  K37 Q x1 x2 w3 x5 I J) : AW l D cy sz RX9 cX9_weighStops 8 (some .long) false rm_X9_weighStops 0 0 (sw_ql G Q) 0 0 G I J 86 [(0, .ref (sz + 0)), (1, .int x1), (2, .int x2), (3, .long w3), (5, .int x5)] [] := by
  unfold wB_X9_weighStops_86 at h
  refine aw_iload_n 2 dX9_weighStops_86 rfl rfl ?_
  refine aw_aload_n 0 dX9_weighStops_87 rfl rfl ?_
  refine gf_X9_2 fl_X9_26 (lk0 hG) (lr0_2 hG) dX9_weighStops_88 ?_
  refine gf_X3_3 fl_X9_142 (lk13 hG) dX9_weighStops_91 ?_
  refine aw_callS wv_X9_nextSet (M_X9_nextSet trivial  h) ml_X9_253 rfl rfl (Nat.le_of_ble_eq_true rfl) ⟨rfl, rfl⟩ ⟨Nat.le_of_ble_eq_true rfl, Nat.le_of_ble_eq_true rfl⟩ ⟨Nat.le_refl _, Nat.le_refl _⟩ dX9_weighStops_94 (aw_ki fun r_1 I_2 J_3 h => ?_)
  refine aw_istore_n (lv' := [(2, .int r_1), (0, .ref (sz + 0)), (1, .int x1), (3, .long w3), (5, .int x5)]) dX9_weighStops_97 rfl (by decide) rfl ?_
  obtain ⟨y_4, e_5⟩ : ∃ q : Int32, q = x5 + 1 := ⟨_, rfl⟩
  have h := h y_4 e_5
  refine aw_iinc (lv' := [(5, .int y_4), (2, .int r_1), (0, .ref (sz + 0)), (1, .int x1), (3, .long w3)]) 4 dX9_weighStops_98 rfl (by rw [e_5]; rfl) (by decide) rfl ?_
  refine aw_goto 37 dX9_weighStops_101 (by decide) ?_
  refine aw_sub [2, 3, 1, 4, 0] rfl ?_
  exact hK37 x1 r_1 w3 y_4 I_2 J_3 h
set_option maxRecDepth 20000 in
theorem tb_X9_weighStops_37 {l : Launch} {D : va_G} {cy : Nat → ClassId} {sz : Nat} {G : sw_G} (hG : sw_lay G)   {Q : Int64 → sw_I → sw_J → Prop} {K37 : Int32 → Int32 → Int64 → Int32 → sw_I → sw_J → Prop} (hK37 : ∀ (x1 : Int32) (x2 : Int32) (w3 : Int64) (x5 : Int32) (I : sw_I) (J : sw_J), K37 x1 x2 w3 x5 I J → AW l D cy sz RX9 cX9_weighStops 8 (some .long) false rm_X9_weighStops 0 0 (sw_ql G Q) 0 0 G I J 37 [(0, .ref (sz + 0)), (1, .int x1), (2, .int x2), (3, .long w3), (5, .int x5)] []) {x1 : Int32} {x2 : Int32} {w3 : Int64} {x5 : Int32} {I : sw_I} {J : sw_J} (h : wb_X9_weighStops_37  K37 Q x1 x2 w3 x5 I J) : AW l D cy sz RX9 cX9_weighStops 8 (some .long) false rm_X9_weighStops 0 0 (sw_ql G Q) 0 0 G I J 37 [(0, .ref (sz + 0)), (1, .int x1), (2, .int x2), (3, .long w3), (5, .int x5)] [] := by
  unfold wb_X9_weighStops_37 at h
  refine aw_iload 4 dX9_weighStops_37 rfl ?_
  refine aw_iload_n 1 dX9_weighStops_39 rfl rfl ?_
  refine aw_jge 104 dX9_weighStops_40 (by decide) (fun c_1 => ?_) (fun c_1 => ?_)
  · have h := sw_if.f h c_1
    refine aw_lload_n 3 dX9_weighStops_104 rfl rfl ?_
    exact aw_lret rfl dX9_weighStops_105 ⟨rfl, _, rfl, h⟩
  · have h := sw_if.t h c_1
    refine aw_aload_n 0 dX9_weighStops_43 rfl rfl ?_
    refine aw_iload_n 2 dX9_weighStops_44 rfl rfl ?_
    refine aw_callV wv_X9_weightOf (M_X9_weightOf hG  h) ml_X9_385 rfl (by decide) (lk0 hG) rfl rfl (Nat.le_of_ble_eq_true rfl) ⟨rfl, rfl⟩ ⟨Nat.le_of_ble_eq_true rfl, Nat.le_of_ble_eq_true rfl⟩ ⟨Nat.le_refl _, Nat.le_refl _⟩ dX9_weighStops_45 (aw_kl fun r_2 I_3 J_4 h => ?_)
    refine aw_lstore (lv' := [(6, .long r_2), (0, .ref (sz + 0)), (1, .int x1), (2, .int x2), (3, .long w3), (5, .int x5)]) dX9_weighStops_48 (by decide) rfl ?_
    refine aw_lload 0 dX9_weighStops_50 rfl ?_
    refine aw_lconst (v := 0) dX9_weighStops_52 (by decide) ?_
    refine aw_lcmp dX9_weighStops_53 ?_
    refine aw_zle 86 dX9_weighStops_54 (by decide) (fun c_5 => ?_) (fun c_5 => ?_)
    · have h := sw_if.f h c_5
      refine aw_sub [1, 2, 3, 4, 5] rfl ?_
      exact t_X9_weighStops_86 hG  hK37 h
    · have h := sw_if.t h c_5
      refine aw_aload_n 1 dX9_weighStops_57 rfl rfl ?_
      refine aw_aload_n 1 dX9_weighStops_58 rfl rfl ?_
      refine gf_X9_1 fl_X9_19 (lk0 hG) (lr0_1 hG) dX9_weighStops_59 ?_
      refine aw_aload_n 1 dX9_weighStops_62 rfl rfl ?_
      refine gf_X9_3 fl_X9_30 (lk0 hG) (lr0_3 hG) dX9_weighStops_63 ?_
      refine aw_aload_n 1 dX9_weighStops_66 rfl rfl ?_
      refine gf_X9_2 fl_X9_26 (lk0 hG) (lr0_2 hG) dX9_weighStops_67 ?_
      refine gf_X3_3 fl_X9_142 (lk13 hG) dX9_weighStops_70 ?_
      refine aw_callV wv_X1_nextStop (M_X1_nextStop hG (lm17 hG) h) ml_X9_218 rfl (by decide) (lk3 hG) rfl rfl (Nat.le_of_ble_eq_true rfl) ⟨rfl, rfl⟩ ⟨Nat.le_of_ble_eq_true rfl, Nat.le_of_ble_eq_true rfl⟩ ⟨Nat.le_refl _, Nat.le_refl _⟩ dX9_weighStops_73 (aw_ki fun r_6 I_7 J_8 h => ?_)
      refine aw_lload 0 dX9_weighStops_76 rfl ?_
      refine aw_callV wv_X9_addChance (M_X9_addChance hG  h) ml_X9_249 rfl (by decide) (lk0 hG) rfl rfl (Nat.le_of_ble_eq_true rfl) ⟨rfl, rfl⟩ ⟨Nat.le_of_ble_eq_true rfl, Nat.le_of_ble_eq_true rfl⟩ ⟨Nat.le_refl _, Nat.le_refl _⟩ dX9_weighStops_78 (aw_kv fun I_10 J_11 h => ?_)
      refine aw_lload_n 4 dX9_weighStops_81 rfl rfl ?_
      refine aw_lload 0 dX9_weighStops_82 rfl ?_
      refine aw_ladd dX9_weighStops_84 ?_
      refine aw_topl (fun y_12 e_13 => ?_)
      have h := h y_12 e_13
      refine aw_lstore_n (lv' := [(3, .long y_12), (6, .long r_2), (0, .ref (sz + 0)), (1, .int x1), (2, .int x2), (5, .int x5)]) dX9_weighStops_85 rfl (by decide) rfl ?_
      refine aw_sub [2, 3, 4, 0, 5] rfl ?_
      exact t_X9_weighStops_86 hG  hK37 h
set_option maxRecDepth 20000 in
theorem tl_X9_weighStops_37 {l : Launch} {D : va_G} {cy : Nat → ClassId} {sz : Nat} {G : sw_G} (hG : sw_lay G)   {Q : Int64 → sw_I → sw_J → Prop} : ∀ (n : Nat) (x1 : Int32) (x2 : Int32) (w3 : Int64) (x5 : Int32) (I : sw_I) (J : sw_J), wl_X9_weighStops_37   Q n x1 x2 w3 x5 I J → AW l D cy sz RX9 cX9_weighStops 8 (some .long) false rm_X9_weighStops 0 0 (sw_ql G Q) 0 0 G I J 37 [(0, .ref (sz + 0)), (1, .int x1), (2, .int x2), (3, .long w3), (5, .int x5)] [] := by
  intro n
  induction n with
  | zero => intro x1 x2 w3 x5 I J h; exact False.elim h
  | succ n ih => intro x1 x2 w3 x5 I J h; exact tb_X9_weighStops_37 hG  ih h
set_option maxRecDepth 20000 in
theorem t_X9_weighStops {l : Launch} {D : va_G} {cy : Nat → ClassId} {sz : Nat} {G : sw_G} (hG : sw_lay G)   {Q : Int64 → sw_I → sw_J → Prop}  {I : sw_I} {J : sw_J} (h : wp_X9_weighStops  I J Q) : AW l D cy sz RX9 cX9_weighStops 8 (some .long) false rm_X9_weighStops 0 0 (sw_ql G Q) 0 0 G I J 0 [(0, .ref (sz + 0))] [] := by
  unfold wp_X9_weighStops at h
  refine aw_aload_n 0 dX9_weighStops_0 rfl rfl ?_
  refine gf_X9_8 fl_X9_55 (lk0 hG) (lr0_8 hG) dX9_weighStops_1 ?_
  refine aw_lconst (v := 0) dX9_weighStops_4 (by decide) ?_
  refine aw_callS wv_J7_fill_d0a16 (M_J7_fill_d0a16 trivial ⟨(lk117 hG), (ln117 hG)⟩ h) ml_X9_240 rfl rfl (Nat.le_of_ble_eq_true rfl) ⟨rfl, rfl⟩ ⟨Nat.le_of_ble_eq_true rfl, Nat.le_of_ble_eq_true rfl⟩ ⟨Nat.le_refl _, Nat.le_refl _⟩ dX9_weighStops_5 (aw_kv fun I_2 J_3 h => ?_)
  refine aw_aload_n 0 dX9_weighStops_8 rfl rfl ?_
  refine gf_X9_3 fl_X9_30 (lk0 hG) (lr0_3 hG) dX9_weighStops_9 ?_
  refine aw_aload_n 0 dX9_weighStops_12 rfl rfl ?_
  refine gf_X9_2 fl_X9_26 (lk0 hG) (lr0_2 hG) dX9_weighStops_13 ?_
  refine aw_callV wv_X3_copy (M_X3_copy hG (lm17 hG) (lm13 hG) h) ml_X9_259 rfl (by decide) (lk17 hG) rfl rfl (Nat.le_of_ble_eq_true rfl) ⟨rfl, rfl⟩ ⟨Nat.le_of_ble_eq_true rfl, Nat.le_of_ble_eq_true rfl⟩ ⟨Nat.le_refl _, Nat.le_refl _⟩ dX9_weighStops_16 (aw_kv fun I_5 J_6 h => ?_)
  refine aw_aload_n 0 dX9_weighStops_19 rfl rfl ?_
  refine gf_X9_2 fl_X9_26 (lk0 hG) (lr0_2 hG) dX9_weighStops_20 ?_
  refine gf_X3_3 fl_X9_142 (lk13 hG) dX9_weighStops_23 ?_
  refine aw_callS wv_X9_setsOf (M_X9_setsOf trivial  h) ml_X9_246 rfl rfl (Nat.le_of_ble_eq_true rfl) ⟨rfl, rfl⟩ ⟨Nat.le_of_ble_eq_true rfl, Nat.le_of_ble_eq_true rfl⟩ ⟨Nat.le_refl _, Nat.le_refl _⟩ dX9_weighStops_26 (aw_ki fun r_7 I_8 J_9 h => ?_)
  refine aw_istore_n (lv' := [(1, .int r_7), (0, .ref (sz + 0))]) dX9_weighStops_29 rfl (by decide) rfl ?_
  refine aw_iconst (v := 0) dX9_weighStops_30 (by decide) ?_
  refine aw_istore_n (lv' := [(2, .int 0), (1, .int r_7), (0, .ref (sz + 0))]) dX9_weighStops_31 rfl (by decide) rfl ?_
  refine aw_lconst (v := 0) dX9_weighStops_32 (by decide) ?_
  refine aw_lstore_n (lv' := [(3, .long 0), (2, .int 0), (1, .int r_7), (0, .ref (sz + 0))]) dX9_weighStops_33 rfl (by decide) rfl ?_
  refine aw_iconst (v := 0) dX9_weighStops_34 (by decide) ?_
  refine aw_istore (lv' := [(5, .int 0), (3, .long 0), (2, .int 0), (1, .int r_7), (0, .ref (sz + 0))]) dX9_weighStops_35 (by decide) rfl ?_
  refine aw_sub [4, 3, 2, 1, 0] rfl ?_
  obtain ⟨n_10, h⟩ := h
  exact tl_X9_weighStops_37 hG   n_10 r_7 0 0 0 I_8 J_9 h
theorem M_X9_weighStops {l : Launch} {D : va_G} {cy : Nat → ClassId} {sz : Nat} {G : sw_G} (hG : sw_lay G)   {Q : Int64 → sw_I → sw_J → Prop}  {I : sw_I} {J : sw_J} (h : wp_X9_weighStops  I J Q) : Met l yX9_weighStops (Cond.code yX9_weighStops cX9_weighStops 8 (some .long) :: sw_T) rm_X9_weighStops (sw_Pc D cy sz [.ref (sz + 0)] G I J) (sw_Q D cy sz (sw_ql G Q)) 0 0 (fun q => sz ≤ q) :=
  sw_met (by decide) (fun q => by cases q) (Nat.le_of_ble_eq_true rfl) rfl (t_X9_weighStops hG  h)
-- X10_betsAll
abbrev rm_X10_betsAll : Room := { frames := 18, cells := 0, slots := 0, locals := 414 }
def wb_X10_betsAll_2  (K2 : Int32 → sw_I → sw_J → Prop) (Q : sw_I → sw_J → Prop) (x1 : Int32) (I : sw_I) (J : sw_J) : Prop :=
  sw_if (x1 < (9 : Int32)) (vp_in x1 9 ∧ ∀ J_9 : sw_J, J_9 = sw_up J 170 x1.toNatClampNeg (0 : Int64) → ∀ y_11 : Int32, y_11 = x1 + 1 → K2 y_11 I J_9) (wp_X10_puts 144 33 145 33 I J (fun I_3 J_4 => wp_X10_bets 12 0 10000000000 I_3 J_4 (fun I_6 J_7 => Q I_6 J_7)))
def wl_X10_betsAll_2   (Q : sw_I → sw_J → Prop) : Nat → Int32 → sw_I → sw_J → Prop
  | 0 => fun _ _ _ => False
  | n + 1 => fun x1 I J => wb_X10_betsAll_2  (wl_X10_betsAll_2   Q n) Q x1 I J
def wp_X10_betsAll  (I : sw_I) (J : sw_J) (Q : sw_I → sw_J → Prop) : Prop :=
  ∃ n_1 : Nat, wl_X10_betsAll_2   Q n_1 0 I J
set_option maxRecDepth 20000 in
theorem tb_X10_betsAll_2 {l : Launch} {D : va_G} {cy : Nat → ClassId} {sz : Nat} {G : sw_G} (hG : sw_lay G)   {Q : sw_I → sw_J → Prop} {K2 : Int32 → sw_I → sw_J → Prop} (hK2 : ∀ (x1 : Int32) (I : sw_I) (J : sw_J), K2 x1 I J → AW l D cy sz RX10 cX10_betsAll 2 none false rm_X10_betsAll 0 0 (sw_qv G Q) 0 0 G I J 2 [(0, .ref (sz + 140)), (1, .int x1)] []) {x1 : Int32} {I : sw_I} {J : sw_J} (h : wb_X10_betsAll_2  K2 Q x1 I J) : AW l D cy sz RX10 cX10_betsAll 2 none false rm_X10_betsAll 0 0 (sw_qv G Q) 0 0 G I J 2 [(0, .ref (sz + 140)), (1, .int x1)] [] := by
  unfold wb_X10_betsAll_2 at h
  refine aw_iload_n 1 dX10_betsAll_2 rfl rfl ?_
  refine aw_bipush (v := 9) dX10_betsAll_3 (by decide) ?_
  refine aw_jge 21 dX10_betsAll_5 (by decide) (fun c_1 => ?_) (fun c_1 => ?_)
  · have h := sw_if.f h c_1
    refine aw_aload_n 0 dX10_betsAll_21 rfl rfl ?_
    refine gf_X10_9 fl_X10_79 (lk140 hG) (lr140_9 hG) dX10_betsAll_22 ?_
    refine aw_aload_n 0 dX10_betsAll_25 rfl rfl ?_
    refine gf_X10_10 fl_X10_313 (lk140 hG) (lr140_10 hG) dX10_betsAll_26 ?_
    refine aw_callS wv_X10_puts (M_X10_puts trivial ⟨(lk144 hG), (ln144 hG)⟩ ⟨(lk145 hG), (ln145 hG)⟩ h) ml_X10_316 rfl rfl (Nat.le_of_ble_eq_true rfl) ⟨rfl, rfl⟩ ⟨Nat.le_of_ble_eq_true rfl, Nat.le_of_ble_eq_true rfl⟩ ⟨Nat.le_refl _, Nat.le_refl _⟩ dX10_betsAll_29 (aw_kv fun I_3 J_4 h => ?_)
    refine aw_aload_n 0 dX10_betsAll_32 rfl rfl ?_
    refine aw_iconst (v := 0) dX10_betsAll_33 (by decide) ?_
    refine aw_ldc2 (v := 10000000000) dX10_betsAll_34 k_X10_446 ?_
    refine aw_callV wv_X10_bets (M_X10_bets hG 12  h) ml_X10_442 rfl (by decide) (lk140 hG) rfl rfl (Nat.le_of_ble_eq_true rfl) ⟨rfl, rfl⟩ ⟨Nat.le_of_ble_eq_true rfl, Nat.le_of_ble_eq_true rfl⟩ ⟨Nat.le_refl _, Nat.le_refl _⟩ dX10_betsAll_37 (aw_kv fun I_6 J_7 h => ?_)
    exact aw_vret rfl dX10_betsAll_40 ⟨rfl, rfl, h⟩
  · have h := sw_if.t h c_1
    refine aw_aload_n 0 dX10_betsAll_8 rfl rfl ?_
    refine gf_X10_58 fl_X10_439 (lk140 hG) (lr140_58 hG) dX10_betsAll_9 ?_
    refine aw_iload_n 1 dX10_betsAll_12 rfl rfl ?_
    refine aw_lconst (v := 0) dX10_betsAll_13 (by decide) ?_
    obtain ⟨hi_8, h⟩ := h
    refine aw_lst dX10_betsAll_14 (lk170 hG) (ln170 hG) hi_8 (aw_nameJ fun J_9 e_10 => ?_)
    have h := h J_9 e_10
    obtain ⟨y_11, e_12⟩ : ∃ q : Int32, q = x1 + 1 := ⟨_, rfl⟩
    have h := h y_11 e_12
    refine aw_iinc (lv' := [(1, .int y_11), (0, .ref (sz + 140))]) 1 dX10_betsAll_15 rfl (by rw [e_12]; rfl) (by decide) rfl ?_
    refine aw_goto 2 dX10_betsAll_18 (by decide) ?_
    refine aw_sub [1, 0] rfl ?_
    exact hK2 y_11 I J_9 h
set_option maxRecDepth 20000 in
theorem tl_X10_betsAll_2 {l : Launch} {D : va_G} {cy : Nat → ClassId} {sz : Nat} {G : sw_G} (hG : sw_lay G)   {Q : sw_I → sw_J → Prop} : ∀ (n : Nat) (x1 : Int32) (I : sw_I) (J : sw_J), wl_X10_betsAll_2   Q n x1 I J → AW l D cy sz RX10 cX10_betsAll 2 none false rm_X10_betsAll 0 0 (sw_qv G Q) 0 0 G I J 2 [(0, .ref (sz + 140)), (1, .int x1)] [] := by
  intro n
  induction n with
  | zero => intro x1 I J h; exact False.elim h
  | succ n ih => intro x1 I J h; exact tb_X10_betsAll_2 hG  ih h
set_option maxRecDepth 20000 in
theorem t_X10_betsAll {l : Launch} {D : va_G} {cy : Nat → ClassId} {sz : Nat} {G : sw_G} (hG : sw_lay G)   {Q : sw_I → sw_J → Prop}  {I : sw_I} {J : sw_J} (h : wp_X10_betsAll  I J Q) : AW l D cy sz RX10 cX10_betsAll 2 none false rm_X10_betsAll 0 0 (sw_qv G Q) 0 0 G I J 0 [(0, .ref (sz + 140))] [] := by
  unfold wp_X10_betsAll at h
  refine aw_iconst (v := 0) dX10_betsAll_0 (by decide) ?_
  refine aw_istore_n (lv' := [(1, .int 0), (0, .ref (sz + 140))]) dX10_betsAll_1 rfl (by decide) rfl ?_
  refine aw_sub [1, 0] rfl ?_
  obtain ⟨n_1, h⟩ := h
  exact tl_X10_betsAll_2 hG   n_1 0 I J h
theorem M_X10_betsAll {l : Launch} {D : va_G} {cy : Nat → ClassId} {sz : Nat} {G : sw_G} (hG : sw_lay G)   {Q : sw_I → sw_J → Prop}  {I : sw_I} {J : sw_J} (h : wp_X10_betsAll  I J Q) : Met l yX10_betsAll (Cond.code yX10_betsAll cX10_betsAll 2 none :: sw_T) rm_X10_betsAll (sw_Pc D cy sz [.ref (sz + 140)] G I J) (sw_Q D cy sz (sw_qv G Q)) 0 0 (fun q => sz ≤ q) :=
  sw_met (by decide) (fun q => by cases q) (Nat.le_of_ble_eq_true rfl) rfl (t_X10_betsAll hG  h)
-- X10_odds
abbrev rm_X10_odds : Room := { frames := 66, cells := 0, slots := 0, locals := 1521 }
def wp_X10_odds (x1 : Int32) (I : sw_I) (J : sw_J) (Q : Int32 → sw_I → sw_J → Prop) : Prop :=
  ∀ I_1 : sw_I, I_1 = sw_up I 140 0 (0 : Int32) → wp_X10_isFloor x1 I_1 J (fun r_3 I_4 J_5 => sw_if (r_3 = 0) (Q (-1 : Int32) I_4 J_5) (wp_X10_betsAll  I_4 J_5 (fun I_8 J_9 => ∀ I_10 : sw_I, I_10 = sw_up I_8 140 1 (0 : Int32) → vp_in x1 9 ∧ wp_X10_entersFraction (J_9 170 x1.toNatClampNeg) 10000000000 I_10 J_9 (fun I_14 J_15 => Q (0 : Int32) I_14 J_15))))
set_option maxRecDepth 20000 in
theorem t_X10_odds {l : Launch} {D : va_G} {cy : Nat → ClassId} {sz : Nat} {G : sw_G} (hG : sw_lay G)   {Q : Int32 → sw_I → sw_J → Prop} {x1 : Int32} {I : sw_I} {J : sw_J} (h : wp_X10_odds x1 I J Q) : AW l D cy sz RX10 cX10_odds 2 (some .int) false rm_X10_odds 0 0 (sw_qi G Q) 0 0 G I J 0 [(0, .ref (sz + 140)), (1, .int x1)] [] := by
  unfold wp_X10_odds at h
  refine aw_aload_n 0 dX10_odds_0 rfl rfl ?_
  refine aw_iconst (v := 0) dX10_odds_1 (by decide) ?_
  refine pf_X10_0 fl_X10_3 (lk140 hG) dX10_odds_2 (aw_nameI fun I_1 e_2 => ?_)
  have h := h I_1 e_2
  refine aw_aload_n 0 dX10_odds_5 rfl rfl ?_
  refine aw_iload_n 1 dX10_odds_6 rfl rfl ?_
  refine aw_callV wv_X10_isFloor (M_X10_isFloor hG  h) ml_X10_95 rfl (by decide) (lk140 hG) rfl rfl (Nat.le_of_ble_eq_true rfl) ⟨rfl, rfl⟩ ⟨Nat.le_of_ble_eq_true rfl, Nat.le_of_ble_eq_true rfl⟩ ⟨Nat.le_refl _, Nat.le_refl _⟩ dX10_odds_7 (aw_ki fun r_3 I_4 J_5 h => ?_)
  refine aw_zne 15 dX10_odds_10 (by decide) (fun c_6 => ?_) (fun c_6 => ?_)
  · have h := sw_if.f h c_6
    refine aw_aload_n 0 dX10_odds_15 rfl rfl ?_
    refine aw_callV wv_X10_betsAll (M_X10_betsAll hG  h) ml_X10_448 rfl (by decide) (lk140 hG) rfl rfl (Nat.le_of_ble_eq_true rfl) ⟨rfl, rfl⟩ ⟨Nat.le_of_ble_eq_true rfl, Nat.le_of_ble_eq_true rfl⟩ ⟨Nat.le_refl _, Nat.le_refl _⟩ dX10_odds_16 (aw_kv fun I_8 J_9 h => ?_)
    refine aw_aload_n 0 dX10_odds_19 rfl rfl ?_
    refine aw_iconst (v := 0) dX10_odds_20 (by decide) ?_
    refine pf_X10_1 fl_X10_15 (lk140 hG) dX10_odds_21 (aw_nameI fun I_10 e_11 => ?_)
    have h := h I_10 e_11
    refine aw_aload_n 0 dX10_odds_24 rfl rfl ?_
    refine aw_aload_n 0 dX10_odds_25 rfl rfl ?_
    refine gf_X10_58 fl_X10_439 (lk140 hG) (lr140_58 hG) dX10_odds_26 ?_
    refine aw_iload_n 1 dX10_odds_29 rfl rfl ?_
    obtain ⟨hi_12, h⟩ := h
    refine aw_lld dX10_odds_30 (lk170 hG) (ln170 hG) hi_12 ?_
    refine aw_ldc2 (v := 10000000000) dX10_odds_31 k_X10_446 ?_
    refine aw_callV wv_X10_entersFraction (M_X10_entersFraction hG  h) ml_X10_451 rfl (by decide) (lk140 hG) rfl rfl (Nat.le_of_ble_eq_true rfl) ⟨rfl, rfl⟩ ⟨Nat.le_of_ble_eq_true rfl, Nat.le_of_ble_eq_true rfl⟩ ⟨Nat.le_refl _, Nat.le_refl _⟩ dX10_odds_34 (aw_kv fun I_14 J_15 h => ?_)
    refine aw_iconst (v := 0) dX10_odds_37 (by decide) ?_
    exact aw_iret rfl dX10_odds_38 ⟨rfl, _, rfl, h⟩
  · have h := sw_if.t h c_6
    refine aw_iconst (v := (-1)) dX10_odds_13 (by decide) ?_
    exact aw_iret rfl dX10_odds_14 ⟨rfl, _, rfl, h⟩
theorem M_X10_odds {l : Launch} {D : va_G} {cy : Nat → ClassId} {sz : Nat} {G : sw_G} (hG : sw_lay G)   {Q : Int32 → sw_I → sw_J → Prop} {x1 : Int32} {I : sw_I} {J : sw_J} (h : wp_X10_odds x1 I J Q) : Met l yX10_odds (Cond.code yX10_odds cX10_odds 2 (some .int) :: sw_T) rm_X10_odds (sw_Pc D cy sz [.ref (sz + 140), .int x1] G I J) (sw_Q D cy sz (sw_qi G Q)) 0 0 (fun q => sz ≤ q) :=
  sw_met (by decide) (fun q => by cases q) (Nat.le_of_ble_eq_true rfl) rfl (t_X10_odds hG  h)
-- X10_likely
abbrev rm_X10_likely : Room := { frames := 66, cells := 0, slots := 0, locals := 1521 }
def wB_X10_likely_42  (K13 : Int32 → Int32 → sw_I → sw_J → Prop) (Q : Int32 → sw_I → sw_J → Prop) (x2 : Int32) (s0 : Int32) (I : sw_I) (J : sw_J) : Prop :=
  ∀ y_1 : Int32, y_1 = x2 + 1 → K13 s0 y_1 I J
def wb_X10_likely_13  (K13 : Int32 → Int32 → sw_I → sw_J → Prop) (Q : Int32 → sw_I → sw_J → Prop) (x1 : Int32) (x2 : Int32) (I : sw_I) (J : sw_J) : Prop :=
  sw_if (x2 < (I 140 3)) (vp_in x2 9 ∧ vp_in x1 9 ∧ sw_if (0 < (lg_cmp (J 170 x2.toNatClampNeg) (J 170 x1.toNatClampNeg))) (wB_X10_likely_42  K13 Q x2 x2 I J) (wB_X10_likely_42  K13 Q x2 x1 I J)) (∀ I_2 : sw_I, I_2 = sw_up I 140 1 (0 : Int32) → vp_in x1 9 ∧ wp_X10_entersFraction (J 170 x1.toNatClampNeg) 10000000000 I_2 J (fun I_6 J_7 => Q x1 I_6 J_7))
def wl_X10_likely_13   (Q : Int32 → sw_I → sw_J → Prop) : Nat → Int32 → Int32 → sw_I → sw_J → Prop
  | 0 => fun _ _ _ _ => False
  | n + 1 => fun x1 x2 I J => wb_X10_likely_13  (wl_X10_likely_13   Q n) Q x1 x2 I J
def wp_X10_likely  (I : sw_I) (J : sw_J) (Q : Int32 → sw_I → sw_J → Prop) : Prop :=
  ∀ I_1 : sw_I, I_1 = sw_up I 140 0 (0 : Int32) → wp_X10_betsAll  I_1 J (fun I_4 J_5 => ∃ n_6 : Nat, wl_X10_likely_13   Q n_6 0 1 I_4 J_5)
set_option maxRecDepth 20000 in
theorem t_X10_likely_42 {l : Launch} {D : va_G} {cy : Nat → ClassId} {sz : Nat} {G : sw_G} (hG : sw_lay G)   {Q : Int32 → sw_I → sw_J → Prop} {K13 : Int32 → Int32 → sw_I → sw_J → Prop} (hK13 : ∀ (x1 : Int32) (x2 : Int32) (I : sw_I) (J : sw_J), K13 x1 x2 I J → AW l D cy sz RX10 cX10_likely 3 (some .int) false rm_X10_likely 0 0 (sw_qi G Q) 0 0 G I J 13 [(0, .ref (sz + 140)), (1, .int x1), (2, .int x2)] []) {x2 : Int32} {s0 : Int32} {I : sw_I} {J : sw_J} (h : wB_X10_likely_42  K13 Q x2 s0 I J) : AW l D cy sz RX10 cX10_likely 3 (some .int) false rm_X10_likely 0 0 (sw_qi G Q) 0 0 G I J 42 [(0, .ref (sz + 140)), (2, .int x2)] [.int s0] := by
  unfold wB_X10_likely_42 at h
  refine aw_istore_n (lv' := [(1, .int s0), (0, .ref (sz + 140)), (2, .int x2)]) dX10_likely_42 rfl (by decide) rfl ?_
  obtain ⟨y_1, e_2⟩ : ∃ q : Int32, q = x2 + 1 := ⟨_, rfl⟩
  have h := h y_1 e_2
  refine aw_iinc (lv' := [(2, .int y_1), (1, .int s0), (0, .ref (sz + 140))]) 2 dX10_likely_43 rfl (by rw [e_2]; rfl) (by decide) rfl ?_
  refine aw_goto 13 dX10_likely_46 (by decide) ?_
  refine aw_sub [2, 1, 0] rfl ?_
  exact hK13 s0 y_1 I J h
set_option maxRecDepth 20000 in
theorem tb_X10_likely_13 {l : Launch} {D : va_G} {cy : Nat → ClassId} {sz : Nat} {G : sw_G} (hG : sw_lay G)   {Q : Int32 → sw_I → sw_J → Prop} {K13 : Int32 → Int32 → sw_I → sw_J → Prop} (hK13 : ∀ (x1 : Int32) (x2 : Int32) (I : sw_I) (J : sw_J), K13 x1 x2 I J → AW l D cy sz RX10 cX10_likely 3 (some .int) false rm_X10_likely 0 0 (sw_qi G Q) 0 0 G I J 13 [(0, .ref (sz + 140)), (1, .int x1), (2, .int x2)] []) {x1 : Int32} {x2 : Int32} {I : sw_I} {J : sw_J} (h : wb_X10_likely_13  K13 Q x1 x2 I J) : AW l D cy sz RX10 cX10_likely 3 (some .int) false rm_X10_likely 0 0 (sw_qi G Q) 0 0 G I J 13 [(0, .ref (sz + 140)), (1, .int x1), (2, .int x2)] [] := by
  unfold wb_X10_likely_13 at h
  refine aw_iload_n 2 dX10_likely_13 rfl rfl ?_
  refine aw_aload_n 0 dX10_likely_14 rfl rfl ?_
  refine gf_X10_3 fl_X10_22 (lk140 hG) dX10_likely_15 ?_
  refine aw_jge 49 dX10_likely_18 (by decide) (fun c_1 => ?_) (fun c_1 => ?_)
  · have h := sw_if.f h c_1
    refine aw_aload_n 0 dX10_likely_49 rfl rfl ?_
    refine aw_iconst (v := 0) dX10_likely_50 (by decide) ?_
    refine pf_X10_1 fl_X10_15 (lk140 hG) dX10_likely_51 (aw_nameI fun I_2 e_3 => ?_)
    have h := h I_2 e_3
    refine aw_aload_n 0 dX10_likely_54 rfl rfl ?_
    refine aw_aload_n 0 dX10_likely_55 rfl rfl ?_
    refine gf_X10_58 fl_X10_439 (lk140 hG) (lr140_58 hG) dX10_likely_56 ?_
    refine aw_iload_n 1 dX10_likely_59 rfl rfl ?_
    obtain ⟨hi_4, h⟩ := h
    refine aw_lld dX10_likely_60 (lk170 hG) (ln170 hG) hi_4 ?_
    refine aw_ldc2 (v := 10000000000) dX10_likely_61 k_X10_446 ?_
    refine aw_callV wv_X10_entersFraction (M_X10_entersFraction hG  h) ml_X10_451 rfl (by decide) (lk140 hG) rfl rfl (Nat.le_of_ble_eq_true rfl) ⟨rfl, rfl⟩ ⟨Nat.le_of_ble_eq_true rfl, Nat.le_of_ble_eq_true rfl⟩ ⟨Nat.le_refl _, Nat.le_refl _⟩ dX10_likely_64 (aw_kv fun I_6 J_7 h => ?_)
    refine aw_iload_n 1 dX10_likely_67 rfl rfl ?_
    exact aw_iret rfl dX10_likely_68 ⟨rfl, _, rfl, h⟩
  · have h := sw_if.t h c_1
    refine aw_aload_n 0 dX10_likely_21 rfl rfl ?_
    refine gf_X10_58 fl_X10_439 (lk140 hG) (lr140_58 hG) dX10_likely_22 ?_
    refine aw_iload_n 2 dX10_likely_25 rfl rfl ?_
    obtain ⟨hi_8, h⟩ := h
    refine aw_lld dX10_likely_26 (lk170 hG) (ln170 hG) hi_8 ?_
    refine aw_aload_n 0 dX10_likely_27 rfl rfl ?_
    refine gf_X10_58 fl_X10_439 (lk140 hG) (lr140_58 hG) dX10_likely_28 ?_
    refine aw_iload_n 1 dX10_likely_31 rfl rfl ?_
    obtain ⟨hi_9, h⟩ := h
    refine aw_lld dX10_likely_32 (lk170 hG) (ln170 hG) hi_9 ?_
    refine aw_lcmp dX10_likely_33 ?_
    refine aw_zle 41 dX10_likely_34 (by decide) (fun c_10 => ?_) (fun c_10 => ?_)
    · have h := sw_if.f h c_10
      refine aw_iload_n 1 dX10_likely_41 rfl rfl ?_
      refine aw_sub [0, 2] rfl ?_
      exact t_X10_likely_42 hG  hK13 h
    · have h := sw_if.t h c_10
      refine aw_iload_n 2 dX10_likely_37 rfl rfl ?_
      refine aw_goto 42 dX10_likely_38 (by decide) ?_
      refine aw_sub [0, 2] rfl ?_
      exact t_X10_likely_42 hG  hK13 h
set_option maxRecDepth 20000 in
theorem tl_X10_likely_13 {l : Launch} {D : va_G} {cy : Nat → ClassId} {sz : Nat} {G : sw_G} (hG : sw_lay G)   {Q : Int32 → sw_I → sw_J → Prop} : ∀ (n : Nat) (x1 : Int32) (x2 : Int32) (I : sw_I) (J : sw_J), wl_X10_likely_13   Q n x1 x2 I J → AW l D cy sz RX10 cX10_likely 3 (some .int) false rm_X10_likely 0 0 (sw_qi G Q) 0 0 G I J 13 [(0, .ref (sz + 140)), (1, .int x1), (2, .int x2)] [] := by
  intro n
  induction n with
  | zero => intro x1 x2 I J h; exact False.elim h
  | succ n ih => intro x1 x2 I J h; exact tb_X10_likely_13 hG  ih h
set_option maxRecDepth 20000 in
theorem t_X10_likely {l : Launch} {D : va_G} {cy : Nat → ClassId} {sz : Nat} {G : sw_G} (hG : sw_lay G)   {Q : Int32 → sw_I → sw_J → Prop}  {I : sw_I} {J : sw_J} (h : wp_X10_likely  I J Q) : AW l D cy sz RX10 cX10_likely 3 (some .int) false rm_X10_likely 0 0 (sw_qi G Q) 0 0 G I J 0 [(0, .ref (sz + 140))] [] := by
  unfold wp_X10_likely at h
  refine aw_aload_n 0 dX10_likely_0 rfl rfl ?_
  refine aw_iconst (v := 0) dX10_likely_1 (by decide) ?_
  refine pf_X10_0 fl_X10_3 (lk140 hG) dX10_likely_2 (aw_nameI fun I_1 e_2 => ?_)
  have h := h I_1 e_2
  refine aw_aload_n 0 dX10_likely_5 rfl rfl ?_
  refine aw_callV wv_X10_betsAll (M_X10_betsAll hG  h) ml_X10_448 rfl (by decide) (lk140 hG) rfl rfl (Nat.le_of_ble_eq_true rfl) ⟨rfl, rfl⟩ ⟨Nat.le_of_ble_eq_true rfl, Nat.le_of_ble_eq_true rfl⟩ ⟨Nat.le_refl _, Nat.le_refl _⟩ dX10_likely_6 (aw_kv fun I_4 J_5 h => ?_)
  refine aw_iconst (v := 0) dX10_likely_9 (by decide) ?_
  refine aw_istore_n (lv' := [(1, .int 0), (0, .ref (sz + 140))]) dX10_likely_10 rfl (by decide) rfl ?_
  refine aw_iconst (v := 1) dX10_likely_11 (by decide) ?_
  refine aw_istore_n (lv' := [(2, .int 1), (1, .int 0), (0, .ref (sz + 140))]) dX10_likely_12 rfl (by decide) rfl ?_
  refine aw_sub [2, 1, 0] rfl ?_
  obtain ⟨n_6, h⟩ := h
  exact tl_X10_likely_13 hG   n_6 0 1 I_4 J_5 h
theorem M_X10_likely {l : Launch} {D : va_G} {cy : Nat → ClassId} {sz : Nat} {G : sw_G} (hG : sw_lay G)   {Q : Int32 → sw_I → sw_J → Prop}  {I : sw_I} {J : sw_J} (h : wp_X10_likely  I J Q) : Met l yX10_likely (Cond.code yX10_likely cX10_likely 3 (some .int) :: sw_T) rm_X10_likely (sw_Pc D cy sz [.ref (sz + 140)] G I J) (sw_Q D cy sz (sw_qi G Q)) 0 0 (fun q => sz ≤ q) :=
  sw_met (by decide) (fun q => by cases q) (Nat.le_of_ble_eq_true rfl) rfl (t_X10_likely hG  h)
-- X0_act
abbrev rm_X0_act : Room := { frames := 4, cells := 0, slots := 0, locals := 98 }
def wB_X0_act_40 (a2 : Nat)  (Q : Int32 → sw_I → sw_J → Prop) (x4 : Int32) (x5 : Int32) (I : sw_I) (J : sw_J) : Prop :=
  wp_X0_pass a2 x4 x5 I J (fun r_1 I_2 J_3 => (r_1 = 0 ∨ r_1 = 1) ∧ Q r_1 I_2 J_3)
def wb_X0_act_106 (a2 : Nat) (K106 : Int32 → Int32 → sw_I → sw_J → Prop) (Q : Int32 → sw_I → sw_J → Prop) (x6 : Int32) (x7 : Int32) (I : sw_I) (J : sw_J) : Prop :=
  sw_if (x7 < x6) (wp_X1_carry a2 I J (fun r_2 I_3 J_4 => ∀ I_5 : sw_I, I_5 = sw_up I_3 119 1 ((I_3 119 1) + (1 : Int32)) → ∀ I_7 : sw_I, I_7 = sw_up I_5 119 2 ((I_5 119 2) + (1 : Int32)) → ∀ y_9 : Int32, y_9 = x7 + 1 → K106 x6 y_9 I_7 J_4)) (Q 1 I J)
def wl_X0_act_106 (a2 : Nat)  (Q : Int32 → sw_I → sw_J → Prop) : Nat → Int32 → Int32 → sw_I → sw_J → Prop
  | 0 => fun _ _ _ _ => False
  | n + 1 => fun x6 x7 I J => wb_X0_act_106 a2 (wl_X0_act_106 a2  Q n) Q x6 x7 I J
def wB_X0_act_101 (a2 : Nat)  (Q : Int32 → sw_I → sw_J → Prop) (s0 : Int32) (I : sw_I) (J : sw_J) : Prop :=
  ∃ n_1 : Nat, wl_X0_act_106 a2  Q n_1 s0 0 I J
def wp_X0_act (a2 : Nat) (x4 : Int32) (x5 : Int32) (I : sw_I) (J : sw_J) (Q : Int32 → sw_I → sw_J → Prop) : Prop :=
  wp_X8_at x4 I J (fun r_1 I_2 J_3 => sw_if (r_1 = 105) (wB_X0_act_40 a2  Q x4 x5 I_2 J_3) (sw_if (r_1 = 111) (wB_X0_act_40 a2  Q x4 x5 I_2 J_3) (sw_if (r_1 = 119) (wp_X8_at (x4 + (1 : Int32)) I_2 J_3 (fun r_7 I_8 J_9 => wp_X8_at (x4 + (2 : Int32)) I_8 J_9 (fun r_10 I_11 J_12 => wp_X0_wish a2 (r_7 - (97 : Int32)) r_10 I_11 J_12 (fun r_13 I_14 J_15 => (r_13 = 0 ∨ r_13 = 1) ∧ Q r_13 I_14 J_15)))) (sw_if ((x4 + (1 : Int32)) < x5) (wp_X8_at (x4 + (1 : Int32)) I_2 J_3 (fun r_17 I_18 J_19 => wB_X0_act_101 a2  Q (r_17 - (48 : Int32)) I_18 J_19)) (wB_X0_act_101 a2  Q 1 I_2 J_3)))))
set_option maxRecDepth 20000 in
theorem t_X0_act_40 {l : Launch} {D : va_G} {cy : Nat → ClassId} {sz : Nat} {G : sw_G} (hG : sw_lay G) {a2 : Nat} (ha2 : sw_mom G a2) {Q : Int32 → sw_I → sw_J → Prop} {x4 : Int32} {x5 : Int32} {I : sw_I} {J : sw_J} (h : wB_X0_act_40 a2  Q x4 x5 I J) : AW l D cy sz RX0 cX0_act 8 (some .boolean) false rm_X0_act 0 0 (sw_qi G Q) 0 0 G I J 40 [(0, .ref (sz + 119)), (2, .ref (sz + a2)), (3, .ref (sz + 1)), (4, .int x4), (5, .int x5)] [] := by
  unfold wB_X0_act_40 at h
  refine aw_aload_n 0 dX0_act_40 rfl rfl ?_
  refine aw_aload_n 1 dX0_act_41 rfl rfl ?_
  refine aw_aload_n 2 dX0_act_42 rfl rfl ?_
  refine aw_iload 3 dX0_act_43 rfl ?_
  refine aw_iload 4 dX0_act_45 rfl ?_
  refine aw_callV wv_X0_pass (M_X0_pass hG ha2 h) ml_X0_55 rfl (by decide) (lk119 hG) rfl rfl (Nat.le_of_ble_eq_true rfl) ⟨rfl, rfl⟩ ⟨Nat.le_of_ble_eq_true rfl, Nat.le_of_ble_eq_true rfl⟩ ⟨Nat.le_refl _, Nat.le_refl _⟩ dX0_act_47 (aw_ki fun r_1 I_2 J_3 h => ?_)
  exact aw_zret rfl (sw_bool h.1).1 dX0_act_50 ⟨rfl, _, rfl, h.2⟩
set_option maxRecDepth 20000 in
theorem tb_X0_act_106 {l : Launch} {D : va_G} {cy : Nat → ClassId} {sz : Nat} {G : sw_G} (hG : sw_lay G) {a2 : Nat} (ha2 : sw_mom G a2) {Q : Int32 → sw_I → sw_J → Prop} {K106 : Int32 → Int32 → sw_I → sw_J → Prop} (hK106 : ∀ (x6 : Int32) (x7 : Int32) (I : sw_I) (J : sw_J), K106 x6 x7 I J → AW l D cy sz RX0 cX0_act 8 (some .boolean) false rm_X0_act 0 0 (sw_qi G Q) 0 0 G I J 106 [(0, .ref (sz + 119)), (1, .ref (sz + 3)), (2, .ref (sz + a2)), (6, .int x6), (7, .int x7)] []) {x6 : Int32} {x7 : Int32} {I : sw_I} {J : sw_J} (h : wb_X0_act_106 a2 K106 Q x6 x7 I J) : AW l D cy sz RX0 cX0_act 8 (some .boolean) false rm_X0_act 0 0 (sw_qi G Q) 0 0 G I J 106 [(0, .ref (sz + 119)), (1, .ref (sz + 3)), (2, .ref (sz + a2)), (6, .int x6), (7, .int x7)] [] := by
  unfold wb_X0_act_106 at h
  refine aw_iload 4 dX0_act_106 rfl ?_
  refine aw_iload 3 dX0_act_108 rfl ?_
  refine aw_jge 145 dX0_act_110 (by decide) (fun c_1 => ?_) (fun c_1 => ?_)
  · have h := sw_if.f h c_1
    refine aw_iconst (v := 1) dX0_act_145 (by decide) ?_
    exact aw_zret rfl rfl dX0_act_146 ⟨rfl, _, rfl, h⟩
  · have h := sw_if.t h c_1
    refine aw_aload_n 1 dX0_act_113 rfl rfl ?_
    refine aw_aload_n 2 dX0_act_114 rfl rfl ?_
    refine aw_callV wv_X1_carry (M_X1_carry hG ha2 h) ml_X0_63 rfl (by decide) (lk3 hG) rfl rfl (Nat.le_of_ble_eq_true rfl) ⟨rfl, rfl⟩ ⟨Nat.le_of_ble_eq_true rfl, Nat.le_of_ble_eq_true rfl⟩ ⟨Nat.le_refl _, Nat.le_refl _⟩ dX0_act_115 (aw_ki fun r_2 I_3 J_4 h => ?_)
    refine aw_pop dX0_act_118 rfl ?_
    refine aw_aload_n 0 dX0_act_119 rfl rfl ?_
    refine aw_dup dX0_act_120 rfl ?_
    refine gf_X0_1 fl_X0_15 (lk119 hG) dX0_act_121 ?_
    refine aw_iconst (v := 1) dX0_act_124 (by decide) ?_
    refine aw_iadd dX0_act_125 ?_
    refine pf_X0_1 fl_X0_15 (lk119 hG) dX0_act_126 (aw_nameI fun I_5 e_6 => ?_)
    have h := h I_5 e_6
    refine aw_aload_n 0 dX0_act_129 rfl rfl ?_
    refine aw_dup dX0_act_130 rfl ?_
    refine gf_X0_2 fl_X0_18 (lk119 hG) dX0_act_131 ?_
    refine aw_iconst (v := 1) dX0_act_134 (by decide) ?_
    refine aw_iadd dX0_act_135 ?_
    refine pf_X0_2 fl_X0_18 (lk119 hG) dX0_act_136 (aw_nameI fun I_7 e_8 => ?_)
    have h := h I_7 e_8
    obtain ⟨y_9, e_10⟩ : ∃ q : Int32, q = x7 + 1 := ⟨_, rfl⟩
    have h := h y_9 e_10
    refine aw_iinc (lv' := [(7, .int y_9), (0, .ref (sz + 119)), (1, .ref (sz + 3)), (2, .ref (sz + a2)), (6, .int x6)]) 4 dX0_act_139 rfl (by rw [e_10]; rfl) (by decide) rfl ?_
    refine aw_goto 106 dX0_act_142 (by decide) ?_
    refine aw_sub [1, 2, 3, 4, 0] rfl ?_
    exact hK106 x6 y_9 I_7 J_4 h
set_option maxRecDepth 20000 in
theorem tl_X0_act_106 {l : Launch} {D : va_G} {cy : Nat → ClassId} {sz : Nat} {G : sw_G} (hG : sw_lay G) {a2 : Nat} (ha2 : sw_mom G a2) {Q : Int32 → sw_I → sw_J → Prop} : ∀ (n : Nat) (x6 : Int32) (x7 : Int32) (I : sw_I) (J : sw_J), wl_X0_act_106 a2  Q n x6 x7 I J → AW l D cy sz RX0 cX0_act 8 (some .boolean) false rm_X0_act 0 0 (sw_qi G Q) 0 0 G I J 106 [(0, .ref (sz + 119)), (1, .ref (sz + 3)), (2, .ref (sz + a2)), (6, .int x6), (7, .int x7)] [] := by
  intro n
  induction n with
  | zero => intro x6 x7 I J h; exact False.elim h
  | succ n ih => intro x6 x7 I J h; exact tb_X0_act_106 hG ha2 ih h
set_option maxRecDepth 20000 in
theorem t_X0_act_101 {l : Launch} {D : va_G} {cy : Nat → ClassId} {sz : Nat} {G : sw_G} (hG : sw_lay G) {a2 : Nat} (ha2 : sw_mom G a2) {Q : Int32 → sw_I → sw_J → Prop} {s0 : Int32} {I : sw_I} {J : sw_J} (h : wB_X0_act_101 a2  Q s0 I J) : AW l D cy sz RX0 cX0_act 8 (some .boolean) false rm_X0_act 0 0 (sw_qi G Q) 0 0 G I J 101 [(0, .ref (sz + 119)), (1, .ref (sz + 3)), (2, .ref (sz + a2))] [.int s0] := by
  unfold wB_X0_act_101 at h
  refine aw_istore (lv' := [(6, .int s0), (0, .ref (sz + 119)), (1, .ref (sz + 3)), (2, .ref (sz + a2))]) dX0_act_101 (by decide) rfl ?_
  refine aw_iconst (v := 0) dX0_act_103 (by decide) ?_
  refine aw_istore (lv' := [(7, .int 0), (6, .int s0), (0, .ref (sz + 119)), (1, .ref (sz + 3)), (2, .ref (sz + a2))]) dX0_act_104 (by decide) rfl ?_
  refine aw_sub [2, 3, 4, 1, 0] rfl ?_
  obtain ⟨n_1, h⟩ := h
  exact tl_X0_act_106 hG ha2  n_1 s0 0 I J h
set_option maxRecDepth 20000 in
theorem t_X0_act {l : Launch} {D : va_G} {cy : Nat → ClassId} {sz : Nat} {G : sw_G} (hG : sw_lay G) {a2 : Nat} (ha2 : sw_mom G a2) {Q : Int32 → sw_I → sw_J → Prop} {x4 : Int32} {x5 : Int32} {I : sw_I} {J : sw_J} (h : wp_X0_act a2 x4 x5 I J Q) : AW l D cy sz RX0 cX0_act 8 (some .boolean) false rm_X0_act 0 0 (sw_qi G Q) 0 0 G I J 0 [(0, .ref (sz + 119)), (1, .ref (sz + 3)), (2, .ref (sz + a2)), (3, .ref (sz + 1)), (4, .int x4), (5, .int x5)] [] := by
  unfold wp_X0_act at h
  refine aw_aload_n 3 dX0_act_0 rfl rfl ?_
  refine aw_iload 4 dX0_act_1 rfl ?_
  refine aw_callV wv_X8_at (M_X8_at hG  h) ml_X0_32 rfl (by decide) (lk1 hG) rfl rfl (Nat.le_of_ble_eq_true rfl) ⟨rfl, rfl⟩ ⟨Nat.le_of_ble_eq_true rfl, Nat.le_of_ble_eq_true rfl⟩ ⟨Nat.le_refl _, Nat.le_refl _⟩ dX0_act_3 (aw_ki fun r_1 I_2 J_3 h => ?_)
  by_cases c_4 : r_1 = 105
  · have h := sw_if.t h c_4; refine aw_lookup 40 dX0_act_6 (by decide) (by first | (rw [c_4]; done) | (rw [c_4]; rfl)) (by decide) ?_
    refine aw_sub [0, 2, 3, 4, 5] rfl ?_
    exact t_X0_act_40 hG ha2  h
  · have h := sw_if.f h c_4
    by_cases c_5 : r_1 = 111
    · have h := sw_if.t h c_5; refine aw_lookup 40 dX0_act_6 (by decide) (by first | (rw [c_5]; done) | (rw [c_5]; rfl)) (by decide) ?_
      refine aw_sub [0, 2, 3, 4, 5] rfl ?_
      exact t_X0_act_40 hG ha2  h
    · have h := sw_if.f h c_5
      by_cases c_6 : r_1 = 119
      · have h := sw_if.t h c_6; refine aw_lookup 51 dX0_act_6 (by decide) (by first | (rw [c_6]; done) | (rw [c_6]; rfl)) (by decide) ?_
        refine aw_aload_n 0 dX0_act_51 rfl rfl ?_
        refine aw_aload_n 1 dX0_act_52 rfl rfl ?_
        refine aw_aload_n 2 dX0_act_53 rfl rfl ?_
        refine aw_aload_n 3 dX0_act_54 rfl rfl ?_
        refine aw_iload 4 dX0_act_55 rfl ?_
        refine aw_iconst (v := 1) dX0_act_57 (by decide) ?_
        refine aw_iadd dX0_act_58 ?_
        refine aw_callV wv_X8_at (M_X8_at hG  h) ml_X0_32 rfl (by decide) (lk1 hG) rfl rfl (Nat.le_of_ble_eq_true rfl) ⟨rfl, rfl⟩ ⟨Nat.le_of_ble_eq_true rfl, Nat.le_of_ble_eq_true rfl⟩ ⟨Nat.le_refl _, Nat.le_refl _⟩ dX0_act_59 (aw_ki fun r_7 I_8 J_9 h => ?_)
        refine aw_bipush (v := 97) dX0_act_62 (by decide) ?_
        refine aw_isub dX0_act_64 ?_
        refine aw_aload_n 3 dX0_act_65 rfl rfl ?_
        refine aw_iload 4 dX0_act_66 rfl ?_
        refine aw_iconst (v := 2) dX0_act_68 (by decide) ?_
        refine aw_iadd dX0_act_69 ?_
        refine aw_callV wv_X8_at (M_X8_at hG  h) ml_X0_32 rfl (by decide) (lk1 hG) rfl rfl (Nat.le_of_ble_eq_true rfl) ⟨rfl, rfl⟩ ⟨Nat.le_of_ble_eq_true rfl, Nat.le_of_ble_eq_true rfl⟩ ⟨Nat.le_refl _, Nat.le_refl _⟩ dX0_act_70 (aw_ki fun r_10 I_11 J_12 h => ?_)
        refine aw_callV wv_X0_wish (M_X0_wish hG ha2 h) ml_X0_59 rfl (by decide) (lk119 hG) rfl rfl (Nat.le_of_ble_eq_true rfl) ⟨rfl, rfl⟩ ⟨Nat.le_of_ble_eq_true rfl, Nat.le_of_ble_eq_true rfl⟩ ⟨Nat.le_refl _, Nat.le_refl _⟩ dX0_act_73 (aw_ki fun r_13 I_14 J_15 h => ?_)
        exact aw_zret rfl (sw_bool h.1).1 dX0_act_76 ⟨rfl, _, rfl, h.2⟩
      · have h := sw_if.f h c_6
        refine aw_lookup (off := 71) 77 dX0_act_6 (by decide) (by have g0 := sw_ne c_4 (by decide : (105 : Int32).toInt = 105); have g1 := sw_ne c_5 (by decide : (111 : Int32).toInt = 111); have g2 := sw_ne c_6 (by decide : (119 : Int32).toInt = 119); simp [Op.lookupswitch.offset, g0, Ne.symm g0, g1, Ne.symm g1, g2, Ne.symm g2]) (by decide) ?_
        refine aw_iload 4 dX0_act_77 rfl ?_
        refine aw_iconst (v := 1) dX0_act_79 (by decide) ?_
        refine aw_iadd dX0_act_80 ?_
        refine aw_iload 5 dX0_act_81 rfl ?_
        refine aw_jge 100 dX0_act_83 (by decide) (fun c_16 => ?_) (fun c_16 => ?_)
        · have h := sw_if.f h c_16
          refine aw_iconst (v := 1) dX0_act_100 (by decide) ?_
          refine aw_sub [0, 1, 2] rfl ?_
          exact t_X0_act_101 hG ha2  h
        · have h := sw_if.t h c_16
          refine aw_aload_n 3 dX0_act_86 rfl rfl ?_
          refine aw_iload 4 dX0_act_87 rfl ?_
          refine aw_iconst (v := 1) dX0_act_89 (by decide) ?_
          refine aw_iadd dX0_act_90 ?_
          refine aw_callV wv_X8_at (M_X8_at hG  h) ml_X0_32 rfl (by decide) (lk1 hG) rfl rfl (Nat.le_of_ble_eq_true rfl) ⟨rfl, rfl⟩ ⟨Nat.le_of_ble_eq_true rfl, Nat.le_of_ble_eq_true rfl⟩ ⟨Nat.le_refl _, Nat.le_refl _⟩ dX0_act_91 (aw_ki fun r_17 I_18 J_19 h => ?_)
          refine aw_bipush (v := 48) dX0_act_94 (by decide) ?_
          refine aw_isub dX0_act_96 ?_
          refine aw_goto 101 dX0_act_97 (by decide) ?_
          refine aw_sub [0, 1, 2] rfl ?_
          exact t_X0_act_101 hG ha2  h
theorem M_X0_act {l : Launch} {D : va_G} {cy : Nat → ClassId} {sz : Nat} {G : sw_G} (hG : sw_lay G) {a2 : Nat} (ha2 : sw_mom G a2) {Q : Int32 → sw_I → sw_J → Prop} {x4 : Int32} {x5 : Int32} {I : sw_I} {J : sw_J} (h : wp_X0_act a2 x4 x5 I J Q) : Met l yX0_act (Cond.code yX0_act cX0_act 8 (some .boolean) :: sw_T) rm_X0_act (sw_Pc D cy sz [.ref (sz + 119), .ref (sz + 3), .ref (sz + a2), .ref (sz + 1), .int x4, .int x5] G I J) (sw_Q D cy sz (sw_qi G Q)) 0 0 (fun q => sz ≤ q) :=
  sw_met (by decide) (fun q => by cases q) (Nat.le_of_ble_eq_true rfl) rfl (t_X0_act hG ha2 h)
-- X6_seek
abbrev rm_X6_seek : Room := { frames := 4, cells := 0, slots := 0, locals := 102 }
def wB_X6_seek_144 (a2 : Nat) (K81 : Int32 → Int32 → Int32 → Int32 → sw_I → sw_J → Prop) (Q : Int32 → sw_I → sw_J → Prop) (x3 : Int32) (x5 : Int32) (x6 : Int32) (I : sw_I) (J : sw_J) : Prop :=
  wp_X6_goOnFrom x6 I J (fun r_1 I_2 J_3 => ∀ y_4 : Int32, y_4 = x6 + 1 → K81 x3 r_1 x5 y_4 I_2 J_3)
def wb_X6_seek_81 (a2 : Nat) (K81 : Int32 → Int32 → Int32 → Int32 → sw_I → sw_J → Prop) (Q : Int32 → sw_I → sw_J → Prop) (x3 : Int32) (x4 : Int32) (x5 : Int32) (x6 : Int32) (I : sw_I) (J : sw_J) : Prop :=
  sw_if (x6 < (3000 : Int32)) (sw_if (x6 < (I 120 4)) (sw_if (x4 = (-1 : Int32)) (sw_if ((I 120 6) = 0) (sw_if (x6 = x5) (sw_if ((I 120 5) < x3) (∀ I_7 : sw_I, I_7 = sw_up I 120 5 ((I 120 5) + (1 : Int32)) → ∀ y_9 : Int32, y_9 = (I_7 120 4) → wB_X6_seek_144 a2 K81 Q x3 y_9 x6 I_7 J) (Q (-1 : Int32) I J)) (wB_X6_seek_144 a2 K81 Q x3 x5 x6 I J)) (Q x4 I J)) (Q x4 I J)) (Q x4 I J)) (Q x4 I J)
def wl_X6_seek_81 (a2 : Nat)  (Q : Int32 → sw_I → sw_J → Prop) : Nat → Int32 → Int32 → Int32 → Int32 → sw_I → sw_J → Prop
  | 0 => fun _ _ _ _ _ _ => False
  | n + 1 => fun x3 x4 x5 x6 I J => wb_X6_seek_81 a2 (wl_X6_seek_81 a2  Q n) Q x3 x4 x5 x6 I J
def wp_X6_seek (a2 : Nat) (x3 : Int32) (I : sw_I) (J : sw_J) (Q : Int32 → sw_I → sw_J → Prop) : Prop :=
  wp_J7_fill_53178 127 4096 0 I J (fun I_2 J_3 => ∀ I_4 : sw_I, I_4 = sw_up I_2 120 4 (0 : Int32) → ∀ I_6 : sw_I, I_6 = sw_up I_4 120 5 (0 : Int32) → ∀ I_8 : sw_I, I_8 = sw_up I_6 120 6 (0 : Int32) → wp_X3_copy 121 a2 I_8 J_3 (fun I_11 J_12 => ∀ I_13 : sw_I, I_13 = sw_up I_11 121 5 ((I_11 a2 5) - (I_11 a2 5) / (7 : Int32) * (7 : Int32)) → wp_X6_keyOf 121 I_13 J_12 (fun r_15 I_16 J_17 => wp_X6_add r_15 0 0 I_16 J_17 (fun r_18 I_19 J_20 => wp_X6_isWanted r_18 I_19 J_20 (fun r_21 I_22 J_23 => sw_if (r_21 = 0) (∃ n_25 : Nat, wl_X6_seek_81 a2  Q n_25 x3 (-1) 0 0 I_22 J_23) (Q r_18 I_22 J_23))))))
set_option maxRecDepth 20000 in
theorem t_X6_seek_144 {l : Launch} {D : va_G} {cy : Nat → ClassId} {sz : Nat} {G : sw_G} (hG : sw_lay G) {a2 : Nat} (ha2 : sw_mom G a2) {Q : Int32 → sw_I → sw_J → Prop} {K81 : Int32 → Int32 → Int32 → Int32 → sw_I → sw_J → Prop} (hK81 : ∀ (x3 : Int32) (x4 : Int32) (x5 : Int32) (x6 : Int32) (I : sw_I) (J : sw_J), K81 x3 x4 x5 x6 I J → AW l D cy sz RX6 cX6_seek 7 (some .int) false rm_X6_seek 0 0 (sw_qi G Q) 0 0 G I J 81 [(0, .ref (sz + 120)), (1, .ref (sz + 3)), (3, .int x3), (4, .int x4), (5, .int x5), (6, .int x6)] []) {x3 : Int32} {x5 : Int32} {x6 : Int32} {I : sw_I} {J : sw_J} (h : wB_X6_seek_144 a2 K81 Q x3 x5 x6 I J) : AW l D cy sz RX6 cX6_seek 7 (some .int) false rm_X6_seek 0 0 (sw_qi G Q) 0 0 G I J 144 [(0, .ref (sz + 120)), (1, .ref (sz + 3)), (3, .int x3), (5, .int x5), (6, .int x6)] [] := by
  unfold wB_X6_seek_144 at h
  refine aw_aload_n 0 dX6_seek_144 rfl rfl ?_
  refine aw_aload_n 1 dX6_seek_145 rfl rfl ?_
  refine aw_iload 4 dX6_seek_146 rfl ?_
  refine aw_callV wv_X6_goOnFrom (M_X6_goOnFrom hG  h) ml_X6_72 rfl (by decide) (lk120 hG) rfl rfl (Nat.le_of_ble_eq_true rfl) ⟨rfl, rfl⟩ ⟨Nat.le_of_ble_eq_true rfl, Nat.le_of_ble_eq_true rfl⟩ ⟨Nat.le_refl _, Nat.le_refl _⟩ dX6_seek_148 (aw_ki fun r_1 I_2 J_3 h => ?_)
  refine aw_istore (lv' := [(4, .int r_1), (0, .ref (sz + 120)), (1, .ref (sz + 3)), (3, .int x3), (5, .int x5), (6, .int x6)]) dX6_seek_151 (by decide) rfl ?_
  obtain ⟨y_4, e_5⟩ : ∃ q : Int32, q = x6 + 1 := ⟨_, rfl⟩
  have h := h y_4 e_5
  refine aw_iinc (lv' := [(6, .int y_4), (4, .int r_1), (0, .ref (sz + 120)), (1, .ref (sz + 3)), (3, .int x3), (5, .int x5)]) 5 dX6_seek_153 rfl (by rw [e_5]; rfl) (by decide) rfl ?_
  refine aw_goto 81 dX6_seek_156 (by decide) ?_
  refine aw_sub [2, 3, 4, 1, 5, 0] rfl ?_
  exact hK81 x3 r_1 x5 y_4 I_2 J_3 h
set_option maxRecDepth 20000 in
theorem tb_X6_seek_81 {l : Launch} {D : va_G} {cy : Nat → ClassId} {sz : Nat} {G : sw_G} (hG : sw_lay G) {a2 : Nat} (ha2 : sw_mom G a2) {Q : Int32 → sw_I → sw_J → Prop} {K81 : Int32 → Int32 → Int32 → Int32 → sw_I → sw_J → Prop} (hK81 : ∀ (x3 : Int32) (x4 : Int32) (x5 : Int32) (x6 : Int32) (I : sw_I) (J : sw_J), K81 x3 x4 x5 x6 I J → AW l D cy sz RX6 cX6_seek 7 (some .int) false rm_X6_seek 0 0 (sw_qi G Q) 0 0 G I J 81 [(0, .ref (sz + 120)), (1, .ref (sz + 3)), (3, .int x3), (4, .int x4), (5, .int x5), (6, .int x6)] []) {x3 : Int32} {x4 : Int32} {x5 : Int32} {x6 : Int32} {I : sw_I} {J : sw_J} (h : wb_X6_seek_81 a2 K81 Q x3 x4 x5 x6 I J) : AW l D cy sz RX6 cX6_seek 7 (some .int) false rm_X6_seek 0 0 (sw_qi G Q) 0 0 G I J 81 [(0, .ref (sz + 120)), (1, .ref (sz + 3)), (3, .int x3), (4, .int x4), (5, .int x5), (6, .int x6)] [] := by
  unfold wb_X6_seek_81 at h
  refine aw_iload 5 dX6_seek_81 rfl ?_
  refine aw_sipush (v := 3000) dX6_seek_83 (by decide) ?_
  refine aw_jge 159 dX6_seek_86 (by decide) (fun c_1 => ?_) (fun c_1 => ?_)
  · have h := sw_if.f h c_1
    refine aw_iload 3 dX6_seek_159 rfl ?_
    exact aw_iret rfl dX6_seek_161 ⟨rfl, _, rfl, h⟩
  · have h := sw_if.t h c_1
    refine aw_iload 5 dX6_seek_89 rfl ?_
    refine aw_aload_n 0 dX6_seek_91 rfl rfl ?_
    refine gf_X6_4 fl_X6_29 (lk120 hG) dX6_seek_92 ?_
    refine aw_jge 159 dX6_seek_95 (by decide) (fun c_2 => ?_) (fun c_2 => ?_)
    · have h := sw_if.f h c_2
      refine aw_iload 3 dX6_seek_159 rfl ?_
      exact aw_iret rfl dX6_seek_161 ⟨rfl, _, rfl, h⟩
    · have h := sw_if.t h c_2
      refine aw_iload 3 dX6_seek_98 rfl ?_
      refine aw_iconst (v := (-1)) dX6_seek_100 (by decide) ?_
      refine aw_jne 159 dX6_seek_101 (by decide) (fun c_3 => ?_) (fun c_3 => ?_)
      · have h := sw_if.f h c_3
        refine aw_iload 3 dX6_seek_159 rfl ?_
        exact aw_iret rfl dX6_seek_161 ⟨rfl, _, rfl, h⟩
      · have h := sw_if.t h c_3
        refine aw_aload_n 0 dX6_seek_104 rfl rfl ?_
        refine gf_X6_6 fl_X6_36 (lk120 hG) dX6_seek_105 ?_
        refine aw_zne 159 dX6_seek_108 (by decide) (fun c_4 => ?_) (fun c_4 => ?_)
        · have h := sw_if.f h c_4
          refine aw_iload 3 dX6_seek_159 rfl ?_
          exact aw_iret rfl dX6_seek_161 ⟨rfl, _, rfl, h⟩
        · have h := sw_if.t h c_4
          refine aw_iload 5 dX6_seek_111 rfl ?_
          refine aw_iload 4 dX6_seek_113 rfl ?_
          refine aw_jne 144 dX6_seek_115 (by decide) (fun c_5 => ?_) (fun c_5 => ?_)
          · have h := sw_if.f h c_5
            refine aw_sub [0, 1, 2, 4, 5] rfl ?_
            exact t_X6_seek_144 hG ha2 hK81 h
          · have h := sw_if.t h c_5
            refine aw_aload_n 0 dX6_seek_118 rfl rfl ?_
            refine gf_X6_5 fl_X6_33 (lk120 hG) dX6_seek_119 ?_
            refine aw_iload_n 2 dX6_seek_122 rfl rfl ?_
            refine aw_jlt 128 dX6_seek_123 (by decide) (fun c_6 => ?_) (fun c_6 => ?_)
            · have h := sw_if.t h c_6
              refine aw_aload_n 0 dX6_seek_128 rfl rfl ?_
              refine aw_dup dX6_seek_129 rfl ?_
              refine gf_X6_5 fl_X6_33 (lk120 hG) dX6_seek_130 ?_
              refine aw_iconst (v := 1) dX6_seek_133 (by decide) ?_
              refine aw_iadd dX6_seek_134 ?_
              refine pf_X6_5 fl_X6_33 (lk120 hG) dX6_seek_135 (aw_nameI fun I_7 e_8 => ?_)
              have h := h I_7 e_8
              refine aw_aload_n 0 dX6_seek_138 rfl rfl ?_
              refine gf_X6_4 fl_X6_29 (lk120 hG) dX6_seek_139 ?_
              refine aw_topi (fun y_9 e_10 => ?_)
              have h := h y_9 e_10
              refine aw_istore (lv' := [(5, .int y_9), (0, .ref (sz + 120)), (1, .ref (sz + 3)), (3, .int x3), (4, .int x4), (6, .int x6)]) dX6_seek_142 (by decide) rfl ?_
              refine aw_sub [1, 2, 3, 0, 5] rfl ?_
              exact t_X6_seek_144 hG ha2 hK81 h
            · have h := sw_if.f h c_6
              refine aw_iconst (v := (-1)) dX6_seek_126 (by decide) ?_
              exact aw_iret rfl dX6_seek_127 ⟨rfl, _, rfl, h⟩
set_option maxRecDepth 20000 in
theorem tl_X6_seek_81 {l : Launch} {D : va_G} {cy : Nat → ClassId} {sz : Nat} {G : sw_G} (hG : sw_lay G) {a2 : Nat} (ha2 : sw_mom G a2) {Q : Int32 → sw_I → sw_J → Prop} : ∀ (n : Nat) (x3 : Int32) (x4 : Int32) (x5 : Int32) (x6 : Int32) (I : sw_I) (J : sw_J), wl_X6_seek_81 a2  Q n x3 x4 x5 x6 I J → AW l D cy sz RX6 cX6_seek 7 (some .int) false rm_X6_seek 0 0 (sw_qi G Q) 0 0 G I J 81 [(0, .ref (sz + 120)), (1, .ref (sz + 3)), (3, .int x3), (4, .int x4), (5, .int x5), (6, .int x6)] [] := by
  intro n
  induction n with
  | zero => intro x3 x4 x5 x6 I J h; exact False.elim h
  | succ n ih => intro x3 x4 x5 x6 I J h; exact tb_X6_seek_81 hG ha2 ih h
set_option maxRecDepth 20000 in
theorem t_X6_seek {l : Launch} {D : va_G} {cy : Nat → ClassId} {sz : Nat} {G : sw_G} (hG : sw_lay G) {a2 : Nat} (ha2 : sw_mom G a2) {Q : Int32 → sw_I → sw_J → Prop} {x3 : Int32} {I : sw_I} {J : sw_J} (h : wp_X6_seek a2 x3 I J Q) : AW l D cy sz RX6 cX6_seek 7 (some .int) false rm_X6_seek 0 0 (sw_qi G Q) 0 0 G I J 0 [(0, .ref (sz + 120)), (1, .ref (sz + 3)), (2, .ref (sz + a2)), (3, .int x3)] [] := by
  unfold wp_X6_seek at h
  refine aw_aload_n 0 dX6_seek_0 rfl rfl ?_
  refine gf_X6_3 fl_X6_26 (lk120 hG) (lr120_3 hG) dX6_seek_1 ?_
  refine aw_iconst (v := 0) dX6_seek_4 (by decide) ?_
  refine aw_callS wv_J7_fill_53178 (M_J7_fill_53178 trivial ⟨(lk127 hG), (ln127 hG)⟩ h) ml_X6_49 rfl rfl (Nat.le_of_ble_eq_true rfl) ⟨rfl, rfl⟩ ⟨Nat.le_of_ble_eq_true rfl, Nat.le_of_ble_eq_true rfl⟩ ⟨Nat.le_refl _, Nat.le_refl _⟩ dX6_seek_5 (aw_kv fun I_2 J_3 h => ?_)
  refine aw_aload_n 0 dX6_seek_8 rfl rfl ?_
  refine aw_iconst (v := 0) dX6_seek_9 (by decide) ?_
  refine pf_X6_4 fl_X6_29 (lk120 hG) dX6_seek_10 (aw_nameI fun I_4 e_5 => ?_)
  have h := h I_4 e_5
  refine aw_aload_n 0 dX6_seek_13 rfl rfl ?_
  refine aw_iconst (v := 0) dX6_seek_14 (by decide) ?_
  refine pf_X6_5 fl_X6_33 (lk120 hG) dX6_seek_15 (aw_nameI fun I_6 e_7 => ?_)
  have h := h I_6 e_7
  refine aw_aload_n 0 dX6_seek_18 rfl rfl ?_
  refine aw_iconst (v := 0) dX6_seek_19 (by decide) ?_
  refine pf_X6_6 (by decide) fl_X6_36 (lk120 hG) dX6_seek_20 (aw_nameI fun I_8 e_9 => ?_)
  have h := h I_8 e_9
  refine aw_aload_n 0 dX6_seek_23 rfl rfl ?_
  refine gf_X6_0 fl_X6_12 (lk120 hG) (lr120_0 hG) dX6_seek_24 ?_
  refine aw_aload_n 2 dX6_seek_27 rfl rfl ?_
  refine aw_callV wv_X3_copy (M_X3_copy hG (lm121 hG) ha2 h) ml_X6_55 rfl (by decide) (lk121 hG) rfl rfl (Nat.le_of_ble_eq_true rfl) ⟨rfl, rfl⟩ ⟨Nat.le_of_ble_eq_true rfl, Nat.le_of_ble_eq_true rfl⟩ ⟨Nat.le_refl _, Nat.le_refl _⟩ dX6_seek_28 (aw_kv fun I_11 J_12 h => ?_)
  refine aw_aload_n 0 dX6_seek_31 rfl rfl ?_
  refine gf_X6_0 fl_X6_12 (lk120 hG) (lr120_0 hG) dX6_seek_32 ?_
  refine aw_aload_n 2 dX6_seek_35 rfl rfl ?_
  refine gf_X3_5 fl_X6_59 ha2.1 dX6_seek_36 ?_
  refine aw_bipush (v := 7) dX6_seek_39 (by decide) ?_
  refine aw_irem dX6_seek_41 (by decide) ?_
  refine pf_X3_5 fl_X6_59 (lk121 hG) dX6_seek_42 (aw_nameI fun I_13 e_14 => ?_)
  have h := h I_13 e_14
  refine aw_aload_n 0 dX6_seek_45 rfl rfl ?_
  refine aw_aload_n 0 dX6_seek_46 rfl rfl ?_
  refine gf_X6_0 fl_X6_12 (lk120 hG) (lr120_0 hG) dX6_seek_47 ?_
  refine aw_callS wv_X6_keyOf (M_X6_keyOf trivial (lm121 hG) h) ml_X6_60 rfl rfl (Nat.le_of_ble_eq_true rfl) ⟨rfl, rfl⟩ ⟨Nat.le_of_ble_eq_true rfl, Nat.le_of_ble_eq_true rfl⟩ ⟨Nat.le_refl _, Nat.le_refl _⟩ dX6_seek_50 (aw_kl fun r_15 I_16 J_17 h => ?_)
  refine aw_iconst (v := 0) dX6_seek_53 (by decide) ?_
  refine aw_iconst (v := 0) dX6_seek_54 (by decide) ?_
  refine aw_callV wv_X6_add (M_X6_add hG  h) ml_X6_64 rfl (by decide) (lk120 hG) rfl rfl (Nat.le_of_ble_eq_true rfl) ⟨rfl, rfl⟩ ⟨Nat.le_of_ble_eq_true rfl, Nat.le_of_ble_eq_true rfl⟩ ⟨Nat.le_refl _, Nat.le_refl _⟩ dX6_seek_55 (aw_ki fun r_18 I_19 J_20 h => ?_)
  refine aw_istore (lv' := [(4, .int r_18), (0, .ref (sz + 120)), (1, .ref (sz + 3)), (2, .ref (sz + a2)), (3, .int x3)]) dX6_seek_58 (by decide) rfl ?_
  refine aw_aload_n 1 dX6_seek_60 rfl rfl ?_
  refine aw_iload 0 dX6_seek_61 rfl ?_
  refine aw_callV wv_X6_isWanted (M_X6_isWanted hG  h) ml_X6_68 rfl (by decide) (lk120 hG) rfl rfl (Nat.le_of_ble_eq_true rfl) ⟨rfl, rfl⟩ ⟨Nat.le_of_ble_eq_true rfl, Nat.le_of_ble_eq_true rfl⟩ ⟨Nat.le_refl _, Nat.le_refl _⟩ dX6_seek_63 (aw_ki fun r_21 I_22 J_23 h => ?_)
  refine aw_zeq 72 dX6_seek_66 (by decide) (fun c_24 => ?_) (fun c_24 => ?_)
  · have h := sw_if.t h c_24
    refine aw_iconst (v := (-1)) dX6_seek_72 (by decide) ?_
    refine aw_istore (lv' := [(4, .int (-1)), (0, .ref (sz + 120)), (1, .ref (sz + 3)), (2, .ref (sz + a2)), (3, .int x3)]) dX6_seek_73 (by decide) rfl ?_
    refine aw_iconst (v := 0) dX6_seek_75 (by decide) ?_
    refine aw_istore (lv' := [(5, .int 0), (4, .int (-1)), (0, .ref (sz + 120)), (1, .ref (sz + 3)), (2, .ref (sz + a2)), (3, .int x3)]) dX6_seek_76 (by decide) rfl ?_
    refine aw_iconst (v := 0) dX6_seek_78 (by decide) ?_
    refine aw_istore (lv' := [(6, .int 0), (5, .int 0), (4, .int (-1)), (0, .ref (sz + 120)), (1, .ref (sz + 3)), (2, .ref (sz + a2)), (3, .int x3)]) dX6_seek_79 (by decide) rfl ?_
    refine aw_sub [3, 4, 6, 2, 1, 0] rfl ?_
    obtain ⟨n_25, h⟩ := h
    exact tl_X6_seek_81 hG ha2  n_25 x3 (-1) 0 0 I_22 J_23 h
  · have h := sw_if.f h c_24
    refine aw_iload 0 dX6_seek_69 rfl ?_
    exact aw_iret rfl dX6_seek_71 ⟨rfl, _, rfl, h⟩
theorem M_X6_seek {l : Launch} {D : va_G} {cy : Nat → ClassId} {sz : Nat} {G : sw_G} (hG : sw_lay G) {a2 : Nat} (ha2 : sw_mom G a2) {Q : Int32 → sw_I → sw_J → Prop} {x3 : Int32} {I : sw_I} {J : sw_J} (h : wp_X6_seek a2 x3 I J Q) : Met l yX6_seek (Cond.code yX6_seek cX6_seek 7 (some .int) :: sw_T) rm_X6_seek (sw_Pc D cy sz [.ref (sz + 120), .ref (sz + 3), .ref (sz + a2), .int x3] G I J) (sw_Q D cy sz (sw_qi G Q)) 0 0 (fun q => sz ≤ q) :=
  sw_met (by decide) (fun q => by cases q) (Nat.le_of_ble_eq_true rfl) rfl (t_X6_seek hG ha2 h)
-- X9_along
abbrev rm_X9_along : Room := { frames := 4, cells := 0, slots := 0, locals := 102 }
def wp_X9_along (x1 : Int32) (I : sw_I) (J : sw_J) (Q : Int32 → sw_I → sw_J → Prop) : Prop :=
  wp_X3_onFloor 13 (I 13 4) I J (fun r_1 I_2 J_3 => wp_X9_fewestMoved x1 (r_1 &&& ((I_2 13 3) ^^^ (-1 : Int32))) I_2 J_3 (fun r_4 I_5 J_6 => Q r_4 I_5 J_6))
set_option maxRecDepth 20000 in
theorem t_X9_along {l : Launch} {D : va_G} {cy : Nat → ClassId} {sz : Nat} {G : sw_G} (hG : sw_lay G)   {Q : Int32 → sw_I → sw_J → Prop} {x1 : Int32} {I : sw_I} {J : sw_J} (h : wp_X9_along x1 I J Q) : AW l D cy sz RX9 cX9_along 2 (some .int) false rm_X9_along 0 0 (sw_qi G Q) 0 0 G I J 0 [(0, .ref (sz + 0)), (1, .int x1)] [] := by
  unfold wp_X9_along at h
  refine aw_aload_n 0 dX9_along_0 rfl rfl ?_
  refine aw_iload_n 1 dX9_along_1 rfl rfl ?_
  refine aw_aload_n 0 dX9_along_2 rfl rfl ?_
  refine gf_X9_2 fl_X9_26 (lk0 hG) (lr0_2 hG) dX9_along_3 ?_
  refine aw_aload_n 0 dX9_along_6 rfl rfl ?_
  refine gf_X9_2 fl_X9_26 (lk0 hG) (lr0_2 hG) dX9_along_7 ?_
  refine gf_X3_4 fl_X9_97 (lk13 hG) dX9_along_10 ?_
  refine aw_callV wv_X3_onFloor (M_X3_onFloor trivial (lm13 hG) h) ml_X9_222 rfl (by decide) (lk13 hG) rfl rfl (Nat.le_of_ble_eq_true rfl) ⟨rfl, rfl⟩ ⟨Nat.le_of_ble_eq_true rfl, Nat.le_of_ble_eq_true rfl⟩ ⟨Nat.le_refl _, Nat.le_refl _⟩ dX9_along_13 (aw_ki fun r_1 I_2 J_3 h => ?_)
  refine aw_aload_n 0 dX9_along_16 rfl rfl ?_
  refine gf_X9_2 fl_X9_26 (lk0 hG) (lr0_2 hG) dX9_along_17 ?_
  refine gf_X3_3 fl_X9_142 (lk13 hG) dX9_along_20 ?_
  refine aw_iconst (v := (-1)) dX9_along_23 (by decide) ?_
  refine aw_ixor dX9_along_24 ?_
  refine aw_iand dX9_along_25 ?_
  refine aw_callV wv_X9_fewestMoved (M_X9_fewestMoved hG  h) ml_X9_256 rfl (by decide) (lk0 hG) rfl rfl (Nat.le_of_ble_eq_true rfl) ⟨rfl, rfl⟩ ⟨Nat.le_of_ble_eq_true rfl, Nat.le_of_ble_eq_true rfl⟩ ⟨Nat.le_refl _, Nat.le_refl _⟩ dX9_along_26 (aw_ki fun r_4 I_5 J_6 h => ?_)
  exact aw_iret rfl dX9_along_29 ⟨rfl, _, rfl, h⟩
theorem M_X9_along {l : Launch} {D : va_G} {cy : Nat → ClassId} {sz : Nat} {G : sw_G} (hG : sw_lay G)   {Q : Int32 → sw_I → sw_J → Prop} {x1 : Int32} {I : sw_I} {J : sw_J} (h : wp_X9_along x1 I J Q) : Met l yX9_along (Cond.code yX9_along cX9_along 2 (some .int) :: sw_T) rm_X9_along (sw_Pc D cy sz [.ref (sz + 0), .int x1] G I J) (sw_Q D cy sz (sw_qi G Q)) 0 0 (fun q => sz ≤ q) :=
  sw_met (by decide) (fun q => by cases q) (Nat.le_of_ble_eq_true rfl) rfl (t_X9_along hG  h)
-- X9_without
abbrev rm_X9_without : Room := { frames := 4, cells := 0, slots := 0, locals := 102 }
def wp_X9_without (x1 : Int32) (I : sw_I) (J : sw_J) (Q : Int32 → sw_I → sw_J → Prop) : Prop :=
  wp_X9_fewestMoved x1 (I 13 3) I J (fun r_1 I_2 J_3 => Q r_1 I_2 J_3)
set_option maxRecDepth 20000 in
theorem t_X9_without {l : Launch} {D : va_G} {cy : Nat → ClassId} {sz : Nat} {G : sw_G} (hG : sw_lay G)   {Q : Int32 → sw_I → sw_J → Prop} {x1 : Int32} {I : sw_I} {J : sw_J} (h : wp_X9_without x1 I J Q) : AW l D cy sz RX9 cX9_without 2 (some .int) false rm_X9_without 0 0 (sw_qi G Q) 0 0 G I J 0 [(0, .ref (sz + 0)), (1, .int x1)] [] := by
  unfold wp_X9_without at h
  refine aw_aload_n 0 dX9_without_0 rfl rfl ?_
  refine aw_iload_n 1 dX9_without_1 rfl rfl ?_
  refine aw_aload_n 0 dX9_without_2 rfl rfl ?_
  refine gf_X9_2 fl_X9_26 (lk0 hG) (lr0_2 hG) dX9_without_3 ?_
  refine gf_X3_3 fl_X9_142 (lk13 hG) dX9_without_6 ?_
  refine aw_callV wv_X9_fewestMoved (M_X9_fewestMoved hG  h) ml_X9_256 rfl (by decide) (lk0 hG) rfl rfl (Nat.le_of_ble_eq_true rfl) ⟨rfl, rfl⟩ ⟨Nat.le_of_ble_eq_true rfl, Nat.le_of_ble_eq_true rfl⟩ ⟨Nat.le_refl _, Nat.le_refl _⟩ dX9_without_9 (aw_ki fun r_1 I_2 J_3 h => ?_)
  exact aw_iret rfl dX9_without_12 ⟨rfl, _, rfl, h⟩
theorem M_X9_without {l : Launch} {D : va_G} {cy : Nat → ClassId} {sz : Nat} {G : sw_G} (hG : sw_lay G)   {Q : Int32 → sw_I → sw_J → Prop} {x1 : Int32} {I : sw_I} {J : sw_J} (h : wp_X9_without x1 I J Q) : Met l yX9_without (Cond.code yX9_without cX9_without 2 (some .int) :: sw_T) rm_X9_without (sw_Pc D cy sz [.ref (sz + 0), .int x1] G I J) (sw_Q D cy sz (sw_qi G Q)) 0 0 (fun q => sz ≤ q) :=
  sw_met (by decide) (fun q => by cases q) (Nat.le_of_ble_eq_true rfl) rfl (t_X9_without hG  h)
-- X9_advise
abbrev rm_X9_advise : Room := { frames := 5, cells := 0, slots := 0, locals := 125 }
def wp_X9_advise (x1 : Int32) (I : sw_I) (J : sw_J) (Q : Int32 → sw_I → sw_J → Prop) : Prop :=
  wp_X3_isIn 13 x1 I J (fun r_1 I_2 J_3 => sw_if (r_1 = 0) (Q (-2 : Int32) I_2 J_3) (wp_X3_copy 17 13 I_2 J_3 (fun I_6 J_7 => wp_X9_bestWish 17 x1 I_6 J_7 (fun r_8 I_9 J_10 => wp_X9_clearRow  I_9 J_10 (fun I_12 J_13 => wp_X9_distanceBy 17 x1 r_8 I_12 J_13 (fun r_14 I_15 J_16 => wp_X9_tell r_14.toInt64 I_15 J_16 (fun I_18 J_19 => Q r_8 I_18 J_19)))))))
set_option maxRecDepth 20000 in
theorem t_X9_advise {l : Launch} {D : va_G} {cy : Nat → ClassId} {sz : Nat} {G : sw_G} (hG : sw_lay G)   {Q : Int32 → sw_I → sw_J → Prop} {x1 : Int32} {I : sw_I} {J : sw_J} (h : wp_X9_advise x1 I J Q) : AW l D cy sz RX9 cX9_advise 3 (some .int) false rm_X9_advise 0 0 (sw_qi G Q) 0 0 G I J 0 [(0, .ref (sz + 0)), (1, .int x1)] [] := by
  unfold wp_X9_advise at h
  refine aw_aload_n 0 dX9_advise_0 rfl rfl ?_
  refine gf_X9_2 fl_X9_26 (lk0 hG) (lr0_2 hG) dX9_advise_1 ?_
  refine aw_iload_n 1 dX9_advise_4 rfl rfl ?_
  refine aw_callV wv_X3_isIn (M_X3_isIn trivial (lm13 hG) h) ml_X9_185 rfl (by decide) (lk13 hG) rfl rfl (Nat.le_of_ble_eq_true rfl) ⟨rfl, rfl⟩ ⟨Nat.le_of_ble_eq_true rfl, Nat.le_of_ble_eq_true rfl⟩ ⟨Nat.le_refl _, Nat.le_refl _⟩ dX9_advise_5 (aw_ki fun r_1 I_2 J_3 h => ?_)
  refine aw_zne 14 dX9_advise_8 (by decide) (fun c_4 => ?_) (fun c_4 => ?_)
  · have h := sw_if.f h c_4
    refine aw_aload_n 0 dX9_advise_14 rfl rfl ?_
    refine gf_X9_3 fl_X9_30 (lk0 hG) (lr0_3 hG) dX9_advise_15 ?_
    refine aw_aload_n 0 dX9_advise_18 rfl rfl ?_
    refine gf_X9_2 fl_X9_26 (lk0 hG) (lr0_2 hG) dX9_advise_19 ?_
    refine aw_callV wv_X3_copy (M_X3_copy hG (lm17 hG) (lm13 hG) h) ml_X9_259 rfl (by decide) (lk17 hG) rfl rfl (Nat.le_of_ble_eq_true rfl) ⟨rfl, rfl⟩ ⟨Nat.le_of_ble_eq_true rfl, Nat.le_of_ble_eq_true rfl⟩ ⟨Nat.le_refl _, Nat.le_refl _⟩ dX9_advise_22 (aw_kv fun I_6 J_7 h => ?_)
    refine aw_aload_n 0 dX9_advise_25 rfl rfl ?_
    refine aw_aload_n 0 dX9_advise_26 rfl rfl ?_
    refine gf_X9_3 fl_X9_30 (lk0 hG) (lr0_3 hG) dX9_advise_27 ?_
    refine aw_iload_n 1 dX9_advise_30 rfl rfl ?_
    refine aw_callV wv_X9_bestWish (M_X9_bestWish hG (lm17 hG) h) ml_X9_262 rfl (by decide) (lk0 hG) rfl rfl (Nat.le_of_ble_eq_true rfl) ⟨rfl, rfl⟩ ⟨Nat.le_of_ble_eq_true rfl, Nat.le_of_ble_eq_true rfl⟩ ⟨Nat.le_refl _, Nat.le_refl _⟩ dX9_advise_31 (aw_ki fun r_8 I_9 J_10 h => ?_)
    refine aw_istore_n (lv' := [(2, .int r_8), (0, .ref (sz + 0)), (1, .int x1)]) dX9_advise_34 rfl (by decide) rfl ?_
    refine aw_aload_n 1 dX9_advise_35 rfl rfl ?_
    refine aw_callV wv_X9_clearRow (M_X9_clearRow hG  h) ml_X9_192 rfl (by decide) (lk0 hG) rfl rfl (Nat.le_of_ble_eq_true rfl) ⟨rfl, rfl⟩ ⟨Nat.le_of_ble_eq_true rfl, Nat.le_of_ble_eq_true rfl⟩ ⟨Nat.le_refl _, Nat.le_refl _⟩ dX9_advise_36 (aw_kv fun I_12 J_13 h => ?_)
    refine aw_aload_n 1 dX9_advise_39 rfl rfl ?_
    refine aw_aload_n 1 dX9_advise_40 rfl rfl ?_
    refine aw_aload_n 1 dX9_advise_41 rfl rfl ?_
    refine gf_X9_3 fl_X9_30 (lk0 hG) (lr0_3 hG) dX9_advise_42 ?_
    refine aw_iload_n 2 dX9_advise_45 rfl rfl ?_
    refine aw_iload_n 0 dX9_advise_46 rfl rfl ?_
    refine aw_callV wv_X9_distanceBy (M_X9_distanceBy hG (lm17 hG) h) ml_X9_265 rfl (by decide) (lk0 hG) rfl rfl (Nat.le_of_ble_eq_true rfl) ⟨rfl, rfl⟩ ⟨Nat.le_of_ble_eq_true rfl, Nat.le_of_ble_eq_true rfl⟩ ⟨Nat.le_refl _, Nat.le_refl _⟩ dX9_advise_47 (aw_ki fun r_14 I_15 J_16 h => ?_)
    refine aw_i2l dX9_advise_50 ?_
    refine aw_callV wv_X9_tell (M_X9_tell hG  h) ml_X9_195 rfl (by decide) (lk0 hG) rfl rfl (Nat.le_of_ble_eq_true rfl) ⟨rfl, rfl⟩ ⟨Nat.le_of_ble_eq_true rfl, Nat.le_of_ble_eq_true rfl⟩ ⟨Nat.le_refl _, Nat.le_refl _⟩ dX9_advise_51 (aw_kv fun I_18 J_19 h => ?_)
    refine aw_iload_n 0 dX9_advise_54 rfl rfl ?_
    exact aw_iret rfl dX9_advise_55 ⟨rfl, _, rfl, h⟩
  · have h := sw_if.t h c_4
    refine aw_bipush (v := (-2)) dX9_advise_11 (by decide) ?_
    exact aw_iret rfl dX9_advise_13 ⟨rfl, _, rfl, h⟩
theorem M_X9_advise {l : Launch} {D : va_G} {cy : Nat → ClassId} {sz : Nat} {G : sw_G} (hG : sw_lay G)   {Q : Int32 → sw_I → sw_J → Prop} {x1 : Int32} {I : sw_I} {J : sw_J} (h : wp_X9_advise x1 I J Q) : Met l yX9_advise (Cond.code yX9_advise cX9_advise 3 (some .int) :: sw_T) rm_X9_advise (sw_Pc D cy sz [.ref (sz + 0), .int x1] G I J) (sw_Q D cy sz (sw_qi G Q)) 0 0 (fun q => sz ≤ q) :=
  sw_met (by decide) (fun q => by cases q) (Nat.le_of_ble_eq_true rfl) rfl (t_X9_advise hG  h)
-- X9_rests
abbrev rm_X9_rests : Room := { frames := 6, cells := 0, slots := 0, locals := 149 }
def wb_X9_rests_102  (K102 : Int32 → Int32 → sw_I → sw_J → Prop) (Q : Int32 → sw_I → sw_J → Prop) (x2 : Int32) (x4 : Int32) (I : sw_I) (J : sw_J) : Prop :=
  sw_if (x4 < (I 3 2)) (vp_in x4 10 ∧ wp_X9_tell ((I 19 x4.toNatClampNeg).toInt64) I J (fun I_4 J_5 => ∀ y_6 : Int32, y_6 = x4 + 1 → K102 x2 y_6 I_4 J_5)) (Q x2 I J)
def wl_X9_rests_102   (Q : Int32 → sw_I → sw_J → Prop) : Nat → Int32 → Int32 → sw_I → sw_J → Prop
  | 0 => fun _ _ _ _ => False
  | n + 1 => fun x2 x4 I J => wb_X9_rests_102  (wl_X9_rests_102   Q n) Q x2 x4 I J
def wB_X9_rests_73   (Q : Int32 → sw_I → sw_J → Prop) (x2 : Int32) (t1 : Int64) (I : sw_I) (J : sw_J) : Prop :=
  wp_X9_tell t1 I J (fun I_2 J_3 => wp_X1_nextStop 17 (I_2 17 3) I_2 J_3 (fun r_4 I_5 J_6 => wp_X9_tell r_4.toInt64 I_5 J_6 (fun I_8 J_9 => ∃ n_10 : Nat, wl_X9_rests_102   Q n_10 x2 0 I_8 J_9)))
def wB_X9_rests_59   (Q : Int32 → sw_I → sw_J → Prop) (x2 : Int32) (x3 : Int32) (I : sw_I) (J : sw_J) : Prop :=
  wp_X9_clearRow  I J (fun I_2 J_3 => sw_if (x3 = 0) (wB_X9_rests_73   Q x2 0 I_2 J_3) (wB_X9_rests_73   Q x2 1 I_2 J_3))
def wB_X9_rests_52  (K27 : Int32 → Int32 → Int32 → sw_I → sw_J → Prop) (Q : Int32 → sw_I → sw_J → Prop) (x1 : Int32) (x2 : Int32) (s0 : Int32) (I : sw_I) (J : sw_J) : Prop :=
  ∀ y_1 : Int32, y_1 = x2 + 1 → K27 x1 y_1 s0 I J
def wb_X9_rests_27  (K27 : Int32 → Int32 → Int32 → sw_I → sw_J → Prop) (Q : Int32 → sw_I → sw_J → Prop) (x1 : Int32) (x2 : Int32) (x3 : Int32) (I : sw_I) (J : sw_J) : Prop :=
  sw_if (x2 < x1) (sw_if (x3 = 0) (wp_X9_tellAnew 17 I J (fun r_3 I_4 J_5 => sw_if (r_3 = 0) (wB_X9_rests_52  K27 Q x1 x2 1 I_4 J_5) (wB_X9_rests_52  K27 Q x1 x2 0 I_4 J_5))) (wB_X9_rests_59   Q x2 x3 I J)) (wB_X9_rests_59   Q x2 x3 I J)
def wl_X9_rests_27   (Q : Int32 → sw_I → sw_J → Prop) : Nat → Int32 → Int32 → Int32 → sw_I → sw_J → Prop
  | 0 => fun _ _ _ _ _ => False
  | n + 1 => fun x1 x2 x3 I J => wb_X9_rests_27  (wl_X9_rests_27   Q n) Q x1 x2 x3 I J
def wp_X9_rests (x1 : Int32) (I : sw_I) (J : sw_J) (Q : Int32 → sw_I → sw_J → Prop) : Prop :=
  sw_if (x1 < 0) (Q (-1 : Int32) I J) (sw_if ((30 : Int32) < x1) (Q (-1 : Int32) I J) (wp_X3_copy 17 13 I J (fun I_4 J_5 => ∃ n_6 : Nat, wl_X9_rests_27   Q n_6 x1 0 0 I_4 J_5)))
set_option maxRecDepth 20000 in
theorem tb_X9_rests_102 {l : Launch} {D : va_G} {cy : Nat → ClassId} {sz : Nat} {G : sw_G} (hG : sw_lay G)   {Q : Int32 → sw_I → sw_J → Prop} {K102 : Int32 → Int32 → sw_I → sw_J → Prop} (hK102 : ∀ (x2 : Int32) (x4 : Int32) (I : sw_I) (J : sw_J), K102 x2 x4 I J → AW l D cy sz RX9 cX9_rests 5 (some .int) false rm_X9_rests 0 0 (sw_qi G Q) 0 0 G I J 102 [(0, .ref (sz + 0)), (2, .int x2), (4, .int x4)] []) {x2 : Int32} {x4 : Int32} {I : sw_I} {J : sw_J} (h : wb_X9_rests_102  K102 Q x2 x4 I J) : AW l D cy sz RX9 cX9_rests 5 (some .int) false rm_X9_rests 0 0 (sw_qi G Q) 0 0 G I J 102 [(0, .ref (sz + 0)), (2, .int x2), (4, .int x4)] [] := by
  unfold wb_X9_rests_102 at h
  refine aw_iload 2 dX9_rests_102 rfl ?_
  refine aw_aload_n 0 dX9_rests_104 rfl rfl ?_
  refine gf_X9_1 fl_X9_19 (lk0 hG) (lr0_1 hG) dX9_rests_105 ?_
  refine gf_X1_2 fl_X9_154 (lk3 hG) dX9_rests_108 ?_
  refine aw_jge 135 dX9_rests_111 (by decide) (fun c_1 => ?_) (fun c_1 => ?_)
  · have h := sw_if.f h c_1
    refine aw_iload_n 1 dX9_rests_135 rfl rfl ?_
    exact aw_iret rfl dX9_rests_136 ⟨rfl, _, rfl, h⟩
  · have h := sw_if.t h c_1
    refine aw_aload_n 0 dX9_rests_114 rfl rfl ?_
    refine aw_aload_n 0 dX9_rests_115 rfl rfl ?_
    refine gf_X9_3 fl_X9_30 (lk0 hG) (lr0_3 hG) dX9_rests_116 ?_
    refine gf_X3_1 fl_X9_133 (lk17 hG) (lr17_1 hG) dX9_rests_119 ?_
    refine aw_iload 2 dX9_rests_122 rfl ?_
    obtain ⟨hi_2, h⟩ := h
    refine aw_ild dX9_rests_124 (lk19 hG) (ln19 hG) hi_2 ?_
    refine aw_i2l dX9_rests_125 ?_
    refine aw_callV wv_X9_tell (M_X9_tell hG  h) ml_X9_195 rfl (by decide) (lk0 hG) rfl rfl (Nat.le_of_ble_eq_true rfl) ⟨rfl, rfl⟩ ⟨Nat.le_of_ble_eq_true rfl, Nat.le_of_ble_eq_true rfl⟩ ⟨Nat.le_refl _, Nat.le_refl _⟩ dX9_rests_126 (aw_kv fun I_4 J_5 h => ?_)
    obtain ⟨y_6, e_7⟩ : ∃ q : Int32, q = x4 + 1 := ⟨_, rfl⟩
    have h := h y_6 e_7
    refine aw_iinc (lv' := [(4, .int y_6), (0, .ref (sz + 0)), (2, .int x2)]) 2 dX9_rests_129 rfl (by rw [e_7]; rfl) (by decide) rfl ?_
    refine aw_goto 102 dX9_rests_132 (by decide) ?_
    refine aw_sub [1, 2, 0] rfl ?_
    exact hK102 x2 y_6 I_4 J_5 h
set_option maxRecDepth 20000 in
theorem tl_X9_rests_102 {l : Launch} {D : va_G} {cy : Nat → ClassId} {sz : Nat} {G : sw_G} (hG : sw_lay G)   {Q : Int32 → sw_I → sw_J → Prop} : ∀ (n : Nat) (x2 : Int32) (x4 : Int32) (I : sw_I) (J : sw_J), wl_X9_rests_102   Q n x2 x4 I J → AW l D cy sz RX9 cX9_rests 5 (some .int) false rm_X9_rests 0 0 (sw_qi G Q) 0 0 G I J 102 [(0, .ref (sz + 0)), (2, .int x2), (4, .int x4)] [] := by
  intro n
  induction n with
  | zero => intro x2 x4 I J h; exact False.elim h
  | succ n ih => intro x2 x4 I J h; exact tb_X9_rests_102 hG  ih h
set_option maxRecDepth 20000 in
theorem t_X9_rests_73 {l : Launch} {D : va_G} {cy : Nat → ClassId} {sz : Nat} {G : sw_G} (hG : sw_lay G)   {Q : Int32 → sw_I → sw_J → Prop} {x2 : Int32} {t1 : Int64} {I : sw_I} {J : sw_J} (h : wB_X9_rests_73   Q x2 t1 I J) : AW l D cy sz RX9 cX9_rests 5 (some .int) false rm_X9_rests 0 0 (sw_qi G Q) 0 0 G I J 73 [(0, .ref (sz + 0)), (2, .int x2)] [.long t1, .ref (sz + 0)] := by
  unfold wB_X9_rests_73 at h
  refine aw_callV wv_X9_tell (M_X9_tell hG  h) ml_X9_195 rfl (by decide) (lk0 hG) rfl rfl (Nat.le_of_ble_eq_true rfl) ⟨rfl, rfl⟩ ⟨Nat.le_of_ble_eq_true rfl, Nat.le_of_ble_eq_true rfl⟩ ⟨Nat.le_refl _, Nat.le_refl _⟩ dX9_rests_73 (aw_kv fun I_2 J_3 h => ?_)
  refine aw_aload_n 0 dX9_rests_76 rfl rfl ?_
  refine aw_aload_n 0 dX9_rests_77 rfl rfl ?_
  refine gf_X9_1 fl_X9_19 (lk0 hG) (lr0_1 hG) dX9_rests_78 ?_
  refine aw_aload_n 0 dX9_rests_81 rfl rfl ?_
  refine gf_X9_3 fl_X9_30 (lk0 hG) (lr0_3 hG) dX9_rests_82 ?_
  refine aw_aload_n 0 dX9_rests_85 rfl rfl ?_
  refine gf_X9_3 fl_X9_30 (lk0 hG) (lr0_3 hG) dX9_rests_86 ?_
  refine gf_X3_3 fl_X9_142 (lk17 hG) dX9_rests_89 ?_
  refine aw_callV wv_X1_nextStop (M_X1_nextStop hG (lm17 hG) h) ml_X9_218 rfl (by decide) (lk3 hG) rfl rfl (Nat.le_of_ble_eq_true rfl) ⟨rfl, rfl⟩ ⟨Nat.le_of_ble_eq_true rfl, Nat.le_of_ble_eq_true rfl⟩ ⟨Nat.le_refl _, Nat.le_refl _⟩ dX9_rests_92 (aw_ki fun r_4 I_5 J_6 h => ?_)
  refine aw_i2l dX9_rests_95 ?_
  refine aw_callV wv_X9_tell (M_X9_tell hG  h) ml_X9_195 rfl (by decide) (lk0 hG) rfl rfl (Nat.le_of_ble_eq_true rfl) ⟨rfl, rfl⟩ ⟨Nat.le_of_ble_eq_true rfl, Nat.le_of_ble_eq_true rfl⟩ ⟨Nat.le_refl _, Nat.le_refl _⟩ dX9_rests_96 (aw_kv fun I_8 J_9 h => ?_)
  refine aw_iconst (v := 0) dX9_rests_99 (by decide) ?_
  refine aw_istore (lv' := [(4, .int 0), (0, .ref (sz + 0)), (2, .int x2)]) dX9_rests_100 (by decide) rfl ?_
  refine aw_sub [1, 2, 0] rfl ?_
  obtain ⟨n_10, h⟩ := h
  exact tl_X9_rests_102 hG   n_10 x2 0 I_8 J_9 h
set_option maxRecDepth 20000 in
theorem t_X9_rests_59 {l : Launch} {D : va_G} {cy : Nat → ClassId} {sz : Nat} {G : sw_G} (hG : sw_lay G)   {Q : Int32 → sw_I → sw_J → Prop} {x2 : Int32} {x3 : Int32} {I : sw_I} {J : sw_J} (h : wB_X9_rests_59   Q x2 x3 I J) : AW l D cy sz RX9 cX9_rests 5 (some .int) false rm_X9_rests 0 0 (sw_qi G Q) 0 0 G I J 59 [(0, .ref (sz + 0)), (2, .int x2), (3, .int x3)] [] := by
  unfold wB_X9_rests_59 at h
  refine aw_aload_n 0 dX9_rests_59 rfl rfl ?_
  refine aw_callV wv_X9_clearRow (M_X9_clearRow hG  h) ml_X9_192 rfl (by decide) (lk0 hG) rfl rfl (Nat.le_of_ble_eq_true rfl) ⟨rfl, rfl⟩ ⟨Nat.le_of_ble_eq_true rfl, Nat.le_of_ble_eq_true rfl⟩ ⟨Nat.le_refl _, Nat.le_refl _⟩ dX9_rests_60 (aw_kv fun I_2 J_3 h => ?_)
  refine aw_aload_n 0 dX9_rests_63 rfl rfl ?_
  refine aw_iload_n 2 dX9_rests_64 rfl rfl ?_
  refine aw_zeq 72 dX9_rests_65 (by decide) (fun c_4 => ?_) (fun c_4 => ?_)
  · have h := sw_if.t h c_4
    refine aw_lconst (v := 0) dX9_rests_72 (by decide) ?_
    refine aw_sub [0, 1] rfl ?_
    exact t_X9_rests_73 hG   h
  · have h := sw_if.f h c_4
    refine aw_lconst (v := 1) dX9_rests_68 (by decide) ?_
    refine aw_goto 73 dX9_rests_69 (by decide) ?_
    refine aw_sub [0, 1] rfl ?_
    exact t_X9_rests_73 hG   h
set_option maxRecDepth 20000 in
theorem t_X9_rests_52 {l : Launch} {D : va_G} {cy : Nat → ClassId} {sz : Nat} {G : sw_G} (hG : sw_lay G)   {Q : Int32 → sw_I → sw_J → Prop} {K27 : Int32 → Int32 → Int32 → sw_I → sw_J → Prop} (hK27 : ∀ (x1 : Int32) (x2 : Int32) (x3 : Int32) (I : sw_I) (J : sw_J), K27 x1 x2 x3 I J → AW l D cy sz RX9 cX9_rests 5 (some .int) false rm_X9_rests 0 0 (sw_qi G Q) 0 0 G I J 27 [(0, .ref (sz + 0)), (1, .int x1), (2, .int x2), (3, .int x3)] []) {x1 : Int32} {x2 : Int32} {s0 : Int32} {I : sw_I} {J : sw_J} (h : wB_X9_rests_52  K27 Q x1 x2 s0 I J) : AW l D cy sz RX9 cX9_rests 5 (some .int) false rm_X9_rests 0 0 (sw_qi G Q) 0 0 G I J 52 [(0, .ref (sz + 0)), (1, .int x1), (2, .int x2)] [.int s0] := by
  unfold wB_X9_rests_52 at h
  refine aw_istore_n (lv' := [(3, .int s0), (0, .ref (sz + 0)), (1, .int x1), (2, .int x2)]) dX9_rests_52 rfl (by decide) rfl ?_
  obtain ⟨y_1, e_2⟩ : ∃ q : Int32, q = x2 + 1 := ⟨_, rfl⟩
  have h := h y_1 e_2
  refine aw_iinc (lv' := [(2, .int y_1), (3, .int s0), (0, .ref (sz + 0)), (1, .int x1)]) 3 dX9_rests_53 rfl (by rw [e_2]; rfl) (by decide) rfl ?_
  refine aw_goto 27 dX9_rests_56 (by decide) ?_
  refine aw_sub [2, 3, 0, 1] rfl ?_
  exact hK27 x1 y_1 s0 I J h
set_option maxRecDepth 20000 in
theorem tb_X9_rests_27 {l : Launch} {D : va_G} {cy : Nat → ClassId} {sz : Nat} {G : sw_G} (hG : sw_lay G)   {Q : Int32 → sw_I → sw_J → Prop} {K27 : Int32 → Int32 → Int32 → sw_I → sw_J → Prop} (hK27 : ∀ (x1 : Int32) (x2 : Int32) (x3 : Int32) (I : sw_I) (J : sw_J), K27 x1 x2 x3 I J → AW l D cy sz RX9 cX9_rests 5 (some .int) false rm_X9_rests 0 0 (sw_qi G Q) 0 0 G I J 27 [(0, .ref (sz + 0)), (1, .int x1), (2, .int x2), (3, .int x3)] []) {x1 : Int32} {x2 : Int32} {x3 : Int32} {I : sw_I} {J : sw_J} (h : wb_X9_rests_27  K27 Q x1 x2 x3 I J) : AW l D cy sz RX9 cX9_rests 5 (some .int) false rm_X9_rests 0 0 (sw_qi G Q) 0 0 G I J 27 [(0, .ref (sz + 0)), (1, .int x1), (2, .int x2), (3, .int x3)] [] := by
  unfold wb_X9_rests_27 at h
  refine aw_iload_n 2 dX9_rests_27 rfl rfl ?_
  refine aw_iload_n 1 dX9_rests_28 rfl rfl ?_
  refine aw_jge 59 dX9_rests_29 (by decide) (fun c_1 => ?_) (fun c_1 => ?_)
  · have h := sw_if.f h c_1
    refine aw_sub [0, 2, 3] rfl ?_
    exact t_X9_rests_59 hG   h
  · have h := sw_if.t h c_1
    refine aw_iload_n 3 dX9_rests_32 rfl rfl ?_
    refine aw_zne 59 dX9_rests_33 (by decide) (fun c_2 => ?_) (fun c_2 => ?_)
    · have h := sw_if.f h c_2
      refine aw_sub [0, 2, 3] rfl ?_
      exact t_X9_rests_59 hG   h
    · have h := sw_if.t h c_2
      refine aw_aload_n 0 dX9_rests_36 rfl rfl ?_
      refine aw_aload_n 0 dX9_rests_37 rfl rfl ?_
      refine gf_X9_3 fl_X9_30 (lk0 hG) (lr0_3 hG) dX9_rests_38 ?_
      refine aw_callV wv_X9_tellAnew (M_X9_tellAnew hG (lm17 hG) h) ml_X9_269 rfl (by decide) (lk0 hG) rfl rfl (Nat.le_of_ble_eq_true rfl) ⟨rfl, rfl⟩ ⟨Nat.le_of_ble_eq_true rfl, Nat.le_of_ble_eq_true rfl⟩ ⟨Nat.le_refl _, Nat.le_refl _⟩ dX9_rests_41 (aw_ki fun r_3 I_4 J_5 h => ?_)
      refine aw_zne 51 dX9_rests_44 (by decide) (fun c_6 => ?_) (fun c_6 => ?_)
      · have h := sw_if.f h c_6
        refine aw_iconst (v := 0) dX9_rests_51 (by decide) ?_
        refine aw_sub [0, 1, 2] rfl ?_
        exact t_X9_rests_52 hG  hK27 h
      · have h := sw_if.t h c_6
        refine aw_iconst (v := 1) dX9_rests_47 (by decide) ?_
        refine aw_goto 52 dX9_rests_48 (by decide) ?_
        refine aw_sub [0, 1, 2] rfl ?_
        exact t_X9_rests_52 hG  hK27 h
set_option maxRecDepth 20000 in
theorem tl_X9_rests_27 {l : Launch} {D : va_G} {cy : Nat → ClassId} {sz : Nat} {G : sw_G} (hG : sw_lay G)   {Q : Int32 → sw_I → sw_J → Prop} : ∀ (n : Nat) (x1 : Int32) (x2 : Int32) (x3 : Int32) (I : sw_I) (J : sw_J), wl_X9_rests_27   Q n x1 x2 x3 I J → AW l D cy sz RX9 cX9_rests 5 (some .int) false rm_X9_rests 0 0 (sw_qi G Q) 0 0 G I J 27 [(0, .ref (sz + 0)), (1, .int x1), (2, .int x2), (3, .int x3)] [] := by
  intro n
  induction n with
  | zero => intro x1 x2 x3 I J h; exact False.elim h
  | succ n ih => intro x1 x2 x3 I J h; exact tb_X9_rests_27 hG  ih h
set_option maxRecDepth 20000 in
theorem t_X9_rests {l : Launch} {D : va_G} {cy : Nat → ClassId} {sz : Nat} {G : sw_G} (hG : sw_lay G)   {Q : Int32 → sw_I → sw_J → Prop} {x1 : Int32} {I : sw_I} {J : sw_J} (h : wp_X9_rests x1 I J Q) : AW l D cy sz RX9 cX9_rests 5 (some .int) false rm_X9_rests 0 0 (sw_qi G Q) 0 0 G I J 0 [(0, .ref (sz + 0)), (1, .int x1)] [] := by
  unfold wp_X9_rests at h
  refine aw_iload_n 1 dX9_rests_0 rfl rfl ?_
  refine aw_zlt 10 dX9_rests_1 (by decide) (fun c_1 => ?_) (fun c_1 => ?_)
  · have h := sw_if.t h c_1
    refine aw_iconst (v := (-1)) dX9_rests_10 (by decide) ?_
    exact aw_iret rfl dX9_rests_11 ⟨rfl, _, rfl, h⟩
  · have h := sw_if.f h c_1
    refine aw_iload_n 1 dX9_rests_4 rfl rfl ?_
    refine aw_bipush (v := 30) dX9_rests_5 (by decide) ?_
    refine aw_jle 12 dX9_rests_7 (by decide) (fun c_2 => ?_) (fun c_2 => ?_)
    · have h := sw_if.f h c_2
      refine aw_aload_n 0 dX9_rests_12 rfl rfl ?_
      refine gf_X9_3 fl_X9_30 (lk0 hG) (lr0_3 hG) dX9_rests_13 ?_
      refine aw_aload_n 0 dX9_rests_16 rfl rfl ?_
      refine gf_X9_2 fl_X9_26 (lk0 hG) (lr0_2 hG) dX9_rests_17 ?_
      refine aw_callV wv_X3_copy (M_X3_copy hG (lm17 hG) (lm13 hG) h) ml_X9_259 rfl (by decide) (lk17 hG) rfl rfl (Nat.le_of_ble_eq_true rfl) ⟨rfl, rfl⟩ ⟨Nat.le_of_ble_eq_true rfl, Nat.le_of_ble_eq_true rfl⟩ ⟨Nat.le_refl _, Nat.le_refl _⟩ dX9_rests_20 (aw_kv fun I_4 J_5 h => ?_)
      refine aw_iconst (v := 0) dX9_rests_23 (by decide) ?_
      refine aw_istore_n (lv' := [(2, .int 0), (0, .ref (sz + 0)), (1, .int x1)]) dX9_rests_24 rfl (by decide) rfl ?_
      refine aw_iconst (v := 0) dX9_rests_25 (by decide) ?_
      refine aw_istore_n (lv' := [(3, .int 0), (2, .int 0), (0, .ref (sz + 0)), (1, .int x1)]) dX9_rests_26 rfl (by decide) rfl ?_
      refine aw_sub [2, 3, 1, 0] rfl ?_
      obtain ⟨n_6, h⟩ := h
      exact tl_X9_rests_27 hG   n_6 x1 0 0 I_4 J_5 h
    · have h := sw_if.t h c_2
      refine aw_iconst (v := (-1)) dX9_rests_10 (by decide) ?_
      exact aw_iret rfl dX9_rests_11 ⟨rfl, _, rfl, h⟩
theorem M_X9_rests {l : Launch} {D : va_G} {cy : Nat → ClassId} {sz : Nat} {G : sw_G} (hG : sw_lay G)   {Q : Int32 → sw_I → sw_J → Prop} {x1 : Int32} {I : sw_I} {J : sw_J} (h : wp_X9_rests x1 I J Q) : Met l yX9_rests (Cond.code yX9_rests cX9_rests 5 (some .int) :: sw_T) rm_X9_rests (sw_Pc D cy sz [.ref (sz + 0), .int x1] G I J) (sw_Q D cy sz (sw_qi G Q)) 0 0 (fun q => sz ≤ q) :=
  sw_met (by decide) (fun q => by cases q) (Nat.le_of_ble_eq_true rfl) rfl (t_X9_rests hG  h)
-- X9_hinders
abbrev rm_X9_hinders : Room := { frames := 5, cells := 0, slots := 0, locals := 122 }
def wB_X9_hinders_79  (K19 : Int32 → Int32 → Int32 → Int32 → sw_I → sw_J → Prop) (Q : Int32 → sw_I → sw_J → Prop) (x1 : Int32) (x2 : Int32) (x3 : Int32) (x4 : Int32) (I : sw_I) (J : sw_J) : Prop :=
  ∀ y_1 : Int32, y_1 = x4 + 1 → K19 x1 x2 x3 y_1 I J
def wb_X9_hinders_19  (K19 : Int32 → Int32 → Int32 → Int32 → sw_I → sw_J → Prop) (Q : Int32 → sw_I → sw_J → Prop) (x1 : Int32) (x2 : Int32) (x3 : Int32) (x4 : Int32) (I : sw_I) (J : sw_J) : Prop :=
  sw_if (x4 < (I 3 2)) (wp_X3_isIn 13 x4 I J (fun r_9 I_10 J_11 => sw_if (r_9 = 0) (wB_X9_hinders_79  K19 Q x1 x2 x3 x4 I_10 J_11) (wp_X9_comeHome ((I_10 13 3) &&& (((1 : Int32) <<< (x4 &&& 31)) ^^^ (-1 : Int32))) x1 I_10 J_11 (fun r_13 I_14 J_15 => wp_J6_bitCount_0f7a4 r_13 I_14 J_15 (fun r_16 I_17 J_18 => sw_if (x3 < r_16) (wB_X9_hinders_79  K19 Q x1 x4 r_16 x4 I_17 J_18) (wB_X9_hinders_79  K19 Q x1 x2 x3 x4 I_17 J_18)))))) (sw_if (x2 = (-1 : Int32)) (Q (-2 : Int32) I J) (wp_X9_clearRow  I J (fun I_4 J_5 => wp_X9_tell x3.toInt64 I_4 J_5 (fun I_7 J_8 => Q x2 I_7 J_8))))
def wl_X9_hinders_19   (Q : Int32 → sw_I → sw_J → Prop) : Nat → Int32 → Int32 → Int32 → Int32 → sw_I → sw_J → Prop
  | 0 => fun _ _ _ _ _ _ => False
  | n + 1 => fun x1 x2 x3 x4 I J => wb_X9_hinders_19  (wl_X9_hinders_19   Q n) Q x1 x2 x3 x4 I J
def wp_X9_hinders (x1 : Int32) (I : sw_I) (J : sw_J) (Q : Int32 → sw_I → sw_J → Prop) : Prop :=
  sw_if (x1 < 0) (Q (-1 : Int32) I J) (sw_if ((40 : Int32) < x1) (Q (-1 : Int32) I J) (∃ n_3 : Nat, wl_X9_hinders_19   Q n_3 x1 (-1) (-1) 0 I J))
set_option maxRecDepth 20000 in
theorem t_X9_hinders_79 {l : Launch} {D : va_G} {cy : Nat → ClassId} {sz : Nat} {G : sw_G} (hG : sw_lay G)   {Q : Int32 → sw_I → sw_J → Prop} {K19 : Int32 → Int32 → Int32 → Int32 → sw_I → sw_J → Prop} (hK19 : ∀ (x1 : Int32) (x2 : Int32) (x3 : Int32) (x4 : Int32) (I : sw_I) (J : sw_J), K19 x1 x2 x3 x4 I J → AW l D cy sz RX9 cX9_hinders 6 (some .int) false rm_X9_hinders 0 0 (sw_qi G Q) 0 0 G I J 19 [(0, .ref (sz + 0)), (1, .int x1), (2, .int x2), (3, .int x3), (4, .int x4)] []) {x1 : Int32} {x2 : Int32} {x3 : Int32} {x4 : Int32} {I : sw_I} {J : sw_J} (h : wB_X9_hinders_79  K19 Q x1 x2 x3 x4 I J) : AW l D cy sz RX9 cX9_hinders 6 (some .int) false rm_X9_hinders 0 0 (sw_qi G Q) 0 0 G I J 79 [(0, .ref (sz + 0)), (1, .int x1), (2, .int x2), (3, .int x3), (4, .int x4)] [] := by
  unfold wB_X9_hinders_79 at h
  obtain ⟨y_1, e_2⟩ : ∃ q : Int32, q = x4 + 1 := ⟨_, rfl⟩
  have h := h y_1 e_2
  refine aw_iinc (lv' := [(4, .int y_1), (0, .ref (sz + 0)), (1, .int x1), (2, .int x2), (3, .int x3)]) 4 dX9_hinders_79 rfl (by rw [e_2]; rfl) (by decide) rfl ?_
  refine aw_goto 19 dX9_hinders_82 (by decide) ?_
  refine aw_sub [1, 2, 3, 4, 0] rfl ?_
  exact hK19 x1 x2 x3 y_1 I J h
set_option maxRecDepth 20000 in
theorem tb_X9_hinders_19 {l : Launch} {D : va_G} {cy : Nat → ClassId} {sz : Nat} {G : sw_G} (hG : sw_lay G)   {Q : Int32 → sw_I → sw_J → Prop} {K19 : Int32 → Int32 → Int32 → Int32 → sw_I → sw_J → Prop} (hK19 : ∀ (x1 : Int32) (x2 : Int32) (x3 : Int32) (x4 : Int32) (I : sw_I) (J : sw_J), K19 x1 x2 x3 x4 I J → AW l D cy sz RX9 cX9_hinders 6 (some .int) false rm_X9_hinders 0 0 (sw_qi G Q) 0 0 G I J 19 [(0, .ref (sz + 0)), (1, .int x1), (2, .int x2), (3, .int x3), (4, .int x4)] []) {x1 : Int32} {x2 : Int32} {x3 : Int32} {x4 : Int32} {I : sw_I} {J : sw_J} (h : wb_X9_hinders_19  K19 Q x1 x2 x3 x4 I J) : AW l D cy sz RX9 cX9_hinders 6 (some .int) false rm_X9_hinders 0 0 (sw_qi G Q) 0 0 G I J 19 [(0, .ref (sz + 0)), (1, .int x1), (2, .int x2), (3, .int x3), (4, .int x4)] [] := by
  unfold wb_X9_hinders_19 at h
  refine aw_iload 4 dX9_hinders_19 rfl ?_
  refine aw_aload_n 0 dX9_hinders_21 rfl rfl ?_
  refine gf_X9_1 fl_X9_19 (lk0 hG) (lr0_1 hG) dX9_hinders_22 ?_
  refine gf_X1_2 fl_X9_154 (lk3 hG) dX9_hinders_25 ?_
  refine aw_jge 85 dX9_hinders_28 (by decide) (fun c_1 => ?_) (fun c_1 => ?_)
  · have h := sw_if.f h c_1
    refine aw_iload_n 2 dX9_hinders_85 rfl rfl ?_
    refine aw_iconst (v := (-1)) dX9_hinders_86 (by decide) ?_
    refine aw_jne 93 dX9_hinders_87 (by decide) (fun c_2 => ?_) (fun c_2 => ?_)
    · have h := sw_if.f h c_2
      refine aw_aload_n 0 dX9_hinders_93 rfl rfl ?_
      refine aw_callV wv_X9_clearRow (M_X9_clearRow hG  h) ml_X9_192 rfl (by decide) (lk0 hG) rfl rfl (Nat.le_of_ble_eq_true rfl) ⟨rfl, rfl⟩ ⟨Nat.le_of_ble_eq_true rfl, Nat.le_of_ble_eq_true rfl⟩ ⟨Nat.le_refl _, Nat.le_refl _⟩ dX9_hinders_94 (aw_kv fun I_4 J_5 h => ?_)
      refine aw_aload_n 0 dX9_hinders_97 rfl rfl ?_
      refine aw_iload_n 3 dX9_hinders_98 rfl rfl ?_
      refine aw_i2l dX9_hinders_99 ?_
      refine aw_callV wv_X9_tell (M_X9_tell hG  h) ml_X9_195 rfl (by decide) (lk0 hG) rfl rfl (Nat.le_of_ble_eq_true rfl) ⟨rfl, rfl⟩ ⟨Nat.le_of_ble_eq_true rfl, Nat.le_of_ble_eq_true rfl⟩ ⟨Nat.le_refl _, Nat.le_refl _⟩ dX9_hinders_100 (aw_kv fun I_7 J_8 h => ?_)
      refine aw_iload_n 2 dX9_hinders_103 rfl rfl ?_
      exact aw_iret rfl dX9_hinders_104 ⟨rfl, _, rfl, h⟩
    · have h := sw_if.t h c_2
      refine aw_bipush (v := (-2)) dX9_hinders_90 (by decide) ?_
      exact aw_iret rfl dX9_hinders_92 ⟨rfl, _, rfl, h⟩
  · have h := sw_if.t h c_1
    refine aw_aload_n 0 dX9_hinders_31 rfl rfl ?_
    refine gf_X9_2 fl_X9_26 (lk0 hG) (lr0_2 hG) dX9_hinders_32 ?_
    refine aw_iload 4 dX9_hinders_35 rfl ?_
    refine aw_callV wv_X3_isIn (M_X3_isIn trivial (lm13 hG) h) ml_X9_185 rfl (by decide) (lk13 hG) rfl rfl (Nat.le_of_ble_eq_true rfl) ⟨rfl, rfl⟩ ⟨Nat.le_of_ble_eq_true rfl, Nat.le_of_ble_eq_true rfl⟩ ⟨Nat.le_refl _, Nat.le_refl _⟩ dX9_hinders_37 (aw_ki fun r_9 I_10 J_11 h => ?_)
    refine aw_zeq 79 dX9_hinders_40 (by decide) (fun c_12 => ?_) (fun c_12 => ?_)
    · have h := sw_if.t h c_12
      refine aw_sub [0, 1, 2, 3, 4] rfl ?_
      exact t_X9_hinders_79 hG  hK19 h
    · have h := sw_if.f h c_12
      refine aw_aload_n 0 dX9_hinders_43 rfl rfl ?_
      refine aw_aload_n 0 dX9_hinders_44 rfl rfl ?_
      refine gf_X9_2 fl_X9_26 (lk0 hG) (lr0_2 hG) dX9_hinders_45 ?_
      refine gf_X3_3 fl_X9_142 (lk13 hG) dX9_hinders_48 ?_
      refine aw_iconst (v := 1) dX9_hinders_51 (by decide) ?_
      refine aw_iload 4 dX9_hinders_52 rfl ?_
      refine aw_ishl dX9_hinders_54 ?_
      refine aw_iconst (v := (-1)) dX9_hinders_55 (by decide) ?_
      refine aw_ixor dX9_hinders_56 ?_
      refine aw_iand dX9_hinders_57 ?_
      refine aw_iload_n 1 dX9_hinders_58 rfl rfl ?_
      refine aw_callV wv_X9_comeHome (M_X9_comeHome hG  h) ml_X9_281 rfl (by decide) (lk0 hG) rfl rfl (Nat.le_of_ble_eq_true rfl) ⟨rfl, rfl⟩ ⟨Nat.le_of_ble_eq_true rfl, Nat.le_of_ble_eq_true rfl⟩ ⟨Nat.le_refl _, Nat.le_refl _⟩ dX9_hinders_59 (aw_ki fun r_13 I_14 J_15 h => ?_)
      refine aw_callS wv_J6_bitCount_0f7a4 (M_J6_bitCount_0f7a4 trivial  h) ml_X9_272 rfl rfl (Nat.le_of_ble_eq_true rfl) ⟨rfl, rfl⟩ ⟨Nat.le_of_ble_eq_true rfl, Nat.le_of_ble_eq_true rfl⟩ ⟨Nat.le_refl _, Nat.le_refl _⟩ dX9_hinders_62 (aw_ki fun r_16 I_17 J_18 h => ?_)
      refine aw_istore (lv' := [(5, .int r_16), (0, .ref (sz + 0)), (1, .int x1), (2, .int x2), (3, .int x3), (4, .int x4)]) dX9_hinders_65 (by decide) rfl ?_
      refine aw_iload 0 dX9_hinders_67 rfl ?_
      refine aw_iload_n 4 dX9_hinders_69 rfl rfl ?_
      refine aw_jle 79 dX9_hinders_70 (by decide) (fun c_19 => ?_) (fun c_19 => ?_)
      · have h := sw_if.f h c_19
        refine aw_sub [1, 2, 3, 4, 5] rfl ?_
        exact t_X9_hinders_79 hG  hK19 h
      · have h := sw_if.t h c_19
        refine aw_iload 0 dX9_hinders_73 rfl ?_
        refine aw_istore_n (lv' := [(3, .int r_16), (5, .int r_16), (0, .ref (sz + 0)), (1, .int x1), (2, .int x2), (4, .int x4)]) dX9_hinders_75 rfl (by decide) rfl ?_
        refine aw_iload 5 dX9_hinders_76 rfl ?_
        refine aw_istore_n (lv' := [(2, .int x4), (3, .int r_16), (5, .int r_16), (0, .ref (sz + 0)), (1, .int x1), (4, .int x4)]) dX9_hinders_78 rfl (by decide) rfl ?_
        refine aw_sub [3, 4, 0, 1, 5] rfl ?_
        exact t_X9_hinders_79 hG  hK19 h
set_option maxRecDepth 20000 in
theorem tl_X9_hinders_19 {l : Launch} {D : va_G} {cy : Nat → ClassId} {sz : Nat} {G : sw_G} (hG : sw_lay G)   {Q : Int32 → sw_I → sw_J → Prop} : ∀ (n : Nat) (x1 : Int32) (x2 : Int32) (x3 : Int32) (x4 : Int32) (I : sw_I) (J : sw_J), wl_X9_hinders_19   Q n x1 x2 x3 x4 I J → AW l D cy sz RX9 cX9_hinders 6 (some .int) false rm_X9_hinders 0 0 (sw_qi G Q) 0 0 G I J 19 [(0, .ref (sz + 0)), (1, .int x1), (2, .int x2), (3, .int x3), (4, .int x4)] [] := by
  intro n
  induction n with
  | zero => intro x1 x2 x3 x4 I J h; exact False.elim h
  | succ n ih => intro x1 x2 x3 x4 I J h; exact tb_X9_hinders_19 hG  ih h
set_option maxRecDepth 20000 in
theorem t_X9_hinders {l : Launch} {D : va_G} {cy : Nat → ClassId} {sz : Nat} {G : sw_G} (hG : sw_lay G)   {Q : Int32 → sw_I → sw_J → Prop} {x1 : Int32} {I : sw_I} {J : sw_J} (h : wp_X9_hinders x1 I J Q) : AW l D cy sz RX9 cX9_hinders 6 (some .int) false rm_X9_hinders 0 0 (sw_qi G Q) 0 0 G I J 0 [(0, .ref (sz + 0)), (1, .int x1)] [] := by
  unfold wp_X9_hinders at h
  refine aw_iload_n 1 dX9_hinders_0 rfl rfl ?_
  refine aw_zlt 10 dX9_hinders_1 (by decide) (fun c_1 => ?_) (fun c_1 => ?_)
  · have h := sw_if.t h c_1
    refine aw_iconst (v := (-1)) dX9_hinders_10 (by decide) ?_
    exact aw_iret rfl dX9_hinders_11 ⟨rfl, _, rfl, h⟩
  · have h := sw_if.f h c_1
    refine aw_iload_n 1 dX9_hinders_4 rfl rfl ?_
    refine aw_bipush (v := 40) dX9_hinders_5 (by decide) ?_
    refine aw_jle 12 dX9_hinders_7 (by decide) (fun c_2 => ?_) (fun c_2 => ?_)
    · have h := sw_if.f h c_2
      refine aw_iconst (v := (-1)) dX9_hinders_12 (by decide) ?_
      refine aw_istore_n (lv' := [(2, .int (-1)), (0, .ref (sz + 0)), (1, .int x1)]) dX9_hinders_13 rfl (by decide) rfl ?_
      refine aw_iconst (v := (-1)) dX9_hinders_14 (by decide) ?_
      refine aw_istore_n (lv' := [(3, .int (-1)), (2, .int (-1)), (0, .ref (sz + 0)), (1, .int x1)]) dX9_hinders_15 rfl (by decide) rfl ?_
      refine aw_iconst (v := 0) dX9_hinders_16 (by decide) ?_
      refine aw_istore (lv' := [(4, .int 0), (3, .int (-1)), (2, .int (-1)), (0, .ref (sz + 0)), (1, .int x1)]) dX9_hinders_17 (by decide) rfl ?_
      refine aw_sub [3, 4, 2, 1, 0] rfl ?_
      obtain ⟨n_3, h⟩ := h
      exact tl_X9_hinders_19 hG   n_3 x1 (-1) (-1) 0 I J h
    · have h := sw_if.t h c_2
      refine aw_iconst (v := (-1)) dX9_hinders_10 (by decide) ?_
      exact aw_iret rfl dX9_hinders_11 ⟨rfl, _, rfl, h⟩
theorem M_X9_hinders {l : Launch} {D : va_G} {cy : Nat → ClassId} {sz : Nat} {G : sw_G} (hG : sw_lay G)   {Q : Int32 → sw_I → sw_J → Prop} {x1 : Int32} {I : sw_I} {J : sw_J} (h : wp_X9_hinders x1 I J Q) : Met l yX9_hinders (Cond.code yX9_hinders cX9_hinders 6 (some .int) :: sw_T) rm_X9_hinders (sw_Pc D cy sz [.ref (sz + 0), .int x1] G I J) (sw_Q D cy sz (sw_qi G Q)) 0 0 (fun q => sz ≤ q) :=
  sw_met (by decide) (fun q => by cases q) (Nat.le_of_ble_eq_true rfl) rfl (t_X9_hinders hG  h)
-- X9_gather
abbrev rm_X9_gather : Room := { frames := 5, cells := 0, slots := 0, locals := 128 }
def wp_X9_gather (x1 : Int32) (x2 : Int32) (I : sw_I) (J : sw_J) (Q : Int32 → sw_I → sw_J → Prop) : Prop :=
  wp_X1_hasFloor x1 I J (fun r_1 I_2 J_3 => sw_if (r_1 = 0) (Q (-1 : Int32) I_2 J_3) (wp_X1_everybody  I_2 J_3 (fun r_5 I_6 J_7 => sw_if ((x2 &&& (r_5 ^^^ (-1 : Int32))) = 0) (sw_if ((I_6 6 5) = 0) (wp_X6_wantGathered x1 x2 I_6 J_7 (fun I_11 J_12 => wp_X6_seek 13 3000 I_11 J_12 (fun r_13 I_14 J_15 => sw_if (r_13 < 0) (sw_if ((I_14 120 6) = 0) (Q (-2 : Int32) I_14 J_15) (Q (-3 : Int32) I_14 J_15)) (Q (I_14 120 5) I_14 J_15)))) (Q (-4 : Int32) I_6 J_7)) (Q (-1 : Int32) I_6 J_7))))
set_option maxRecDepth 20000 in
theorem t_X9_gather {l : Launch} {D : va_G} {cy : Nat → ClassId} {sz : Nat} {G : sw_G} (hG : sw_lay G)   {Q : Int32 → sw_I → sw_J → Prop} {x1 : Int32} {x2 : Int32} {I : sw_I} {J : sw_J} (h : wp_X9_gather x1 x2 I J Q) : AW l D cy sz RX9 cX9_gather 4 (some .int) false rm_X9_gather 0 0 (sw_qi G Q) 0 0 G I J 0 [(0, .ref (sz + 0)), (1, .int x1), (2, .int x2)] [] := by
  unfold wp_X9_gather at h
  refine aw_aload_n 0 dX9_gather_0 rfl rfl ?_
  refine gf_X9_1 fl_X9_19 (lk0 hG) (lr0_1 hG) dX9_gather_1 ?_
  refine aw_iload_n 1 dX9_gather_4 rfl rfl ?_
  refine aw_callV wv_X1_hasFloor (M_X1_hasFloor hG  h) ml_X9_148 rfl (by decide) (lk3 hG) rfl rfl (Nat.le_of_ble_eq_true rfl) ⟨rfl, rfl⟩ ⟨Nat.le_of_ble_eq_true rfl, Nat.le_of_ble_eq_true rfl⟩ ⟨Nat.le_refl _, Nat.le_refl _⟩ dX9_gather_5 (aw_ki fun r_1 I_2 J_3 h => ?_)
  refine aw_zeq 25 dX9_gather_8 (by decide) (fun c_4 => ?_) (fun c_4 => ?_)
  · have h := sw_if.t h c_4
    refine aw_iconst (v := (-1)) dX9_gather_25 (by decide) ?_
    exact aw_iret rfl dX9_gather_26 ⟨rfl, _, rfl, h⟩
  · have h := sw_if.f h c_4
    refine aw_iload_n 2 dX9_gather_11 rfl rfl ?_
    refine aw_aload_n 0 dX9_gather_12 rfl rfl ?_
    refine gf_X9_1 fl_X9_19 (lk0 hG) (lr0_1 hG) dX9_gather_13 ?_
    refine aw_callV wv_X1_everybody (M_X1_everybody hG  h) ml_X9_284 rfl (by decide) (lk3 hG) rfl rfl (Nat.le_of_ble_eq_true rfl) ⟨rfl, rfl⟩ ⟨Nat.le_of_ble_eq_true rfl, Nat.le_of_ble_eq_true rfl⟩ ⟨Nat.le_refl _, Nat.le_refl _⟩ dX9_gather_16 (aw_ki fun r_5 I_6 J_7 h => ?_)
    refine aw_iconst (v := (-1)) dX9_gather_19 (by decide) ?_
    refine aw_ixor dX9_gather_20 ?_
    refine aw_iand dX9_gather_21 ?_
    refine aw_zeq 27 dX9_gather_22 (by decide) (fun c_8 => ?_) (fun c_8 => ?_)
    · have h := sw_if.t h c_8
      refine aw_aload_n 0 dX9_gather_27 rfl rfl ?_
      refine gf_X9_1 fl_X9_19 (lk0 hG) (lr0_1 hG) dX9_gather_28 ?_
      refine gf_X1_5 fl_X9_108 (lk3 hG) (lr3_5 hG) dX9_gather_31 ?_
      refine gf_X2_5 fl_X9_277 (lk6 hG) dX9_gather_34 ?_
      refine aw_zeq 43 dX9_gather_37 (by decide) (fun c_9 => ?_) (fun c_9 => ?_)
      · have h := sw_if.t h c_9
        refine aw_aload_n 0 dX9_gather_43 rfl rfl ?_
        refine gf_X9_12 fl_X9_76 (lk0 hG) (lr0_12 hG) dX9_gather_44 ?_
        refine aw_iload_n 1 dX9_gather_47 rfl rfl ?_
        refine aw_iload_n 2 dX9_gather_48 rfl rfl ?_
        refine aw_callV wv_X6_wantGathered (M_X6_wantGathered hG  h) ml_X9_290 rfl (by decide) (lk120 hG) rfl rfl (Nat.le_of_ble_eq_true rfl) ⟨rfl, rfl⟩ ⟨Nat.le_of_ble_eq_true rfl, Nat.le_of_ble_eq_true rfl⟩ ⟨Nat.le_refl _, Nat.le_refl _⟩ dX9_gather_49 (aw_kv fun I_11 J_12 h => ?_)
        refine aw_aload_n 0 dX9_gather_52 rfl rfl ?_
        refine gf_X9_12 fl_X9_76 (lk0 hG) (lr0_12 hG) dX9_gather_53 ?_
        refine aw_aload_n 0 dX9_gather_56 rfl rfl ?_
        refine gf_X9_1 fl_X9_19 (lk0 hG) (lr0_1 hG) dX9_gather_57 ?_
        refine aw_aload_n 0 dX9_gather_60 rfl rfl ?_
        refine gf_X9_2 fl_X9_26 (lk0 hG) (lr0_2 hG) dX9_gather_61 ?_
        refine aw_sipush (v := 3000) dX9_gather_64 (by decide) ?_
        refine aw_callV wv_X6_seek (M_X6_seek hG (lm13 hG) h) ml_X9_294 rfl (by decide) (lk120 hG) rfl rfl (Nat.le_of_ble_eq_true rfl) ⟨rfl, rfl⟩ ⟨Nat.le_of_ble_eq_true rfl, Nat.le_of_ble_eq_true rfl⟩ ⟨Nat.le_refl _, Nat.le_refl _⟩ dX9_gather_67 (aw_ki fun r_13 I_14 J_15 h => ?_)
        refine aw_istore_n (lv' := [(3, .int r_13), (0, .ref (sz + 0)), (1, .int x1), (2, .int x2)]) dX9_gather_70 rfl (by decide) rfl ?_
        refine aw_iload_n 0 dX9_gather_71 rfl rfl ?_
        refine aw_zge 93 dX9_gather_72 (by decide) (fun c_16 => ?_) (fun c_16 => ?_)
        · have h := sw_if.f h c_16
          refine aw_aload_n 1 dX9_gather_93 rfl rfl ?_
          refine gf_X9_12 fl_X9_76 (lk0 hG) (lr0_12 hG) dX9_gather_94 ?_
          refine gf_X6_5 fl_X9_301 (lk120 hG) dX9_gather_97 ?_
          exact aw_iret rfl dX9_gather_100 ⟨rfl, _, rfl, h⟩
        · have h := sw_if.t h c_16
          refine aw_aload_n 1 dX9_gather_75 rfl rfl ?_
          refine gf_X9_12 fl_X9_76 (lk0 hG) (lr0_12 hG) dX9_gather_76 ?_
          refine gf_X6_6 fl_X9_298 (lk120 hG) dX9_gather_79 ?_
          refine aw_zeq 90 dX9_gather_82 (by decide) (fun c_17 => ?_) (fun c_17 => ?_)
          · have h := sw_if.t h c_17
            refine aw_bipush (v := (-2)) dX9_gather_90 (by decide) ?_
            exact aw_iret rfl dX9_gather_92 ⟨rfl, _, rfl, h⟩
          · have h := sw_if.f h c_17
            refine aw_bipush (v := (-3)) dX9_gather_85 (by decide) ?_
            refine aw_goto 92 dX9_gather_87 (by decide) ?_
            exact aw_iret rfl dX9_gather_92 ⟨rfl, _, rfl, h⟩
      · have h := sw_if.f h c_9
        refine aw_bipush (v := (-4)) dX9_gather_40 (by decide) ?_
        exact aw_iret rfl dX9_gather_42 ⟨rfl, _, rfl, h⟩
    · have h := sw_if.f h c_8
      refine aw_iconst (v := (-1)) dX9_gather_25 (by decide) ?_
      exact aw_iret rfl dX9_gather_26 ⟨rfl, _, rfl, h⟩
theorem M_X9_gather {l : Launch} {D : va_G} {cy : Nat → ClassId} {sz : Nat} {G : sw_G} (hG : sw_lay G)   {Q : Int32 → sw_I → sw_J → Prop} {x1 : Int32} {x2 : Int32} {I : sw_I} {J : sw_J} (h : wp_X9_gather x1 x2 I J Q) : Met l yX9_gather (Cond.code yX9_gather cX9_gather 4 (some .int) :: sw_T) rm_X9_gather (sw_Pc D cy sz [.ref (sz + 0), .int x1, .int x2] G I J) (sw_Q D cy sz (sw_qi G Q)) 0 0 (fun q => sz ≤ q) :=
  sw_met (by decide) (fun q => by cases q) (Nat.le_of_ble_eq_true rfl) rfl (t_X9_gather hG  h)
-- X9_states
abbrev rm_X9_states : Room := { frames := 5, cells := 0, slots := 0, locals := 128 }
def wp_X9_states (x1 : Int32) (I : sw_I) (J : sw_J) (Q : Int32 → sw_I → sw_J → Prop) : Prop :=
  sw_if (x1 < 0) (Q (-1 : Int32) I J) (sw_if ((6 : Int32) < x1) (Q (-1 : Int32) I J) (sw_if ((I 6 5) = 0) (wp_X6_wantNothing  I J (fun I_5 J_6 => wp_X6_seek 13 x1 I_5 J_6 (fun r_7 I_8 J_9 => sw_if ((I_8 120 6) = 0) (wp_X9_clearRow  I_8 J_9 (fun I_12 J_13 => wp_X6_everHome  I_12 J_13 (fun r_14 I_15 J_16 => wp_X1_everybody  I_15 J_16 (fun r_17 I_18 J_19 => wp_X9_tell ((r_14 &&& r_17).toInt64) I_18 J_19 (fun I_21 J_22 => wp_X6_everStopped  I_21 J_22 (fun r_23 I_24 J_25 => wp_X9_tell r_23.toInt64 I_24 J_25 (fun I_27 J_28 => Q (I_27 120 4) I_27 J_28))))))) (Q (-3 : Int32) I_8 J_9)))) (Q (-4 : Int32) I J)))
set_option maxRecDepth 20000 in
theorem t_X9_states {l : Launch} {D : va_G} {cy : Nat → ClassId} {sz : Nat} {G : sw_G} (hG : sw_lay G)   {Q : Int32 → sw_I → sw_J → Prop} {x1 : Int32} {I : sw_I} {J : sw_J} (h : wp_X9_states x1 I J Q) : AW l D cy sz RX9 cX9_states 2 (some .int) false rm_X9_states 0 0 (sw_qi G Q) 0 0 G I J 0 [(0, .ref (sz + 0)), (1, .int x1)] [] := by
  unfold wp_X9_states at h
  refine aw_iload_n 1 dX9_states_0 rfl rfl ?_
  refine aw_zlt 10 dX9_states_1 (by decide) (fun c_1 => ?_) (fun c_1 => ?_)
  · have h := sw_if.t h c_1
    refine aw_iconst (v := (-1)) dX9_states_10 (by decide) ?_
    exact aw_iret rfl dX9_states_11 ⟨rfl, _, rfl, h⟩
  · have h := sw_if.f h c_1
    refine aw_iload_n 1 dX9_states_4 rfl rfl ?_
    refine aw_bipush (v := 6) dX9_states_5 (by decide) ?_
    refine aw_jle 12 dX9_states_7 (by decide) (fun c_2 => ?_) (fun c_2 => ?_)
    · have h := sw_if.f h c_2
      refine aw_aload_n 0 dX9_states_12 rfl rfl ?_
      refine gf_X9_1 fl_X9_19 (lk0 hG) (lr0_1 hG) dX9_states_13 ?_
      refine gf_X1_5 fl_X9_108 (lk3 hG) (lr3_5 hG) dX9_states_16 ?_
      refine gf_X2_5 fl_X9_277 (lk6 hG) dX9_states_19 ?_
      refine aw_zeq 28 dX9_states_22 (by decide) (fun c_3 => ?_) (fun c_3 => ?_)
      · have h := sw_if.t h c_3
        refine aw_aload_n 0 dX9_states_28 rfl rfl ?_
        refine gf_X9_12 fl_X9_76 (lk0 hG) (lr0_12 hG) dX9_states_29 ?_
        refine aw_callV wv_X6_wantNothing (M_X6_wantNothing hG  h) ml_X9_302 rfl (by decide) (lk120 hG) rfl rfl (Nat.le_of_ble_eq_true rfl) ⟨rfl, rfl⟩ ⟨Nat.le_of_ble_eq_true rfl, Nat.le_of_ble_eq_true rfl⟩ ⟨Nat.le_refl _, Nat.le_refl _⟩ dX9_states_32 (aw_kv fun I_5 J_6 h => ?_)
        refine aw_aload_n 0 dX9_states_35 rfl rfl ?_
        refine gf_X9_12 fl_X9_76 (lk0 hG) (lr0_12 hG) dX9_states_36 ?_
        refine aw_aload_n 0 dX9_states_39 rfl rfl ?_
        refine gf_X9_1 fl_X9_19 (lk0 hG) (lr0_1 hG) dX9_states_40 ?_
        refine aw_aload_n 0 dX9_states_43 rfl rfl ?_
        refine gf_X9_2 fl_X9_26 (lk0 hG) (lr0_2 hG) dX9_states_44 ?_
        refine aw_iload_n 1 dX9_states_47 rfl rfl ?_
        refine aw_callV wv_X6_seek (M_X6_seek hG (lm13 hG) h) ml_X9_294 rfl (by decide) (lk120 hG) rfl rfl (Nat.le_of_ble_eq_true rfl) ⟨rfl, rfl⟩ ⟨Nat.le_of_ble_eq_true rfl, Nat.le_of_ble_eq_true rfl⟩ ⟨Nat.le_refl _, Nat.le_refl _⟩ dX9_states_48 (aw_ki fun r_7 I_8 J_9 h => ?_)
        refine aw_pop dX9_states_51 rfl ?_
        refine aw_aload_n 0 dX9_states_52 rfl rfl ?_
        refine gf_X9_12 fl_X9_76 (lk0 hG) (lr0_12 hG) dX9_states_53 ?_
        refine gf_X6_6 fl_X9_298 (lk120 hG) dX9_states_56 ?_
        refine aw_zeq 65 dX9_states_59 (by decide) (fun c_10 => ?_) (fun c_10 => ?_)
        · have h := sw_if.t h c_10
          refine aw_aload_n 0 dX9_states_65 rfl rfl ?_
          refine aw_callV wv_X9_clearRow (M_X9_clearRow hG  h) ml_X9_192 rfl (by decide) (lk0 hG) rfl rfl (Nat.le_of_ble_eq_true rfl) ⟨rfl, rfl⟩ ⟨Nat.le_of_ble_eq_true rfl, Nat.le_of_ble_eq_true rfl⟩ ⟨Nat.le_refl _, Nat.le_refl _⟩ dX9_states_66 (aw_kv fun I_12 J_13 h => ?_)
          refine aw_aload_n 0 dX9_states_69 rfl rfl ?_
          refine aw_aload_n 0 dX9_states_70 rfl rfl ?_
          refine gf_X9_12 fl_X9_76 (lk0 hG) (lr0_12 hG) dX9_states_71 ?_
          refine aw_callV wv_X6_everHome (M_X6_everHome hG  h) ml_X9_305 rfl (by decide) (lk120 hG) rfl rfl (Nat.le_of_ble_eq_true rfl) ⟨rfl, rfl⟩ ⟨Nat.le_of_ble_eq_true rfl, Nat.le_of_ble_eq_true rfl⟩ ⟨Nat.le_refl _, Nat.le_refl _⟩ dX9_states_74 (aw_ki fun r_14 I_15 J_16 h => ?_)
          refine aw_aload_n 0 dX9_states_77 rfl rfl ?_
          refine gf_X9_1 fl_X9_19 (lk0 hG) (lr0_1 hG) dX9_states_78 ?_
          refine aw_callV wv_X1_everybody (M_X1_everybody hG  h) ml_X9_284 rfl (by decide) (lk3 hG) rfl rfl (Nat.le_of_ble_eq_true rfl) ⟨rfl, rfl⟩ ⟨Nat.le_of_ble_eq_true rfl, Nat.le_of_ble_eq_true rfl⟩ ⟨Nat.le_refl _, Nat.le_refl _⟩ dX9_states_81 (aw_ki fun r_17 I_18 J_19 h => ?_)
          refine aw_iand dX9_states_84 ?_
          refine aw_i2l dX9_states_85 ?_
          refine aw_callV wv_X9_tell (M_X9_tell hG  h) ml_X9_195 rfl (by decide) (lk0 hG) rfl rfl (Nat.le_of_ble_eq_true rfl) ⟨rfl, rfl⟩ ⟨Nat.le_of_ble_eq_true rfl, Nat.le_of_ble_eq_true rfl⟩ ⟨Nat.le_refl _, Nat.le_refl _⟩ dX9_states_86 (aw_kv fun I_21 J_22 h => ?_)
          refine aw_aload_n 0 dX9_states_89 rfl rfl ?_
          refine aw_aload_n 0 dX9_states_90 rfl rfl ?_
          refine gf_X9_12 fl_X9_76 (lk0 hG) (lr0_12 hG) dX9_states_91 ?_
          refine aw_callV wv_X6_everStopped (M_X6_everStopped hG  h) ml_X9_308 rfl (by decide) (lk120 hG) rfl rfl (Nat.le_of_ble_eq_true rfl) ⟨rfl, rfl⟩ ⟨Nat.le_of_ble_eq_true rfl, Nat.le_of_ble_eq_true rfl⟩ ⟨Nat.le_refl _, Nat.le_refl _⟩ dX9_states_94 (aw_ki fun r_23 I_24 J_25 h => ?_)
          refine aw_i2l dX9_states_97 ?_
          refine aw_callV wv_X9_tell (M_X9_tell hG  h) ml_X9_195 rfl (by decide) (lk0 hG) rfl rfl (Nat.le_of_ble_eq_true rfl) ⟨rfl, rfl⟩ ⟨Nat.le_of_ble_eq_true rfl, Nat.le_of_ble_eq_true rfl⟩ ⟨Nat.le_refl _, Nat.le_refl _⟩ dX9_states_98 (aw_kv fun I_27 J_28 h => ?_)
          refine aw_aload_n 0 dX9_states_101 rfl rfl ?_
          refine gf_X9_12 fl_X9_76 (lk0 hG) (lr0_12 hG) dX9_states_102 ?_
          refine gf_X6_4 fl_X9_311 (lk120 hG) dX9_states_105 ?_
          exact aw_iret rfl dX9_states_108 ⟨rfl, _, rfl, h⟩
        · have h := sw_if.f h c_10
          refine aw_bipush (v := (-3)) dX9_states_62 (by decide) ?_
          exact aw_iret rfl dX9_states_64 ⟨rfl, _, rfl, h⟩
      · have h := sw_if.f h c_3
        refine aw_bipush (v := (-4)) dX9_states_25 (by decide) ?_
        exact aw_iret rfl dX9_states_27 ⟨rfl, _, rfl, h⟩
    · have h := sw_if.t h c_2
      refine aw_iconst (v := (-1)) dX9_states_10 (by decide) ?_
      exact aw_iret rfl dX9_states_11 ⟨rfl, _, rfl, h⟩
theorem M_X9_states {l : Launch} {D : va_G} {cy : Nat → ClassId} {sz : Nat} {G : sw_G} (hG : sw_lay G)   {Q : Int32 → sw_I → sw_J → Prop} {x1 : Int32} {I : sw_I} {J : sw_J} (h : wp_X9_states x1 I J Q) : Met l yX9_states (Cond.code yX9_states cX9_states 2 (some .int) :: sw_T) rm_X9_states (sw_Pc D cy sz [.ref (sz + 0), .int x1] G I J) (sw_Q D cy sz (sw_qi G Q)) 0 0 (fun q => sz ≤ q) :=
  sw_met (by decide) (fun q => by cases q) (Nat.le_of_ble_eq_true rfl) rfl (t_X9_states hG  h)
-- X9_stuck
abbrev rm_X9_stuck : Room := { frames := 5, cells := 0, slots := 0, locals := 128 }
def wp_X9_stuck  (I : sw_I) (J : sw_J) (Q : Int32 → sw_I → sw_J → Prop) : Prop :=
  sw_if ((I 6 5) = 0) (wp_X6_wantNothing  I J (fun I_3 J_4 => wp_X6_seek 13 3000 I_3 J_4 (fun r_5 I_6 J_7 => sw_if ((I_6 120 6) = 0) (wp_X1_everybody  I_6 J_7 (fun r_9 I_10 J_11 => wp_X6_everHome  I_10 J_11 (fun r_12 I_13 J_14 => Q (r_9 &&& (r_12 ^^^ (-1 : Int32))) I_13 J_14))) (Q (-3 : Int32) I_6 J_7)))) (Q (-4 : Int32) I J)
set_option maxRecDepth 20000 in
theorem t_X9_stuck {l : Launch} {D : va_G} {cy : Nat → ClassId} {sz : Nat} {G : sw_G} (hG : sw_lay G)   {Q : Int32 → sw_I → sw_J → Prop}  {I : sw_I} {J : sw_J} (h : wp_X9_stuck  I J Q) : AW l D cy sz RX9 cX9_stuck 1 (some .int) false rm_X9_stuck 0 0 (sw_qi G Q) 0 0 G I J 0 [(0, .ref (sz + 0))] [] := by
  unfold wp_X9_stuck at h
  refine aw_aload_n 0 dX9_stuck_0 rfl rfl ?_
  refine gf_X9_1 fl_X9_19 (lk0 hG) (lr0_1 hG) dX9_stuck_1 ?_
  refine gf_X1_5 fl_X9_108 (lk3 hG) (lr3_5 hG) dX9_stuck_4 ?_
  refine gf_X2_5 fl_X9_277 (lk6 hG) dX9_stuck_7 ?_
  refine aw_zeq 16 dX9_stuck_10 (by decide) (fun c_1 => ?_) (fun c_1 => ?_)
  · have h := sw_if.t h c_1
    refine aw_aload_n 0 dX9_stuck_16 rfl rfl ?_
    refine gf_X9_12 fl_X9_76 (lk0 hG) (lr0_12 hG) dX9_stuck_17 ?_
    refine aw_callV wv_X6_wantNothing (M_X6_wantNothing hG  h) ml_X9_302 rfl (by decide) (lk120 hG) rfl rfl (Nat.le_of_ble_eq_true rfl) ⟨rfl, rfl⟩ ⟨Nat.le_of_ble_eq_true rfl, Nat.le_of_ble_eq_true rfl⟩ ⟨Nat.le_refl _, Nat.le_refl _⟩ dX9_stuck_20 (aw_kv fun I_3 J_4 h => ?_)
    refine aw_aload_n 0 dX9_stuck_23 rfl rfl ?_
    refine gf_X9_12 fl_X9_76 (lk0 hG) (lr0_12 hG) dX9_stuck_24 ?_
    refine aw_aload_n 0 dX9_stuck_27 rfl rfl ?_
    refine gf_X9_1 fl_X9_19 (lk0 hG) (lr0_1 hG) dX9_stuck_28 ?_
    refine aw_aload_n 0 dX9_stuck_31 rfl rfl ?_
    refine gf_X9_2 fl_X9_26 (lk0 hG) (lr0_2 hG) dX9_stuck_32 ?_
    refine aw_sipush (v := 3000) dX9_stuck_35 (by decide) ?_
    refine aw_callV wv_X6_seek (M_X6_seek hG (lm13 hG) h) ml_X9_294 rfl (by decide) (lk120 hG) rfl rfl (Nat.le_of_ble_eq_true rfl) ⟨rfl, rfl⟩ ⟨Nat.le_of_ble_eq_true rfl, Nat.le_of_ble_eq_true rfl⟩ ⟨Nat.le_refl _, Nat.le_refl _⟩ dX9_stuck_38 (aw_ki fun r_5 I_6 J_7 h => ?_)
    refine aw_pop dX9_stuck_41 rfl ?_
    refine aw_aload_n 0 dX9_stuck_42 rfl rfl ?_
    refine gf_X9_12 fl_X9_76 (lk0 hG) (lr0_12 hG) dX9_stuck_43 ?_
    refine gf_X6_6 fl_X9_298 (lk120 hG) dX9_stuck_46 ?_
    refine aw_zeq 55 dX9_stuck_49 (by decide) (fun c_8 => ?_) (fun c_8 => ?_)
    · have h := sw_if.t h c_8
      refine aw_aload_n 0 dX9_stuck_55 rfl rfl ?_
      refine gf_X9_1 fl_X9_19 (lk0 hG) (lr0_1 hG) dX9_stuck_56 ?_
      refine aw_callV wv_X1_everybody (M_X1_everybody hG  h) ml_X9_284 rfl (by decide) (lk3 hG) rfl rfl (Nat.le_of_ble_eq_true rfl) ⟨rfl, rfl⟩ ⟨Nat.le_of_ble_eq_true rfl, Nat.le_of_ble_eq_true rfl⟩ ⟨Nat.le_refl _, Nat.le_refl _⟩ dX9_stuck_59 (aw_ki fun r_9 I_10 J_11 h => ?_)
      refine aw_aload_n 0 dX9_stuck_62 rfl rfl ?_
      refine gf_X9_12 fl_X9_76 (lk0 hG) (lr0_12 hG) dX9_stuck_63 ?_
      refine aw_callV wv_X6_everHome (M_X6_everHome hG  h) ml_X9_305 rfl (by decide) (lk120 hG) rfl rfl (Nat.le_of_ble_eq_true rfl) ⟨rfl, rfl⟩ ⟨Nat.le_of_ble_eq_true rfl, Nat.le_of_ble_eq_true rfl⟩ ⟨Nat.le_refl _, Nat.le_refl _⟩ dX9_stuck_66 (aw_ki fun r_12 I_13 J_14 h => ?_)
      refine aw_iconst (v := (-1)) dX9_stuck_69 (by decide) ?_
      refine aw_ixor dX9_stuck_70 ?_
      refine aw_iand dX9_stuck_71 ?_
      exact aw_iret rfl dX9_stuck_72 ⟨rfl, _, rfl, h⟩
    · have h := sw_if.f h c_8
      refine aw_bipush (v := (-3)) dX9_stuck_52 (by decide) ?_
      exact aw_iret rfl dX9_stuck_54 ⟨rfl, _, rfl, h⟩
  · have h := sw_if.f h c_1
    refine aw_bipush (v := (-4)) dX9_stuck_13 (by decide) ?_
    exact aw_iret rfl dX9_stuck_15 ⟨rfl, _, rfl, h⟩
theorem M_X9_stuck {l : Launch} {D : va_G} {cy : Nat → ClassId} {sz : Nat} {G : sw_G} (hG : sw_lay G)   {Q : Int32 → sw_I → sw_J → Prop}  {I : sw_I} {J : sw_J} (h : wp_X9_stuck  I J Q) : Met l yX9_stuck (Cond.code yX9_stuck cX9_stuck 1 (some .int) :: sw_T) rm_X9_stuck (sw_Pc D cy sz [.ref (sz + 0)] G I J) (sw_Q D cy sz (sw_qi G Q)) 0 0 (fun q => sz ≤ q) :=
  sw_met (by decide) (fun q => by cases q) (Nat.le_of_ble_eq_true rfl) rfl (t_X9_stuck hG  h)
-- X9_lies
abbrev rm_X9_lies : Room := { frames := 6, cells := 0, slots := 0, locals := 151 }
def wB_X9_lies_79  (K56 : Int32 → Int32 → Int32 → sw_I → sw_J → Prop) (Q : Int32 → sw_I → sw_J → Prop) (x1 : Int32) (x2 : Int32) (x3 : Int32) (I : sw_I) (J : sw_J) : Prop :=
  ∀ y_1 : Int32, y_1 = x3 + 1 → K56 x1 x2 y_1 I J
def wb_X9_lies_56  (K49 : Int32 → Int32 → sw_I → sw_J → Prop) (K56 : Int32 → Int32 → Int32 → sw_I → sw_J → Prop) (Q : Int32 → sw_I → sw_J → Prop) (x1 : Int32) (x2 : Int32) (x3 : Int32) (I : sw_I) (J : sw_J) : Prop :=
  sw_if (x1 < x3) (∀ y_2 : Int32, y_2 = x2 + 1 → K49 x1 y_2 I J) (wp_J6_bitCount_0f7a4 x3 I J (fun r_4 I_5 J_6 => sw_if (r_4 = x2) (wp_X9_explainedBy x3 I_5 J_6 (fun r_8 I_9 J_10 => sw_if (r_8 = 0) (wB_X9_lies_79  K56 Q x1 x2 x3 I_9 J_10) (Q x2 I_9 J_10))) (wB_X9_lies_79  K56 Q x1 x2 x3 I_5 J_6)))
def wl_X9_lies_56  (K49 : Int32 → Int32 → sw_I → sw_J → Prop) (Q : Int32 → sw_I → sw_J → Prop) : Nat → Int32 → Int32 → Int32 → sw_I → sw_J → Prop
  | 0 => fun _ _ _ _ _ => False
  | n + 1 => fun x1 x2 x3 I J => wb_X9_lies_56  K49 (wl_X9_lies_56  K49 Q n) Q x1 x2 x3 I J
def wb_X9_lies_49  (K49 : Int32 → Int32 → sw_I → sw_J → Prop) (Q : Int32 → sw_I → sw_J → Prop) (x1 : Int32) (x2 : Int32) (I : sw_I) (J : sw_J) : Prop :=
  sw_if ((2 : Int32) < x2) (Q (-2 : Int32) I J) (∃ n_2 : Nat, wl_X9_lies_56  K49 Q n_2 x1 x2 1 I J)
def wl_X9_lies_49   (Q : Int32 → sw_I → sw_J → Prop) : Nat → Int32 → Int32 → sw_I → sw_J → Prop
  | 0 => fun _ _ _ _ => False
  | n + 1 => fun x1 x2 I J => wb_X9_lies_49  (wl_X9_lies_49   Q n) Q x1 x2 I J
def wp_X9_lies  (I : sw_I) (J : sw_J) (Q : Int32 → sw_I → sw_J → Prop) : Prop :=
  wp_X7_believe 15 10 I J (fun I_2 J_3 => wp_X7_allSo  I_2 J_3 (fun r_4 I_5 J_6 => sw_if (r_4 = 0) (wp_X1_everybody  I_5 J_6 (fun r_8 I_9 J_10 => ∃ n_11 : Nat, wl_X9_lies_49   Q n_11 r_8 1 I_9 J_10)) (wp_X9_clearRow  I_5 J_6 (fun I_13 J_14 => wp_X9_tell 0 I_13 J_14 (fun I_16 J_17 => Q (0 : Int32) I_16 J_17)))))
set_option maxRecDepth 20000 in
theorem t_X9_lies_79 {l : Launch} {D : va_G} {cy : Nat → ClassId} {sz : Nat} {G : sw_G} (hG : sw_lay G)   {Q : Int32 → sw_I → sw_J → Prop} {K56 : Int32 → Int32 → Int32 → sw_I → sw_J → Prop} (hK56 : ∀ (x1 : Int32) (x2 : Int32) (x3 : Int32) (I : sw_I) (J : sw_J), K56 x1 x2 x3 I J → AW l D cy sz RX9 cX9_lies 4 (some .int) false rm_X9_lies 0 0 (sw_qi G Q) 0 0 G I J 56 [(0, .ref (sz + 0)), (1, .int x1), (2, .int x2), (3, .int x3)] []) {x1 : Int32} {x2 : Int32} {x3 : Int32} {I : sw_I} {J : sw_J} (h : wB_X9_lies_79  K56 Q x1 x2 x3 I J) : AW l D cy sz RX9 cX9_lies 4 (some .int) false rm_X9_lies 0 0 (sw_qi G Q) 0 0 G I J 79 [(0, .ref (sz + 0)), (1, .int x1), (2, .int x2), (3, .int x3)] [] := by
  unfold wB_X9_lies_79 at h
  obtain ⟨y_1, e_2⟩ : ∃ q : Int32, q = x3 + 1 := ⟨_, rfl⟩
  have h := h y_1 e_2
  refine aw_iinc (lv' := [(3, .int y_1), (0, .ref (sz + 0)), (1, .int x1), (2, .int x2)]) 3 dX9_lies_79 rfl (by rw [e_2]; rfl) (by decide) rfl ?_
  refine aw_goto 56 dX9_lies_82 (by decide) ?_
  refine aw_sub [1, 2, 3, 0] rfl ?_
  exact hK56 x1 x2 y_1 I J h
set_option maxRecDepth 20000 in
theorem tb_X9_lies_56 {l : Launch} {D : va_G} {cy : Nat → ClassId} {sz : Nat} {G : sw_G} (hG : sw_lay G)   {Q : Int32 → sw_I → sw_J → Prop} {K49 : Int32 → Int32 → sw_I → sw_J → Prop} (hK49 : ∀ (x1 : Int32) (x2 : Int32) (I : sw_I) (J : sw_J), K49 x1 x2 I J → AW l D cy sz RX9 cX9_lies 4 (some .int) false rm_X9_lies 0 0 (sw_qi G Q) 0 0 G I J 49 [(0, .ref (sz + 0)), (1, .int x1), (2, .int x2)] []) {K56 : Int32 → Int32 → Int32 → sw_I → sw_J → Prop} (hK56 : ∀ (x1 : Int32) (x2 : Int32) (x3 : Int32) (I : sw_I) (J : sw_J), K56 x1 x2 x3 I J → AW l D cy sz RX9 cX9_lies 4 (some .int) false rm_X9_lies 0 0 (sw_qi G Q) 0 0 G I J 56 [(0, .ref (sz + 0)), (1, .int x1), (2, .int x2), (3, .int x3)] []) {x1 : Int32} {x2 : Int32} {x3 : Int32} {I : sw_I} {J : sw_J} (h : wb_X9_lies_56  K49 K56 Q x1 x2 x3 I J) : AW l D cy sz RX9 cX9_lies 4 (some .int) false rm_X9_lies 0 0 (sw_qi G Q) 0 0 G I J 56 [(0, .ref (sz + 0)), (1, .int x1), (2, .int x2), (3, .int x3)] [] := by
  unfold wb_X9_lies_56 at h
  refine aw_iload_n 3 dX9_lies_56 rfl rfl ?_
  refine aw_iload_n 1 dX9_lies_57 rfl rfl ?_
  refine aw_jgt 85 dX9_lies_58 (by decide) (fun c_1 => ?_) (fun c_1 => ?_)
  · have h := sw_if.t h c_1
    obtain ⟨y_2, e_3⟩ : ∃ q : Int32, q = x2 + 1 := ⟨_, rfl⟩
    have h := h y_2 e_3
    refine aw_iinc (lv' := [(2, .int y_2), (0, .ref (sz + 0)), (1, .int x1), (3, .int x3)]) 2 dX9_lies_85 rfl (by rw [e_3]; rfl) (by decide) rfl ?_
    refine aw_goto 49 dX9_lies_88 (by decide) ?_
    refine aw_sub [1, 2, 0] rfl ?_
    exact hK49 x1 y_2 I J h
  · have h := sw_if.f h c_1
    refine aw_iload_n 3 dX9_lies_61 rfl rfl ?_
    refine aw_callS wv_J6_bitCount_0f7a4 (M_J6_bitCount_0f7a4 trivial  h) ml_X9_272 rfl rfl (Nat.le_of_ble_eq_true rfl) ⟨rfl, rfl⟩ ⟨Nat.le_of_ble_eq_true rfl, Nat.le_of_ble_eq_true rfl⟩ ⟨Nat.le_refl _, Nat.le_refl _⟩ dX9_lies_62 (aw_ki fun r_4 I_5 J_6 h => ?_)
    refine aw_iload_n 2 dX9_lies_65 rfl rfl ?_
    refine aw_jne 79 dX9_lies_66 (by decide) (fun c_7 => ?_) (fun c_7 => ?_)
    · have h := sw_if.f h c_7
      refine aw_sub [0, 1, 2, 3] rfl ?_
      exact t_X9_lies_79 hG  hK56 h
    · have h := sw_if.t h c_7
      refine aw_aload_n 0 dX9_lies_69 rfl rfl ?_
      refine aw_iload_n 3 dX9_lies_70 rfl rfl ?_
      refine aw_callV wv_X9_explainedBy (M_X9_explainedBy hG  h) ml_X9_334 rfl (by decide) (lk0 hG) rfl rfl (Nat.le_of_ble_eq_true rfl) ⟨rfl, rfl⟩ ⟨Nat.le_of_ble_eq_true rfl, Nat.le_of_ble_eq_true rfl⟩ ⟨Nat.le_refl _, Nat.le_refl _⟩ dX9_lies_71 (aw_ki fun r_8 I_9 J_10 h => ?_)
      refine aw_zeq 79 dX9_lies_74 (by decide) (fun c_11 => ?_) (fun c_11 => ?_)
      · have h := sw_if.t h c_11
        refine aw_sub [0, 1, 2, 3] rfl ?_
        exact t_X9_lies_79 hG  hK56 h
      · have h := sw_if.f h c_11
        refine aw_iload_n 2 dX9_lies_77 rfl rfl ?_
        exact aw_iret rfl dX9_lies_78 ⟨rfl, _, rfl, h⟩
set_option maxRecDepth 20000 in
theorem tl_X9_lies_56 {l : Launch} {D : va_G} {cy : Nat → ClassId} {sz : Nat} {G : sw_G} (hG : sw_lay G)   {Q : Int32 → sw_I → sw_J → Prop} {K49 : Int32 → Int32 → sw_I → sw_J → Prop} (hK49 : ∀ (x1 : Int32) (x2 : Int32) (I : sw_I) (J : sw_J), K49 x1 x2 I J → AW l D cy sz RX9 cX9_lies 4 (some .int) false rm_X9_lies 0 0 (sw_qi G Q) 0 0 G I J 49 [(0, .ref (sz + 0)), (1, .int x1), (2, .int x2)] []) : ∀ (n : Nat) (x1 : Int32) (x2 : Int32) (x3 : Int32) (I : sw_I) (J : sw_J), wl_X9_lies_56  K49 Q n x1 x2 x3 I J → AW l D cy sz RX9 cX9_lies 4 (some .int) false rm_X9_lies 0 0 (sw_qi G Q) 0 0 G I J 56 [(0, .ref (sz + 0)), (1, .int x1), (2, .int x2), (3, .int x3)] [] := by
  intro n
  induction n with
  | zero => intro x1 x2 x3 I J h; exact False.elim h
  | succ n ih => intro x1 x2 x3 I J h; exact tb_X9_lies_56 hG  hK49 ih h
set_option maxRecDepth 20000 in
theorem tb_X9_lies_49 {l : Launch} {D : va_G} {cy : Nat → ClassId} {sz : Nat} {G : sw_G} (hG : sw_lay G)   {Q : Int32 → sw_I → sw_J → Prop} {K49 : Int32 → Int32 → sw_I → sw_J → Prop} (hK49 : ∀ (x1 : Int32) (x2 : Int32) (I : sw_I) (J : sw_J), K49 x1 x2 I J → AW l D cy sz RX9 cX9_lies 4 (some .int) false rm_X9_lies 0 0 (sw_qi G Q) 0 0 G I J 49 [(0, .ref (sz + 0)), (1, .int x1), (2, .int x2)] []) {x1 : Int32} {x2 : Int32} {I : sw_I} {J : sw_J} (h : wb_X9_lies_49  K49 Q x1 x2 I J) : AW l D cy sz RX9 cX9_lies 4 (some .int) false rm_X9_lies 0 0 (sw_qi G Q) 0 0 G I J 49 [(0, .ref (sz + 0)), (1, .int x1), (2, .int x2)] [] := by
  unfold wb_X9_lies_49 at h
  refine aw_iload_n 2 dX9_lies_49 rfl rfl ?_
  refine aw_iconst (v := 2) dX9_lies_50 (by decide) ?_
  refine aw_jgt 91 dX9_lies_51 (by decide) (fun c_1 => ?_) (fun c_1 => ?_)
  · have h := sw_if.t h c_1
    refine aw_bipush (v := (-2)) dX9_lies_91 (by decide) ?_
    exact aw_iret rfl dX9_lies_93 ⟨rfl, _, rfl, h⟩
  · have h := sw_if.f h c_1
    refine aw_iconst (v := 1) dX9_lies_54 (by decide) ?_
    refine aw_istore_n (lv' := [(3, .int 1), (0, .ref (sz + 0)), (1, .int x1), (2, .int x2)]) dX9_lies_55 rfl (by decide) rfl ?_
    refine aw_sub [1, 2, 3, 0] rfl ?_
    obtain ⟨n_2, h⟩ := h
    exact tl_X9_lies_56 hG  hK49 n_2 x1 x2 1 I J h
set_option maxRecDepth 20000 in
theorem tl_X9_lies_49 {l : Launch} {D : va_G} {cy : Nat → ClassId} {sz : Nat} {G : sw_G} (hG : sw_lay G)   {Q : Int32 → sw_I → sw_J → Prop} : ∀ (n : Nat) (x1 : Int32) (x2 : Int32) (I : sw_I) (J : sw_J), wl_X9_lies_49   Q n x1 x2 I J → AW l D cy sz RX9 cX9_lies 4 (some .int) false rm_X9_lies 0 0 (sw_qi G Q) 0 0 G I J 49 [(0, .ref (sz + 0)), (1, .int x1), (2, .int x2)] [] := by
  intro n
  induction n with
  | zero => intro x1 x2 I J h; exact False.elim h
  | succ n ih => intro x1 x2 I J h; exact tb_X9_lies_49 hG  ih h
set_option maxRecDepth 20000 in
theorem t_X9_lies {l : Launch} {D : va_G} {cy : Nat → ClassId} {sz : Nat} {G : sw_G} (hG : sw_lay G)   {Q : Int32 → sw_I → sw_J → Prop}  {I : sw_I} {J : sw_J} (h : wp_X9_lies  I J Q) : AW l D cy sz RX9 cX9_lies 4 (some .int) false rm_X9_lies 0 0 (sw_qi G Q) 0 0 G I J 0 [(0, .ref (sz + 0))] [] := by
  unfold wp_X9_lies at h
  refine aw_aload_n 0 dX9_lies_0 rfl rfl ?_
  refine gf_X9_7 fl_X9_51 (lk0 hG) (lr0_7 hG) dX9_lies_1 ?_
  refine aw_aload_n 0 dX9_lies_4 rfl rfl ?_
  refine gf_X9_2 fl_X9_26 (lk0 hG) (lr0_2 hG) dX9_lies_5 ?_
  refine gf_X3_1 fl_X9_133 (lk13 hG) (lr13_1 hG) dX9_lies_8 ?_
  refine aw_callV wv_X7_believe (M_X7_believe hG ⟨(lk15 hG), (ln15 hG)⟩ h) ml_X9_318 rfl (by decide) (lk109 hG) rfl rfl (Nat.le_of_ble_eq_true rfl) ⟨rfl, rfl⟩ ⟨Nat.le_of_ble_eq_true rfl, Nat.le_of_ble_eq_true rfl⟩ ⟨Nat.le_refl _, Nat.le_refl _⟩ dX9_lies_11 (aw_kv fun I_2 J_3 h => ?_)
  refine aw_aload_n 0 dX9_lies_14 rfl rfl ?_
  refine gf_X9_7 fl_X9_51 (lk0 hG) (lr0_7 hG) dX9_lies_15 ?_
  refine aw_aload_n 0 dX9_lies_18 rfl rfl ?_
  refine gf_X9_1 fl_X9_19 (lk0 hG) (lr0_1 hG) dX9_lies_19 ?_
  refine aw_callV wv_X7_allSo (M_X7_allSo hG  h) ml_X9_330 rfl (by decide) (lk109 hG) rfl rfl (Nat.le_of_ble_eq_true rfl) ⟨rfl, rfl⟩ ⟨Nat.le_of_ble_eq_true rfl, Nat.le_of_ble_eq_true rfl⟩ ⟨Nat.le_refl _, Nat.le_refl _⟩ dX9_lies_22 (aw_ki fun r_4 I_5 J_6 h => ?_)
  refine aw_zeq 39 dX9_lies_25 (by decide) (fun c_7 => ?_) (fun c_7 => ?_)
  · have h := sw_if.t h c_7
    refine aw_aload_n 0 dX9_lies_39 rfl rfl ?_
    refine gf_X9_1 fl_X9_19 (lk0 hG) (lr0_1 hG) dX9_lies_40 ?_
    refine aw_callV wv_X1_everybody (M_X1_everybody hG  h) ml_X9_284 rfl (by decide) (lk3 hG) rfl rfl (Nat.le_of_ble_eq_true rfl) ⟨rfl, rfl⟩ ⟨Nat.le_of_ble_eq_true rfl, Nat.le_of_ble_eq_true rfl⟩ ⟨Nat.le_refl _, Nat.le_refl _⟩ dX9_lies_43 (aw_ki fun r_8 I_9 J_10 h => ?_)
    refine aw_istore_n (lv' := [(1, .int r_8), (0, .ref (sz + 0))]) dX9_lies_46 rfl (by decide) rfl ?_
    refine aw_iconst (v := 1) dX9_lies_47 (by decide) ?_
    refine aw_istore_n (lv' := [(2, .int 1), (1, .int r_8), (0, .ref (sz + 0))]) dX9_lies_48 rfl (by decide) rfl ?_
    refine aw_sub [2, 1, 0] rfl ?_
    obtain ⟨n_11, h⟩ := h
    exact tl_X9_lies_49 hG   n_11 r_8 1 I_9 J_10 h
  · have h := sw_if.f h c_7
    refine aw_aload_n 0 dX9_lies_28 rfl rfl ?_
    refine aw_callV wv_X9_clearRow (M_X9_clearRow hG  h) ml_X9_192 rfl (by decide) (lk0 hG) rfl rfl (Nat.le_of_ble_eq_true rfl) ⟨rfl, rfl⟩ ⟨Nat.le_of_ble_eq_true rfl, Nat.le_of_ble_eq_true rfl⟩ ⟨Nat.le_refl _, Nat.le_refl _⟩ dX9_lies_29 (aw_kv fun I_13 J_14 h => ?_)
    refine aw_aload_n 0 dX9_lies_32 rfl rfl ?_
    refine aw_lconst (v := 0) dX9_lies_33 (by decide) ?_
    refine aw_callV wv_X9_tell (M_X9_tell hG  h) ml_X9_195 rfl (by decide) (lk0 hG) rfl rfl (Nat.le_of_ble_eq_true rfl) ⟨rfl, rfl⟩ ⟨Nat.le_of_ble_eq_true rfl, Nat.le_of_ble_eq_true rfl⟩ ⟨Nat.le_refl _, Nat.le_refl _⟩ dX9_lies_34 (aw_kv fun I_16 J_17 h => ?_)
    refine aw_iconst (v := 0) dX9_lies_37 (by decide) ?_
    exact aw_iret rfl dX9_lies_38 ⟨rfl, _, rfl, h⟩
theorem M_X9_lies {l : Launch} {D : va_G} {cy : Nat → ClassId} {sz : Nat} {G : sw_G} (hG : sw_lay G)   {Q : Int32 → sw_I → sw_J → Prop}  {I : sw_I} {J : sw_J} (h : wp_X9_lies  I J Q) : Met l yX9_lies (Cond.code yX9_lies cX9_lies 4 (some .int) :: sw_T) rm_X9_lies (sw_Pc D cy sz [.ref (sz + 0)] G I J) (sw_Q D cy sz (sw_qi G Q)) 0 0 (fun q => sz ≤ q) :=
  sw_met (by decide) (fun q => by cases q) (Nat.le_of_ble_eq_true rfl) rfl (t_X9_lies hG  h)
-- X9_odds
abbrev rm_X9_odds : Room := { frames := 4, cells := 0, slots := 0, locals := 101 }
def wp_X9_odds (x1 : Int32) (I : sw_I) (J : sw_J) (Q : Int32 → sw_I → sw_J → Prop) : Prop :=
  wp_X1_hasFloor x1 I J (fun r_1 I_2 J_3 => sw_if (r_1 = 0) (Q (-1 : Int32) I_2 J_3) (wp_X9_weighStops  I_2 J_3 (fun r_5 I_6 J_7 => wp_X9_clearRow  I_6 J_7 (fun I_9 J_10 => vp_in x1 9 ∧ wp_X9_tellFraction (J_10 117 x1.toNatClampNeg) r_5 I_9 J_10 (fun I_13 J_14 => Q (0 : Int32) I_13 J_14)))))
set_option maxRecDepth 20000 in
theorem t_X9_odds {l : Launch} {D : va_G} {cy : Nat → ClassId} {sz : Nat} {G : sw_G} (hG : sw_lay G)   {Q : Int32 → sw_I → sw_J → Prop} {x1 : Int32} {I : sw_I} {J : sw_J} (h : wp_X9_odds x1 I J Q) : AW l D cy sz RX9 cX9_odds 4 (some .int) false rm_X9_odds 0 0 (sw_qi G Q) 0 0 G I J 0 [(0, .ref (sz + 0)), (1, .int x1)] [] := by
  unfold wp_X9_odds at h
  refine aw_aload_n 0 dX9_odds_0 rfl rfl ?_
  refine gf_X9_1 fl_X9_19 (lk0 hG) (lr0_1 hG) dX9_odds_1 ?_
  refine aw_iload_n 1 dX9_odds_4 rfl rfl ?_
  refine aw_callV wv_X1_hasFloor (M_X1_hasFloor hG  h) ml_X9_148 rfl (by decide) (lk3 hG) rfl rfl (Nat.le_of_ble_eq_true rfl) ⟨rfl, rfl⟩ ⟨Nat.le_of_ble_eq_true rfl, Nat.le_of_ble_eq_true rfl⟩ ⟨Nat.le_refl _, Nat.le_refl _⟩ dX9_odds_5 (aw_ki fun r_1 I_2 J_3 h => ?_)
  refine aw_zne 13 dX9_odds_8 (by decide) (fun c_4 => ?_) (fun c_4 => ?_)
  · have h := sw_if.f h c_4
    refine aw_aload_n 0 dX9_odds_13 rfl rfl ?_
    refine aw_callV wv_X9_weighStops (M_X9_weighStops hG  h) ml_X9_340 rfl (by decide) (lk0 hG) rfl rfl (Nat.le_of_ble_eq_true rfl) ⟨rfl, rfl⟩ ⟨Nat.le_of_ble_eq_true rfl, Nat.le_of_ble_eq_true rfl⟩ ⟨Nat.le_refl _, Nat.le_refl _⟩ dX9_odds_14 (aw_kl fun r_5 I_6 J_7 h => ?_)
    refine aw_lstore_n (lv' := [(2, .long r_5), (0, .ref (sz + 0)), (1, .int x1)]) dX9_odds_17 rfl (by decide) rfl ?_
    refine aw_aload_n 1 dX9_odds_18 rfl rfl ?_
    refine aw_callV wv_X9_clearRow (M_X9_clearRow hG  h) ml_X9_192 rfl (by decide) (lk0 hG) rfl rfl (Nat.le_of_ble_eq_true rfl) ⟨rfl, rfl⟩ ⟨Nat.le_of_ble_eq_true rfl, Nat.le_of_ble_eq_true rfl⟩ ⟨Nat.le_refl _, Nat.le_refl _⟩ dX9_odds_19 (aw_kv fun I_9 J_10 h => ?_)
    refine aw_aload_n 1 dX9_odds_22 rfl rfl ?_
    refine aw_aload_n 1 dX9_odds_23 rfl rfl ?_
    refine gf_X9_8 fl_X9_55 (lk0 hG) (lr0_8 hG) dX9_odds_24 ?_
    refine aw_iload_n 2 dX9_odds_27 rfl rfl ?_
    obtain ⟨hi_11, h⟩ := h
    refine aw_lld dX9_odds_28 (lk117 hG) (ln117 hG) hi_11 ?_
    refine aw_lload_n 0 dX9_odds_29 rfl rfl ?_
    refine aw_callV wv_X9_tellFraction (M_X9_tellFraction hG  h) ml_X9_344 rfl (by decide) (lk0 hG) rfl rfl (Nat.le_of_ble_eq_true rfl) ⟨rfl, rfl⟩ ⟨Nat.le_of_ble_eq_true rfl, Nat.le_of_ble_eq_true rfl⟩ ⟨Nat.le_refl _, Nat.le_refl _⟩ dX9_odds_30 (aw_kv fun I_13 J_14 h => ?_)
    refine aw_iconst (v := 0) dX9_odds_33 (by decide) ?_
    exact aw_iret rfl dX9_odds_34 ⟨rfl, _, rfl, h⟩
  · have h := sw_if.t h c_4
    refine aw_iconst (v := (-1)) dX9_odds_11 (by decide) ?_
    exact aw_iret rfl dX9_odds_12 ⟨rfl, _, rfl, h⟩
theorem M_X9_odds {l : Launch} {D : va_G} {cy : Nat → ClassId} {sz : Nat} {G : sw_G} (hG : sw_lay G)   {Q : Int32 → sw_I → sw_J → Prop} {x1 : Int32} {I : sw_I} {J : sw_J} (h : wp_X9_odds x1 I J Q) : Met l yX9_odds (Cond.code yX9_odds cX9_odds 4 (some .int) :: sw_T) rm_X9_odds (sw_Pc D cy sz [.ref (sz + 0), .int x1] G I J) (sw_Q D cy sz (sw_qi G Q)) 0 0 (fun q => sz ≤ q) :=
  sw_met (by decide) (fun q => by cases q) (Nat.le_of_ble_eq_true rfl) rfl (t_X9_odds hG  h)
-- X9_likely
abbrev rm_X9_likely : Room := { frames := 4, cells := 0, slots := 0, locals := 101 }
def wB_X9_likely_42  (K10 : Int64 → Int32 → Int32 → sw_I → sw_J → Prop) (Q : Int32 → sw_I → sw_J → Prop) (w1 : Int64) (x3 : Int32) (x4 : Int32) (I : sw_I) (J : sw_J) : Prop :=
  ∀ y_1 : Int32, y_1 = x4 + 1 → K10 w1 x3 y_1 I J
def wb_X9_likely_10  (K10 : Int64 → Int32 → Int32 → sw_I → sw_J → Prop) (Q : Int32 → sw_I → sw_J → Prop) (w1 : Int64) (x3 : Int32) (x4 : Int32) (I : sw_I) (J : sw_J) : Prop :=
  sw_if (x4 < (I 3 0)) (vp_in x4 9 ∧ vp_in x3 9 ∧ sw_if (0 < (lg_cmp (J 117 x4.toNatClampNeg) (J 117 x3.toNatClampNeg))) (wB_X9_likely_42  K10 Q w1 x4 x4 I J) (wB_X9_likely_42  K10 Q w1 x3 x4 I J)) (wp_X9_clearRow  I J (fun I_3 J_4 => vp_in x3 9 ∧ wp_X9_tellFraction (J_4 117 x3.toNatClampNeg) w1 I_3 J_4 (fun I_7 J_8 => Q x3 I_7 J_8)))
def wl_X9_likely_10   (Q : Int32 → sw_I → sw_J → Prop) : Nat → Int64 → Int32 → Int32 → sw_I → sw_J → Prop
  | 0 => fun _ _ _ _ _ => False
  | n + 1 => fun w1 x3 x4 I J => wb_X9_likely_10  (wl_X9_likely_10   Q n) Q w1 x3 x4 I J
def wp_X9_likely  (I : sw_I) (J : sw_J) (Q : Int32 → sw_I → sw_J → Prop) : Prop :=
  wp_X9_weighStops  I J (fun r_1 I_2 J_3 => ∃ n_4 : Nat, wl_X9_likely_10   Q n_4 r_1 0 1 I_2 J_3)
set_option maxRecDepth 20000 in
theorem t_X9_likely_42 {l : Launch} {D : va_G} {cy : Nat → ClassId} {sz : Nat} {G : sw_G} (hG : sw_lay G)   {Q : Int32 → sw_I → sw_J → Prop} {K10 : Int64 → Int32 → Int32 → sw_I → sw_J → Prop} (hK10 : ∀ (w1 : Int64) (x3 : Int32) (x4 : Int32) (I : sw_I) (J : sw_J), K10 w1 x3 x4 I J → AW l D cy sz RX9 cX9_likely 5 (some .int) false rm_X9_likely 0 0 (sw_qi G Q) 0 0 G I J 10 [(0, .ref (sz + 0)), (1, .long w1), (3, .int x3), (4, .int x4)] []) {w1 : Int64} {x3 : Int32} {x4 : Int32} {I : sw_I} {J : sw_J} (h : wB_X9_likely_42  K10 Q w1 x3 x4 I J) : AW l D cy sz RX9 cX9_likely 5 (some .int) false rm_X9_likely 0 0 (sw_qi G Q) 0 0 G I J 42 [(0, .ref (sz + 0)), (1, .long w1), (3, .int x3), (4, .int x4)] [] := by
  unfold wB_X9_likely_42 at h
  obtain ⟨y_1, e_2⟩ : ∃ q : Int32, q = x4 + 1 := ⟨_, rfl⟩
  have h := h y_1 e_2
  refine aw_iinc (lv' := [(4, .int y_1), (0, .ref (sz + 0)), (1, .long w1), (3, .int x3)]) 3 dX9_likely_42 rfl (by rw [e_2]; rfl) (by decide) rfl ?_
  refine aw_goto 10 dX9_likely_45 (by decide) ?_
  refine aw_sub [1, 2, 3, 0] rfl ?_
  exact hK10 w1 x3 y_1 I J h
set_option maxRecDepth 20000 in
theorem tb_X9_likely_10 {l : Launch} {D : va_G} {cy : Nat → ClassId} {sz : Nat} {G : sw_G} (hG : sw_lay G)   {Q : Int32 → sw_I → sw_J → Prop} {K10 : Int64 → Int32 → Int32 → sw_I → sw_J → Prop} (hK10 : ∀ (w1 : Int64) (x3 : Int32) (x4 : Int32) (I : sw_I) (J : sw_J), K10 w1 x3 x4 I J → AW l D cy sz RX9 cX9_likely 5 (some .int) false rm_X9_likely 0 0 (sw_qi G Q) 0 0 G I J 10 [(0, .ref (sz + 0)), (1, .long w1), (3, .int x3), (4, .int x4)] []) {w1 : Int64} {x3 : Int32} {x4 : Int32} {I : sw_I} {J : sw_J} (h : wb_X9_likely_10  K10 Q w1 x3 x4 I J) : AW l D cy sz RX9 cX9_likely 5 (some .int) false rm_X9_likely 0 0 (sw_qi G Q) 0 0 G I J 10 [(0, .ref (sz + 0)), (1, .long w1), (3, .int x3), (4, .int x4)] [] := by
  unfold wb_X9_likely_10 at h
  refine aw_iload 3 dX9_likely_10 rfl ?_
  refine aw_aload_n 0 dX9_likely_12 rfl rfl ?_
  refine gf_X9_1 fl_X9_19 (lk0 hG) (lr0_1 hG) dX9_likely_13 ?_
  refine gf_X1_0 fl_X9_229 (lk3 hG) dX9_likely_16 ?_
  refine aw_jge 48 dX9_likely_19 (by decide) (fun c_1 => ?_) (fun c_1 => ?_)
  · have h := sw_if.f h c_1
    refine aw_aload_n 0 dX9_likely_48 rfl rfl ?_
    refine aw_callV wv_X9_clearRow (M_X9_clearRow hG  h) ml_X9_192 rfl (by decide) (lk0 hG) rfl rfl (Nat.le_of_ble_eq_true rfl) ⟨rfl, rfl⟩ ⟨Nat.le_of_ble_eq_true rfl, Nat.le_of_ble_eq_true rfl⟩ ⟨Nat.le_refl _, Nat.le_refl _⟩ dX9_likely_49 (aw_kv fun I_3 J_4 h => ?_)
    refine aw_aload_n 0 dX9_likely_52 rfl rfl ?_
    refine aw_aload_n 0 dX9_likely_53 rfl rfl ?_
    refine gf_X9_8 fl_X9_55 (lk0 hG) (lr0_8 hG) dX9_likely_54 ?_
    refine aw_iload_n 2 dX9_likely_57 rfl rfl ?_
    obtain ⟨hi_5, h⟩ := h
    refine aw_lld dX9_likely_58 (lk117 hG) (ln117 hG) hi_5 ?_
    refine aw_lload_n 1 dX9_likely_59 rfl rfl ?_
    refine aw_callV wv_X9_tellFraction (M_X9_tellFraction hG  h) ml_X9_344 rfl (by decide) (lk0 hG) rfl rfl (Nat.le_of_ble_eq_true rfl) ⟨rfl, rfl⟩ ⟨Nat.le_of_ble_eq_true rfl, Nat.le_of_ble_eq_true rfl⟩ ⟨Nat.le_refl _, Nat.le_refl _⟩ dX9_likely_60 (aw_kv fun I_7 J_8 h => ?_)
    refine aw_iload_n 2 dX9_likely_63 rfl rfl ?_
    exact aw_iret rfl dX9_likely_64 ⟨rfl, _, rfl, h⟩
  · have h := sw_if.t h c_1
    refine aw_aload_n 0 dX9_likely_22 rfl rfl ?_
    refine gf_X9_8 fl_X9_55 (lk0 hG) (lr0_8 hG) dX9_likely_23 ?_
    refine aw_iload 3 dX9_likely_26 rfl ?_
    obtain ⟨hi_9, h⟩ := h
    refine aw_lld dX9_likely_28 (lk117 hG) (ln117 hG) hi_9 ?_
    refine aw_aload_n 0 dX9_likely_29 rfl rfl ?_
    refine gf_X9_8 fl_X9_55 (lk0 hG) (lr0_8 hG) dX9_likely_30 ?_
    refine aw_iload_n 2 dX9_likely_33 rfl rfl ?_
    obtain ⟨hi_10, h⟩ := h
    refine aw_lld dX9_likely_34 (lk117 hG) (ln117 hG) hi_10 ?_
    refine aw_lcmp dX9_likely_35 ?_
    refine aw_zle 42 dX9_likely_36 (by decide) (fun c_11 => ?_) (fun c_11 => ?_)
    · have h := sw_if.f h c_11
      refine aw_sub [0, 1, 2, 3] rfl ?_
      exact t_X9_likely_42 hG  hK10 h
    · have h := sw_if.t h c_11
      refine aw_iload 3 dX9_likely_39 rfl ?_
      refine aw_istore_n (lv' := [(3, .int x4), (0, .ref (sz + 0)), (1, .long w1), (4, .int x4)]) dX9_likely_41 rfl (by decide) rfl ?_
      refine aw_sub [1, 2, 0, 3] rfl ?_
      exact t_X9_likely_42 hG  hK10 h
set_option maxRecDepth 20000 in
theorem tl_X9_likely_10 {l : Launch} {D : va_G} {cy : Nat → ClassId} {sz : Nat} {G : sw_G} (hG : sw_lay G)   {Q : Int32 → sw_I → sw_J → Prop} : ∀ (n : Nat) (w1 : Int64) (x3 : Int32) (x4 : Int32) (I : sw_I) (J : sw_J), wl_X9_likely_10   Q n w1 x3 x4 I J → AW l D cy sz RX9 cX9_likely 5 (some .int) false rm_X9_likely 0 0 (sw_qi G Q) 0 0 G I J 10 [(0, .ref (sz + 0)), (1, .long w1), (3, .int x3), (4, .int x4)] [] := by
  intro n
  induction n with
  | zero => intro w1 x3 x4 I J h; exact False.elim h
  | succ n ih => intro w1 x3 x4 I J h; exact tb_X9_likely_10 hG  ih h
set_option maxRecDepth 20000 in
theorem t_X9_likely {l : Launch} {D : va_G} {cy : Nat → ClassId} {sz : Nat} {G : sw_G} (hG : sw_lay G)   {Q : Int32 → sw_I → sw_J → Prop}  {I : sw_I} {J : sw_J} (h : wp_X9_likely  I J Q) : AW l D cy sz RX9 cX9_likely 5 (some .int) false rm_X9_likely 0 0 (sw_qi G Q) 0 0 G I J 0 [(0, .ref (sz + 0))] [] := by
  unfold wp_X9_likely at h
  refine aw_aload_n 0 dX9_likely_0 rfl rfl ?_
  refine aw_callV wv_X9_weighStops (M_X9_weighStops hG  h) ml_X9_340 rfl (by decide) (lk0 hG) rfl rfl (Nat.le_of_ble_eq_true rfl) ⟨rfl, rfl⟩ ⟨Nat.le_of_ble_eq_true rfl, Nat.le_of_ble_eq_true rfl⟩ ⟨Nat.le_refl _, Nat.le_refl _⟩ dX9_likely_1 (aw_kl fun r_1 I_2 J_3 h => ?_)
  refine aw_lstore_n (lv' := [(1, .long r_1), (0, .ref (sz + 0))]) dX9_likely_4 rfl (by decide) rfl ?_
  refine aw_iconst (v := 0) dX9_likely_5 (by decide) ?_
  refine aw_istore_n (lv' := [(3, .int 0), (1, .long r_1), (0, .ref (sz + 0))]) dX9_likely_6 rfl (by decide) rfl ?_
  refine aw_iconst (v := 1) dX9_likely_7 (by decide) ?_
  refine aw_istore (lv' := [(4, .int 1), (3, .int 0), (1, .long r_1), (0, .ref (sz + 0))]) dX9_likely_8 (by decide) rfl ?_
  refine aw_sub [3, 2, 1, 0] rfl ?_
  obtain ⟨n_4, h⟩ := h
  exact tl_X9_likely_10 hG   n_4 r_1 0 1 I_2 J_3 h
theorem M_X9_likely {l : Launch} {D : va_G} {cy : Nat → ClassId} {sz : Nat} {G : sw_G} (hG : sw_lay G)   {Q : Int32 → sw_I → sw_J → Prop}  {I : sw_I} {J : sw_J} (h : wp_X9_likely  I J Q) : Met l yX9_likely (Cond.code yX9_likely cX9_likely 5 (some .int) :: sw_T) rm_X9_likely (sw_Pc D cy sz [.ref (sz + 0)] G I J) (sw_Q D cy sz (sw_qi G Q)) 0 0 (fun q => sz ≤ q) :=
  sw_met (by decide) (fun q => by cases q) (Nat.le_of_ble_eq_true rfl) rfl (t_X9_likely hG  h)
-- X9_ridesTillHome
abbrev rm_X9_ridesTillHome : Room := { frames := 5, cells := 0, slots := 0, locals := 128 }
def wp_X9_ridesTillHome (x1 : Int32) (I : sw_I) (J : sw_J) (Q : Int32 → sw_I → sw_J → Prop) : Prop :=
  sw_if ((I 6 5) = 0) (wp_X6_wantHome x1 I J (fun I_3 J_4 => wp_X6_seek 13 3000 I_3 J_4 (fun r_5 I_6 J_7 => sw_if (r_5 < 0) (sw_if ((I_6 120 6) = 0) (Q (-2 : Int32) I_6 J_7) (Q (-3 : Int32) I_6 J_7)) (wp_X9_tellPlan r_5 I_6 J_7 (fun I_10 J_11 => Q (I_10 120 5) I_10 J_11))))) (Q (-4 : Int32) I J)
set_option maxRecDepth 20000 in
theorem t_X9_ridesTillHome {l : Launch} {D : va_G} {cy : Nat → ClassId} {sz : Nat} {G : sw_G} (hG : sw_lay G)   {Q : Int32 → sw_I → sw_J → Prop} {x1 : Int32} {I : sw_I} {J : sw_J} (h : wp_X9_ridesTillHome x1 I J Q) : AW l D cy sz RX9 cX9_ridesTillHome 3 (some .int) false rm_X9_ridesTillHome 0 0 (sw_qi G Q) 0 0 G I J 0 [(0, .ref (sz + 0)), (1, .int x1)] [] := by
  unfold wp_X9_ridesTillHome at h
  refine aw_aload_n 0 dX9_ridesTillHome_0 rfl rfl ?_
  refine gf_X9_1 fl_X9_19 (lk0 hG) (lr0_1 hG) dX9_ridesTillHome_1 ?_
  refine gf_X1_5 fl_X9_108 (lk3 hG) (lr3_5 hG) dX9_ridesTillHome_4 ?_
  refine gf_X2_5 fl_X9_277 (lk6 hG) dX9_ridesTillHome_7 ?_
  refine aw_zeq 16 dX9_ridesTillHome_10 (by decide) (fun c_1 => ?_) (fun c_1 => ?_)
  · have h := sw_if.t h c_1
    refine aw_aload_n 0 dX9_ridesTillHome_16 rfl rfl ?_
    refine gf_X9_12 fl_X9_76 (lk0 hG) (lr0_12 hG) dX9_ridesTillHome_17 ?_
    refine aw_iload_n 1 dX9_ridesTillHome_20 rfl rfl ?_
    refine aw_callV wv_X6_wantHome (M_X6_wantHome hG  h) ml_X9_360 rfl (by decide) (lk120 hG) rfl rfl (Nat.le_of_ble_eq_true rfl) ⟨rfl, rfl⟩ ⟨Nat.le_of_ble_eq_true rfl, Nat.le_of_ble_eq_true rfl⟩ ⟨Nat.le_refl _, Nat.le_refl _⟩ dX9_ridesTillHome_21 (aw_kv fun I_3 J_4 h => ?_)
    refine aw_aload_n 0 dX9_ridesTillHome_24 rfl rfl ?_
    refine gf_X9_12 fl_X9_76 (lk0 hG) (lr0_12 hG) dX9_ridesTillHome_25 ?_
    refine aw_aload_n 0 dX9_ridesTillHome_28 rfl rfl ?_
    refine gf_X9_1 fl_X9_19 (lk0 hG) (lr0_1 hG) dX9_ridesTillHome_29 ?_
    refine aw_aload_n 0 dX9_ridesTillHome_32 rfl rfl ?_
    refine gf_X9_2 fl_X9_26 (lk0 hG) (lr0_2 hG) dX9_ridesTillHome_33 ?_
    refine aw_sipush (v := 3000) dX9_ridesTillHome_36 (by decide) ?_
    refine aw_callV wv_X6_seek (M_X6_seek hG (lm13 hG) h) ml_X9_294 rfl (by decide) (lk120 hG) rfl rfl (Nat.le_of_ble_eq_true rfl) ⟨rfl, rfl⟩ ⟨Nat.le_of_ble_eq_true rfl, Nat.le_of_ble_eq_true rfl⟩ ⟨Nat.le_refl _, Nat.le_refl _⟩ dX9_ridesTillHome_39 (aw_ki fun r_5 I_6 J_7 h => ?_)
    refine aw_istore_n (lv' := [(2, .int r_5), (0, .ref (sz + 0)), (1, .int x1)]) dX9_ridesTillHome_42 rfl (by decide) rfl ?_
    refine aw_iload_n 0 dX9_ridesTillHome_43 rfl rfl ?_
    refine aw_zge 65 dX9_ridesTillHome_44 (by decide) (fun c_8 => ?_) (fun c_8 => ?_)
    · have h := sw_if.f h c_8
      refine aw_aload_n 1 dX9_ridesTillHome_65 rfl rfl ?_
      refine aw_iload_n 0 dX9_ridesTillHome_66 rfl rfl ?_
      refine aw_callV wv_X9_tellPlan (M_X9_tellPlan hG  h) ml_X9_363 rfl (by decide) (lk0 hG) rfl rfl (Nat.le_of_ble_eq_true rfl) ⟨rfl, rfl⟩ ⟨Nat.le_of_ble_eq_true rfl, Nat.le_of_ble_eq_true rfl⟩ ⟨Nat.le_refl _, Nat.le_refl _⟩ dX9_ridesTillHome_67 (aw_kv fun I_10 J_11 h => ?_)
      refine aw_aload_n 1 dX9_ridesTillHome_70 rfl rfl ?_
      refine gf_X9_12 fl_X9_76 (lk0 hG) (lr0_12 hG) dX9_ridesTillHome_71 ?_
      refine gf_X6_5 fl_X9_301 (lk120 hG) dX9_ridesTillHome_74 ?_
      exact aw_iret rfl dX9_ridesTillHome_77 ⟨rfl, _, rfl, h⟩
    · have h := sw_if.t h c_8
      refine aw_aload_n 1 dX9_ridesTillHome_47 rfl rfl ?_
      refine gf_X9_12 fl_X9_76 (lk0 hG) (lr0_12 hG) dX9_ridesTillHome_48 ?_
      refine gf_X6_6 fl_X9_298 (lk120 hG) dX9_ridesTillHome_51 ?_
      refine aw_zeq 62 dX9_ridesTillHome_54 (by decide) (fun c_12 => ?_) (fun c_12 => ?_)
      · have h := sw_if.t h c_12
        refine aw_bipush (v := (-2)) dX9_ridesTillHome_62 (by decide) ?_
        exact aw_iret rfl dX9_ridesTillHome_64 ⟨rfl, _, rfl, h⟩
      · have h := sw_if.f h c_12
        refine aw_bipush (v := (-3)) dX9_ridesTillHome_57 (by decide) ?_
        refine aw_goto 64 dX9_ridesTillHome_59 (by decide) ?_
        exact aw_iret rfl dX9_ridesTillHome_64 ⟨rfl, _, rfl, h⟩
  · have h := sw_if.f h c_1
    refine aw_bipush (v := (-4)) dX9_ridesTillHome_13 (by decide) ?_
    exact aw_iret rfl dX9_ridesTillHome_15 ⟨rfl, _, rfl, h⟩
theorem M_X9_ridesTillHome {l : Launch} {D : va_G} {cy : Nat → ClassId} {sz : Nat} {G : sw_G} (hG : sw_lay G)   {Q : Int32 → sw_I → sw_J → Prop} {x1 : Int32} {I : sw_I} {J : sw_J} (h : wp_X9_ridesTillHome x1 I J Q) : Met l yX9_ridesTillHome (Cond.code yX9_ridesTillHome cX9_ridesTillHome 3 (some .int) :: sw_T) rm_X9_ridesTillHome (sw_Pc D cy sz [.ref (sz + 0), .int x1] G I J) (sw_Q D cy sz (sw_qi G Q)) 0 0 (fun q => sz ≤ q) :=
  sw_met (by decide) (fun q => by cases q) (Nat.le_of_ble_eq_true rfl) rfl (t_X9_ridesTillHome hG  h)
