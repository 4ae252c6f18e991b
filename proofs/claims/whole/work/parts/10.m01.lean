-- X6_cameFrom
abbrev rm_X6_cameFrom : Room := { frames := 1, cells := 0, slots := 0, locals := 21 }
def wp_X6_cameFrom (x1 : Int32) (I : sw_I) (J : sw_J) (Q : Int32 → sw_I → sw_J → Prop) : Prop :=
  wp_X6_isState x1 I J (fun r_1 I_2 J_3 => sw_if (r_1 = 0) (Q (0 : Int32) I_2 J_3) (vp_in x1 3000 ∧ Q ((I_2 126 x1.toNatClampNeg) >>> ((10 : Int32) &&& 31)) I_2 J_3))
set_option maxRecDepth 20000 in
theorem t_X6_cameFrom {l : Launch} {D : va_G} {cy : Nat → ClassId} {sz : Nat} {G : sw_G} (hG : sw_lay G)   {Q : Int32 → sw_I → sw_J → Prop} {x1 : Int32} {I : sw_I} {J : sw_J} (h : wp_X6_cameFrom x1 I J Q) : AW l D cy sz RX6 cX6_cameFrom 2 (some .int) false rm_X6_cameFrom 0 0 (sw_qi G Q) 0 0 G I J 0 [(0, .ref (sz + 120)), (1, .int x1)] [] := by
  unfold wp_X6_cameFrom at h
  refine aw_aload_n 0 dX6_cameFrom_0 rfl rfl ?_
  refine aw_iload_n 1 dX6_cameFrom_1 rfl rfl ?_
  refine aw_callV wv_X6_isState (M_X6_isState hG  h) ml_X6_122 rfl (by decide) (lk120 hG) rfl rfl (Nat.le_of_ble_eq_true rfl) ⟨rfl, rfl⟩ ⟨Nat.le_of_ble_eq_true rfl, Nat.le_of_ble_eq_true rfl⟩ ⟨Nat.le_refl _, Nat.le_refl _⟩ dX6_cameFrom_2 (aw_ki fun r_1 I_2 J_3 h => ?_)
  refine aw_zeq 20 dX6_cameFrom_5 (by decide) (fun c_4 => ?_) (fun c_4 => ?_)
  · have h := sw_if.t h c_4
    refine aw_iconst (v := 0) dX6_cameFrom_20 (by decide) ?_
    exact aw_iret rfl dX6_cameFrom_21 ⟨rfl, _, rfl, h⟩
  · have h := sw_if.f h c_4
    refine aw_aload_n 0 dX6_cameFrom_8 rfl rfl ?_
    refine gf_X6_2 fl_X6_22 (lk120 hG) (lr120_2 hG) dX6_cameFrom_9 ?_
    refine aw_iload_n 1 dX6_cameFrom_12 rfl rfl ?_
    obtain ⟨hi_5, h⟩ := h
    refine aw_ild dX6_cameFrom_13 (lk126 hG) (ln126 hG) hi_5 ?_
    refine aw_bipush (v := 10) dX6_cameFrom_14 (by decide) ?_
    refine aw_ishr dX6_cameFrom_16 ?_
    refine aw_goto 21 dX6_cameFrom_17 (by decide) ?_
    exact aw_iret rfl dX6_cameFrom_21 ⟨rfl, _, rfl, h⟩
theorem M_X6_cameFrom {l : Launch} {D : va_G} {cy : Nat → ClassId} {sz : Nat} {G : sw_G} (hG : sw_lay G)   {Q : Int32 → sw_I → sw_J → Prop} {x1 : Int32} {I : sw_I} {J : sw_J} (h : wp_X6_cameFrom x1 I J Q) : Met l yX6_cameFrom (Cond.code yX6_cameFrom cX6_cameFrom 2 (some .int) :: sw_T) rm_X6_cameFrom (sw_Pc D cy sz [.ref (sz + 120), .int x1] G I J) (sw_Q D cy sz (sw_qi G Q)) 0 0 (fun q => sz ≤ q) :=
  sw_met (by decide) (fun q => by cases q) (Nat.le_of_ble_eq_true rfl) rfl (t_X6_cameFrom hG  h)
-- X6_taken
abbrev rm_X6_taken : Room := { frames := 1, cells := 0, slots := 0, locals := 21 }
def wp_X6_taken (x1 : Int32) (I : sw_I) (J : sw_J) (Q : Int32 → sw_I → sw_J → Prop) : Prop :=
  wp_X6_isState x1 I J (fun r_1 I_2 J_3 => sw_if (r_1 = 0) (Q (0 : Int32) I_2 J_3) (vp_in x1 3000 ∧ Q ((I_2 126 x1.toNatClampNeg) &&& (1023 : Int32)) I_2 J_3))
set_option maxRecDepth 20000 in
theorem t_X6_taken {l : Launch} {D : va_G} {cy : Nat → ClassId} {sz : Nat} {G : sw_G} (hG : sw_lay G)   {Q : Int32 → sw_I → sw_J → Prop} {x1 : Int32} {I : sw_I} {J : sw_J} (h : wp_X6_taken x1 I J Q) : AW l D cy sz RX6 cX6_taken 2 (some .int) false rm_X6_taken 0 0 (sw_qi G Q) 0 0 G I J 0 [(0, .ref (sz + 120)), (1, .int x1)] [] := by
  unfold wp_X6_taken at h
  refine aw_aload_n 0 dX6_taken_0 rfl rfl ?_
  refine aw_iload_n 1 dX6_taken_1 rfl rfl ?_
  refine aw_callV wv_X6_isState (M_X6_isState hG  h) ml_X6_122 rfl (by decide) (lk120 hG) rfl rfl (Nat.le_of_ble_eq_true rfl) ⟨rfl, rfl⟩ ⟨Nat.le_of_ble_eq_true rfl, Nat.le_of_ble_eq_true rfl⟩ ⟨Nat.le_refl _, Nat.le_refl _⟩ dX6_taken_2 (aw_ki fun r_1 I_2 J_3 h => ?_)
  refine aw_zeq 21 dX6_taken_5 (by decide) (fun c_4 => ?_) (fun c_4 => ?_)
  · have h := sw_if.t h c_4
    refine aw_iconst (v := 0) dX6_taken_21 (by decide) ?_
    exact aw_iret rfl dX6_taken_22 ⟨rfl, _, rfl, h⟩
  · have h := sw_if.f h c_4
    refine aw_aload_n 0 dX6_taken_8 rfl rfl ?_
    refine gf_X6_2 fl_X6_22 (lk120 hG) (lr120_2 hG) dX6_taken_9 ?_
    refine aw_iload_n 1 dX6_taken_12 rfl rfl ?_
    obtain ⟨hi_5, h⟩ := h
    refine aw_ild dX6_taken_13 (lk126 hG) (ln126 hG) hi_5 ?_
    refine aw_sipush (v := 1023) dX6_taken_14 (by decide) ?_
    refine aw_iand dX6_taken_17 ?_
    refine aw_goto 22 dX6_taken_18 (by decide) ?_
    exact aw_iret rfl dX6_taken_22 ⟨rfl, _, rfl, h⟩
theorem M_X6_taken {l : Launch} {D : va_G} {cy : Nat → ClassId} {sz : Nat} {G : sw_G} (hG : sw_lay G)   {Q : Int32 → sw_I → sw_J → Prop} {x1 : Int32} {I : sw_I} {J : sw_J} (h : wp_X6_taken x1 I J Q) : Met l yX6_taken (Cond.code yX6_taken cX6_taken 2 (some .int) :: sw_T) rm_X6_taken (sw_Pc D cy sz [.ref (sz + 120), .int x1] G I J) (sw_Q D cy sz (sw_qi G Q)) 0 0 (fun q => sz ≤ q) :=
  sw_met (by decide) (fun q => by cases q) (Nat.le_of_ble_eq_true rfl) rfl (t_X6_taken hG  h)
-- X6_onFloor
abbrev rm_X6_onFloor : Room := { frames := 1, cells := 0, slots := 0, locals := 22 }
def wB_X6_onFloor_31  (K5 : Int64 → Int32 → Int32 → Int32 → sw_I → sw_J → Prop) (Q : Int32 → sw_I → sw_J → Prop) (w0 : Int64) (x2 : Int32) (x4 : Int32) (s0 : Int32) (s1 : Int32) (I : sw_I) (J : sw_J) : Prop :=
  ∀ y_1 : Int32, y_1 = s0 ||| s1 → ∀ y_3 : Int32, y_3 = x4 + 1 → K5 w0 x2 y_1 y_3 I J
def wb_X6_onFloor_5  (K5 : Int64 → Int32 → Int32 → Int32 → sw_I → sw_J → Prop) (Q : Int32 → sw_I → sw_J → Prop) (w0 : Int64) (x2 : Int32) (x3 : Int32) (x4 : Int32) (I : sw_I) (J : sw_J) : Prop :=
  sw_if (x4 < (10 : Int32)) (wp_X6_floorOf w0 x4 I J (fun r_2 I_3 J_4 => sw_if (r_2 = x2) (wB_X6_onFloor_31  K5 Q w0 x2 x4 x3 ((1 : Int32) <<< (x4 &&& 31)) I_3 J_4) (wB_X6_onFloor_31  K5 Q w0 x2 x4 x3 0 I_3 J_4))) (Q x3 I J)
def wl_X6_onFloor_5   (Q : Int32 → sw_I → sw_J → Prop) : Nat → Int64 → Int32 → Int32 → Int32 → sw_I → sw_J → Prop
  | 0 => fun _ _ _ _ _ _ => False
  | n + 1 => fun w0 x2 x3 x4 I J => wb_X6_onFloor_5  (wl_X6_onFloor_5   Q n) Q w0 x2 x3 x4 I J
def wp_X6_onFloor (w0 : Int64) (x2 : Int32) (I : sw_I) (J : sw_J) (Q : Int32 → sw_I → sw_J → Prop) : Prop :=
  ∃ n_1 : Nat, wl_X6_onFloor_5   Q n_1 w0 x2 0 0 I J
set_option maxRecDepth 20000 in
theorem t_X6_onFloor_31 {l : Launch} {D : va_G} {cy : Nat → ClassId} {sz : Nat} {G : sw_G} (hG : True)   {Q : Int32 → sw_I → sw_J → Prop} {K5 : Int64 → Int32 → Int32 → Int32 → sw_I → sw_J → Prop} (hK5 : ∀ (w0 : Int64) (x2 : Int32) (x3 : Int32) (x4 : Int32) (I : sw_I) (J : sw_J), K5 w0 x2 x3 x4 I J → AW l D cy sz RX6 cX6_onFloor 5 (some .int) false rm_X6_onFloor 0 0 (sw_qi G Q) 0 0 G I J 5 [(0, .long w0), (2, .int x2), (3, .int x3), (4, .int x4)] []) {w0 : Int64} {x2 : Int32} {x4 : Int32} {s0 : Int32} {s1 : Int32} {I : sw_I} {J : sw_J} (h : wB_X6_onFloor_31  K5 Q w0 x2 x4 s0 s1 I J) : AW l D cy sz RX6 cX6_onFloor 5 (some .int) false rm_X6_onFloor 0 0 (sw_qi G Q) 0 0 G I J 31 [(0, .long w0), (2, .int x2), (4, .int x4)] [.int s1, .int s0] := by
  unfold wB_X6_onFloor_31 at h
  refine aw_ior dX6_onFloor_31 ?_
  refine aw_topi (fun y_1 e_2 => ?_)
  have h := h y_1 e_2
  refine aw_istore_n (lv' := [(3, .int y_1), (0, .long w0), (2, .int x2), (4, .int x4)]) dX6_onFloor_32 rfl (by decide) rfl ?_
  obtain ⟨y_3, e_4⟩ : ∃ q : Int32, q = x4 + 1 := ⟨_, rfl⟩
  have h := h y_3 e_4
  refine aw_iinc (lv' := [(4, .int y_3), (3, .int y_1), (0, .long w0), (2, .int x2)]) 3 dX6_onFloor_33 rfl (by rw [e_4]; rfl) (by decide) rfl ?_
  refine aw_goto 5 dX6_onFloor_36 (by decide) ?_
  refine aw_sub [2, 3, 1, 0] rfl ?_
  exact hK5 w0 x2 y_1 y_3 I J h
set_option maxRecDepth 20000 in
theorem tb_X6_onFloor_5 {l : Launch} {D : va_G} {cy : Nat → ClassId} {sz : Nat} {G : sw_G} (hG : True)   {Q : Int32 → sw_I → sw_J → Prop} {K5 : Int64 → Int32 → Int32 → Int32 → sw_I → sw_J → Prop} (hK5 : ∀ (w0 : Int64) (x2 : Int32) (x3 : Int32) (x4 : Int32) (I : sw_I) (J : sw_J), K5 w0 x2 x3 x4 I J → AW l D cy sz RX6 cX6_onFloor 5 (some .int) false rm_X6_onFloor 0 0 (sw_qi G Q) 0 0 G I J 5 [(0, .long w0), (2, .int x2), (3, .int x3), (4, .int x4)] []) {w0 : Int64} {x2 : Int32} {x3 : Int32} {x4 : Int32} {I : sw_I} {J : sw_J} (h : wb_X6_onFloor_5  K5 Q w0 x2 x3 x4 I J) : AW l D cy sz RX6 cX6_onFloor 5 (some .int) false rm_X6_onFloor 0 0 (sw_qi G Q) 0 0 G I J 5 [(0, .long w0), (2, .int x2), (3, .int x3), (4, .int x4)] [] := by
  unfold wb_X6_onFloor_5 at h
  refine aw_iload 3 dX6_onFloor_5 rfl ?_
  refine aw_bipush (v := 10) dX6_onFloor_7 (by decide) ?_
  refine aw_jge 39 dX6_onFloor_9 (by decide) (fun c_1 => ?_) (fun c_1 => ?_)
  · have h := sw_if.f h c_1
    refine aw_iload_n 2 dX6_onFloor_39 rfl rfl ?_
    exact aw_iret rfl dX6_onFloor_40 ⟨rfl, _, rfl, h⟩
  · have h := sw_if.t h c_1
    refine aw_iload_n 2 dX6_onFloor_12 rfl rfl ?_
    refine aw_lload_n 0 dX6_onFloor_13 rfl rfl ?_
    refine aw_iload 3 dX6_onFloor_14 rfl ?_
    refine aw_callS wv_X6_floorOf (M_X6_floorOf trivial  h) ml_X6_110 rfl rfl (Nat.le_of_ble_eq_true rfl) ⟨rfl, rfl⟩ ⟨Nat.le_of_ble_eq_true rfl, Nat.le_of_ble_eq_true rfl⟩ ⟨Nat.le_refl _, Nat.le_refl _⟩ dX6_onFloor_16 (aw_ki fun r_2 I_3 J_4 h => ?_)
    refine aw_iload_n 1 dX6_onFloor_19 rfl rfl ?_
    refine aw_jne 30 dX6_onFloor_20 (by decide) (fun c_5 => ?_) (fun c_5 => ?_)
    · have h := sw_if.f h c_5
      refine aw_iconst (v := 0) dX6_onFloor_30 (by decide) ?_
      refine aw_sub [0, 1, 3] rfl ?_
      exact t_X6_onFloor_31 hG  hK5 h
    · have h := sw_if.t h c_5
      refine aw_iconst (v := 1) dX6_onFloor_23 (by decide) ?_
      refine aw_iload 3 dX6_onFloor_24 rfl ?_
      refine aw_ishl dX6_onFloor_26 ?_
      refine aw_goto 31 dX6_onFloor_27 (by decide) ?_
      refine aw_sub [0, 1, 3] rfl ?_
      exact t_X6_onFloor_31 hG  hK5 h
set_option maxRecDepth 20000 in
theorem tl_X6_onFloor_5 {l : Launch} {D : va_G} {cy : Nat → ClassId} {sz : Nat} {G : sw_G} (hG : True)   {Q : Int32 → sw_I → sw_J → Prop} : ∀ (n : Nat) (w0 : Int64) (x2 : Int32) (x3 : Int32) (x4 : Int32) (I : sw_I) (J : sw_J), wl_X6_onFloor_5   Q n w0 x2 x3 x4 I J → AW l D cy sz RX6 cX6_onFloor 5 (some .int) false rm_X6_onFloor 0 0 (sw_qi G Q) 0 0 G I J 5 [(0, .long w0), (2, .int x2), (3, .int x3), (4, .int x4)] [] := by
  intro n
  induction n with
  | zero => intro w0 x2 x3 x4 I J h; exact False.elim h
  | succ n ih => intro w0 x2 x3 x4 I J h; exact tb_X6_onFloor_5 hG  ih h
set_option maxRecDepth 20000 in
theorem t_X6_onFloor {l : Launch} {D : va_G} {cy : Nat → ClassId} {sz : Nat} {G : sw_G} (hG : True)   {Q : Int32 → sw_I → sw_J → Prop} {w0 : Int64} {x2 : Int32} {I : sw_I} {J : sw_J} (h : wp_X6_onFloor w0 x2 I J Q) : AW l D cy sz RX6 cX6_onFloor 5 (some .int) false rm_X6_onFloor 0 0 (sw_qi G Q) 0 0 G I J 0 [(0, .long w0), (2, .int x2)] [] := by
  unfold wp_X6_onFloor at h
  refine aw_iconst (v := 0) dX6_onFloor_0 (by decide) ?_
  refine aw_istore_n (lv' := [(3, .int 0), (0, .long w0), (2, .int x2)]) dX6_onFloor_1 rfl (by decide) rfl ?_
  refine aw_iconst (v := 0) dX6_onFloor_2 (by decide) ?_
  refine aw_istore (lv' := [(4, .int 0), (3, .int 0), (0, .long w0), (2, .int x2)]) dX6_onFloor_3 (by decide) rfl ?_
  refine aw_sub [2, 3, 1, 0] rfl ?_
  obtain ⟨n_1, h⟩ := h
  exact tl_X6_onFloor_5 hG   n_1 w0 x2 0 0 I J h
theorem M_X6_onFloor {l : Launch} {D : va_G} {cy : Nat → ClassId} {sz : Nat} {G : sw_G} (hG : True)   {Q : Int32 → sw_I → sw_J → Prop} {w0 : Int64} {x2 : Int32} {I : sw_I} {J : sw_J} (h : wp_X6_onFloor w0 x2 I J Q) : Met l yX6_onFloor (Cond.code yX6_onFloor cX6_onFloor 5 (some .int) :: sw_T) rm_X6_onFloor (sw_Pc D cy sz [.long w0, .int x2] G I J) (sw_Q D cy sz (sw_qi G Q)) 0 0 (fun q => sz ≤ q) :=
  sw_met (by decide) (fun q => by cases q) (Nat.le_of_ble_eq_true rfl) rfl (t_X6_onFloor hG  h)
-- X6_everHome
abbrev rm_X6_everHome : Room := { frames := 2, cells := 0, slots := 0, locals := 46 }
def wb_X6_everHome_4  (K4 : Int32 → Int32 → sw_I → sw_J → Prop) (Q : Int32 → sw_I → sw_J → Prop) (x1 : Int32) (x2 : Int32) (I : sw_I) (J : sw_J) : Prop :=
  sw_if (x2 < (I 120 4)) (vp_in x2 3000 ∧ wp_X6_onFloor (J 125 x2.toNatClampNeg) (-1) I J (fun r_3 I_4 J_5 => ∀ y_6 : Int32, y_6 = x1 ||| r_3 → ∀ y_8 : Int32, y_8 = x2 + 1 → K4 y_6 y_8 I_4 J_5)) (Q x1 I J)
def wl_X6_everHome_4   (Q : Int32 → sw_I → sw_J → Prop) : Nat → Int32 → Int32 → sw_I → sw_J → Prop
  | 0 => fun _ _ _ _ => False
  | n + 1 => fun x1 x2 I J => wb_X6_everHome_4  (wl_X6_everHome_4   Q n) Q x1 x2 I J
def wp_X6_everHome  (I : sw_I) (J : sw_J) (Q : Int32 → sw_I → sw_J → Prop) : Prop :=
  ∃ n_1 : Nat, wl_X6_everHome_4   Q n_1 0 0 I J
set_option maxRecDepth 20000 in
theorem tb_X6_everHome_4 {l : Launch} {D : va_G} {cy : Nat → ClassId} {sz : Nat} {G : sw_G} (hG : sw_lay G)   {Q : Int32 → sw_I → sw_J → Prop} {K4 : Int32 → Int32 → sw_I → sw_J → Prop} (hK4 : ∀ (x1 : Int32) (x2 : Int32) (I : sw_I) (J : sw_J), K4 x1 x2 I J → AW l D cy sz RX6 cX6_everHome 3 (some .int) false rm_X6_everHome 0 0 (sw_qi G Q) 0 0 G I J 4 [(0, .ref (sz + 120)), (1, .int x1), (2, .int x2)] []) {x1 : Int32} {x2 : Int32} {I : sw_I} {J : sw_J} (h : wb_X6_everHome_4  K4 Q x1 x2 I J) : AW l D cy sz RX6 cX6_everHome 3 (some .int) false rm_X6_everHome 0 0 (sw_qi G Q) 0 0 G I J 4 [(0, .ref (sz + 120)), (1, .int x1), (2, .int x2)] [] := by
  unfold wb_X6_everHome_4 at h
  refine aw_iload_n 2 dX6_everHome_4 rfl rfl ?_
  refine aw_aload_n 0 dX6_everHome_5 rfl rfl ?_
  refine gf_X6_4 fl_X6_29 (lk120 hG) dX6_everHome_6 ?_
  refine aw_jge 31 dX6_everHome_9 (by decide) (fun c_1 => ?_) (fun c_1 => ?_)
  · have h := sw_if.f h c_1
    refine aw_iload_n 1 dX6_everHome_31 rfl rfl ?_
    exact aw_iret rfl dX6_everHome_32 ⟨rfl, _, rfl, h⟩
  · have h := sw_if.t h c_1
    refine aw_iload_n 1 dX6_everHome_12 rfl rfl ?_
    refine aw_aload_n 0 dX6_everHome_13 rfl rfl ?_
    refine gf_X6_1 fl_X6_18 (lk120 hG) (lr120_1 hG) dX6_everHome_14 ?_
    refine aw_iload_n 2 dX6_everHome_17 rfl rfl ?_
    obtain ⟨hi_2, h⟩ := h
    refine aw_lld dX6_everHome_18 (lk125 hG) (ln125 hG) hi_2 ?_
    refine aw_iconst (v := (-1)) dX6_everHome_19 (by decide) ?_
    refine aw_callS wv_X6_onFloor (M_X6_onFloor trivial  h) ml_X6_125 rfl rfl (Nat.le_of_ble_eq_true rfl) ⟨rfl, rfl⟩ ⟨Nat.le_of_ble_eq_true rfl, Nat.le_of_ble_eq_true rfl⟩ ⟨Nat.le_refl _, Nat.le_refl _⟩ dX6_everHome_20 (aw_ki fun r_3 I_4 J_5 h => ?_)
    refine aw_ior dX6_everHome_23 ?_
    refine aw_topi (fun y_6 e_7 => ?_)
    have h := h y_6 e_7
    refine aw_istore_n (lv' := [(1, .int y_6), (0, .ref (sz + 120)), (2, .int x2)]) dX6_everHome_24 rfl (by decide) rfl ?_
    obtain ⟨y_8, e_9⟩ : ∃ q : Int32, q = x2 + 1 := ⟨_, rfl⟩
    have h := h y_8 e_9
    refine aw_iinc (lv' := [(2, .int y_8), (1, .int y_6), (0, .ref (sz + 120))]) 2 dX6_everHome_25 rfl (by rw [e_9]; rfl) (by decide) rfl ?_
    refine aw_goto 4 dX6_everHome_28 (by decide) ?_
    refine aw_sub [2, 1, 0] rfl ?_
    exact hK4 y_6 y_8 I_4 J_5 h
set_option maxRecDepth 20000 in
theorem tl_X6_everHome_4 {l : Launch} {D : va_G} {cy : Nat → ClassId} {sz : Nat} {G : sw_G} (hG : sw_lay G)   {Q : Int32 → sw_I → sw_J → Prop} : ∀ (n : Nat) (x1 : Int32) (x2 : Int32) (I : sw_I) (J : sw_J), wl_X6_everHome_4   Q n x1 x2 I J → AW l D cy sz RX6 cX6_everHome 3 (some .int) false rm_X6_everHome 0 0 (sw_qi G Q) 0 0 G I J 4 [(0, .ref (sz + 120)), (1, .int x1), (2, .int x2)] [] := by
  intro n
  induction n with
  | zero => intro x1 x2 I J h; exact False.elim h
  | succ n ih => intro x1 x2 I J h; exact tb_X6_everHome_4 hG  ih h
set_option maxRecDepth 20000 in
theorem t_X6_everHome {l : Launch} {D : va_G} {cy : Nat → ClassId} {sz : Nat} {G : sw_G} (hG : sw_lay G)   {Q : Int32 → sw_I → sw_J → Prop}  {I : sw_I} {J : sw_J} (h : wp_X6_everHome  I J Q) : AW l D cy sz RX6 cX6_everHome 3 (some .int) false rm_X6_everHome 0 0 (sw_qi G Q) 0 0 G I J 0 [(0, .ref (sz + 120))] [] := by
  unfold wp_X6_everHome at h
  refine aw_iconst (v := 0) dX6_everHome_0 (by decide) ?_
  refine aw_istore_n (lv' := [(1, .int 0), (0, .ref (sz + 120))]) dX6_everHome_1 rfl (by decide) rfl ?_
  refine aw_iconst (v := 0) dX6_everHome_2 (by decide) ?_
  refine aw_istore_n (lv' := [(2, .int 0), (1, .int 0), (0, .ref (sz + 120))]) dX6_everHome_3 rfl (by decide) rfl ?_
  refine aw_sub [2, 1, 0] rfl ?_
  obtain ⟨n_1, h⟩ := h
  exact tl_X6_everHome_4 hG   n_1 0 0 I J h
theorem M_X6_everHome {l : Launch} {D : va_G} {cy : Nat → ClassId} {sz : Nat} {G : sw_G} (hG : sw_lay G)   {Q : Int32 → sw_I → sw_J → Prop}  {I : sw_I} {J : sw_J} (h : wp_X6_everHome  I J Q) : Met l yX6_everHome (Cond.code yX6_everHome cX6_everHome 3 (some .int) :: sw_T) rm_X6_everHome (sw_Pc D cy sz [.ref (sz + 120)] G I J) (sw_Q D cy sz (sw_qi G Q)) 0 0 (fun q => sz ≤ q) :=
  sw_met (by decide) (fun q => by cases q) (Nat.le_of_ble_eq_true rfl) rfl (t_X6_everHome hG  h)
-- X6_everStopped
abbrev rm_X6_everStopped : Room := { frames := 1, cells := 0, slots := 0, locals := 21 }
def wb_X6_everStopped_4  (K4 : Int32 → Int32 → sw_I → sw_J → Prop) (Q : Int32 → sw_I → sw_J → Prop) (x1 : Int32) (x2 : Int32) (I : sw_I) (J : sw_J) : Prop :=
  sw_if (x2 < (I 120 4)) (vp_in x2 3000 ∧ wp_X6_liftOf (J 125 x2.toNatClampNeg) I J (fun r_3 I_4 J_5 => ∀ y_6 : Int32, y_6 = x1 ||| ((1 : Int32) <<< (r_3 &&& 31)) → ∀ y_8 : Int32, y_8 = x2 + 1 → K4 y_6 y_8 I_4 J_5)) (Q x1 I J)
def wl_X6_everStopped_4   (Q : Int32 → sw_I → sw_J → Prop) : Nat → Int32 → Int32 → sw_I → sw_J → Prop
  | 0 => fun _ _ _ _ => False
  | n + 1 => fun x1 x2 I J => wb_X6_everStopped_4  (wl_X6_everStopped_4   Q n) Q x1 x2 I J
def wp_X6_everStopped  (I : sw_I) (J : sw_J) (Q : Int32 → sw_I → sw_J → Prop) : Prop :=
  ∃ n_1 : Nat, wl_X6_everStopped_4   Q n_1 0 0 I J
set_option maxRecDepth 20000 in
theorem tb_X6_everStopped_4 {l : Launch} {D : va_G} {cy : Nat → ClassId} {sz : Nat} {G : sw_G} (hG : sw_lay G)   {Q : Int32 → sw_I → sw_J → Prop} {K4 : Int32 → Int32 → sw_I → sw_J → Prop} (hK4 : ∀ (x1 : Int32) (x2 : Int32) (I : sw_I) (J : sw_J), K4 x1 x2 I J → AW l D cy sz RX6 cX6_everStopped 3 (some .int) false rm_X6_everStopped 0 0 (sw_qi G Q) 0 0 G I J 4 [(0, .ref (sz + 120)), (1, .int x1), (2, .int x2)] []) {x1 : Int32} {x2 : Int32} {I : sw_I} {J : sw_J} (h : wb_X6_everStopped_4  K4 Q x1 x2 I J) : AW l D cy sz RX6 cX6_everStopped 3 (some .int) false rm_X6_everStopped 0 0 (sw_qi G Q) 0 0 G I J 4 [(0, .ref (sz + 120)), (1, .int x1), (2, .int x2)] [] := by
  unfold wb_X6_everStopped_4 at h
  refine aw_iload_n 2 dX6_everStopped_4 rfl rfl ?_
  refine aw_aload_n 0 dX6_everStopped_5 rfl rfl ?_
  refine gf_X6_4 fl_X6_29 (lk120 hG) dX6_everStopped_6 ?_
  refine aw_jge 32 dX6_everStopped_9 (by decide) (fun c_1 => ?_) (fun c_1 => ?_)
  · have h := sw_if.f h c_1
    refine aw_iload_n 1 dX6_everStopped_32 rfl rfl ?_
    exact aw_iret rfl dX6_everStopped_33 ⟨rfl, _, rfl, h⟩
  · have h := sw_if.t h c_1
    refine aw_iload_n 1 dX6_everStopped_12 rfl rfl ?_
    refine aw_iconst (v := 1) dX6_everStopped_13 (by decide) ?_
    refine aw_aload_n 0 dX6_everStopped_14 rfl rfl ?_
    refine gf_X6_1 fl_X6_18 (lk120 hG) (lr120_1 hG) dX6_everStopped_15 ?_
    refine aw_iload_n 2 dX6_everStopped_18 rfl rfl ?_
    obtain ⟨hi_2, h⟩ := h
    refine aw_lld dX6_everStopped_19 (lk125 hG) (ln125 hG) hi_2 ?_
    refine aw_callS wv_X6_liftOf (M_X6_liftOf trivial  h) ml_X6_114 rfl rfl (Nat.le_of_ble_eq_true rfl) ⟨rfl, rfl⟩ ⟨Nat.le_of_ble_eq_true rfl, Nat.le_of_ble_eq_true rfl⟩ ⟨Nat.le_refl _, Nat.le_refl _⟩ dX6_everStopped_20 (aw_ki fun r_3 I_4 J_5 h => ?_)
    refine aw_ishl dX6_everStopped_23 ?_
    refine aw_ior dX6_everStopped_24 ?_
    refine aw_topi (fun y_6 e_7 => ?_)
    have h := h y_6 e_7
    refine aw_istore_n (lv' := [(1, .int y_6), (0, .ref (sz + 120)), (2, .int x2)]) dX6_everStopped_25 rfl (by decide) rfl ?_
    obtain ⟨y_8, e_9⟩ : ∃ q : Int32, q = x2 + 1 := ⟨_, rfl⟩
    have h := h y_8 e_9
    refine aw_iinc (lv' := [(2, .int y_8), (1, .int y_6), (0, .ref (sz + 120))]) 2 dX6_everStopped_26 rfl (by rw [e_9]; rfl) (by decide) rfl ?_
    refine aw_goto 4 dX6_everStopped_29 (by decide) ?_
    refine aw_sub [2, 1, 0] rfl ?_
    exact hK4 y_6 y_8 I_4 J_5 h
set_option maxRecDepth 20000 in
theorem tl_X6_everStopped_4 {l : Launch} {D : va_G} {cy : Nat → ClassId} {sz : Nat} {G : sw_G} (hG : sw_lay G)   {Q : Int32 → sw_I → sw_J → Prop} : ∀ (n : Nat) (x1 : Int32) (x2 : Int32) (I : sw_I) (J : sw_J), wl_X6_everStopped_4   Q n x1 x2 I J → AW l D cy sz RX6 cX6_everStopped 3 (some .int) false rm_X6_everStopped 0 0 (sw_qi G Q) 0 0 G I J 4 [(0, .ref (sz + 120)), (1, .int x1), (2, .int x2)] [] := by
  intro n
  induction n with
  | zero => intro x1 x2 I J h; exact False.elim h
  | succ n ih => intro x1 x2 I J h; exact tb_X6_everStopped_4 hG  ih h
set_option maxRecDepth 20000 in
theorem t_X6_everStopped {l : Launch} {D : va_G} {cy : Nat → ClassId} {sz : Nat} {G : sw_G} (hG : sw_lay G)   {Q : Int32 → sw_I → sw_J → Prop}  {I : sw_I} {J : sw_J} (h : wp_X6_everStopped  I J Q) : AW l D cy sz RX6 cX6_everStopped 3 (some .int) false rm_X6_everStopped 0 0 (sw_qi G Q) 0 0 G I J 0 [(0, .ref (sz + 120))] [] := by
  unfold wp_X6_everStopped at h
  refine aw_iconst (v := 0) dX6_everStopped_0 (by decide) ?_
  refine aw_istore_n (lv' := [(1, .int 0), (0, .ref (sz + 120))]) dX6_everStopped_1 rfl (by decide) rfl ?_
  refine aw_iconst (v := 0) dX6_everStopped_2 (by decide) ?_
  refine aw_istore_n (lv' := [(2, .int 0), (1, .int 0), (0, .ref (sz + 120))]) dX6_everStopped_3 rfl (by decide) rfl ?_
  refine aw_sub [2, 1, 0] rfl ?_
  obtain ⟨n_1, h⟩ := h
  exact tl_X6_everStopped_4 hG   n_1 0 0 I J h
theorem M_X6_everStopped {l : Launch} {D : va_G} {cy : Nat → ClassId} {sz : Nat} {G : sw_G} (hG : sw_lay G)   {Q : Int32 → sw_I → sw_J → Prop}  {I : sw_I} {J : sw_J} (h : wp_X6_everStopped  I J Q) : Met l yX6_everStopped (Cond.code yX6_everStopped cX6_everStopped 3 (some .int) :: sw_T) rm_X6_everStopped (sw_Pc D cy sz [.ref (sz + 120)] G I J) (sw_Q D cy sz (sw_qi G Q)) 0 0 (fun q => sz ≤ q) :=
  sw_met (by decide) (fun q => by cases q) (Nat.le_of_ble_eq_true rfl) rfl (t_X6_everStopped hG  h)
-- X7_add
abbrev rm_X7_add : Room := { frames := 0, cells := 0, slots := 0, locals := 0 }
def wp_X7_add (x1 : Int32) (x2 : Int32) (x3 : Int32) (I : sw_I) (J : sw_J) (Q : sw_I → sw_J → Prop) : Prop :=
  sw_if ((I 109 4) < (8 : Int32)) (vp_in (I 109 4) 8 ∧ ∀ I_3 : sw_I, I_3 = sw_up I 110 (I 109 4).toNatClampNeg x1 → vp_in (I_3 109 4) 8 ∧ ∀ I_6 : sw_I, I_6 = sw_up I_3 111 (I_3 109 4).toNatClampNeg x2 → vp_in (I_6 109 4) 8 ∧ ∀ I_9 : sw_I, I_9 = sw_up I_6 112 (I_6 109 4).toNatClampNeg x3 → ∀ I_11 : sw_I, I_11 = sw_up I_9 109 4 ((I_9 109 4) + (1 : Int32)) → Q I_11 J) (Q I J)
set_option maxRecDepth 20000 in
theorem t_X7_add {l : Launch} {D : va_G} {cy : Nat → ClassId} {sz : Nat} {G : sw_G} (hG : sw_lay G)   {Q : sw_I → sw_J → Prop} {x1 : Int32} {x2 : Int32} {x3 : Int32} {I : sw_I} {J : sw_J} (h : wp_X7_add x1 x2 x3 I J Q) : AW l D cy sz RX7 cX7_add 4 none false rm_X7_add 0 0 (sw_qv G Q) 0 0 G I J 0 [(0, .ref (sz + 109)), (1, .int x1), (2, .int x2), (3, .int x3)] [] := by
  unfold wp_X7_add at h
  refine aw_aload_n 0 dX7_add_0 rfl rfl ?_
  refine gf_X7_4 fl_X7_28 (lk109 hG) dX7_add_1 ?_
  refine aw_bipush (v := 8) dX7_add_4 (by decide) ?_
  refine aw_jge 49 dX7_add_6 (by decide) (fun c_1 => ?_) (fun c_1 => ?_)
  · have h := sw_if.f h c_1
    exact aw_vret rfl dX7_add_49 ⟨rfl, rfl, h⟩
  · have h := sw_if.t h c_1
    refine aw_aload_n 0 dX7_add_9 rfl rfl ?_
    refine gf_X7_0 fl_X7_9 (lk109 hG) (lr109_0 hG) dX7_add_10 ?_
    refine aw_aload_n 0 dX7_add_13 rfl rfl ?_
    refine gf_X7_4 fl_X7_28 (lk109 hG) dX7_add_14 ?_
    refine aw_iload_n 1 dX7_add_17 rfl rfl ?_
    obtain ⟨hi_2, h⟩ := h
    refine aw_ist dX7_add_18 (lk110 hG) (ln110 hG) hi_2 (aw_nameI fun I_3 e_4 => ?_)
    have h := h I_3 e_4
    refine aw_aload_n 0 dX7_add_19 rfl rfl ?_
    refine gf_X7_1 fl_X7_15 (lk109 hG) (lr109_1 hG) dX7_add_20 ?_
    refine aw_aload_n 0 dX7_add_23 rfl rfl ?_
    refine gf_X7_4 fl_X7_28 (lk109 hG) dX7_add_24 ?_
    refine aw_iload_n 2 dX7_add_27 rfl rfl ?_
    obtain ⟨hi_5, h⟩ := h
    refine aw_ist dX7_add_28 (lk111 hG) (ln111 hG) hi_5 (aw_nameI fun I_6 e_7 => ?_)
    have h := h I_6 e_7
    refine aw_aload_n 0 dX7_add_29 rfl rfl ?_
    refine gf_X7_2 fl_X7_18 (lk109 hG) (lr109_2 hG) dX7_add_30 ?_
    refine aw_aload_n 0 dX7_add_33 rfl rfl ?_
    refine gf_X7_4 fl_X7_28 (lk109 hG) dX7_add_34 ?_
    refine aw_iload_n 3 dX7_add_37 rfl rfl ?_
    obtain ⟨hi_8, h⟩ := h
    refine aw_ist dX7_add_38 (lk112 hG) (ln112 hG) hi_8 (aw_nameI fun I_9 e_10 => ?_)
    have h := h I_9 e_10
    refine aw_aload_n 0 dX7_add_39 rfl rfl ?_
    refine aw_dup dX7_add_40 rfl ?_
    refine gf_X7_4 fl_X7_28 (lk109 hG) dX7_add_41 ?_
    refine aw_iconst (v := 1) dX7_add_44 (by decide) ?_
    refine aw_iadd dX7_add_45 ?_
    refine pf_X7_4 fl_X7_28 (lk109 hG) dX7_add_46 (aw_nameI fun I_11 e_12 => ?_)
    have h := h I_11 e_12
    exact aw_vret rfl dX7_add_49 ⟨rfl, rfl, h⟩
theorem M_X7_add {l : Launch} {D : va_G} {cy : Nat → ClassId} {sz : Nat} {G : sw_G} (hG : sw_lay G)   {Q : sw_I → sw_J → Prop} {x1 : Int32} {x2 : Int32} {x3 : Int32} {I : sw_I} {J : sw_J} (h : wp_X7_add x1 x2 x3 I J Q) : Met l yX7_add (Cond.code yX7_add cX7_add 4 none :: sw_T) rm_X7_add (sw_Pc D cy sz [.ref (sz + 109), .int x1, .int x2, .int x3] G I J) (sw_Q D cy sz (sw_qv G Q)) 0 0 (fun q => sz ≤ q) :=
  sw_met (by decide) (fun q => by cases q) (Nat.le_of_ble_eq_true rfl) rfl (t_X7_add hG  h)
-- X7_believe
abbrev rm_X7_believe : Room := { frames := 1, cells := 0, slots := 0, locals := 26 }
def wp_X7_believe (b1 : Nat) (n1 : Nat) (I : sw_I) (J : sw_J) (Q : sw_I → sw_J → Prop) : Prop :=
  sw_cpok (0 : Int32) (0 : Int32) (10 : Int32) n1 10 ∧ ∀ I_2 : sw_I, I_2 = sw_cp I b1 115 (0 : Int32).toNatClampNeg (0 : Int32).toNatClampNeg (10 : Int32).toNatClampNeg → Q I_2 J
set_option maxRecDepth 20000 in
theorem t_X7_believe {l : Launch} {D : va_G} {cy : Nat → ClassId} {sz : Nat} {G : sw_G} (hG : sw_lay G) {b1 : Nat} {n1 : Nat} (hb1 : sw_ia G b1 n1) {Q : sw_I → sw_J → Prop}  {I : sw_I} {J : sw_J} (h : wp_X7_believe b1 n1 I J Q) : AW l D cy sz RX7 cX7_believe 2 none false rm_X7_believe 0 0 (sw_qv G Q) 0 0 G I J 0 [(0, .ref (sz + 109)), (1, .ref (sz + b1))] [] := by
  unfold wp_X7_believe at h
  refine aw_aload_n 1 dX7_believe_0 rfl rfl ?_
  refine aw_iconst (v := 0) dX7_believe_1 (by decide) ?_
  refine aw_aload_n 0 dX7_believe_2 rfl rfl ?_
  refine gf_X7_3 fl_X7_24 (lk109 hG) (lr109_3 hG) dX7_believe_3 ?_
  refine gf_X3_1 fl_X7_32 (lk113 hG) (lr113_1 hG) dX7_believe_6 ?_
  refine aw_iconst (v := 0) dX7_believe_9 (by decide) ?_
  refine aw_bipush (v := 10) dX7_believe_10 (by decide) ?_
  obtain ⟨ok_1, h⟩ := h
  refine aw_copy hG.1 mc_X7_35 wm_arraycopy hb1.1 hb1.2 (lk115 hG) (ln115 hG) ok_1 (Nat.le_of_ble_eq_true rfl) (Nat.le_of_ble_eq_true rfl) dX7_believe_12 (aw_nameI fun I_2 e_3 => ?_)
  have h := h I_2 e_3
  exact aw_vret rfl dX7_believe_15 ⟨rfl, rfl, h⟩
theorem M_X7_believe {l : Launch} {D : va_G} {cy : Nat → ClassId} {sz : Nat} {G : sw_G} (hG : sw_lay G) {b1 : Nat} {n1 : Nat} (hb1 : sw_ia G b1 n1) {Q : sw_I → sw_J → Prop}  {I : sw_I} {J : sw_J} (h : wp_X7_believe b1 n1 I J Q) : Met l yX7_believe (Cond.code yX7_believe cX7_believe 2 none :: sw_T) rm_X7_believe (sw_Pc D cy sz [.ref (sz + 109), .ref (sz + b1)] G I J) (sw_Q D cy sz (sw_qv G Q)) 0 0 (fun q => sz ≤ q) :=
  sw_met (by decide) (fun q => by cases q) (Nat.le_of_ble_eq_true rfl) rfl (t_X7_believe hG hb1 h)
-- X8_put
abbrev rm_X8_put : Room := { frames := 0, cells := 0, slots := 0, locals := 0 }
def wp_X8_put (x1 : Int32) (I : sw_I) (J : sw_J) (Q : sw_I → sw_J → Prop) : Prop :=
  sw_if ((I 1 1) < (80 : Int32)) (vp_in (I 1 1) 80 ∧ ∀ I_3 : sw_I, I_3 = sw_up I 2 (I 1 1).toNatClampNeg x1 → ∀ I_5 : sw_I, I_5 = sw_up I_3 1 1 ((I_3 1 1) + (1 : Int32)) → Q I_5 J) (Q I J)
set_option maxRecDepth 20000 in
theorem t_X8_put {l : Launch} {D : va_G} {cy : Nat → ClassId} {sz : Nat} {G : sw_G} (hG : sw_lay G)   {Q : sw_I → sw_J → Prop} {x1 : Int32} {I : sw_I} {J : sw_J} (h : wp_X8_put x1 I J Q) : AW l D cy sz RX8 cX8_put 2 none false rm_X8_put 0 0 (sw_qv G Q) 0 0 G I J 0 [(0, .ref (sz + 1)), (1, .int x1)] [] := by
  unfold wp_X8_put at h
  refine aw_aload_n 0 dX8_put_0 rfl rfl ?_
  refine gf_X8_1 fl_X8_15 (lk1 hG) dX8_put_1 ?_
  refine aw_bipush (v := 80) dX8_put_4 (by decide) ?_
  refine aw_jge 29 dX8_put_6 (by decide) (fun c_1 => ?_) (fun c_1 => ?_)
  · have h := sw_if.f h c_1
    exact aw_vret rfl dX8_put_29 ⟨rfl, rfl, h⟩
  · have h := sw_if.t h c_1
    refine aw_aload_n 0 dX8_put_9 rfl rfl ?_
    refine gf_X8_0 fl_X8_9 (lk1 hG) (lr1_0 hG) dX8_put_10 ?_
    refine aw_aload_n 0 dX8_put_13 rfl rfl ?_
    refine gf_X8_1 fl_X8_15 (lk1 hG) dX8_put_14 ?_
    refine aw_iload_n 1 dX8_put_17 rfl rfl ?_
    obtain ⟨hi_2, h⟩ := h
    refine aw_ist dX8_put_18 (lk2 hG) (ln2 hG) hi_2 (aw_nameI fun I_3 e_4 => ?_)
    have h := h I_3 e_4
    refine aw_aload_n 0 dX8_put_19 rfl rfl ?_
    refine aw_dup dX8_put_20 rfl ?_
    refine gf_X8_1 fl_X8_15 (lk1 hG) dX8_put_21 ?_
    refine aw_iconst (v := 1) dX8_put_24 (by decide) ?_
    refine aw_iadd dX8_put_25 ?_
    refine pf_X8_1 fl_X8_15 (lk1 hG) dX8_put_26 (aw_nameI fun I_5 e_6 => ?_)
    have h := h I_5 e_6
    exact aw_vret rfl dX8_put_29 ⟨rfl, rfl, h⟩
theorem M_X8_put {l : Launch} {D : va_G} {cy : Nat → ClassId} {sz : Nat} {G : sw_G} (hG : sw_lay G)   {Q : sw_I → sw_J → Prop} {x1 : Int32} {I : sw_I} {J : sw_J} (h : wp_X8_put x1 I J Q) : Met l yX8_put (Cond.code yX8_put cX8_put 2 none :: sw_T) rm_X8_put (sw_Pc D cy sz [.ref (sz + 1), .int x1] G I J) (sw_Q D cy sz (sw_qv G Q)) 0 0 (fun q => sz ≤ q) :=
  sw_met (by decide) (fun q => by cases q) (Nat.le_of_ble_eq_true rfl) rfl (t_X8_put hG  h)
-- X8_at
abbrev rm_X8_at : Room := { frames := 0, cells := 0, slots := 0, locals := 0 }
def wp_X8_at (x1 : Int32) (I : sw_I) (J : sw_J) (Q : Int32 → sw_I → sw_J → Prop) : Prop :=
  sw_if (x1 < 0) (Q (-1 : Int32) I J) (sw_if (x1 < (I 1 1)) (vp_in x1 80 ∧ Q (I 2 x1.toNatClampNeg) I J) (Q (-1 : Int32) I J))
set_option maxRecDepth 20000 in
theorem t_X8_at {l : Launch} {D : va_G} {cy : Nat → ClassId} {sz : Nat} {G : sw_G} (hG : sw_lay G)   {Q : Int32 → sw_I → sw_J → Prop} {x1 : Int32} {I : sw_I} {J : sw_J} (h : wp_X8_at x1 I J Q) : AW l D cy sz RX8 cX8_at 2 (some .int) false rm_X8_at 0 0 (sw_qi G Q) 0 0 G I J 0 [(0, .ref (sz + 1)), (1, .int x1)] [] := by
  unfold wp_X8_at at h
  refine aw_iload_n 1 dX8_at_0 rfl rfl ?_
  refine aw_zlt 21 dX8_at_1 (by decide) (fun c_1 => ?_) (fun c_1 => ?_)
  · have h := sw_if.t h c_1
    refine aw_iconst (v := (-1)) dX8_at_21 (by decide) ?_
    exact aw_iret rfl dX8_at_22 ⟨rfl, _, rfl, h⟩
  · have h := sw_if.f h c_1
    refine aw_iload_n 1 dX8_at_4 rfl rfl ?_
    refine aw_aload_n 0 dX8_at_5 rfl rfl ?_
    refine gf_X8_1 fl_X8_15 (lk1 hG) dX8_at_6 ?_
    refine aw_jge 21 dX8_at_9 (by decide) (fun c_2 => ?_) (fun c_2 => ?_)
    · have h := sw_if.f h c_2
      refine aw_iconst (v := (-1)) dX8_at_21 (by decide) ?_
      exact aw_iret rfl dX8_at_22 ⟨rfl, _, rfl, h⟩
    · have h := sw_if.t h c_2
      refine aw_aload_n 0 dX8_at_12 rfl rfl ?_
      refine gf_X8_0 fl_X8_9 (lk1 hG) (lr1_0 hG) dX8_at_13 ?_
      refine aw_iload_n 1 dX8_at_16 rfl rfl ?_
      obtain ⟨hi_3, h⟩ := h
      refine aw_ild dX8_at_17 (lk2 hG) (ln2 hG) hi_3 ?_
      refine aw_goto 22 dX8_at_18 (by decide) ?_
      exact aw_iret rfl dX8_at_22 ⟨rfl, _, rfl, h⟩
theorem M_X8_at {l : Launch} {D : va_G} {cy : Nat → ClassId} {sz : Nat} {G : sw_G} (hG : sw_lay G)   {Q : Int32 → sw_I → sw_J → Prop} {x1 : Int32} {I : sw_I} {J : sw_J} (h : wp_X8_at x1 I J Q) : Met l yX8_at (Cond.code yX8_at cX8_at 2 (some .int) :: sw_T) rm_X8_at (sw_Pc D cy sz [.ref (sz + 1), .int x1] G I J) (sw_Q D cy sz (sw_qi G Q)) 0 0 (fun q => sz ≤ q) :=
  sw_met (by decide) (fun q => by cases q) (Nat.le_of_ble_eq_true rfl) rfl (t_X8_at hG  h)
-- X8_flawAtEnd
abbrev rm_X8_flawAtEnd : Room := { frames := 0, cells := 0, slots := 0, locals := 0 }
def wp_X8_flawAtEnd (x1 : Int32) (x2 : Int32) (I : sw_I) (J : sw_J) (Q : Int32 → sw_I → sw_J → Prop) : Prop :=
  sw_if (x1 < (I 1 1)) (Q x1 I J) (sw_if (x2 = 0) (Q (I 1 1) I J) (Q (-1 : Int32) I J))
set_option maxRecDepth 20000 in
theorem t_X8_flawAtEnd {l : Launch} {D : va_G} {cy : Nat → ClassId} {sz : Nat} {G : sw_G} (hG : sw_lay G)   {Q : Int32 → sw_I → sw_J → Prop} {x1 : Int32} {x2 : Int32} {I : sw_I} {J : sw_J} (h : wp_X8_flawAtEnd x1 x2 I J Q) : AW l D cy sz RX8 cX8_flawAtEnd 3 (some .int) false rm_X8_flawAtEnd 0 0 (sw_qi G Q) 0 0 G I J 0 [(0, .ref (sz + 1)), (1, .int x1), (2, .int x2)] [] := by
  unfold wp_X8_flawAtEnd at h
  refine aw_aload_n 0 dX8_flawAtEnd_0 rfl rfl ?_
  refine gf_X8_1 fl_X8_15 (lk1 hG) dX8_flawAtEnd_1 ?_
  refine aw_iload_n 1 dX8_flawAtEnd_4 rfl rfl ?_
  refine aw_jle 10 dX8_flawAtEnd_5 (by decide) (fun c_1 => ?_) (fun c_1 => ?_)
  · have h := sw_if.f h c_1
    refine aw_iload_n 2 dX8_flawAtEnd_10 rfl rfl ?_
    refine aw_zeq 18 dX8_flawAtEnd_11 (by decide) (fun c_2 => ?_) (fun c_2 => ?_)
    · have h := sw_if.t h c_2
      refine aw_aload_n 0 dX8_flawAtEnd_18 rfl rfl ?_
      refine gf_X8_1 fl_X8_15 (lk1 hG) dX8_flawAtEnd_19 ?_
      exact aw_iret rfl dX8_flawAtEnd_22 ⟨rfl, _, rfl, h⟩
    · have h := sw_if.f h c_2
      refine aw_iconst (v := (-1)) dX8_flawAtEnd_14 (by decide) ?_
      refine aw_goto 22 dX8_flawAtEnd_15 (by decide) ?_
      exact aw_iret rfl dX8_flawAtEnd_22 ⟨rfl, _, rfl, h⟩
  · have h := sw_if.t h c_1
    refine aw_iload_n 1 dX8_flawAtEnd_8 rfl rfl ?_
    exact aw_iret rfl dX8_flawAtEnd_9 ⟨rfl, _, rfl, h⟩
theorem M_X8_flawAtEnd {l : Launch} {D : va_G} {cy : Nat → ClassId} {sz : Nat} {G : sw_G} (hG : sw_lay G)   {Q : Int32 → sw_I → sw_J → Prop} {x1 : Int32} {x2 : Int32} {I : sw_I} {J : sw_J} (h : wp_X8_flawAtEnd x1 x2 I J Q) : Met l yX8_flawAtEnd (Cond.code yX8_flawAtEnd cX8_flawAtEnd 3 (some .int) :: sw_T) rm_X8_flawAtEnd (sw_Pc D cy sz [.ref (sz + 1), .int x1, .int x2] G I J) (sw_Q D cy sz (sw_qi G Q)) 0 0 (fun q => sz ≤ q) :=
  sw_met (by decide) (fun q => by cases q) (Nat.le_of_ble_eq_true rfl) rfl (t_X8_flawAtEnd hG  h)
-- X9_sign
abbrev rm_X9_sign : Room := { frames := 1, cells := 0, slots := 0, locals := 21 }
def wp_X9_sign (x1 : Int32) (I : sw_I) (J : sw_J) (Q : Int32 → sw_I → sw_J → Prop) : Prop :=
  sw_if ((80 : Int32) < ((I 1 1) + (4 : Int32))) (Q (-1 : Int32) I J) (wp_X8_put ((x1.toUInt32 >>> ((24 : Int32).toUInt32 &&& Int32.toUInt32 31)).toInt32) I J (fun I_3 J_4 => wp_X8_put (((x1.toUInt32 >>> ((16 : Int32).toUInt32 &&& Int32.toUInt32 31)).toInt32) &&& (255 : Int32)) I_3 J_4 (fun I_6 J_7 => wp_X8_put (((x1.toUInt32 >>> ((8 : Int32).toUInt32 &&& Int32.toUInt32 31)).toInt32) &&& (255 : Int32)) I_6 J_7 (fun I_9 J_10 => wp_X8_put (x1 &&& (255 : Int32)) I_9 J_10 (fun I_12 J_13 => Q (I_12 1 1) I_12 J_13)))))
set_option maxRecDepth 20000 in
theorem t_X9_sign {l : Launch} {D : va_G} {cy : Nat → ClassId} {sz : Nat} {G : sw_G} (hG : sw_lay G)   {Q : Int32 → sw_I → sw_J → Prop} {x1 : Int32} {I : sw_I} {J : sw_J} (h : wp_X9_sign x1 I J Q) : AW l D cy sz RX9 cX9_sign 2 (some .int) false rm_X9_sign 0 0 (sw_qi G Q) 0 0 G I J 0 [(0, .ref (sz + 0)), (1, .int x1)] [] := by
  unfold wp_X9_sign at h
  refine aw_aload_n 0 dX9_sign_0 rfl rfl ?_
  refine gf_X9_0 fl_X9_12 (lk0 hG) (lr0_0 hG) dX9_sign_1 ?_
  refine gf_X8_1 fl_X9_80 (lk1 hG) dX9_sign_4 ?_
  refine aw_iconst (v := 4) dX9_sign_7 (by decide) ?_
  refine aw_iadd dX9_sign_8 ?_
  refine aw_bipush (v := 80) dX9_sign_9 (by decide) ?_
  refine aw_jle 16 dX9_sign_11 (by decide) (fun c_1 => ?_) (fun c_1 => ?_)
  · have h := sw_if.f h c_1
    refine aw_aload_n 0 dX9_sign_16 rfl rfl ?_
    refine gf_X9_0 fl_X9_12 (lk0 hG) (lr0_0 hG) dX9_sign_17 ?_
    refine aw_iload_n 1 dX9_sign_20 rfl rfl ?_
    refine aw_bipush (v := 24) dX9_sign_21 (by decide) ?_
    refine aw_iushr dX9_sign_23 ?_
    refine aw_callV wv_X8_put (M_X8_put hG  h) ml_X9_83 rfl (by decide) (lk1 hG) rfl rfl (Nat.le_of_ble_eq_true rfl) ⟨rfl, rfl⟩ ⟨Nat.le_of_ble_eq_true rfl, Nat.le_of_ble_eq_true rfl⟩ ⟨Nat.le_refl _, Nat.le_refl _⟩ dX9_sign_24 (aw_kv fun I_3 J_4 h => ?_)
    refine aw_aload_n 0 dX9_sign_27 rfl rfl ?_
    refine gf_X9_0 fl_X9_12 (lk0 hG) (lr0_0 hG) dX9_sign_28 ?_
    refine aw_iload_n 1 dX9_sign_31 rfl rfl ?_
    refine aw_bipush (v := 16) dX9_sign_32 (by decide) ?_
    refine aw_iushr dX9_sign_34 ?_
    refine aw_sipush (v := 255) dX9_sign_35 (by decide) ?_
    refine aw_iand dX9_sign_38 ?_
    refine aw_callV wv_X8_put (M_X8_put hG  h) ml_X9_83 rfl (by decide) (lk1 hG) rfl rfl (Nat.le_of_ble_eq_true rfl) ⟨rfl, rfl⟩ ⟨Nat.le_of_ble_eq_true rfl, Nat.le_of_ble_eq_true rfl⟩ ⟨Nat.le_refl _, Nat.le_refl _⟩ dX9_sign_39 (aw_kv fun I_6 J_7 h => ?_)
    refine aw_aload_n 0 dX9_sign_42 rfl rfl ?_
    refine gf_X9_0 fl_X9_12 (lk0 hG) (lr0_0 hG) dX9_sign_43 ?_
    refine aw_iload_n 1 dX9_sign_46 rfl rfl ?_
    refine aw_bipush (v := 8) dX9_sign_47 (by decide) ?_
    refine aw_iushr dX9_sign_49 ?_
    refine aw_sipush (v := 255) dX9_sign_50 (by decide) ?_
    refine aw_iand dX9_sign_53 ?_
    refine aw_callV wv_X8_put (M_X8_put hG  h) ml_X9_83 rfl (by decide) (lk1 hG) rfl rfl (Nat.le_of_ble_eq_true rfl) ⟨rfl, rfl⟩ ⟨Nat.le_of_ble_eq_true rfl, Nat.le_of_ble_eq_true rfl⟩ ⟨Nat.le_refl _, Nat.le_refl _⟩ dX9_sign_54 (aw_kv fun I_9 J_10 h => ?_)
    refine aw_aload_n 0 dX9_sign_57 rfl rfl ?_
    refine gf_X9_0 fl_X9_12 (lk0 hG) (lr0_0 hG) dX9_sign_58 ?_
    refine aw_iload_n 1 dX9_sign_61 rfl rfl ?_
    refine aw_sipush (v := 255) dX9_sign_62 (by decide) ?_
    refine aw_iand dX9_sign_65 ?_
    refine aw_callV wv_X8_put (M_X8_put hG  h) ml_X9_83 rfl (by decide) (lk1 hG) rfl rfl (Nat.le_of_ble_eq_true rfl) ⟨rfl, rfl⟩ ⟨Nat.le_of_ble_eq_true rfl, Nat.le_of_ble_eq_true rfl⟩ ⟨Nat.le_refl _, Nat.le_refl _⟩ dX9_sign_66 (aw_kv fun I_12 J_13 h => ?_)
    refine aw_aload_n 0 dX9_sign_69 rfl rfl ?_
    refine gf_X9_0 fl_X9_12 (lk0 hG) (lr0_0 hG) dX9_sign_70 ?_
    refine gf_X8_1 fl_X9_80 (lk1 hG) dX9_sign_73 ?_
    exact aw_iret rfl dX9_sign_76 ⟨rfl, _, rfl, h⟩
  · have h := sw_if.t h c_1
    refine aw_iconst (v := (-1)) dX9_sign_14 (by decide) ?_
    exact aw_iret rfl dX9_sign_15 ⟨rfl, _, rfl, h⟩
theorem M_X9_sign {l : Launch} {D : va_G} {cy : Nat → ClassId} {sz : Nat} {G : sw_G} (hG : sw_lay G)   {Q : Int32 → sw_I → sw_J → Prop} {x1 : Int32} {I : sw_I} {J : sw_J} (h : wp_X9_sign x1 I J Q) : Met l yX9_sign (Cond.code yX9_sign cX9_sign 2 (some .int) :: sw_T) rm_X9_sign (sw_Pc D cy sz [.ref (sz + 0), .int x1] G I J) (sw_Q D cy sz (sw_qi G Q)) 0 0 (fun q => sz ≤ q) :=
  sw_met (by decide) (fun q => by cases q) (Nat.le_of_ble_eq_true rfl) rfl (t_X9_sign hG  h)
-- X9_end
abbrev rm_X9_end : Room := { frames := 0, cells := 0, slots := 0, locals := 0 }
def wp_X9_end (x1 : Int32) (I : sw_I) (J : sw_J) (Q : Int32 → sw_I → sw_J → Prop) : Prop :=
  sw_if (x1 < 0) (Q 0 I J) (sw_if ((I 1 1) < x1) (Q 0 I J) (∀ I_3 : sw_I, I_3 = sw_up I 1 1 x1 → Q 1 I_3 J))
set_option maxRecDepth 20000 in
theorem t_X9_end {l : Launch} {D : va_G} {cy : Nat → ClassId} {sz : Nat} {G : sw_G} (hG : sw_lay G)   {Q : Int32 → sw_I → sw_J → Prop} {x1 : Int32} {I : sw_I} {J : sw_J} (h : wp_X9_end x1 I J Q) : AW l D cy sz RX9 cX9_end 2 (some .boolean) false rm_X9_end 0 0 (sw_qi G Q) 0 0 G I J 0 [(0, .ref (sz + 0)), (1, .int x1)] [] := by
  unfold wp_X9_end at h
  refine aw_iload_n 1 dX9_end_0 rfl rfl ?_
  refine aw_zlt 15 dX9_end_1 (by decide) (fun c_1 => ?_) (fun c_1 => ?_)
  · have h := sw_if.t h c_1
    refine aw_iconst (v := 0) dX9_end_15 (by decide) ?_
    exact aw_zret rfl rfl dX9_end_16 ⟨rfl, _, rfl, h⟩
  · have h := sw_if.f h c_1
    refine aw_iload_n 1 dX9_end_4 rfl rfl ?_
    refine aw_aload_n 0 dX9_end_5 rfl rfl ?_
    refine gf_X9_0 fl_X9_12 (lk0 hG) (lr0_0 hG) dX9_end_6 ?_
    refine gf_X8_1 fl_X9_80 (lk1 hG) dX9_end_9 ?_
    refine aw_jle 17 dX9_end_12 (by decide) (fun c_2 => ?_) (fun c_2 => ?_)
    · have h := sw_if.f h c_2
      refine aw_aload_n 0 dX9_end_17 rfl rfl ?_
      refine gf_X9_0 fl_X9_12 (lk0 hG) (lr0_0 hG) dX9_end_18 ?_
      refine aw_iload_n 1 dX9_end_21 rfl rfl ?_
      refine pf_X8_1 fl_X9_80 (lk1 hG) dX9_end_22 (aw_nameI fun I_3 e_4 => ?_)
      have h := h I_3 e_4
      refine aw_iconst (v := 1) dX9_end_25 (by decide) ?_
      exact aw_zret rfl rfl dX9_end_26 ⟨rfl, _, rfl, h⟩
    · have h := sw_if.t h c_2
      refine aw_iconst (v := 0) dX9_end_15 (by decide) ?_
      exact aw_zret rfl rfl dX9_end_16 ⟨rfl, _, rfl, h⟩
theorem M_X9_end {l : Launch} {D : va_G} {cy : Nat → ClassId} {sz : Nat} {G : sw_G} (hG : sw_lay G)   {Q : Int32 → sw_I → sw_J → Prop} {x1 : Int32} {I : sw_I} {J : sw_J} (h : wp_X9_end x1 I J Q) : Met l yX9_end (Cond.code yX9_end cX9_end 2 (some .boolean) :: sw_T) rm_X9_end (sw_Pc D cy sz [.ref (sz + 0), .int x1] G I J) (sw_Q D cy sz (sw_qi G Q)) 0 0 (fun q => sz ≤ q) :=
  sw_met (by decide) (fun q => by cases q) (Nat.le_of_ble_eq_true rfl) rfl (t_X9_end hG  h)
-- X9_set
abbrev rm_X9_set : Room := { frames := 2, cells := 0, slots := 0, locals := 42 }
def wB_X9_set_68   (Q : Int32 → sw_I → sw_J → Prop) (x1 : Int32) (x2 : Int32) (x3 : Int32) (I : sw_I) (J : sw_J) : Prop :=
  sw_if (x1 = (2 : Int32)) (sw_if (x3 < 0) (Q 0 I J) (sw_if ((10 : Int32) < x3) (Q 0 I J) (vp_in x2 10 ∧ ∀ I_5 : sw_I, I_5 = sw_up I 5 x2.toNatClampNeg x3 → Q 1 I_5 J))) (Q 0 I J)
def wB_X9_set_40   (Q : Int32 → sw_I → sw_J → Prop) (x1 : Int32) (x2 : Int32) (x3 : Int32) (I : sw_I) (J : sw_J) : Prop :=
  sw_if (x1 = (1 : Int32)) (wp_X1_canBeWish x3 I J (fun r_2 I_3 J_4 => sw_if (r_2 = 0) (wB_X9_set_68   Q x1 x2 x3 I_3 J_4) (vp_in x2 10 ∧ ∀ I_7 : sw_I, I_7 = sw_up I_3 15 x2.toNatClampNeg x3 → Q 1 I_7 J_4))) (wB_X9_set_68   Q x1 x2 x3 I J)
def wp_X9_set (x1 : Int32) (x2 : Int32) (x3 : Int32) (I : sw_I) (J : sw_J) (Q : Int32 → sw_I → sw_J → Prop) : Prop :=
  wp_X1_hasRider x2 I J (fun r_1 I_2 J_3 => sw_if (r_1 = 0) (Q 0 I_2 J_3) (sw_if (x1 = 0) (wp_X1_hasFloor x3 I_2 J_3 (fun r_6 I_7 J_8 => sw_if (r_6 = 0) (wB_X9_set_40   Q x1 x2 x3 I_7 J_8) (vp_in x2 10 ∧ ∀ I_11 : sw_I, I_11 = sw_up I_7 4 x2.toNatClampNeg x3 → Q 1 I_11 J_8))) (wB_X9_set_40   Q x1 x2 x3 I_2 J_3)))
set_option maxRecDepth 20000 in
theorem t_X9_set_68 {l : Launch} {D : va_G} {cy : Nat → ClassId} {sz : Nat} {G : sw_G} (hG : sw_lay G)   {Q : Int32 → sw_I → sw_J → Prop} {x1 : Int32} {x2 : Int32} {x3 : Int32} {I : sw_I} {J : sw_J} (h : wB_X9_set_68   Q x1 x2 x3 I J) : AW l D cy sz RX9 cX9_set 4 (some .boolean) false rm_X9_set 0 0 (sw_qi G Q) 0 0 G I J 68 [(0, .ref (sz + 0)), (1, .int x1), (2, .int x2), (3, .int x3)] [] := by
  unfold wB_X9_set_68 at h
  refine aw_iload_n 1 dX9_set_68 rfl rfl ?_
  refine aw_iconst (v := 2) dX9_set_69 (by decide) ?_
  refine aw_jne 95 dX9_set_70 (by decide) (fun c_1 => ?_) (fun c_1 => ?_)
  · have h := sw_if.f h c_1
    refine aw_iconst (v := 0) dX9_set_95 (by decide) ?_
    exact aw_zret rfl rfl dX9_set_96 ⟨rfl, _, rfl, h⟩
  · have h := sw_if.t h c_1
    refine aw_iload_n 3 dX9_set_73 rfl rfl ?_
    refine aw_zlt 95 dX9_set_74 (by decide) (fun c_2 => ?_) (fun c_2 => ?_)
    · have h := sw_if.t h c_2
      refine aw_iconst (v := 0) dX9_set_95 (by decide) ?_
      exact aw_zret rfl rfl dX9_set_96 ⟨rfl, _, rfl, h⟩
    · have h := sw_if.f h c_2
      refine aw_iload_n 3 dX9_set_77 rfl rfl ?_
      refine aw_bipush (v := 10) dX9_set_78 (by decide) ?_
      refine aw_jgt 95 dX9_set_80 (by decide) (fun c_3 => ?_) (fun c_3 => ?_)
      · have h := sw_if.t h c_3
        refine aw_iconst (v := 0) dX9_set_95 (by decide) ?_
        exact aw_zret rfl rfl dX9_set_96 ⟨rfl, _, rfl, h⟩
      · have h := sw_if.f h c_3
        refine aw_aload_n 0 dX9_set_83 rfl rfl ?_
        refine gf_X9_1 fl_X9_19 (lk0 hG) (lr0_1 hG) dX9_set_84 ?_
        refine gf_X1_4 fl_X9_136 (lk3 hG) (lr3_4 hG) dX9_set_87 ?_
        refine aw_iload_n 2 dX9_set_90 rfl rfl ?_
        refine aw_iload_n 3 dX9_set_91 rfl rfl ?_
        obtain ⟨hi_4, h⟩ := h
        refine aw_ist dX9_set_92 (lk5 hG) (ln5 hG) hi_4 (aw_nameI fun I_5 e_6 => ?_)
        have h := h I_5 e_6
        refine aw_iconst (v := 1) dX9_set_93 (by decide) ?_
        exact aw_zret rfl rfl dX9_set_94 ⟨rfl, _, rfl, h⟩
set_option maxRecDepth 20000 in
theorem t_X9_set_40 {l : Launch} {D : va_G} {cy : Nat → ClassId} {sz : Nat} {G : sw_G} (hG : sw_lay G)   {Q : Int32 → sw_I → sw_J → Prop} {x1 : Int32} {x2 : Int32} {x3 : Int32} {I : sw_I} {J : sw_J} (h : wB_X9_set_40   Q x1 x2 x3 I J) : AW l D cy sz RX9 cX9_set 4 (some .boolean) false rm_X9_set 0 0 (sw_qi G Q) 0 0 G I J 40 [(0, .ref (sz + 0)), (1, .int x1), (2, .int x2), (3, .int x3)] [] := by
  unfold wB_X9_set_40 at h
  refine aw_iload_n 1 dX9_set_40 rfl rfl ?_
  refine aw_iconst (v := 1) dX9_set_41 (by decide) ?_
  refine aw_jne 68 dX9_set_42 (by decide) (fun c_1 => ?_) (fun c_1 => ?_)
  · have h := sw_if.f h c_1
    refine aw_sub [0, 1, 2, 3] rfl ?_
    exact t_X9_set_68 hG   h
  · have h := sw_if.t h c_1
    refine aw_aload_n 0 dX9_set_45 rfl rfl ?_
    refine gf_X9_1 fl_X9_19 (lk0 hG) (lr0_1 hG) dX9_set_46 ?_
    refine aw_iload_n 3 dX9_set_49 rfl rfl ?_
    refine aw_callV wv_X1_canBeWish (M_X1_canBeWish hG  h) ml_X9_151 rfl (by decide) (lk3 hG) rfl rfl (Nat.le_of_ble_eq_true rfl) ⟨rfl, rfl⟩ ⟨Nat.le_of_ble_eq_true rfl, Nat.le_of_ble_eq_true rfl⟩ ⟨Nat.le_refl _, Nat.le_refl _⟩ dX9_set_50 (aw_ki fun r_2 I_3 J_4 h => ?_)
    refine aw_zeq 68 dX9_set_53 (by decide) (fun c_5 => ?_) (fun c_5 => ?_)
    · have h := sw_if.t h c_5
      refine aw_sub [0, 1, 2, 3] rfl ?_
      exact t_X9_set_68 hG   h
    · have h := sw_if.f h c_5
      refine aw_aload_n 0 dX9_set_56 rfl rfl ?_
      refine gf_X9_2 fl_X9_26 (lk0 hG) (lr0_2 hG) dX9_set_57 ?_
      refine gf_X3_1 fl_X9_133 (lk13 hG) (lr13_1 hG) dX9_set_60 ?_
      refine aw_iload_n 2 dX9_set_63 rfl rfl ?_
      refine aw_iload_n 3 dX9_set_64 rfl rfl ?_
      obtain ⟨hi_6, h⟩ := h
      refine aw_ist dX9_set_65 (lk15 hG) (ln15 hG) hi_6 (aw_nameI fun I_7 e_8 => ?_)
      have h := h I_7 e_8
      refine aw_iconst (v := 1) dX9_set_66 (by decide) ?_
      exact aw_zret rfl rfl dX9_set_67 ⟨rfl, _, rfl, h⟩
set_option maxRecDepth 20000 in
theorem t_X9_set {l : Launch} {D : va_G} {cy : Nat → ClassId} {sz : Nat} {G : sw_G} (hG : sw_lay G)   {Q : Int32 → sw_I → sw_J → Prop} {x1 : Int32} {x2 : Int32} {x3 : Int32} {I : sw_I} {J : sw_J} (h : wp_X9_set x1 x2 x3 I J Q) : AW l D cy sz RX9 cX9_set 4 (some .boolean) false rm_X9_set 0 0 (sw_qi G Q) 0 0 G I J 0 [(0, .ref (sz + 0)), (1, .int x1), (2, .int x2), (3, .int x3)] [] := by
  unfold wp_X9_set at h
  refine aw_aload_n 0 dX9_set_0 rfl rfl ?_
  refine gf_X9_1 fl_X9_19 (lk0 hG) (lr0_1 hG) dX9_set_1 ?_
  refine aw_iload_n 2 dX9_set_4 rfl rfl ?_
  refine aw_callV wv_X1_hasRider (M_X1_hasRider hG  h) ml_X9_122 rfl (by decide) (lk3 hG) rfl rfl (Nat.le_of_ble_eq_true rfl) ⟨rfl, rfl⟩ ⟨Nat.le_of_ble_eq_true rfl, Nat.le_of_ble_eq_true rfl⟩ ⟨Nat.le_refl _, Nat.le_refl _⟩ dX9_set_5 (aw_ki fun r_1 I_2 J_3 h => ?_)
  refine aw_zne 13 dX9_set_8 (by decide) (fun c_4 => ?_) (fun c_4 => ?_)
  · have h := sw_if.f h c_4
    refine aw_iload_n 1 dX9_set_13 rfl rfl ?_
    refine aw_zne 40 dX9_set_14 (by decide) (fun c_5 => ?_) (fun c_5 => ?_)
    · have h := sw_if.f h c_5
      refine aw_sub [0, 1, 2, 3] rfl ?_
      exact t_X9_set_40 hG   h
    · have h := sw_if.t h c_5
      refine aw_aload_n 0 dX9_set_17 rfl rfl ?_
      refine gf_X9_1 fl_X9_19 (lk0 hG) (lr0_1 hG) dX9_set_18 ?_
      refine aw_iload_n 3 dX9_set_21 rfl rfl ?_
      refine aw_callV wv_X1_hasFloor (M_X1_hasFloor hG  h) ml_X9_148 rfl (by decide) (lk3 hG) rfl rfl (Nat.le_of_ble_eq_true rfl) ⟨rfl, rfl⟩ ⟨Nat.le_of_ble_eq_true rfl, Nat.le_of_ble_eq_true rfl⟩ ⟨Nat.le_refl _, Nat.le_refl _⟩ dX9_set_22 (aw_ki fun r_6 I_7 J_8 h => ?_)
      refine aw_zeq 40 dX9_set_25 (by decide) (fun c_9 => ?_) (fun c_9 => ?_)
      · have h := sw_if.t h c_9
        refine aw_sub [0, 1, 2, 3] rfl ?_
        exact t_X9_set_40 hG   h
      · have h := sw_if.f h c_9
        refine aw_aload_n 0 dX9_set_28 rfl rfl ?_
        refine gf_X9_1 fl_X9_19 (lk0 hG) (lr0_1 hG) dX9_set_29 ?_
        refine gf_X1_3 fl_X9_129 (lk3 hG) (lr3_3 hG) dX9_set_32 ?_
        refine aw_iload_n 2 dX9_set_35 rfl rfl ?_
        refine aw_iload_n 3 dX9_set_36 rfl rfl ?_
        obtain ⟨hi_10, h⟩ := h
        refine aw_ist dX9_set_37 (lk4 hG) (ln4 hG) hi_10 (aw_nameI fun I_11 e_12 => ?_)
        have h := h I_11 e_12
        refine aw_iconst (v := 1) dX9_set_38 (by decide) ?_
        exact aw_zret rfl rfl dX9_set_39 ⟨rfl, _, rfl, h⟩
  · have h := sw_if.t h c_4
    refine aw_iconst (v := 0) dX9_set_11 (by decide) ?_
    exact aw_zret rfl rfl dX9_set_12 ⟨rfl, _, rfl, h⟩
theorem M_X9_set {l : Launch} {D : va_G} {cy : Nat → ClassId} {sz : Nat} {G : sw_G} (hG : sw_lay G)   {Q : Int32 → sw_I → sw_J → Prop} {x1 : Int32} {x2 : Int32} {x3 : Int32} {I : sw_I} {J : sw_J} (h : wp_X9_set x1 x2 x3 I J Q) : Met l yX9_set (Cond.code yX9_set cX9_set 4 (some .boolean) :: sw_T) rm_X9_set (sw_Pc D cy sz [.ref (sz + 0), .int x1, .int x2, .int x3] G I J) (sw_Q D cy sz (sw_qi G Q)) 0 0 (fun q => sz ≤ q) :=
  sw_met (by decide) (fun q => by cases q) (Nat.le_of_ble_eq_true rfl) rfl (t_X9_set hG  h)
-- X9_dog
abbrev rm_X9_dog : Room := { frames := 1, cells := 0, slots := 0, locals := 21 }
def wB_X9_dog_18   (Q : Int32 → sw_I → sw_J → Prop) (x1 : Int32) (I : sw_I) (J : sw_J) : Prop :=
  ∀ I_1 : sw_I, I_1 = sw_up I 3 1 x1 → Q 1 I_1 J
def wp_X9_dog (x1 : Int32) (I : sw_I) (J : sw_J) (Q : Int32 → sw_I → sw_J → Prop) : Prop :=
  sw_if (x1 = (-1 : Int32)) (wB_X9_dog_18   Q x1 I J) (wp_X1_hasFloor x1 I J (fun r_2 I_3 J_4 => sw_if (r_2 = 0) (Q 0 I_3 J_4) (wB_X9_dog_18   Q x1 I_3 J_4)))
set_option maxRecDepth 20000 in
theorem t_X9_dog_18 {l : Launch} {D : va_G} {cy : Nat → ClassId} {sz : Nat} {G : sw_G} (hG : sw_lay G)   {Q : Int32 → sw_I → sw_J → Prop} {x1 : Int32} {I : sw_I} {J : sw_J} (h : wB_X9_dog_18   Q x1 I J) : AW l D cy sz RX9 cX9_dog 2 (some .boolean) false rm_X9_dog 0 0 (sw_qi G Q) 0 0 G I J 18 [(0, .ref (sz + 0)), (1, .int x1)] [] := by
  unfold wB_X9_dog_18 at h
  refine aw_aload_n 0 dX9_dog_18 rfl rfl ?_
  refine gf_X9_1 fl_X9_19 (lk0 hG) (lr0_1 hG) dX9_dog_19 ?_
  refine aw_iload_n 1 dX9_dog_22 rfl rfl ?_
  refine pf_X1_1 fl_X9_161 (lk3 hG) dX9_dog_23 (aw_nameI fun I_1 e_2 => ?_)
  have h := h I_1 e_2
  refine aw_iconst (v := 1) dX9_dog_26 (by decide) ?_
  exact aw_zret rfl rfl dX9_dog_27 ⟨rfl, _, rfl, h⟩
set_option maxRecDepth 20000 in
theorem t_X9_dog {l : Launch} {D : va_G} {cy : Nat → ClassId} {sz : Nat} {G : sw_G} (hG : sw_lay G)   {Q : Int32 → sw_I → sw_J → Prop} {x1 : Int32} {I : sw_I} {J : sw_J} (h : wp_X9_dog x1 I J Q) : AW l D cy sz RX9 cX9_dog 2 (some .boolean) false rm_X9_dog 0 0 (sw_qi G Q) 0 0 G I J 0 [(0, .ref (sz + 0)), (1, .int x1)] [] := by
  unfold wp_X9_dog at h
  refine aw_iload_n 1 dX9_dog_0 rfl rfl ?_
  refine aw_iconst (v := (-1)) dX9_dog_1 (by decide) ?_
  refine aw_jeq 18 dX9_dog_2 (by decide) (fun c_1 => ?_) (fun c_1 => ?_)
  · have h := sw_if.t h c_1
    refine aw_sub [0, 1] rfl ?_
    exact t_X9_dog_18 hG   h
  · have h := sw_if.f h c_1
    refine aw_aload_n 0 dX9_dog_5 rfl rfl ?_
    refine gf_X9_1 fl_X9_19 (lk0 hG) (lr0_1 hG) dX9_dog_6 ?_
    refine aw_iload_n 1 dX9_dog_9 rfl rfl ?_
    refine aw_callV wv_X1_hasFloor (M_X1_hasFloor hG  h) ml_X9_148 rfl (by decide) (lk3 hG) rfl rfl (Nat.le_of_ble_eq_true rfl) ⟨rfl, rfl⟩ ⟨Nat.le_of_ble_eq_true rfl, Nat.le_of_ble_eq_true rfl⟩ ⟨Nat.le_refl _, Nat.le_refl _⟩ dX9_dog_10 (aw_ki fun r_2 I_3 J_4 h => ?_)
    refine aw_zne 18 dX9_dog_13 (by decide) (fun c_5 => ?_) (fun c_5 => ?_)
    · have h := sw_if.f h c_5
      refine aw_sub [0, 1] rfl ?_
      exact t_X9_dog_18 hG   h
    · have h := sw_if.t h c_5
      refine aw_iconst (v := 0) dX9_dog_16 (by decide) ?_
      exact aw_zret rfl rfl dX9_dog_17 ⟨rfl, _, rfl, h⟩
theorem M_X9_dog {l : Launch} {D : va_G} {cy : Nat → ClassId} {sz : Nat} {G : sw_G} (hG : sw_lay G)   {Q : Int32 → sw_I → sw_J → Prop} {x1 : Int32} {I : sw_I} {J : sw_J} (h : wp_X9_dog x1 I J Q) : Met l yX9_dog (Cond.code yX9_dog cX9_dog 2 (some .boolean) :: sw_T) rm_X9_dog (sw_Pc D cy sz [.ref (sz + 0), .int x1] G I J) (sw_Q D cy sz (sw_qi G Q)) 0 0 (fun q => sz ≤ q) :=
  sw_met (by decide) (fun q => by cases q) (Nat.le_of_ble_eq_true rfl) rfl (t_X9_dog hG  h)
-- X9_enter
abbrev rm_X9_enter : Room := { frames := 3, cells := 0, slots := 0, locals := 68 }
def wp_X9_enter (x1 : Int32) (I : sw_I) (J : sw_J) (Q : Int32 → sw_I → sw_J → Prop) : Prop :=
  wp_X3_stands 13 x1 I J (fun r_1 I_2 J_3 => sw_if (r_1 = 0) (Q 0 I_2 J_3) (wp_X4_prepare 13 I_2 J_3 (fun I_6 J_7 => ∀ I_8 : sw_I, I_8 = sw_up I_6 13 3 ((I_6 13 3) ||| ((1 : Int32) <<< (x1 &&& 31))) → wp_X4_commit  I_8 J_7 (fun I_11 J_12 => Q 1 I_11 J_12))))
set_option maxRecDepth 20000 in
theorem t_X9_enter {l : Launch} {D : va_G} {cy : Nat → ClassId} {sz : Nat} {G : sw_G} (hG : sw_lay G)   {Q : Int32 → sw_I → sw_J → Prop} {x1 : Int32} {I : sw_I} {J : sw_J} (h : wp_X9_enter x1 I J Q) : AW l D cy sz RX9 cX9_enter 2 (some .boolean) false rm_X9_enter 0 0 (sw_qi G Q) 0 0 G I J 0 [(0, .ref (sz + 0)), (1, .int x1)] [] := by
  unfold wp_X9_enter at h
  refine aw_aload_n 0 dX9_enter_0 rfl rfl ?_
  refine gf_X9_2 fl_X9_26 (lk0 hG) (lr0_2 hG) dX9_enter_1 ?_
  refine aw_iload_n 1 dX9_enter_4 rfl rfl ?_
  refine aw_callV wv_X3_stands (M_X3_stands trivial (lm13 hG) h) ml_X9_175 rfl (by decide) (lk13 hG) rfl rfl (Nat.le_of_ble_eq_true rfl) ⟨rfl, rfl⟩ ⟨Nat.le_of_ble_eq_true rfl, Nat.le_of_ble_eq_true rfl⟩ ⟨Nat.le_refl _, Nat.le_refl _⟩ dX9_enter_5 (aw_ki fun r_1 I_2 J_3 h => ?_)
  refine aw_zne 13 dX9_enter_8 (by decide) (fun c_4 => ?_) (fun c_4 => ?_)
  · have h := sw_if.f h c_4
    refine aw_aload_n 0 dX9_enter_13 rfl rfl ?_
    refine gf_X9_4 fl_X9_36 (lk0 hG) (lr0_4 hG) dX9_enter_14 ?_
    refine aw_aload_n 0 dX9_enter_17 rfl rfl ?_
    refine gf_X9_2 fl_X9_26 (lk0 hG) (lr0_2 hG) dX9_enter_18 ?_
    refine aw_callV wv_X4_prepare (M_X4_prepare hG (lm13 hG) h) ml_X9_178 rfl (by decide) (lk21 hG) rfl rfl (Nat.le_of_ble_eq_true rfl) ⟨rfl, rfl⟩ ⟨Nat.le_of_ble_eq_true rfl, Nat.le_of_ble_eq_true rfl⟩ ⟨Nat.le_refl _, Nat.le_refl _⟩ dX9_enter_21 (aw_kv fun I_6 J_7 h => ?_)
    refine aw_aload_n 0 dX9_enter_24 rfl rfl ?_
    refine gf_X9_2 fl_X9_26 (lk0 hG) (lr0_2 hG) dX9_enter_25 ?_
    refine aw_dup dX9_enter_28 rfl ?_
    refine gf_X3_3 fl_X9_142 (lk13 hG) dX9_enter_29 ?_
    refine aw_iconst (v := 1) dX9_enter_32 (by decide) ?_
    refine aw_iload_n 1 dX9_enter_33 rfl rfl ?_
    refine aw_ishl dX9_enter_34 ?_
    refine aw_ior dX9_enter_35 ?_
    refine pf_X3_3 fl_X9_142 (lk13 hG) dX9_enter_36 (aw_nameI fun I_8 e_9 => ?_)
    have h := h I_8 e_9
    refine aw_aload_n 0 dX9_enter_39 rfl rfl ?_
    refine gf_X9_4 fl_X9_36 (lk0 hG) (lr0_4 hG) dX9_enter_40 ?_
    refine aw_callV wv_X4_commit (M_X4_commit hG  h) ml_X9_182 rfl (by decide) (lk21 hG) rfl rfl (Nat.le_of_ble_eq_true rfl) ⟨rfl, rfl⟩ ⟨Nat.le_of_ble_eq_true rfl, Nat.le_of_ble_eq_true rfl⟩ ⟨Nat.le_refl _, Nat.le_refl _⟩ dX9_enter_43 (aw_kv fun I_11 J_12 h => ?_)
    refine aw_iconst (v := 1) dX9_enter_46 (by decide) ?_
    exact aw_zret rfl rfl dX9_enter_47 ⟨rfl, _, rfl, h⟩
  · have h := sw_if.t h c_4
    refine aw_iconst (v := 0) dX9_enter_11 (by decide) ?_
    exact aw_zret rfl rfl dX9_enter_12 ⟨rfl, _, rfl, h⟩
theorem M_X9_enter {l : Launch} {D : va_G} {cy : Nat → ClassId} {sz : Nat} {G : sw_G} (hG : sw_lay G)   {Q : Int32 → sw_I → sw_J → Prop} {x1 : Int32} {I : sw_I} {J : sw_J} (h : wp_X9_enter x1 I J Q) : Met l yX9_enter (Cond.code yX9_enter cX9_enter 2 (some .boolean) :: sw_T) rm_X9_enter (sw_Pc D cy sz [.ref (sz + 0), .int x1] G I J) (sw_Q D cy sz (sw_qi G Q)) 0 0 (fun q => sz ≤ q) :=
  sw_met (by decide) (fun q => by cases q) (Nat.le_of_ble_eq_true rfl) rfl (t_X9_enter hG  h)
-- X9_leave
abbrev rm_X9_leave : Room := { frames := 3, cells := 0, slots := 0, locals := 68 }
def wp_X9_leave (x1 : Int32) (I : sw_I) (J : sw_J) (Q : Int32 → sw_I → sw_J → Prop) : Prop :=
  wp_X3_isIn 13 x1 I J (fun r_1 I_2 J_3 => sw_if (r_1 = 0) (Q 0 I_2 J_3) (wp_X4_prepare 13 I_2 J_3 (fun I_6 J_7 => ∀ I_8 : sw_I, I_8 = sw_up I_6 13 3 ((I_6 13 3) &&& (((1 : Int32) <<< (x1 &&& 31)) ^^^ (-1 : Int32))) → wp_X4_commit  I_8 J_7 (fun I_11 J_12 => Q 1 I_11 J_12))))
set_option maxRecDepth 20000 in
theorem t_X9_leave {l : Launch} {D : va_G} {cy : Nat → ClassId} {sz : Nat} {G : sw_G} (hG : sw_lay G)   {Q : Int32 → sw_I → sw_J → Prop} {x1 : Int32} {I : sw_I} {J : sw_J} (h : wp_X9_leave x1 I J Q) : AW l D cy sz RX9 cX9_leave 2 (some .boolean) false rm_X9_leave 0 0 (sw_qi G Q) 0 0 G I J 0 [(0, .ref (sz + 0)), (1, .int x1)] [] := by
  unfold wp_X9_leave at h
  refine aw_aload_n 0 dX9_leave_0 rfl rfl ?_
  refine gf_X9_2 fl_X9_26 (lk0 hG) (lr0_2 hG) dX9_leave_1 ?_
  refine aw_iload_n 1 dX9_leave_4 rfl rfl ?_
  refine aw_callV wv_X3_isIn (M_X3_isIn trivial (lm13 hG) h) ml_X9_185 rfl (by decide) (lk13 hG) rfl rfl (Nat.le_of_ble_eq_true rfl) ⟨rfl, rfl⟩ ⟨Nat.le_of_ble_eq_true rfl, Nat.le_of_ble_eq_true rfl⟩ ⟨Nat.le_refl _, Nat.le_refl _⟩ dX9_leave_5 (aw_ki fun r_1 I_2 J_3 h => ?_)
  refine aw_zne 13 dX9_leave_8 (by decide) (fun c_4 => ?_) (fun c_4 => ?_)
  · have h := sw_if.f h c_4
    refine aw_aload_n 0 dX9_leave_13 rfl rfl ?_
    refine gf_X9_4 fl_X9_36 (lk0 hG) (lr0_4 hG) dX9_leave_14 ?_
    refine aw_aload_n 0 dX9_leave_17 rfl rfl ?_
    refine gf_X9_2 fl_X9_26 (lk0 hG) (lr0_2 hG) dX9_leave_18 ?_
    refine aw_callV wv_X4_prepare (M_X4_prepare hG (lm13 hG) h) ml_X9_178 rfl (by decide) (lk21 hG) rfl rfl (Nat.le_of_ble_eq_true rfl) ⟨rfl, rfl⟩ ⟨Nat.le_of_ble_eq_true rfl, Nat.le_of_ble_eq_true rfl⟩ ⟨Nat.le_refl _, Nat.le_refl _⟩ dX9_leave_21 (aw_kv fun I_6 J_7 h => ?_)
    refine aw_aload_n 0 dX9_leave_24 rfl rfl ?_
    refine gf_X9_2 fl_X9_26 (lk0 hG) (lr0_2 hG) dX9_leave_25 ?_
    refine aw_dup dX9_leave_28 rfl ?_
    refine gf_X3_3 fl_X9_142 (lk13 hG) dX9_leave_29 ?_
    refine aw_iconst (v := 1) dX9_leave_32 (by decide) ?_
    refine aw_iload_n 1 dX9_leave_33 rfl rfl ?_
    refine aw_ishl dX9_leave_34 ?_
    refine aw_iconst (v := (-1)) dX9_leave_35 (by decide) ?_
    refine aw_ixor dX9_leave_36 ?_
    refine aw_iand dX9_leave_37 ?_
    refine pf_X3_3 fl_X9_142 (lk13 hG) dX9_leave_38 (aw_nameI fun I_8 e_9 => ?_)
    have h := h I_8 e_9
    refine aw_aload_n 0 dX9_leave_41 rfl rfl ?_
    refine gf_X9_4 fl_X9_36 (lk0 hG) (lr0_4 hG) dX9_leave_42 ?_
    refine aw_callV wv_X4_commit (M_X4_commit hG  h) ml_X9_182 rfl (by decide) (lk21 hG) rfl rfl (Nat.le_of_ble_eq_true rfl) ⟨rfl, rfl⟩ ⟨Nat.le_of_ble_eq_true rfl, Nat.le_of_ble_eq_true rfl⟩ ⟨Nat.le_refl _, Nat.le_refl _⟩ dX9_leave_45 (aw_kv fun I_11 J_12 h => ?_)
    refine aw_iconst (v := 1) dX9_leave_48 (by decide) ?_
    exact aw_zret rfl rfl dX9_leave_49 ⟨rfl, _, rfl, h⟩
  · have h := sw_if.t h c_4
    refine aw_iconst (v := 0) dX9_leave_11 (by decide) ?_
    exact aw_zret rfl rfl dX9_leave_12 ⟨rfl, _, rfl, h⟩
theorem M_X9_leave {l : Launch} {D : va_G} {cy : Nat → ClassId} {sz : Nat} {G : sw_G} (hG : sw_lay G)   {Q : Int32 → sw_I → sw_J → Prop} {x1 : Int32} {I : sw_I} {J : sw_J} (h : wp_X9_leave x1 I J Q) : Met l yX9_leave (Cond.code yX9_leave cX9_leave 2 (some .boolean) :: sw_T) rm_X9_leave (sw_Pc D cy sz [.ref (sz + 0), .int x1] G I J) (sw_Q D cy sz (sw_qi G Q)) 0 0 (fun q => sz ≤ q) :=
  sw_met (by decide) (fun q => by cases q) (Nat.le_of_ble_eq_true rfl) rfl (t_X9_leave hG  h)
-- X9_undo
abbrev rm_X9_undo : Room := { frames := 3, cells := 0, slots := 0, locals := 68 }
def wp_X9_undo  (I : sw_I) (J : sw_J) (Q : Int32 → sw_I → sw_J → Prop) : Prop :=
  wp_X4_bringBack 13 I J (fun r_1 I_2 J_3 => sw_if (r_1 = 0) (Q (-1 : Int32) I_2 J_3) (Q (I_2 21 2) I_2 J_3))
set_option maxRecDepth 20000 in
theorem t_X9_undo {l : Launch} {D : va_G} {cy : Nat → ClassId} {sz : Nat} {G : sw_G} (hG : sw_lay G)   {Q : Int32 → sw_I → sw_J → Prop}  {I : sw_I} {J : sw_J} (h : wp_X9_undo  I J Q) : AW l D cy sz RX9 cX9_undo 1 (some .int) false rm_X9_undo 0 0 (sw_qi G Q) 0 0 G I J 0 [(0, .ref (sz + 0))] [] := by
  unfold wp_X9_undo at h
  refine aw_aload_n 0 dX9_undo_0 rfl rfl ?_
  refine gf_X9_4 fl_X9_36 (lk0 hG) (lr0_4 hG) dX9_undo_1 ?_
  refine aw_aload_n 0 dX9_undo_4 rfl rfl ?_
  refine gf_X9_2 fl_X9_26 (lk0 hG) (lr0_2 hG) dX9_undo_5 ?_
  refine aw_callV wv_X4_bringBack (M_X4_bringBack hG (lm13 hG) h) ml_X9_213 rfl (by decide) (lk21 hG) rfl rfl (Nat.le_of_ble_eq_true rfl) ⟨rfl, rfl⟩ ⟨Nat.le_of_ble_eq_true rfl, Nat.le_of_ble_eq_true rfl⟩ ⟨Nat.le_refl _, Nat.le_refl _⟩ dX9_undo_8 (aw_ki fun r_1 I_2 J_3 h => ?_)
  refine aw_zeq 24 dX9_undo_11 (by decide) (fun c_4 => ?_) (fun c_4 => ?_)
  · have h := sw_if.t h c_4
    refine aw_iconst (v := (-1)) dX9_undo_24 (by decide) ?_
    exact aw_iret rfl dX9_undo_25 ⟨rfl, _, rfl, h⟩
  · have h := sw_if.f h c_4
    refine aw_aload_n 0 dX9_undo_14 rfl rfl ?_
    refine gf_X9_4 fl_X9_36 (lk0 hG) (lr0_4 hG) dX9_undo_15 ?_
    refine gf_X4_2 fl_X9_217 (lk21 hG) dX9_undo_18 ?_
    refine aw_goto 25 dX9_undo_21 (by decide) ?_
    exact aw_iret rfl dX9_undo_25 ⟨rfl, _, rfl, h⟩
theorem M_X9_undo {l : Launch} {D : va_G} {cy : Nat → ClassId} {sz : Nat} {G : sw_G} (hG : sw_lay G)   {Q : Int32 → sw_I → sw_J → Prop}  {I : sw_I} {J : sw_J} (h : wp_X9_undo  I J Q) : Met l yX9_undo (Cond.code yX9_undo cX9_undo 1 (some .int) :: sw_T) rm_X9_undo (sw_Pc D cy sz [.ref (sz + 0)] G I J) (sw_Q D cy sz (sw_qi G Q)) 0 0 (fun q => sz ≤ q) :=
  sw_met (by decide) (fun q => by cases q) (Nat.le_of_ble_eq_true rfl) rfl (t_X9_undo hG  h)
-- X9_saw
abbrev rm_X9_saw : Room := { frames := 1, cells := 0, slots := 0, locals := 23 }
def wB_X9_saw_32   (Q : Int32 → sw_I → sw_J → Prop) (x1 : Int32) (x2 : Int32) (x3 : Int32) (s0 : Int32) (I : sw_I) (J : sw_J) : Prop :=
  sw_if (s0 = 0) (Q (-1 : Int32) I J) (wp_X1_everybody  I J (fun r_2 I_3 J_4 => sw_if ((x2 &&& (r_2 ^^^ (-1 : Int32))) = 0) (sw_if ((I_3 109 4) < (8 : Int32)) (wp_X7_add x1 x2 x3 I_3 J_4 (fun I_8 J_9 => Q (I_8 109 4) I_8 J_9)) (Q (-1 : Int32) I_3 J_4)) (Q (-1 : Int32) I_3 J_4)))
def wB_X9_saw_31   (Q : Int32 → sw_I → sw_J → Prop) (x1 : Int32) (x2 : Int32) (x3 : Int32) (I : sw_I) (J : sw_J) : Prop :=
  wB_X9_saw_32   Q x1 x2 x3 0 I J
def wp_X9_saw (x1 : Int32) (x2 : Int32) (x3 : Int32) (I : sw_I) (J : sw_J) (Q : Int32 → sw_I → sw_J → Prop) : Prop :=
  wp_X1_hasFloor x1 I J (fun r_1 I_2 J_3 => sw_if (r_1 = 0) (wB_X9_saw_31   Q x1 x2 x3 I_2 J_3) (wp_X1_hasFloor x3 I_2 J_3 (fun r_5 I_6 J_7 => sw_if (r_5 = 0) (wB_X9_saw_31   Q x1 x2 x3 I_6 J_7) (sw_if (x1 = x3) (wB_X9_saw_31   Q x1 x2 x3 I_6 J_7) (wB_X9_saw_32   Q x1 x2 x3 1 I_6 J_7)))))
set_option maxRecDepth 20000 in
theorem t_X9_saw_32 {l : Launch} {D : va_G} {cy : Nat → ClassId} {sz : Nat} {G : sw_G} (hG : sw_lay G)   {Q : Int32 → sw_I → sw_J → Prop} {x1 : Int32} {x2 : Int32} {x3 : Int32} {s0 : Int32} {I : sw_I} {J : sw_J} (h : wB_X9_saw_32   Q x1 x2 x3 s0 I J) : AW l D cy sz RX9 cX9_saw 5 (some .int) false rm_X9_saw 0 0 (sw_qi G Q) 0 0 G I J 32 [(0, .ref (sz + 0)), (1, .int x1), (2, .int x2), (3, .int x3)] [.int s0] := by
  unfold wB_X9_saw_32 at h
  refine aw_istore (lv' := [(4, .int s0), (0, .ref (sz + 0)), (1, .int x1), (2, .int x2), (3, .int x3)]) dX9_saw_32 (by decide) rfl ?_
  refine aw_iload 0 dX9_saw_34 rfl ?_
  refine aw_zeq 65 dX9_saw_36 (by decide) (fun c_1 => ?_) (fun c_1 => ?_)
  · have h := sw_if.t h c_1
    refine aw_iconst (v := (-1)) dX9_saw_65 (by decide) ?_
    exact aw_iret rfl dX9_saw_66 ⟨rfl, _, rfl, h⟩
  · have h := sw_if.f h c_1
    refine aw_iload_n 3 dX9_saw_39 rfl rfl ?_
    refine aw_aload_n 1 dX9_saw_40 rfl rfl ?_
    refine gf_X9_1 fl_X9_19 (lk0 hG) (lr0_1 hG) dX9_saw_41 ?_
    refine aw_callV wv_X1_everybody (M_X1_everybody hG  h) ml_X9_284 rfl (by decide) (lk3 hG) rfl rfl (Nat.le_of_ble_eq_true rfl) ⟨rfl, rfl⟩ ⟨Nat.le_of_ble_eq_true rfl, Nat.le_of_ble_eq_true rfl⟩ ⟨Nat.le_refl _, Nat.le_refl _⟩ dX9_saw_44 (aw_ki fun r_2 I_3 J_4 h => ?_)
    refine aw_iconst (v := (-1)) dX9_saw_47 (by decide) ?_
    refine aw_ixor dX9_saw_48 ?_
    refine aw_iand dX9_saw_49 ?_
    refine aw_zne 65 dX9_saw_50 (by decide) (fun c_5 => ?_) (fun c_5 => ?_)
    · have h := sw_if.f h c_5
      refine aw_iconst (v := (-1)) dX9_saw_65 (by decide) ?_
      exact aw_iret rfl dX9_saw_66 ⟨rfl, _, rfl, h⟩
    · have h := sw_if.t h c_5
      refine aw_aload_n 1 dX9_saw_53 rfl rfl ?_
      refine gf_X9_7 fl_X9_51 (lk0 hG) (lr0_7 hG) dX9_saw_54 ?_
      refine gf_X7_4 fl_X9_93 (lk109 hG) dX9_saw_57 ?_
      refine aw_bipush (v := 8) dX9_saw_60 (by decide) ?_
      refine aw_jlt 67 dX9_saw_62 (by decide) (fun c_6 => ?_) (fun c_6 => ?_)
      · have h := sw_if.t h c_6
        refine aw_aload_n 1 dX9_saw_67 rfl rfl ?_
        refine gf_X9_7 fl_X9_51 (lk0 hG) (lr0_7 hG) dX9_saw_68 ?_
        refine aw_iload_n 2 dX9_saw_71 rfl rfl ?_
        refine aw_iload_n 3 dX9_saw_72 rfl rfl ?_
        refine aw_iload_n 4 dX9_saw_73 rfl rfl ?_
        refine aw_callV wv_X7_add (M_X7_add hG  h) ml_X9_314 rfl (by decide) (lk109 hG) rfl rfl (Nat.le_of_ble_eq_true rfl) ⟨rfl, rfl⟩ ⟨Nat.le_of_ble_eq_true rfl, Nat.le_of_ble_eq_true rfl⟩ ⟨Nat.le_refl _, Nat.le_refl _⟩ dX9_saw_74 (aw_kv fun I_8 J_9 h => ?_)
        refine aw_aload_n 1 dX9_saw_77 rfl rfl ?_
        refine gf_X9_7 fl_X9_51 (lk0 hG) (lr0_7 hG) dX9_saw_78 ?_
        refine gf_X7_4 fl_X9_93 (lk109 hG) dX9_saw_81 ?_
        exact aw_iret rfl dX9_saw_84 ⟨rfl, _, rfl, h⟩
      · have h := sw_if.f h c_6
        refine aw_iconst (v := (-1)) dX9_saw_65 (by decide) ?_
        exact aw_iret rfl dX9_saw_66 ⟨rfl, _, rfl, h⟩
set_option maxRecDepth 20000 in
theorem t_X9_saw_31 {l : Launch} {D : va_G} {cy : Nat → ClassId} {sz : Nat} {G : sw_G} (hG : sw_lay G)   {Q : Int32 → sw_I → sw_J → Prop} {x1 : Int32} {x2 : Int32} {x3 : Int32} {I : sw_I} {J : sw_J} (h : wB_X9_saw_31   Q x1 x2 x3 I J) : AW l D cy sz RX9 cX9_saw 5 (some .int) false rm_X9_saw 0 0 (sw_qi G Q) 0 0 G I J 31 [(0, .ref (sz + 0)), (1, .int x1), (2, .int x2), (3, .int x3)] [] := by
  unfold wB_X9_saw_31 at h
  refine aw_iconst (v := 0) dX9_saw_31 (by decide) ?_
  refine aw_sub [0, 1, 2, 3] rfl ?_
  exact t_X9_saw_32 hG   h
set_option maxRecDepth 20000 in
theorem t_X9_saw {l : Launch} {D : va_G} {cy : Nat → ClassId} {sz : Nat} {G : sw_G} (hG : sw_lay G)   {Q : Int32 → sw_I → sw_J → Prop} {x1 : Int32} {x2 : Int32} {x3 : Int32} {I : sw_I} {J : sw_J} (h : wp_X9_saw x1 x2 x3 I J Q) : AW l D cy sz RX9 cX9_saw 5 (some .int) false rm_X9_saw 0 0 (sw_qi G Q) 0 0 G I J 0 [(0, .ref (sz + 0)), (1, .int x1), (2, .int x2), (3, .int x3)] [] := by
  unfold wp_X9_saw at h
  refine aw_aload_n 0 dX9_saw_0 rfl rfl ?_
  refine gf_X9_1 fl_X9_19 (lk0 hG) (lr0_1 hG) dX9_saw_1 ?_
  refine aw_iload_n 1 dX9_saw_4 rfl rfl ?_
  refine aw_callV wv_X1_hasFloor (M_X1_hasFloor hG  h) ml_X9_148 rfl (by decide) (lk3 hG) rfl rfl (Nat.le_of_ble_eq_true rfl) ⟨rfl, rfl⟩ ⟨Nat.le_of_ble_eq_true rfl, Nat.le_of_ble_eq_true rfl⟩ ⟨Nat.le_refl _, Nat.le_refl _⟩ dX9_saw_5 (aw_ki fun r_1 I_2 J_3 h => ?_)
  refine aw_zeq 31 dX9_saw_8 (by decide) (fun c_4 => ?_) (fun c_4 => ?_)
  · have h := sw_if.t h c_4
    refine aw_sub [0, 1, 2, 3] rfl ?_
    exact t_X9_saw_31 hG   h
  · have h := sw_if.f h c_4
    refine aw_aload_n 0 dX9_saw_11 rfl rfl ?_
    refine gf_X9_1 fl_X9_19 (lk0 hG) (lr0_1 hG) dX9_saw_12 ?_
    refine aw_iload_n 3 dX9_saw_15 rfl rfl ?_
    refine aw_callV wv_X1_hasFloor (M_X1_hasFloor hG  h) ml_X9_148 rfl (by decide) (lk3 hG) rfl rfl (Nat.le_of_ble_eq_true rfl) ⟨rfl, rfl⟩ ⟨Nat.le_of_ble_eq_true rfl, Nat.le_of_ble_eq_true rfl⟩ ⟨Nat.le_refl _, Nat.le_refl _⟩ dX9_saw_16 (aw_ki fun r_5 I_6 J_7 h => ?_)
    refine aw_zeq 31 dX9_saw_19 (by decide) (fun c_8 => ?_) (fun c_8 => ?_)
    · have h := sw_if.t h c_8
      refine aw_sub [0, 1, 2, 3] rfl ?_
      exact t_X9_saw_31 hG   h
    · have h := sw_if.f h c_8
      refine aw_iload_n 1 dX9_saw_22 rfl rfl ?_
      refine aw_iload_n 3 dX9_saw_23 rfl rfl ?_
      refine aw_jeq 31 dX9_saw_24 (by decide) (fun c_9 => ?_) (fun c_9 => ?_)
      · have h := sw_if.t h c_9
        refine aw_sub [0, 1, 2, 3] rfl ?_
        exact t_X9_saw_31 hG   h
      · have h := sw_if.f h c_9
        refine aw_iconst (v := 1) dX9_saw_27 (by decide) ?_
        refine aw_goto 32 dX9_saw_28 (by decide) ?_
        refine aw_sub [0, 1, 2, 3] rfl ?_
        exact t_X9_saw_32 hG   h
theorem M_X9_saw {l : Launch} {D : va_G} {cy : Nat → ClassId} {sz : Nat} {G : sw_G} (hG : sw_lay G)   {Q : Int32 → sw_I → sw_J → Prop} {x1 : Int32} {x2 : Int32} {x3 : Int32} {I : sw_I} {J : sw_J} (h : wp_X9_saw x1 x2 x3 I J Q) : Met l yX9_saw (Cond.code yX9_saw cX9_saw 5 (some .int) :: sw_T) rm_X9_saw (sw_Pc D cy sz [.ref (sz + 0), .int x1, .int x2, .int x3] G I J) (sw_Q D cy sz (sw_qi G Q)) 0 0 (fun q => sz ≤ q) :=
  sw_met (by decide) (fun q => by cases q) (Nat.le_of_ble_eq_true rfl) rfl (t_X9_saw hG  h)
-- X9_forget
abbrev rm_X9_forget : Room := { frames := 0, cells := 0, slots := 0, locals := 0 }
def wp_X9_forget  (I : sw_I) (J : sw_J) (Q : Int32 → sw_I → sw_J → Prop) : Prop :=
  ∀ y_1 : Int32, y_1 = (I 109 4) → ∀ I_3 : sw_I, I_3 = sw_up I 109 4 (0 : Int32) → Q y_1 I_3 J
set_option maxRecDepth 20000 in
theorem t_X9_forget {l : Launch} {D : va_G} {cy : Nat → ClassId} {sz : Nat} {G : sw_G} (hG : sw_lay G)   {Q : Int32 → sw_I → sw_J → Prop}  {I : sw_I} {J : sw_J} (h : wp_X9_forget  I J Q) : AW l D cy sz RX9 cX9_forget 2 (some .int) false rm_X9_forget 0 0 (sw_qi G Q) 0 0 G I J 0 [(0, .ref (sz + 0))] [] := by
  unfold wp_X9_forget at h
  refine aw_aload_n 0 dX9_forget_0 rfl rfl ?_
  refine gf_X9_7 fl_X9_51 (lk0 hG) (lr0_7 hG) dX9_forget_1 ?_
  refine gf_X7_4 fl_X9_93 (lk109 hG) dX9_forget_4 ?_
  refine aw_topi (fun y_1 e_2 => ?_)
  have h := h y_1 e_2
  refine aw_istore_n (lv' := [(1, .int y_1), (0, .ref (sz + 0))]) dX9_forget_7 rfl (by decide) rfl ?_
  refine aw_aload_n 1 dX9_forget_8 rfl rfl ?_
  refine gf_X9_7 fl_X9_51 (lk0 hG) (lr0_7 hG) dX9_forget_9 ?_
  refine aw_iconst (v := 0) dX9_forget_12 (by decide) ?_
  refine pf_X7_4 fl_X9_93 (lk109 hG) dX9_forget_13 (aw_nameI fun I_3 e_4 => ?_)
  have h := h I_3 e_4
  refine aw_iload_n 0 dX9_forget_16 rfl rfl ?_
  exact aw_iret rfl dX9_forget_17 ⟨rfl, _, rfl, h⟩
theorem M_X9_forget {l : Launch} {D : va_G} {cy : Nat → ClassId} {sz : Nat} {G : sw_G} (hG : sw_lay G)   {Q : Int32 → sw_I → sw_J → Prop}  {I : sw_I} {J : sw_J} (h : wp_X9_forget  I J Q) : Met l yX9_forget (Cond.code yX9_forget cX9_forget 2 (some .int) :: sw_T) rm_X9_forget (sw_Pc D cy sz [.ref (sz + 0)] G I J) (sw_Q D cy sz (sw_qi G Q)) 0 0 (fun q => sz ≤ q) :=
  sw_met (by decide) (fun q => by cases q) (Nat.le_of_ble_eq_true rfl) rfl (t_X9_forget hG  h)
-- X9_keep
abbrev rm_X9_keep : Room := { frames := 2, cells := 0, slots := 0, locals := 47 }
def wp_X9_keep (x1 : Int32) (I : sw_I) (J : sw_J) (Q : Int32 → sw_I → sw_J → Prop) : Prop :=
  sw_if (x1 < 0) (Q 0 I J) (sw_if (x1 < (3 : Int32)) (vp_in x1 3 ∧ wp_X3_copy (128 + 4 * x1.toNatClampNeg) 13 I J (fun I_6 J_7 => vp_in x1 3 ∧ ∀ I_9 : sw_I, I_9 = sw_up I_6 108 x1.toNatClampNeg (1 : Int32) → Q 1 I_9 J_7)) (Q 0 I J))
set_option maxRecDepth 20000 in
theorem t_X9_keep {l : Launch} {D : va_G} {cy : Nat → ClassId} {sz : Nat} {G : sw_G} (hG : sw_lay G)   {Q : Int32 → sw_I → sw_J → Prop} {x1 : Int32} {I : sw_I} {J : sw_J} (h : wp_X9_keep x1 I J Q) : AW l D cy sz RX9 cX9_keep 2 (some .boolean) false rm_X9_keep 0 0 (sw_qi G Q) 0 0 G I J 0 [(0, .ref (sz + 0)), (1, .int x1)] [] := by
  unfold wp_X9_keep at h
  refine aw_iload_n 1 dX9_keep_0 rfl rfl ?_
  refine aw_zlt 9 dX9_keep_1 (by decide) (fun c_1 => ?_) (fun c_1 => ?_)
  · have h := sw_if.t h c_1
    refine aw_iconst (v := 0) dX9_keep_9 (by decide) ?_
    exact aw_zret rfl rfl dX9_keep_10 ⟨rfl, _, rfl, h⟩
  · have h := sw_if.f h c_1
    refine aw_iload_n 1 dX9_keep_4 rfl rfl ?_
    refine aw_iconst (v := 3) dX9_keep_5 (by decide) ?_
    refine aw_jlt 11 dX9_keep_6 (by decide) (fun c_2 => ?_) (fun c_2 => ?_)
    · have h := sw_if.t h c_2
      refine aw_aload_n 0 dX9_keep_11 rfl rfl ?_
      refine gf_X9_5 fl_X9_40 (lk0 hG) (lr0_5 hG) dX9_keep_12 ?_
      refine aw_iload_n 1 dX9_keep_15 rfl rfl ?_
      obtain ⟨hi_3, h⟩ := h
      have hm_4 := la107_m hG hi_3
      refine aw_ald dX9_keep_16 (lk107 hG) (ln107 hG) hi_3 (la107_r hG hi_3) ?_
      refine aw_aload_n 0 dX9_keep_17 rfl rfl ?_
      refine gf_X9_2 fl_X9_26 (lk0 hG) (lr0_2 hG) dX9_keep_18 ?_
      refine aw_callV wv_X3_copy (M_X3_copy hG hm_4 (lm13 hG) h) ml_X9_259 rfl (by decide) hm_4.1 rfl rfl (Nat.le_of_ble_eq_true rfl) ⟨rfl, rfl⟩ ⟨Nat.le_of_ble_eq_true rfl, Nat.le_of_ble_eq_true rfl⟩ ⟨Nat.le_refl _, Nat.le_refl _⟩ dX9_keep_21 (aw_kv fun I_6 J_7 h => ?_)
      refine aw_aload_n 0 dX9_keep_24 rfl rfl ?_
      refine gf_X9_6 fl_X9_44 (lk0 hG) (lr0_6 hG) dX9_keep_25 ?_
      refine aw_iload_n 1 dX9_keep_28 rfl rfl ?_
      refine aw_iconst (v := 1) dX9_keep_29 (by decide) ?_
      obtain ⟨hi_8, h⟩ := h
      refine aw_zst dX9_keep_30 (lk108 hG) (ln108 hG) hi_8 rfl (aw_nameI fun I_9 e_10 => ?_)
      have h := h I_9 e_10
      refine aw_iconst (v := 1) dX9_keep_31 (by decide) ?_
      exact aw_zret rfl rfl dX9_keep_32 ⟨rfl, _, rfl, h⟩
    · have h := sw_if.f h c_2
      refine aw_iconst (v := 0) dX9_keep_9 (by decide) ?_
      exact aw_zret rfl rfl dX9_keep_10 ⟨rfl, _, rfl, h⟩
theorem M_X9_keep {l : Launch} {D : va_G} {cy : Nat → ClassId} {sz : Nat} {G : sw_G} (hG : sw_lay G)   {Q : Int32 → sw_I → sw_J → Prop} {x1 : Int32} {I : sw_I} {J : sw_J} (h : wp_X9_keep x1 I J Q) : Met l yX9_keep (Cond.code yX9_keep cX9_keep 2 (some .boolean) :: sw_T) rm_X9_keep (sw_Pc D cy sz [.ref (sz + 0), .int x1] G I J) (sw_Q D cy sz (sw_qi G Q)) 0 0 (fun q => sz ≤ q) :=
  sw_met (by decide) (fun q => by cases q) (Nat.le_of_ble_eq_true rfl) rfl (t_X9_keep hG  h)
-- X9_again
abbrev rm_X9_again : Room := { frames := 2, cells := 0, slots := 0, locals := 47 }
def wp_X9_again (x1 : Int32) (I : sw_I) (J : sw_J) (Q : Int32 → sw_I → sw_J → Prop) : Prop :=
  sw_if (x1 < 0) (Q 0 I J) (sw_if (x1 < (3 : Int32)) (vp_in x1 3 ∧ sw_if ((I 108 x1.toNatClampNeg) = 0) (Q 0 I J) (vp_in x1 3 ∧ wp_X3_copy 13 (128 + 4 * x1.toNatClampNeg) I J (fun I_8 J_9 => ∀ I_10 : sw_I, I_10 = sw_up I_8 21 2 (0 : Int32) → Q 1 I_10 J_9))) (Q 0 I J))
set_option maxRecDepth 20000 in
theorem t_X9_again {l : Launch} {D : va_G} {cy : Nat → ClassId} {sz : Nat} {G : sw_G} (hG : sw_lay G)   {Q : Int32 → sw_I → sw_J → Prop} {x1 : Int32} {I : sw_I} {J : sw_J} (h : wp_X9_again x1 I J Q) : AW l D cy sz RX9 cX9_again 2 (some .boolean) false rm_X9_again 0 0 (sw_qi G Q) 0 0 G I J 0 [(0, .ref (sz + 0)), (1, .int x1)] [] := by
  unfold wp_X9_again at h
  refine aw_iload_n 1 dX9_again_0 rfl rfl ?_
  refine aw_zlt 18 dX9_again_1 (by decide) (fun c_1 => ?_) (fun c_1 => ?_)
  · have h := sw_if.t h c_1
    refine aw_iconst (v := 0) dX9_again_18 (by decide) ?_
    exact aw_zret rfl rfl dX9_again_19 ⟨rfl, _, rfl, h⟩
  · have h := sw_if.f h c_1
    refine aw_iload_n 1 dX9_again_4 rfl rfl ?_
    refine aw_iconst (v := 3) dX9_again_5 (by decide) ?_
    refine aw_jge 18 dX9_again_6 (by decide) (fun c_2 => ?_) (fun c_2 => ?_)
    · have h := sw_if.f h c_2
      refine aw_iconst (v := 0) dX9_again_18 (by decide) ?_
      exact aw_zret rfl rfl dX9_again_19 ⟨rfl, _, rfl, h⟩
    · have h := sw_if.t h c_2
      refine aw_aload_n 0 dX9_again_9 rfl rfl ?_
      refine gf_X9_6 fl_X9_44 (lk0 hG) (lr0_6 hG) dX9_again_10 ?_
      refine aw_iload_n 1 dX9_again_13 rfl rfl ?_
      obtain ⟨hi_3, h⟩ := h
      refine aw_zld dX9_again_14 (lk108 hG) (ln108 hG) hi_3 ?_
      refine aw_zne 20 dX9_again_15 (by decide) (fun c_4 => ?_) (fun c_4 => ?_)
      · have h := sw_if.f h c_4
        refine aw_aload_n 0 dX9_again_20 rfl rfl ?_
        refine gf_X9_2 fl_X9_26 (lk0 hG) (lr0_2 hG) dX9_again_21 ?_
        refine aw_aload_n 0 dX9_again_24 rfl rfl ?_
        refine gf_X9_5 fl_X9_40 (lk0 hG) (lr0_5 hG) dX9_again_25 ?_
        refine aw_iload_n 1 dX9_again_28 rfl rfl ?_
        obtain ⟨hi_5, h⟩ := h
        have hm_6 := la107_m hG hi_5
        refine aw_ald dX9_again_29 (lk107 hG) (ln107 hG) hi_5 (la107_r hG hi_5) ?_
        refine aw_callV wv_X3_copy (M_X3_copy hG (lm13 hG) hm_6 h) ml_X9_259 rfl (by decide) (lk13 hG) rfl rfl (Nat.le_of_ble_eq_true rfl) ⟨rfl, rfl⟩ ⟨Nat.le_of_ble_eq_true rfl, Nat.le_of_ble_eq_true rfl⟩ ⟨Nat.le_refl _, Nat.le_refl _⟩ dX9_again_30 (aw_kv fun I_8 J_9 h => ?_)
        refine aw_aload_n 0 dX9_again_33 rfl rfl ?_
        refine gf_X9_4 fl_X9_36 (lk0 hG) (lr0_4 hG) dX9_again_34 ?_
        refine aw_iconst (v := 0) dX9_again_37 (by decide) ?_
        refine pf_X4_2 fl_X9_217 (lk21 hG) dX9_again_38 (aw_nameI fun I_10 e_11 => ?_)
        have h := h I_10 e_11
        refine aw_iconst (v := 1) dX9_again_41 (by decide) ?_
        exact aw_zret rfl rfl dX9_again_42 ⟨rfl, _, rfl, h⟩
      · have h := sw_if.t h c_4
        refine aw_iconst (v := 0) dX9_again_18 (by decide) ?_
        exact aw_zret rfl rfl dX9_again_19 ⟨rfl, _, rfl, h⟩
theorem M_X9_again {l : Launch} {D : va_G} {cy : Nat → ClassId} {sz : Nat} {G : sw_G} (hG : sw_lay G)   {Q : Int32 → sw_I → sw_J → Prop} {x1 : Int32} {I : sw_I} {J : sw_J} (h : wp_X9_again x1 I J Q) : Met l yX9_again (Cond.code yX9_again cX9_again 2 (some .boolean) :: sw_T) rm_X9_again (sw_Pc D cy sz [.ref (sz + 0), .int x1] G I J) (sw_Q D cy sz (sw_qi G Q)) 0 0 (fun q => sz ≤ q) :=
  sw_met (by decide) (fun q => by cases q) (Nat.le_of_ble_eq_true rfl) rfl (t_X9_again hG  h)
-- X9_count
abbrev rm_X9_count : Room := { frames := 1, cells := 0, slots := 0, locals := 23 }
def wp_X9_count (x1 : Int32) (I : sw_I) (J : sw_J) (Q : Int32 → sw_I → sw_J → Prop) : Prop :=
  sw_if (x1 = 0) (Q (I 3 0) I J) (sw_if (x1 = 1) (Q (I 3 2) I J) (sw_if (x1 = 2) (Q (I 13 4) I J) (sw_if (x1 = 3) (Q (I 13 5) I J) (sw_if (x1 = 4) (Q (I 13 3) I J) (sw_if (x1 = 5) (wp_X3_onFloor 13 (I 13 4) I J (fun r_7 I_8 J_9 => Q (r_7 &&& ((I_8 13 3) ^^^ (-1 : Int32))) I_8 J_9)) (sw_if (x1 = 6) (wp_X3_onFloor 13 (-1) I J (fun r_11 I_12 J_13 => wp_X1_everybody  I_12 J_13 (fun r_14 I_15 J_16 => Q (r_11 &&& r_14) I_15 J_16))) (sw_if (x1 = 7) (Q (I 3 1) I J) (sw_if (x1 = 8) (Q (I 21 2) I J) (sw_if (x1 = 9) (Q (I 109 4) I J) (sw_if (x1 = 10) (Q (I 0 10) I J) (sw_if (x1 = 11) (Q (I 1 1) I J) (Q (-100 : Int32) I J))))))))))))
set_option maxRecDepth 20000 in
theorem t_X9_count {l : Launch} {D : va_G} {cy : Nat → ClassId} {sz : Nat} {G : sw_G} (hG : sw_lay G)   {Q : Int32 → sw_I → sw_J → Prop} {x1 : Int32} {I : sw_I} {J : sw_J} (h : wp_X9_count x1 I J Q) : AW l D cy sz RX9 cX9_count 2 (some .int) false rm_X9_count 0 0 (sw_qi G Q) 0 0 G I J 0 [(0, .ref (sz + 0)), (1, .int x1)] [] := by
  unfold wp_X9_count at h
  refine aw_iload_n 1 dX9_count_0 rfl rfl ?_
  by_cases c_1 : x1 = 0
  · have h := sw_if.t h c_1; refine aw_tableIn 64 dX9_count_1 (by rw [c_1]; decide) (by rw [c_1]; decide) (by rw [c_1]; rfl) (by decide) ?_
    refine aw_aload_n 0 dX9_count_64 rfl rfl ?_
    refine gf_X9_1 fl_X9_19 (lk0 hG) (lr0_1 hG) dX9_count_65 ?_
    refine gf_X1_0 fl_X9_229 (lk3 hG) dX9_count_68 ?_
    exact aw_iret rfl dX9_count_71 ⟨rfl, _, rfl, h⟩
  · have h := sw_if.f h c_1
    by_cases c_2 : x1 = 1
    · have h := sw_if.t h c_2; refine aw_tableIn 72 dX9_count_1 (by rw [c_2]; decide) (by rw [c_2]; decide) (by rw [c_2]; rfl) (by decide) ?_
      refine aw_aload_n 0 dX9_count_72 rfl rfl ?_
      refine gf_X9_1 fl_X9_19 (lk0 hG) (lr0_1 hG) dX9_count_73 ?_
      refine gf_X1_2 fl_X9_154 (lk3 hG) dX9_count_76 ?_
      exact aw_iret rfl dX9_count_79 ⟨rfl, _, rfl, h⟩
    · have h := sw_if.f h c_2
      by_cases c_3 : x1 = 2
      · have h := sw_if.t h c_3; refine aw_tableIn 80 dX9_count_1 (by rw [c_3]; decide) (by rw [c_3]; decide) (by rw [c_3]; rfl) (by decide) ?_
        refine aw_aload_n 0 dX9_count_80 rfl rfl ?_
        refine gf_X9_2 fl_X9_26 (lk0 hG) (lr0_2 hG) dX9_count_81 ?_
        refine gf_X3_4 fl_X9_97 (lk13 hG) dX9_count_84 ?_
        exact aw_iret rfl dX9_count_87 ⟨rfl, _, rfl, h⟩
      · have h := sw_if.f h c_3
        by_cases c_4 : x1 = 3
        · have h := sw_if.t h c_4; refine aw_tableIn 88 dX9_count_1 (by rw [c_4]; decide) (by rw [c_4]; decide) (by rw [c_4]; rfl) (by decide) ?_
          refine aw_aload_n 0 dX9_count_88 rfl rfl ?_
          refine gf_X9_2 fl_X9_26 (lk0 hG) (lr0_2 hG) dX9_count_89 ?_
          refine gf_X3_5 fl_X9_351 (lk13 hG) dX9_count_92 ?_
          exact aw_iret rfl dX9_count_95 ⟨rfl, _, rfl, h⟩
        · have h := sw_if.f h c_4
          by_cases c_5 : x1 = 4
          · have h := sw_if.t h c_5; refine aw_tableIn 96 dX9_count_1 (by rw [c_5]; decide) (by rw [c_5]; decide) (by rw [c_5]; rfl) (by decide) ?_
            refine aw_aload_n 0 dX9_count_96 rfl rfl ?_
            refine gf_X9_2 fl_X9_26 (lk0 hG) (lr0_2 hG) dX9_count_97 ?_
            refine gf_X3_3 fl_X9_142 (lk13 hG) dX9_count_100 ?_
            exact aw_iret rfl dX9_count_103 ⟨rfl, _, rfl, h⟩
          · have h := sw_if.f h c_5
            by_cases c_6 : x1 = 5
            · have h := sw_if.t h c_6; refine aw_tableIn 104 dX9_count_1 (by rw [c_6]; decide) (by rw [c_6]; decide) (by rw [c_6]; rfl) (by decide) ?_
              refine aw_aload_n 0 dX9_count_104 rfl rfl ?_
              refine gf_X9_2 fl_X9_26 (lk0 hG) (lr0_2 hG) dX9_count_105 ?_
              refine aw_aload_n 0 dX9_count_108 rfl rfl ?_
              refine gf_X9_2 fl_X9_26 (lk0 hG) (lr0_2 hG) dX9_count_109 ?_
              refine gf_X3_4 fl_X9_97 (lk13 hG) dX9_count_112 ?_
              refine aw_callV wv_X3_onFloor (M_X3_onFloor trivial (lm13 hG) h) ml_X9_222 rfl (by decide) (lk13 hG) rfl rfl (Nat.le_of_ble_eq_true rfl) ⟨rfl, rfl⟩ ⟨Nat.le_of_ble_eq_true rfl, Nat.le_of_ble_eq_true rfl⟩ ⟨Nat.le_refl _, Nat.le_refl _⟩ dX9_count_115 (aw_ki fun r_7 I_8 J_9 h => ?_)
              refine aw_aload_n 0 dX9_count_118 rfl rfl ?_
              refine gf_X9_2 fl_X9_26 (lk0 hG) (lr0_2 hG) dX9_count_119 ?_
              refine gf_X3_3 fl_X9_142 (lk13 hG) dX9_count_122 ?_
              refine aw_iconst (v := (-1)) dX9_count_125 (by decide) ?_
              refine aw_ixor dX9_count_126 ?_
              refine aw_iand dX9_count_127 ?_
              exact aw_iret rfl dX9_count_128 ⟨rfl, _, rfl, h⟩
            · have h := sw_if.f h c_6
              by_cases c_10 : x1 = 6
              · have h := sw_if.t h c_10; refine aw_tableIn 129 dX9_count_1 (by rw [c_10]; decide) (by rw [c_10]; decide) (by rw [c_10]; rfl) (by decide) ?_
                refine aw_aload_n 0 dX9_count_129 rfl rfl ?_
                refine gf_X9_2 fl_X9_26 (lk0 hG) (lr0_2 hG) dX9_count_130 ?_
                refine aw_iconst (v := (-1)) dX9_count_133 (by decide) ?_
                refine aw_callV wv_X3_onFloor (M_X3_onFloor trivial (lm13 hG) h) ml_X9_222 rfl (by decide) (lk13 hG) rfl rfl (Nat.le_of_ble_eq_true rfl) ⟨rfl, rfl⟩ ⟨Nat.le_of_ble_eq_true rfl, Nat.le_of_ble_eq_true rfl⟩ ⟨Nat.le_refl _, Nat.le_refl _⟩ dX9_count_134 (aw_ki fun r_11 I_12 J_13 h => ?_)
                refine aw_aload_n 0 dX9_count_137 rfl rfl ?_
                refine gf_X9_1 fl_X9_19 (lk0 hG) (lr0_1 hG) dX9_count_138 ?_
                refine aw_callV wv_X1_everybody (M_X1_everybody hG  h) ml_X9_284 rfl (by decide) (lk3 hG) rfl rfl (Nat.le_of_ble_eq_true rfl) ⟨rfl, rfl⟩ ⟨Nat.le_of_ble_eq_true rfl, Nat.le_of_ble_eq_true rfl⟩ ⟨Nat.le_refl _, Nat.le_refl _⟩ dX9_count_141 (aw_ki fun r_14 I_15 J_16 h => ?_)
                refine aw_iand dX9_count_144 ?_
                exact aw_iret rfl dX9_count_145 ⟨rfl, _, rfl, h⟩
              · have h := sw_if.f h c_10
                by_cases c_17 : x1 = 7
                · have h := sw_if.t h c_17; refine aw_tableIn 146 dX9_count_1 (by rw [c_17]; decide) (by rw [c_17]; decide) (by rw [c_17]; rfl) (by decide) ?_
                  refine aw_aload_n 0 dX9_count_146 rfl rfl ?_
                  refine gf_X9_1 fl_X9_19 (lk0 hG) (lr0_1 hG) dX9_count_147 ?_
                  refine gf_X1_1 fl_X9_161 (lk3 hG) dX9_count_150 ?_
                  exact aw_iret rfl dX9_count_153 ⟨rfl, _, rfl, h⟩
                · have h := sw_if.f h c_17
                  by_cases c_18 : x1 = 8
                  · have h := sw_if.t h c_18; refine aw_tableIn 154 dX9_count_1 (by rw [c_18]; decide) (by rw [c_18]; decide) (by rw [c_18]; rfl) (by decide) ?_
                    refine aw_aload_n 0 dX9_count_154 rfl rfl ?_
                    refine gf_X9_4 fl_X9_36 (lk0 hG) (lr0_4 hG) dX9_count_155 ?_
                    refine gf_X4_2 fl_X9_217 (lk21 hG) dX9_count_158 ?_
                    exact aw_iret rfl dX9_count_161 ⟨rfl, _, rfl, h⟩
                  · have h := sw_if.f h c_18
                    by_cases c_19 : x1 = 9
                    · have h := sw_if.t h c_19; refine aw_tableIn 162 dX9_count_1 (by rw [c_19]; decide) (by rw [c_19]; decide) (by rw [c_19]; rfl) (by decide) ?_
                      refine aw_aload_n 0 dX9_count_162 rfl rfl ?_
                      refine gf_X9_7 fl_X9_51 (lk0 hG) (lr0_7 hG) dX9_count_163 ?_
                      refine gf_X7_4 fl_X9_93 (lk109 hG) dX9_count_166 ?_
                      exact aw_iret rfl dX9_count_169 ⟨rfl, _, rfl, h⟩
                    · have h := sw_if.f h c_19
                      by_cases c_20 : x1 = 10
                      · have h := sw_if.t h c_20; refine aw_tableIn 170 dX9_count_1 (by rw [c_20]; decide) (by rw [c_20]; decide) (by rw [c_20]; rfl) (by decide) ?_
                        refine aw_aload_n 0 dX9_count_170 rfl rfl ?_
                        refine gf_X9_10 fl_X9_62 (lk0 hG) dX9_count_171 ?_
                        exact aw_iret rfl dX9_count_174 ⟨rfl, _, rfl, h⟩
                      · have h := sw_if.f h c_20
                        by_cases c_21 : x1 = 11
                        · have h := sw_if.t h c_21; refine aw_tableIn 175 dX9_count_1 (by rw [c_21]; decide) (by rw [c_21]; decide) (by rw [c_21]; rfl) (by decide) ?_
                          refine aw_aload_n 0 dX9_count_175 rfl rfl ?_
                          refine gf_X9_0 fl_X9_12 (lk0 hG) (lr0_0 hG) dX9_count_176 ?_
                          refine gf_X8_1 fl_X9_80 (lk1 hG) dX9_count_179 ?_
                          exact aw_iret rfl dX9_count_182 ⟨rfl, _, rfl, h⟩
                        · have h := sw_if.f h c_21
                          refine aw_tableOut 183 dX9_count_1 (by have g0 := sw_ne c_1 (by decide : (0 : Int32).toInt = 0); have g1 := sw_ne c_2 (by decide : (1 : Int32).toInt = 1); have g2 := sw_ne c_3 (by decide : (2 : Int32).toInt = 2); have g3 := sw_ne c_4 (by decide : (3 : Int32).toInt = 3); have g4 := sw_ne c_5 (by decide : (4 : Int32).toInt = 4); have g5 := sw_ne c_6 (by decide : (5 : Int32).toInt = 5); have g6 := sw_ne c_10 (by decide : (6 : Int32).toInt = 6); have g7 := sw_ne c_17 (by decide : (7 : Int32).toInt = 7); have g8 := sw_ne c_18 (by decide : (8 : Int32).toInt = 8); have g9 := sw_ne c_19 (by decide : (9 : Int32).toInt = 9); have g10 := sw_ne c_20 (by decide : (10 : Int32).toInt = 10); have g11 := sw_ne c_21 (by decide : (11 : Int32).toInt = 11); omega) (by decide) ?_
                          refine aw_bipush (v := (-100)) dX9_count_183 (by decide) ?_
                          exact aw_iret rfl dX9_count_185 ⟨rfl, _, rfl, h⟩
theorem M_X9_count {l : Launch} {D : va_G} {cy : Nat → ClassId} {sz : Nat} {G : sw_G} (hG : sw_lay G)   {Q : Int32 → sw_I → sw_J → Prop} {x1 : Int32} {I : sw_I} {J : sw_J} (h : wp_X9_count x1 I J Q) : Met l yX9_count (Cond.code yX9_count cX9_count 2 (some .int) :: sw_T) rm_X9_count (sw_Pc D cy sz [.ref (sz + 0), .int x1] G I J) (sw_Q D cy sz (sw_qi G Q)) 0 0 (fun q => sz ≤ q) :=
  sw_met (by decide) (fun q => by cases q) (Nat.le_of_ble_eq_true rfl) rfl (t_X9_count hG  h)
-- X9_clearRow
abbrev rm_X9_clearRow : Room := { frames := 0, cells := 0, slots := 0, locals := 0 }
def wp_X9_clearRow  (I : sw_I) (J : sw_J) (Q : sw_I → sw_J → Prop) : Prop :=
  ∀ I_1 : sw_I, I_1 = sw_up I 0 10 (0 : Int32) → Q I_1 J
set_option maxRecDepth 20000 in
theorem t_X9_clearRow {l : Launch} {D : va_G} {cy : Nat → ClassId} {sz : Nat} {G : sw_G} (hG : sw_lay G)   {Q : sw_I → sw_J → Prop}  {I : sw_I} {J : sw_J} (h : wp_X9_clearRow  I J Q) : AW l D cy sz RX9 cX9_clearRow 1 none false rm_X9_clearRow 0 0 (sw_qv G Q) 0 0 G I J 0 [(0, .ref (sz + 0))] [] := by
  unfold wp_X9_clearRow at h
  refine aw_aload_n 0 dX9_clearRow_0 rfl rfl ?_
  refine aw_iconst (v := 0) dX9_clearRow_1 (by decide) ?_
  refine pf_X9_10 fl_X9_62 (lk0 hG) dX9_clearRow_2 (aw_nameI fun I_1 e_2 => ?_)
  have h := h I_1 e_2
  exact aw_vret rfl dX9_clearRow_5 ⟨rfl, rfl, h⟩
theorem M_X9_clearRow {l : Launch} {D : va_G} {cy : Nat → ClassId} {sz : Nat} {G : sw_G} (hG : sw_lay G)   {Q : sw_I → sw_J → Prop}  {I : sw_I} {J : sw_J} (h : wp_X9_clearRow  I J Q) : Met l yX9_clearRow (Cond.code yX9_clearRow cX9_clearRow 1 none :: sw_T) rm_X9_clearRow (sw_Pc D cy sz [.ref (sz + 0)] G I J) (sw_Q D cy sz (sw_qv G Q)) 0 0 (fun q => sz ≤ q) :=
  sw_met (by decide) (fun q => by cases q) (Nat.le_of_ble_eq_true rfl) rfl (t_X9_clearRow hG  h)
-- X9_tell
abbrev rm_X9_tell : Room := { frames := 0, cells := 0, slots := 0, locals := 0 }
def wp_X9_tell (w1 : Int64) (I : sw_I) (J : sw_J) (Q : sw_I → sw_J → Prop) : Prop :=
  sw_if ((I 0 10) < (12 : Int32)) (vp_in (I 0 10) 12 ∧ ∀ J_3 : sw_J, J_3 = sw_up J 118 (I 0 10).toNatClampNeg w1 → ∀ I_5 : sw_I, I_5 = sw_up I 0 10 ((I 0 10) + (1 : Int32)) → Q I_5 J_3) (Q I J)
set_option maxRecDepth 20000 in
theorem t_X9_tell {l : Launch} {D : va_G} {cy : Nat → ClassId} {sz : Nat} {G : sw_G} (hG : sw_lay G)   {Q : sw_I → sw_J → Prop} {w1 : Int64} {I : sw_I} {J : sw_J} (h : wp_X9_tell w1 I J Q) : AW l D cy sz RX9 cX9_tell 3 none false rm_X9_tell 0 0 (sw_qv G Q) 0 0 G I J 0 [(0, .ref (sz + 0)), (1, .long w1)] [] := by
  unfold wp_X9_tell at h
  refine aw_aload_n 0 dX9_tell_0 rfl rfl ?_
  refine gf_X9_10 fl_X9_62 (lk0 hG) dX9_tell_1 ?_
  refine aw_bipush (v := 12) dX9_tell_4 (by decide) ?_
  refine aw_jge 29 dX9_tell_6 (by decide) (fun c_1 => ?_) (fun c_1 => ?_)
  · have h := sw_if.f h c_1
    exact aw_vret rfl dX9_tell_29 ⟨rfl, rfl, h⟩
  · have h := sw_if.t h c_1
    refine aw_aload_n 0 dX9_tell_9 rfl rfl ?_
    refine gf_X9_9 fl_X9_59 (lk0 hG) (lr0_9 hG) dX9_tell_10 ?_
    refine aw_aload_n 0 dX9_tell_13 rfl rfl ?_
    refine gf_X9_10 fl_X9_62 (lk0 hG) dX9_tell_14 ?_
    refine aw_lload_n 1 dX9_tell_17 rfl rfl ?_
    obtain ⟨hi_2, h⟩ := h
    refine aw_lst dX9_tell_18 (lk118 hG) (ln118 hG) hi_2 (aw_nameJ fun J_3 e_4 => ?_)
    have h := h J_3 e_4
    refine aw_aload_n 0 dX9_tell_19 rfl rfl ?_
    refine aw_dup dX9_tell_20 rfl ?_
    refine gf_X9_10 fl_X9_62 (lk0 hG) dX9_tell_21 ?_
    refine aw_iconst (v := 1) dX9_tell_24 (by decide) ?_
    refine aw_iadd dX9_tell_25 ?_
    refine pf_X9_10 fl_X9_62 (lk0 hG) dX9_tell_26 (aw_nameI fun I_5 e_6 => ?_)
    have h := h I_5 e_6
    exact aw_vret rfl dX9_tell_29 ⟨rfl, rfl, h⟩
theorem M_X9_tell {l : Launch} {D : va_G} {cy : Nat → ClassId} {sz : Nat} {G : sw_G} (hG : sw_lay G)   {Q : sw_I → sw_J → Prop} {w1 : Int64} {I : sw_I} {J : sw_J} (h : wp_X9_tell w1 I J Q) : Met l yX9_tell (Cond.code yX9_tell cX9_tell 3 none :: sw_T) rm_X9_tell (sw_Pc D cy sz [.ref (sz + 0), .long w1] G I J) (sw_Q D cy sz (sw_qv G Q)) 0 0 (fun q => sz ≤ q) :=
  sw_met (by decide) (fun q => by cases q) (Nat.le_of_ble_eq_true rfl) rfl (t_X9_tell hG  h)
-- X9_tellFraction
abbrev rm_X9_tellFraction : Room := { frames := 1, cells := 0, slots := 0, locals := 22 }
def wB_X9_tellFraction_45   (Q : sw_I → sw_J → Prop) (w1 : Int64) (w3 : Int64) (w5 : Int64) (I : sw_I) (J : sw_J) : Prop :=
  sw_if (0 < (lg_cmp w5 (0 : Int64))) (¬ w5 = 0 ∧ wp_X9_tell (w1 / w5) I J (fun I_4 J_5 => ¬ w5 = 0 ∧ wp_X9_tell (w3 / w5) I_4 J_5 (fun I_8 J_9 => Q I_8 J_9))) (Q I J)
def wb_X9_tellFraction_9  (K9 : Int64 → Int64 → Int64 → Int64 → Int32 → sw_I → sw_J → Prop) (Q : sw_I → sw_J → Prop) (w1 : Int64) (w3 : Int64) (w5 : Int64) (w7 : Int64) (x9 : Int32) (I : sw_I) (J : sw_J) : Prop :=
  sw_if (x9 < (128 : Int32)) (sw_if (0 < (lg_cmp w7 (0 : Int64))) (¬ w7 = 0 ∧ ∀ y_4 : Int64, y_4 = w5 - w5 / w7 * w7 → ∀ y_6 : Int32, y_6 = x9 + 1 → K9 w1 w3 w7 y_4 y_6 I J) (wB_X9_tellFraction_45   Q w1 w3 w5 I J)) (wB_X9_tellFraction_45   Q w1 w3 w5 I J)
def wl_X9_tellFraction_9   (Q : sw_I → sw_J → Prop) : Nat → Int64 → Int64 → Int64 → Int64 → Int32 → sw_I → sw_J → Prop
  | 0 => fun _ _ _ _ _ _ _ => False
  | n + 1 => fun w1 w3 w5 w7 x9 I J => wb_X9_tellFraction_9  (wl_X9_tellFraction_9   Q n) Q w1 w3 w5 w7 x9 I J
def wp_X9_tellFraction (w1 : Int64) (w3 : Int64) (I : sw_I) (J : sw_J) (Q : sw_I → sw_J → Prop) : Prop :=
  ∃ n_1 : Nat, wl_X9_tellFraction_9   Q n_1 w1 w3 w1 w3 0 I J
set_option maxRecDepth 20000 in
theorem t_X9_tellFraction_45 {l : Launch} {D : va_G} {cy : Nat → ClassId} {sz : Nat} {G : sw_G} (hG : sw_lay G)   {Q : sw_I → sw_J → Prop} {w1 : Int64} {w3 : Int64} {w5 : Int64} {I : sw_I} {J : sw_J} (h : wB_X9_tellFraction_45   Q w1 w3 w5 I J) : AW l D cy sz RX9 cX9_tellFraction 12 none false rm_X9_tellFraction 0 0 (sw_qv G Q) 0 0 G I J 45 [(0, .ref (sz + 0)), (1, .long w1), (3, .long w3), (5, .long w5)] [] := by
  unfold wB_X9_tellFraction_45 at h
  refine aw_lload 3 dX9_tellFraction_45 rfl ?_
  refine aw_lconst (v := 0) dX9_tellFraction_47 (by decide) ?_
  refine aw_lcmp dX9_tellFraction_48 ?_
  refine aw_zle 68 dX9_tellFraction_49 (by decide) (fun c_1 => ?_) (fun c_1 => ?_)
  · have h := sw_if.f h c_1
    exact aw_vret rfl dX9_tellFraction_68 ⟨rfl, rfl, h⟩
  · have h := sw_if.t h c_1
    refine aw_aload_n 0 dX9_tellFraction_52 rfl rfl ?_
    refine aw_lload_n 1 dX9_tellFraction_53 rfl rfl ?_
    refine aw_lload 3 dX9_tellFraction_54 rfl ?_
    obtain ⟨hz_2, h⟩ := h
    refine aw_ldiv dX9_tellFraction_56 hz_2 ?_
    refine aw_callV wv_X9_tell (M_X9_tell hG  h) ml_X9_195 rfl (by decide) (lk0 hG) rfl rfl (Nat.le_of_ble_eq_true rfl) ⟨rfl, rfl⟩ ⟨Nat.le_of_ble_eq_true rfl, Nat.le_of_ble_eq_true rfl⟩ ⟨Nat.le_refl _, Nat.le_refl _⟩ dX9_tellFraction_57 (aw_kv fun I_4 J_5 h => ?_)
    refine aw_aload_n 0 dX9_tellFraction_60 rfl rfl ?_
    refine aw_lload_n 2 dX9_tellFraction_61 rfl rfl ?_
    refine aw_lload 3 dX9_tellFraction_62 rfl ?_
    obtain ⟨hz_6, h⟩ := h
    refine aw_ldiv dX9_tellFraction_64 hz_6 ?_
    refine aw_callV wv_X9_tell (M_X9_tell hG  h) ml_X9_195 rfl (by decide) (lk0 hG) rfl rfl (Nat.le_of_ble_eq_true rfl) ⟨rfl, rfl⟩ ⟨Nat.le_of_ble_eq_true rfl, Nat.le_of_ble_eq_true rfl⟩ ⟨Nat.le_refl _, Nat.le_refl _⟩ dX9_tellFraction_65 (aw_kv fun I_8 J_9 h => ?_)
    exact aw_vret rfl dX9_tellFraction_68 ⟨rfl, rfl, h⟩
set_option maxRecDepth 20000 in
theorem tb_X9_tellFraction_9 {l : Launch} {D : va_G} {cy : Nat → ClassId} {sz : Nat} {G : sw_G} (hG : sw_lay G)   {Q : sw_I → sw_J → Prop} {K9 : Int64 → Int64 → Int64 → Int64 → Int32 → sw_I → sw_J → Prop} (hK9 : ∀ (w1 : Int64) (w3 : Int64) (w5 : Int64) (w7 : Int64) (x9 : Int32) (I : sw_I) (J : sw_J), K9 w1 w3 w5 w7 x9 I J → AW l D cy sz RX9 cX9_tellFraction 12 none false rm_X9_tellFraction 0 0 (sw_qv G Q) 0 0 G I J 9 [(0, .ref (sz + 0)), (1, .long w1), (3, .long w3), (5, .long w5), (7, .long w7), (9, .int x9)] []) {w1 : Int64} {w3 : Int64} {w5 : Int64} {w7 : Int64} {x9 : Int32} {I : sw_I} {J : sw_J} (h : wb_X9_tellFraction_9  K9 Q w1 w3 w5 w7 x9 I J) : AW l D cy sz RX9 cX9_tellFraction 12 none false rm_X9_tellFraction 0 0 (sw_qv G Q) 0 0 G I J 9 [(0, .ref (sz + 0)), (1, .long w1), (3, .long w3), (5, .long w5), (7, .long w7), (9, .int x9)] [] := by
  unfold wb_X9_tellFraction_9 at h
  refine aw_iload 5 dX9_tellFraction_9 rfl ?_
  refine aw_sipush (v := 128) dX9_tellFraction_11 (by decide) ?_
  refine aw_jge 45 dX9_tellFraction_14 (by decide) (fun c_1 => ?_) (fun c_1 => ?_)
  · have h := sw_if.f h c_1
    refine aw_sub [0, 1, 2, 3] rfl ?_
    exact t_X9_tellFraction_45 hG   h
  · have h := sw_if.t h c_1
    refine aw_lload 4 dX9_tellFraction_17 rfl ?_
    refine aw_lconst (v := 0) dX9_tellFraction_19 (by decide) ?_
    refine aw_lcmp dX9_tellFraction_20 ?_
    refine aw_zle 45 dX9_tellFraction_21 (by decide) (fun c_2 => ?_) (fun c_2 => ?_)
    · have h := sw_if.f h c_2
      refine aw_sub [0, 1, 2, 3] rfl ?_
      exact t_X9_tellFraction_45 hG   h
    · have h := sw_if.t h c_2
      refine aw_lload 3 dX9_tellFraction_24 rfl ?_
      refine aw_lload 4 dX9_tellFraction_26 rfl ?_
      obtain ⟨hz_3, h⟩ := h
      refine aw_lrem dX9_tellFraction_28 hz_3 ?_
      refine aw_topl (fun y_4 e_5 => ?_)
      have h := h y_4 e_5
      refine aw_lstore (lv' := [(10, .long y_4), (0, .ref (sz + 0)), (1, .long w1), (3, .long w3), (5, .long w5), (7, .long w7), (9, .int x9)]) dX9_tellFraction_29 (by decide) rfl ?_
      refine aw_lload 5 dX9_tellFraction_31 rfl ?_
      refine aw_lstore (lv' := [(5, .long w7), (10, .long y_4), (0, .ref (sz + 0)), (1, .long w1), (3, .long w3), (7, .long w7), (9, .int x9)]) dX9_tellFraction_33 (by decide) rfl ?_
      refine aw_lload 1 dX9_tellFraction_35 rfl ?_
      refine aw_lstore (lv' := [(7, .long y_4), (5, .long w7), (10, .long y_4), (0, .ref (sz + 0)), (1, .long w1), (3, .long w3), (9, .int x9)]) dX9_tellFraction_37 (by decide) rfl ?_
      obtain ⟨y_6, e_7⟩ : ∃ q : Int32, q = x9 + 1 := ⟨_, rfl⟩
      have h := h y_6 e_7
      refine aw_iinc (lv' := [(9, .int y_6), (7, .long y_4), (5, .long w7), (10, .long y_4), (0, .ref (sz + 0)), (1, .long w1), (3, .long w3)]) 6 dX9_tellFraction_39 rfl (by rw [e_7]; rfl) (by decide) rfl ?_
      refine aw_goto 9 dX9_tellFraction_42 (by decide) ?_
      refine aw_sub [4, 5, 6, 2, 1, 0] rfl ?_
      exact hK9 w1 w3 w7 y_4 y_6 I J h
set_option maxRecDepth 20000 in
theorem tl_X9_tellFraction_9 {l : Launch} {D : va_G} {cy : Nat → ClassId} {sz : Nat} {G : sw_G} (hG : sw_lay G)   {Q : sw_I → sw_J → Prop} : ∀ (n : Nat) (w1 : Int64) (w3 : Int64) (w5 : Int64) (w7 : Int64) (x9 : Int32) (I : sw_I) (J : sw_J), wl_X9_tellFraction_9   Q n w1 w3 w5 w7 x9 I J → AW l D cy sz RX9 cX9_tellFraction 12 none false rm_X9_tellFraction 0 0 (sw_qv G Q) 0 0 G I J 9 [(0, .ref (sz + 0)), (1, .long w1), (3, .long w3), (5, .long w5), (7, .long w7), (9, .int x9)] [] := by
  intro n
  induction n with
  | zero => intro w1 w3 w5 w7 x9 I J h; exact False.elim h
  | succ n ih => intro w1 w3 w5 w7 x9 I J h; exact tb_X9_tellFraction_9 hG  ih h
set_option maxRecDepth 20000 in
theorem t_X9_tellFraction {l : Launch} {D : va_G} {cy : Nat → ClassId} {sz : Nat} {G : sw_G} (hG : sw_lay G)   {Q : sw_I → sw_J → Prop} {w1 : Int64} {w3 : Int64} {I : sw_I} {J : sw_J} (h : wp_X9_tellFraction w1 w3 I J Q) : AW l D cy sz RX9 cX9_tellFraction 12 none false rm_X9_tellFraction 0 0 (sw_qv G Q) 0 0 G I J 0 [(0, .ref (sz + 0)), (1, .long w1), (3, .long w3)] [] := by
  unfold wp_X9_tellFraction at h
  refine aw_lload_n 1 dX9_tellFraction_0 rfl rfl ?_
  refine aw_lstore (lv' := [(5, .long w1), (0, .ref (sz + 0)), (1, .long w1), (3, .long w3)]) dX9_tellFraction_1 (by decide) rfl ?_
  refine aw_lload_n 3 dX9_tellFraction_3 rfl rfl ?_
  refine aw_lstore (lv' := [(7, .long w3), (5, .long w1), (0, .ref (sz + 0)), (1, .long w1), (3, .long w3)]) dX9_tellFraction_4 (by decide) rfl ?_
  refine aw_iconst (v := 0) dX9_tellFraction_6 (by decide) ?_
  refine aw_istore (lv' := [(9, .int 0), (7, .long w3), (5, .long w1), (0, .ref (sz + 0)), (1, .long w1), (3, .long w3)]) dX9_tellFraction_7 (by decide) rfl ?_
  refine aw_sub [3, 4, 5, 2, 1, 0] rfl ?_
  obtain ⟨n_1, h⟩ := h
  exact tl_X9_tellFraction_9 hG   n_1 w1 w3 w1 w3 0 I J h
theorem M_X9_tellFraction {l : Launch} {D : va_G} {cy : Nat → ClassId} {sz : Nat} {G : sw_G} (hG : sw_lay G)   {Q : sw_I → sw_J → Prop} {w1 : Int64} {w3 : Int64} {I : sw_I} {J : sw_J} (h : wp_X9_tellFraction w1 w3 I J Q) : Met l yX9_tellFraction (Cond.code yX9_tellFraction cX9_tellFraction 12 none :: sw_T) rm_X9_tellFraction (sw_Pc D cy sz [.ref (sz + 0), .long w1, .long w3] G I J) (sw_Q D cy sz (sw_qv G Q)) 0 0 (fun q => sz ≤ q) :=
  sw_met (by decide) (fun q => by cases q) (Nat.le_of_ble_eq_true rfl) rfl (t_X9_tellFraction hG  h)
-- X9_nextSet
abbrev rm_X9_nextSet : Room := { frames := 0, cells := 0, slots := 0, locals := 0 }
def wp_X9_nextSet (x0 : Int32) (x1 : Int32) (I : sw_I) (J : sw_J) (Q : Int32 → sw_I → sw_J → Prop) : Prop :=
  Q ((x0 - x1) &&& x1) I J
set_option maxRecDepth 20000 in
theorem t_X9_nextSet {l : Launch} {D : va_G} {cy : Nat → ClassId} {sz : Nat} {G : sw_G} (hG : True)   {Q : Int32 → sw_I → sw_J → Prop} {x0 : Int32} {x1 : Int32} {I : sw_I} {J : sw_J} (h : wp_X9_nextSet x0 x1 I J Q) : AW l D cy sz RX9 cX9_nextSet 2 (some .int) false rm_X9_nextSet 0 0 (sw_qi G Q) 0 0 G I J 0 [(0, .int x0), (1, .int x1)] [] := by
  unfold wp_X9_nextSet at h
  refine aw_iload_n 0 dX9_nextSet_0 rfl rfl ?_
  refine aw_iload_n 1 dX9_nextSet_1 rfl rfl ?_
  refine aw_isub dX9_nextSet_2 ?_
  refine aw_iload_n 1 dX9_nextSet_3 rfl rfl ?_
  refine aw_iand dX9_nextSet_4 ?_
  exact aw_iret rfl dX9_nextSet_5 ⟨rfl, _, rfl, h⟩
theorem M_X9_nextSet {l : Launch} {D : va_G} {cy : Nat → ClassId} {sz : Nat} {G : sw_G} (hG : True)   {Q : Int32 → sw_I → sw_J → Prop} {x0 : Int32} {x1 : Int32} {I : sw_I} {J : sw_J} (h : wp_X9_nextSet x0 x1 I J Q) : Met l yX9_nextSet (Cond.code yX9_nextSet cX9_nextSet 2 (some .int) :: sw_T) rm_X9_nextSet (sw_Pc D cy sz [.int x0, .int x1] G I J) (sw_Q D cy sz (sw_qi G Q)) 0 0 (fun q => sz ≤ q) :=
  sw_met (by decide) (fun q => by cases q) (Nat.le_of_ble_eq_true rfl) rfl (t_X9_nextSet hG  h)
-- X9_addRider
abbrev rm_X9_addRider : Room := { frames := 0, cells := 0, slots := 0, locals := 0 }
def wp_X9_addRider (x1 : Int32) (x2 : Int32) (x3 : Int32) (x4 : Int32) (I : sw_I) (J : sw_J) (Q : sw_I → sw_J → Prop) : Prop :=
  ∀ y_1 : Int32, y_1 = (I 3 2) → sw_if (y_1 < (10 : Int32)) (vp_in y_1 10 ∧ ∀ I_5 : sw_I, I_5 = sw_up I 4 y_1.toNatClampNeg x1 → vp_in y_1 10 ∧ ∀ I_8 : sw_I, I_8 = sw_up I_5 5 y_1.toNatClampNeg (10 : Int32) → ∀ I_10 : sw_I, I_10 = sw_up I_8 3 2 ((I_8 3 2) + (1 : Int32)) → vp_in y_1 10 ∧ ∀ I_13 : sw_I, I_13 = sw_up I_10 14 y_1.toNatClampNeg x3 → vp_in y_1 10 ∧ ∀ I_16 : sw_I, I_16 = sw_up I_13 15 y_1.toNatClampNeg x2 → vp_in y_1 10 ∧ ∀ I_19 : sw_I, I_19 = sw_up I_16 16 y_1.toNatClampNeg (0 : Int32) → sw_if (x4 = 0) (Q I_19 J) (∀ I_22 : sw_I, I_22 = sw_up I_19 13 3 ((I_19 13 3) ||| ((1 : Int32) <<< (y_1 &&& 31))) → Q I_22 J)) (Q I J)
set_option maxRecDepth 20000 in
theorem t_X9_addRider {l : Launch} {D : va_G} {cy : Nat → ClassId} {sz : Nat} {G : sw_G} (hG : sw_lay G)   {Q : sw_I → sw_J → Prop} {x1 : Int32} {x2 : Int32} {x3 : Int32} {x4 : Int32} {I : sw_I} {J : sw_J} (h : wp_X9_addRider x1 x2 x3 x4 I J Q) : AW l D cy sz RX9 cX9_addRider 6 none false rm_X9_addRider 0 0 (sw_qv G Q) 0 0 G I J 0 [(0, .ref (sz + 0)), (1, .int x1), (2, .int x2), (3, .int x3), (4, .int x4)] [] := by
  unfold wp_X9_addRider at h
  refine aw_aload_n 0 dX9_addRider_0 rfl rfl ?_
  refine gf_X9_1 fl_X9_19 (lk0 hG) (lr0_1 hG) dX9_addRider_1 ?_
  refine gf_X1_2 fl_X9_154 (lk3 hG) dX9_addRider_4 ?_
  refine aw_topi (fun y_1 e_2 => ?_)
  have h := h y_1 e_2
  refine aw_istore (lv' := [(5, .int y_1), (0, .ref (sz + 0)), (1, .int x1), (2, .int x2), (3, .int x3), (4, .int x4)]) dX9_addRider_7 (by decide) rfl ?_
  refine aw_iload 0 dX9_addRider_9 rfl ?_
  refine aw_bipush (v := 10) dX9_addRider_11 (by decide) ?_
  refine aw_jlt 17 dX9_addRider_13 (by decide) (fun c_3 => ?_) (fun c_3 => ?_)
  · have h := sw_if.t h c_3
    refine aw_aload_n 1 dX9_addRider_17 rfl rfl ?_
    refine gf_X9_1 fl_X9_19 (lk0 hG) (lr0_1 hG) dX9_addRider_18 ?_
    refine gf_X1_3 fl_X9_129 (lk3 hG) (lr3_3 hG) dX9_addRider_21 ?_
    refine aw_iload 0 dX9_addRider_24 rfl ?_
    refine aw_iload_n 2 dX9_addRider_26 rfl rfl ?_
    obtain ⟨hi_4, h⟩ := h
    refine aw_ist dX9_addRider_27 (lk4 hG) (ln4 hG) hi_4 (aw_nameI fun I_5 e_6 => ?_)
    have h := h I_5 e_6
    refine aw_aload_n 1 dX9_addRider_28 rfl rfl ?_
    refine gf_X9_1 fl_X9_19 (lk0 hG) (lr0_1 hG) dX9_addRider_29 ?_
    refine gf_X1_4 fl_X9_136 (lk3 hG) (lr3_4 hG) dX9_addRider_32 ?_
    refine aw_iload 0 dX9_addRider_35 rfl ?_
    refine aw_bipush (v := 10) dX9_addRider_37 (by decide) ?_
    obtain ⟨hi_7, h⟩ := h
    refine aw_ist dX9_addRider_39 (lk5 hG) (ln5 hG) hi_7 (aw_nameI fun I_8 e_9 => ?_)
    have h := h I_8 e_9
    refine aw_aload_n 1 dX9_addRider_40 rfl rfl ?_
    refine gf_X9_1 fl_X9_19 (lk0 hG) (lr0_1 hG) dX9_addRider_41 ?_
    refine aw_dup dX9_addRider_44 rfl ?_
    refine gf_X1_2 fl_X9_154 (lk3 hG) dX9_addRider_45 ?_
    refine aw_iconst (v := 1) dX9_addRider_48 (by decide) ?_
    refine aw_iadd dX9_addRider_49 ?_
    refine pf_X1_2 fl_X9_154 (lk3 hG) dX9_addRider_50 (aw_nameI fun I_10 e_11 => ?_)
    have h := h I_10 e_11
    refine aw_aload_n 1 dX9_addRider_53 rfl rfl ?_
    refine gf_X9_2 fl_X9_26 (lk0 hG) (lr0_2 hG) dX9_addRider_54 ?_
    refine gf_X3_0 fl_X9_139 (lk13 hG) (lr13_0 hG) dX9_addRider_57 ?_
    refine aw_iload 0 dX9_addRider_60 rfl ?_
    refine aw_iload_n 4 dX9_addRider_62 rfl rfl ?_
    obtain ⟨hi_12, h⟩ := h
    refine aw_ist dX9_addRider_63 (lk14 hG) (ln14 hG) hi_12 (aw_nameI fun I_13 e_14 => ?_)
    have h := h I_13 e_14
    refine aw_aload_n 1 dX9_addRider_64 rfl rfl ?_
    refine gf_X9_2 fl_X9_26 (lk0 hG) (lr0_2 hG) dX9_addRider_65 ?_
    refine gf_X3_1 fl_X9_133 (lk13 hG) (lr13_1 hG) dX9_addRider_68 ?_
    refine aw_iload 0 dX9_addRider_71 rfl ?_
    refine aw_iload_n 3 dX9_addRider_73 rfl rfl ?_
    obtain ⟨hi_15, h⟩ := h
    refine aw_ist dX9_addRider_74 (lk15 hG) (ln15 hG) hi_15 (aw_nameI fun I_16 e_17 => ?_)
    have h := h I_16 e_17
    refine aw_aload_n 1 dX9_addRider_75 rfl rfl ?_
    refine gf_X9_2 fl_X9_26 (lk0 hG) (lr0_2 hG) dX9_addRider_76 ?_
    refine gf_X3_2 fl_X9_145 (lk13 hG) (lr13_2 hG) dX9_addRider_79 ?_
    refine aw_iload 0 dX9_addRider_82 rfl ?_
    refine aw_iconst (v := 0) dX9_addRider_84 (by decide) ?_
    obtain ⟨hi_18, h⟩ := h
    refine aw_ist dX9_addRider_85 (lk16 hG) (ln16 hG) hi_18 (aw_nameI fun I_19 e_20 => ?_)
    have h := h I_19 e_20
    refine aw_iload 5 dX9_addRider_86 rfl ?_
    refine aw_zeq 107 dX9_addRider_88 (by decide) (fun c_21 => ?_) (fun c_21 => ?_)
    · have h := sw_if.t h c_21
      exact aw_vret rfl dX9_addRider_107 ⟨rfl, rfl, h⟩
    · have h := sw_if.f h c_21
      refine aw_aload_n 1 dX9_addRider_91 rfl rfl ?_
      refine gf_X9_2 fl_X9_26 (lk0 hG) (lr0_2 hG) dX9_addRider_92 ?_
      refine aw_dup dX9_addRider_95 rfl ?_
      refine gf_X3_3 fl_X9_142 (lk13 hG) dX9_addRider_96 ?_
      refine aw_iconst (v := 1) dX9_addRider_99 (by decide) ?_
      refine aw_iload 0 dX9_addRider_100 rfl ?_
      refine aw_ishl dX9_addRider_102 ?_
      refine aw_ior dX9_addRider_103 ?_
      refine pf_X3_3 fl_X9_142 (lk13 hG) dX9_addRider_104 (aw_nameI fun I_22 e_23 => ?_)
      have h := h I_22 e_23
      exact aw_vret rfl dX9_addRider_107 ⟨rfl, rfl, h⟩
  · have h := sw_if.f h c_3
    exact aw_vret rfl dX9_addRider_16 ⟨rfl, rfl, h⟩
theorem M_X9_addRider {l : Launch} {D : va_G} {cy : Nat → ClassId} {sz : Nat} {G : sw_G} (hG : sw_lay G)   {Q : sw_I → sw_J → Prop} {x1 : Int32} {x2 : Int32} {x3 : Int32} {x4 : Int32} {I : sw_I} {J : sw_J} (h : wp_X9_addRider x1 x2 x3 x4 I J Q) : Met l yX9_addRider (Cond.code yX9_addRider cX9_addRider 6 none :: sw_T) rm_X9_addRider (sw_Pc D cy sz [.ref (sz + 0), .int x1, .int x2, .int x3, .int x4] G I J) (sw_Q D cy sz (sw_qv G Q)) 0 0 (fun q => sz ≤ q) :=
  sw_met (by decide) (fun q => by cases q) (Nat.le_of_ble_eq_true rfl) rfl (t_X9_addRider hG  h)
-- X9_forgetWhatWas
abbrev rm_X9_forgetWhatWas : Room := { frames := 0, cells := 0, slots := 0, locals := 0 }
def wb_X9_forgetWhatWas_10  (K10 : Int32 → sw_I → sw_J → Prop) (Q : sw_I → sw_J → Prop) (x1 : Int32) (I : sw_I) (J : sw_J) : Prop :=
  sw_if (x1 < (3 : Int32)) (vp_in x1 3 ∧ ∀ I_3 : sw_I, I_3 = sw_up I 108 x1.toNatClampNeg (0 : Int32) → ∀ y_5 : Int32, y_5 = x1 + 1 → K10 y_5 I_3 J) (Q I J)
def wl_X9_forgetWhatWas_10   (Q : sw_I → sw_J → Prop) : Nat → Int32 → sw_I → sw_J → Prop
  | 0 => fun _ _ _ => False
  | n + 1 => fun x1 I J => wb_X9_forgetWhatWas_10  (wl_X9_forgetWhatWas_10   Q n) Q x1 I J
def wp_X9_forgetWhatWas  (I : sw_I) (J : sw_J) (Q : sw_I → sw_J → Prop) : Prop :=
  ∀ I_1 : sw_I, I_1 = sw_up I 21 2 (0 : Int32) → ∃ n_3 : Nat, wl_X9_forgetWhatWas_10   Q n_3 0 I_1 J
set_option maxRecDepth 20000 in
theorem tb_X9_forgetWhatWas_10 {l : Launch} {D : va_G} {cy : Nat → ClassId} {sz : Nat} {G : sw_G} (hG : sw_lay G)   {Q : sw_I → sw_J → Prop} {K10 : Int32 → sw_I → sw_J → Prop} (hK10 : ∀ (x1 : Int32) (I : sw_I) (J : sw_J), K10 x1 I J → AW l D cy sz RX9 cX9_forgetWhatWas 2 none false rm_X9_forgetWhatWas 0 0 (sw_qv G Q) 0 0 G I J 10 [(0, .ref (sz + 0)), (1, .int x1)] []) {x1 : Int32} {I : sw_I} {J : sw_J} (h : wb_X9_forgetWhatWas_10  K10 Q x1 I J) : AW l D cy sz RX9 cX9_forgetWhatWas 2 none false rm_X9_forgetWhatWas 0 0 (sw_qv G Q) 0 0 G I J 10 [(0, .ref (sz + 0)), (1, .int x1)] [] := by
  unfold wb_X9_forgetWhatWas_10 at h
  refine aw_iload_n 1 dX9_forgetWhatWas_10 rfl rfl ?_
  refine aw_iconst (v := 3) dX9_forgetWhatWas_11 (by decide) ?_
  refine aw_jge 28 dX9_forgetWhatWas_12 (by decide) (fun c_1 => ?_) (fun c_1 => ?_)
  · have h := sw_if.f h c_1
    exact aw_vret rfl dX9_forgetWhatWas_28 ⟨rfl, rfl, h⟩
  · have h := sw_if.t h c_1
    refine aw_aload_n 0 dX9_forgetWhatWas_15 rfl rfl ?_
    refine gf_X9_6 fl_X9_44 (lk0 hG) (lr0_6 hG) dX9_forgetWhatWas_16 ?_
    refine aw_iload_n 1 dX9_forgetWhatWas_19 rfl rfl ?_
    refine aw_iconst (v := 0) dX9_forgetWhatWas_20 (by decide) ?_
    obtain ⟨hi_2, h⟩ := h
    refine aw_zst dX9_forgetWhatWas_21 (lk108 hG) (ln108 hG) hi_2 rfl (aw_nameI fun I_3 e_4 => ?_)
    have h := h I_3 e_4
    obtain ⟨y_5, e_6⟩ : ∃ q : Int32, q = x1 + 1 := ⟨_, rfl⟩
    have h := h y_5 e_6
    refine aw_iinc (lv' := [(1, .int y_5), (0, .ref (sz + 0))]) 1 dX9_forgetWhatWas_22 rfl (by rw [e_6]; rfl) (by decide) rfl ?_
    refine aw_goto 10 dX9_forgetWhatWas_25 (by decide) ?_
    refine aw_sub [1, 0] rfl ?_
    exact hK10 y_5 I_3 J h
set_option maxRecDepth 20000 in
theorem tl_X9_forgetWhatWas_10 {l : Launch} {D : va_G} {cy : Nat → ClassId} {sz : Nat} {G : sw_G} (hG : sw_lay G)   {Q : sw_I → sw_J → Prop} : ∀ (n : Nat) (x1 : Int32) (I : sw_I) (J : sw_J), wl_X9_forgetWhatWas_10   Q n x1 I J → AW l D cy sz RX9 cX9_forgetWhatWas 2 none false rm_X9_forgetWhatWas 0 0 (sw_qv G Q) 0 0 G I J 10 [(0, .ref (sz + 0)), (1, .int x1)] [] := by
  intro n
  induction n with
  | zero => intro x1 I J h; exact False.elim h
  | succ n ih => intro x1 I J h; exact tb_X9_forgetWhatWas_10 hG  ih h
set_option maxRecDepth 20000 in
theorem t_X9_forgetWhatWas {l : Launch} {D : va_G} {cy : Nat → ClassId} {sz : Nat} {G : sw_G} (hG : sw_lay G)   {Q : sw_I → sw_J → Prop}  {I : sw_I} {J : sw_J} (h : wp_X9_forgetWhatWas  I J Q) : AW l D cy sz RX9 cX9_forgetWhatWas 2 none false rm_X9_forgetWhatWas 0 0 (sw_qv G Q) 0 0 G I J 0 [(0, .ref (sz + 0))] [] := by
  unfold wp_X9_forgetWhatWas at h
  refine aw_aload_n 0 dX9_forgetWhatWas_0 rfl rfl ?_
  refine gf_X9_4 fl_X9_36 (lk0 hG) (lr0_4 hG) dX9_forgetWhatWas_1 ?_
  refine aw_iconst (v := 0) dX9_forgetWhatWas_4 (by decide) ?_
  refine pf_X4_2 fl_X9_217 (lk21 hG) dX9_forgetWhatWas_5 (aw_nameI fun I_1 e_2 => ?_)
  have h := h I_1 e_2
  refine aw_iconst (v := 0) dX9_forgetWhatWas_8 (by decide) ?_
  refine aw_istore_n (lv' := [(1, .int 0), (0, .ref (sz + 0))]) dX9_forgetWhatWas_9 rfl (by decide) rfl ?_
  refine aw_sub [1, 0] rfl ?_
  obtain ⟨n_3, h⟩ := h
  exact tl_X9_forgetWhatWas_10 hG   n_3 0 I_1 J h
theorem M_X9_forgetWhatWas {l : Launch} {D : va_G} {cy : Nat → ClassId} {sz : Nat} {G : sw_G} (hG : sw_lay G)   {Q : sw_I → sw_J → Prop}  {I : sw_I} {J : sw_J} (h : wp_X9_forgetWhatWas  I J Q) : Met l yX9_forgetWhatWas (Cond.code yX9_forgetWhatWas cX9_forgetWhatWas 2 none :: sw_T) rm_X9_forgetWhatWas (sw_Pc D cy sz [.ref (sz + 0)] G I J) (sw_Q D cy sz (sw_qv G Q)) 0 0 (fun q => sz ≤ q) :=
  sw_met (by decide) (fun q => by cases q) (Nat.le_of_ble_eq_true rfl) rfl (t_X9_forgetWhatWas hG  h)
-- X9_nextDrawn
abbrev rm_X9_nextDrawn : Room := { frames := 0, cells := 0, slots := 0, locals := 0 }
def wp_X9_nextDrawn (x0 : Int32) (I : sw_I) (J : sw_J) (Q : Int32 → sw_I → sw_J → Prop) : Prop :=
  Q ((x0 * (1103515245 : Int32)) + (12345 : Int32)) I J
set_option maxRecDepth 20000 in
theorem t_X9_nextDrawn {l : Launch} {D : va_G} {cy : Nat → ClassId} {sz : Nat} {G : sw_G} (hG : True)   {Q : Int32 → sw_I → sw_J → Prop} {x0 : Int32} {I : sw_I} {J : sw_J} (h : wp_X9_nextDrawn x0 I J Q) : AW l D cy sz RX9 cX9_nextDrawn 1 (some .int) false rm_X9_nextDrawn 0 0 (sw_qi G Q) 0 0 G I J 0 [(0, .int x0)] [] := by
  unfold wp_X9_nextDrawn at h
  refine aw_iload_n 0 dX9_nextDrawn_0 rfl rfl ?_
  refine aw_ldcw (v := 1103515245) dX9_nextDrawn_1 k_X9_354 ?_
  refine aw_imul dX9_nextDrawn_4 ?_
  refine aw_sipush (v := 12345) dX9_nextDrawn_5 (by decide) ?_
  refine aw_iadd dX9_nextDrawn_8 ?_
  exact aw_iret rfl dX9_nextDrawn_9 ⟨rfl, _, rfl, h⟩
theorem M_X9_nextDrawn {l : Launch} {D : va_G} {cy : Nat → ClassId} {sz : Nat} {G : sw_G} (hG : True)   {Q : Int32 → sw_I → sw_J → Prop} {x0 : Int32} {I : sw_I} {J : sw_J} (h : wp_X9_nextDrawn x0 I J Q) : Met l yX9_nextDrawn (Cond.code yX9_nextDrawn cX9_nextDrawn 1 (some .int) :: sw_T) rm_X9_nextDrawn (sw_Pc D cy sz [.int x0] G I J) (sw_Q D cy sz (sw_qi G Q)) 0 0 (fun q => sz ≤ q) :=
  sw_met (by decide) (fun q => by cases q) (Nat.le_of_ble_eq_true rfl) rfl (t_X9_nextDrawn hG  h)
-- X9_ofFloors
abbrev rm_X9_ofFloors : Room := { frames := 0, cells := 0, slots := 0, locals := 0 }
def wp_X9_ofFloors (x1 : Int32) (I : sw_I) (J : sw_J) (Q : Int32 → sw_I → sw_J → Prop) : Prop :=
  ∀ y_1 : Int32, y_1 = (I 3 0) → sw_if (0 < y_1) (¬ y_1 = 0 ∧ Q (((x1.toUInt32 >>> ((16 : Int32).toUInt32 &&& Int32.toUInt32 31)).toInt32) - ((x1.toUInt32 >>> ((16 : Int32).toUInt32 &&& Int32.toUInt32 31)).toInt32) / y_1 * y_1) I J) (Q (0 : Int32) I J)
set_option maxRecDepth 20000 in
theorem t_X9_ofFloors {l : Launch} {D : va_G} {cy : Nat → ClassId} {sz : Nat} {G : sw_G} (hG : sw_lay G)   {Q : Int32 → sw_I → sw_J → Prop} {x1 : Int32} {I : sw_I} {J : sw_J} (h : wp_X9_ofFloors x1 I J Q) : AW l D cy sz RX9 cX9_ofFloors 3 (some .int) false rm_X9_ofFloors 0 0 (sw_qi G Q) 0 0 G I J 0 [(0, .ref (sz + 0)), (1, .int x1)] [] := by
  unfold wp_X9_ofFloors at h
  refine aw_aload_n 0 dX9_ofFloors_0 rfl rfl ?_
  refine gf_X9_1 fl_X9_19 (lk0 hG) (lr0_1 hG) dX9_ofFloors_1 ?_
  refine gf_X1_0 fl_X9_229 (lk3 hG) dX9_ofFloors_4 ?_
  refine aw_topi (fun y_1 e_2 => ?_)
  have h := h y_1 e_2
  refine aw_istore_n (lv' := [(2, .int y_1), (0, .ref (sz + 0)), (1, .int x1)]) dX9_ofFloors_7 rfl (by decide) rfl ?_
  refine aw_iload_n 0 dX9_ofFloors_8 rfl rfl ?_
  refine aw_zle 21 dX9_ofFloors_9 (by decide) (fun c_3 => ?_) (fun c_3 => ?_)
  · have h := sw_if.f h c_3
    refine aw_iconst (v := 0) dX9_ofFloors_21 (by decide) ?_
    exact aw_iret rfl dX9_ofFloors_22 ⟨rfl, _, rfl, h⟩
  · have h := sw_if.t h c_3
    refine aw_iload_n 2 dX9_ofFloors_12 rfl rfl ?_
    refine aw_bipush (v := 16) dX9_ofFloors_13 (by decide) ?_
    refine aw_iushr dX9_ofFloors_15 ?_
    refine aw_iload_n 0 dX9_ofFloors_16 rfl rfl ?_
    obtain ⟨hz_4, h⟩ := h
    refine aw_irem dX9_ofFloors_17 hz_4 ?_
    refine aw_goto 22 dX9_ofFloors_18 (by decide) ?_
    exact aw_iret rfl dX9_ofFloors_22 ⟨rfl, _, rfl, h⟩
theorem M_X9_ofFloors {l : Launch} {D : va_G} {cy : Nat → ClassId} {sz : Nat} {G : sw_G} (hG : sw_lay G)   {Q : Int32 → sw_I → sw_J → Prop} {x1 : Int32} {I : sw_I} {J : sw_J} (h : wp_X9_ofFloors x1 I J Q) : Met l yX9_ofFloors (Cond.code yX9_ofFloors cX9_ofFloors 3 (some .int) :: sw_T) rm_X9_ofFloors (sw_Pc D cy sz [.ref (sz + 0), .int x1] G I J) (sw_Q D cy sz (sw_qi G Q)) 0 0 (fun q => sz ≤ q) :=
  sw_met (by decide) (fun q => by cases q) (Nat.le_of_ble_eq_true rfl) rfl (t_X9_ofFloors hG  h)
-- X9_asKind
abbrev rm_X9_asKind : Room := { frames := 0, cells := 0, slots := 0, locals := 0 }
def wp_X9_asKind (x0 : Int32) (x1 : Int32) (I : sw_I) (J : sw_J) (Q : Int32 → sw_I → sw_J → Prop) : Prop :=
  sw_if (x0 = 0) (Q x1.toInt8.toInt32 I J) (sw_if (x0 = (1 : Int32)) (Q x1.toInt16.toInt32 I J) (Q x1 I J))
set_option maxRecDepth 20000 in
theorem t_X9_asKind {l : Launch} {D : va_G} {cy : Nat → ClassId} {sz : Nat} {G : sw_G} (hG : True)   {Q : Int32 → sw_I → sw_J → Prop} {x0 : Int32} {x1 : Int32} {I : sw_I} {J : sw_J} (h : wp_X9_asKind x0 x1 I J Q) : AW l D cy sz RX9 cX9_asKind 2 (some .int) false rm_X9_asKind 0 0 (sw_qi G Q) 0 0 G I J 0 [(0, .int x0), (1, .int x1)] [] := by
  unfold wp_X9_asKind at h
  refine aw_iload_n 0 dX9_asKind_0 rfl rfl ?_
  refine aw_zne 7 dX9_asKind_1 (by decide) (fun c_1 => ?_) (fun c_1 => ?_)
  · have h := sw_if.f h c_1
    refine aw_iload_n 0 dX9_asKind_7 rfl rfl ?_
    refine aw_iconst (v := 1) dX9_asKind_8 (by decide) ?_
    refine aw_jne 17 dX9_asKind_9 (by decide) (fun c_2 => ?_) (fun c_2 => ?_)
    · have h := sw_if.f h c_2
      refine aw_iload_n 1 dX9_asKind_17 rfl rfl ?_
      exact aw_iret rfl dX9_asKind_18 ⟨rfl, _, rfl, h⟩
    · have h := sw_if.t h c_2
      refine aw_iload_n 1 dX9_asKind_12 rfl rfl ?_
      refine aw_i2s dX9_asKind_13 ?_
      refine aw_goto 18 dX9_asKind_14 (by decide) ?_
      exact aw_iret rfl dX9_asKind_18 ⟨rfl, _, rfl, h⟩
  · have h := sw_if.t h c_1
    refine aw_iload_n 1 dX9_asKind_4 rfl rfl ?_
    refine aw_i2b dX9_asKind_5 ?_
    exact aw_iret rfl dX9_asKind_6 ⟨rfl, _, rfl, h⟩
theorem M_X9_asKind {l : Launch} {D : va_G} {cy : Nat → ClassId} {sz : Nat} {G : sw_G} (hG : True)   {Q : Int32 → sw_I → sw_J → Prop} {x0 : Int32} {x1 : Int32} {I : sw_I} {J : sw_J} (h : wp_X9_asKind x0 x1 I J Q) : Met l yX9_asKind (Cond.code yX9_asKind cX9_asKind 2 (some .int) :: sw_T) rm_X9_asKind (sw_Pc D cy sz [.int x0, .int x1] G I J) (sw_Q D cy sz (sw_qi G Q)) 0 0 (fun q => sz ≤ q) :=
  sw_met (by decide) (fun q => by cases q) (Nat.le_of_ble_eq_true rfl) rfl (t_X9_asKind hG  h)
-- X9_tellPlan
abbrev rm_X9_tellPlan : Room := { frames := 2, cells := 0, slots := 0, locals := 42 }
def wB_X9_tellPlan_37  (K12 : Int32 → Int32 → sw_I → sw_J → Prop) (Q : sw_I → sw_J → Prop) (x2 : Int32) (x3 : Int32) (I : sw_I) (J : sw_J) : Prop :=
  wp_X6_cameFrom x2 I J (fun r_1 I_2 J_3 => ∀ y_4 : Int32, y_4 = x3 + (-1) → K12 r_1 y_4 I_2 J_3)
def wb_X9_tellPlan_12  (K12 : Int32 → Int32 → sw_I → sw_J → Prop) (Q : sw_I → sw_J → Prop) (x2 : Int32) (x3 : Int32) (I : sw_I) (J : sw_J) : Prop :=
  sw_if (x3 < 0) (∀ I_2 : sw_I, I_2 = sw_up I 0 10 (if (10 : Int32) < (I 120 5) then (10 : Int32) else (I 120 5)) → Q I_2 J) (sw_if (x3 < (10 : Int32)) (wp_X6_taken x2 I J (fun r_5 I_6 J_7 => vp_in x3 12 ∧ ∀ J_9 : sw_J, J_9 = sw_up J_7 118 x3.toNatClampNeg r_5.toInt64 → wB_X9_tellPlan_37  K12 Q x2 x3 I_6 J_9)) (wB_X9_tellPlan_37  K12 Q x2 x3 I J))
def wl_X9_tellPlan_12   (Q : sw_I → sw_J → Prop) : Nat → Int32 → Int32 → sw_I → sw_J → Prop
  | 0 => fun _ _ _ _ => False
  | n + 1 => fun x2 x3 I J => wb_X9_tellPlan_12  (wl_X9_tellPlan_12   Q n) Q x2 x3 I J
def wp_X9_tellPlan (x1 : Int32) (I : sw_I) (J : sw_J) (Q : sw_I → sw_J → Prop) : Prop :=
  ∀ y_1 : Int32, y_1 = (I 120 5) - (1 : Int32) → ∃ n_3 : Nat, wl_X9_tellPlan_12   Q n_3 x1 y_1 I J
set_option maxRecDepth 20000 in
theorem t_X9_tellPlan_37 {l : Launch} {D : va_G} {cy : Nat → ClassId} {sz : Nat} {G : sw_G} (hG : sw_lay G)   {Q : sw_I → sw_J → Prop} {K12 : Int32 → Int32 → sw_I → sw_J → Prop} (hK12 : ∀ (x2 : Int32) (x3 : Int32) (I : sw_I) (J : sw_J), K12 x2 x3 I J → AW l D cy sz RX9 cX9_tellPlan 4 none false rm_X9_tellPlan 0 0 (sw_qv G Q) 0 0 G I J 12 [(0, .ref (sz + 0)), (2, .int x2), (3, .int x3)] []) {x2 : Int32} {x3 : Int32} {I : sw_I} {J : sw_J} (h : wB_X9_tellPlan_37  K12 Q x2 x3 I J) : AW l D cy sz RX9 cX9_tellPlan 4 none false rm_X9_tellPlan 0 0 (sw_qv G Q) 0 0 G I J 37 [(0, .ref (sz + 0)), (2, .int x2), (3, .int x3)] [] := by
  unfold wB_X9_tellPlan_37 at h
  refine aw_aload_n 0 dX9_tellPlan_37 rfl rfl ?_
  refine gf_X9_12 fl_X9_76 (lk0 hG) (lr0_12 hG) dX9_tellPlan_38 ?_
  refine aw_iload_n 1 dX9_tellPlan_41 rfl rfl ?_
  refine aw_callV wv_X6_cameFrom (M_X6_cameFrom hG  h) ml_X9_369 rfl (by decide) (lk120 hG) rfl rfl (Nat.le_of_ble_eq_true rfl) ⟨rfl, rfl⟩ ⟨Nat.le_of_ble_eq_true rfl, Nat.le_of_ble_eq_true rfl⟩ ⟨Nat.le_refl _, Nat.le_refl _⟩ dX9_tellPlan_42 (aw_ki fun r_1 I_2 J_3 h => ?_)
  refine aw_istore_n (lv' := [(2, .int r_1), (0, .ref (sz + 0)), (3, .int x3)]) dX9_tellPlan_45 rfl (by decide) rfl ?_
  obtain ⟨y_4, e_5⟩ : ∃ q : Int32, q = x3 + (-1) := ⟨_, rfl⟩
  have h := h y_4 e_5
  refine aw_iinc (lv' := [(3, .int y_4), (2, .int r_1), (0, .ref (sz + 0))]) 2 dX9_tellPlan_46 rfl (by rw [e_5]; rfl) (by decide) rfl ?_
  refine aw_goto 12 dX9_tellPlan_49 (by decide) ?_
  refine aw_sub [2, 1, 0] rfl ?_
  exact hK12 r_1 y_4 I_2 J_3 h
set_option maxRecDepth 20000 in
theorem tb_X9_tellPlan_12 {l : Launch} {D : va_G} {cy : Nat → ClassId} {sz : Nat} {G : sw_G} (hG : sw_lay G)   {Q : sw_I → sw_J → Prop} {K12 : Int32 → Int32 → sw_I → sw_J → Prop} (hK12 : ∀ (x2 : Int32) (x3 : Int32) (I : sw_I) (J : sw_J), K12 x2 x3 I J → AW l D cy sz RX9 cX9_tellPlan 4 none false rm_X9_tellPlan 0 0 (sw_qv G Q) 0 0 G I J 12 [(0, .ref (sz + 0)), (2, .int x2), (3, .int x3)] []) {x2 : Int32} {x3 : Int32} {I : sw_I} {J : sw_J} (h : wb_X9_tellPlan_12  K12 Q x2 x3 I J) : AW l D cy sz RX9 cX9_tellPlan 4 none false rm_X9_tellPlan 0 0 (sw_qv G Q) 0 0 G I J 12 [(0, .ref (sz + 0)), (2, .int x2), (3, .int x3)] [] := by
  unfold wb_X9_tellPlan_12 at h
  refine aw_iload_n 2 dX9_tellPlan_12 rfl rfl ?_
  refine aw_zlt 52 dX9_tellPlan_13 (by decide) (fun c_1 => ?_) (fun c_1 => ?_)
  · have h := sw_if.t h c_1
    refine aw_aload_n 0 dX9_tellPlan_52 rfl rfl ?_
    refine aw_aload_n 0 dX9_tellPlan_53 rfl rfl ?_
    refine gf_X9_12 fl_X9_76 (lk0 hG) (lr0_12 hG) dX9_tellPlan_54 ?_
    refine gf_X6_5 fl_X9_301 (lk120 hG) dX9_tellPlan_57 ?_
    refine aw_bipush (v := 10) dX9_tellPlan_60 (by decide) ?_
    refine aw_mmin mm_X9_372 wm_min (Nat.le_of_ble_eq_true rfl) (Nat.le_of_ble_eq_true rfl) ⟨Nat.le_refl _, Nat.le_refl _⟩ dX9_tellPlan_62 ?_
    refine pf_X9_10 fl_X9_62 (lk0 hG) dX9_tellPlan_65 (aw_nameI fun I_2 e_3 => ?_)
    have h := h I_2 e_3
    exact aw_vret rfl dX9_tellPlan_68 ⟨rfl, rfl, h⟩
  · have h := sw_if.f h c_1
    refine aw_iload_n 2 dX9_tellPlan_16 rfl rfl ?_
    refine aw_bipush (v := 10) dX9_tellPlan_17 (by decide) ?_
    refine aw_jge 37 dX9_tellPlan_19 (by decide) (fun c_4 => ?_) (fun c_4 => ?_)
    · have h := sw_if.f h c_4
      refine aw_sub [0, 1, 2] rfl ?_
      exact t_X9_tellPlan_37 hG  hK12 h
    · have h := sw_if.t h c_4
      refine aw_aload_n 0 dX9_tellPlan_22 rfl rfl ?_
      refine gf_X9_9 fl_X9_59 (lk0 hG) (lr0_9 hG) dX9_tellPlan_23 ?_
      refine aw_iload_n 2 dX9_tellPlan_26 rfl rfl ?_
      refine aw_aload_n 0 dX9_tellPlan_27 rfl rfl ?_
      refine gf_X9_12 fl_X9_76 (lk0 hG) (lr0_12 hG) dX9_tellPlan_28 ?_
      refine aw_iload_n 1 dX9_tellPlan_31 rfl rfl ?_
      refine aw_callV wv_X6_taken (M_X6_taken hG  h) ml_X9_366 rfl (by decide) (lk120 hG) rfl rfl (Nat.le_of_ble_eq_true rfl) ⟨rfl, rfl⟩ ⟨Nat.le_of_ble_eq_true rfl, Nat.le_of_ble_eq_true rfl⟩ ⟨Nat.le_refl _, Nat.le_refl _⟩ dX9_tellPlan_32 (aw_ki fun r_5 I_6 J_7 h => ?_)
      refine aw_i2l dX9_tellPlan_35 ?_
      obtain ⟨hi_8, h⟩ := h
      refine aw_lst dX9_tellPlan_36 (lk118 hG) (ln118 hG) hi_8 (aw_nameJ fun J_9 e_10 => ?_)
      have h := h J_9 e_10
      refine aw_sub [0, 1, 2] rfl ?_
      exact t_X9_tellPlan_37 hG  hK12 h
set_option maxRecDepth 20000 in
theorem tl_X9_tellPlan_12 {l : Launch} {D : va_G} {cy : Nat → ClassId} {sz : Nat} {G : sw_G} (hG : sw_lay G)   {Q : sw_I → sw_J → Prop} : ∀ (n : Nat) (x2 : Int32) (x3 : Int32) (I : sw_I) (J : sw_J), wl_X9_tellPlan_12   Q n x2 x3 I J → AW l D cy sz RX9 cX9_tellPlan 4 none false rm_X9_tellPlan 0 0 (sw_qv G Q) 0 0 G I J 12 [(0, .ref (sz + 0)), (2, .int x2), (3, .int x3)] [] := by
  intro n
  induction n with
  | zero => intro x2 x3 I J h; exact False.elim h
  | succ n ih => intro x2 x3 I J h; exact tb_X9_tellPlan_12 hG  ih h
set_option maxRecDepth 20000 in
theorem t_X9_tellPlan {l : Launch} {D : va_G} {cy : Nat → ClassId} {sz : Nat} {G : sw_G} (hG : sw_lay G)   {Q : sw_I → sw_J → Prop} {x1 : Int32} {I : sw_I} {J : sw_J} (h : wp_X9_tellPlan x1 I J Q) : AW l D cy sz RX9 cX9_tellPlan 4 none false rm_X9_tellPlan 0 0 (sw_qv G Q) 0 0 G I J 0 [(0, .ref (sz + 0)), (1, .int x1)] [] := by
  unfold wp_X9_tellPlan at h
  refine aw_iload_n 1 dX9_tellPlan_0 rfl rfl ?_
  refine aw_istore_n (lv' := [(2, .int x1), (0, .ref (sz + 0)), (1, .int x1)]) dX9_tellPlan_1 rfl (by decide) rfl ?_
  refine aw_aload_n 1 dX9_tellPlan_2 rfl rfl ?_
  refine gf_X9_12 fl_X9_76 (lk0 hG) (lr0_12 hG) dX9_tellPlan_3 ?_
  refine gf_X6_5 fl_X9_301 (lk120 hG) dX9_tellPlan_6 ?_
  refine aw_iconst (v := 1) dX9_tellPlan_9 (by decide) ?_
  refine aw_isub dX9_tellPlan_10 ?_
  refine aw_topi (fun y_1 e_2 => ?_)
  have h := h y_1 e_2
  refine aw_istore_n (lv' := [(3, .int y_1), (2, .int x1), (0, .ref (sz + 0)), (1, .int x1)]) dX9_tellPlan_11 rfl (by decide) rfl ?_
  refine aw_sub [2, 1, 0] rfl ?_
  obtain ⟨n_3, h⟩ := h
  exact tl_X9_tellPlan_12 hG   n_3 x1 y_1 I J h
theorem M_X9_tellPlan {l : Launch} {D : va_G} {cy : Nat → ClassId} {sz : Nat} {G : sw_G} (hG : sw_lay G)   {Q : sw_I → sw_J → Prop} {x1 : Int32} {I : sw_I} {J : sw_J} (h : wp_X9_tellPlan x1 I J Q) : Met l yX9_tellPlan (Cond.code yX9_tellPlan cX9_tellPlan 4 none :: sw_T) rm_X9_tellPlan (sw_Pc D cy sz [.ref (sz + 0), .int x1] G I J) (sw_Q D cy sz (sw_qv G Q)) 0 0 (fun q => sz ≤ q) :=
  sw_met (by decide) (fun q => by cases q) (Nat.le_of_ble_eq_true rfl) rfl (t_X9_tellPlan hG  h)
-- X9_addChance
abbrev rm_X9_addChance : Room := { frames := 0, cells := 0, slots := 0, locals := 0 }
def wp_X9_addChance (x1 : Int32) (w2 : Int64) (I : sw_I) (J : sw_J) (Q : sw_I → sw_J → Prop) : Prop :=
  sw_if (x1 < 0) (Q I J) (sw_if (x1 < (9 : Int32)) (vp_in x1 9 ∧ vp_in x1 9 ∧ ∀ J_5 : sw_J, J_5 = sw_up J 117 x1.toNatClampNeg ((J 117 x1.toNatClampNeg) + w2) → Q I J_5) (Q I J))
set_option maxRecDepth 20000 in
theorem t_X9_addChance {l : Launch} {D : va_G} {cy : Nat → ClassId} {sz : Nat} {G : sw_G} (hG : sw_lay G)   {Q : sw_I → sw_J → Prop} {x1 : Int32} {w2 : Int64} {I : sw_I} {J : sw_J} (h : wp_X9_addChance x1 w2 I J Q) : AW l D cy sz RX9 cX9_addChance 4 none false rm_X9_addChance 0 0 (sw_qv G Q) 0 0 G I J 0 [(0, .ref (sz + 0)), (1, .int x1), (2, .long w2)] [] := by
  unfold wp_X9_addChance at h
  refine aw_iload_n 1 dX9_addChance_0 rfl rfl ?_
  refine aw_zlt 20 dX9_addChance_1 (by decide) (fun c_1 => ?_) (fun c_1 => ?_)
  · have h := sw_if.t h c_1
    exact aw_vret rfl dX9_addChance_20 ⟨rfl, rfl, h⟩
  · have h := sw_if.f h c_1
    refine aw_iload_n 1 dX9_addChance_4 rfl rfl ?_
    refine aw_bipush (v := 9) dX9_addChance_5 (by decide) ?_
    refine aw_jge 20 dX9_addChance_7 (by decide) (fun c_2 => ?_) (fun c_2 => ?_)
    · have h := sw_if.f h c_2
      exact aw_vret rfl dX9_addChance_20 ⟨rfl, rfl, h⟩
    · have h := sw_if.t h c_2
      refine aw_aload_n 0 dX9_addChance_10 rfl rfl ?_
      refine gf_X9_8 fl_X9_55 (lk0 hG) (lr0_8 hG) dX9_addChance_11 ?_
      refine aw_iload_n 1 dX9_addChance_14 rfl rfl ?_
      refine aw_dup2 dX9_addChance_15 rfl rfl ?_
      obtain ⟨hi_3, h⟩ := h
      refine aw_lld dX9_addChance_16 (lk117 hG) (ln117 hG) hi_3 ?_
      refine aw_lload_n 2 dX9_addChance_17 rfl rfl ?_
      refine aw_ladd dX9_addChance_18 ?_
      obtain ⟨hi_4, h⟩ := h
      refine aw_lst dX9_addChance_19 (lk117 hG) (ln117 hG) hi_4 (aw_nameJ fun J_5 e_6 => ?_)
      have h := h J_5 e_6
      exact aw_vret rfl dX9_addChance_20 ⟨rfl, rfl, h⟩
theorem M_X9_addChance {l : Launch} {D : va_G} {cy : Nat → ClassId} {sz : Nat} {G : sw_G} (hG : sw_lay G)   {Q : sw_I → sw_J → Prop} {x1 : Int32} {w2 : Int64} {I : sw_I} {J : sw_J} (h : wp_X9_addChance x1 w2 I J Q) : Met l yX9_addChance (Cond.code yX9_addChance cX9_addChance 4 none :: sw_T) rm_X9_addChance (sw_Pc D cy sz [.ref (sz + 0), .int x1, .long w2] G I J) (sw_Q D cy sz (sw_qv G Q)) 0 0 (fun q => sz ≤ q) :=
  sw_met (by decide) (fun q => by cases q) (Nat.le_of_ble_eq_true rfl) rfl (t_X9_addChance hG  h)
-- X9_weightOf
abbrev rm_X9_weightOf : Room := { frames := 1, cells := 0, slots := 0, locals := 21 }
def wB_X9_weightOf_119  (K5 : Int32 → Int64 → Int32 → sw_I → sw_J → Prop) (Q : Int64 → sw_I → sw_J → Prop) (x1 : Int32) (w2 : Int64) (x4 : Int32) (I : sw_I) (J : sw_J) : Prop :=
  ∀ y_1 : Int32, y_1 = x4 + 1 → K5 x1 w2 y_1 I J
def wB_X9_weightOf_118  (K5 : Int32 → Int64 → Int32 → sw_I → sw_J → Prop) (Q : Int64 → sw_I → sw_J → Prop) (x1 : Int32) (w2 : Int64) (x4 : Int32) (s1 : Int32) (s2 : Int32) (I : sw_I) (J : sw_J) : Prop :=
  vp_in s1 10 ∧ ∀ I_2 : sw_I, I_2 = sw_up I 19 s1.toNatClampNeg s2 → wB_X9_weightOf_119  K5 Q x1 w2 x4 I_2 J
def wB_X9_weightOf_79  (K5 : Int32 → Int64 → Int32 → sw_I → sw_J → Prop) (Q : Int64 → sw_I → sw_J → Prop) (x1 : Int32) (x4 : Int32) (x5 : Int32) (t0 : Int64) (t1 : Int64) (I : sw_I) (J : sw_J) : Prop :=
  ∀ y_1 : Int64, y_1 = t0 * t1 → sw_if (x5 = 0) (vp_in x4 10 ∧ wB_X9_weightOf_118  K5 Q x1 y_1 x4 x4 (I 15 x4.toNatClampNeg) I J) (vp_in x4 10 ∧ wB_X9_weightOf_118  K5 Q x1 y_1 x4 x4 (I 4 x4.toNatClampNeg) I J)
def wB_X9_weightOf_43  (K5 : Int32 → Int64 → Int32 → sw_I → sw_J → Prop) (Q : Int64 → sw_I → sw_J → Prop) (x1 : Int32) (w2 : Int64) (x4 : Int32) (s0 : Int32) (I : sw_I) (J : sw_J) : Prop :=
  sw_if (s0 = 0) (vp_in x4 10 ∧ wB_X9_weightOf_79  K5 Q x1 x4 s0 w2 (((10 : Int32) - (I 5 x4.toNatClampNeg)).toInt64) I J) (vp_in x4 10 ∧ wB_X9_weightOf_79  K5 Q x1 x4 s0 w2 ((I 5 x4.toNatClampNeg).toInt64) I J)
def wb_X9_weightOf_5  (K5 : Int32 → Int64 → Int32 → sw_I → sw_J → Prop) (Q : Int64 → sw_I → sw_J → Prop) (x1 : Int32) (w2 : Int64) (x4 : Int32) (I : sw_I) (J : sw_J) : Prop :=
  sw_if (x4 < (I 3 2)) (wp_X3_isIn 13 x4 I J (fun r_2 I_3 J_4 => sw_if (r_2 = 0) (wB_X9_weightOf_119  K5 Q x1 w2 x4 I_3 J_4) (sw_if (((x1 >>> (x4 &&& 31)) &&& (1 : Int32)) = 0) (wB_X9_weightOf_43  K5 Q x1 w2 x4 0 I_3 J_4) (wB_X9_weightOf_43  K5 Q x1 w2 x4 1 I_3 J_4)))) (Q w2 I J)
def wl_X9_weightOf_5   (Q : Int64 → sw_I → sw_J → Prop) : Nat → Int32 → Int64 → Int32 → sw_I → sw_J → Prop
  | 0 => fun _ _ _ _ _ => False
  | n + 1 => fun x1 w2 x4 I J => wb_X9_weightOf_5  (wl_X9_weightOf_5   Q n) Q x1 w2 x4 I J
def wp_X9_weightOf (x1 : Int32) (I : sw_I) (J : sw_J) (Q : Int64 → sw_I → sw_J → Prop) : Prop :=
  ∃ n_1 : Nat, wl_X9_weightOf_5   Q n_1 x1 1 0 I J
set_option maxRecDepth 20000 in
theorem t_X9_weightOf_119 {l : Launch} {D : va_G} {cy : Nat → ClassId} {sz : Nat} {G : sw_G} (hG : sw_lay G)   {Q : Int64 → sw_I → sw_J → Prop} {K5 : Int32 → Int64 → Int32 → sw_I → sw_J → Prop} (hK5 : ∀ (x1 : Int32) (w2 : Int64) (x4 : Int32) (I : sw_I) (J : sw_J), K5 x1 w2 x4 I J → AW l D cy sz RX9 cX9_weightOf 6 (some .long) false rm_X9_weightOf 0 0 (sw_ql G Q) 0 0 G I J 5 [(0, .ref (sz + 0)), (1, .int x1), (2, .long w2), (4, .int x4)] []) {x1 : Int32} {w2 : Int64} {x4 : Int32} {I : sw_I} {J : sw_J} (h : wB_X9_weightOf_119  K5 Q x1 w2 x4 I J) : AW l D cy sz RX9 cX9_weightOf 6 (some .long) false rm_X9_weightOf 0 0 (sw_ql G Q) 0 0 G I J 119 [(0, .ref (sz + 0)), (1, .int x1), (2, .long w2), (4, .int x4)] [] := by
  unfold wB_X9_weightOf_119 at h
  obtain ⟨y_1, e_2⟩ : ∃ q : Int32, q = x4 + 1 := ⟨_, rfl⟩
  have h := h y_1 e_2
  refine aw_iinc (lv' := [(4, .int y_1), (0, .ref (sz + 0)), (1, .int x1), (2, .long w2)]) 3 dX9_weightOf_119 rfl (by rw [e_2]; rfl) (by decide) rfl ?_
  refine aw_goto 5 dX9_weightOf_122 (by decide) ?_
  refine aw_sub [1, 2, 3, 0] rfl ?_
  exact hK5 x1 w2 y_1 I J h
set_option maxRecDepth 20000 in
theorem t_X9_weightOf_118 {l : Launch} {D : va_G} {cy : Nat → ClassId} {sz : Nat} {G : sw_G} (hG : sw_lay G)   {Q : Int64 → sw_I → sw_J → Prop} {K5 : Int32 → Int64 → Int32 → sw_I → sw_J → Prop} (hK5 : ∀ (x1 : Int32) (w2 : Int64) (x4 : Int32) (I : sw_I) (J : sw_J), K5 x1 w2 x4 I J → AW l D cy sz RX9 cX9_weightOf 6 (some .long) false rm_X9_weightOf 0 0 (sw_ql G Q) 0 0 G I J 5 [(0, .ref (sz + 0)), (1, .int x1), (2, .long w2), (4, .int x4)] []) {x1 : Int32} {w2 : Int64} {x4 : Int32} {s1 : Int32} {s2 : Int32} {I : sw_I} {J : sw_J} (h : wB_X9_weightOf_118  K5 Q x1 w2 x4 s1 s2 I J) : AW l D cy sz RX9 cX9_weightOf 6 (some .long) false rm_X9_weightOf 0 0 (sw_ql G Q) 0 0 G I J 118 [(0, .ref (sz + 0)), (1, .int x1), (2, .long w2), (4, .int x4)] [.int s2, .int s1, .ref (sz + 19)] := by
  unfold wB_X9_weightOf_118 at h
  obtain ⟨hi_1, h⟩ := h
  refine aw_ist dX9_weightOf_118 (lk19 hG) (ln19 hG) hi_1 (aw_nameI fun I_2 e_3 => ?_)
  have h := h I_2 e_3
  refine aw_sub [0, 1, 2, 3] rfl ?_
  exact t_X9_weightOf_119 hG  hK5 h
set_option maxRecDepth 20000 in
theorem t_X9_weightOf_79 {l : Launch} {D : va_G} {cy : Nat → ClassId} {sz : Nat} {G : sw_G} (hG : sw_lay G)   {Q : Int64 → sw_I → sw_J → Prop} {K5 : Int32 → Int64 → Int32 → sw_I → sw_J → Prop} (hK5 : ∀ (x1 : Int32) (w2 : Int64) (x4 : Int32) (I : sw_I) (J : sw_J), K5 x1 w2 x4 I J → AW l D cy sz RX9 cX9_weightOf 6 (some .long) false rm_X9_weightOf 0 0 (sw_ql G Q) 0 0 G I J 5 [(0, .ref (sz + 0)), (1, .int x1), (2, .long w2), (4, .int x4)] []) {x1 : Int32} {x4 : Int32} {x5 : Int32} {t0 : Int64} {t1 : Int64} {I : sw_I} {J : sw_J} (h : wB_X9_weightOf_79  K5 Q x1 x4 x5 t0 t1 I J) : AW l D cy sz RX9 cX9_weightOf 6 (some .long) false rm_X9_weightOf 0 0 (sw_ql G Q) 0 0 G I J 79 [(0, .ref (sz + 0)), (1, .int x1), (4, .int x4), (5, .int x5)] [.long t1, .long t0] := by
  unfold wB_X9_weightOf_79 at h
  refine aw_lmul dX9_weightOf_79 ?_
  refine aw_topl (fun y_1 e_2 => ?_)
  have h := h y_1 e_2
  refine aw_lstore_n (lv' := [(2, .long y_1), (0, .ref (sz + 0)), (1, .int x1), (4, .int x4), (5, .int x5)]) dX9_weightOf_80 rfl (by decide) rfl ?_
  refine aw_aload_n 1 dX9_weightOf_81 rfl rfl ?_
  refine gf_X9_3 fl_X9_30 (lk0 hG) (lr0_3 hG) dX9_weightOf_82 ?_
  refine gf_X3_1 fl_X9_133 (lk17 hG) (lr17_1 hG) dX9_weightOf_85 ?_
  refine aw_iload 3 dX9_weightOf_88 rfl ?_
  refine aw_iload 4 dX9_weightOf_90 rfl ?_
  refine aw_zeq 108 dX9_weightOf_92 (by decide) (fun c_3 => ?_) (fun c_3 => ?_)
  · have h := sw_if.t h c_3
    refine aw_aload_n 1 dX9_weightOf_108 rfl rfl ?_
    refine gf_X9_2 fl_X9_26 (lk0 hG) (lr0_2 hG) dX9_weightOf_109 ?_
    refine gf_X3_1 fl_X9_133 (lk13 hG) (lr13_1 hG) dX9_weightOf_112 ?_
    refine aw_iload 3 dX9_weightOf_115 rfl ?_
    obtain ⟨hi_4, h⟩ := h
    refine aw_ild dX9_weightOf_117 (lk15 hG) (ln15 hG) hi_4 ?_
    refine aw_sub [1, 2, 0, 3] rfl ?_
    exact t_X9_weightOf_118 hG  hK5 h
  · have h := sw_if.f h c_3
    refine aw_aload_n 1 dX9_weightOf_95 rfl rfl ?_
    refine gf_X9_1 fl_X9_19 (lk0 hG) (lr0_1 hG) dX9_weightOf_96 ?_
    refine gf_X1_3 fl_X9_129 (lk3 hG) (lr3_3 hG) dX9_weightOf_99 ?_
    refine aw_iload 3 dX9_weightOf_102 rfl ?_
    obtain ⟨hi_5, h⟩ := h
    refine aw_ild dX9_weightOf_104 (lk4 hG) (ln4 hG) hi_5 ?_
    refine aw_goto 118 dX9_weightOf_105 (by decide) ?_
    refine aw_sub [1, 2, 0, 3] rfl ?_
    exact t_X9_weightOf_118 hG  hK5 h
set_option maxRecDepth 20000 in
theorem t_X9_weightOf_43 {l : Launch} {D : va_G} {cy : Nat → ClassId} {sz : Nat} {G : sw_G} (hG : sw_lay G)   {Q : Int64 → sw_I → sw_J → Prop} {K5 : Int32 → Int64 → Int32 → sw_I → sw_J → Prop} (hK5 : ∀ (x1 : Int32) (w2 : Int64) (x4 : Int32) (I : sw_I) (J : sw_J), K5 x1 w2 x4 I J → AW l D cy sz RX9 cX9_weightOf 6 (some .long) false rm_X9_weightOf 0 0 (sw_ql G Q) 0 0 G I J 5 [(0, .ref (sz + 0)), (1, .int x1), (2, .long w2), (4, .int x4)] []) {x1 : Int32} {w2 : Int64} {x4 : Int32} {s0 : Int32} {I : sw_I} {J : sw_J} (h : wB_X9_weightOf_43  K5 Q x1 w2 x4 s0 I J) : AW l D cy sz RX9 cX9_weightOf 6 (some .long) false rm_X9_weightOf 0 0 (sw_ql G Q) 0 0 G I J 43 [(0, .ref (sz + 0)), (1, .int x1), (2, .long w2), (4, .int x4)] [.int s0] := by
  unfold wB_X9_weightOf_43 at h
  refine aw_istore (lv' := [(5, .int s0), (0, .ref (sz + 0)), (1, .int x1), (2, .long w2), (4, .int x4)]) dX9_weightOf_43 (by decide) rfl ?_
  refine aw_lload_n 3 dX9_weightOf_45 rfl rfl ?_
  refine aw_iload 0 dX9_weightOf_46 rfl ?_
  refine aw_zeq 65 dX9_weightOf_48 (by decide) (fun c_1 => ?_) (fun c_1 => ?_)
  · have h := sw_if.t h c_1
    refine aw_bipush (v := 10) dX9_weightOf_65 (by decide) ?_
    refine aw_aload_n 1 dX9_weightOf_67 rfl rfl ?_
    refine gf_X9_1 fl_X9_19 (lk0 hG) (lr0_1 hG) dX9_weightOf_68 ?_
    refine gf_X1_4 fl_X9_136 (lk3 hG) (lr3_4 hG) dX9_weightOf_71 ?_
    refine aw_iload 4 dX9_weightOf_74 rfl ?_
    obtain ⟨hi_2, h⟩ := h
    refine aw_ild dX9_weightOf_76 (lk5 hG) (ln5 hG) hi_2 ?_
    refine aw_isub dX9_weightOf_77 ?_
    refine aw_i2l dX9_weightOf_78 ?_
    refine aw_sub [1, 2, 4, 0] rfl ?_
    exact t_X9_weightOf_79 hG  hK5 h
  · have h := sw_if.f h c_1
    refine aw_aload_n 1 dX9_weightOf_51 rfl rfl ?_
    refine gf_X9_1 fl_X9_19 (lk0 hG) (lr0_1 hG) dX9_weightOf_52 ?_
    refine gf_X1_4 fl_X9_136 (lk3 hG) (lr3_4 hG) dX9_weightOf_55 ?_
    refine aw_iload 4 dX9_weightOf_58 rfl ?_
    obtain ⟨hi_3, h⟩ := h
    refine aw_ild dX9_weightOf_60 (lk5 hG) (ln5 hG) hi_3 ?_
    refine aw_i2l dX9_weightOf_61 ?_
    refine aw_goto 79 dX9_weightOf_62 (by decide) ?_
    refine aw_sub [1, 2, 4, 0] rfl ?_
    exact t_X9_weightOf_79 hG  hK5 h
set_option maxRecDepth 20000 in
theorem tb_X9_weightOf_5 {l : Launch} {D : va_G} {cy : Nat → ClassId} {sz : Nat} {G : sw_G} (hG : sw_lay G)   {Q : Int64 → sw_I → sw_J → Prop} {K5 : Int32 → Int64 → Int32 → sw_I → sw_J → Prop} (hK5 : ∀ (x1 : Int32) (w2 : Int64) (x4 : Int32) (I : sw_I) (J : sw_J), K5 x1 w2 x4 I J → AW l D cy sz RX9 cX9_weightOf 6 (some .long) false rm_X9_weightOf 0 0 (sw_ql G Q) 0 0 G I J 5 [(0, .ref (sz + 0)), (1, .int x1), (2, .long w2), (4, .int x4)] []) {x1 : Int32} {w2 : Int64} {x4 : Int32} {I : sw_I} {J : sw_J} (h : wb_X9_weightOf_5  K5 Q x1 w2 x4 I J) : AW l D cy sz RX9 cX9_weightOf 6 (some .long) false rm_X9_weightOf 0 0 (sw_ql G Q) 0 0 G I J 5 [(0, .ref (sz + 0)), (1, .int x1), (2, .long w2), (4, .int x4)] [] := by
  unfold wb_X9_weightOf_5 at h
  refine aw_iload 3 dX9_weightOf_5 rfl ?_
  refine aw_aload_n 0 dX9_weightOf_7 rfl rfl ?_
  refine gf_X9_1 fl_X9_19 (lk0 hG) (lr0_1 hG) dX9_weightOf_8 ?_
  refine gf_X1_2 fl_X9_154 (lk3 hG) dX9_weightOf_11 ?_
  refine aw_jge 125 dX9_weightOf_14 (by decide) (fun c_1 => ?_) (fun c_1 => ?_)
  · have h := sw_if.f h c_1
    refine aw_lload_n 2 dX9_weightOf_125 rfl rfl ?_
    exact aw_lret rfl dX9_weightOf_126 ⟨rfl, _, rfl, h⟩
  · have h := sw_if.t h c_1
    refine aw_aload_n 0 dX9_weightOf_17 rfl rfl ?_
    refine gf_X9_2 fl_X9_26 (lk0 hG) (lr0_2 hG) dX9_weightOf_18 ?_
    refine aw_iload 3 dX9_weightOf_21 rfl ?_
    refine aw_callV wv_X3_isIn (M_X3_isIn trivial (lm13 hG) h) ml_X9_185 rfl (by decide) (lk13 hG) rfl rfl (Nat.le_of_ble_eq_true rfl) ⟨rfl, rfl⟩ ⟨Nat.le_of_ble_eq_true rfl, Nat.le_of_ble_eq_true rfl⟩ ⟨Nat.le_refl _, Nat.le_refl _⟩ dX9_weightOf_23 (aw_ki fun r_2 I_3 J_4 h => ?_)
    refine aw_zeq 119 dX9_weightOf_26 (by decide) (fun c_5 => ?_) (fun c_5 => ?_)
    · have h := sw_if.t h c_5
      refine aw_sub [0, 1, 2, 3] rfl ?_
      exact t_X9_weightOf_119 hG  hK5 h
    · have h := sw_if.f h c_5
      refine aw_iload_n 1 dX9_weightOf_29 rfl rfl ?_
      refine aw_iload 3 dX9_weightOf_30 rfl ?_
      refine aw_ishr dX9_weightOf_32 ?_
      refine aw_iconst (v := 1) dX9_weightOf_33 (by decide) ?_
      refine aw_iand dX9_weightOf_34 ?_
      refine aw_zeq 42 dX9_weightOf_35 (by decide) (fun c_6 => ?_) (fun c_6 => ?_)
      · have h := sw_if.t h c_6
        refine aw_iconst (v := 0) dX9_weightOf_42 (by decide) ?_
        refine aw_sub [0, 1, 2, 3] rfl ?_
        exact t_X9_weightOf_43 hG  hK5 h
      · have h := sw_if.f h c_6
        refine aw_iconst (v := 1) dX9_weightOf_38 (by decide) ?_
        refine aw_goto 43 dX9_weightOf_39 (by decide) ?_
        refine aw_sub [0, 1, 2, 3] rfl ?_
        exact t_X9_weightOf_43 hG  hK5 h
set_option maxRecDepth 20000 in
theorem tl_X9_weightOf_5 {l : Launch} {D : va_G} {cy : Nat → ClassId} {sz : Nat} {G : sw_G} (hG : sw_lay G)   {Q : Int64 → sw_I → sw_J → Prop} : ∀ (n : Nat) (x1 : Int32) (w2 : Int64) (x4 : Int32) (I : sw_I) (J : sw_J), wl_X9_weightOf_5   Q n x1 w2 x4 I J → AW l D cy sz RX9 cX9_weightOf 6 (some .long) false rm_X9_weightOf 0 0 (sw_ql G Q) 0 0 G I J 5 [(0, .ref (sz + 0)), (1, .int x1), (2, .long w2), (4, .int x4)] [] := by
  intro n
  induction n with
  | zero => intro x1 w2 x4 I J h; exact False.elim h
  | succ n ih => intro x1 w2 x4 I J h; exact tb_X9_weightOf_5 hG  ih h
set_option maxRecDepth 20000 in
theorem t_X9_weightOf {l : Launch} {D : va_G} {cy : Nat → ClassId} {sz : Nat} {G : sw_G} (hG : sw_lay G)   {Q : Int64 → sw_I → sw_J → Prop} {x1 : Int32} {I : sw_I} {J : sw_J} (h : wp_X9_weightOf x1 I J Q) : AW l D cy sz RX9 cX9_weightOf 6 (some .long) false rm_X9_weightOf 0 0 (sw_ql G Q) 0 0 G I J 0 [(0, .ref (sz + 0)), (1, .int x1)] [] := by
  unfold wp_X9_weightOf at h
  refine aw_lconst (v := 1) dX9_weightOf_0 (by decide) ?_
  refine aw_lstore_n (lv' := [(2, .long 1), (0, .ref (sz + 0)), (1, .int x1)]) dX9_weightOf_1 rfl (by decide) rfl ?_
  refine aw_iconst (v := 0) dX9_weightOf_2 (by decide) ?_
  refine aw_istore (lv' := [(4, .int 0), (2, .long 1), (0, .ref (sz + 0)), (1, .int x1)]) dX9_weightOf_3 (by decide) rfl ?_
  refine aw_sub [2, 3, 1, 0] rfl ?_
  obtain ⟨n_1, h⟩ := h
  exact tl_X9_weightOf_5 hG   n_1 x1 1 0 I J h
theorem M_X9_weightOf {l : Launch} {D : va_G} {cy : Nat → ClassId} {sz : Nat} {G : sw_G} (hG : sw_lay G)   {Q : Int64 → sw_I → sw_J → Prop} {x1 : Int32} {I : sw_I} {J : sw_J} (h : wp_X9_weightOf x1 I J Q) : Met l yX9_weightOf (Cond.code yX9_weightOf cX9_weightOf 6 (some .long) :: sw_T) rm_X9_weightOf (sw_Pc D cy sz [.ref (sz + 0), .int x1] G I J) (sw_Q D cy sz (sw_ql G Q)) 0 0 (fun q => sz ≤ q) :=
  sw_met (by decide) (fun q => by cases q) (Nat.le_of_ble_eq_true rfl) rfl (t_X9_weightOf hG  h)
-- X10_thrown
abbrev rm_X10_thrown : Room := { frames := 0, cells := 0, slots := 0, locals := 0 }
def wp_X10_thrown  (I : sw_I) (J : sw_J) (Q : Int32 → sw_I → sw_J → Prop) : Prop :=
  Q (I 140 0) I J
set_option maxRecDepth 20000 in
theorem t_X10_thrown {l : Launch} {D : va_G} {cy : Nat → ClassId} {sz : Nat} {G : sw_G} (hG : sw_lay G)   {Q : Int32 → sw_I → sw_J → Prop}  {I : sw_I} {J : sw_J} (h : wp_X10_thrown  I J Q) : AW l D cy sz RX10 cX10_thrown 1 (some .int) false rm_X10_thrown 0 0 (sw_qi G Q) 0 0 G I J 0 [(0, .ref (sz + 140))] [] := by
  unfold wp_X10_thrown at h
  refine aw_aload_n 0 dX10_thrown_0 rfl rfl ?_
  refine gf_X10_0 fl_X10_3 (lk140 hG) dX10_thrown_1 ?_
  exact aw_iret rfl dX10_thrown_4 ⟨rfl, _, rfl, h⟩
theorem M_X10_thrown {l : Launch} {D : va_G} {cy : Nat → ClassId} {sz : Nat} {G : sw_G} (hG : sw_lay G)   {Q : Int32 → sw_I → sw_J → Prop}  {I : sw_I} {J : sw_J} (h : wp_X10_thrown  I J Q) : Met l yX10_thrown (Cond.code yX10_thrown cX10_thrown 1 (some .int) :: sw_T) rm_X10_thrown (sw_Pc D cy sz [.ref (sz + 140)] G I J) (sw_Q D cy sz (sw_qi G Q)) 0 0 (fun q => sz ≤ q) :=
  sw_met (by decide) (fun q => by cases q) (Nat.le_of_ble_eq_true rfl) rfl (t_X10_thrown hG  h)
-- X10_refuse
abbrev rm_X10_refuse : Room := { frames := 0, cells := 0, slots := 0, locals := 0 }
def wp_X10_refuse  (I : sw_I) (J : sw_J) (Q : Int32 → sw_I → sw_J → Prop) : Prop :=
  ∀ I_1 : sw_I, I_1 = sw_up I 140 0 (1 : Int32) → Q (0 : Int32) I_1 J
set_option maxRecDepth 20000 in
theorem t_X10_refuse {l : Launch} {D : va_G} {cy : Nat → ClassId} {sz : Nat} {G : sw_G} (hG : sw_lay G)   {Q : Int32 → sw_I → sw_J → Prop}  {I : sw_I} {J : sw_J} (h : wp_X10_refuse  I J Q) : AW l D cy sz RX10 cX10_refuse 1 (some .int) false rm_X10_refuse 0 0 (sw_qi G Q) 0 0 G I J 0 [(0, .ref (sz + 140))] [] := by
  unfold wp_X10_refuse at h
  refine aw_aload_n 0 dX10_refuse_0 rfl rfl ?_
  refine aw_iconst (v := 1) dX10_refuse_1 (by decide) ?_
  refine pf_X10_0 fl_X10_3 (lk140 hG) dX10_refuse_2 (aw_nameI fun I_1 e_2 => ?_)
  have h := h I_1 e_2
  refine aw_iconst (v := 0) dX10_refuse_5 (by decide) ?_
  exact aw_iret rfl dX10_refuse_6 ⟨rfl, _, rfl, h⟩
theorem M_X10_refuse {l : Launch} {D : va_G} {cy : Nat → ClassId} {sz : Nat} {G : sw_G} (hG : sw_lay G)   {Q : Int32 → sw_I → sw_J → Prop}  {I : sw_I} {J : sw_J} (h : wp_X10_refuse  I J Q) : Met l yX10_refuse (Cond.code yX10_refuse cX10_refuse 1 (some .int) :: sw_T) rm_X10_refuse (sw_Pc D cy sz [.ref (sz + 140)] G I J) (sw_Q D cy sz (sw_qi G Q)) 0 0 (fun q => sz ≤ q) :=
  sw_met (by decide) (fun q => by cases q) (Nat.le_of_ble_eq_true rfl) rfl (t_X10_refuse hG  h)
-- X10_in
abbrev rm_X10_in : Room := { frames := 0, cells := 0, slots := 0, locals := 0 }
def wp_X10_in (w0 : Int64) (w2 : Int64) (w4 : Int64) (I : sw_I) (J : sw_J) (Q : Int32 → sw_I → sw_J → Prop) : Prop :=
  sw_if ((lg_cmp w0 w2) < 0) (Q 0 I J) (sw_if (0 < (lg_cmp w0 w4)) (Q 0 I J) (Q 1 I J))
set_option maxRecDepth 20000 in
theorem t_X10_in {l : Launch} {D : va_G} {cy : Nat → ClassId} {sz : Nat} {G : sw_G} (hG : True)   {Q : Int32 → sw_I → sw_J → Prop} {w0 : Int64} {w2 : Int64} {w4 : Int64} {I : sw_I} {J : sw_J} (h : wp_X10_in w0 w2 w4 I J Q) : AW l D cy sz RX10 cX10_in 6 (some .boolean) false rm_X10_in 0 0 (sw_qi G Q) 0 0 G I J 0 [(0, .long w0), (2, .long w2), (4, .long w4)] [] := by
  unfold wp_X10_in at h
  refine aw_lload_n 0 dX10_in_0 rfl rfl ?_
  refine aw_lload_n 1 dX10_in_1 rfl rfl ?_
  refine aw_lcmp dX10_in_2 ?_
  refine aw_zlt 17 dX10_in_3 (by decide) (fun c_1 => ?_) (fun c_1 => ?_)
  · have h := sw_if.t h c_1
    refine aw_iconst (v := 0) dX10_in_17 (by decide) ?_
    exact aw_zret rfl rfl dX10_in_18 ⟨rfl, _, rfl, h⟩
  · have h := sw_if.f h c_1
    refine aw_lload_n 0 dX10_in_6 rfl rfl ?_
    refine aw_lload 2 dX10_in_7 rfl ?_
    refine aw_lcmp dX10_in_9 ?_
    refine aw_zgt 17 dX10_in_10 (by decide) (fun c_2 => ?_) (fun c_2 => ?_)
    · have h := sw_if.t h c_2
      refine aw_iconst (v := 0) dX10_in_17 (by decide) ?_
      exact aw_zret rfl rfl dX10_in_18 ⟨rfl, _, rfl, h⟩
    · have h := sw_if.f h c_2
      refine aw_iconst (v := 1) dX10_in_13 (by decide) ?_
      refine aw_goto 18 dX10_in_14 (by decide) ?_
      exact aw_zret rfl rfl dX10_in_18 ⟨rfl, _, rfl, h⟩
theorem M_X10_in {l : Launch} {D : va_G} {cy : Nat → ClassId} {sz : Nat} {G : sw_G} (hG : True)   {Q : Int32 → sw_I → sw_J → Prop} {w0 : Int64} {w2 : Int64} {w4 : Int64} {I : sw_I} {J : sw_J} (h : wp_X10_in w0 w2 w4 I J Q) : Met l yX10_in (Cond.code yX10_in cX10_in 6 (some .boolean) :: sw_T) rm_X10_in (sw_Pc D cy sz [.long w0, .long w2, .long w4] G I J) (sw_Q D cy sz (sw_qi G Q)) 0 0 (fun q => sz ≤ q) :=
  sw_met (by decide) (fun q => by cases q) (Nat.le_of_ble_eq_true rfl) rfl (t_X10_in hG  h)
-- X10_has
abbrev rm_X10_has : Room := { frames := 0, cells := 0, slots := 0, locals := 0 }
def wp_X10_has (x0 : Int32) (x1 : Int32) (I : sw_I) (J : sw_J) (Q : Int32 → sw_I → sw_J → Prop) : Prop :=
  sw_if (((x0 >>> (x1 &&& 31)) &&& (1 : Int32)) = (1 : Int32)) (Q 1 I J) (Q 0 I J)
set_option maxRecDepth 20000 in
theorem t_X10_has {l : Launch} {D : va_G} {cy : Nat → ClassId} {sz : Nat} {G : sw_G} (hG : True)   {Q : Int32 → sw_I → sw_J → Prop} {x0 : Int32} {x1 : Int32} {I : sw_I} {J : sw_J} (h : wp_X10_has x0 x1 I J Q) : AW l D cy sz RX10 cX10_has 2 (some .boolean) false rm_X10_has 0 0 (sw_qi G Q) 0 0 G I J 0 [(0, .int x0), (1, .int x1)] [] := by
  unfold wp_X10_has at h
  refine aw_iload_n 0 dX10_has_0 rfl rfl ?_
  refine aw_iload_n 1 dX10_has_1 rfl rfl ?_
  refine aw_ishr dX10_has_2 ?_
  refine aw_iconst (v := 1) dX10_has_3 (by decide) ?_
  refine aw_iand dX10_has_4 ?_
  refine aw_iconst (v := 1) dX10_has_5 (by decide) ?_
  refine aw_jne 13 dX10_has_6 (by decide) (fun c_1 => ?_) (fun c_1 => ?_)
  · have h := sw_if.f h c_1
    refine aw_iconst (v := 0) dX10_has_13 (by decide) ?_
    exact aw_zret rfl rfl dX10_has_14 ⟨rfl, _, rfl, h⟩
  · have h := sw_if.t h c_1
    refine aw_iconst (v := 1) dX10_has_9 (by decide) ?_
    refine aw_goto 14 dX10_has_10 (by decide) ?_
    exact aw_zret rfl rfl dX10_has_14 ⟨rfl, _, rfl, h⟩
theorem M_X10_has {l : Launch} {D : va_G} {cy : Nat → ClassId} {sz : Nat} {G : sw_G} (hG : True)   {Q : Int32 → sw_I → sw_J → Prop} {x0 : Int32} {x1 : Int32} {I : sw_I} {J : sw_J} (h : wp_X10_has x0 x1 I J Q) : Met l yX10_has (Cond.code yX10_has cX10_has 2 (some .boolean) :: sw_T) rm_X10_has (sw_Pc D cy sz [.int x0, .int x1] G I J) (sw_Q D cy sz (sw_qi G Q)) 0 0 (fun q => sz ≤ q) :=
  sw_met (by decide) (fun q => by cases q) (Nat.le_of_ble_eq_true rfl) rfl (t_X10_has hG  h)
-- X10_flag
abbrev rm_X10_flag : Room := { frames := 0, cells := 0, slots := 0, locals := 0 }
def wp_X10_flag (x0 : Int32) (I : sw_I) (J : sw_J) (Q : Int32 → sw_I → sw_J → Prop) : Prop :=
  sw_if (x0 = 0) (Q (0 : Int32) I J) (Q (1 : Int32) I J)
set_option maxRecDepth 20000 in
theorem t_X10_flag {l : Launch} {D : va_G} {cy : Nat → ClassId} {sz : Nat} {G : sw_G} (hG : True)   {Q : Int32 → sw_I → sw_J → Prop} {x0 : Int32} {I : sw_I} {J : sw_J} (h : wp_X10_flag x0 I J Q) : AW l D cy sz RX10 cX10_flag 1 (some .int) false rm_X10_flag 0 0 (sw_qi G Q) 0 0 G I J 0 [(0, .int x0)] [] := by
  unfold wp_X10_flag at h
  refine aw_iload_n 0 dX10_flag_0 rfl rfl ?_
  refine aw_zeq 8 dX10_flag_1 (by decide) (fun c_1 => ?_) (fun c_1 => ?_)
  · have h := sw_if.t h c_1
    refine aw_iconst (v := 0) dX10_flag_8 (by decide) ?_
    exact aw_iret rfl dX10_flag_9 ⟨rfl, _, rfl, h⟩
  · have h := sw_if.f h c_1
    refine aw_iconst (v := 1) dX10_flag_4 (by decide) ?_
    refine aw_goto 9 dX10_flag_5 (by decide) ?_
    exact aw_iret rfl dX10_flag_9 ⟨rfl, _, rfl, h⟩
theorem M_X10_flag {l : Launch} {D : va_G} {cy : Nat → ClassId} {sz : Nat} {G : sw_G} (hG : True)   {Q : Int32 → sw_I → sw_J → Prop} {x0 : Int32} {I : sw_I} {J : sw_J} (h : wp_X10_flag x0 I J Q) : Met l yX10_flag (Cond.code yX10_flag cX10_flag 1 (some .int) :: sw_T) rm_X10_flag (sw_Pc D cy sz [.int x0] G I J) (sw_Q D cy sz (sw_qi G Q)) 0 0 (fun q => sz ≤ q) :=
  sw_met (by decide) (fun q => by cases q) (Nat.le_of_ble_eq_true rfl) rfl (t_X10_flag hG  h)
-- X10_enters
abbrev rm_X10_enters : Room := { frames := 0, cells := 0, slots := 0, locals := 0 }
def wp_X10_enters (w1 : Int64) (I : sw_I) (J : sw_J) (Q : sw_I → sw_J → Prop) : Prop :=
  vp_in (I 140 1) 24 ∧ ∀ J_2 : sw_J, J_2 = sw_up J 141 (I 140 1).toNatClampNeg w1 → ∀ I_4 : sw_I, I_4 = sw_up I 140 1 ((I 140 1) + (1 : Int32)) → Q I_4 J_2
set_option maxRecDepth 20000 in
theorem t_X10_enters {l : Launch} {D : va_G} {cy : Nat → ClassId} {sz : Nat} {G : sw_G} (hG : sw_lay G)   {Q : sw_I → sw_J → Prop} {w1 : Int64} {I : sw_I} {J : sw_J} (h : wp_X10_enters w1 I J Q) : AW l D cy sz RX10 cX10_enters 3 none false rm_X10_enters 0 0 (sw_qv G Q) 0 0 G I J 0 [(0, .ref (sz + 140)), (1, .long w1)] [] := by
  unfold wp_X10_enters at h
  refine aw_aload_n 0 dX10_enters_0 rfl rfl ?_
  refine gf_X10_2 fl_X10_11 (lk140 hG) (lr140_2 hG) dX10_enters_1 ?_
  refine aw_aload_n 0 dX10_enters_4 rfl rfl ?_
  refine gf_X10_1 fl_X10_15 (lk140 hG) dX10_enters_5 ?_
  refine aw_lload_n 1 dX10_enters_8 rfl rfl ?_
  obtain ⟨hi_1, h⟩ := h
  refine aw_lst dX10_enters_9 (lk141 hG) (ln141 hG) hi_1 (aw_nameJ fun J_2 e_3 => ?_)
  have h := h J_2 e_3
  refine aw_aload_n 0 dX10_enters_10 rfl rfl ?_
  refine aw_dup dX10_enters_11 rfl ?_
  refine gf_X10_1 fl_X10_15 (lk140 hG) dX10_enters_12 ?_
  refine aw_iconst (v := 1) dX10_enters_15 (by decide) ?_
  refine aw_iadd dX10_enters_16 ?_
  refine pf_X10_1 fl_X10_15 (lk140 hG) dX10_enters_17 (aw_nameI fun I_4 e_5 => ?_)
  have h := h I_4 e_5
  exact aw_vret rfl dX10_enters_20 ⟨rfl, rfl, h⟩
theorem M_X10_enters {l : Launch} {D : va_G} {cy : Nat → ClassId} {sz : Nat} {G : sw_G} (hG : sw_lay G)   {Q : sw_I → sw_J → Prop} {w1 : Int64} {I : sw_I} {J : sw_J} (h : wp_X10_enters w1 I J Q) : Met l yX10_enters (Cond.code yX10_enters cX10_enters 3 none :: sw_T) rm_X10_enters (sw_Pc D cy sz [.ref (sz + 140), .long w1] G I J) (sw_Q D cy sz (sw_qv G Q)) 0 0 (fun q => sz ≤ q) :=
  sw_met (by decide) (fun q => by cases q) (Nat.le_of_ble_eq_true rfl) rfl (t_X10_enters hG  h)
-- X10_entersFraction
abbrev rm_X10_entersFraction : Room := { frames := 65, cells := 0, slots := 0, locals := 1495 }
def wp_X10_entersFraction (w1 : Int64) (w3 : Int64) (I : sw_I) (J : sw_J) (Q : sw_I → sw_J → Prop) : Prop :=
  wp_X10_common 64 w1 w3 I J (fun r_1 I_2 J_3 => ¬ r_1 = 0 ∧ wp_X10_enters (w1 / r_1) I_2 J_3 (fun I_6 J_7 => ¬ r_1 = 0 ∧ wp_X10_enters (w3 / r_1) I_6 J_7 (fun I_10 J_11 => Q I_10 J_11)))
set_option maxRecDepth 20000 in
theorem t_X10_entersFraction {l : Launch} {D : va_G} {cy : Nat → ClassId} {sz : Nat} {G : sw_G} (hG : sw_lay G)   {Q : sw_I → sw_J → Prop} {w1 : Int64} {w3 : Int64} {I : sw_I} {J : sw_J} (h : wp_X10_entersFraction w1 w3 I J Q) : AW l D cy sz RX10 cX10_entersFraction 7 none false rm_X10_entersFraction 0 0 (sw_qv G Q) 0 0 G I J 0 [(0, .ref (sz + 140)), (1, .long w1), (3, .long w3)] [] := by
  unfold wp_X10_entersFraction at h
  refine aw_lload_n 1 dX10_entersFraction_0 rfl rfl ?_
  refine aw_lload_n 2 dX10_entersFraction_1 rfl rfl ?_
  refine aw_callS wv_X10_common (M_X10_common trivial 64  h) ml_X10_7 rfl rfl (Nat.le_of_ble_eq_true rfl) ⟨rfl, rfl⟩ ⟨Nat.le_of_ble_eq_true rfl, Nat.le_of_ble_eq_true rfl⟩ ⟨Nat.le_refl _, Nat.le_refl _⟩ dX10_entersFraction_2 (aw_kl fun r_1 I_2 J_3 h => ?_)
  refine aw_lstore (lv' := [(5, .long r_1), (0, .ref (sz + 140)), (1, .long w1), (3, .long w3)]) dX10_entersFraction_5 (by decide) rfl ?_
  refine aw_aload_n 1 dX10_entersFraction_7 rfl rfl ?_
  refine aw_lload_n 2 dX10_entersFraction_8 rfl rfl ?_
  refine aw_lload 0 dX10_entersFraction_9 rfl ?_
  obtain ⟨hz_4, h⟩ := h
  refine aw_ldiv dX10_entersFraction_11 hz_4 ?_
  refine aw_callV wv_X10_enters (M_X10_enters hG  h) ml_X10_18 rfl (by decide) (lk140 hG) rfl rfl (Nat.le_of_ble_eq_true rfl) ⟨rfl, rfl⟩ ⟨Nat.le_of_ble_eq_true rfl, Nat.le_of_ble_eq_true rfl⟩ ⟨Nat.le_refl _, Nat.le_refl _⟩ dX10_entersFraction_12 (aw_kv fun I_6 J_7 h => ?_)
  refine aw_aload_n 1 dX10_entersFraction_15 rfl rfl ?_
  refine aw_lload_n 3 dX10_entersFraction_16 rfl rfl ?_
  refine aw_lload 0 dX10_entersFraction_17 rfl ?_
  obtain ⟨hz_8, h⟩ := h
  refine aw_ldiv dX10_entersFraction_19 hz_8 ?_
  refine aw_callV wv_X10_enters (M_X10_enters hG  h) ml_X10_18 rfl (by decide) (lk140 hG) rfl rfl (Nat.le_of_ble_eq_true rfl) ⟨rfl, rfl⟩ ⟨Nat.le_of_ble_eq_true rfl, Nat.le_of_ble_eq_true rfl⟩ ⟨Nat.le_refl _, Nat.le_refl _⟩ dX10_entersFraction_20 (aw_kv fun I_10 J_11 h => ?_)
  exact aw_vret rfl dX10_entersFraction_23 ⟨rfl, rfl, h⟩
theorem M_X10_entersFraction {l : Launch} {D : va_G} {cy : Nat → ClassId} {sz : Nat} {G : sw_G} (hG : sw_lay G)   {Q : sw_I → sw_J → Prop} {w1 : Int64} {w3 : Int64} {I : sw_I} {J : sw_J} (h : wp_X10_entersFraction w1 w3 I J Q) : Met l yX10_entersFraction (Cond.code yX10_entersFraction cX10_entersFraction 7 none :: sw_T) rm_X10_entersFraction (sw_Pc D cy sz [.ref (sz + 140), .long w1, .long w3] G I J) (sw_Q D cy sz (sw_qv G Q)) 0 0 (fun q => sz ≤ q) :=
  sw_met (by decide) (fun q => by cases q) (Nat.le_of_ble_eq_true rfl) rfl (t_X10_entersFraction hG  h)
-- X10_isFloor
abbrev rm_X10_isFloor : Room := { frames := 1, cells := 0, slots := 0, locals := 25 }
def wp_X10_isFloor (x1 : Int32) (I : sw_I) (J : sw_J) (Q : Int32 → sw_I → sw_J → Prop) : Prop :=
  wp_X10_in x1.toInt64 0 (((I 140 3) - (1 : Int32)).toInt64) I J (fun r_1 I_2 J_3 => (r_1 = 0 ∨ r_1 = 1) ∧ Q r_1 I_2 J_3)
set_option maxRecDepth 20000 in
theorem t_X10_isFloor {l : Launch} {D : va_G} {cy : Nat → ClassId} {sz : Nat} {G : sw_G} (hG : sw_lay G)   {Q : Int32 → sw_I → sw_J → Prop} {x1 : Int32} {I : sw_I} {J : sw_J} (h : wp_X10_isFloor x1 I J Q) : AW l D cy sz RX10 cX10_isFloor 2 (some .boolean) false rm_X10_isFloor 0 0 (sw_qi G Q) 0 0 G I J 0 [(0, .ref (sz + 140)), (1, .int x1)] [] := by
  unfold wp_X10_isFloor at h
  refine aw_iload_n 1 dX10_isFloor_0 rfl rfl ?_
  refine aw_i2l dX10_isFloor_1 ?_
  refine aw_lconst (v := 0) dX10_isFloor_2 (by decide) ?_
  refine aw_aload_n 0 dX10_isFloor_3 rfl rfl ?_
  refine gf_X10_3 fl_X10_22 (lk140 hG) dX10_isFloor_4 ?_
  refine aw_iconst (v := 1) dX10_isFloor_7 (by decide) ?_
  refine aw_isub dX10_isFloor_8 ?_
  refine aw_i2l dX10_isFloor_9 ?_
  refine aw_callS wv_X10_in (M_X10_in trivial  h) ml_X10_25 rfl rfl (Nat.le_of_ble_eq_true rfl) ⟨rfl, rfl⟩ ⟨Nat.le_of_ble_eq_true rfl, Nat.le_of_ble_eq_true rfl⟩ ⟨Nat.le_refl _, Nat.le_refl _⟩ dX10_isFloor_10 (aw_ki fun r_1 I_2 J_3 h => ?_)
  exact aw_zret rfl (sw_bool h.1).1 dX10_isFloor_13 ⟨rfl, _, rfl, h.2⟩
theorem M_X10_isFloor {l : Launch} {D : va_G} {cy : Nat → ClassId} {sz : Nat} {G : sw_G} (hG : sw_lay G)   {Q : Int32 → sw_I → sw_J → Prop} {x1 : Int32} {I : sw_I} {J : sw_J} (h : wp_X10_isFloor x1 I J Q) : Met l yX10_isFloor (Cond.code yX10_isFloor cX10_isFloor 2 (some .boolean) :: sw_T) rm_X10_isFloor (sw_Pc D cy sz [.ref (sz + 140), .int x1] G I J) (sw_Q D cy sz (sw_qi G Q)) 0 0 (fun q => sz ≤ q) :=
  sw_met (by decide) (fun q => by cases q) (Nat.le_of_ble_eq_true rfl) rfl (t_X10_isFloor hG  h)
-- X10_isRider
abbrev rm_X10_isRider : Room := { frames := 1, cells := 0, slots := 0, locals := 25 }
def wp_X10_isRider (x1 : Int32) (I : sw_I) (J : sw_J) (Q : Int32 → sw_I → sw_J → Prop) : Prop :=
  wp_X10_in x1.toInt64 0 (((I 140 4) - (1 : Int32)).toInt64) I J (fun r_1 I_2 J_3 => (r_1 = 0 ∨ r_1 = 1) ∧ Q r_1 I_2 J_3)
set_option maxRecDepth 20000 in
theorem t_X10_isRider {l : Launch} {D : va_G} {cy : Nat → ClassId} {sz : Nat} {G : sw_G} (hG : sw_lay G)   {Q : Int32 → sw_I → sw_J → Prop} {x1 : Int32} {I : sw_I} {J : sw_J} (h : wp_X10_isRider x1 I J Q) : AW l D cy sz RX10 cX10_isRider 2 (some .boolean) false rm_X10_isRider 0 0 (sw_qi G Q) 0 0 G I J 0 [(0, .ref (sz + 140)), (1, .int x1)] [] := by
  unfold wp_X10_isRider at h
  refine aw_iload_n 1 dX10_isRider_0 rfl rfl ?_
  refine aw_i2l dX10_isRider_1 ?_
  refine aw_lconst (v := 0) dX10_isRider_2 (by decide) ?_
  refine aw_aload_n 0 dX10_isRider_3 rfl rfl ?_
  refine gf_X10_4 fl_X10_29 (lk140 hG) dX10_isRider_4 ?_
  refine aw_iconst (v := 1) dX10_isRider_7 (by decide) ?_
  refine aw_isub dX10_isRider_8 ?_
  refine aw_i2l dX10_isRider_9 ?_
  refine aw_callS wv_X10_in (M_X10_in trivial  h) ml_X10_25 rfl rfl (Nat.le_of_ble_eq_true rfl) ⟨rfl, rfl⟩ ⟨Nat.le_of_ble_eq_true rfl, Nat.le_of_ble_eq_true rfl⟩ ⟨Nat.le_refl _, Nat.le_refl _⟩ dX10_isRider_10 (aw_ki fun r_1 I_2 J_3 h => ?_)
  exact aw_zret rfl (sw_bool h.1).1 dX10_isRider_13 ⟨rfl, _, rfl, h.2⟩
theorem M_X10_isRider {l : Launch} {D : va_G} {cy : Nat → ClassId} {sz : Nat} {G : sw_G} (hG : sw_lay G)   {Q : Int32 → sw_I → sw_J → Prop} {x1 : Int32} {I : sw_I} {J : sw_J} (h : wp_X10_isRider x1 I J Q) : Met l yX10_isRider (Cond.code yX10_isRider cX10_isRider 2 (some .boolean) :: sw_T) rm_X10_isRider (sw_Pc D cy sz [.ref (sz + 140), .int x1] G I J) (sw_Q D cy sz (sw_qi G Q)) 0 0 (fun q => sz ≤ q) :=
  sw_met (by decide) (fun q => by cases q) (Nat.le_of_ble_eq_true rfl) rfl (t_X10_isRider hG  h)
