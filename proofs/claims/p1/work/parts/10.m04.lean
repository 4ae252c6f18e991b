-- X10_readsThing
abbrev rm_X10_readsThing (d : Nat) : Room := { frames := 5 + d, cells := 0, slots := 0, locals := 107 + d * 23 }
def wB_X10_readsThing_80 (C_X10_readsThing : sw_I → sw_J → (Int32 → sw_I → sw_J → Prop) → Prop) (C_X10_readsRank : Int32 → sw_I → sw_J → (Int32 → sw_I → sw_J → Prop) → Prop)  (Q : Int32 → sw_I → sw_J → Prop) (x1 : Int32) (I : sw_I) (J : sw_J) : Prop :=
  wp_X10_codes x1 I J (fun I_2 J_3 => Q 1 I_2 J_3)
def wb_X10_readsThing_34 (C_X10_readsThing : sw_I → sw_J → (Int32 → sw_I → sw_J → Prop) → Prop) (C_X10_readsRank : Int32 → sw_I → sw_J → (Int32 → sw_I → sw_J → Prop) → Prop) (K34 : Int32 → Int32 → sw_I → sw_J → Prop) (Q : Int32 → sw_I → sw_J → Prop) (x1 : Int32) (x2 : Int32) (I : sw_I) (J : sw_J) : Prop :=
  sw_if (x2 < (3 : Int32)) (wp_X10_isDigit  I J (fun r_2 I_3 J_4 => sw_if (r_2 = 0) (wB_X10_readsThing_80 C_X10_readsThing C_X10_readsRank  Q x1 I_3 J_4) (vp_in (I_3 131 13) 80 ∧ ∀ y_7 : Int32, y_7 = (((10 : Int32) * x1) + (I_3 137 (I_3 131 13).toNatClampNeg)) - (48 : Int32) → ∀ I_9 : sw_I, I_9 = sw_up I_3 131 13 ((I_3 131 13) + (1 : Int32)) → ∀ y_11 : Int32, y_11 = x2 + 1 → K34 y_7 y_11 I_9 J_4))) (wB_X10_readsThing_80 C_X10_readsThing C_X10_readsRank  Q x1 I J)
def wl_X10_readsThing_34 (C_X10_readsThing : sw_I → sw_J → (Int32 → sw_I → sw_J → Prop) → Prop) (C_X10_readsRank : Int32 → sw_I → sw_J → (Int32 → sw_I → sw_J → Prop) → Prop)  (Q : Int32 → sw_I → sw_J → Prop) : Nat → Int32 → Int32 → sw_I → sw_J → Prop
  | 0 => fun _ _ _ _ => False
  | n + 1 => fun x1 x2 I J => wb_X10_readsThing_34 C_X10_readsThing C_X10_readsRank (wl_X10_readsThing_34 C_X10_readsThing C_X10_readsRank  Q n) Q x1 x2 I J
def wpb_X10_readsThing (C_X10_readsThing : sw_I → sw_J → (Int32 → sw_I → sw_J → Prop) → Prop) (C_X10_readsRank : Int32 → sw_I → sw_J → (Int32 → sw_I → sw_J → Prop) → Prop)  (I : sw_I) (J : sw_J) (Q : Int32 → sw_I → sw_J → Prop) : Prop :=
  wp_X10_takes 45 I J (fun r_1 I_2 J_3 => sw_if (r_1 = 0) (wp_X10_isDigit  I_2 J_3 (fun r_5 I_6 J_7 => sw_if (r_5 = 0) (wp_X10_among 0 I_6 J_7 (fun r_9 I_10 J_11 => sw_if (r_9 < 0) (sw_if ((I_10 131 15) = (4 : Int32)) (Q 0 I_10 J_11) (wp_X10_takes 40 I_10 J_11 (fun r_14 I_15 J_16 => sw_if (r_14 = 0) (Q 0 I_15 J_16) (∀ I_18 : sw_I, I_18 = sw_up I_15 131 15 ((I_15 131 15) + (1 : Int32)) → C_X10_readsRank 0 I_18 J_16 (fun r_20 I_21 J_22 => sw_if (r_20 = 0) (Q 0 I_21 J_22) (wp_X10_takes 41 I_21 J_22 (fun r_24 I_25 J_26 => sw_if (r_24 = 0) (Q 0 I_25 J_26) (∀ I_28 : sw_I, I_28 = sw_up I_25 131 15 ((I_25 131 15) - (1 : Int32)) → Q 1 I_28 J_26)))))))) (∀ I_30 : sw_I, I_30 = sw_up I_10 131 13 ((I_10 131 13) + (1 : Int32)) → wp_X10_codes ((1000 : Int32) + r_9) I_30 J_11 (fun I_33 J_34 => Q 1 I_33 J_34)))) (∃ n_35 : Nat, wl_X10_readsThing_34 C_X10_readsThing C_X10_readsRank  Q n_35 0 0 I_6 J_7))) (C_X10_readsThing  I_2 J_3 (fun r_36 I_37 J_38 => wp_X10_codes 3000 I_37 J_38 (fun I_40 J_41 => (r_36 = 0 ∨ r_36 = 1) ∧ Q r_36 I_40 J_41))))
def wB_X10_readsRank_119 (C_X10_readsThing : sw_I → sw_J → (Int32 → sw_I → sw_J → Prop) → Prop) (C_X10_readsRank : Int32 → sw_I → sw_J → (Int32 → sw_I → sw_J → Prop) → Prop) (K24 : Int32 → Int32 → sw_I → sw_J → Prop) (Q : Int32 → sw_I → sw_J → Prop) (x1 : Int32) (s0 : Int32) (I : sw_I) (J : sw_J) : Prop :=
  K24 x1 s0 I J
def wB_X10_readsRank_106 (C_X10_readsThing : sw_I → sw_J → (Int32 → sw_I → sw_J → Prop) → Prop) (C_X10_readsRank : Int32 → sw_I → sw_J → (Int32 → sw_I → sw_J → Prop) → Prop) (K24 : Int32 → Int32 → sw_I → sw_J → Prop) (Q : Int32 → sw_I → sw_J → Prop) (x1 : Int32) (s1 : Int32) (s2 : Int32) (I : sw_I) (J : sw_J) : Prop :=
  wp_X10_codes (s1 + s2) I J (fun I_2 J_3 => sw_if (0 < x1) (wB_X10_readsRank_119 C_X10_readsThing C_X10_readsRank K24 Q x1 1 I_2 J_3) (wB_X10_readsRank_119 C_X10_readsThing C_X10_readsRank K24 Q x1 0 I_2 J_3))
def wb_X10_readsRank_24 (C_X10_readsThing : sw_I → sw_J → (Int32 → sw_I → sw_J → Prop) → Prop) (C_X10_readsRank : Int32 → sw_I → sw_J → (Int32 → sw_I → sw_J → Prop) → Prop) (K24 : Int32 → Int32 → sw_I → sw_J → Prop) (Q : Int32 → sw_I → sw_J → Prop) (x1 : Int32) (x2 : Int32) (I : sw_I) (J : sw_J) : Prop :=
  sw_if (x2 = 0) (Q 1 I J) (sw_if (x1 = 0) (wp_X10_among 1 I J (fun r_28 I_29 J_30 => sw_if (r_28 < 0) (Q 1 I_29 J_30) (∀ I_32 : sw_I, I_32 = sw_up I_29 131 13 ((I_29 131 13) + (1 : Int32)) → C_X10_readsRank (x1 + (1 : Int32)) I_32 J_30 (fun r_34 I_35 J_36 => sw_if (r_34 = 0) (Q 0 I_35 J_36) (sw_if (x1 = 0) (wB_X10_readsRank_106 C_X10_readsThing C_X10_readsRank K24 Q x1 ((2000 : Int32) + r_28) 0 I_35 J_36) (sw_if (x1 = (1 : Int32)) (wB_X10_readsRank_106 C_X10_readsThing C_X10_readsRank K24 Q x1 ((2000 : Int32) + r_28) 3 I_35 J_36) (wB_X10_readsRank_106 C_X10_readsThing C_X10_readsRank K24 Q x1 ((2000 : Int32) + r_28) 5 I_35 J_36))))))) (sw_if (x1 = (1 : Int32)) (wp_X10_among 2 I J (fun r_16 I_17 J_18 => sw_if (r_16 < 0) (Q 1 I_17 J_18) (∀ I_20 : sw_I, I_20 = sw_up I_17 131 13 ((I_17 131 13) + (1 : Int32)) → C_X10_readsRank (x1 + (1 : Int32)) I_20 J_18 (fun r_22 I_23 J_24 => sw_if (r_22 = 0) (Q 0 I_23 J_24) (sw_if (x1 = 0) (wB_X10_readsRank_106 C_X10_readsThing C_X10_readsRank K24 Q x1 ((2000 : Int32) + r_16) 0 I_23 J_24) (sw_if (x1 = (1 : Int32)) (wB_X10_readsRank_106 C_X10_readsThing C_X10_readsRank K24 Q x1 ((2000 : Int32) + r_16) 3 I_23 J_24) (wB_X10_readsRank_106 C_X10_readsThing C_X10_readsRank K24 Q x1 ((2000 : Int32) + r_16) 5 I_23 J_24))))))) (wp_X10_among 3 I J (fun r_4 I_5 J_6 => sw_if (r_4 < 0) (Q 1 I_5 J_6) (∀ I_8 : sw_I, I_8 = sw_up I_5 131 13 ((I_5 131 13) + (1 : Int32)) → C_X10_readsRank (x1 + (1 : Int32)) I_8 J_6 (fun r_10 I_11 J_12 => sw_if (r_10 = 0) (Q 0 I_11 J_12) (sw_if (x1 = 0) (wB_X10_readsRank_106 C_X10_readsThing C_X10_readsRank K24 Q x1 ((2000 : Int32) + r_4) 0 I_11 J_12) (sw_if (x1 = (1 : Int32)) (wB_X10_readsRank_106 C_X10_readsThing C_X10_readsRank K24 Q x1 ((2000 : Int32) + r_4) 3 I_11 J_12) (wB_X10_readsRank_106 C_X10_readsThing C_X10_readsRank K24 Q x1 ((2000 : Int32) + r_4) 5 I_11 J_12)))))))))
def wl_X10_readsRank_24 (C_X10_readsThing : sw_I → sw_J → (Int32 → sw_I → sw_J → Prop) → Prop) (C_X10_readsRank : Int32 → sw_I → sw_J → (Int32 → sw_I → sw_J → Prop) → Prop)  (Q : Int32 → sw_I → sw_J → Prop) : Nat → Int32 → Int32 → sw_I → sw_J → Prop
  | 0 => fun _ _ _ _ => False
  | n + 1 => fun x1 x2 I J => wb_X10_readsRank_24 C_X10_readsThing C_X10_readsRank (wl_X10_readsRank_24 C_X10_readsThing C_X10_readsRank  Q n) Q x1 x2 I J
def wpb_X10_readsRank (C_X10_readsThing : sw_I → sw_J → (Int32 → sw_I → sw_J → Prop) → Prop) (C_X10_readsRank : Int32 → sw_I → sw_J → (Int32 → sw_I → sw_J → Prop) → Prop) (x1 : Int32) (I : sw_I) (J : sw_J) (Q : Int32 → sw_I → sw_J → Prop) : Prop :=
  sw_if (x1 = (3 : Int32)) (C_X10_readsThing  I J (fun r_7 I_8 J_9 => (r_7 = 0 ∨ r_7 = 1) ∧ Q r_7 I_8 J_9)) (C_X10_readsRank (x1 + (1 : Int32)) I J (fun r_2 I_3 J_4 => sw_if (r_2 = 0) (Q 0 I_3 J_4) (∃ n_6 : Nat, wl_X10_readsRank_24 C_X10_readsThing C_X10_readsRank  Q n_6 x1 1 I_3 J_4)))
set_option maxRecDepth 20000 in
theorem t_X10_readsThing_80 {l : Launch} {D : va_G} {cy : Nat → ClassId} {sz : Nat} {G : sw_G} (hG : sw_lay G) {C_X10_readsThing : sw_I → sw_J → (Int32 → sw_I → sw_J → Prop) → Prop} {C_X10_readsRank : Int32 → sw_I → sw_J → (Int32 → sw_I → sw_J → Prop) → Prop} {dd : Nat} (hC_X10_readsThing : ∀  {I : sw_I} {J : sw_J} {Q : Int32 → sw_I → sw_J → Prop}, C_X10_readsThing  I J Q → Met l yX10_readsThing (Cond.code yX10_readsThing cX10_readsThing 3 (some .boolean) :: sw_T) (rm_X10_readsThing dd) (sw_Pc D cy sz [.ref (sz + 131)] G I J) (sw_Q D cy sz (sw_qi G Q)) 0 0 (fun q => sz ≤ q)) (hC_X10_readsRank : ∀ {x1 : Int32} {I : sw_I} {J : sw_J} {Q : Int32 → sw_I → sw_J → Prop}, C_X10_readsRank x1 I J Q → Met l yX10_readsRank (Cond.code yX10_readsRank cX10_readsRank 4 (some .boolean) :: sw_T) (rm_X10_readsThing dd) (sw_Pc D cy sz [.ref (sz + 131), .int x1] G I J) (sw_Q D cy sz (sw_qi G Q)) 0 0 (fun q => sz ≤ q)) {Q : Int32 → sw_I → sw_J → Prop} {x1 : Int32} {I : sw_I} {J : sw_J} (h : wB_X10_readsThing_80 C_X10_readsThing C_X10_readsRank  Q x1 I J) : AW l D cy sz RX10 cX10_readsThing 3 (some .boolean) false (rm_X10_readsThing (dd + 1)) 0 0 (sw_qi G Q) 0 0 G I J 80 [(0, .ref (sz + 131)), (1, .int x1)] [] := by
  unfold wB_X10_readsThing_80 at h
  refine aw_aload_n 0 dX10_readsThing_80 rfl rfl ?_
  refine aw_iload_n 1 dX10_readsThing_81 rfl rfl ?_
  refine aw_callV wv_X10_codes (M_X10_codes hG  h) ml_X10_150 rfl (by decide) (lk131 hG) rfl rfl (Nat.le_of_ble_eq_true rfl) ⟨rfl, rfl⟩ ⟨by simp only [rm_X10_readsThing, rm_X10_codes]; omega, by simp only [rm_X10_readsThing, rm_X10_codes]; omega⟩ ⟨Nat.le_refl _, Nat.le_refl _⟩ dX10_readsThing_82 (aw_kv fun I_2 J_3 h => ?_)
  refine aw_iconst (v := 1) dX10_readsThing_85 (by decide) ?_
  exact aw_zret rfl rfl dX10_readsThing_86 ⟨rfl, _, rfl, h⟩
set_option maxRecDepth 20000 in
theorem tb_X10_readsThing_34 {l : Launch} {D : va_G} {cy : Nat → ClassId} {sz : Nat} {G : sw_G} (hG : sw_lay G) {C_X10_readsThing : sw_I → sw_J → (Int32 → sw_I → sw_J → Prop) → Prop} {C_X10_readsRank : Int32 → sw_I → sw_J → (Int32 → sw_I → sw_J → Prop) → Prop} {dd : Nat} (hC_X10_readsThing : ∀  {I : sw_I} {J : sw_J} {Q : Int32 → sw_I → sw_J → Prop}, C_X10_readsThing  I J Q → Met l yX10_readsThing (Cond.code yX10_readsThing cX10_readsThing 3 (some .boolean) :: sw_T) (rm_X10_readsThing dd) (sw_Pc D cy sz [.ref (sz + 131)] G I J) (sw_Q D cy sz (sw_qi G Q)) 0 0 (fun q => sz ≤ q)) (hC_X10_readsRank : ∀ {x1 : Int32} {I : sw_I} {J : sw_J} {Q : Int32 → sw_I → sw_J → Prop}, C_X10_readsRank x1 I J Q → Met l yX10_readsRank (Cond.code yX10_readsRank cX10_readsRank 4 (some .boolean) :: sw_T) (rm_X10_readsThing dd) (sw_Pc D cy sz [.ref (sz + 131), .int x1] G I J) (sw_Q D cy sz (sw_qi G Q)) 0 0 (fun q => sz ≤ q)) {Q : Int32 → sw_I → sw_J → Prop} {K34 : Int32 → Int32 → sw_I → sw_J → Prop} (hK34 : ∀ (x1 : Int32) (x2 : Int32) (I : sw_I) (J : sw_J), K34 x1 x2 I J → AW l D cy sz RX10 cX10_readsThing 3 (some .boolean) false (rm_X10_readsThing (dd + 1)) 0 0 (sw_qi G Q) 0 0 G I J 34 [(0, .ref (sz + 131)), (1, .int x1), (2, .int x2)] []) {x1 : Int32} {x2 : Int32} {I : sw_I} {J : sw_J} (h : wb_X10_readsThing_34 C_X10_readsThing C_X10_readsRank K34 Q x1 x2 I J) : AW l D cy sz RX10 cX10_readsThing 3 (some .boolean) false (rm_X10_readsThing (dd + 1)) 0 0 (sw_qi G Q) 0 0 G I J 34 [(0, .ref (sz + 131)), (1, .int x1), (2, .int x2)] [] := by
  unfold wb_X10_readsThing_34 at h
  refine aw_iload_n 2 dX10_readsThing_34 rfl rfl ?_
  refine aw_iconst (v := 3) dX10_readsThing_35 (by decide) ?_
  refine aw_jge 80 dX10_readsThing_36 (by decide) (fun c_1 => ?_) (fun c_1 => ?_)
  · have h := sw_if.f h c_1
    refine aw_sub [0, 1] rfl ?_
    exact t_X10_readsThing_80 hG hC_X10_readsThing hC_X10_readsRank  h
  · have h := sw_if.t h c_1
    refine aw_aload_n 0 dX10_readsThing_39 rfl rfl ?_
    refine aw_callV wv_X10_isDigit (M_X10_isDigit hG  h) ml_X10_91 rfl (by decide) (lk131 hG) rfl rfl (Nat.le_of_ble_eq_true rfl) ⟨rfl, rfl⟩ ⟨by simp only [rm_X10_readsThing, rm_X10_isDigit]; omega, by simp only [rm_X10_readsThing, rm_X10_isDigit]; omega⟩ ⟨Nat.le_refl _, Nat.le_refl _⟩ dX10_readsThing_40 (aw_ki fun r_2 I_3 J_4 h => ?_)
    refine aw_zeq 80 dX10_readsThing_43 (by decide) (fun c_5 => ?_) (fun c_5 => ?_)
    · have h := sw_if.t h c_5
      refine aw_sub [0, 1] rfl ?_
      exact t_X10_readsThing_80 hG hC_X10_readsThing hC_X10_readsRank  h
    · have h := sw_if.f h c_5
      refine aw_bipush (v := 10) dX10_readsThing_46 (by decide) ?_
      refine aw_iload_n 1 dX10_readsThing_48 rfl rfl ?_
      refine aw_imul dX10_readsThing_49 ?_
      refine aw_aload_n 0 dX10_readsThing_50 rfl rfl ?_
      refine gf_X10_11 fl_X10_35 (lk131 hG) (lr131_11 hG) dX10_readsThing_51 ?_
      refine aw_aload_n 0 dX10_readsThing_54 rfl rfl ?_
      refine gf_X10_13 fl_X10_39 (lk131 hG) dX10_readsThing_55 ?_
      obtain ⟨hi_6, h⟩ := h
      refine aw_ild dX10_readsThing_58 (lk137 hG) (ln137 hG) hi_6 ?_
      refine aw_iadd dX10_readsThing_59 ?_
      refine aw_bipush (v := 48) dX10_readsThing_60 (by decide) ?_
      refine aw_isub dX10_readsThing_62 ?_
      refine aw_topi (fun y_7 e_8 => ?_)
      have h := h y_7 e_8
      refine aw_istore_n (lv' := [(1, .int y_7), (0, .ref (sz + 131)), (2, .int x2)]) dX10_readsThing_63 rfl (by decide) rfl ?_
      refine aw_aload_n 1 dX10_readsThing_64 rfl rfl ?_
      refine aw_dup dX10_readsThing_65 rfl ?_
      refine gf_X10_13 fl_X10_39 (lk131 hG) dX10_readsThing_66 ?_
      refine aw_iconst (v := 1) dX10_readsThing_69 (by decide) ?_
      refine aw_iadd dX10_readsThing_70 ?_
      refine pf_X10_13 fl_X10_39 (lk131 hG) dX10_readsThing_71 (aw_nameI fun I_9 e_10 => ?_)
      have h := h I_9 e_10
      obtain ⟨y_11, e_12⟩ : ∃ q : Int32, q = x2 + 1 := ⟨_, rfl⟩
      have h := h y_11 e_12
      refine aw_iinc (lv' := [(2, .int y_11), (1, .int y_7), (0, .ref (sz + 131))]) 2 dX10_readsThing_74 rfl (by rw [e_12]; rfl) (by decide) rfl ?_
      refine aw_goto 34 dX10_readsThing_77 (by decide) ?_
      refine aw_sub [2, 1, 0] rfl ?_
      exact hK34 y_7 y_11 I_9 J_4 h
set_option maxRecDepth 20000 in
theorem tl_X10_readsThing_34 {l : Launch} {D : va_G} {cy : Nat → ClassId} {sz : Nat} {G : sw_G} (hG : sw_lay G) {C_X10_readsThing : sw_I → sw_J → (Int32 → sw_I → sw_J → Prop) → Prop} {C_X10_readsRank : Int32 → sw_I → sw_J → (Int32 → sw_I → sw_J → Prop) → Prop} {dd : Nat} (hC_X10_readsThing : ∀  {I : sw_I} {J : sw_J} {Q : Int32 → sw_I → sw_J → Prop}, C_X10_readsThing  I J Q → Met l yX10_readsThing (Cond.code yX10_readsThing cX10_readsThing 3 (some .boolean) :: sw_T) (rm_X10_readsThing dd) (sw_Pc D cy sz [.ref (sz + 131)] G I J) (sw_Q D cy sz (sw_qi G Q)) 0 0 (fun q => sz ≤ q)) (hC_X10_readsRank : ∀ {x1 : Int32} {I : sw_I} {J : sw_J} {Q : Int32 → sw_I → sw_J → Prop}, C_X10_readsRank x1 I J Q → Met l yX10_readsRank (Cond.code yX10_readsRank cX10_readsRank 4 (some .boolean) :: sw_T) (rm_X10_readsThing dd) (sw_Pc D cy sz [.ref (sz + 131), .int x1] G I J) (sw_Q D cy sz (sw_qi G Q)) 0 0 (fun q => sz ≤ q)) {Q : Int32 → sw_I → sw_J → Prop} : ∀ (n : Nat) (x1 : Int32) (x2 : Int32) (I : sw_I) (J : sw_J), wl_X10_readsThing_34 C_X10_readsThing C_X10_readsRank  Q n x1 x2 I J → AW l D cy sz RX10 cX10_readsThing 3 (some .boolean) false (rm_X10_readsThing (dd + 1)) 0 0 (sw_qi G Q) 0 0 G I J 34 [(0, .ref (sz + 131)), (1, .int x1), (2, .int x2)] [] := by
  intro n
  induction n with
  | zero => intro x1 x2 I J h; exact False.elim h
  | succ n ih => intro x1 x2 I J h; exact tb_X10_readsThing_34 hG hC_X10_readsThing hC_X10_readsRank ih h
set_option maxRecDepth 20000 in
theorem t_X10_readsThing {l : Launch} {D : va_G} {cy : Nat → ClassId} {sz : Nat} {G : sw_G} (hG : sw_lay G) {C_X10_readsThing : sw_I → sw_J → (Int32 → sw_I → sw_J → Prop) → Prop} {C_X10_readsRank : Int32 → sw_I → sw_J → (Int32 → sw_I → sw_J → Prop) → Prop} {dd : Nat} (hC_X10_readsThing : ∀  {I : sw_I} {J : sw_J} {Q : Int32 → sw_I → sw_J → Prop}, C_X10_readsThing  I J Q → Met l yX10_readsThing (Cond.code yX10_readsThing cX10_readsThing 3 (some .boolean) :: sw_T) (rm_X10_readsThing dd) (sw_Pc D cy sz [.ref (sz + 131)] G I J) (sw_Q D cy sz (sw_qi G Q)) 0 0 (fun q => sz ≤ q)) (hC_X10_readsRank : ∀ {x1 : Int32} {I : sw_I} {J : sw_J} {Q : Int32 → sw_I → sw_J → Prop}, C_X10_readsRank x1 I J Q → Met l yX10_readsRank (Cond.code yX10_readsRank cX10_readsRank 4 (some .boolean) :: sw_T) (rm_X10_readsThing dd) (sw_Pc D cy sz [.ref (sz + 131), .int x1] G I J) (sw_Q D cy sz (sw_qi G Q)) 0 0 (fun q => sz ≤ q)) {Q : Int32 → sw_I → sw_J → Prop}  {I : sw_I} {J : sw_J} (h : wpb_X10_readsThing C_X10_readsThing C_X10_readsRank  I J Q) : AW l D cy sz RX10 cX10_readsThing 3 (some .boolean) false (rm_X10_readsThing (dd + 1)) 0 0 (sw_qi G Q) 0 0 G I J 0 [(0, .ref (sz + 131))] [] := by
  unfold wpb_X10_readsThing at h
  refine aw_aload_n 0 dX10_readsThing_0 rfl rfl ?_
  refine aw_bipush (v := 45) dX10_readsThing_1 (by decide) ?_
  refine aw_callV wv_X10_takes (M_X10_takes hG  h) ml_X10_108 rfl (by decide) (lk131 hG) rfl rfl (Nat.le_of_ble_eq_true rfl) ⟨rfl, rfl⟩ ⟨by simp only [rm_X10_readsThing, rm_X10_takes]; omega, by simp only [rm_X10_readsThing, rm_X10_takes]; omega⟩ ⟨Nat.le_refl _, Nat.le_refl _⟩ dX10_readsThing_3 (aw_ki fun r_1 I_2 J_3 h => ?_)
  refine aw_zeq 23 dX10_readsThing_6 (by decide) (fun c_4 => ?_) (fun c_4 => ?_)
  · have h := sw_if.t h c_4
    refine aw_aload_n 0 dX10_readsThing_23 rfl rfl ?_
    refine aw_callV wv_X10_isDigit (M_X10_isDigit hG  h) ml_X10_91 rfl (by decide) (lk131 hG) rfl rfl (Nat.le_of_ble_eq_true rfl) ⟨rfl, rfl⟩ ⟨by simp only [rm_X10_readsThing, rm_X10_isDigit]; omega, by simp only [rm_X10_readsThing, rm_X10_isDigit]; omega⟩ ⟨Nat.le_refl _, Nat.le_refl _⟩ dX10_readsThing_24 (aw_ki fun r_5 I_6 J_7 h => ?_)
    refine aw_zeq 87 dX10_readsThing_27 (by decide) (fun c_8 => ?_) (fun c_8 => ?_)
    · have h := sw_if.t h c_8
      refine aw_aload_n 0 dX10_readsThing_87 rfl rfl ?_
      refine aw_ldcS (i := 0) rfl (by decide) rfl sw_sr0 dX10_readsThing_88 ?_
      refine aw_callV wv_X10_among (M_X10_among hG (by decide) h) ml_X10_156 rfl (by decide) (lk131 hG) rfl rfl (Nat.le_of_ble_eq_true rfl) ⟨rfl, rfl⟩ ⟨by simp only [rm_X10_readsThing, rm_X10_among]; omega, by simp only [rm_X10_readsThing, rm_X10_among]; omega⟩ ⟨Nat.le_refl _, Nat.le_refl _⟩ dX10_readsThing_90 (aw_ki fun r_9 I_10 J_11 h => ?_)
      refine aw_istore_n (lv' := [(1, .int r_9), (0, .ref (sz + 131))]) dX10_readsThing_93 rfl (by decide) rfl ?_
      refine aw_iload_n 0 dX10_readsThing_94 rfl rfl ?_
      refine aw_zlt 119 dX10_readsThing_95 (by decide) (fun c_12 => ?_) (fun c_12 => ?_)
      · have h := sw_if.t h c_12
        refine aw_aload_n 1 dX10_readsThing_119 rfl rfl ?_
        refine gf_X10_15 fl_X10_42 (lk131 hG) dX10_readsThing_120 ?_
        refine aw_iconst (v := 4) dX10_readsThing_123 (by decide) ?_
        refine aw_jeq 136 dX10_readsThing_124 (by decide) (fun c_13 => ?_) (fun c_13 => ?_)
        · have h := sw_if.t h c_13
          refine aw_iconst (v := 0) dX10_readsThing_136 (by decide) ?_
          exact aw_zret rfl rfl dX10_readsThing_137 ⟨rfl, _, rfl, h⟩
        · have h := sw_if.f h c_13
          refine aw_aload_n 1 dX10_readsThing_127 rfl rfl ?_
          refine aw_bipush (v := 40) dX10_readsThing_128 (by decide) ?_
          refine aw_callV wv_X10_takes (M_X10_takes hG  h) ml_X10_108 rfl (by decide) (lk131 hG) rfl rfl (Nat.le_of_ble_eq_true rfl) ⟨rfl, rfl⟩ ⟨by simp only [rm_X10_readsThing, rm_X10_takes]; omega, by simp only [rm_X10_readsThing, rm_X10_takes]; omega⟩ ⟨Nat.le_refl _, Nat.le_refl _⟩ dX10_readsThing_130 (aw_ki fun r_14 I_15 J_16 h => ?_)
          refine aw_zne 138 dX10_readsThing_133 (by decide) (fun c_17 => ?_) (fun c_17 => ?_)
          · have h := sw_if.f h c_17
            refine aw_aload_n 1 dX10_readsThing_138 rfl rfl ?_
            refine aw_dup dX10_readsThing_139 rfl ?_
            refine gf_X10_15 fl_X10_42 (lk131 hG) dX10_readsThing_140 ?_
            refine aw_iconst (v := 1) dX10_readsThing_143 (by decide) ?_
            refine aw_iadd dX10_readsThing_144 ?_
            refine pf_X10_15 fl_X10_42 (lk131 hG) dX10_readsThing_145 (aw_nameI fun I_18 e_19 => ?_)
            have h := h I_18 e_19
            refine aw_aload_n 1 dX10_readsThing_148 rfl rfl ?_
            refine aw_iconst (v := 0) dX10_readsThing_149 (by decide) ?_
            refine aw_callV wv_X10_readsRank (hC_X10_readsRank h) ml_X10_160 rfl (by decide) (lk131 hG) rfl rfl (Nat.le_of_ble_eq_true rfl) ⟨rfl, rfl⟩ ⟨by simp only [rm_X10_readsThing]; omega, by simp only [rm_X10_readsThing]; omega⟩ ⟨Nat.le_refl _, Nat.le_refl _⟩ dX10_readsThing_150 (aw_ki fun r_20 I_21 J_22 h => ?_)
            refine aw_zeq 165 dX10_readsThing_153 (by decide) (fun c_23 => ?_) (fun c_23 => ?_)
            · have h := sw_if.t h c_23
              refine aw_iconst (v := 0) dX10_readsThing_165 (by decide) ?_
              exact aw_zret rfl rfl dX10_readsThing_166 ⟨rfl, _, rfl, h⟩
            · have h := sw_if.f h c_23
              refine aw_aload_n 1 dX10_readsThing_156 rfl rfl ?_
              refine aw_bipush (v := 41) dX10_readsThing_157 (by decide) ?_
              refine aw_callV wv_X10_takes (M_X10_takes hG  h) ml_X10_108 rfl (by decide) (lk131 hG) rfl rfl (Nat.le_of_ble_eq_true rfl) ⟨rfl, rfl⟩ ⟨by simp only [rm_X10_readsThing, rm_X10_takes]; omega, by simp only [rm_X10_readsThing, rm_X10_takes]; omega⟩ ⟨Nat.le_refl _, Nat.le_refl _⟩ dX10_readsThing_159 (aw_ki fun r_24 I_25 J_26 h => ?_)
              refine aw_zne 167 dX10_readsThing_162 (by decide) (fun c_27 => ?_) (fun c_27 => ?_)
              · have h := sw_if.f h c_27
                refine aw_aload_n 1 dX10_readsThing_167 rfl rfl ?_
                refine aw_dup dX10_readsThing_168 rfl ?_
                refine gf_X10_15 fl_X10_42 (lk131 hG) dX10_readsThing_169 ?_
                refine aw_iconst (v := 1) dX10_readsThing_172 (by decide) ?_
                refine aw_isub dX10_readsThing_173 ?_
                refine pf_X10_15 fl_X10_42 (lk131 hG) dX10_readsThing_174 (aw_nameI fun I_28 e_29 => ?_)
                have h := h I_28 e_29
                refine aw_iconst (v := 1) dX10_readsThing_177 (by decide) ?_
                exact aw_zret rfl rfl dX10_readsThing_178 ⟨rfl, _, rfl, h⟩
              · have h := sw_if.t h c_27
                refine aw_iconst (v := 0) dX10_readsThing_165 (by decide) ?_
                exact aw_zret rfl rfl dX10_readsThing_166 ⟨rfl, _, rfl, h⟩
          · have h := sw_if.t h c_17
            refine aw_iconst (v := 0) dX10_readsThing_136 (by decide) ?_
            exact aw_zret rfl rfl dX10_readsThing_137 ⟨rfl, _, rfl, h⟩
      · have h := sw_if.f h c_12
        refine aw_aload_n 1 dX10_readsThing_98 rfl rfl ?_
        refine aw_dup dX10_readsThing_99 rfl ?_
        refine gf_X10_13 fl_X10_39 (lk131 hG) dX10_readsThing_100 ?_
        refine aw_iconst (v := 1) dX10_readsThing_103 (by decide) ?_
        refine aw_iadd dX10_readsThing_104 ?_
        refine pf_X10_13 fl_X10_39 (lk131 hG) dX10_readsThing_105 (aw_nameI fun I_30 e_31 => ?_)
        have h := h I_30 e_31
        refine aw_aload_n 1 dX10_readsThing_108 rfl rfl ?_
        refine aw_sipush (v := 1000) dX10_readsThing_109 (by decide) ?_
        refine aw_iload_n 0 dX10_readsThing_112 rfl rfl ?_
        refine aw_iadd dX10_readsThing_113 ?_
        refine aw_callV wv_X10_codes (M_X10_codes hG  h) ml_X10_150 rfl (by decide) (lk131 hG) rfl rfl (Nat.le_of_ble_eq_true rfl) ⟨rfl, rfl⟩ ⟨by simp only [rm_X10_readsThing, rm_X10_codes]; omega, by simp only [rm_X10_readsThing, rm_X10_codes]; omega⟩ ⟨Nat.le_refl _, Nat.le_refl _⟩ dX10_readsThing_114 (aw_kv fun I_33 J_34 h => ?_)
        refine aw_iconst (v := 1) dX10_readsThing_117 (by decide) ?_
        exact aw_zret rfl rfl dX10_readsThing_118 ⟨rfl, _, rfl, h⟩
    · have h := sw_if.f h c_8
      refine aw_iconst (v := 0) dX10_readsThing_30 (by decide) ?_
      refine aw_istore_n (lv' := [(1, .int 0), (0, .ref (sz + 131))]) dX10_readsThing_31 rfl (by decide) rfl ?_
      refine aw_iconst (v := 0) dX10_readsThing_32 (by decide) ?_
      refine aw_istore_n (lv' := [(2, .int 0), (1, .int 0), (0, .ref (sz + 131))]) dX10_readsThing_33 rfl (by decide) rfl ?_
      refine aw_sub [2, 1, 0] rfl ?_
      obtain ⟨n_35, h⟩ := h
      exact tl_X10_readsThing_34 hG hC_X10_readsThing hC_X10_readsRank  n_35 0 0 I_6 J_7 h
  · have h := sw_if.f h c_4
    refine aw_aload_n 0 dX10_readsThing_9 rfl rfl ?_
    refine aw_callV wv_X10_readsThing (hC_X10_readsThing h) ml_X10_147 rfl (by decide) (lk131 hG) rfl rfl (Nat.le_of_ble_eq_true rfl) ⟨rfl, rfl⟩ ⟨by simp only [rm_X10_readsThing]; omega, by simp only [rm_X10_readsThing]; omega⟩ ⟨Nat.le_refl _, Nat.le_refl _⟩ dX10_readsThing_10 (aw_ki fun r_36 I_37 J_38 h => ?_)
    refine aw_istore_n (lv' := [(1, .int r_36), (0, .ref (sz + 131))]) dX10_readsThing_13 rfl (by decide) rfl ?_
    refine aw_aload_n 1 dX10_readsThing_14 rfl rfl ?_
    refine aw_sipush (v := 3000) dX10_readsThing_15 (by decide) ?_
    refine aw_callV wv_X10_codes (M_X10_codes hG  h) ml_X10_150 rfl (by decide) (lk131 hG) rfl rfl (Nat.le_of_ble_eq_true rfl) ⟨rfl, rfl⟩ ⟨by simp only [rm_X10_readsThing, rm_X10_codes]; omega, by simp only [rm_X10_readsThing, rm_X10_codes]; omega⟩ ⟨Nat.le_refl _, Nat.le_refl _⟩ dX10_readsThing_18 (aw_kv fun I_40 J_41 h => ?_)
    refine aw_iload_n 0 dX10_readsThing_21 rfl rfl ?_
    exact aw_zret rfl (sw_bool h.1).1 dX10_readsThing_22 ⟨rfl, _, rfl, h.2⟩
set_option maxRecDepth 20000 in
theorem t_X10_readsRank_119 {l : Launch} {D : va_G} {cy : Nat → ClassId} {sz : Nat} {G : sw_G} (hG : sw_lay G) {C_X10_readsThing : sw_I → sw_J → (Int32 → sw_I → sw_J → Prop) → Prop} {C_X10_readsRank : Int32 → sw_I → sw_J → (Int32 → sw_I → sw_J → Prop) → Prop} {dd : Nat} (hC_X10_readsThing : ∀  {I : sw_I} {J : sw_J} {Q : Int32 → sw_I → sw_J → Prop}, C_X10_readsThing  I J Q → Met l yX10_readsThing (Cond.code yX10_readsThing cX10_readsThing 3 (some .boolean) :: sw_T) (rm_X10_readsThing dd) (sw_Pc D cy sz [.ref (sz + 131)] G I J) (sw_Q D cy sz (sw_qi G Q)) 0 0 (fun q => sz ≤ q)) (hC_X10_readsRank : ∀ {x1 : Int32} {I : sw_I} {J : sw_J} {Q : Int32 → sw_I → sw_J → Prop}, C_X10_readsRank x1 I J Q → Met l yX10_readsRank (Cond.code yX10_readsRank cX10_readsRank 4 (some .boolean) :: sw_T) (rm_X10_readsThing dd) (sw_Pc D cy sz [.ref (sz + 131), .int x1] G I J) (sw_Q D cy sz (sw_qi G Q)) 0 0 (fun q => sz ≤ q)) {Q : Int32 → sw_I → sw_J → Prop} {K24 : Int32 → Int32 → sw_I → sw_J → Prop} (hK24 : ∀ (x1 : Int32) (x2 : Int32) (I : sw_I) (J : sw_J), K24 x1 x2 I J → AW l D cy sz RX10 cX10_readsRank 4 (some .boolean) false (rm_X10_readsThing (dd + 1)) 0 0 (sw_qi G Q) 0 0 G I J 24 [(0, .ref (sz + 131)), (1, .int x1), (2, .int x2)] []) {x1 : Int32} {s0 : Int32} {I : sw_I} {J : sw_J} (h : wB_X10_readsRank_119 C_X10_readsThing C_X10_readsRank K24 Q x1 s0 I J) : AW l D cy sz RX10 cX10_readsRank 4 (some .boolean) false (rm_X10_readsThing (dd + 1)) 0 0 (sw_qi G Q) 0 0 G I J 119 [(0, .ref (sz + 131)), (1, .int x1)] [.int s0] := by
  unfold wB_X10_readsRank_119 at h
  refine aw_istore_n (lv' := [(2, .int s0), (0, .ref (sz + 131)), (1, .int x1)]) dX10_readsRank_119 rfl (by decide) rfl ?_
  refine aw_goto 24 dX10_readsRank_120 (by decide) ?_
  refine aw_sub [1, 2, 0] rfl ?_
  exact hK24 x1 s0 I J h
set_option maxRecDepth 20000 in
theorem t_X10_readsRank_106 {l : Launch} {D : va_G} {cy : Nat → ClassId} {sz : Nat} {G : sw_G} (hG : sw_lay G) {C_X10_readsThing : sw_I → sw_J → (Int32 → sw_I → sw_J → Prop) → Prop} {C_X10_readsRank : Int32 → sw_I → sw_J → (Int32 → sw_I → sw_J → Prop) → Prop} {dd : Nat} (hC_X10_readsThing : ∀  {I : sw_I} {J : sw_J} {Q : Int32 → sw_I → sw_J → Prop}, C_X10_readsThing  I J Q → Met l yX10_readsThing (Cond.code yX10_readsThing cX10_readsThing 3 (some .boolean) :: sw_T) (rm_X10_readsThing dd) (sw_Pc D cy sz [.ref (sz + 131)] G I J) (sw_Q D cy sz (sw_qi G Q)) 0 0 (fun q => sz ≤ q)) (hC_X10_readsRank : ∀ {x1 : Int32} {I : sw_I} {J : sw_J} {Q : Int32 → sw_I → sw_J → Prop}, C_X10_readsRank x1 I J Q → Met l yX10_readsRank (Cond.code yX10_readsRank cX10_readsRank 4 (some .boolean) :: sw_T) (rm_X10_readsThing dd) (sw_Pc D cy sz [.ref (sz + 131), .int x1] G I J) (sw_Q D cy sz (sw_qi G Q)) 0 0 (fun q => sz ≤ q)) {Q : Int32 → sw_I → sw_J → Prop} {K24 : Int32 → Int32 → sw_I → sw_J → Prop} (hK24 : ∀ (x1 : Int32) (x2 : Int32) (I : sw_I) (J : sw_J), K24 x1 x2 I J → AW l D cy sz RX10 cX10_readsRank 4 (some .boolean) false (rm_X10_readsThing (dd + 1)) 0 0 (sw_qi G Q) 0 0 G I J 24 [(0, .ref (sz + 131)), (1, .int x1), (2, .int x2)] []) {x1 : Int32} {s1 : Int32} {s2 : Int32} {I : sw_I} {J : sw_J} (h : wB_X10_readsRank_106 C_X10_readsThing C_X10_readsRank K24 Q x1 s1 s2 I J) : AW l D cy sz RX10 cX10_readsRank 4 (some .boolean) false (rm_X10_readsThing (dd + 1)) 0 0 (sw_qi G Q) 0 0 G I J 106 [(0, .ref (sz + 131)), (1, .int x1)] [.int s2, .int s1, .ref (sz + 131)] := by
  unfold wB_X10_readsRank_106 at h
  refine aw_iadd dX10_readsRank_106 ?_
  refine aw_callV wv_X10_codes (M_X10_codes hG  h) ml_X10_150 rfl (by decide) (lk131 hG) rfl rfl (Nat.le_of_ble_eq_true rfl) ⟨rfl, rfl⟩ ⟨by simp only [rm_X10_readsThing, rm_X10_codes]; omega, by simp only [rm_X10_readsThing, rm_X10_codes]; omega⟩ ⟨Nat.le_refl _, Nat.le_refl _⟩ dX10_readsRank_107 (aw_kv fun I_2 J_3 h => ?_)
  refine aw_iload_n 1 dX10_readsRank_110 rfl rfl ?_
  refine aw_zle 118 dX10_readsRank_111 (by decide) (fun c_4 => ?_) (fun c_4 => ?_)
  · have h := sw_if.f h c_4
    refine aw_iconst (v := 0) dX10_readsRank_118 (by decide) ?_
    refine aw_sub [0, 1] rfl ?_
    exact t_X10_readsRank_119 hG hC_X10_readsThing hC_X10_readsRank hK24 h
  · have h := sw_if.t h c_4
    refine aw_iconst (v := 1) dX10_readsRank_114 (by decide) ?_
    refine aw_goto 119 dX10_readsRank_115 (by decide) ?_
    refine aw_sub [0, 1] rfl ?_
    exact t_X10_readsRank_119 hG hC_X10_readsThing hC_X10_readsRank hK24 h
set_option maxRecDepth 20000 in
theorem tb_X10_readsRank_24 {l : Launch} {D : va_G} {cy : Nat → ClassId} {sz : Nat} {G : sw_G} (hG : sw_lay G) {C_X10_readsThing : sw_I → sw_J → (Int32 → sw_I → sw_J → Prop) → Prop} {C_X10_readsRank : Int32 → sw_I → sw_J → (Int32 → sw_I → sw_J → Prop) → Prop} {dd : Nat} (hC_X10_readsThing : ∀  {I : sw_I} {J : sw_J} {Q : Int32 → sw_I → sw_J → Prop}, C_X10_readsThing  I J Q → Met l yX10_readsThing (Cond.code yX10_readsThing cX10_readsThing 3 (some .boolean) :: sw_T) (rm_X10_readsThing dd) (sw_Pc D cy sz [.ref (sz + 131)] G I J) (sw_Q D cy sz (sw_qi G Q)) 0 0 (fun q => sz ≤ q)) (hC_X10_readsRank : ∀ {x1 : Int32} {I : sw_I} {J : sw_J} {Q : Int32 → sw_I → sw_J → Prop}, C_X10_readsRank x1 I J Q → Met l yX10_readsRank (Cond.code yX10_readsRank cX10_readsRank 4 (some .boolean) :: sw_T) (rm_X10_readsThing dd) (sw_Pc D cy sz [.ref (sz + 131), .int x1] G I J) (sw_Q D cy sz (sw_qi G Q)) 0 0 (fun q => sz ≤ q)) {Q : Int32 → sw_I → sw_J → Prop} {K24 : Int32 → Int32 → sw_I → sw_J → Prop} (hK24 : ∀ (x1 : Int32) (x2 : Int32) (I : sw_I) (J : sw_J), K24 x1 x2 I J → AW l D cy sz RX10 cX10_readsRank 4 (some .boolean) false (rm_X10_readsThing (dd + 1)) 0 0 (sw_qi G Q) 0 0 G I J 24 [(0, .ref (sz + 131)), (1, .int x1), (2, .int x2)] []) {x1 : Int32} {x2 : Int32} {I : sw_I} {J : sw_J} (h : wb_X10_readsRank_24 C_X10_readsThing C_X10_readsRank K24 Q x1 x2 I J) : AW l D cy sz RX10 cX10_readsRank 4 (some .boolean) false (rm_X10_readsThing (dd + 1)) 0 0 (sw_qi G Q) 0 0 G I J 24 [(0, .ref (sz + 131)), (1, .int x1), (2, .int x2)] [] := by
  unfold wb_X10_readsRank_24 at h
  refine aw_iload_n 2 dX10_readsRank_24 rfl rfl ?_
  refine aw_zeq 123 dX10_readsRank_25 (by decide) (fun c_1 => ?_) (fun c_1 => ?_)
  · have h := sw_if.t h c_1
    refine aw_iconst (v := 1) dX10_readsRank_123 (by decide) ?_
    exact aw_zret rfl rfl dX10_readsRank_124 ⟨rfl, _, rfl, h⟩
  · have h := sw_if.f h c_1
    refine aw_aload_n 0 dX10_readsRank_28 rfl rfl ?_
    refine aw_iload_n 1 dX10_readsRank_29 rfl rfl ?_
    refine aw_zne 38 dX10_readsRank_30 (by decide) (fun c_2 => ?_) (fun c_2 => ?_)
    · have h := sw_if.f h c_2
      refine aw_iload_n 1 dX10_readsRank_38 rfl rfl ?_
      refine aw_iconst (v := 1) dX10_readsRank_39 (by decide) ?_
      refine aw_jne 48 dX10_readsRank_40 (by decide) (fun c_3 => ?_) (fun c_3 => ?_)
      · have h := sw_if.f h c_3
        refine aw_ldcS (i := 3) rfl (by decide) rfl sw_sr3 dX10_readsRank_48 ?_
        refine aw_callV wv_X10_among (M_X10_among hG (by decide) h) ml_X10_156 rfl (by decide) (lk131 hG) rfl rfl (Nat.le_of_ble_eq_true rfl) ⟨rfl, rfl⟩ ⟨by simp only [rm_X10_readsThing, rm_X10_among]; omega, by simp only [rm_X10_readsThing, rm_X10_among]; omega⟩ ⟨Nat.le_refl _, Nat.le_refl _⟩ dX10_readsRank_50 (aw_ki fun r_4 I_5 J_6 h => ?_)
        refine aw_istore_n (lv' := [(3, .int r_4), (0, .ref (sz + 131)), (1, .int x1), (2, .int x2)]) dX10_readsRank_53 rfl (by decide) rfl ?_
        refine aw_iload_n 0 dX10_readsRank_54 rfl rfl ?_
        refine aw_zge 60 dX10_readsRank_55 (by decide) (fun c_7 => ?_) (fun c_7 => ?_)
        · have h := sw_if.f h c_7
          refine aw_aload_n 1 dX10_readsRank_60 rfl rfl ?_
          refine aw_dup dX10_readsRank_61 rfl ?_
          refine gf_X10_13 fl_X10_39 (lk131 hG) dX10_readsRank_62 ?_
          refine aw_iconst (v := 1) dX10_readsRank_65 (by decide) ?_
          refine aw_iadd dX10_readsRank_66 ?_
          refine pf_X10_13 fl_X10_39 (lk131 hG) dX10_readsRank_67 (aw_nameI fun I_8 e_9 => ?_)
          have h := h I_8 e_9
          refine aw_aload_n 1 dX10_readsRank_70 rfl rfl ?_
          refine aw_iload_n 2 dX10_readsRank_71 rfl rfl ?_
          refine aw_iconst (v := 1) dX10_readsRank_72 (by decide) ?_
          refine aw_iadd dX10_readsRank_73 ?_
          refine aw_callV wv_X10_readsRank (hC_X10_readsRank h) ml_X10_160 rfl (by decide) (lk131 hG) rfl rfl (Nat.le_of_ble_eq_true rfl) ⟨rfl, rfl⟩ ⟨by simp only [rm_X10_readsThing]; omega, by simp only [rm_X10_readsThing]; omega⟩ ⟨Nat.le_refl _, Nat.le_refl _⟩ dX10_readsRank_74 (aw_ki fun r_10 I_11 J_12 h => ?_)
          refine aw_zne 82 dX10_readsRank_77 (by decide) (fun c_13 => ?_) (fun c_13 => ?_)
          · have h := sw_if.f h c_13
            refine aw_aload_n 1 dX10_readsRank_82 rfl rfl ?_
            refine aw_sipush (v := 2000) dX10_readsRank_83 (by decide) ?_
            refine aw_iload_n 0 dX10_readsRank_86 rfl rfl ?_
            refine aw_iadd dX10_readsRank_87 ?_
            refine aw_iload_n 2 dX10_readsRank_88 rfl rfl ?_
            refine aw_zne 96 dX10_readsRank_89 (by decide) (fun c_14 => ?_) (fun c_14 => ?_)
            · have h := sw_if.f h c_14
              refine aw_iload_n 2 dX10_readsRank_96 rfl rfl ?_
              refine aw_iconst (v := 1) dX10_readsRank_97 (by decide) ?_
              refine aw_jne 105 dX10_readsRank_98 (by decide) (fun c_15 => ?_) (fun c_15 => ?_)
              · have h := sw_if.f h c_15
                refine aw_iconst (v := 5) dX10_readsRank_105 (by decide) ?_
                refine aw_sub [1, 2] rfl ?_
                exact t_X10_readsRank_106 hG hC_X10_readsThing hC_X10_readsRank hK24 h
              · have h := sw_if.t h c_15
                refine aw_iconst (v := 3) dX10_readsRank_101 (by decide) ?_
                refine aw_goto 106 dX10_readsRank_102 (by decide) ?_
                refine aw_sub [1, 2] rfl ?_
                exact t_X10_readsRank_106 hG hC_X10_readsThing hC_X10_readsRank hK24 h
            · have h := sw_if.t h c_14
              refine aw_iconst (v := 0) dX10_readsRank_92 (by decide) ?_
              refine aw_goto 106 dX10_readsRank_93 (by decide) ?_
              refine aw_sub [1, 2] rfl ?_
              exact t_X10_readsRank_106 hG hC_X10_readsThing hC_X10_readsRank hK24 h
          · have h := sw_if.t h c_13
            refine aw_iconst (v := 0) dX10_readsRank_80 (by decide) ?_
            exact aw_zret rfl rfl dX10_readsRank_81 ⟨rfl, _, rfl, h⟩
        · have h := sw_if.t h c_7
          refine aw_iconst (v := 1) dX10_readsRank_58 (by decide) ?_
          exact aw_zret rfl rfl dX10_readsRank_59 ⟨rfl, _, rfl, h⟩
      · have h := sw_if.t h c_3
        refine aw_ldcS (i := 2) rfl (by decide) rfl sw_sr2 dX10_readsRank_43 ?_
        refine aw_goto 50 dX10_readsRank_45 (by decide) ?_
        refine aw_callV wv_X10_among (M_X10_among hG (by decide) h) ml_X10_156 rfl (by decide) (lk131 hG) rfl rfl (Nat.le_of_ble_eq_true rfl) ⟨rfl, rfl⟩ ⟨by simp only [rm_X10_readsThing, rm_X10_among]; omega, by simp only [rm_X10_readsThing, rm_X10_among]; omega⟩ ⟨Nat.le_refl _, Nat.le_refl _⟩ dX10_readsRank_50 (aw_ki fun r_16 I_17 J_18 h => ?_)
        refine aw_istore_n (lv' := [(3, .int r_16), (0, .ref (sz + 131)), (1, .int x1), (2, .int x2)]) dX10_readsRank_53 rfl (by decide) rfl ?_
        refine aw_iload_n 0 dX10_readsRank_54 rfl rfl ?_
        refine aw_zge 60 dX10_readsRank_55 (by decide) (fun c_19 => ?_) (fun c_19 => ?_)
        · have h := sw_if.f h c_19
          refine aw_aload_n 1 dX10_readsRank_60 rfl rfl ?_
          refine aw_dup dX10_readsRank_61 rfl ?_
          refine gf_X10_13 fl_X10_39 (lk131 hG) dX10_readsRank_62 ?_
          refine aw_iconst (v := 1) dX10_readsRank_65 (by decide) ?_
          refine aw_iadd dX10_readsRank_66 ?_
          refine pf_X10_13 fl_X10_39 (lk131 hG) dX10_readsRank_67 (aw_nameI fun I_20 e_21 => ?_)
          have h := h I_20 e_21
          refine aw_aload_n 1 dX10_readsRank_70 rfl rfl ?_
          refine aw_iload_n 2 dX10_readsRank_71 rfl rfl ?_
          refine aw_iconst (v := 1) dX10_readsRank_72 (by decide) ?_
          refine aw_iadd dX10_readsRank_73 ?_
          refine aw_callV wv_X10_readsRank (hC_X10_readsRank h) ml_X10_160 rfl (by decide) (lk131 hG) rfl rfl (Nat.le_of_ble_eq_true rfl) ⟨rfl, rfl⟩ ⟨by simp only [rm_X10_readsThing]; omega, by simp only [rm_X10_readsThing]; omega⟩ ⟨Nat.le_refl _, Nat.le_refl _⟩ dX10_readsRank_74 (aw_ki fun r_22 I_23 J_24 h => ?_)
          refine aw_zne 82 dX10_readsRank_77 (by decide) (fun c_25 => ?_) (fun c_25 => ?_)
          · have h := sw_if.f h c_25
            refine aw_aload_n 1 dX10_readsRank_82 rfl rfl ?_
            refine aw_sipush (v := 2000) dX10_readsRank_83 (by decide) ?_
            refine aw_iload_n 0 dX10_readsRank_86 rfl rfl ?_
            refine aw_iadd dX10_readsRank_87 ?_
            refine aw_iload_n 2 dX10_readsRank_88 rfl rfl ?_
            refine aw_zne 96 dX10_readsRank_89 (by decide) (fun c_26 => ?_) (fun c_26 => ?_)
            · have h := sw_if.f h c_26
              refine aw_iload_n 2 dX10_readsRank_96 rfl rfl ?_
              refine aw_iconst (v := 1) dX10_readsRank_97 (by decide) ?_
              refine aw_jne 105 dX10_readsRank_98 (by decide) (fun c_27 => ?_) (fun c_27 => ?_)
              · have h := sw_if.f h c_27
                refine aw_iconst (v := 5) dX10_readsRank_105 (by decide) ?_
                refine aw_sub [1, 2] rfl ?_
                exact t_X10_readsRank_106 hG hC_X10_readsThing hC_X10_readsRank hK24 h
              · have h := sw_if.t h c_27
                refine aw_iconst (v := 3) dX10_readsRank_101 (by decide) ?_
                refine aw_goto 106 dX10_readsRank_102 (by decide) ?_
                refine aw_sub [1, 2] rfl ?_
                exact t_X10_readsRank_106 hG hC_X10_readsThing hC_X10_readsRank hK24 h
            · have h := sw_if.t h c_26
              refine aw_iconst (v := 0) dX10_readsRank_92 (by decide) ?_
              refine aw_goto 106 dX10_readsRank_93 (by decide) ?_
              refine aw_sub [1, 2] rfl ?_
              exact t_X10_readsRank_106 hG hC_X10_readsThing hC_X10_readsRank hK24 h
          · have h := sw_if.t h c_25
            refine aw_iconst (v := 0) dX10_readsRank_80 (by decide) ?_
            exact aw_zret rfl rfl dX10_readsRank_81 ⟨rfl, _, rfl, h⟩
        · have h := sw_if.t h c_19
          refine aw_iconst (v := 1) dX10_readsRank_58 (by decide) ?_
          exact aw_zret rfl rfl dX10_readsRank_59 ⟨rfl, _, rfl, h⟩
    · have h := sw_if.t h c_2
      refine aw_ldcS (i := 1) rfl (by decide) rfl sw_sr1 dX10_readsRank_33 ?_
      refine aw_goto 50 dX10_readsRank_35 (by decide) ?_
      refine aw_callV wv_X10_among (M_X10_among hG (by decide) h) ml_X10_156 rfl (by decide) (lk131 hG) rfl rfl (Nat.le_of_ble_eq_true rfl) ⟨rfl, rfl⟩ ⟨by simp only [rm_X10_readsThing, rm_X10_among]; omega, by simp only [rm_X10_readsThing, rm_X10_among]; omega⟩ ⟨Nat.le_refl _, Nat.le_refl _⟩ dX10_readsRank_50 (aw_ki fun r_28 I_29 J_30 h => ?_)
      refine aw_istore_n (lv' := [(3, .int r_28), (0, .ref (sz + 131)), (1, .int x1), (2, .int x2)]) dX10_readsRank_53 rfl (by decide) rfl ?_
      refine aw_iload_n 0 dX10_readsRank_54 rfl rfl ?_
      refine aw_zge 60 dX10_readsRank_55 (by decide) (fun c_31 => ?_) (fun c_31 => ?_)
      · have h := sw_if.f h c_31
        refine aw_aload_n 1 dX10_readsRank_60 rfl rfl ?_
        refine aw_dup dX10_readsRank_61 rfl ?_
        refine gf_X10_13 fl_X10_39 (lk131 hG) dX10_readsRank_62 ?_
        refine aw_iconst (v := 1) dX10_readsRank_65 (by decide) ?_
        refine aw_iadd dX10_readsRank_66 ?_
        refine pf_X10_13 fl_X10_39 (lk131 hG) dX10_readsRank_67 (aw_nameI fun I_32 e_33 => ?_)
        have h := h I_32 e_33
        refine aw_aload_n 1 dX10_readsRank_70 rfl rfl ?_
        refine aw_iload_n 2 dX10_readsRank_71 rfl rfl ?_
        refine aw_iconst (v := 1) dX10_readsRank_72 (by decide) ?_
        refine aw_iadd dX10_readsRank_73 ?_
        refine aw_callV wv_X10_readsRank (hC_X10_readsRank h) ml_X10_160 rfl (by decide) (lk131 hG) rfl rfl (Nat.le_of_ble_eq_true rfl) ⟨rfl, rfl⟩ ⟨by simp only [rm_X10_readsThing]; omega, by simp only [rm_X10_readsThing]; omega⟩ ⟨Nat.le_refl _, Nat.le_refl _⟩ dX10_readsRank_74 (aw_ki fun r_34 I_35 J_36 h => ?_)
        refine aw_zne 82 dX10_readsRank_77 (by decide) (fun c_37 => ?_) (fun c_37 => ?_)
        · have h := sw_if.f h c_37
          refine aw_aload_n 1 dX10_readsRank_82 rfl rfl ?_
          refine aw_sipush (v := 2000) dX10_readsRank_83 (by decide) ?_
          refine aw_iload_n 0 dX10_readsRank_86 rfl rfl ?_
          refine aw_iadd dX10_readsRank_87 ?_
          refine aw_iload_n 2 dX10_readsRank_88 rfl rfl ?_
          refine aw_zne 96 dX10_readsRank_89 (by decide) (fun c_38 => ?_) (fun c_38 => ?_)
          · have h := sw_if.f h c_38
            refine aw_iload_n 2 dX10_readsRank_96 rfl rfl ?_
            refine aw_iconst (v := 1) dX10_readsRank_97 (by decide) ?_
            refine aw_jne 105 dX10_readsRank_98 (by decide) (fun c_39 => ?_) (fun c_39 => ?_)
            · have h := sw_if.f h c_39
              refine aw_iconst (v := 5) dX10_readsRank_105 (by decide) ?_
              refine aw_sub [1, 2] rfl ?_
              exact t_X10_readsRank_106 hG hC_X10_readsThing hC_X10_readsRank hK24 h
            · have h := sw_if.t h c_39
              refine aw_iconst (v := 3) dX10_readsRank_101 (by decide) ?_
              refine aw_goto 106 dX10_readsRank_102 (by decide) ?_
              refine aw_sub [1, 2] rfl ?_
              exact t_X10_readsRank_106 hG hC_X10_readsThing hC_X10_readsRank hK24 h
          · have h := sw_if.t h c_38
            refine aw_iconst (v := 0) dX10_readsRank_92 (by decide) ?_
            refine aw_goto 106 dX10_readsRank_93 (by decide) ?_
            refine aw_sub [1, 2] rfl ?_
            exact t_X10_readsRank_106 hG hC_X10_readsThing hC_X10_readsRank hK24 h
        · have h := sw_if.t h c_37
          refine aw_iconst (v := 0) dX10_readsRank_80 (by decide) ?_
          exact aw_zret rfl rfl dX10_readsRank_81 ⟨rfl, _, rfl, h⟩
      · have h := sw_if.t h c_31
        refine aw_iconst (v := 1) dX10_readsRank_58 (by decide) ?_
        exact aw_zret rfl rfl dX10_readsRank_59 ⟨rfl, _, rfl, h⟩
set_option maxRecDepth 20000 in
theorem tl_X10_readsRank_24 {l : Launch} {D : va_G} {cy : Nat → ClassId} {sz : Nat} {G : sw_G} (hG : sw_lay G) {C_X10_readsThing : sw_I → sw_J → (Int32 → sw_I → sw_J → Prop) → Prop} {C_X10_readsRank : Int32 → sw_I → sw_J → (Int32 → sw_I → sw_J → Prop) → Prop} {dd : Nat} (hC_X10_readsThing : ∀  {I : sw_I} {J : sw_J} {Q : Int32 → sw_I → sw_J → Prop}, C_X10_readsThing  I J Q → Met l yX10_readsThing (Cond.code yX10_readsThing cX10_readsThing 3 (some .boolean) :: sw_T) (rm_X10_readsThing dd) (sw_Pc D cy sz [.ref (sz + 131)] G I J) (sw_Q D cy sz (sw_qi G Q)) 0 0 (fun q => sz ≤ q)) (hC_X10_readsRank : ∀ {x1 : Int32} {I : sw_I} {J : sw_J} {Q : Int32 → sw_I → sw_J → Prop}, C_X10_readsRank x1 I J Q → Met l yX10_readsRank (Cond.code yX10_readsRank cX10_readsRank 4 (some .boolean) :: sw_T) (rm_X10_readsThing dd) (sw_Pc D cy sz [.ref (sz + 131), .int x1] G I J) (sw_Q D cy sz (sw_qi G Q)) 0 0 (fun q => sz ≤ q)) {Q : Int32 → sw_I → sw_J → Prop} : ∀ (n : Nat) (x1 : Int32) (x2 : Int32) (I : sw_I) (J : sw_J), wl_X10_readsRank_24 C_X10_readsThing C_X10_readsRank  Q n x1 x2 I J → AW l D cy sz RX10 cX10_readsRank 4 (some .boolean) false (rm_X10_readsThing (dd + 1)) 0 0 (sw_qi G Q) 0 0 G I J 24 [(0, .ref (sz + 131)), (1, .int x1), (2, .int x2)] [] := by
  intro n
  induction n with
  | zero => intro x1 x2 I J h; exact False.elim h
  | succ n ih => intro x1 x2 I J h; exact tb_X10_readsRank_24 hG hC_X10_readsThing hC_X10_readsRank ih h
set_option maxRecDepth 20000 in
theorem t_X10_readsRank {l : Launch} {D : va_G} {cy : Nat → ClassId} {sz : Nat} {G : sw_G} (hG : sw_lay G) {C_X10_readsThing : sw_I → sw_J → (Int32 → sw_I → sw_J → Prop) → Prop} {C_X10_readsRank : Int32 → sw_I → sw_J → (Int32 → sw_I → sw_J → Prop) → Prop} {dd : Nat} (hC_X10_readsThing : ∀  {I : sw_I} {J : sw_J} {Q : Int32 → sw_I → sw_J → Prop}, C_X10_readsThing  I J Q → Met l yX10_readsThing (Cond.code yX10_readsThing cX10_readsThing 3 (some .boolean) :: sw_T) (rm_X10_readsThing dd) (sw_Pc D cy sz [.ref (sz + 131)] G I J) (sw_Q D cy sz (sw_qi G Q)) 0 0 (fun q => sz ≤ q)) (hC_X10_readsRank : ∀ {x1 : Int32} {I : sw_I} {J : sw_J} {Q : Int32 → sw_I → sw_J → Prop}, C_X10_readsRank x1 I J Q → Met l yX10_readsRank (Cond.code yX10_readsRank cX10_readsRank 4 (some .boolean) :: sw_T) (rm_X10_readsThing dd) (sw_Pc D cy sz [.ref (sz + 131), .int x1] G I J) (sw_Q D cy sz (sw_qi G Q)) 0 0 (fun q => sz ≤ q)) {Q : Int32 → sw_I → sw_J → Prop} {x1 : Int32} {I : sw_I} {J : sw_J} (h : wpb_X10_readsRank C_X10_readsThing C_X10_readsRank x1 I J Q) : AW l D cy sz RX10 cX10_readsRank 4 (some .boolean) false (rm_X10_readsThing (dd + 1)) 0 0 (sw_qi G Q) 0 0 G I J 0 [(0, .ref (sz + 131)), (1, .int x1)] [] := by
  unfold wpb_X10_readsRank at h
  refine aw_iload_n 1 dX10_readsRank_0 rfl rfl ?_
  refine aw_iconst (v := 3) dX10_readsRank_1 (by decide) ?_
  refine aw_jne 10 dX10_readsRank_2 (by decide) (fun c_1 => ?_) (fun c_1 => ?_)
  · have h := sw_if.f h c_1
    refine aw_aload_n 0 dX10_readsRank_10 rfl rfl ?_
    refine aw_iload_n 1 dX10_readsRank_11 rfl rfl ?_
    refine aw_iconst (v := 1) dX10_readsRank_12 (by decide) ?_
    refine aw_iadd dX10_readsRank_13 ?_
    refine aw_callV wv_X10_readsRank (hC_X10_readsRank h) ml_X10_160 rfl (by decide) (lk131 hG) rfl rfl (Nat.le_of_ble_eq_true rfl) ⟨rfl, rfl⟩ ⟨by simp only [rm_X10_readsThing]; omega, by simp only [rm_X10_readsThing]; omega⟩ ⟨Nat.le_refl _, Nat.le_refl _⟩ dX10_readsRank_14 (aw_ki fun r_2 I_3 J_4 h => ?_)
    refine aw_zne 22 dX10_readsRank_17 (by decide) (fun c_5 => ?_) (fun c_5 => ?_)
    · have h := sw_if.f h c_5
      refine aw_iconst (v := 1) dX10_readsRank_22 (by decide) ?_
      refine aw_istore_n (lv' := [(2, .int 1), (0, .ref (sz + 131)), (1, .int x1)]) dX10_readsRank_23 rfl (by decide) rfl ?_
      refine aw_sub [1, 2, 0] rfl ?_
      obtain ⟨n_6, h⟩ := h
      exact tl_X10_readsRank_24 hG hC_X10_readsThing hC_X10_readsRank  n_6 x1 1 I_3 J_4 h
    · have h := sw_if.t h c_5
      refine aw_iconst (v := 0) dX10_readsRank_20 (by decide) ?_
      exact aw_zret rfl rfl dX10_readsRank_21 ⟨rfl, _, rfl, h⟩
  · have h := sw_if.t h c_1
    refine aw_aload_n 0 dX10_readsRank_5 rfl rfl ?_
    refine aw_callV wv_X10_readsThing (hC_X10_readsThing h) ml_X10_147 rfl (by decide) (lk131 hG) rfl rfl (Nat.le_of_ble_eq_true rfl) ⟨rfl, rfl⟩ ⟨by simp only [rm_X10_readsThing]; omega, by simp only [rm_X10_readsThing]; omega⟩ ⟨Nat.le_refl _, Nat.le_refl _⟩ dX10_readsRank_6 (aw_ki fun r_7 I_8 J_9 h => ?_)
    exact aw_zret rfl (sw_bool h.1).1 dX10_readsRank_9 ⟨rfl, _, rfl, h.2⟩
def wpg_X10_readsThing : Nat → (sw_I → sw_J → (Int32 → sw_I → sw_J → Prop) → Prop) × (Int32 → sw_I → sw_J → (Int32 → sw_I → sw_J → Prop) → Prop)
  | 0 => (fun  _ _ _ => False, fun _ _ _ _ => False)
  | d + 1 => (wpb_X10_readsThing (wpg_X10_readsThing d).1 (wpg_X10_readsThing d).2, wpb_X10_readsRank (wpg_X10_readsThing d).1 (wpg_X10_readsThing d).2)
abbrev wp_X10_readsThing (d : Nat) := (wpg_X10_readsThing d).1
abbrev wp_X10_readsRank (d : Nat) := (wpg_X10_readsThing d).2
theorem MG_X10_readsThing {l : Launch} {D : va_G} {cy : Nat → ClassId} {sz : Nat} {G : sw_G} (hG : sw_lay G) : ∀ d : Nat, (∀  {I : sw_I} {J : sw_J} {Q : Int32 → sw_I → sw_J → Prop}, wp_X10_readsThing d  I J Q → Met l yX10_readsThing (Cond.code yX10_readsThing cX10_readsThing 3 (some .boolean) :: sw_T) (rm_X10_readsThing d) (sw_Pc D cy sz [.ref (sz + 131)] G I J) (sw_Q D cy sz (sw_qi G Q)) 0 0 (fun q => sz ≤ q)) ∧ (∀ {x1 : Int32} {I : sw_I} {J : sw_J} {Q : Int32 → sw_I → sw_J → Prop}, wp_X10_readsRank d x1 I J Q → Met l yX10_readsRank (Cond.code yX10_readsRank cX10_readsRank 4 (some .boolean) :: sw_T) (rm_X10_readsThing d) (sw_Pc D cy sz [.ref (sz + 131), .int x1] G I J) (sw_Q D cy sz (sw_qi G Q)) 0 0 (fun q => sz ≤ q)) := by
  intro d
  induction d with
  | zero => exact ⟨fun h => False.elim h, fun h => False.elim h⟩
  | succ d ih => exact ⟨fun h => sw_met (by decide) (fun q => by cases q) (Nat.le_of_ble_eq_true rfl) rfl (t_X10_readsThing hG ih.1 ih.2 h), fun h => sw_met (by decide) (fun q => by cases q) (Nat.le_of_ble_eq_true rfl) rfl (t_X10_readsRank hG ih.1 ih.2 h)⟩
theorem M_X10_readsThing {l : Launch} {D : va_G} {cy : Nat → ClassId} {sz : Nat} {G : sw_G} (hG : sw_lay G) (d : Nat) : ∀  {I : sw_I} {J : sw_J} {Q : Int32 → sw_I → sw_J → Prop}, wp_X10_readsThing d  I J Q → Met l yX10_readsThing (Cond.code yX10_readsThing cX10_readsThing 3 (some .boolean) :: sw_T) (rm_X10_readsThing d) (sw_Pc D cy sz [.ref (sz + 131)] G I J) (sw_Q D cy sz (sw_qi G Q)) 0 0 (fun q => sz ≤ q) := (MG_X10_readsThing hG d).1
theorem M_X10_readsRank {l : Launch} {D : va_G} {cy : Nat → ClassId} {sz : Nat} {G : sw_G} (hG : sw_lay G) (d : Nat) : ∀ {x1 : Int32} {I : sw_I} {J : sw_J} {Q : Int32 → sw_I → sw_J → Prop}, wp_X10_readsRank d x1 I J Q → Met l yX10_readsRank (Cond.code yX10_readsRank cX10_readsRank 4 (some .boolean) :: sw_T) (rm_X10_readsThing d) (sw_Pc D cy sz [.ref (sz + 131), .int x1] G I J) (sw_Q D cy sz (sw_qi G Q)) 0 0 (fun q => sz ≤ q) := (MG_X10_readsThing hG d).2
-- X0_nextPlace
abbrev rm_X0_nextPlace : Room := { frames := 1, cells := 0, slots := 0, locals := 20 }
def wB_X0_nextPlace_72   (Q : Int32 → sw_I → sw_J → Prop) (x1 : Int32) (I : sw_I) (J : sw_J) : Prop :=
  sw_if (x1 = (59 : Int32)) (Q (0 : Int32) I J) (Q (-1 : Int32) I J)
def wB_X0_nextPlace_115   (Q : Int32 → sw_I → sw_J → Prop)  (I : sw_I) (J : sw_J) : Prop :=
  Q (6 : Int32) I J
def wB_X0_nextPlace_137   (Q : Int32 → sw_I → sw_J → Prop) (x1 : Int32) (I : sw_I) (J : sw_J) : Prop :=
  sw_if (x1 = (59 : Int32)) (Q (0 : Int32) I J) (Q (-1 : Int32) I J)
def wp_X0_nextPlace (x0 : Int32) (x1 : Int32) (x2 : Int32) (I : sw_I) (J : sw_J) (Q : Int32 → sw_I → sw_J → Prop) : Prop :=
  sw_if (x0 = 0) (wp_X0_placeBehind x1 I J (fun r_2 I_3 J_4 => Q r_2 I_3 J_4)) (sw_if (x0 = 1) (wp_X0_isLetter x1 I J (fun r_6 I_7 J_8 => sw_if (r_6 = 0) (Q (-1 : Int32) I_7 J_8) (Q (2 : Int32) I_7 J_8))) (sw_if (x0 = 2) (wp_X0_isLetter x1 I J (fun r_11 I_12 J_13 => sw_if (r_11 = 0) (wB_X0_nextPlace_72   Q x1 I_12 J_13) (sw_if (x2 < x1) (Q (2 : Int32) I_12 J_13) (wB_X0_nextPlace_72   Q x1 I_12 J_13)))) (sw_if (x0 = 3) (wp_X0_isLetter x1 I J (fun r_17 I_18 J_19 => sw_if (r_17 = 0) (Q (-1 : Int32) I_18 J_19) (Q (4 : Int32) I_18 J_19))) (sw_if (x0 = 4) (sw_if (x1 = (45 : Int32)) (wB_X0_nextPlace_115   Q  I J) (sw_if (x1 < (48 : Int32)) (Q (-1 : Int32) I J) (sw_if ((57 : Int32) < x1) (Q (-1 : Int32) I J) (wB_X0_nextPlace_115   Q  I J)))) (sw_if (x0 = 5) (sw_if (x1 < (49 : Int32)) (wB_X0_nextPlace_137   Q x1 I J) (sw_if ((57 : Int32) < x1) (wB_X0_nextPlace_137   Q x1 I J) (Q (6 : Int32) I J))) (sw_if (x1 = (59 : Int32)) (Q (0 : Int32) I J) (Q (-1 : Int32) I J)))))))
set_option maxRecDepth 20000 in
theorem t_X0_nextPlace_72 {l : Launch} {D : va_G} {cy : Nat → ClassId} {sz : Nat} {G : sw_G} (hG : True)   {Q : Int32 → sw_I → sw_J → Prop} {x1 : Int32} {I : sw_I} {J : sw_J} (h : wB_X0_nextPlace_72   Q x1 I J) : AW l D cy sz RX0 cX0_nextPlace 3 (some .int) false rm_X0_nextPlace 0 0 (sw_qi G Q) 0 0 G I J 72 [(1, .int x1)] [] := by
  unfold wB_X0_nextPlace_72 at h
  refine aw_iload_n 0 dX0_nextPlace_72 rfl rfl ?_
  refine aw_bipush (v := 59) dX0_nextPlace_73 (by decide) ?_
  refine aw_jne 82 dX0_nextPlace_75 (by decide) (fun c_1 => ?_) (fun c_1 => ?_)
  · have h := sw_if.f h c_1
    refine aw_iconst (v := (-1)) dX0_nextPlace_82 (by decide) ?_
    exact aw_iret rfl dX0_nextPlace_83 ⟨rfl, _, rfl, h⟩
  · have h := sw_if.t h c_1
    refine aw_iconst (v := 0) dX0_nextPlace_78 (by decide) ?_
    refine aw_goto 83 dX0_nextPlace_79 (by decide) ?_
    exact aw_iret rfl dX0_nextPlace_83 ⟨rfl, _, rfl, h⟩
set_option maxRecDepth 20000 in
theorem t_X0_nextPlace_115 {l : Launch} {D : va_G} {cy : Nat → ClassId} {sz : Nat} {G : sw_G} (hG : True)   {Q : Int32 → sw_I → sw_J → Prop}  {I : sw_I} {J : sw_J} (h : wB_X0_nextPlace_115   Q  I J) : AW l D cy sz RX0 cX0_nextPlace 3 (some .int) false rm_X0_nextPlace 0 0 (sw_qi G Q) 0 0 G I J 115 [] [] := by
  unfold wB_X0_nextPlace_115 at h
  refine aw_bipush (v := 6) dX0_nextPlace_115 (by decide) ?_
  refine aw_goto 121 dX0_nextPlace_117 (by decide) ?_
  exact aw_iret rfl dX0_nextPlace_121 ⟨rfl, _, rfl, h⟩
set_option maxRecDepth 20000 in
theorem t_X0_nextPlace_137 {l : Launch} {D : va_G} {cy : Nat → ClassId} {sz : Nat} {G : sw_G} (hG : True)   {Q : Int32 → sw_I → sw_J → Prop} {x1 : Int32} {I : sw_I} {J : sw_J} (h : wB_X0_nextPlace_137   Q x1 I J) : AW l D cy sz RX0 cX0_nextPlace 3 (some .int) false rm_X0_nextPlace 0 0 (sw_qi G Q) 0 0 G I J 137 [(1, .int x1)] [] := by
  unfold wB_X0_nextPlace_137 at h
  refine aw_iload_n 0 dX0_nextPlace_137 rfl rfl ?_
  refine aw_bipush (v := 59) dX0_nextPlace_138 (by decide) ?_
  refine aw_jne 147 dX0_nextPlace_140 (by decide) (fun c_1 => ?_) (fun c_1 => ?_)
  · have h := sw_if.f h c_1
    refine aw_iconst (v := (-1)) dX0_nextPlace_147 (by decide) ?_
    exact aw_iret rfl dX0_nextPlace_148 ⟨rfl, _, rfl, h⟩
  · have h := sw_if.t h c_1
    refine aw_iconst (v := 0) dX0_nextPlace_143 (by decide) ?_
    refine aw_goto 148 dX0_nextPlace_144 (by decide) ?_
    exact aw_iret rfl dX0_nextPlace_148 ⟨rfl, _, rfl, h⟩
set_option maxRecDepth 20000 in
theorem t_X0_nextPlace {l : Launch} {D : va_G} {cy : Nat → ClassId} {sz : Nat} {G : sw_G} (hG : True)   {Q : Int32 → sw_I → sw_J → Prop} {x0 : Int32} {x1 : Int32} {x2 : Int32} {I : sw_I} {J : sw_J} (h : wp_X0_nextPlace x0 x1 x2 I J Q) : AW l D cy sz RX0 cX0_nextPlace 3 (some .int) false rm_X0_nextPlace 0 0 (sw_qi G Q) 0 0 G I J 0 [(0, .int x0), (1, .int x1), (2, .int x2)] [] := by
  unfold wp_X0_nextPlace at h
  refine aw_iload_n 0 dX0_nextPlace_0 rfl rfl ?_
  by_cases c_1 : x0 = 0
  · have h := sw_if.t h c_1; refine aw_tableIn 40 dX0_nextPlace_1 (by rw [c_1]; decide) (by rw [c_1]; decide) (by rw [c_1]; rfl) (by decide) ?_
    refine aw_iload_n 1 dX0_nextPlace_40 rfl rfl ?_
    refine aw_callS wv_X0_placeBehind (M_X0_placeBehind trivial  h) ml_X0_52 rfl rfl (Nat.le_of_ble_eq_true rfl) ⟨rfl, rfl⟩ ⟨Nat.le_of_ble_eq_true rfl, Nat.le_of_ble_eq_true rfl⟩ ⟨Nat.le_refl _, Nat.le_refl _⟩ dX0_nextPlace_41 (aw_ki fun r_2 I_3 J_4 h => ?_)
    exact aw_iret rfl dX0_nextPlace_44 ⟨rfl, _, rfl, h⟩
  · have h := sw_if.f h c_1
    by_cases c_5 : x0 = 1
    · have h := sw_if.t h c_5; refine aw_tableIn 45 dX0_nextPlace_1 (by rw [c_5]; decide) (by rw [c_5]; decide) (by rw [c_5]; rfl) (by decide) ?_
      refine aw_iload_n 1 dX0_nextPlace_45 rfl rfl ?_
      refine aw_callS wv_X0_isLetter (M_X0_isLetter trivial  h) ml_X0_55 rfl rfl (Nat.le_of_ble_eq_true rfl) ⟨rfl, rfl⟩ ⟨Nat.le_of_ble_eq_true rfl, Nat.le_of_ble_eq_true rfl⟩ ⟨Nat.le_refl _, Nat.le_refl _⟩ dX0_nextPlace_46 (aw_ki fun r_6 I_7 J_8 h => ?_)
      refine aw_zeq 56 dX0_nextPlace_49 (by decide) (fun c_9 => ?_) (fun c_9 => ?_)
      · have h := sw_if.t h c_9
        refine aw_iconst (v := (-1)) dX0_nextPlace_56 (by decide) ?_
        exact aw_iret rfl dX0_nextPlace_57 ⟨rfl, _, rfl, h⟩
      · have h := sw_if.f h c_9
        refine aw_iconst (v := 2) dX0_nextPlace_52 (by decide) ?_
        refine aw_goto 57 dX0_nextPlace_53 (by decide) ?_
        exact aw_iret rfl dX0_nextPlace_57 ⟨rfl, _, rfl, h⟩
    · have h := sw_if.f h c_5
      by_cases c_10 : x0 = 2
      · have h := sw_if.t h c_10; refine aw_tableIn 58 dX0_nextPlace_1 (by rw [c_10]; decide) (by rw [c_10]; decide) (by rw [c_10]; rfl) (by decide) ?_
        refine aw_iload_n 1 dX0_nextPlace_58 rfl rfl ?_
        refine aw_callS wv_X0_isLetter (M_X0_isLetter trivial  h) ml_X0_55 rfl rfl (Nat.le_of_ble_eq_true rfl) ⟨rfl, rfl⟩ ⟨Nat.le_of_ble_eq_true rfl, Nat.le_of_ble_eq_true rfl⟩ ⟨Nat.le_refl _, Nat.le_refl _⟩ dX0_nextPlace_59 (aw_ki fun r_11 I_12 J_13 h => ?_)
        refine aw_zeq 72 dX0_nextPlace_62 (by decide) (fun c_14 => ?_) (fun c_14 => ?_)
        · have h := sw_if.t h c_14
          refine aw_sub [1] rfl ?_
          exact t_X0_nextPlace_72 hG   h
        · have h := sw_if.f h c_14
          refine aw_iload_n 1 dX0_nextPlace_65 rfl rfl ?_
          refine aw_iload_n 2 dX0_nextPlace_66 rfl rfl ?_
          refine aw_jle 72 dX0_nextPlace_67 (by decide) (fun c_15 => ?_) (fun c_15 => ?_)
          · have h := sw_if.f h c_15
            refine aw_sub [1] rfl ?_
            exact t_X0_nextPlace_72 hG   h
          · have h := sw_if.t h c_15
            refine aw_iconst (v := 2) dX0_nextPlace_70 (by decide) ?_
            exact aw_iret rfl dX0_nextPlace_71 ⟨rfl, _, rfl, h⟩
      · have h := sw_if.f h c_10
        by_cases c_16 : x0 = 3
        · have h := sw_if.t h c_16; refine aw_tableIn 84 dX0_nextPlace_1 (by rw [c_16]; decide) (by rw [c_16]; decide) (by rw [c_16]; rfl) (by decide) ?_
          refine aw_iload_n 1 dX0_nextPlace_84 rfl rfl ?_
          refine aw_callS wv_X0_isLetter (M_X0_isLetter trivial  h) ml_X0_55 rfl rfl (Nat.le_of_ble_eq_true rfl) ⟨rfl, rfl⟩ ⟨Nat.le_of_ble_eq_true rfl, Nat.le_of_ble_eq_true rfl⟩ ⟨Nat.le_refl _, Nat.le_refl _⟩ dX0_nextPlace_85 (aw_ki fun r_17 I_18 J_19 h => ?_)
          refine aw_zeq 95 dX0_nextPlace_88 (by decide) (fun c_20 => ?_) (fun c_20 => ?_)
          · have h := sw_if.t h c_20
            refine aw_iconst (v := (-1)) dX0_nextPlace_95 (by decide) ?_
            exact aw_iret rfl dX0_nextPlace_96 ⟨rfl, _, rfl, h⟩
          · have h := sw_if.f h c_20
            refine aw_iconst (v := 4) dX0_nextPlace_91 (by decide) ?_
            refine aw_goto 96 dX0_nextPlace_92 (by decide) ?_
            exact aw_iret rfl dX0_nextPlace_96 ⟨rfl, _, rfl, h⟩
        · have h := sw_if.f h c_16
          by_cases c_21 : x0 = 4
          · have h := sw_if.t h c_21; refine aw_tableIn 97 dX0_nextPlace_1 (by rw [c_21]; decide) (by rw [c_21]; decide) (by rw [c_21]; rfl) (by decide) ?_
            refine aw_iload_n 1 dX0_nextPlace_97 rfl rfl ?_
            refine aw_bipush (v := 45) dX0_nextPlace_98 (by decide) ?_
            refine aw_jeq 115 dX0_nextPlace_100 (by decide) (fun c_22 => ?_) (fun c_22 => ?_)
            · have h := sw_if.t h c_22
              refine aw_sub [] rfl ?_
              exact t_X0_nextPlace_115 hG   h
            · have h := sw_if.f h c_22
              refine aw_iload_n 1 dX0_nextPlace_103 rfl rfl ?_
              refine aw_bipush (v := 48) dX0_nextPlace_104 (by decide) ?_
              refine aw_jlt 120 dX0_nextPlace_106 (by decide) (fun c_23 => ?_) (fun c_23 => ?_)
              · have h := sw_if.t h c_23
                refine aw_iconst (v := (-1)) dX0_nextPlace_120 (by decide) ?_
                exact aw_iret rfl dX0_nextPlace_121 ⟨rfl, _, rfl, h⟩
              · have h := sw_if.f h c_23
                refine aw_iload_n 1 dX0_nextPlace_109 rfl rfl ?_
                refine aw_bipush (v := 57) dX0_nextPlace_110 (by decide) ?_
                refine aw_jgt 120 dX0_nextPlace_112 (by decide) (fun c_24 => ?_) (fun c_24 => ?_)
                · have h := sw_if.t h c_24
                  refine aw_iconst (v := (-1)) dX0_nextPlace_120 (by decide) ?_
                  exact aw_iret rfl dX0_nextPlace_121 ⟨rfl, _, rfl, h⟩
                · have h := sw_if.f h c_24
                  refine aw_sub [] rfl ?_
                  exact t_X0_nextPlace_115 hG   h
          · have h := sw_if.f h c_21
            by_cases c_25 : x0 = 5
            · have h := sw_if.t h c_25; refine aw_tableIn 122 dX0_nextPlace_1 (by rw [c_25]; decide) (by rw [c_25]; decide) (by rw [c_25]; rfl) (by decide) ?_
              refine aw_iload_n 1 dX0_nextPlace_122 rfl rfl ?_
              refine aw_bipush (v := 49) dX0_nextPlace_123 (by decide) ?_
              refine aw_jlt 137 dX0_nextPlace_125 (by decide) (fun c_26 => ?_) (fun c_26 => ?_)
              · have h := sw_if.t h c_26
                refine aw_sub [1] rfl ?_
                exact t_X0_nextPlace_137 hG   h
              · have h := sw_if.f h c_26
                refine aw_iload_n 1 dX0_nextPlace_128 rfl rfl ?_
                refine aw_bipush (v := 57) dX0_nextPlace_129 (by decide) ?_
                refine aw_jgt 137 dX0_nextPlace_131 (by decide) (fun c_27 => ?_) (fun c_27 => ?_)
                · have h := sw_if.t h c_27
                  refine aw_sub [1] rfl ?_
                  exact t_X0_nextPlace_137 hG   h
                · have h := sw_if.f h c_27
                  refine aw_bipush (v := 6) dX0_nextPlace_134 (by decide) ?_
                  exact aw_iret rfl dX0_nextPlace_136 ⟨rfl, _, rfl, h⟩
            · have h := sw_if.f h c_25
              refine aw_tableOut 149 dX0_nextPlace_1 (by have g0 := sw_ne c_1 (by decide : (0 : Int32).toInt = 0); have g1 := sw_ne c_5 (by decide : (1 : Int32).toInt = 1); have g2 := sw_ne c_10 (by decide : (2 : Int32).toInt = 2); have g3 := sw_ne c_16 (by decide : (3 : Int32).toInt = 3); have g4 := sw_ne c_21 (by decide : (4 : Int32).toInt = 4); have g5 := sw_ne c_25 (by decide : (5 : Int32).toInt = 5); omega) (by decide) ?_
              refine aw_iload_n 1 dX0_nextPlace_149 rfl rfl ?_
              refine aw_bipush (v := 59) dX0_nextPlace_150 (by decide) ?_
              refine aw_jne 159 dX0_nextPlace_152 (by decide) (fun c_28 => ?_) (fun c_28 => ?_)
              · have h := sw_if.f h c_28
                refine aw_iconst (v := (-1)) dX0_nextPlace_159 (by decide) ?_
                exact aw_iret rfl dX0_nextPlace_160 ⟨rfl, _, rfl, h⟩
              · have h := sw_if.t h c_28
                refine aw_iconst (v := 0) dX0_nextPlace_155 (by decide) ?_
                refine aw_goto 160 dX0_nextPlace_156 (by decide) ?_
                exact aw_iret rfl dX0_nextPlace_160 ⟨rfl, _, rfl, h⟩
theorem M_X0_nextPlace {l : Launch} {D : va_G} {cy : Nat → ClassId} {sz : Nat} {G : sw_G} (hG : True)   {Q : Int32 → sw_I → sw_J → Prop} {x0 : Int32} {x1 : Int32} {x2 : Int32} {I : sw_I} {J : sw_J} (h : wp_X0_nextPlace x0 x1 x2 I J Q) : Met l yX0_nextPlace (Cond.code yX0_nextPlace cX0_nextPlace 3 (some .int) :: sw_T) rm_X0_nextPlace (sw_Pc D cy sz [.int x0, .int x1, .int x2] G I J) (sw_Q D cy sz (sw_qi G Q)) 0 0 (fun q => sz ≤ q) :=
  sw_met (by decide) (fun q => by cases q) (Nat.le_of_ble_eq_true rfl) rfl (t_X0_nextPlace hG  h)
-- X0_pass
abbrev rm_X0_pass : Room := { frames := 2, cells := 0, slots := 0, locals := 42 }
def wB_X0_pass_73 (a0 : Nat) (K22 : Int32 → Int32 → Int32 → sw_I → sw_J → Prop) (Q : Int32 → sw_I → sw_J → Prop) (x3 : Int32) (x4 : Int32) (x5 : Int32) (x6 : Int32) (I : sw_I) (J : sw_J) : Prop :=
  ∀ I_1 : sw_I, I_1 = sw_up I 13 3 ((I 13 3) ^^^ ((1 : Int32) <<< (x6 &&& 31))) → ∀ I_3 : sw_I, I_3 = sw_up I_1 a0 4 ((I_1 a0 4) + (1 : Int32)) → ∀ y_5 : Int32, y_5 = x5 + 1 → K22 x3 x4 y_5 I_3 J
def wb_X0_pass_22 (a0 : Nat) (K22 : Int32 → Int32 → Int32 → sw_I → sw_J → Prop) (Q : Int32 → sw_I → sw_J → Prop) (x3 : Int32) (x4 : Int32) (x5 : Int32) (I : sw_I) (J : sw_J) : Prop :=
  sw_if (x5 < x3) (wp_X8_at x5 I J (fun r_2 I_3 J_4 => ∀ y_5 : Int32, y_5 = r_2 - (97 : Int32) → sw_if (x4 = 0) (wp_X3_isIn 13 y_5 I_3 J_4 (fun r_8 I_9 J_10 => sw_if (r_8 = 0) (Q 0 I_9 J_10) (wB_X0_pass_73 a0 K22 Q x3 x4 x5 y_5 I_9 J_10))) (wp_X3_stands 13 y_5 I_3 J_4 (fun r_12 I_13 J_14 => sw_if (r_12 = 0) (Q 0 I_13 J_14) (wB_X0_pass_73 a0 K22 Q x3 x4 x5 y_5 I_13 J_14))))) (Q 1 I J)
def wl_X0_pass_22 (a0 : Nat)  (Q : Int32 → sw_I → sw_J → Prop) : Nat → Int32 → Int32 → Int32 → sw_I → sw_J → Prop
  | 0 => fun _ _ _ _ _ => False
  | n + 1 => fun x3 x4 x5 I J => wb_X0_pass_22 a0 (wl_X0_pass_22 a0  Q n) Q x3 x4 x5 I J
def wB_X0_pass_15 (a0 : Nat)  (Q : Int32 → sw_I → sw_J → Prop) (x2 : Int32) (x3 : Int32) (s0 : Int32) (I : sw_I) (J : sw_J) : Prop :=
  ∀ y_1 : Int32, y_1 = x2 + (1 : Int32) → ∃ n_3 : Nat, wl_X0_pass_22 a0  Q n_3 x3 s0 y_1 I J
def wp_X0_pass (a0 : Nat) (x2 : Int32) (x3 : Int32) (I : sw_I) (J : sw_J) (Q : Int32 → sw_I → sw_J → Prop) : Prop :=
  wp_X8_at x2 I J (fun r_1 I_2 J_3 => sw_if (r_1 = (105 : Int32)) (wB_X0_pass_15 a0  Q x2 x3 1 I_2 J_3) (wB_X0_pass_15 a0  Q x2 x3 0 I_2 J_3))
set_option maxRecDepth 20000 in
theorem t_X0_pass_73 {l : Launch} {D : va_G} {cy : Nat → ClassId} {sz : Nat} {G : sw_G} (hG : sw_lay G) {a0 : Nat} (ha0 : sw_day G a0) {Q : Int32 → sw_I → sw_J → Prop} {K22 : Int32 → Int32 → Int32 → sw_I → sw_J → Prop} (hK22 : ∀ (x3 : Int32) (x4 : Int32) (x5 : Int32) (I : sw_I) (J : sw_J), K22 x3 x4 x5 I J → AW l D cy sz RX0 cX0_pass 7 (some .boolean) false rm_X0_pass 0 0 (sw_qi G Q) 0 0 G I J 22 [(0, .ref (sz + a0)), (1, .ref (sz + 1)), (3, .int x3), (4, .int x4), (5, .int x5)] []) {x3 : Int32} {x4 : Int32} {x5 : Int32} {x6 : Int32} {I : sw_I} {J : sw_J} (h : wB_X0_pass_73 a0 K22 Q x3 x4 x5 x6 I J) : AW l D cy sz RX0 cX0_pass 7 (some .boolean) false rm_X0_pass 0 0 (sw_qi G Q) 0 0 G I J 73 [(0, .ref (sz + a0)), (1, .ref (sz + 1)), (3, .int x3), (4, .int x4), (5, .int x5), (6, .int x6)] [] := by
  unfold wB_X0_pass_73 at h
  refine aw_aload_n 0 dX0_pass_73 rfl rfl ?_
  refine gf_X0_1 fl_X0_25 ha0.1 ha0.2.2 dX0_pass_74 ?_
  refine aw_dup dX0_pass_77 rfl ?_
  refine gf_X3_3 fl_X0_84 (lk13 hG) dX0_pass_78 ?_
  refine aw_iconst (v := 1) dX0_pass_81 (by decide) ?_
  refine aw_iload 5 dX0_pass_82 rfl ?_
  refine aw_ishl dX0_pass_84 ?_
  refine aw_ixor dX0_pass_85 ?_
  refine pf_X3_3 fl_X0_84 (lk13 hG) dX0_pass_86 (aw_nameI fun I_1 e_2 => ?_)
  have h := h I_1 e_2
  refine aw_aload_n 0 dX0_pass_89 rfl rfl ?_
  refine aw_dup dX0_pass_90 rfl ?_
  refine gf_X0_4 fl_X0_18 ha0.1 dX0_pass_91 ?_
  refine aw_iconst (v := 1) dX0_pass_94 (by decide) ?_
  refine aw_iadd dX0_pass_95 ?_
  refine pf_X0_4 fl_X0_18 ha0.1 dX0_pass_96 (aw_nameI fun I_3 e_4 => ?_)
  have h := h I_3 e_4
  obtain ⟨y_5, e_6⟩ : ∃ q : Int32, q = x5 + 1 := ⟨_, rfl⟩
  have h := h y_5 e_6
  refine aw_iinc (lv' := [(5, .int y_5), (0, .ref (sz + a0)), (1, .ref (sz + 1)), (3, .int x3), (4, .int x4), (6, .int x6)]) 4 dX0_pass_99 rfl (by rw [e_6]; rfl) (by decide) rfl ?_
  refine aw_goto 22 dX0_pass_102 (by decide) ?_
  refine aw_sub [1, 2, 3, 4, 0] rfl ?_
  exact hK22 x3 x4 y_5 I_3 J h
set_option maxRecDepth 20000 in
theorem tb_X0_pass_22 {l : Launch} {D : va_G} {cy : Nat → ClassId} {sz : Nat} {G : sw_G} (hG : sw_lay G) {a0 : Nat} (ha0 : sw_day G a0) {Q : Int32 → sw_I → sw_J → Prop} {K22 : Int32 → Int32 → Int32 → sw_I → sw_J → Prop} (hK22 : ∀ (x3 : Int32) (x4 : Int32) (x5 : Int32) (I : sw_I) (J : sw_J), K22 x3 x4 x5 I J → AW l D cy sz RX0 cX0_pass 7 (some .boolean) false rm_X0_pass 0 0 (sw_qi G Q) 0 0 G I J 22 [(0, .ref (sz + a0)), (1, .ref (sz + 1)), (3, .int x3), (4, .int x4), (5, .int x5)] []) {x3 : Int32} {x4 : Int32} {x5 : Int32} {I : sw_I} {J : sw_J} (h : wb_X0_pass_22 a0 K22 Q x3 x4 x5 I J) : AW l D cy sz RX0 cX0_pass 7 (some .boolean) false rm_X0_pass 0 0 (sw_qi G Q) 0 0 G I J 22 [(0, .ref (sz + a0)), (1, .ref (sz + 1)), (3, .int x3), (4, .int x4), (5, .int x5)] [] := by
  unfold wb_X0_pass_22 at h
  refine aw_iload 4 dX0_pass_22 rfl ?_
  refine aw_iload_n 2 dX0_pass_24 rfl rfl ?_
  refine aw_jge 105 dX0_pass_25 (by decide) (fun c_1 => ?_) (fun c_1 => ?_)
  · have h := sw_if.f h c_1
    refine aw_iconst (v := 1) dX0_pass_105 (by decide) ?_
    exact aw_zret rfl rfl dX0_pass_106 ⟨rfl, _, rfl, h⟩
  · have h := sw_if.t h c_1
    refine aw_aload_n 1 dX0_pass_28 rfl rfl ?_
    refine aw_iload 4 dX0_pass_29 rfl ?_
    refine aw_callV wv_X8_at (M_X8_at hG  h) ml_X0_40 rfl (by decide) (lk1 hG) rfl rfl (Nat.le_of_ble_eq_true rfl) ⟨rfl, rfl⟩ ⟨Nat.le_of_ble_eq_true rfl, Nat.le_of_ble_eq_true rfl⟩ ⟨Nat.le_refl _, Nat.le_refl _⟩ dX0_pass_31 (aw_ki fun r_2 I_3 J_4 h => ?_)
    refine aw_bipush (v := 97) dX0_pass_34 (by decide) ?_
    refine aw_isub dX0_pass_36 ?_
    refine aw_topi (fun y_5 e_6 => ?_)
    have h := h y_5 e_6
    refine aw_istore (lv' := [(6, .int y_5), (0, .ref (sz + a0)), (1, .ref (sz + 1)), (3, .int x3), (4, .int x4), (5, .int x5)]) dX0_pass_37 (by decide) rfl ?_
    refine aw_iload 4 dX0_pass_39 rfl ?_
    refine aw_zeq 59 dX0_pass_41 (by decide) (fun c_7 => ?_) (fun c_7 => ?_)
    · have h := sw_if.t h c_7
      refine aw_aload_n 1 dX0_pass_59 rfl rfl ?_
      refine gf_X0_1 fl_X0_25 ha0.1 ha0.2.2 dX0_pass_60 ?_
      refine aw_iload 0 dX0_pass_63 rfl ?_
      refine aw_callV wv_X3_isIn (M_X3_isIn trivial (lm13 hG) h) ml_X0_81 rfl (by decide) (lk13 hG) rfl rfl (Nat.le_of_ble_eq_true rfl) ⟨rfl, rfl⟩ ⟨Nat.le_of_ble_eq_true rfl, Nat.le_of_ble_eq_true rfl⟩ ⟨Nat.le_refl _, Nat.le_refl _⟩ dX0_pass_65 (aw_ki fun r_8 I_9 J_10 h => ?_)
      refine aw_zne 73 dX0_pass_68 (by decide) (fun c_11 => ?_) (fun c_11 => ?_)
      · have h := sw_if.f h c_11
        refine aw_sub [1, 2, 3, 4, 5, 0] rfl ?_
        exact t_X0_pass_73 hG ha0 hK22 h
      · have h := sw_if.t h c_11
        refine aw_iconst (v := 0) dX0_pass_71 (by decide) ?_
        exact aw_zret rfl rfl dX0_pass_72 ⟨rfl, _, rfl, h⟩
    · have h := sw_if.f h c_7
      refine aw_aload_n 1 dX0_pass_44 rfl rfl ?_
      refine gf_X0_1 fl_X0_25 ha0.1 ha0.2.2 dX0_pass_45 ?_
      refine aw_iload 0 dX0_pass_48 rfl ?_
      refine aw_callV wv_X3_stands (M_X3_stands trivial (lm13 hG) h) ml_X0_76 rfl (by decide) (lk13 hG) rfl rfl (Nat.le_of_ble_eq_true rfl) ⟨rfl, rfl⟩ ⟨Nat.le_of_ble_eq_true rfl, Nat.le_of_ble_eq_true rfl⟩ ⟨Nat.le_refl _, Nat.le_refl _⟩ dX0_pass_50 (aw_ki fun r_12 I_13 J_14 h => ?_)
      refine aw_zne 73 dX0_pass_53 (by decide) (fun c_15 => ?_) (fun c_15 => ?_)
      · have h := sw_if.f h c_15
        refine aw_sub [1, 2, 3, 4, 5, 0] rfl ?_
        exact t_X0_pass_73 hG ha0 hK22 h
      · have h := sw_if.t h c_15
        refine aw_goto 71 dX0_pass_56 (by decide) ?_
        refine aw_iconst (v := 0) dX0_pass_71 (by decide) ?_
        exact aw_zret rfl rfl dX0_pass_72 ⟨rfl, _, rfl, h⟩
set_option maxRecDepth 20000 in
theorem tl_X0_pass_22 {l : Launch} {D : va_G} {cy : Nat → ClassId} {sz : Nat} {G : sw_G} (hG : sw_lay G) {a0 : Nat} (ha0 : sw_day G a0) {Q : Int32 → sw_I → sw_J → Prop} : ∀ (n : Nat) (x3 : Int32) (x4 : Int32) (x5 : Int32) (I : sw_I) (J : sw_J), wl_X0_pass_22 a0  Q n x3 x4 x5 I J → AW l D cy sz RX0 cX0_pass 7 (some .boolean) false rm_X0_pass 0 0 (sw_qi G Q) 0 0 G I J 22 [(0, .ref (sz + a0)), (1, .ref (sz + 1)), (3, .int x3), (4, .int x4), (5, .int x5)] [] := by
  intro n
  induction n with
  | zero => intro x3 x4 x5 I J h; exact False.elim h
  | succ n ih => intro x3 x4 x5 I J h; exact tb_X0_pass_22 hG ha0 ih h
set_option maxRecDepth 20000 in
theorem t_X0_pass_15 {l : Launch} {D : va_G} {cy : Nat → ClassId} {sz : Nat} {G : sw_G} (hG : sw_lay G) {a0 : Nat} (ha0 : sw_day G a0) {Q : Int32 → sw_I → sw_J → Prop} {x2 : Int32} {x3 : Int32} {s0 : Int32} {I : sw_I} {J : sw_J} (h : wB_X0_pass_15 a0  Q x2 x3 s0 I J) : AW l D cy sz RX0 cX0_pass 7 (some .boolean) false rm_X0_pass 0 0 (sw_qi G Q) 0 0 G I J 15 [(0, .ref (sz + a0)), (1, .ref (sz + 1)), (2, .int x2), (3, .int x3)] [.int s0] := by
  unfold wB_X0_pass_15 at h
  refine aw_istore (lv' := [(4, .int s0), (0, .ref (sz + a0)), (1, .ref (sz + 1)), (2, .int x2), (3, .int x3)]) dX0_pass_15 (by decide) rfl ?_
  refine aw_iload_n 3 dX0_pass_17 rfl rfl ?_
  refine aw_iconst (v := 1) dX0_pass_18 (by decide) ?_
  refine aw_iadd dX0_pass_19 ?_
  refine aw_topi (fun y_1 e_2 => ?_)
  have h := h y_1 e_2
  refine aw_istore (lv' := [(5, .int y_1), (4, .int s0), (0, .ref (sz + a0)), (1, .ref (sz + 1)), (2, .int x2), (3, .int x3)]) dX0_pass_20 (by decide) rfl ?_
  refine aw_sub [2, 3, 5, 1, 0] rfl ?_
  obtain ⟨n_3, h⟩ := h
  exact tl_X0_pass_22 hG ha0  n_3 x3 s0 y_1 I J h
set_option maxRecDepth 20000 in
theorem t_X0_pass {l : Launch} {D : va_G} {cy : Nat → ClassId} {sz : Nat} {G : sw_G} (hG : sw_lay G) {a0 : Nat} (ha0 : sw_day G a0) {Q : Int32 → sw_I → sw_J → Prop} {x2 : Int32} {x3 : Int32} {I : sw_I} {J : sw_J} (h : wp_X0_pass a0 x2 x3 I J Q) : AW l D cy sz RX0 cX0_pass 7 (some .boolean) false rm_X0_pass 0 0 (sw_qi G Q) 0 0 G I J 0 [(0, .ref (sz + a0)), (1, .ref (sz + 1)), (2, .int x2), (3, .int x3)] [] := by
  unfold wp_X0_pass at h
  refine aw_aload_n 1 dX0_pass_0 rfl rfl ?_
  refine aw_iload_n 2 dX0_pass_1 rfl rfl ?_
  refine aw_callV wv_X8_at (M_X8_at hG  h) ml_X0_40 rfl (by decide) (lk1 hG) rfl rfl (Nat.le_of_ble_eq_true rfl) ⟨rfl, rfl⟩ ⟨Nat.le_of_ble_eq_true rfl, Nat.le_of_ble_eq_true rfl⟩ ⟨Nat.le_refl _, Nat.le_refl _⟩ dX0_pass_2 (aw_ki fun r_1 I_2 J_3 h => ?_)
  refine aw_bipush (v := 105) dX0_pass_5 (by decide) ?_
  refine aw_jne 14 dX0_pass_7 (by decide) (fun c_4 => ?_) (fun c_4 => ?_)
  · have h := sw_if.f h c_4
    refine aw_iconst (v := 0) dX0_pass_14 (by decide) ?_
    refine aw_sub [0, 1, 2, 3] rfl ?_
    exact t_X0_pass_15 hG ha0  h
  · have h := sw_if.t h c_4
    refine aw_iconst (v := 1) dX0_pass_10 (by decide) ?_
    refine aw_goto 15 dX0_pass_11 (by decide) ?_
    refine aw_sub [0, 1, 2, 3] rfl ?_
    exact t_X0_pass_15 hG ha0  h
theorem M_X0_pass {l : Launch} {D : va_G} {cy : Nat → ClassId} {sz : Nat} {G : sw_G} (hG : sw_lay G) {a0 : Nat} (ha0 : sw_day G a0) {Q : Int32 → sw_I → sw_J → Prop} {x2 : Int32} {x3 : Int32} {I : sw_I} {J : sw_J} (h : wp_X0_pass a0 x2 x3 I J Q) : Met l yX0_pass (Cond.code yX0_pass cX0_pass 7 (some .boolean) :: sw_T) rm_X0_pass (sw_Pc D cy sz [.ref (sz + a0), .ref (sz + 1), .int x2, .int x3] G I J) (sw_Q D cy sz (sw_qi G Q)) 0 0 (fun q => sz ≤ q) :=
  sw_met (by decide) (fun q => by cases q) (Nat.le_of_ble_eq_true rfl) rfl (t_X0_pass hG ha0 h)
-- X0_wish
abbrev rm_X0_wish : Room := { frames := 2, cells := 0, slots := 0, locals := 42 }
def wB_X0_wish_14 (a0 : Nat)  (Q : Int32 → sw_I → sw_J → Prop) (x1 : Int32) (s0 : Int32) (I : sw_I) (J : sw_J) : Prop :=
  wp_X1_hasRider x1 I J (fun r_1 I_2 J_3 => sw_if (r_1 = 0) (Q 0 I_2 J_3) (wp_X1_canBeWish s0 I_2 J_3 (fun r_5 I_6 J_7 => sw_if (r_5 = 0) (Q 0 I_6 J_7) (vp_in x1 10 ∧ ∀ I_10 : sw_I, I_10 = sw_up I_6 15 x1.toNatClampNeg s0 → ∀ I_12 : sw_I, I_12 = sw_up I_10 a0 4 ((I_10 a0 4) + (1 : Int32)) → Q 1 I_12 J_7))))
def wp_X0_wish (a0 : Nat) (x1 : Int32) (x2 : Int32) (I : sw_I) (J : sw_J) (Q : Int32 → sw_I → sw_J → Prop) : Prop :=
  sw_if (x2 = (45 : Int32)) (wB_X0_wish_14 a0  Q x1 (-1) I J) (wB_X0_wish_14 a0  Q x1 (x2 - (48 : Int32)) I J)
set_option maxRecDepth 20000 in
theorem t_X0_wish_14 {l : Launch} {D : va_G} {cy : Nat → ClassId} {sz : Nat} {G : sw_G} (hG : sw_lay G) {a0 : Nat} (ha0 : sw_day G a0) {Q : Int32 → sw_I → sw_J → Prop} {x1 : Int32} {s0 : Int32} {I : sw_I} {J : sw_J} (h : wB_X0_wish_14 a0  Q x1 s0 I J) : AW l D cy sz RX0 cX0_wish 4 (some .boolean) false rm_X0_wish 0 0 (sw_qi G Q) 0 0 G I J 14 [(0, .ref (sz + a0)), (1, .int x1)] [.int s0] := by
  unfold wB_X0_wish_14 at h
  refine aw_istore_n (lv' := [(3, .int s0), (0, .ref (sz + a0)), (1, .int x1)]) dX0_wish_14 rfl (by decide) rfl ?_
  refine aw_aload_n 1 dX0_wish_15 rfl rfl ?_
  refine gf_X0_0 fl_X0_21 ha0.1 ha0.2.1 dX0_wish_16 ?_
  refine aw_iload_n 2 dX0_wish_19 rfl rfl ?_
  refine aw_callV wv_X1_hasRider (M_X1_hasRider hG  h) ml_X0_87 rfl (by decide) (lk3 hG) rfl rfl (Nat.le_of_ble_eq_true rfl) ⟨rfl, rfl⟩ ⟨Nat.le_of_ble_eq_true rfl, Nat.le_of_ble_eq_true rfl⟩ ⟨Nat.le_refl _, Nat.le_refl _⟩ dX0_wish_20 (aw_ki fun r_1 I_2 J_3 h => ?_)
  refine aw_zeq 37 dX0_wish_23 (by decide) (fun c_4 => ?_) (fun c_4 => ?_)
  · have h := sw_if.t h c_4
    refine aw_iconst (v := 0) dX0_wish_37 (by decide) ?_
    exact aw_zret rfl rfl dX0_wish_38 ⟨rfl, _, rfl, h⟩
  · have h := sw_if.f h c_4
    refine aw_aload_n 1 dX0_wish_26 rfl rfl ?_
    refine gf_X0_0 fl_X0_21 ha0.1 ha0.2.1 dX0_wish_27 ?_
    refine aw_iload_n 0 dX0_wish_30 rfl rfl ?_
    refine aw_callV wv_X1_canBeWish (M_X1_canBeWish hG  h) ml_X0_90 rfl (by decide) (lk3 hG) rfl rfl (Nat.le_of_ble_eq_true rfl) ⟨rfl, rfl⟩ ⟨Nat.le_of_ble_eq_true rfl, Nat.le_of_ble_eq_true rfl⟩ ⟨Nat.le_refl _, Nat.le_refl _⟩ dX0_wish_31 (aw_ki fun r_5 I_6 J_7 h => ?_)
    refine aw_zne 39 dX0_wish_34 (by decide) (fun c_8 => ?_) (fun c_8 => ?_)
    · have h := sw_if.f h c_8
      refine aw_aload_n 1 dX0_wish_39 rfl rfl ?_
      refine gf_X0_1 fl_X0_25 ha0.1 ha0.2.2 dX0_wish_40 ?_
      refine gf_X3_1 fl_X0_93 (lk13 hG) (lr13_1 hG) dX0_wish_43 ?_
      refine aw_iload_n 2 dX0_wish_46 rfl rfl ?_
      refine aw_iload_n 0 dX0_wish_47 rfl rfl ?_
      obtain ⟨hi_9, h⟩ := h
      refine aw_ist dX0_wish_48 (lk15 hG) (ln15 hG) hi_9 (aw_nameI fun I_10 e_11 => ?_)
      have h := h I_10 e_11
      refine aw_aload_n 1 dX0_wish_49 rfl rfl ?_
      refine aw_dup dX0_wish_50 rfl ?_
      refine gf_X0_4 fl_X0_18 ha0.1 dX0_wish_51 ?_
      refine aw_iconst (v := 1) dX0_wish_54 (by decide) ?_
      refine aw_iadd dX0_wish_55 ?_
      refine pf_X0_4 fl_X0_18 ha0.1 dX0_wish_56 (aw_nameI fun I_12 e_13 => ?_)
      have h := h I_12 e_13
      refine aw_iconst (v := 1) dX0_wish_59 (by decide) ?_
      exact aw_zret rfl rfl dX0_wish_60 ⟨rfl, _, rfl, h⟩
    · have h := sw_if.t h c_8
      refine aw_iconst (v := 0) dX0_wish_37 (by decide) ?_
      exact aw_zret rfl rfl dX0_wish_38 ⟨rfl, _, rfl, h⟩
set_option maxRecDepth 20000 in
theorem t_X0_wish {l : Launch} {D : va_G} {cy : Nat → ClassId} {sz : Nat} {G : sw_G} (hG : sw_lay G) {a0 : Nat} (ha0 : sw_day G a0) {Q : Int32 → sw_I → sw_J → Prop} {x1 : Int32} {x2 : Int32} {I : sw_I} {J : sw_J} (h : wp_X0_wish a0 x1 x2 I J Q) : AW l D cy sz RX0 cX0_wish 4 (some .boolean) false rm_X0_wish 0 0 (sw_qi G Q) 0 0 G I J 0 [(0, .ref (sz + a0)), (1, .int x1), (2, .int x2)] [] := by
  unfold wp_X0_wish at h
  refine aw_iload_n 2 dX0_wish_0 rfl rfl ?_
  refine aw_bipush (v := 45) dX0_wish_1 (by decide) ?_
  refine aw_jne 10 dX0_wish_3 (by decide) (fun c_1 => ?_) (fun c_1 => ?_)
  · have h := sw_if.f h c_1
    refine aw_iload_n 2 dX0_wish_10 rfl rfl ?_
    refine aw_bipush (v := 48) dX0_wish_11 (by decide) ?_
    refine aw_isub dX0_wish_13 ?_
    refine aw_sub [0, 1] rfl ?_
    exact t_X0_wish_14 hG ha0  h
  · have h := sw_if.t h c_1
    refine aw_iconst (v := (-1)) dX0_wish_6 (by decide) ?_
    refine aw_goto 14 dX0_wish_7 (by decide) ?_
    refine aw_sub [0, 1] rfl ?_
    exact t_X0_wish_14 hG ha0  h
theorem M_X0_wish {l : Launch} {D : va_G} {cy : Nat → ClassId} {sz : Nat} {G : sw_G} (hG : sw_lay G) {a0 : Nat} (ha0 : sw_day G a0) {Q : Int32 → sw_I → sw_J → Prop} {x1 : Int32} {x2 : Int32} {I : sw_I} {J : sw_J} (h : wp_X0_wish a0 x1 x2 I J Q) : Met l yX0_wish (Cond.code yX0_wish cX0_wish 4 (some .boolean) :: sw_T) rm_X0_wish (sw_Pc D cy sz [.ref (sz + a0), .int x1, .int x2] G I J) (sw_Q D cy sz (sw_qi G Q)) 0 0 (fun q => sz ≤ q) :=
  sw_met (by decide) (fun q => by cases q) (Nat.le_of_ble_eq_true rfl) rfl (t_X0_wish hG ha0 h)
-- X1_look
abbrev rm_X1_look : Room := { frames := 1, cells := 0, slots := 0, locals := 23 }
def wB_X1_look_108 (a1 : Nat) (K57 : Int32 → Int32 → sw_I → sw_J → Prop) (Q : sw_I → sw_J → Prop) (x2 : Int32) (x3 : Int32) (I : sw_I) (J : sw_J) : Prop :=
  ∀ y_1 : Int32, y_1 = x3 + 1 → K57 x2 y_1 I J
def wb_X1_look_57 (a1 : Nat) (K57 : Int32 → Int32 → sw_I → sw_J → Prop) (Q : sw_I → sw_J → Prop) (x2 : Int32) (x3 : Int32) (I : sw_I) (J : sw_J) : Prop :=
  sw_if (x3 < (I 3 2)) (sw_if (((x2 >>> (x3 &&& 31)) &&& (1 : Int32)) = 0) (vp_in x3 10 ∧ wp_X1_addAt 12 9 (I (a1 + 1) x3.toNatClampNeg) I J (fun I_9 J_10 => wB_X1_look_108 a1 K57 Q x2 x3 I_9 J_10)) (vp_in x3 10 ∧ wp_X1_addAt 11 9 (I (a1 + 2) x3.toNatClampNeg) I J (fun I_5 J_6 => wB_X1_look_108 a1 K57 Q x2 x3 I_5 J_6))) (Q I J)
def wl_X1_look_57 (a1 : Nat)  (Q : sw_I → sw_J → Prop) : Nat → Int32 → Int32 → sw_I → sw_J → Prop
  | 0 => fun _ _ _ _ => False
  | n + 1 => fun x2 x3 I J => wb_X1_look_57 a1 (wl_X1_look_57 a1  Q n) Q x2 x3 I J
def wp_X1_look (a1 : Nat) (x2 : Int32) (I : sw_I) (J : sw_J) (Q : sw_I → sw_J → Prop) : Prop :=
  wp_J7_fill_53178 11 9 0 I J (fun I_2 J_3 => wp_J7_fill_53178 12 9 0 I_2 J_3 (fun I_5 J_6 => wp_J6_bitCount_0f7a4 x2 I_5 J_6 (fun r_7 I_8 J_9 => ∀ I_10 : sw_I, I_10 = sw_up I_8 10 2 r_7 → ∀ I_12 : sw_I, I_12 = sw_up I_10 10 3 (I_10 a1 4) → ∀ I_14 : sw_I, I_14 = sw_up I_12 10 4 (I_12 a1 5) → ∃ n_16 : Nat, wl_X1_look_57 a1  Q n_16 x2 0 I_14 J_9)))
set_option maxRecDepth 20000 in
theorem t_X1_look_108 {l : Launch} {D : va_G} {cy : Nat → ClassId} {sz : Nat} {G : sw_G} (hG : sw_lay G) {a1 : Nat} (ha1 : sw_mom G a1) {Q : sw_I → sw_J → Prop} {K57 : Int32 → Int32 → sw_I → sw_J → Prop} (hK57 : ∀ (x2 : Int32) (x3 : Int32) (I : sw_I) (J : sw_J), K57 x2 x3 I J → AW l D cy sz RX1 cX1_look 4 none false rm_X1_look 0 0 (sw_qv G Q) 0 0 G I J 57 [(0, .ref (sz + 3)), (1, .ref (sz + a1)), (2, .int x2), (3, .int x3)] []) {x2 : Int32} {x3 : Int32} {I : sw_I} {J : sw_J} (h : wB_X1_look_108 a1 K57 Q x2 x3 I J) : AW l D cy sz RX1 cX1_look 4 none false rm_X1_look 0 0 (sw_qv G Q) 0 0 G I J 108 [(0, .ref (sz + 3)), (1, .ref (sz + a1)), (2, .int x2), (3, .int x3)] [] := by
  unfold wB_X1_look_108 at h
  obtain ⟨y_1, e_2⟩ : ∃ q : Int32, q = x3 + 1 := ⟨_, rfl⟩
  have h := h y_1 e_2
  refine aw_iinc (lv' := [(3, .int y_1), (0, .ref (sz + 3)), (1, .ref (sz + a1)), (2, .int x2)]) 3 dX1_look_108 rfl (by rw [e_2]; rfl) (by decide) rfl ?_
  refine aw_goto 57 dX1_look_111 (by decide) ?_
  refine aw_sub [1, 2, 3, 0] rfl ?_
  exact hK57 x2 y_1 I J h
set_option maxRecDepth 20000 in
theorem tb_X1_look_57 {l : Launch} {D : va_G} {cy : Nat → ClassId} {sz : Nat} {G : sw_G} (hG : sw_lay G) {a1 : Nat} (ha1 : sw_mom G a1) {Q : sw_I → sw_J → Prop} {K57 : Int32 → Int32 → sw_I → sw_J → Prop} (hK57 : ∀ (x2 : Int32) (x3 : Int32) (I : sw_I) (J : sw_J), K57 x2 x3 I J → AW l D cy sz RX1 cX1_look 4 none false rm_X1_look 0 0 (sw_qv G Q) 0 0 G I J 57 [(0, .ref (sz + 3)), (1, .ref (sz + a1)), (2, .int x2), (3, .int x3)] []) {x2 : Int32} {x3 : Int32} {I : sw_I} {J : sw_J} (h : wb_X1_look_57 a1 K57 Q x2 x3 I J) : AW l D cy sz RX1 cX1_look 4 none false rm_X1_look 0 0 (sw_qv G Q) 0 0 G I J 57 [(0, .ref (sz + 3)), (1, .ref (sz + a1)), (2, .int x2), (3, .int x3)] [] := by
  unfold wb_X1_look_57 at h
  refine aw_iload_n 3 dX1_look_57 rfl rfl ?_
  refine aw_aload_n 0 dX1_look_58 rfl rfl ?_
  refine gf_X1_2 fl_X1_18 (lk3 hG) dX1_look_59 ?_
  refine aw_jge 114 dX1_look_62 (by decide) (fun c_1 => ?_) (fun c_1 => ?_)
  · have h := sw_if.f h c_1
    exact aw_vret rfl dX1_look_114 ⟨rfl, rfl, h⟩
  · have h := sw_if.t h c_1
    refine aw_iload_n 2 dX1_look_65 rfl rfl ?_
    refine aw_iload_n 3 dX1_look_66 rfl rfl ?_
    refine aw_ishr dX1_look_67 ?_
    refine aw_iconst (v := 1) dX1_look_68 (by decide) ?_
    refine aw_iand dX1_look_69 ?_
    refine aw_zne 92 dX1_look_70 (by decide) (fun c_2 => ?_) (fun c_2 => ?_)
    · have h := sw_if.f h c_2
      refine aw_aload_n 0 dX1_look_92 rfl rfl ?_
      refine gf_X1_6 fl_X1_38 (lk3 hG) (lr3_6 hG) dX1_look_93 ?_
      refine gf_X5_0 fl_X1_46 (lk10 hG) (lr10_0 hG) dX1_look_96 ?_
      refine aw_aload_n 1 dX1_look_99 rfl rfl ?_
      refine gf_X3_1 fl_X1_83 ha1.1 ha1.2.1.2.1 dX1_look_100 ?_
      refine aw_iload_n 3 dX1_look_103 rfl rfl ?_
      obtain ⟨hi_3, h⟩ := h
      refine aw_ild dX1_look_104 ha1.2.2.2.1 ha1.2.2.2.2.2.2.1 hi_3 ?_
      refine aw_callS wv_X1_addAt (M_X1_addAt trivial ⟨(lk11 hG), (ln11 hG)⟩ h) ml_X1_80 rfl rfl (Nat.le_of_ble_eq_true rfl) ⟨rfl, rfl⟩ ⟨Nat.le_of_ble_eq_true rfl, Nat.le_of_ble_eq_true rfl⟩ ⟨Nat.le_refl _, Nat.le_refl _⟩ dX1_look_105 (aw_kv fun I_5 J_6 h => ?_)
      refine aw_sub [0, 1, 2, 3] rfl ?_
      exact t_X1_look_108 hG ha1 hK57 h
    · have h := sw_if.t h c_2
      refine aw_aload_n 0 dX1_look_73 rfl rfl ?_
      refine gf_X1_6 fl_X1_38 (lk3 hG) (lr3_6 hG) dX1_look_74 ?_
      refine gf_X5_1 fl_X1_55 (lk10 hG) (lr10_1 hG) dX1_look_77 ?_
      refine aw_aload_n 1 dX1_look_80 rfl rfl ?_
      refine gf_X3_0 fl_X1_77 ha1.1 ha1.2.1.1 dX1_look_81 ?_
      refine aw_iload_n 3 dX1_look_84 rfl rfl ?_
      obtain ⟨hi_7, h⟩ := h
      refine aw_ild dX1_look_85 ha1.2.2.1 ha1.2.2.2.2.2.1 hi_7 ?_
      refine aw_callS wv_X1_addAt (M_X1_addAt trivial ⟨(lk12 hG), (ln12 hG)⟩ h) ml_X1_80 rfl rfl (Nat.le_of_ble_eq_true rfl) ⟨rfl, rfl⟩ ⟨Nat.le_of_ble_eq_true rfl, Nat.le_of_ble_eq_true rfl⟩ ⟨Nat.le_refl _, Nat.le_refl _⟩ dX1_look_86 (aw_kv fun I_9 J_10 h => ?_)
      refine aw_goto 108 dX1_look_89 (by decide) ?_
      refine aw_sub [0, 1, 2, 3] rfl ?_
      exact t_X1_look_108 hG ha1 hK57 h
set_option maxRecDepth 20000 in
theorem tl_X1_look_57 {l : Launch} {D : va_G} {cy : Nat → ClassId} {sz : Nat} {G : sw_G} (hG : sw_lay G) {a1 : Nat} (ha1 : sw_mom G a1) {Q : sw_I → sw_J → Prop} : ∀ (n : Nat) (x2 : Int32) (x3 : Int32) (I : sw_I) (J : sw_J), wl_X1_look_57 a1  Q n x2 x3 I J → AW l D cy sz RX1 cX1_look 4 none false rm_X1_look 0 0 (sw_qv G Q) 0 0 G I J 57 [(0, .ref (sz + 3)), (1, .ref (sz + a1)), (2, .int x2), (3, .int x3)] [] := by
  intro n
  induction n with
  | zero => intro x2 x3 I J h; exact False.elim h
  | succ n ih => intro x2 x3 I J h; exact tb_X1_look_57 hG ha1 ih h
set_option maxRecDepth 20000 in
theorem t_X1_look {l : Launch} {D : va_G} {cy : Nat → ClassId} {sz : Nat} {G : sw_G} (hG : sw_lay G) {a1 : Nat} (ha1 : sw_mom G a1) {Q : sw_I → sw_J → Prop} {x2 : Int32} {I : sw_I} {J : sw_J} (h : wp_X1_look a1 x2 I J Q) : AW l D cy sz RX1 cX1_look 4 none false rm_X1_look 0 0 (sw_qv G Q) 0 0 G I J 0 [(0, .ref (sz + 3)), (1, .ref (sz + a1)), (2, .int x2)] [] := by
  unfold wp_X1_look at h
  refine aw_aload_n 0 dX1_look_0 rfl rfl ?_
  refine gf_X1_6 fl_X1_38 (lk3 hG) (lr3_6 hG) dX1_look_1 ?_
  refine gf_X5_0 fl_X1_46 (lk10 hG) (lr10_0 hG) dX1_look_4 ?_
  refine aw_iconst (v := 0) dX1_look_7 (by decide) ?_
  refine aw_callS wv_J7_fill_53178 (M_J7_fill_53178 trivial ⟨(lk11 hG), (ln11 hG)⟩ h) ml_X1_49 rfl rfl (Nat.le_of_ble_eq_true rfl) ⟨rfl, rfl⟩ ⟨Nat.le_of_ble_eq_true rfl, Nat.le_of_ble_eq_true rfl⟩ ⟨Nat.le_refl _, Nat.le_refl _⟩ dX1_look_8 (aw_kv fun I_2 J_3 h => ?_)
  refine aw_aload_n 0 dX1_look_11 rfl rfl ?_
  refine gf_X1_6 fl_X1_38 (lk3 hG) (lr3_6 hG) dX1_look_12 ?_
  refine gf_X5_1 fl_X1_55 (lk10 hG) (lr10_1 hG) dX1_look_15 ?_
  refine aw_iconst (v := 0) dX1_look_18 (by decide) ?_
  refine aw_callS wv_J7_fill_53178 (M_J7_fill_53178 trivial ⟨(lk12 hG), (ln12 hG)⟩ h) ml_X1_49 rfl rfl (Nat.le_of_ble_eq_true rfl) ⟨rfl, rfl⟩ ⟨Nat.le_of_ble_eq_true rfl, Nat.le_of_ble_eq_true rfl⟩ ⟨Nat.le_refl _, Nat.le_refl _⟩ dX1_look_19 (aw_kv fun I_5 J_6 h => ?_)
  refine aw_aload_n 0 dX1_look_22 rfl rfl ?_
  refine gf_X1_6 fl_X1_38 (lk3 hG) (lr3_6 hG) dX1_look_23 ?_
  refine aw_iload_n 2 dX1_look_26 rfl rfl ?_
  refine aw_callS wv_J6_bitCount_0f7a4 (M_J6_bitCount_0f7a4 trivial  h) ml_X1_58 rfl rfl (Nat.le_of_ble_eq_true rfl) ⟨rfl, rfl⟩ ⟨Nat.le_of_ble_eq_true rfl, Nat.le_of_ble_eq_true rfl⟩ ⟨Nat.le_refl _, Nat.le_refl _⟩ dX1_look_27 (aw_ki fun r_7 I_8 J_9 h => ?_)
  refine pf_X5_2 fl_X1_64 (lk10 hG) dX1_look_30 (aw_nameI fun I_10 e_11 => ?_)
  have h := h I_10 e_11
  refine aw_aload_n 0 dX1_look_33 rfl rfl ?_
  refine gf_X1_6 fl_X1_38 (lk3 hG) (lr3_6 hG) dX1_look_34 ?_
  refine aw_aload_n 1 dX1_look_37 rfl rfl ?_
  refine gf_X3_4 fl_X1_67 ha1.1 dX1_look_38 ?_
  refine pf_X5_3 fl_X1_72 (lk10 hG) dX1_look_41 (aw_nameI fun I_12 e_13 => ?_)
  have h := h I_12 e_13
  refine aw_aload_n 0 dX1_look_44 rfl rfl ?_
  refine gf_X1_6 fl_X1_38 (lk3 hG) (lr3_6 hG) dX1_look_45 ?_
  refine aw_aload_n 1 dX1_look_48 rfl rfl ?_
  refine gf_X3_5 fl_X1_73 ha1.1 dX1_look_49 ?_
  refine pf_X5_4 fl_X1_76 (lk10 hG) dX1_look_52 (aw_nameI fun I_14 e_15 => ?_)
  have h := h I_14 e_15
  refine aw_iconst (v := 0) dX1_look_55 (by decide) ?_
  refine aw_istore_n (lv' := [(3, .int 0), (0, .ref (sz + 3)), (1, .ref (sz + a1)), (2, .int x2)]) dX1_look_56 rfl (by decide) rfl ?_
  refine aw_sub [1, 2, 3, 0] rfl ?_
  obtain ⟨n_16, h⟩ := h
  exact tl_X1_look_57 hG ha1  n_16 x2 0 I_14 J_9 h
theorem M_X1_look {l : Launch} {D : va_G} {cy : Nat → ClassId} {sz : Nat} {G : sw_G} (hG : sw_lay G) {a1 : Nat} (ha1 : sw_mom G a1) {Q : sw_I → sw_J → Prop} {x2 : Int32} {I : sw_I} {J : sw_J} (h : wp_X1_look a1 x2 I J Q) : Met l yX1_look (Cond.code yX1_look cX1_look 4 none :: sw_T) rm_X1_look (sw_Pc D cy sz [.ref (sz + 3), .ref (sz + a1), .int x2] G I J) (sw_Q D cy sz (sw_qv G Q)) 0 0 (fun q => sz ≤ q) :=
  sw_met (by decide) (fun q => by cases q) (Nat.le_of_ble_eq_true rfl) rfl (t_X1_look hG ha1 h)
-- X1_flawOfLines
abbrev rm_X1_flawOfLines : Room := { frames := 2, cells := 0, slots := 0, locals := 44 }
def wB_X1_flawOfLines_127   (Q : Int32 → sw_I → sw_J → Prop) (s1 : Int32) (s2 : Int32) (I : sw_I) (J : sw_J) : Prop :=
  wp_X8_flawAtEnd s1 s2 I J (fun r_1 I_2 J_3 => Q r_1 I_2 J_3)
def wB_X1_flawOfLines_85  (K28 : Int32 → Int32 → Int32 → Int32 → Int32 → sw_I → sw_J → Prop) (Q : Int32 → sw_I → sw_J → Prop) (x2 : Int32) (x3 : Int32) (x4 : Int32) (x5 : Int32) (x6 : Int32) (x7 : Int32) (s0 : Int32) (I : sw_I) (J : sw_J) : Prop :=
  wp_X1_nextPlace x4 x7 s0 I J (fun r_1 I_2 J_3 => sw_if (r_1 < 0) (Q x6 I_2 J_3) (∀ y_5 : Int32, y_5 = x6 + 1 → K28 x2 x3 r_1 x5 y_5 I_2 J_3))
def wB_X1_flawOfLines_65  (K28 : Int32 → Int32 → Int32 → Int32 → Int32 → sw_I → sw_J → Prop) (Q : Int32 → sw_I → sw_J → Prop) (x2 : Int32) (x3 : Int32) (x4 : Int32) (x5 : Int32) (x6 : Int32) (x7 : Int32) (I : sw_I) (J : sw_J) : Prop :=
  wp_X8_at (x6 - (1 : Int32)) I J (fun r_1 I_2 J_3 => sw_if ((r_1 - (48 : Int32)) = x2) (wB_X1_flawOfLines_85  K28 Q x2 x3 x4 x5 x6 x7 1 I_2 J_3) (wB_X1_flawOfLines_85  K28 Q x2 x3 x4 x5 x6 x7 0 I_2 J_3))
def wb_X1_flawOfLines_28  (K28 : Int32 → Int32 → Int32 → Int32 → Int32 → sw_I → sw_J → Prop) (Q : Int32 → sw_I → sw_J → Prop) (x2 : Int32) (x3 : Int32) (x4 : Int32) (x5 : Int32) (x6 : Int32) (I : sw_I) (J : sw_J) : Prop :=
  sw_if (x6 < x3) (wp_X8_at x6 I J (fun r_3 I_4 J_5 => sw_if (x4 = 0) (∀ y_7 : Int32, y_7 = x5 + 1 → sw_if ((10 : Int32) < ((I_4 3 2) + y_7)) (Q x6 I_4 J_5) (wB_X1_flawOfLines_65  K28 Q x2 x3 x4 y_7 x6 r_3 I_4 J_5)) (wB_X1_flawOfLines_65  K28 Q x2 x3 x4 x5 x6 r_3 I_4 J_5))) (sw_if (x4 < (5 : Int32)) (wB_X1_flawOfLines_127   Q 76 0 I J) (wB_X1_flawOfLines_127   Q 76 1 I J))
def wl_X1_flawOfLines_28   (Q : Int32 → sw_I → sw_J → Prop) : Nat → Int32 → Int32 → Int32 → Int32 → Int32 → sw_I → sw_J → Prop
  | 0 => fun _ _ _ _ _ _ _ => False
  | n + 1 => fun x2 x3 x4 x5 x6 I J => wb_X1_flawOfLines_28  (wl_X1_flawOfLines_28   Q n) Q x2 x3 x4 x5 x6 I J
def wp_X1_flawOfLines (x2 : Int32) (I : sw_I) (J : sw_J) (Q : Int32 → sw_I → sw_J → Prop) : Prop :=
  sw_if ((I 1 1) = 0) (Q (-1 : Int32) I J) (∀ y_2 : Int32, y_2 = (if (76 : Int32) < (I 1 1) then (76 : Int32) else (I 1 1)) → ∃ n_4 : Nat, wl_X1_flawOfLines_28   Q n_4 x2 y_2 0 0 0 I J)
set_option maxRecDepth 20000 in
theorem t_X1_flawOfLines_127 {l : Launch} {D : va_G} {cy : Nat → ClassId} {sz : Nat} {G : sw_G} (hG : sw_lay G)   {Q : Int32 → sw_I → sw_J → Prop} {s1 : Int32} {s2 : Int32} {I : sw_I} {J : sw_J} (h : wB_X1_flawOfLines_127   Q s1 s2 I J) : AW l D cy sz RX1 cX1_flawOfLines 9 (some .int) false rm_X1_flawOfLines 0 0 (sw_qi G Q) 0 0 G I J 127 [] [.int s2, .int s1, .ref (sz + 1)] := by
  unfold wB_X1_flawOfLines_127 at h
  refine aw_callV wv_X8_flawAtEnd (M_X8_flawAtEnd hG  h) ml_X1_130 rfl (by decide) (lk1 hG) rfl rfl (Nat.le_of_ble_eq_true rfl) ⟨rfl, rfl⟩ ⟨Nat.le_of_ble_eq_true rfl, Nat.le_of_ble_eq_true rfl⟩ ⟨Nat.le_refl _, Nat.le_refl _⟩ dX1_flawOfLines_127 (aw_ki fun r_1 I_2 J_3 h => ?_)
  exact aw_iret rfl dX1_flawOfLines_130 ⟨rfl, _, rfl, h⟩
set_option maxRecDepth 20000 in
theorem t_X1_flawOfLines_85 {l : Launch} {D : va_G} {cy : Nat → ClassId} {sz : Nat} {G : sw_G} (hG : sw_lay G)   {Q : Int32 → sw_I → sw_J → Prop} {K28 : Int32 → Int32 → Int32 → Int32 → Int32 → sw_I → sw_J → Prop} (hK28 : ∀ (x2 : Int32) (x3 : Int32) (x4 : Int32) (x5 : Int32) (x6 : Int32) (I : sw_I) (J : sw_J), K28 x2 x3 x4 x5 x6 I J → AW l D cy sz RX1 cX1_flawOfLines 9 (some .int) false rm_X1_flawOfLines 0 0 (sw_qi G Q) 0 0 G I J 28 [(0, .ref (sz + 3)), (1, .ref (sz + 1)), (2, .int x2), (3, .int x3), (4, .int x4), (5, .int x5), (6, .int x6)] []) {x2 : Int32} {x3 : Int32} {x4 : Int32} {x5 : Int32} {x6 : Int32} {x7 : Int32} {s0 : Int32} {I : sw_I} {J : sw_J} (h : wB_X1_flawOfLines_85  K28 Q x2 x3 x4 x5 x6 x7 s0 I J) : AW l D cy sz RX1 cX1_flawOfLines 9 (some .int) false rm_X1_flawOfLines 0 0 (sw_qi G Q) 0 0 G I J 85 [(0, .ref (sz + 3)), (1, .ref (sz + 1)), (2, .int x2), (3, .int x3), (4, .int x4), (5, .int x5), (6, .int x6), (7, .int x7)] [.int s0] := by
  unfold wB_X1_flawOfLines_85 at h
  refine aw_istore (lv' := [(8, .int s0), (0, .ref (sz + 3)), (1, .ref (sz + 1)), (2, .int x2), (3, .int x3), (4, .int x4), (5, .int x5), (6, .int x6), (7, .int x7)]) dX1_flawOfLines_85 (by decide) rfl ?_
  refine aw_aload_n 1 dX1_flawOfLines_87 rfl rfl ?_
  refine aw_iload 5 dX1_flawOfLines_88 rfl ?_
  refine aw_iload 8 dX1_flawOfLines_90 rfl ?_
  refine aw_iload 0 dX1_flawOfLines_92 rfl ?_
  refine aw_callV wv_X1_nextPlace (M_X1_nextPlace hG  h) ml_X1_126 rfl (by decide) (lk3 hG) rfl rfl (Nat.le_of_ble_eq_true rfl) ⟨rfl, rfl⟩ ⟨Nat.le_of_ble_eq_true rfl, Nat.le_of_ble_eq_true rfl⟩ ⟨Nat.le_refl _, Nat.le_refl _⟩ dX1_flawOfLines_94 (aw_ki fun r_1 I_2 J_3 h => ?_)
  refine aw_istore (lv' := [(4, .int r_1), (8, .int s0), (0, .ref (sz + 3)), (1, .ref (sz + 1)), (2, .int x2), (3, .int x3), (5, .int x5), (6, .int x6), (7, .int x7)]) dX1_flawOfLines_97 (by decide) rfl ?_
  refine aw_iload 0 dX1_flawOfLines_99 rfl ?_
  refine aw_zge 107 dX1_flawOfLines_101 (by decide) (fun c_4 => ?_) (fun c_4 => ?_)
  · have h := sw_if.f h c_4
    obtain ⟨y_5, e_6⟩ : ∃ q : Int32, q = x6 + 1 := ⟨_, rfl⟩
    have h := h y_5 e_6
    refine aw_iinc (lv' := [(6, .int y_5), (4, .int r_1), (8, .int s0), (0, .ref (sz + 3)), (1, .ref (sz + 1)), (2, .int x2), (3, .int x3), (5, .int x5), (7, .int x7)]) 7 dX1_flawOfLines_107 rfl (by rw [e_6]; rfl) (by decide) rfl ?_
    refine aw_goto 28 dX1_flawOfLines_110 (by decide) ?_
    refine aw_sub [3, 4, 5, 6, 1, 7, 0] rfl ?_
    exact hK28 x2 x3 r_1 x5 y_5 I_2 J_3 h
  · have h := sw_if.t h c_4
    refine aw_iload 7 dX1_flawOfLines_104 rfl ?_
    exact aw_iret rfl dX1_flawOfLines_106 ⟨rfl, _, rfl, h⟩
set_option maxRecDepth 20000 in
theorem t_X1_flawOfLines_65 {l : Launch} {D : va_G} {cy : Nat → ClassId} {sz : Nat} {G : sw_G} (hG : sw_lay G)   {Q : Int32 → sw_I → sw_J → Prop} {K28 : Int32 → Int32 → Int32 → Int32 → Int32 → sw_I → sw_J → Prop} (hK28 : ∀ (x2 : Int32) (x3 : Int32) (x4 : Int32) (x5 : Int32) (x6 : Int32) (I : sw_I) (J : sw_J), K28 x2 x3 x4 x5 x6 I J → AW l D cy sz RX1 cX1_flawOfLines 9 (some .int) false rm_X1_flawOfLines 0 0 (sw_qi G Q) 0 0 G I J 28 [(0, .ref (sz + 3)), (1, .ref (sz + 1)), (2, .int x2), (3, .int x3), (4, .int x4), (5, .int x5), (6, .int x6)] []) {x2 : Int32} {x3 : Int32} {x4 : Int32} {x5 : Int32} {x6 : Int32} {x7 : Int32} {I : sw_I} {J : sw_J} (h : wB_X1_flawOfLines_65  K28 Q x2 x3 x4 x5 x6 x7 I J) : AW l D cy sz RX1 cX1_flawOfLines 9 (some .int) false rm_X1_flawOfLines 0 0 (sw_qi G Q) 0 0 G I J 65 [(0, .ref (sz + 3)), (1, .ref (sz + 1)), (2, .int x2), (3, .int x3), (4, .int x4), (5, .int x5), (6, .int x6), (7, .int x7)] [] := by
  unfold wB_X1_flawOfLines_65 at h
  refine aw_aload_n 1 dX1_flawOfLines_65 rfl rfl ?_
  refine aw_iload 6 dX1_flawOfLines_66 rfl ?_
  refine aw_iconst (v := 1) dX1_flawOfLines_68 (by decide) ?_
  refine aw_isub dX1_flawOfLines_69 ?_
  refine aw_callV wv_X8_at (M_X8_at hG  h) ml_X1_124 rfl (by decide) (lk1 hG) rfl rfl (Nat.le_of_ble_eq_true rfl) ⟨rfl, rfl⟩ ⟨Nat.le_of_ble_eq_true rfl, Nat.le_of_ble_eq_true rfl⟩ ⟨Nat.le_refl _, Nat.le_refl _⟩ dX1_flawOfLines_70 (aw_ki fun r_1 I_2 J_3 h => ?_)
  refine aw_bipush (v := 48) dX1_flawOfLines_73 (by decide) ?_
  refine aw_isub dX1_flawOfLines_75 ?_
  refine aw_iload_n 2 dX1_flawOfLines_76 rfl rfl ?_
  refine aw_jne 84 dX1_flawOfLines_77 (by decide) (fun c_4 => ?_) (fun c_4 => ?_)
  · have h := sw_if.f h c_4
    refine aw_iconst (v := 0) dX1_flawOfLines_84 (by decide) ?_
    refine aw_sub [0, 1, 2, 3, 4, 5, 6, 7] rfl ?_
    exact t_X1_flawOfLines_85 hG  hK28 h
  · have h := sw_if.t h c_4
    refine aw_iconst (v := 1) dX1_flawOfLines_80 (by decide) ?_
    refine aw_goto 85 dX1_flawOfLines_81 (by decide) ?_
    refine aw_sub [0, 1, 2, 3, 4, 5, 6, 7] rfl ?_
    exact t_X1_flawOfLines_85 hG  hK28 h
set_option maxRecDepth 20000 in
theorem tb_X1_flawOfLines_28 {l : Launch} {D : va_G} {cy : Nat → ClassId} {sz : Nat} {G : sw_G} (hG : sw_lay G)   {Q : Int32 → sw_I → sw_J → Prop} {K28 : Int32 → Int32 → Int32 → Int32 → Int32 → sw_I → sw_J → Prop} (hK28 : ∀ (x2 : Int32) (x3 : Int32) (x4 : Int32) (x5 : Int32) (x6 : Int32) (I : sw_I) (J : sw_J), K28 x2 x3 x4 x5 x6 I J → AW l D cy sz RX1 cX1_flawOfLines 9 (some .int) false rm_X1_flawOfLines 0 0 (sw_qi G Q) 0 0 G I J 28 [(0, .ref (sz + 3)), (1, .ref (sz + 1)), (2, .int x2), (3, .int x3), (4, .int x4), (5, .int x5), (6, .int x6)] []) {x2 : Int32} {x3 : Int32} {x4 : Int32} {x5 : Int32} {x6 : Int32} {I : sw_I} {J : sw_J} (h : wb_X1_flawOfLines_28  K28 Q x2 x3 x4 x5 x6 I J) : AW l D cy sz RX1 cX1_flawOfLines 9 (some .int) false rm_X1_flawOfLines 0 0 (sw_qi G Q) 0 0 G I J 28 [(0, .ref (sz + 3)), (1, .ref (sz + 1)), (2, .int x2), (3, .int x3), (4, .int x4), (5, .int x5), (6, .int x6)] [] := by
  unfold wb_X1_flawOfLines_28 at h
  refine aw_iload 6 dX1_flawOfLines_28 rfl ?_
  refine aw_iload_n 3 dX1_flawOfLines_30 rfl rfl ?_
  refine aw_jge 113 dX1_flawOfLines_31 (by decide) (fun c_1 => ?_) (fun c_1 => ?_)
  · have h := sw_if.f h c_1
    refine aw_aload_n 1 dX1_flawOfLines_113 rfl rfl ?_
    refine aw_bipush (v := 76) dX1_flawOfLines_114 (by decide) ?_
    refine aw_iload 4 dX1_flawOfLines_116 rfl ?_
    refine aw_iconst (v := 5) dX1_flawOfLines_118 (by decide) ?_
    refine aw_jlt 126 dX1_flawOfLines_119 (by decide) (fun c_2 => ?_) (fun c_2 => ?_)
    · have h := sw_if.t h c_2
      refine aw_iconst (v := 0) dX1_flawOfLines_126 (by decide) ?_
      refine aw_sub [] rfl ?_
      exact t_X1_flawOfLines_127 hG   h
    · have h := sw_if.f h c_2
      refine aw_iconst (v := 1) dX1_flawOfLines_122 (by decide) ?_
      refine aw_goto 127 dX1_flawOfLines_123 (by decide) ?_
      refine aw_sub [] rfl ?_
      exact t_X1_flawOfLines_127 hG   h
  · have h := sw_if.t h c_1
    refine aw_aload_n 1 dX1_flawOfLines_34 rfl rfl ?_
    refine aw_iload 6 dX1_flawOfLines_35 rfl ?_
    refine aw_callV wv_X8_at (M_X8_at hG  h) ml_X1_124 rfl (by decide) (lk1 hG) rfl rfl (Nat.le_of_ble_eq_true rfl) ⟨rfl, rfl⟩ ⟨Nat.le_of_ble_eq_true rfl, Nat.le_of_ble_eq_true rfl⟩ ⟨Nat.le_refl _, Nat.le_refl _⟩ dX1_flawOfLines_37 (aw_ki fun r_3 I_4 J_5 h => ?_)
    refine aw_istore (lv' := [(7, .int r_3), (0, .ref (sz + 3)), (1, .ref (sz + 1)), (2, .int x2), (3, .int x3), (4, .int x4), (5, .int x5), (6, .int x6)]) dX1_flawOfLines_40 (by decide) rfl ?_
    refine aw_iload 5 dX1_flawOfLines_42 rfl ?_
    refine aw_zne 65 dX1_flawOfLines_44 (by decide) (fun c_6 => ?_) (fun c_6 => ?_)
    · have h := sw_if.f h c_6
      refine aw_sub [1, 2, 3, 4, 5, 6, 7, 0] rfl ?_
      exact t_X1_flawOfLines_65 hG  hK28 h
    · have h := sw_if.t h c_6
      obtain ⟨y_7, e_8⟩ : ∃ q : Int32, q = x5 + 1 := ⟨_, rfl⟩
      have h := h y_7 e_8
      refine aw_iinc (lv' := [(5, .int y_7), (7, .int r_3), (0, .ref (sz + 3)), (1, .ref (sz + 1)), (2, .int x2), (3, .int x3), (4, .int x4), (6, .int x6)]) 6 dX1_flawOfLines_47 rfl (by rw [e_8]; rfl) (by decide) rfl ?_
      refine aw_aload_n 2 dX1_flawOfLines_50 rfl rfl ?_
      refine gf_X1_2 fl_X1_18 (lk3 hG) dX1_flawOfLines_51 ?_
      refine aw_iload 0 dX1_flawOfLines_54 rfl ?_
      refine aw_iadd dX1_flawOfLines_56 ?_
      refine aw_bipush (v := 10) dX1_flawOfLines_57 (by decide) ?_
      refine aw_jle 65 dX1_flawOfLines_59 (by decide) (fun c_9 => ?_) (fun c_9 => ?_)
      · have h := sw_if.f h c_9
        refine aw_sub [2, 3, 4, 5, 6, 0, 7, 1] rfl ?_
        exact t_X1_flawOfLines_65 hG  hK28 h
      · have h := sw_if.t h c_9
        refine aw_iload 7 dX1_flawOfLines_62 rfl ?_
        exact aw_iret rfl dX1_flawOfLines_64 ⟨rfl, _, rfl, h⟩
set_option maxRecDepth 20000 in
theorem tl_X1_flawOfLines_28 {l : Launch} {D : va_G} {cy : Nat → ClassId} {sz : Nat} {G : sw_G} (hG : sw_lay G)   {Q : Int32 → sw_I → sw_J → Prop} : ∀ (n : Nat) (x2 : Int32) (x3 : Int32) (x4 : Int32) (x5 : Int32) (x6 : Int32) (I : sw_I) (J : sw_J), wl_X1_flawOfLines_28   Q n x2 x3 x4 x5 x6 I J → AW l D cy sz RX1 cX1_flawOfLines 9 (some .int) false rm_X1_flawOfLines 0 0 (sw_qi G Q) 0 0 G I J 28 [(0, .ref (sz + 3)), (1, .ref (sz + 1)), (2, .int x2), (3, .int x3), (4, .int x4), (5, .int x5), (6, .int x6)] [] := by
  intro n
  induction n with
  | zero => intro x2 x3 x4 x5 x6 I J h; exact False.elim h
  | succ n ih => intro x2 x3 x4 x5 x6 I J h; exact tb_X1_flawOfLines_28 hG  ih h
set_option maxRecDepth 20000 in
theorem t_X1_flawOfLines {l : Launch} {D : va_G} {cy : Nat → ClassId} {sz : Nat} {G : sw_G} (hG : sw_lay G)   {Q : Int32 → sw_I → sw_J → Prop} {x2 : Int32} {I : sw_I} {J : sw_J} (h : wp_X1_flawOfLines x2 I J Q) : AW l D cy sz RX1 cX1_flawOfLines 9 (some .int) false rm_X1_flawOfLines 0 0 (sw_qi G Q) 0 0 G I J 0 [(0, .ref (sz + 3)), (1, .ref (sz + 1)), (2, .int x2)] [] := by
  unfold wp_X1_flawOfLines at h
  refine aw_aload_n 1 dX1_flawOfLines_0 rfl rfl ?_
  refine gf_X8_1 fl_X1_116 (lk1 hG) dX1_flawOfLines_1 ?_
  refine aw_zne 9 dX1_flawOfLines_4 (by decide) (fun c_1 => ?_) (fun c_1 => ?_)
  · have h := sw_if.f h c_1
    refine aw_aload_n 1 dX1_flawOfLines_9 rfl rfl ?_
    refine gf_X8_1 fl_X1_116 (lk1 hG) dX1_flawOfLines_10 ?_
    refine aw_bipush (v := 76) dX1_flawOfLines_13 (by decide) ?_
    refine aw_mmin mm_X1_121 wm_min (Nat.le_of_ble_eq_true rfl) (Nat.le_of_ble_eq_true rfl) ⟨Nat.le_refl _, Nat.le_refl _⟩ dX1_flawOfLines_15 ?_
    refine aw_topi (fun y_2 e_3 => ?_)
    have h := h y_2 e_3
    refine aw_istore_n (lv' := [(3, .int y_2), (0, .ref (sz + 3)), (1, .ref (sz + 1)), (2, .int x2)]) dX1_flawOfLines_18 rfl (by decide) rfl ?_
    refine aw_iconst (v := 0) dX1_flawOfLines_19 (by decide) ?_
    refine aw_istore (lv' := [(4, .int 0), (3, .int y_2), (0, .ref (sz + 3)), (1, .ref (sz + 1)), (2, .int x2)]) dX1_flawOfLines_20 (by decide) rfl ?_
    refine aw_iconst (v := 0) dX1_flawOfLines_22 (by decide) ?_
    refine aw_istore (lv' := [(5, .int 0), (4, .int 0), (3, .int y_2), (0, .ref (sz + 3)), (1, .ref (sz + 1)), (2, .int x2)]) dX1_flawOfLines_23 (by decide) rfl ?_
    refine aw_iconst (v := 0) dX1_flawOfLines_25 (by decide) ?_
    refine aw_istore (lv' := [(6, .int 0), (5, .int 0), (4, .int 0), (3, .int y_2), (0, .ref (sz + 3)), (1, .ref (sz + 1)), (2, .int x2)]) dX1_flawOfLines_26 (by decide) rfl ?_
    refine aw_sub [4, 5, 6, 3, 2, 1, 0] rfl ?_
    obtain ⟨n_4, h⟩ := h
    exact tl_X1_flawOfLines_28 hG   n_4 x2 y_2 0 0 0 I J h
  · have h := sw_if.t h c_1
    refine aw_iconst (v := (-1)) dX1_flawOfLines_7 (by decide) ?_
    exact aw_iret rfl dX1_flawOfLines_8 ⟨rfl, _, rfl, h⟩
theorem M_X1_flawOfLines {l : Launch} {D : va_G} {cy : Nat → ClassId} {sz : Nat} {G : sw_G} (hG : sw_lay G)   {Q : Int32 → sw_I → sw_J → Prop} {x2 : Int32} {I : sw_I} {J : sw_J} (h : wp_X1_flawOfLines x2 I J Q) : Met l yX1_flawOfLines (Cond.code yX1_flawOfLines cX1_flawOfLines 9 (some .int) :: sw_T) rm_X1_flawOfLines (sw_Pc D cy sz [.ref (sz + 3), .ref (sz + 1), .int x2] G I J) (sw_Q D cy sz (sw_qi G Q)) 0 0 (fun q => sz ≤ q) :=
  sw_met (by decide) (fun q => by cases q) (Nat.le_of_ble_eq_true rfl) rfl (t_X1_flawOfLines hG  h)
-- X2_flawOf
abbrev rm_X2_flawOf : Room := { frames := 2, cells := 0, slots := 0, locals := 40 }
def wB_X2_flawOf_229   (Q : Int32 → sw_I → sw_J → Prop) (s1 : Int32) (s2 : Int32) (I : sw_I) (J : sw_J) : Prop :=
  wp_X8_flawAtEnd s1 s2 I J (fun r_1 I_2 J_3 => Q r_1 I_2 J_3)
def wB_X2_flawOf_228   (Q : Int32 → sw_I → sw_J → Prop) (s1 : Int32) (I : sw_I) (J : sw_J) : Prop :=
  wB_X2_flawOf_229   Q s1 0 I J
def wB_X2_flawOf_206  (K33 : Int32 → Int32 → Int32 → Int32 → Int32 → Int32 → sw_I → sw_J → Prop) (Q : Int32 → sw_I → sw_J → Prop) (x2 : Int32) (x3 : Int32) (x4 : Int32) (x5 : Int32) (x6 : Int32) (x7 : Int32) (I : sw_I) (J : sw_J) : Prop :=
  ∀ y_1 : Int32, y_1 = x7 + 1 → K33 x2 x3 x4 x5 x6 y_1 I J
def wB_X2_flawOf_191  (K33 : Int32 → Int32 → Int32 → Int32 → Int32 → Int32 → sw_I → sw_J → Prop) (Q : Int32 → sw_I → sw_J → Prop) (x2 : Int32) (x3 : Int32) (x4 : Int32) (x5 : Int32) (x6 : Int32) (x7 : Int32) (I : sw_I) (J : sw_J) : Prop :=
  sw_if (x6 < (2 : Int32)) (Q x7 I J) (sw_if ((3 : Int32) < x6) (Q x7 I J) (wB_X2_flawOf_206  K33 Q x2 x3 x4 x5 x6 x7 I J))
def wB_X2_flawOf_168  (K33 : Int32 → Int32 → Int32 → Int32 → Int32 → Int32 → sw_I → sw_J → Prop) (Q : Int32 → sw_I → sw_J → Prop) (x2 : Int32) (x4 : Int32) (x5 : Int32) (x6 : Int32) (x7 : Int32) (I : sw_I) (J : sw_J) : Prop :=
  wB_X2_flawOf_206  K33 Q x2 1 x4 x5 x6 x7 I J
def wB_X2_flawOf_115  (K33 : Int32 → Int32 → Int32 → Int32 → Int32 → Int32 → sw_I → sw_J → Prop) (Q : Int32 → sw_I → sw_J → Prop) (x2 : Int32) (x4 : Int32) (x5 : Int32) (x6 : Int32) (x7 : Int32) (I : sw_I) (J : sw_J) : Prop :=
  wB_X2_flawOf_206  K33 Q x2 0 x4 x5 x6 x7 I J
def wB_X2_flawOf_99  (K33 : Int32 → Int32 → Int32 → Int32 → Int32 → Int32 → sw_I → sw_J → Prop) (Q : Int32 → sw_I → sw_J → Prop) (x2 : Int32) (x3 : Int32) (x4 : Int32) (x5 : Int32) (x6 : Int32) (x7 : Int32) (x8 : Int32) (I : sw_I) (J : sw_J) : Prop :=
  wp_X2_isDigit x8 I J (fun r_1 I_2 J_3 => sw_if (r_1 = 0) (wp_X2_isName x8 I_2 J_3 (fun r_5 I_6 J_7 => sw_if (r_5 = 0) (sw_if (x8 = (45 : Int32)) (wB_X2_flawOf_206  K33 Q x2 x3 x4 x5 x6 x7 I_6 J_7) (Q x7 I_6 J_7)) (wB_X2_flawOf_115  K33 Q x2 x4 x5 x6 x7 I_6 J_7))) (wB_X2_flawOf_115  K33 Q x2 x4 x5 x6 x7 I_2 J_3))
def wB_X2_flawOf_63  (K33 : Int32 → Int32 → Int32 → Int32 → Int32 → Int32 → sw_I → sw_J → Prop) (Q : Int32 → sw_I → sw_J → Prop) (x2 : Int32) (x3 : Int32) (x4 : Int32) (x5 : Int32) (x7 : Int32) (x8 : Int32) (s0 : Int32) (I : sw_I) (J : sw_J) : Prop :=
  sw_if (x3 = 0) (wp_X2_joinsTwo x8 I J (fun r_2 I_3 J_4 => sw_if (r_2 = 0) (sw_if (x8 = (41 : Int32)) (sw_if (0 < x4) (∀ y_8 : Int32, y_8 = x4 + (-1) → wB_X2_flawOf_206  K33 Q x2 x3 y_8 x5 s0 x7 I_3 J_4) (wB_X2_flawOf_191  K33 Q x2 x3 x4 x5 s0 x7 I_3 J_4)) (wB_X2_flawOf_191  K33 Q x2 x3 x4 x5 s0 x7 I_3 J_4)) (wp_X2_compares x8 I_3 J_4 (fun r_10 I_11 J_12 => sw_if (r_10 = 0) (wB_X2_flawOf_168  K33 Q x2 x4 x5 s0 x7 I_11 J_12) (sw_if (((x5 >>> (x4 &&& 31)) &&& (1 : Int32)) = 0) (∀ y_15 : Int32, y_15 = x5 ||| ((1 : Int32) <<< (x4 &&& 31)) → wB_X2_flawOf_168  K33 Q x2 x4 y_15 s0 x7 I_11 J_12) (Q x7 I_11 J_12)))))) (sw_if (x8 = (40 : Int32)) (sw_if (x4 < (4 : Int32)) (∀ y_19 : Int32, y_19 = x4 + 1 → ∀ y_21 : Int32, y_21 = x5 &&& (((1 : Int32) <<< (y_19 &&& 31)) ^^^ (-1 : Int32)) → wB_X2_flawOf_206  K33 Q x2 x3 y_19 y_21 s0 x7 I J) (wB_X2_flawOf_99  K33 Q x2 x3 x4 x5 s0 x7 x8 I J)) (wB_X2_flawOf_99  K33 Q x2 x3 x4 x5 s0 x7 x8 I J))
def wb_X2_flawOf_33  (K33 : Int32 → Int32 → Int32 → Int32 → Int32 → Int32 → sw_I → sw_J → Prop) (Q : Int32 → sw_I → sw_J → Prop) (x2 : Int32) (x3 : Int32) (x4 : Int32) (x5 : Int32) (x6 : Int32) (x7 : Int32) (I : sw_I) (J : sw_J) : Prop :=
  sw_if (x7 < x2) (wp_X8_at x7 I J (fun r_4 I_5 J_6 => wp_X2_isDigit r_4 I_5 J_6 (fun r_7 I_8 J_9 => sw_if (r_7 = 0) (wB_X2_flawOf_63  K33 Q x2 x3 x4 x5 x7 r_4 0 I_8 J_9) (wB_X2_flawOf_63  K33 Q x2 x3 x4 x5 x7 r_4 (x6 + (1 : Int32)) I_8 J_9)))) (sw_if (x3 = 0) (sw_if (x4 = 0) (wB_X2_flawOf_229   Q 40 1 I J) (wB_X2_flawOf_228   Q 40 I J)) (wB_X2_flawOf_228   Q 40 I J))
def wl_X2_flawOf_33   (Q : Int32 → sw_I → sw_J → Prop) : Nat → Int32 → Int32 → Int32 → Int32 → Int32 → Int32 → sw_I → sw_J → Prop
  | 0 => fun _ _ _ _ _ _ _ _ => False
  | n + 1 => fun x2 x3 x4 x5 x6 x7 I J => wb_X2_flawOf_33  (wl_X2_flawOf_33   Q n) Q x2 x3 x4 x5 x6 x7 I J
def wp_X2_flawOf  (I : sw_I) (J : sw_J) (Q : Int32 → sw_I → sw_J → Prop) : Prop :=
  sw_if ((I 1 1) = 0) (Q (-1 : Int32) I J) (∀ y_2 : Int32, y_2 = (if (40 : Int32) < (I 1 1) then (40 : Int32) else (I 1 1)) → ∃ n_4 : Nat, wl_X2_flawOf_33   Q n_4 y_2 1 0 0 0 0 I J)
set_option maxRecDepth 20000 in
theorem t_X2_flawOf_229 {l : Launch} {D : va_G} {cy : Nat → ClassId} {sz : Nat} {G : sw_G} (hG : sw_lay G)   {Q : Int32 → sw_I → sw_J → Prop} {s1 : Int32} {s2 : Int32} {I : sw_I} {J : sw_J} (h : wB_X2_flawOf_229   Q s1 s2 I J) : AW l D cy sz RX2 cX2_flawOf 9 (some .int) false rm_X2_flawOf 0 0 (sw_qi G Q) 0 0 G I J 229 [] [.int s2, .int s1, .ref (sz + 1)] := by
  unfold wB_X2_flawOf_229 at h
  refine aw_callV wv_X8_flawAtEnd (M_X8_flawAtEnd hG  h) ml_X2_58 rfl (by decide) (lk1 hG) rfl rfl (Nat.le_of_ble_eq_true rfl) ⟨rfl, rfl⟩ ⟨Nat.le_of_ble_eq_true rfl, Nat.le_of_ble_eq_true rfl⟩ ⟨Nat.le_refl _, Nat.le_refl _⟩ dX2_flawOf_229 (aw_ki fun r_1 I_2 J_3 h => ?_)
  exact aw_iret rfl dX2_flawOf_232 ⟨rfl, _, rfl, h⟩
set_option maxRecDepth 20000 in
theorem t_X2_flawOf_228 {l : Launch} {D : va_G} {cy : Nat → ClassId} {sz : Nat} {G : sw_G} (hG : sw_lay G)   {Q : Int32 → sw_I → sw_J → Prop} {s1 : Int32} {I : sw_I} {J : sw_J} (h : wB_X2_flawOf_228   Q s1 I J) : AW l D cy sz RX2 cX2_flawOf 9 (some .int) false rm_X2_flawOf 0 0 (sw_qi G Q) 0 0 G I J 228 [] [.int s1, .ref (sz + 1)] := by
  unfold wB_X2_flawOf_228 at h
  refine aw_iconst (v := 0) dX2_flawOf_228 (by decide) ?_
  refine aw_sub [] rfl ?_
  exact t_X2_flawOf_229 hG   h
set_option maxRecDepth 20000 in
theorem t_X2_flawOf_206 {l : Launch} {D : va_G} {cy : Nat → ClassId} {sz : Nat} {G : sw_G} (hG : sw_lay G)   {Q : Int32 → sw_I → sw_J → Prop} {K33 : Int32 → Int32 → Int32 → Int32 → Int32 → Int32 → sw_I → sw_J → Prop} (hK33 : ∀ (x2 : Int32) (x3 : Int32) (x4 : Int32) (x5 : Int32) (x6 : Int32) (x7 : Int32) (I : sw_I) (J : sw_J), K33 x2 x3 x4 x5 x6 x7 I J → AW l D cy sz RX2 cX2_flawOf 9 (some .int) false rm_X2_flawOf 0 0 (sw_qi G Q) 0 0 G I J 33 [(1, .ref (sz + 1)), (2, .int x2), (3, .int x3), (4, .int x4), (5, .int x5), (6, .int x6), (7, .int x7)] []) {x2 : Int32} {x3 : Int32} {x4 : Int32} {x5 : Int32} {x6 : Int32} {x7 : Int32} {I : sw_I} {J : sw_J} (h : wB_X2_flawOf_206  K33 Q x2 x3 x4 x5 x6 x7 I J) : AW l D cy sz RX2 cX2_flawOf 9 (some .int) false rm_X2_flawOf 0 0 (sw_qi G Q) 0 0 G I J 206 [(1, .ref (sz + 1)), (2, .int x2), (3, .int x3), (4, .int x4), (5, .int x5), (6, .int x6), (7, .int x7)] [] := by
  unfold wB_X2_flawOf_206 at h
  obtain ⟨y_1, e_2⟩ : ∃ q : Int32, q = x7 + 1 := ⟨_, rfl⟩
  have h := h y_1 e_2
  refine aw_iinc (lv' := [(7, .int y_1), (1, .ref (sz + 1)), (2, .int x2), (3, .int x3), (4, .int x4), (5, .int x5), (6, .int x6)]) 6 dX2_flawOf_206 rfl (by rw [e_2]; rfl) (by decide) rfl ?_
  refine aw_goto 33 dX2_flawOf_209 (by decide) ?_
  refine aw_sub [1, 2, 3, 4, 5, 6, 0] rfl ?_
  exact hK33 x2 x3 x4 x5 x6 y_1 I J h
set_option maxRecDepth 20000 in
theorem t_X2_flawOf_191 {l : Launch} {D : va_G} {cy : Nat → ClassId} {sz : Nat} {G : sw_G} (hG : sw_lay G)   {Q : Int32 → sw_I → sw_J → Prop} {K33 : Int32 → Int32 → Int32 → Int32 → Int32 → Int32 → sw_I → sw_J → Prop} (hK33 : ∀ (x2 : Int32) (x3 : Int32) (x4 : Int32) (x5 : Int32) (x6 : Int32) (x7 : Int32) (I : sw_I) (J : sw_J), K33 x2 x3 x4 x5 x6 x7 I J → AW l D cy sz RX2 cX2_flawOf 9 (some .int) false rm_X2_flawOf 0 0 (sw_qi G Q) 0 0 G I J 33 [(1, .ref (sz + 1)), (2, .int x2), (3, .int x3), (4, .int x4), (5, .int x5), (6, .int x6), (7, .int x7)] []) {x2 : Int32} {x3 : Int32} {x4 : Int32} {x5 : Int32} {x6 : Int32} {x7 : Int32} {I : sw_I} {J : sw_J} (h : wB_X2_flawOf_191  K33 Q x2 x3 x4 x5 x6 x7 I J) : AW l D cy sz RX2 cX2_flawOf 9 (some .int) false rm_X2_flawOf 0 0 (sw_qi G Q) 0 0 G I J 191 [(1, .ref (sz + 1)), (2, .int x2), (3, .int x3), (4, .int x4), (5, .int x5), (6, .int x6), (7, .int x7)] [] := by
  unfold wB_X2_flawOf_191 at h
  refine aw_iload 5 dX2_flawOf_191 rfl ?_
  refine aw_iconst (v := 2) dX2_flawOf_193 (by decide) ?_
  refine aw_jlt 203 dX2_flawOf_194 (by decide) (fun c_1 => ?_) (fun c_1 => ?_)
  · have h := sw_if.t h c_1
    refine aw_iload 6 dX2_flawOf_203 rfl ?_
    exact aw_iret rfl dX2_flawOf_205 ⟨rfl, _, rfl, h⟩
  · have h := sw_if.f h c_1
    refine aw_iload 5 dX2_flawOf_197 rfl ?_
    refine aw_iconst (v := 3) dX2_flawOf_199 (by decide) ?_
    refine aw_jle 206 dX2_flawOf_200 (by decide) (fun c_2 => ?_) (fun c_2 => ?_)
    · have h := sw_if.f h c_2
      refine aw_sub [0, 1, 2, 3, 4, 5, 6] rfl ?_
      exact t_X2_flawOf_206 hG  hK33 h
    · have h := sw_if.t h c_2
      refine aw_iload 6 dX2_flawOf_203 rfl ?_
      exact aw_iret rfl dX2_flawOf_205 ⟨rfl, _, rfl, h⟩
set_option maxRecDepth 20000 in
theorem t_X2_flawOf_168 {l : Launch} {D : va_G} {cy : Nat → ClassId} {sz : Nat} {G : sw_G} (hG : sw_lay G)   {Q : Int32 → sw_I → sw_J → Prop} {K33 : Int32 → Int32 → Int32 → Int32 → Int32 → Int32 → sw_I → sw_J → Prop} (hK33 : ∀ (x2 : Int32) (x3 : Int32) (x4 : Int32) (x5 : Int32) (x6 : Int32) (x7 : Int32) (I : sw_I) (J : sw_J), K33 x2 x3 x4 x5 x6 x7 I J → AW l D cy sz RX2 cX2_flawOf 9 (some .int) false rm_X2_flawOf 0 0 (sw_qi G Q) 0 0 G I J 33 [(1, .ref (sz + 1)), (2, .int x2), (3, .int x3), (4, .int x4), (5, .int x5), (6, .int x6), (7, .int x7)] []) {x2 : Int32} {x4 : Int32} {x5 : Int32} {x6 : Int32} {x7 : Int32} {I : sw_I} {J : sw_J} (h : wB_X2_flawOf_168  K33 Q x2 x4 x5 x6 x7 I J) : AW l D cy sz RX2 cX2_flawOf 9 (some .int) false rm_X2_flawOf 0 0 (sw_qi G Q) 0 0 G I J 168 [(1, .ref (sz + 1)), (2, .int x2), (4, .int x4), (5, .int x5), (6, .int x6), (7, .int x7)] [] := by
  unfold wB_X2_flawOf_168 at h
  refine aw_iconst (v := 1) dX2_flawOf_168 (by decide) ?_
  refine aw_istore_n (lv' := [(3, .int 1), (1, .ref (sz + 1)), (2, .int x2), (4, .int x4), (5, .int x5), (6, .int x6), (7, .int x7)]) dX2_flawOf_169 rfl (by decide) rfl ?_
  refine aw_goto 206 dX2_flawOf_170 (by decide) ?_
  refine aw_sub [1, 2, 0, 3, 4, 5, 6] rfl ?_
  exact t_X2_flawOf_206 hG  hK33 h
set_option maxRecDepth 20000 in
theorem t_X2_flawOf_115 {l : Launch} {D : va_G} {cy : Nat → ClassId} {sz : Nat} {G : sw_G} (hG : sw_lay G)   {Q : Int32 → sw_I → sw_J → Prop} {K33 : Int32 → Int32 → Int32 → Int32 → Int32 → Int32 → sw_I → sw_J → Prop} (hK33 : ∀ (x2 : Int32) (x3 : Int32) (x4 : Int32) (x5 : Int32) (x6 : Int32) (x7 : Int32) (I : sw_I) (J : sw_J), K33 x2 x3 x4 x5 x6 x7 I J → AW l D cy sz RX2 cX2_flawOf 9 (some .int) false rm_X2_flawOf 0 0 (sw_qi G Q) 0 0 G I J 33 [(1, .ref (sz + 1)), (2, .int x2), (3, .int x3), (4, .int x4), (5, .int x5), (6, .int x6), (7, .int x7)] []) {x2 : Int32} {x4 : Int32} {x5 : Int32} {x6 : Int32} {x7 : Int32} {I : sw_I} {J : sw_J} (h : wB_X2_flawOf_115  K33 Q x2 x4 x5 x6 x7 I J) : AW l D cy sz RX2 cX2_flawOf 9 (some .int) false rm_X2_flawOf 0 0 (sw_qi G Q) 0 0 G I J 115 [(1, .ref (sz + 1)), (2, .int x2), (4, .int x4), (5, .int x5), (6, .int x6), (7, .int x7)] [] := by
  unfold wB_X2_flawOf_115 at h
  refine aw_iconst (v := 0) dX2_flawOf_115 (by decide) ?_
  refine aw_istore_n (lv' := [(3, .int 0), (1, .ref (sz + 1)), (2, .int x2), (4, .int x4), (5, .int x5), (6, .int x6), (7, .int x7)]) dX2_flawOf_116 rfl (by decide) rfl ?_
  refine aw_goto 206 dX2_flawOf_117 (by decide) ?_
  refine aw_sub [1, 2, 0, 3, 4, 5, 6] rfl ?_
  exact t_X2_flawOf_206 hG  hK33 h
set_option maxRecDepth 20000 in
theorem t_X2_flawOf_99 {l : Launch} {D : va_G} {cy : Nat → ClassId} {sz : Nat} {G : sw_G} (hG : sw_lay G)   {Q : Int32 → sw_I → sw_J → Prop} {K33 : Int32 → Int32 → Int32 → Int32 → Int32 → Int32 → sw_I → sw_J → Prop} (hK33 : ∀ (x2 : Int32) (x3 : Int32) (x4 : Int32) (x5 : Int32) (x6 : Int32) (x7 : Int32) (I : sw_I) (J : sw_J), K33 x2 x3 x4 x5 x6 x7 I J → AW l D cy sz RX2 cX2_flawOf 9 (some .int) false rm_X2_flawOf 0 0 (sw_qi G Q) 0 0 G I J 33 [(1, .ref (sz + 1)), (2, .int x2), (3, .int x3), (4, .int x4), (5, .int x5), (6, .int x6), (7, .int x7)] []) {x2 : Int32} {x3 : Int32} {x4 : Int32} {x5 : Int32} {x6 : Int32} {x7 : Int32} {x8 : Int32} {I : sw_I} {J : sw_J} (h : wB_X2_flawOf_99  K33 Q x2 x3 x4 x5 x6 x7 x8 I J) : AW l D cy sz RX2 cX2_flawOf 9 (some .int) false rm_X2_flawOf 0 0 (sw_qi G Q) 0 0 G I J 99 [(1, .ref (sz + 1)), (2, .int x2), (3, .int x3), (4, .int x4), (5, .int x5), (6, .int x6), (7, .int x7), (8, .int x8)] [] := by
  unfold wB_X2_flawOf_99 at h
  refine aw_iload 7 dX2_flawOf_99 rfl ?_
  refine aw_callS wv_X2_isDigit (M_X2_isDigit trivial  h) ml_X2_49 rfl rfl (Nat.le_of_ble_eq_true rfl) ⟨rfl, rfl⟩ ⟨Nat.le_of_ble_eq_true rfl, Nat.le_of_ble_eq_true rfl⟩ ⟨Nat.le_refl _, Nat.le_refl _⟩ dX2_flawOf_101 (aw_ki fun r_1 I_2 J_3 h => ?_)
  refine aw_zne 115 dX2_flawOf_104 (by decide) (fun c_4 => ?_) (fun c_4 => ?_)
  · have h := sw_if.f h c_4
    refine aw_sub [0, 1, 3, 4, 5, 6] rfl ?_
    exact t_X2_flawOf_115 hG  hK33 h
  · have h := sw_if.t h c_4
    refine aw_iload 7 dX2_flawOf_107 rfl ?_
    refine aw_callS wv_X2_isName (M_X2_isName trivial  h) ml_X2_52 rfl rfl (Nat.le_of_ble_eq_true rfl) ⟨rfl, rfl⟩ ⟨Nat.le_of_ble_eq_true rfl, Nat.le_of_ble_eq_true rfl⟩ ⟨Nat.le_refl _, Nat.le_refl _⟩ dX2_flawOf_109 (aw_ki fun r_5 I_6 J_7 h => ?_)
    refine aw_zeq 120 dX2_flawOf_112 (by decide) (fun c_8 => ?_) (fun c_8 => ?_)
    · have h := sw_if.t h c_8
      refine aw_iload 7 dX2_flawOf_120 rfl ?_
      refine aw_bipush (v := 45) dX2_flawOf_122 (by decide) ?_
      refine aw_jeq 206 dX2_flawOf_124 (by decide) (fun c_9 => ?_) (fun c_9 => ?_)
      · have h := sw_if.t h c_9
        refine aw_sub [0, 1, 2, 3, 4, 5, 6] rfl ?_
        exact t_X2_flawOf_206 hG  hK33 h
      · have h := sw_if.f h c_9
        refine aw_iload 6 dX2_flawOf_127 rfl ?_
        exact aw_iret rfl dX2_flawOf_129 ⟨rfl, _, rfl, h⟩
    · have h := sw_if.f h c_8
      refine aw_sub [0, 1, 3, 4, 5, 6] rfl ?_
      exact t_X2_flawOf_115 hG  hK33 h
set_option maxRecDepth 20000 in
theorem t_X2_flawOf_63 {l : Launch} {D : va_G} {cy : Nat → ClassId} {sz : Nat} {G : sw_G} (hG : sw_lay G)   {Q : Int32 → sw_I → sw_J → Prop} {K33 : Int32 → Int32 → Int32 → Int32 → Int32 → Int32 → sw_I → sw_J → Prop} (hK33 : ∀ (x2 : Int32) (x3 : Int32) (x4 : Int32) (x5 : Int32) (x6 : Int32) (x7 : Int32) (I : sw_I) (J : sw_J), K33 x2 x3 x4 x5 x6 x7 I J → AW l D cy sz RX2 cX2_flawOf 9 (some .int) false rm_X2_flawOf 0 0 (sw_qi G Q) 0 0 G I J 33 [(1, .ref (sz + 1)), (2, .int x2), (3, .int x3), (4, .int x4), (5, .int x5), (6, .int x6), (7, .int x7)] []) {x2 : Int32} {x3 : Int32} {x4 : Int32} {x5 : Int32} {x7 : Int32} {x8 : Int32} {s0 : Int32} {I : sw_I} {J : sw_J} (h : wB_X2_flawOf_63  K33 Q x2 x3 x4 x5 x7 x8 s0 I J) : AW l D cy sz RX2 cX2_flawOf 9 (some .int) false rm_X2_flawOf 0 0 (sw_qi G Q) 0 0 G I J 63 [(1, .ref (sz + 1)), (2, .int x2), (3, .int x3), (4, .int x4), (5, .int x5), (7, .int x7), (8, .int x8)] [.int s0] := by
  unfold wB_X2_flawOf_63 at h
  refine aw_istore (lv' := [(6, .int s0), (1, .ref (sz + 1)), (2, .int x2), (3, .int x3), (4, .int x4), (5, .int x5), (7, .int x7), (8, .int x8)]) dX2_flawOf_63 (by decide) rfl ?_
  refine aw_iload_n 3 dX2_flawOf_65 rfl rfl ?_
  refine aw_zeq 130 dX2_flawOf_66 (by decide) (fun c_1 => ?_) (fun c_1 => ?_)
  · have h := sw_if.t h c_1
    refine aw_iload 7 dX2_flawOf_130 rfl ?_
    refine aw_callS wv_X2_joinsTwo (M_X2_joinsTwo trivial  h) ml_X2_55 rfl rfl (Nat.le_of_ble_eq_true rfl) ⟨rfl, rfl⟩ ⟨Nat.le_of_ble_eq_true rfl, Nat.le_of_ble_eq_true rfl⟩ ⟨Nat.le_refl _, Nat.le_refl _⟩ dX2_flawOf_132 (aw_ki fun r_2 I_3 J_4 h => ?_)
    refine aw_zeq 173 dX2_flawOf_135 (by decide) (fun c_5 => ?_) (fun c_5 => ?_)
    · have h := sw_if.t h c_5
      refine aw_iload 7 dX2_flawOf_173 rfl ?_
      refine aw_bipush (v := 41) dX2_flawOf_175 (by decide) ?_
      refine aw_jne 191 dX2_flawOf_177 (by decide) (fun c_6 => ?_) (fun c_6 => ?_)
      · have h := sw_if.f h c_6
        refine aw_sub [1, 2, 3, 4, 5, 0, 6] rfl ?_
        exact t_X2_flawOf_191 hG  hK33 h
      · have h := sw_if.t h c_6
        refine aw_iload 4 dX2_flawOf_180 rfl ?_
        refine aw_zle 191 dX2_flawOf_182 (by decide) (fun c_7 => ?_) (fun c_7 => ?_)
        · have h := sw_if.f h c_7
          refine aw_sub [1, 2, 3, 4, 5, 0, 6] rfl ?_
          exact t_X2_flawOf_191 hG  hK33 h
        · have h := sw_if.t h c_7
          obtain ⟨y_8, e_9⟩ : ∃ q : Int32, q = x4 + (-1) := ⟨_, rfl⟩
          have h := h y_8 e_9
          refine aw_iinc (lv' := [(4, .int y_8), (6, .int s0), (1, .ref (sz + 1)), (2, .int x2), (3, .int x3), (5, .int x5), (7, .int x7), (8, .int x8)]) 4 dX2_flawOf_185 rfl (by rw [e_9]; rfl) (by decide) rfl ?_
          refine aw_goto 206 dX2_flawOf_188 (by decide) ?_
          refine aw_sub [2, 3, 4, 0, 5, 1, 6] rfl ?_
          exact t_X2_flawOf_206 hG  hK33 h
    · have h := sw_if.f h c_5
      refine aw_iload 7 dX2_flawOf_138 rfl ?_
      refine aw_callS wv_X2_compares (M_X2_compares trivial  h) ml_X2_32 rfl rfl (Nat.le_of_ble_eq_true rfl) ⟨rfl, rfl⟩ ⟨Nat.le_of_ble_eq_true rfl, Nat.le_of_ble_eq_true rfl⟩ ⟨Nat.le_refl _, Nat.le_refl _⟩ dX2_flawOf_140 (aw_ki fun r_10 I_11 J_12 h => ?_)
      refine aw_zeq 168 dX2_flawOf_143 (by decide) (fun c_13 => ?_) (fun c_13 => ?_)
      · have h := sw_if.t h c_13
        refine aw_sub [1, 2, 4, 5, 0, 6] rfl ?_
        exact t_X2_flawOf_168 hG  hK33 h
      · have h := sw_if.f h c_13
        refine aw_iload 5 dX2_flawOf_146 rfl ?_
        refine aw_iload 4 dX2_flawOf_148 rfl ?_
        refine aw_ishr dX2_flawOf_150 ?_
        refine aw_iconst (v := 1) dX2_flawOf_151 (by decide) ?_
        refine aw_iand dX2_flawOf_152 ?_
        refine aw_zeq 159 dX2_flawOf_153 (by decide) (fun c_14 => ?_) (fun c_14 => ?_)
        · have h := sw_if.t h c_14
          refine aw_iload 5 dX2_flawOf_159 rfl ?_
          refine aw_iconst (v := 1) dX2_flawOf_161 (by decide) ?_
          refine aw_iload 4 dX2_flawOf_162 rfl ?_
          refine aw_ishl dX2_flawOf_164 ?_
          refine aw_ior dX2_flawOf_165 ?_
          refine aw_topi (fun y_15 e_16 => ?_)
          have h := h y_15 e_16
          refine aw_istore (lv' := [(5, .int y_15), (6, .int s0), (1, .ref (sz + 1)), (2, .int x2), (3, .int x3), (4, .int x4), (7, .int x7), (8, .int x8)]) dX2_flawOf_166 (by decide) rfl ?_
          refine aw_sub [2, 3, 5, 0, 1, 6] rfl ?_
          exact t_X2_flawOf_168 hG  hK33 h
        · have h := sw_if.f h c_14
          refine aw_iload 6 dX2_flawOf_156 rfl ?_
          exact aw_iret rfl dX2_flawOf_158 ⟨rfl, _, rfl, h⟩
  · have h := sw_if.f h c_1
    refine aw_iload 7 dX2_flawOf_69 rfl ?_
    refine aw_bipush (v := 40) dX2_flawOf_71 (by decide) ?_
    refine aw_jne 99 dX2_flawOf_73 (by decide) (fun c_17 => ?_) (fun c_17 => ?_)
    · have h := sw_if.f h c_17
      refine aw_sub [1, 2, 3, 4, 5, 0, 6, 7] rfl ?_
      exact t_X2_flawOf_99 hG  hK33 h
    · have h := sw_if.t h c_17
      refine aw_iload 4 dX2_flawOf_76 rfl ?_
      refine aw_iconst (v := 4) dX2_flawOf_78 (by decide) ?_
      refine aw_jge 99 dX2_flawOf_79 (by decide) (fun c_18 => ?_) (fun c_18 => ?_)
      · have h := sw_if.f h c_18
        refine aw_sub [1, 2, 3, 4, 5, 0, 6, 7] rfl ?_
        exact t_X2_flawOf_99 hG  hK33 h
      · have h := sw_if.t h c_18
        obtain ⟨y_19, e_20⟩ : ∃ q : Int32, q = x4 + 1 := ⟨_, rfl⟩
        have h := h y_19 e_20
        refine aw_iinc (lv' := [(4, .int y_19), (6, .int s0), (1, .ref (sz + 1)), (2, .int x2), (3, .int x3), (5, .int x5), (7, .int x7), (8, .int x8)]) 4 dX2_flawOf_82 rfl (by rw [e_20]; rfl) (by decide) rfl ?_
        refine aw_iload 5 dX2_flawOf_85 rfl ?_
        refine aw_iconst (v := 1) dX2_flawOf_87 (by decide) ?_
        refine aw_iload 0 dX2_flawOf_88 rfl ?_
        refine aw_ishl dX2_flawOf_90 ?_
        refine aw_iconst (v := (-1)) dX2_flawOf_91 (by decide) ?_
        refine aw_ixor dX2_flawOf_92 ?_
        refine aw_iand dX2_flawOf_93 ?_
        refine aw_topi (fun y_21 e_22 => ?_)
        have h := h y_21 e_22
        refine aw_istore (lv' := [(5, .int y_21), (4, .int y_19), (6, .int s0), (1, .ref (sz + 1)), (2, .int x2), (3, .int x3), (7, .int x7), (8, .int x8)]) dX2_flawOf_94 (by decide) rfl ?_
        refine aw_goto 206 dX2_flawOf_96 (by decide) ?_
        refine aw_sub [3, 4, 5, 1, 0, 2, 6] rfl ?_
        exact t_X2_flawOf_206 hG  hK33 h
set_option maxRecDepth 20000 in
theorem tb_X2_flawOf_33 {l : Launch} {D : va_G} {cy : Nat → ClassId} {sz : Nat} {G : sw_G} (hG : sw_lay G)   {Q : Int32 → sw_I → sw_J → Prop} {K33 : Int32 → Int32 → Int32 → Int32 → Int32 → Int32 → sw_I → sw_J → Prop} (hK33 : ∀ (x2 : Int32) (x3 : Int32) (x4 : Int32) (x5 : Int32) (x6 : Int32) (x7 : Int32) (I : sw_I) (J : sw_J), K33 x2 x3 x4 x5 x6 x7 I J → AW l D cy sz RX2 cX2_flawOf 9 (some .int) false rm_X2_flawOf 0 0 (sw_qi G Q) 0 0 G I J 33 [(1, .ref (sz + 1)), (2, .int x2), (3, .int x3), (4, .int x4), (5, .int x5), (6, .int x6), (7, .int x7)] []) {x2 : Int32} {x3 : Int32} {x4 : Int32} {x5 : Int32} {x6 : Int32} {x7 : Int32} {I : sw_I} {J : sw_J} (h : wb_X2_flawOf_33  K33 Q x2 x3 x4 x5 x6 x7 I J) : AW l D cy sz RX2 cX2_flawOf 9 (some .int) false rm_X2_flawOf 0 0 (sw_qi G Q) 0 0 G I J 33 [(1, .ref (sz + 1)), (2, .int x2), (3, .int x3), (4, .int x4), (5, .int x5), (6, .int x6), (7, .int x7)] [] := by
  unfold wb_X2_flawOf_33 at h
  refine aw_iload 6 dX2_flawOf_33 rfl ?_
  refine aw_iload_n 1 dX2_flawOf_35 rfl rfl ?_
  refine aw_jge 212 dX2_flawOf_36 (by decide) (fun c_1 => ?_) (fun c_1 => ?_)
  · have h := sw_if.f h c_1
    refine aw_aload_n 0 dX2_flawOf_212 rfl rfl ?_
    refine aw_bipush (v := 40) dX2_flawOf_213 (by decide) ?_
    refine aw_iload_n 2 dX2_flawOf_215 rfl rfl ?_
    refine aw_zne 228 dX2_flawOf_216 (by decide) (fun c_2 => ?_) (fun c_2 => ?_)
    · have h := sw_if.f h c_2
      refine aw_sub [] rfl ?_
      exact t_X2_flawOf_228 hG   h
    · have h := sw_if.t h c_2
      refine aw_iload 3 dX2_flawOf_219 rfl ?_
      refine aw_zne 228 dX2_flawOf_221 (by decide) (fun c_3 => ?_) (fun c_3 => ?_)
      · have h := sw_if.f h c_3
        refine aw_sub [] rfl ?_
        exact t_X2_flawOf_228 hG   h
      · have h := sw_if.t h c_3
        refine aw_iconst (v := 1) dX2_flawOf_224 (by decide) ?_
        refine aw_goto 229 dX2_flawOf_225 (by decide) ?_
        refine aw_sub [] rfl ?_
        exact t_X2_flawOf_229 hG   h
  · have h := sw_if.t h c_1
    refine aw_aload_n 0 dX2_flawOf_39 rfl rfl ?_
    refine aw_iload 6 dX2_flawOf_40 rfl ?_
    refine aw_callV wv_X8_at (M_X8_at hG  h) ml_X2_45 rfl (by decide) (lk1 hG) rfl rfl (Nat.le_of_ble_eq_true rfl) ⟨rfl, rfl⟩ ⟨Nat.le_of_ble_eq_true rfl, Nat.le_of_ble_eq_true rfl⟩ ⟨Nat.le_refl _, Nat.le_refl _⟩ dX2_flawOf_42 (aw_ki fun r_4 I_5 J_6 h => ?_)
    refine aw_istore (lv' := [(8, .int r_4), (1, .ref (sz + 1)), (2, .int x2), (3, .int x3), (4, .int x4), (5, .int x5), (6, .int x6), (7, .int x7)]) dX2_flawOf_45 (by decide) rfl ?_
    refine aw_iload 0 dX2_flawOf_47 rfl ?_
    refine aw_callS wv_X2_isDigit (M_X2_isDigit trivial  h) ml_X2_49 rfl rfl (Nat.le_of_ble_eq_true rfl) ⟨rfl, rfl⟩ ⟨Nat.le_of_ble_eq_true rfl, Nat.le_of_ble_eq_true rfl⟩ ⟨Nat.le_refl _, Nat.le_refl _⟩ dX2_flawOf_49 (aw_ki fun r_7 I_8 J_9 h => ?_)
    refine aw_zeq 62 dX2_flawOf_52 (by decide) (fun c_10 => ?_) (fun c_10 => ?_)
    · have h := sw_if.t h c_10
      refine aw_iconst (v := 0) dX2_flawOf_62 (by decide) ?_
      refine aw_sub [1, 2, 3, 4, 5, 7, 0] rfl ?_
      exact t_X2_flawOf_63 hG  hK33 h
    · have h := sw_if.f h c_10
      refine aw_iload 6 dX2_flawOf_55 rfl ?_
      refine aw_iconst (v := 1) dX2_flawOf_57 (by decide) ?_
      refine aw_iadd dX2_flawOf_58 ?_
      refine aw_goto 63 dX2_flawOf_59 (by decide) ?_
      refine aw_sub [1, 2, 3, 4, 5, 7, 0] rfl ?_
      exact t_X2_flawOf_63 hG  hK33 h
set_option maxRecDepth 20000 in
theorem tl_X2_flawOf_33 {l : Launch} {D : va_G} {cy : Nat → ClassId} {sz : Nat} {G : sw_G} (hG : sw_lay G)   {Q : Int32 → sw_I → sw_J → Prop} : ∀ (n : Nat) (x2 : Int32) (x3 : Int32) (x4 : Int32) (x5 : Int32) (x6 : Int32) (x7 : Int32) (I : sw_I) (J : sw_J), wl_X2_flawOf_33   Q n x2 x3 x4 x5 x6 x7 I J → AW l D cy sz RX2 cX2_flawOf 9 (some .int) false rm_X2_flawOf 0 0 (sw_qi G Q) 0 0 G I J 33 [(1, .ref (sz + 1)), (2, .int x2), (3, .int x3), (4, .int x4), (5, .int x5), (6, .int x6), (7, .int x7)] [] := by
  intro n
  induction n with
  | zero => intro x2 x3 x4 x5 x6 x7 I J h; exact False.elim h
  | succ n ih => intro x2 x3 x4 x5 x6 x7 I J h; exact tb_X2_flawOf_33 hG  ih h
set_option maxRecDepth 20000 in
theorem t_X2_flawOf {l : Launch} {D : va_G} {cy : Nat → ClassId} {sz : Nat} {G : sw_G} (hG : sw_lay G)   {Q : Int32 → sw_I → sw_J → Prop}  {I : sw_I} {J : sw_J} (h : wp_X2_flawOf  I J Q) : AW l D cy sz RX2 cX2_flawOf 9 (some .int) false rm_X2_flawOf 0 0 (sw_qi G Q) 0 0 G I J 0 [(0, .ref (sz + 6)), (1, .ref (sz + 1))] [] := by
  unfold wp_X2_flawOf at h
  refine aw_aload_n 1 dX2_flawOf_0 rfl rfl ?_
  refine gf_X8_1 fl_X2_36 (lk1 hG) dX2_flawOf_1 ?_
  refine aw_zne 9 dX2_flawOf_4 (by decide) (fun c_1 => ?_) (fun c_1 => ?_)
  · have h := sw_if.f h c_1
    refine aw_aload_n 1 dX2_flawOf_9 rfl rfl ?_
    refine gf_X8_1 fl_X2_36 (lk1 hG) dX2_flawOf_10 ?_
    refine aw_bipush (v := 40) dX2_flawOf_13 (by decide) ?_
    refine aw_mmin mm_X2_39 wm_min (Nat.le_of_ble_eq_true rfl) (Nat.le_of_ble_eq_true rfl) ⟨Nat.le_refl _, Nat.le_refl _⟩ dX2_flawOf_15 ?_
    refine aw_topi (fun y_2 e_3 => ?_)
    have h := h y_2 e_3
    refine aw_istore_n (lv' := [(2, .int y_2), (0, .ref (sz + 6)), (1, .ref (sz + 1))]) dX2_flawOf_18 rfl (by decide) rfl ?_
    refine aw_iconst (v := 1) dX2_flawOf_19 (by decide) ?_
    refine aw_istore_n (lv' := [(3, .int 1), (2, .int y_2), (0, .ref (sz + 6)), (1, .ref (sz + 1))]) dX2_flawOf_20 rfl (by decide) rfl ?_
    refine aw_iconst (v := 0) dX2_flawOf_21 (by decide) ?_
    refine aw_istore (lv' := [(4, .int 0), (3, .int 1), (2, .int y_2), (0, .ref (sz + 6)), (1, .ref (sz + 1))]) dX2_flawOf_22 (by decide) rfl ?_
    refine aw_iconst (v := 0) dX2_flawOf_24 (by decide) ?_
    refine aw_istore (lv' := [(5, .int 0), (4, .int 0), (3, .int 1), (2, .int y_2), (0, .ref (sz + 6)), (1, .ref (sz + 1))]) dX2_flawOf_25 (by decide) rfl ?_
    refine aw_iconst (v := 0) dX2_flawOf_27 (by decide) ?_
    refine aw_istore (lv' := [(6, .int 0), (5, .int 0), (4, .int 0), (3, .int 1), (2, .int y_2), (0, .ref (sz + 6)), (1, .ref (sz + 1))]) dX2_flawOf_28 (by decide) rfl ?_
    refine aw_iconst (v := 0) dX2_flawOf_30 (by decide) ?_
    refine aw_istore (lv' := [(7, .int 0), (6, .int 0), (5, .int 0), (4, .int 0), (3, .int 1), (2, .int y_2), (0, .ref (sz + 6)), (1, .ref (sz + 1))]) dX2_flawOf_31 (by decide) rfl ?_
    refine aw_sub [7, 5, 4, 3, 2, 1, 0] rfl ?_
    obtain ⟨n_4, h⟩ := h
    exact tl_X2_flawOf_33 hG   n_4 y_2 1 0 0 0 0 I J h
  · have h := sw_if.t h c_1
    refine aw_iconst (v := (-1)) dX2_flawOf_7 (by decide) ?_
    exact aw_iret rfl dX2_flawOf_8 ⟨rfl, _, rfl, h⟩
theorem M_X2_flawOf {l : Launch} {D : va_G} {cy : Nat → ClassId} {sz : Nat} {G : sw_G} (hG : sw_lay G)   {Q : Int32 → sw_I → sw_J → Prop}  {I : sw_I} {J : sw_J} (h : wp_X2_flawOf  I J Q) : Met l yX2_flawOf (Cond.code yX2_flawOf cX2_flawOf 9 (some .int) :: sw_T) rm_X2_flawOf (sw_Pc D cy sz [.ref (sz + 6), .ref (sz + 1)] G I J) (sw_Q D cy sz (sw_qi G Q)) 0 0 (fun q => sz ≤ q) :=
  sw_met (by decide) (fun q => by cases q) (Nat.le_of_ble_eq_true rfl) rfl (t_X2_flawOf hG  h)
-- X2_take
abbrev rm_X2_take : Room := { frames := 3, cells := 0, slots := 0, locals := 61 }
def wB_X2_take_181  (K19 : Int32 → Int32 → sw_I → sw_J → Prop) (Q : sw_I → sw_J → Prop) (x2 : Int32) (x3 : Int32) (I : sw_I) (J : sw_J) : Prop :=
  ∀ y_1 : Int32, y_1 = x3 + 1 → K19 x2 y_1 I J
def wB_X2_take_97  (K19 : Int32 → Int32 → sw_I → sw_J → Prop) (Q : sw_I → sw_J → Prop) (x3 : Int32) (s1 : Int32) (s2 : Int32) (I : sw_I) (J : sw_J) : Prop :=
  ((s1 ||| s2) = 0 ∨ (s1 ||| s2) = 1) ∧ ∀ I_2 : sw_I, I_2 = sw_up I 6 5 (s1 ||| s2) → wB_X2_take_181  K19 Q 0 x3 I_2 J
def wB_X2_take_57  (K19 : Int32 → Int32 → sw_I → sw_J → Prop) (Q : sw_I → sw_J → Prop) (x3 : Int32) (s1 : Int32) (s2 : Int32) (I : sw_I) (J : sw_J) : Prop :=
  wp_X2_putDigit s1 s2 I J (fun I_2 J_3 => wB_X2_take_181  K19 Q 0 x3 I_2 J_3)
def wb_X2_take_19  (K19 : Int32 → Int32 → sw_I → sw_J → Prop) (Q : sw_I → sw_J → Prop) (x2 : Int32) (x3 : Int32) (I : sw_I) (J : sw_J) : Prop :=
  sw_if (x3 < (I 1 1)) (wp_X8_at x3 I J (fun r_9 I_10 J_11 => wp_X2_isDigit r_9 I_10 J_11 (fun r_12 I_13 J_14 => sw_if (r_12 = 0) (wp_X2_isName r_9 I_13 J_14 (fun r_16 I_17 J_18 => sw_if (r_16 = 0) (sw_if (r_9 = (40 : Int32)) (wp_X2_await r_9 I_17 J_18 (fun I_41 J_42 => wB_X2_take_181  K19 Q x2 x3 I_41 J_42)) (sw_if (r_9 = (41 : Int32)) (wp_X2_release 1 I_17 J_18 (fun I_36 J_37 => ∀ I_38 : sw_I, I_38 = sw_up I_36 6 4 (if ((I_36 6 4) - (1 : Int32)) < (0 : Int32) then (0 : Int32) else ((I_36 6 4) - (1 : Int32))) → wB_X2_take_181  K19 Q x2 x3 I_38 J_37)) (sw_if (x2 = 0) (wp_X2_strength r_9 I_17 J_18 (fun r_23 I_24 J_25 => wp_X2_release r_23 I_24 J_25 (fun I_27 J_28 => wp_X2_await r_9 I_27 J_28 (fun I_30 J_31 => wB_X2_take_181  K19 Q 1 x3 I_30 J_31)))) (wp_X2_await 126 I_17 J_18 (fun I_33 J_34 => wB_X2_take_181  K19 Q x2 x3 I_33 J_34))))) (wp_X2_put (-r_9) I_17 J_18 (fun I_44 J_45 => sw_if (r_9 = (114 : Int32)) (wB_X2_take_97  K19 Q x3 (I_44 6 5) 1 I_44 J_45) (wB_X2_take_97  K19 Q x3 (I_44 6 5) 0 I_44 J_45))))) (sw_if (x2 = 0) (wB_X2_take_57  K19 Q x3 (r_9 - (48 : Int32)) 1 I_13 J_14) (wB_X2_take_57  K19 Q x3 (r_9 - (48 : Int32)) 0 I_13 J_14))))) (wp_X2_release 1 I J (fun I_3 J_4 => sw_if ((I_3 6 3) = 0) (wp_X2_put (-119) I_3 J_4 (fun I_7 J_8 => Q I_7 J_8)) (Q I_3 J_4)))
def wl_X2_take_19   (Q : sw_I → sw_J → Prop) : Nat → Int32 → Int32 → sw_I → sw_J → Prop
  | 0 => fun _ _ _ _ => False
  | n + 1 => fun x2 x3 I J => wb_X2_take_19  (wl_X2_take_19   Q n) Q x2 x3 I J
def wp_X2_take  (I : sw_I) (J : sw_J) (Q : sw_I → sw_J → Prop) : Prop :=
  ∀ I_1 : sw_I, I_1 = sw_up I 6 3 (0 : Int32) → ∀ I_3 : sw_I, I_3 = sw_up I_1 6 4 (0 : Int32) → ∀ I_5 : sw_I, I_5 = sw_up I_3 6 5 (0 : Int32) → ∃ n_7 : Nat, wl_X2_take_19   Q n_7 1 0 I_5 J
set_option maxRecDepth 20000 in
theorem t_X2_take_181 {l : Launch} {D : va_G} {cy : Nat → ClassId} {sz : Nat} {G : sw_G} (hG : sw_lay G)   {Q : sw_I → sw_J → Prop} {K19 : Int32 → Int32 → sw_I → sw_J → Prop} (hK19 : ∀ (x2 : Int32) (x3 : Int32) (I : sw_I) (J : sw_J), K19 x2 x3 I J → AW l D cy sz RX2 cX2_take 5 none false rm_X2_take 0 0 (sw_qv G Q) 0 0 G I J 19 [(0, .ref (sz + 6)), (1, .ref (sz + 1)), (2, .int x2), (3, .int x3)] []) {x2 : Int32} {x3 : Int32} {I : sw_I} {J : sw_J} (h : wB_X2_take_181  K19 Q x2 x3 I J) : AW l D cy sz RX2 cX2_take 5 none false rm_X2_take 0 0 (sw_qv G Q) 0 0 G I J 181 [(0, .ref (sz + 6)), (1, .ref (sz + 1)), (2, .int x2), (3, .int x3)] [] := by
  unfold wB_X2_take_181 at h
  obtain ⟨y_1, e_2⟩ : ∃ q : Int32, q = x3 + 1 := ⟨_, rfl⟩
  have h := h y_1 e_2
  refine aw_iinc (lv' := [(3, .int y_1), (0, .ref (sz + 6)), (1, .ref (sz + 1)), (2, .int x2)]) 3 dX2_take_181 rfl (by rw [e_2]; rfl) (by decide) rfl ?_
  refine aw_goto 19 dX2_take_184 (by decide) ?_
  refine aw_sub [1, 2, 3, 0] rfl ?_
  exact hK19 x2 y_1 I J h
set_option maxRecDepth 20000 in
theorem t_X2_take_97 {l : Launch} {D : va_G} {cy : Nat → ClassId} {sz : Nat} {G : sw_G} (hG : sw_lay G)   {Q : sw_I → sw_J → Prop} {K19 : Int32 → Int32 → sw_I → sw_J → Prop} (hK19 : ∀ (x2 : Int32) (x3 : Int32) (I : sw_I) (J : sw_J), K19 x2 x3 I J → AW l D cy sz RX2 cX2_take 5 none false rm_X2_take 0 0 (sw_qv G Q) 0 0 G I J 19 [(0, .ref (sz + 6)), (1, .ref (sz + 1)), (2, .int x2), (3, .int x3)] []) {x3 : Int32} {s1 : Int32} {s2 : Int32} {I : sw_I} {J : sw_J} (h : wB_X2_take_97  K19 Q x3 s1 s2 I J) : AW l D cy sz RX2 cX2_take 5 none false rm_X2_take 0 0 (sw_qv G Q) 0 0 G I J 97 [(0, .ref (sz + 6)), (1, .ref (sz + 1)), (3, .int x3)] [.int s2, .int s1, .ref (sz + 6)] := by
  unfold wB_X2_take_97 at h
  refine aw_ior dX2_take_97 ?_
  obtain ⟨hv_1, h⟩ := h
  refine pf_X2_5 hv_1 fl_X2_28 (lk6 hG) dX2_take_98 (aw_nameI fun I_2 e_3 => ?_)
  have h := h I_2 e_3
  refine aw_iconst (v := 0) dX2_take_101 (by decide) ?_
  refine aw_istore_n (lv' := [(2, .int 0), (0, .ref (sz + 6)), (1, .ref (sz + 1)), (3, .int x3)]) dX2_take_102 rfl (by decide) rfl ?_
  refine aw_goto 181 dX2_take_103 (by decide) ?_
  refine aw_sub [1, 2, 0, 3] rfl ?_
  exact t_X2_take_181 hG  hK19 h
set_option maxRecDepth 20000 in
theorem t_X2_take_57 {l : Launch} {D : va_G} {cy : Nat → ClassId} {sz : Nat} {G : sw_G} (hG : sw_lay G)   {Q : sw_I → sw_J → Prop} {K19 : Int32 → Int32 → sw_I → sw_J → Prop} (hK19 : ∀ (x2 : Int32) (x3 : Int32) (I : sw_I) (J : sw_J), K19 x2 x3 I J → AW l D cy sz RX2 cX2_take 5 none false rm_X2_take 0 0 (sw_qv G Q) 0 0 G I J 19 [(0, .ref (sz + 6)), (1, .ref (sz + 1)), (2, .int x2), (3, .int x3)] []) {x3 : Int32} {s1 : Int32} {s2 : Int32} {I : sw_I} {J : sw_J} (h : wB_X2_take_57  K19 Q x3 s1 s2 I J) : AW l D cy sz RX2 cX2_take 5 none false rm_X2_take 0 0 (sw_qv G Q) 0 0 G I J 57 [(0, .ref (sz + 6)), (1, .ref (sz + 1)), (3, .int x3)] [.int s2, .int s1, .ref (sz + 6)] := by
  unfold wB_X2_take_57 at h
  refine aw_callV wv_X2_putDigit (M_X2_putDigit hG  h) ml_X2_62 rfl (by decide) (lk6 hG) rfl rfl (Nat.le_of_ble_eq_true rfl) ⟨rfl, rfl⟩ ⟨Nat.le_of_ble_eq_true rfl, Nat.le_of_ble_eq_true rfl⟩ ⟨Nat.le_refl _, Nat.le_refl _⟩ dX2_take_57 (aw_kv fun I_2 J_3 h => ?_)
  refine aw_iconst (v := 0) dX2_take_60 (by decide) ?_
  refine aw_istore_n (lv' := [(2, .int 0), (0, .ref (sz + 6)), (1, .ref (sz + 1)), (3, .int x3)]) dX2_take_61 rfl (by decide) rfl ?_
  refine aw_goto 181 dX2_take_62 (by decide) ?_
  refine aw_sub [1, 2, 0, 3] rfl ?_
  exact t_X2_take_181 hG  hK19 h
set_option maxRecDepth 20000 in
theorem tb_X2_take_19 {l : Launch} {D : va_G} {cy : Nat → ClassId} {sz : Nat} {G : sw_G} (hG : sw_lay G)   {Q : sw_I → sw_J → Prop} {K19 : Int32 → Int32 → sw_I → sw_J → Prop} (hK19 : ∀ (x2 : Int32) (x3 : Int32) (I : sw_I) (J : sw_J), K19 x2 x3 I J → AW l D cy sz RX2 cX2_take 5 none false rm_X2_take 0 0 (sw_qv G Q) 0 0 G I J 19 [(0, .ref (sz + 6)), (1, .ref (sz + 1)), (2, .int x2), (3, .int x3)] []) {x2 : Int32} {x3 : Int32} {I : sw_I} {J : sw_J} (h : wb_X2_take_19  K19 Q x2 x3 I J) : AW l D cy sz RX2 cX2_take 5 none false rm_X2_take 0 0 (sw_qv G Q) 0 0 G I J 19 [(0, .ref (sz + 6)), (1, .ref (sz + 1)), (2, .int x2), (3, .int x3)] [] := by
  unfold wb_X2_take_19 at h
  refine aw_iload_n 3 dX2_take_19 rfl rfl ?_
  refine aw_aload_n 1 dX2_take_20 rfl rfl ?_
  refine gf_X8_1 fl_X2_36 (lk1 hG) dX2_take_21 ?_
  refine aw_jge 187 dX2_take_24 (by decide) (fun c_1 => ?_) (fun c_1 => ?_)
  · have h := sw_if.f h c_1
    refine aw_aload_n 0 dX2_take_187 rfl rfl ?_
    refine aw_iconst (v := 1) dX2_take_188 (by decide) ?_
    refine aw_callV wv_X2_release (M_X2_release hG  h) ml_X2_73 rfl (by decide) (lk6 hG) rfl rfl (Nat.le_of_ble_eq_true rfl) ⟨rfl, rfl⟩ ⟨Nat.le_of_ble_eq_true rfl, Nat.le_of_ble_eq_true rfl⟩ ⟨Nat.le_refl _, Nat.le_refl _⟩ dX2_take_189 (aw_kv fun I_3 J_4 h => ?_)
    refine aw_aload_n 0 dX2_take_192 rfl rfl ?_
    refine gf_X2_3 fl_X2_21 (lk6 hG) dX2_take_193 ?_
    refine aw_zne 205 dX2_take_196 (by decide) (fun c_5 => ?_) (fun c_5 => ?_)
    · have h := sw_if.f h c_5
      exact aw_vret rfl dX2_take_205 ⟨rfl, rfl, h⟩
    · have h := sw_if.t h c_5
      refine aw_aload_n 0 dX2_take_199 rfl rfl ?_
      refine aw_bipush (v := (-119)) dX2_take_200 (by decide) ?_
      refine aw_callV wv_X2_put (M_X2_put hG  h) ml_X2_66 rfl (by decide) (lk6 hG) rfl rfl (Nat.le_of_ble_eq_true rfl) ⟨rfl, rfl⟩ ⟨Nat.le_of_ble_eq_true rfl, Nat.le_of_ble_eq_true rfl⟩ ⟨Nat.le_refl _, Nat.le_refl _⟩ dX2_take_202 (aw_kv fun I_7 J_8 h => ?_)
      exact aw_vret rfl dX2_take_205 ⟨rfl, rfl, h⟩
  · have h := sw_if.t h c_1
    refine aw_aload_n 1 dX2_take_27 rfl rfl ?_
    refine aw_iload_n 3 dX2_take_28 rfl rfl ?_
    refine aw_callV wv_X8_at (M_X8_at hG  h) ml_X2_45 rfl (by decide) (lk1 hG) rfl rfl (Nat.le_of_ble_eq_true rfl) ⟨rfl, rfl⟩ ⟨Nat.le_of_ble_eq_true rfl, Nat.le_of_ble_eq_true rfl⟩ ⟨Nat.le_refl _, Nat.le_refl _⟩ dX2_take_29 (aw_ki fun r_9 I_10 J_11 h => ?_)
    refine aw_istore (lv' := [(4, .int r_9), (0, .ref (sz + 6)), (1, .ref (sz + 1)), (2, .int x2), (3, .int x3)]) dX2_take_32 (by decide) rfl ?_
    refine aw_iload 0 dX2_take_34 rfl ?_
    refine aw_callS wv_X2_isDigit (M_X2_isDigit trivial  h) ml_X2_49 rfl rfl (Nat.le_of_ble_eq_true rfl) ⟨rfl, rfl⟩ ⟨Nat.le_of_ble_eq_true rfl, Nat.le_of_ble_eq_true rfl⟩ ⟨Nat.le_refl _, Nat.le_refl _⟩ dX2_take_36 (aw_ki fun r_12 I_13 J_14 h => ?_)
    refine aw_zeq 65 dX2_take_39 (by decide) (fun c_15 => ?_) (fun c_15 => ?_)
    · have h := sw_if.t h c_15
      refine aw_iload 0 dX2_take_65 rfl ?_
      refine aw_callS wv_X2_isName (M_X2_isName trivial  h) ml_X2_52 rfl rfl (Nat.le_of_ble_eq_true rfl) ⟨rfl, rfl⟩ ⟨Nat.le_of_ble_eq_true rfl, Nat.le_of_ble_eq_true rfl⟩ ⟨Nat.le_refl _, Nat.le_refl _⟩ dX2_take_67 (aw_ki fun r_16 I_17 J_18 h => ?_)
      refine aw_zeq 106 dX2_take_70 (by decide) (fun c_19 => ?_) (fun c_19 => ?_)
      · have h := sw_if.t h c_19
        refine aw_iload 0 dX2_take_106 rfl ?_
        refine aw_bipush (v := 40) dX2_take_108 (by decide) ?_
        refine aw_jne 122 dX2_take_110 (by decide) (fun c_20 => ?_) (fun c_20 => ?_)
        · have h := sw_if.f h c_20
          refine aw_iload 0 dX2_take_122 rfl ?_
          refine aw_bipush (v := 41) dX2_take_124 (by decide) ?_
          refine aw_jne 151 dX2_take_126 (by decide) (fun c_21 => ?_) (fun c_21 => ?_)
          · have h := sw_if.f h c_21
            refine aw_iload_n 3 dX2_take_151 rfl rfl ?_
            refine aw_zeq 164 dX2_take_152 (by decide) (fun c_22 => ?_) (fun c_22 => ?_)
            · have h := sw_if.t h c_22
              refine aw_aload_n 1 dX2_take_164 rfl rfl ?_
              refine aw_iload 0 dX2_take_165 rfl ?_
              refine aw_callS wv_X2_strength (M_X2_strength trivial  h) ml_X2_79 rfl rfl (Nat.le_of_ble_eq_true rfl) ⟨rfl, rfl⟩ ⟨Nat.le_of_ble_eq_true rfl, Nat.le_of_ble_eq_true rfl⟩ ⟨Nat.le_refl _, Nat.le_refl _⟩ dX2_take_167 (aw_ki fun r_23 I_24 J_25 h => ?_)
              refine aw_callV wv_X2_release (M_X2_release hG  h) ml_X2_73 rfl (by decide) (lk6 hG) rfl rfl (Nat.le_of_ble_eq_true rfl) ⟨rfl, rfl⟩ ⟨Nat.le_of_ble_eq_true rfl, Nat.le_of_ble_eq_true rfl⟩ ⟨Nat.le_refl _, Nat.le_refl _⟩ dX2_take_170 (aw_kv fun I_27 J_28 h => ?_)
              refine aw_aload_n 1 dX2_take_173 rfl rfl ?_
              refine aw_iload 0 dX2_take_174 rfl ?_
              refine aw_callV wv_X2_await (M_X2_await hG  h) ml_X2_70 rfl (by decide) (lk6 hG) rfl rfl (Nat.le_of_ble_eq_true rfl) ⟨rfl, rfl⟩ ⟨Nat.le_of_ble_eq_true rfl, Nat.le_of_ble_eq_true rfl⟩ ⟨Nat.le_refl _, Nat.le_refl _⟩ dX2_take_176 (aw_kv fun I_30 J_31 h => ?_)
              refine aw_iconst (v := 1) dX2_take_179 (by decide) ?_
              refine aw_istore_n (lv' := [(2, .int 1), (4, .int r_9), (0, .ref (sz + 6)), (1, .ref (sz + 1)), (3, .int x3)]) dX2_take_180 rfl (by decide) rfl ?_
              refine aw_sub [2, 3, 0, 4] rfl ?_
              exact t_X2_take_181 hG  hK19 h
            · have h := sw_if.f h c_22
              refine aw_aload_n 1 dX2_take_155 rfl rfl ?_
              refine aw_bipush (v := 126) dX2_take_156 (by decide) ?_
              refine aw_callV wv_X2_await (M_X2_await hG  h) ml_X2_70 rfl (by decide) (lk6 hG) rfl rfl (Nat.le_of_ble_eq_true rfl) ⟨rfl, rfl⟩ ⟨Nat.le_of_ble_eq_true rfl, Nat.le_of_ble_eq_true rfl⟩ ⟨Nat.le_refl _, Nat.le_refl _⟩ dX2_take_158 (aw_kv fun I_33 J_34 h => ?_)
              refine aw_goto 181 dX2_take_161 (by decide) ?_
              refine aw_sub [1, 2, 3, 4] rfl ?_
              exact t_X2_take_181 hG  hK19 h
          · have h := sw_if.t h c_21
            refine aw_aload_n 1 dX2_take_129 rfl rfl ?_
            refine aw_iconst (v := 1) dX2_take_130 (by decide) ?_
            refine aw_callV wv_X2_release (M_X2_release hG  h) ml_X2_73 rfl (by decide) (lk6 hG) rfl rfl (Nat.le_of_ble_eq_true rfl) ⟨rfl, rfl⟩ ⟨Nat.le_of_ble_eq_true rfl, Nat.le_of_ble_eq_true rfl⟩ ⟨Nat.le_refl _, Nat.le_refl _⟩ dX2_take_131 (aw_kv fun I_36 J_37 h => ?_)
            refine aw_aload_n 1 dX2_take_134 rfl rfl ?_
            refine aw_aload_n 1 dX2_take_135 rfl rfl ?_
            refine gf_X2_4 fl_X2_25 (lk6 hG) dX2_take_136 ?_
            refine aw_iconst (v := 1) dX2_take_139 (by decide) ?_
            refine aw_isub dX2_take_140 ?_
            refine aw_iconst (v := 0) dX2_take_141 (by decide) ?_
            refine aw_mmax mm_X2_76 wm_max (Nat.le_of_ble_eq_true rfl) (Nat.le_of_ble_eq_true rfl) ⟨Nat.le_refl _, Nat.le_refl _⟩ dX2_take_142 ?_
            refine pf_X2_4 fl_X2_25 (lk6 hG) dX2_take_145 (aw_nameI fun I_38 e_39 => ?_)
            have h := h I_38 e_39
            refine aw_goto 181 dX2_take_148 (by decide) ?_
            refine aw_sub [1, 2, 3, 4] rfl ?_
            exact t_X2_take_181 hG  hK19 h
        · have h := sw_if.t h c_20
          refine aw_aload_n 1 dX2_take_113 rfl rfl ?_
          refine aw_iload 0 dX2_take_114 rfl ?_
          refine aw_callV wv_X2_await (M_X2_await hG  h) ml_X2_70 rfl (by decide) (lk6 hG) rfl rfl (Nat.le_of_ble_eq_true rfl) ⟨rfl, rfl⟩ ⟨Nat.le_of_ble_eq_true rfl, Nat.le_of_ble_eq_true rfl⟩ ⟨Nat.le_refl _, Nat.le_refl _⟩ dX2_take_116 (aw_kv fun I_41 J_42 h => ?_)
          refine aw_goto 181 dX2_take_119 (by decide) ?_
          refine aw_sub [1, 2, 3, 4] rfl ?_
          exact t_X2_take_181 hG  hK19 h
      · have h := sw_if.f h c_19
        refine aw_aload_n 1 dX2_take_73 rfl rfl ?_
        refine aw_iload 0 dX2_take_74 rfl ?_
        refine aw_ineg dX2_take_76 ?_
        refine aw_callV wv_X2_put (M_X2_put hG  h) ml_X2_66 rfl (by decide) (lk6 hG) rfl rfl (Nat.le_of_ble_eq_true rfl) ⟨rfl, rfl⟩ ⟨Nat.le_of_ble_eq_true rfl, Nat.le_of_ble_eq_true rfl⟩ ⟨Nat.le_refl _, Nat.le_refl _⟩ dX2_take_77 (aw_kv fun I_44 J_45 h => ?_)
        refine aw_aload_n 1 dX2_take_80 rfl rfl ?_
        refine aw_dup dX2_take_81 rfl ?_
        refine gf_X2_5 fl_X2_28 (lk6 hG) dX2_take_82 ?_
        refine aw_iload 0 dX2_take_85 rfl ?_
        refine aw_bipush (v := 114) dX2_take_87 (by decide) ?_
        refine aw_jne 96 dX2_take_89 (by decide) (fun c_46 => ?_) (fun c_46 => ?_)
        · have h := sw_if.f h c_46
          refine aw_iconst (v := 0) dX2_take_96 (by decide) ?_
          refine aw_sub [1, 2, 4] rfl ?_
          exact t_X2_take_97 hG  hK19 h
        · have h := sw_if.t h c_46
          refine aw_iconst (v := 1) dX2_take_92 (by decide) ?_
          refine aw_goto 97 dX2_take_93 (by decide) ?_
          refine aw_sub [1, 2, 4] rfl ?_
          exact t_X2_take_97 hG  hK19 h
    · have h := sw_if.f h c_15
      refine aw_aload_n 1 dX2_take_42 rfl rfl ?_
      refine aw_iload 0 dX2_take_43 rfl ?_
      refine aw_bipush (v := 48) dX2_take_45 (by decide) ?_
      refine aw_isub dX2_take_47 ?_
      refine aw_iload_n 3 dX2_take_48 rfl rfl ?_
      refine aw_zne 56 dX2_take_49 (by decide) (fun c_47 => ?_) (fun c_47 => ?_)
      · have h := sw_if.f h c_47
        refine aw_iconst (v := 0) dX2_take_56 (by decide) ?_
        refine aw_sub [1, 2, 4] rfl ?_
        exact t_X2_take_57 hG  hK19 h
      · have h := sw_if.t h c_47
        refine aw_iconst (v := 1) dX2_take_52 (by decide) ?_
        refine aw_goto 57 dX2_take_53 (by decide) ?_
        refine aw_sub [1, 2, 4] rfl ?_
        exact t_X2_take_57 hG  hK19 h
set_option maxRecDepth 20000 in
theorem tl_X2_take_19 {l : Launch} {D : va_G} {cy : Nat → ClassId} {sz : Nat} {G : sw_G} (hG : sw_lay G)   {Q : sw_I → sw_J → Prop} : ∀ (n : Nat) (x2 : Int32) (x3 : Int32) (I : sw_I) (J : sw_J), wl_X2_take_19   Q n x2 x3 I J → AW l D cy sz RX2 cX2_take 5 none false rm_X2_take 0 0 (sw_qv G Q) 0 0 G I J 19 [(0, .ref (sz + 6)), (1, .ref (sz + 1)), (2, .int x2), (3, .int x3)] [] := by
  intro n
  induction n with
  | zero => intro x2 x3 I J h; exact False.elim h
  | succ n ih => intro x2 x3 I J h; exact tb_X2_take_19 hG  ih h
set_option maxRecDepth 20000 in
theorem t_X2_take {l : Launch} {D : va_G} {cy : Nat → ClassId} {sz : Nat} {G : sw_G} (hG : sw_lay G)   {Q : sw_I → sw_J → Prop}  {I : sw_I} {J : sw_J} (h : wp_X2_take  I J Q) : AW l D cy sz RX2 cX2_take 5 none false rm_X2_take 0 0 (sw_qv G Q) 0 0 G I J 0 [(0, .ref (sz + 6)), (1, .ref (sz + 1))] [] := by
  unfold wp_X2_take at h
  refine aw_aload_n 0 dX2_take_0 rfl rfl ?_
  refine aw_iconst (v := 0) dX2_take_1 (by decide) ?_
  refine pf_X2_3 fl_X2_21 (lk6 hG) dX2_take_2 (aw_nameI fun I_1 e_2 => ?_)
  have h := h I_1 e_2
  refine aw_aload_n 0 dX2_take_5 rfl rfl ?_
  refine aw_iconst (v := 0) dX2_take_6 (by decide) ?_
  refine pf_X2_4 fl_X2_25 (lk6 hG) dX2_take_7 (aw_nameI fun I_3 e_4 => ?_)
  have h := h I_3 e_4
  refine aw_aload_n 0 dX2_take_10 rfl rfl ?_
  refine aw_iconst (v := 0) dX2_take_11 (by decide) ?_
  refine pf_X2_5 (by decide) fl_X2_28 (lk6 hG) dX2_take_12 (aw_nameI fun I_5 e_6 => ?_)
  have h := h I_5 e_6
  refine aw_iconst (v := 1) dX2_take_15 (by decide) ?_
  refine aw_istore_n (lv' := [(2, .int 1), (0, .ref (sz + 6)), (1, .ref (sz + 1))]) dX2_take_16 rfl (by decide) rfl ?_
  refine aw_iconst (v := 0) dX2_take_17 (by decide) ?_
  refine aw_istore_n (lv' := [(3, .int 0), (2, .int 1), (0, .ref (sz + 6)), (1, .ref (sz + 1))]) dX2_take_18 rfl (by decide) rfl ?_
  refine aw_sub [2, 3, 1, 0] rfl ?_
  obtain ⟨n_7, h⟩ := h
  exact tl_X2_take_19 hG   n_7 1 0 I_5 J h
theorem M_X2_take {l : Launch} {D : va_G} {cy : Nat → ClassId} {sz : Nat} {G : sw_G} (hG : sw_lay G)   {Q : sw_I → sw_J → Prop}  {I : sw_I} {J : sw_J} (h : wp_X2_take  I J Q) : Met l yX2_take (Cond.code yX2_take cX2_take 5 none :: sw_T) rm_X2_take (sw_Pc D cy sz [.ref (sz + 6), .ref (sz + 1)] G I J) (sw_Q D cy sz (sw_qv G Q)) 0 0 (fun q => sz ≤ q) :=
  sw_met (by decide) (fun q => by cases q) (Nat.le_of_ble_eq_true rfl) rfl (t_X2_take hG  h)
