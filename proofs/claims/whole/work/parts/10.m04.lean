-- X10_again
abbrev rm_X10_again : Room := { frames := 1, cells := 0, slots := 0, locals := 25 }
def wb_X10_again_43  (K43 : Int32 → Int32 → sw_I → sw_J → Prop) (Q : Int32 → sw_I → sw_J → Prop) (x1 : Int32) (x2 : Int32) (I : sw_I) (J : sw_J) : Prop :=
  sw_if (x2 < (33 : Int32)) (vp_in (((33 : Int32) * x1) + x2) 99 ∧ vp_in x2 33 ∧ ∀ I_6 : sw_I, I_6 = sw_up I 144 x2.toNatClampNeg (I 173 (((33 : Int32) * x1) + x2).toNatClampNeg) → ∀ y_8 : Int32, y_8 = x2 + 1 → K43 x1 y_8 I_6 J) (∀ I_2 : sw_I, I_2 = sw_up I 140 32 (0 : Int32) → Q 1 I_2 J)
def wl_X10_again_43   (Q : Int32 → sw_I → sw_J → Prop) : Nat → Int32 → Int32 → sw_I → sw_J → Prop
  | 0 => fun _ _ _ _ => False
  | n + 1 => fun x1 x2 I J => wb_X10_again_43  (wl_X10_again_43   Q n) Q x1 x2 I J
def wp_X10_again (x1 : Int32) (I : sw_I) (J : sw_J) (Q : Int32 → sw_I → sw_J → Prop) : Prop :=
  ∀ I_1 : sw_I, I_1 = sw_up I 140 0 (0 : Int32) → wp_X10_in x1.toInt64 0 2 I_1 J (fun r_3 I_4 J_5 => sw_if (r_3 = 0) (Q 0 I_4 J_5) (vp_in x1 3 ∧ sw_if ((I_4 171 x1.toNatClampNeg) = 0) (Q 0 I_4 J_5) (vp_in x1 3 ∧ sw_if ((I_4 172 x1.toNatClampNeg) = (I_4 140 6)) (∃ n_11 : Nat, wl_X10_again_43   Q n_11 x1 0 I_4 J_5) (Q 0 I_4 J_5))))
set_option maxRecDepth 20000 in
theorem tb_X10_again_43 {l : Launch} {D : va_G} {cy : Nat → ClassId} {sz : Nat} {G : sw_G} (hG : sw_lay G)   {Q : Int32 → sw_I → sw_J → Prop} {K43 : Int32 → Int32 → sw_I → sw_J → Prop} (hK43 : ∀ (x1 : Int32) (x2 : Int32) (I : sw_I) (J : sw_J), K43 x1 x2 I J → AW l D cy sz RX10 cX10_again 3 (some .boolean) false rm_X10_again 0 0 (sw_qi G Q) 0 0 G I J 43 [(0, .ref (sz + 140)), (1, .int x1), (2, .int x2)] []) {x1 : Int32} {x2 : Int32} {I : sw_I} {J : sw_J} (h : wb_X10_again_43  K43 Q x1 x2 I J) : AW l D cy sz RX10 cX10_again 3 (some .boolean) false rm_X10_again 0 0 (sw_qi G Q) 0 0 G I J 43 [(0, .ref (sz + 140)), (1, .int x1), (2, .int x2)] [] := by
  unfold wb_X10_again_43 at h
  refine aw_iload_n 2 dX10_again_43 rfl rfl ?_
  refine aw_bipush (v := 33) dX10_again_44 (by decide) ?_
  refine aw_jge 72 dX10_again_46 (by decide) (fun c_1 => ?_) (fun c_1 => ?_)
  · have h := sw_if.f h c_1
    refine aw_aload_n 0 dX10_again_72 rfl rfl ?_
    refine aw_iconst (v := 0) dX10_again_73 (by decide) ?_
    refine pf_X10_32 fl_X10_82 (lk140 hG) dX10_again_74 (aw_nameI fun I_2 e_3 => ?_)
    have h := h I_2 e_3
    refine aw_iconst (v := 1) dX10_again_77 (by decide) ?_
    exact aw_zret rfl rfl dX10_again_78 ⟨rfl, _, rfl, h⟩
  · have h := sw_if.t h c_1
    refine aw_aload_n 0 dX10_again_49 rfl rfl ?_
    refine gf_X10_9 fl_X10_79 (lk140 hG) (lr140_9 hG) dX10_again_50 ?_
    refine aw_iload_n 2 dX10_again_53 rfl rfl ?_
    refine aw_aload_n 0 dX10_again_54 rfl rfl ?_
    refine gf_X10_61 fl_X10_465 (lk140 hG) (lr140_61 hG) dX10_again_55 ?_
    refine aw_bipush (v := 33) dX10_again_58 (by decide) ?_
    refine aw_iload_n 1 dX10_again_60 rfl rfl ?_
    refine aw_imul dX10_again_61 ?_
    refine aw_iload_n 2 dX10_again_62 rfl rfl ?_
    refine aw_iadd dX10_again_63 ?_
    obtain ⟨hi_4, h⟩ := h
    refine aw_ild dX10_again_64 (lk173 hG) (ln173 hG) hi_4 ?_
    obtain ⟨hi_5, h⟩ := h
    refine aw_ist dX10_again_65 (lk144 hG) (ln144 hG) hi_5 (aw_nameI fun I_6 e_7 => ?_)
    have h := h I_6 e_7
    obtain ⟨y_8, e_9⟩ : ∃ q : Int32, q = x2 + 1 := ⟨_, rfl⟩
    have h := h y_8 e_9
    refine aw_iinc (lv' := [(2, .int y_8), (0, .ref (sz + 140)), (1, .int x1)]) 2 dX10_again_66 rfl (by rw [e_9]; rfl) (by decide) rfl ?_
    refine aw_goto 43 dX10_again_69 (by decide) ?_
    refine aw_sub [1, 2, 0] rfl ?_
    exact hK43 x1 y_8 I_6 J h
set_option maxRecDepth 20000 in
theorem tl_X10_again_43 {l : Launch} {D : va_G} {cy : Nat → ClassId} {sz : Nat} {G : sw_G} (hG : sw_lay G)   {Q : Int32 → sw_I → sw_J → Prop} : ∀ (n : Nat) (x1 : Int32) (x2 : Int32) (I : sw_I) (J : sw_J), wl_X10_again_43   Q n x1 x2 I J → AW l D cy sz RX10 cX10_again 3 (some .boolean) false rm_X10_again 0 0 (sw_qi G Q) 0 0 G I J 43 [(0, .ref (sz + 140)), (1, .int x1), (2, .int x2)] [] := by
  intro n
  induction n with
  | zero => intro x1 x2 I J h; exact False.elim h
  | succ n ih => intro x1 x2 I J h; exact tb_X10_again_43 hG  ih h
set_option maxRecDepth 20000 in
theorem t_X10_again {l : Launch} {D : va_G} {cy : Nat → ClassId} {sz : Nat} {G : sw_G} (hG : sw_lay G)   {Q : Int32 → sw_I → sw_J → Prop} {x1 : Int32} {I : sw_I} {J : sw_J} (h : wp_X10_again x1 I J Q) : AW l D cy sz RX10 cX10_again 3 (some .boolean) false rm_X10_again 0 0 (sw_qi G Q) 0 0 G I J 0 [(0, .ref (sz + 140)), (1, .int x1)] [] := by
  unfold wp_X10_again at h
  refine aw_aload_n 0 dX10_again_0 rfl rfl ?_
  refine aw_iconst (v := 0) dX10_again_1 (by decide) ?_
  refine pf_X10_0 fl_X10_3 (lk140 hG) dX10_again_2 (aw_nameI fun I_1 e_2 => ?_)
  have h := h I_1 e_2
  refine aw_iload_n 1 dX10_again_5 rfl rfl ?_
  refine aw_i2l dX10_again_6 ?_
  refine aw_lconst (v := 0) dX10_again_7 (by decide) ?_
  refine aw_ldc2 (v := 2) dX10_again_8 k_X10_72 ?_
  refine aw_callS wv_X10_in (M_X10_in trivial  h) ml_X10_25 rfl rfl (Nat.le_of_ble_eq_true rfl) ⟨rfl, rfl⟩ ⟨Nat.le_of_ble_eq_true rfl, Nat.le_of_ble_eq_true rfl⟩ ⟨Nat.le_refl _, Nat.le_refl _⟩ dX10_again_11 (aw_ki fun r_3 I_4 J_5 h => ?_)
  refine aw_zeq 39 dX10_again_14 (by decide) (fun c_6 => ?_) (fun c_6 => ?_)
  · have h := sw_if.t h c_6
    refine aw_iconst (v := 0) dX10_again_39 (by decide) ?_
    exact aw_zret rfl rfl dX10_again_40 ⟨rfl, _, rfl, h⟩
  · have h := sw_if.f h c_6
    refine aw_aload_n 0 dX10_again_17 rfl rfl ?_
    refine gf_X10_59 fl_X10_458 (lk140 hG) (lr140_59 hG) dX10_again_18 ?_
    refine aw_iload_n 1 dX10_again_21 rfl rfl ?_
    obtain ⟨hi_7, h⟩ := h
    refine aw_zld dX10_again_22 (lk171 hG) (ln171 hG) hi_7 ?_
    refine aw_zeq 39 dX10_again_23 (by decide) (fun c_8 => ?_) (fun c_8 => ?_)
    · have h := sw_if.t h c_8
      refine aw_iconst (v := 0) dX10_again_39 (by decide) ?_
      exact aw_zret rfl rfl dX10_again_40 ⟨rfl, _, rfl, h⟩
    · have h := sw_if.f h c_8
      refine aw_aload_n 0 dX10_again_26 rfl rfl ?_
      refine gf_X10_60 fl_X10_462 (lk140 hG) (lr140_60 hG) dX10_again_27 ?_
      refine aw_iload_n 1 dX10_again_30 rfl rfl ?_
      obtain ⟨hi_9, h⟩ := h
      refine aw_ild dX10_again_31 (lk172 hG) (ln172 hG) hi_9 ?_
      refine aw_aload_n 0 dX10_again_32 rfl rfl ?_
      refine gf_X10_6 fl_X10_88 (lk140 hG) dX10_again_33 ?_
      refine aw_jeq 41 dX10_again_36 (by decide) (fun c_10 => ?_) (fun c_10 => ?_)
      · have h := sw_if.t h c_10
        refine aw_iconst (v := 0) dX10_again_41 (by decide) ?_
        refine aw_istore_n (lv' := [(2, .int 0), (0, .ref (sz + 140)), (1, .int x1)]) dX10_again_42 rfl (by decide) rfl ?_
        refine aw_sub [1, 2, 0] rfl ?_
        obtain ⟨n_11, h⟩ := h
        exact tl_X10_again_43 hG   n_11 x1 0 I_4 J_5 h
      · have h := sw_if.f h c_10
        refine aw_iconst (v := 0) dX10_again_39 (by decide) ?_
        exact aw_zret rfl rfl dX10_again_40 ⟨rfl, _, rfl, h⟩
theorem M_X10_again {l : Launch} {D : va_G} {cy : Nat → ClassId} {sz : Nat} {G : sw_G} (hG : sw_lay G)   {Q : Int32 → sw_I → sw_J → Prop} {x1 : Int32} {I : sw_I} {J : sw_J} (h : wp_X10_again x1 I J Q) : Met l yX10_again (Cond.code yX10_again cX10_again 3 (some .boolean) :: sw_T) rm_X10_again (sw_Pc D cy sz [.ref (sz + 140), .int x1] G I J) (sw_Q D cy sz (sw_qi G Q)) 0 0 (fun q => sz ≤ q) :=
  sw_met (by decide) (fun q => by cases q) (Nat.le_of_ble_eq_true rfl) rfl (t_X10_again hG  h)
-- X10_count
abbrev rm_X10_count : Room := { frames := 1, cells := 0, slots := 0, locals := 23 }
def wp_X10_count (x1 : Int32) (I : sw_I) (J : sw_J) (Q : Int32 → sw_I → sw_J → Prop) : Prop :=
  ∀ I_1 : sw_I, I_1 = sw_up I 140 0 (0 : Int32) → sw_if (x1 = 0) (Q (I_1 140 3) I_1 J) (sw_if (x1 = 1) (Q (I_1 140 4) I_1 J) (sw_if (x1 = 2) (Q (I_1 144 (31 : Int32).toNatClampNeg) I_1 J) (sw_if (x1 = 3) (Q (I_1 144 (32 : Int32).toNatClampNeg) I_1 J) (sw_if (x1 = 4) (Q (I_1 144 (30 : Int32).toNatClampNeg) I_1 J) (sw_if (x1 = 5) (wp_X10_there 144 33 I_1 J (fun r_12 I_13 J_14 => Q (r_12 &&& ((I_13 144 (30 : Int32).toNatClampNeg) ^^^ (-1 : Int32))) I_13 J_14)) (sw_if (x1 = 6) (wp_X10_homeBits 144 33 I_1 J (fun r_17 I_18 J_19 => Q r_17 I_18 J_19)) (sw_if (x1 = 7) (Q (I_1 140 5) I_1 J) (sw_if (x1 = 8) (Q (I_1 140 32) I_1 J) (sw_if (x1 = 9) (Q (I_1 140 54) I_1 J) (sw_if (x1 = 10) (Q (I_1 140 1) I_1 J) (sw_if (x1 = 11) (Q (I_1 140 12) I_1 J) (Q (-100 : Int32) I_1 J))))))))))))
set_option maxRecDepth 20000 in
theorem t_X10_count {l : Launch} {D : va_G} {cy : Nat → ClassId} {sz : Nat} {G : sw_G} (hG : sw_lay G)   {Q : Int32 → sw_I → sw_J → Prop} {x1 : Int32} {I : sw_I} {J : sw_J} (h : wp_X10_count x1 I J Q) : AW l D cy sz RX10 cX10_count 2 (some .int) false rm_X10_count 0 0 (sw_qi G Q) 0 0 G I J 0 [(0, .ref (sz + 140)), (1, .int x1)] [] := by
  unfold wp_X10_count at h
  refine aw_aload_n 0 dX10_count_0 rfl rfl ?_
  refine aw_iconst (v := 0) dX10_count_1 (by decide) ?_
  refine pf_X10_0 fl_X10_3 (lk140 hG) dX10_count_2 (aw_nameI fun I_1 e_2 => ?_)
  have h := h I_1 e_2
  refine aw_iload_n 1 dX10_count_5 rfl rfl ?_
  by_cases c_3 : x1 = 0
  · have h := sw_if.t h c_3; refine aw_tableIn 68 dX10_count_6 (by rw [c_3]; decide) (by rw [c_3]; decide) (by rw [c_3]; rfl) (by decide) ?_
    refine aw_aload_n 0 dX10_count_68 rfl rfl ?_
    refine gf_X10_3 fl_X10_22 (lk140 hG) dX10_count_69 ?_
    exact aw_iret rfl dX10_count_72 ⟨rfl, _, rfl, h⟩
  · have h := sw_if.f h c_3
    by_cases c_4 : x1 = 1
    · have h := sw_if.t h c_4; refine aw_tableIn 73 dX10_count_6 (by rw [c_4]; decide) (by rw [c_4]; decide) (by rw [c_4]; rfl) (by decide) ?_
      refine aw_aload_n 0 dX10_count_73 rfl rfl ?_
      refine gf_X10_4 fl_X10_29 (lk140 hG) dX10_count_74 ?_
      exact aw_iret rfl dX10_count_77 ⟨rfl, _, rfl, h⟩
    · have h := sw_if.f h c_4
      by_cases c_5 : x1 = 2
      · have h := sw_if.t h c_5; refine aw_tableIn 78 dX10_count_6 (by rw [c_5]; decide) (by rw [c_5]; decide) (by rw [c_5]; rfl) (by decide) ?_
        refine aw_aload_n 0 dX10_count_78 rfl rfl ?_
        refine gf_X10_9 fl_X10_79 (lk140 hG) (lr140_9 hG) dX10_count_79 ?_
        refine aw_bipush (v := 31) dX10_count_82 (by decide) ?_
        refine aw_ild dX10_count_84 (lk144 hG) (ln144 hG) (by unfold vp_in; decide) ?_
        exact aw_iret rfl dX10_count_85 ⟨rfl, _, rfl, h⟩
      · have h := sw_if.f h c_5
        by_cases c_7 : x1 = 3
        · have h := sw_if.t h c_7; refine aw_tableIn 86 dX10_count_6 (by rw [c_7]; decide) (by rw [c_7]; decide) (by rw [c_7]; rfl) (by decide) ?_
          refine aw_aload_n 0 dX10_count_86 rfl rfl ?_
          refine gf_X10_9 fl_X10_79 (lk140 hG) (lr140_9 hG) dX10_count_87 ?_
          refine aw_bipush (v := 32) dX10_count_90 (by decide) ?_
          refine aw_ild dX10_count_92 (lk144 hG) (ln144 hG) (by unfold vp_in; decide) ?_
          exact aw_iret rfl dX10_count_93 ⟨rfl, _, rfl, h⟩
        · have h := sw_if.f h c_7
          by_cases c_9 : x1 = 4
          · have h := sw_if.t h c_9; refine aw_tableIn 94 dX10_count_6 (by rw [c_9]; decide) (by rw [c_9]; decide) (by rw [c_9]; rfl) (by decide) ?_
            refine aw_aload_n 0 dX10_count_94 rfl rfl ?_
            refine gf_X10_9 fl_X10_79 (lk140 hG) (lr140_9 hG) dX10_count_95 ?_
            refine aw_bipush (v := 30) dX10_count_98 (by decide) ?_
            refine aw_ild dX10_count_100 (lk144 hG) (ln144 hG) (by unfold vp_in; decide) ?_
            exact aw_iret rfl dX10_count_101 ⟨rfl, _, rfl, h⟩
          · have h := sw_if.f h c_9
            by_cases c_11 : x1 = 5
            · have h := sw_if.t h c_11; refine aw_tableIn 102 dX10_count_6 (by rw [c_11]; decide) (by rw [c_11]; decide) (by rw [c_11]; rfl) (by decide) ?_
              refine aw_aload_n 0 dX10_count_102 rfl rfl ?_
              refine aw_aload_n 0 dX10_count_103 rfl rfl ?_
              refine gf_X10_9 fl_X10_79 (lk140 hG) (lr140_9 hG) dX10_count_104 ?_
              refine aw_callV wv_X10_there (M_X10_there hG ⟨(lk144 hG), (ln144 hG)⟩ h) ml_X10_295 rfl (by decide) (lk140 hG) rfl rfl (Nat.le_of_ble_eq_true rfl) ⟨rfl, rfl⟩ ⟨Nat.le_of_ble_eq_true rfl, Nat.le_of_ble_eq_true rfl⟩ ⟨Nat.le_refl _, Nat.le_refl _⟩ dX10_count_107 (aw_ki fun r_12 I_13 J_14 h => ?_)
              refine aw_aload_n 0 dX10_count_110 rfl rfl ?_
              refine gf_X10_9 fl_X10_79 (lk140 hG) (lr140_9 hG) dX10_count_111 ?_
              refine aw_bipush (v := 30) dX10_count_114 (by decide) ?_
              refine aw_ild dX10_count_116 (lk144 hG) (ln144 hG) (by unfold vp_in; decide) ?_
              refine aw_iconst (v := (-1)) dX10_count_117 (by decide) ?_
              refine aw_ixor dX10_count_118 ?_
              refine aw_iand dX10_count_119 ?_
              exact aw_iret rfl dX10_count_120 ⟨rfl, _, rfl, h⟩
            · have h := sw_if.f h c_11
              by_cases c_16 : x1 = 6
              · have h := sw_if.t h c_16; refine aw_tableIn 121 dX10_count_6 (by rw [c_16]; decide) (by rw [c_16]; decide) (by rw [c_16]; rfl) (by decide) ?_
                refine aw_aload_n 0 dX10_count_121 rfl rfl ?_
                refine aw_aload_n 0 dX10_count_122 rfl rfl ?_
                refine gf_X10_9 fl_X10_79 (lk140 hG) (lr140_9 hG) dX10_count_123 ?_
                refine aw_callV wv_X10_homeBits (M_X10_homeBits hG ⟨(lk144 hG), (ln144 hG)⟩ h) ml_X10_391 rfl (by decide) (lk140 hG) rfl rfl (Nat.le_of_ble_eq_true rfl) ⟨rfl, rfl⟩ ⟨Nat.le_of_ble_eq_true rfl, Nat.le_of_ble_eq_true rfl⟩ ⟨Nat.le_refl _, Nat.le_refl _⟩ dX10_count_126 (aw_ki fun r_17 I_18 J_19 h => ?_)
                exact aw_iret rfl dX10_count_129 ⟨rfl, _, rfl, h⟩
              · have h := sw_if.f h c_16
                by_cases c_20 : x1 = 7
                · have h := sw_if.t h c_20; refine aw_tableIn 130 dX10_count_6 (by rw [c_20]; decide) (by rw [c_20]; decide) (by rw [c_20]; rfl) (by decide) ?_
                  refine aw_aload_n 0 dX10_count_130 rfl rfl ?_
                  refine gf_X10_5 fl_X10_76 (lk140 hG) dX10_count_131 ?_
                  exact aw_iret rfl dX10_count_134 ⟨rfl, _, rfl, h⟩
                · have h := sw_if.f h c_20
                  by_cases c_21 : x1 = 8
                  · have h := sw_if.t h c_21; refine aw_tableIn 135 dX10_count_6 (by rw [c_21]; decide) (by rw [c_21]; decide) (by rw [c_21]; rfl) (by decide) ?_
                    refine aw_aload_n 0 dX10_count_135 rfl rfl ?_
                    refine gf_X10_32 fl_X10_82 (lk140 hG) dX10_count_136 ?_
                    exact aw_iret rfl dX10_count_139 ⟨rfl, _, rfl, h⟩
                  · have h := sw_if.f h c_21
                    by_cases c_22 : x1 = 9
                    · have h := sw_if.t h c_22; refine aw_tableIn 140 dX10_count_6 (by rw [c_22]; decide) (by rw [c_22]; decide) (by rw [c_22]; rfl) (by decide) ?_
                      refine aw_aload_n 0 dX10_count_140 rfl rfl ?_
                      refine gf_X10_54 fl_X10_85 (lk140 hG) dX10_count_141 ?_
                      exact aw_iret rfl dX10_count_144 ⟨rfl, _, rfl, h⟩
                    · have h := sw_if.f h c_22
                      by_cases c_23 : x1 = 10
                      · have h := sw_if.t h c_23; refine aw_tableIn 145 dX10_count_6 (by rw [c_23]; decide) (by rw [c_23]; decide) (by rw [c_23]; rfl) (by decide) ?_
                        refine aw_aload_n 0 dX10_count_145 rfl rfl ?_
                        refine gf_X10_1 fl_X10_15 (lk140 hG) dX10_count_146 ?_
                        exact aw_iret rfl dX10_count_149 ⟨rfl, _, rfl, h⟩
                      · have h := sw_if.f h c_23
                        by_cases c_24 : x1 = 11
                        · have h := sw_if.t h c_24; refine aw_tableIn 150 dX10_count_6 (by rw [c_24]; decide) (by rw [c_24]; decide) (by rw [c_24]; rfl) (by decide) ?_
                          refine aw_aload_n 0 dX10_count_150 rfl rfl ?_
                          refine gf_X10_12 fl_X10_32 (lk140 hG) dX10_count_151 ?_
                          exact aw_iret rfl dX10_count_154 ⟨rfl, _, rfl, h⟩
                        · have h := sw_if.f h c_24
                          refine aw_tableOut 155 dX10_count_6 (by have g0 := sw_ne c_3 (by decide : (0 : Int32).toInt = 0); have g1 := sw_ne c_4 (by decide : (1 : Int32).toInt = 1); have g2 := sw_ne c_5 (by decide : (2 : Int32).toInt = 2); have g3 := sw_ne c_7 (by decide : (3 : Int32).toInt = 3); have g4 := sw_ne c_9 (by decide : (4 : Int32).toInt = 4); have g5 := sw_ne c_11 (by decide : (5 : Int32).toInt = 5); have g6 := sw_ne c_16 (by decide : (6 : Int32).toInt = 6); have g7 := sw_ne c_20 (by decide : (7 : Int32).toInt = 7); have g8 := sw_ne c_21 (by decide : (8 : Int32).toInt = 8); have g9 := sw_ne c_22 (by decide : (9 : Int32).toInt = 9); have g10 := sw_ne c_23 (by decide : (10 : Int32).toInt = 10); have g11 := sw_ne c_24 (by decide : (11 : Int32).toInt = 11); omega) (by decide) ?_
                          refine aw_bipush (v := (-100)) dX10_count_155 (by decide) ?_
                          exact aw_iret rfl dX10_count_157 ⟨rfl, _, rfl, h⟩
theorem M_X10_count {l : Launch} {D : va_G} {cy : Nat → ClassId} {sz : Nat} {G : sw_G} (hG : sw_lay G)   {Q : Int32 → sw_I → sw_J → Prop} {x1 : Int32} {I : sw_I} {J : sw_J} (h : wp_X10_count x1 I J Q) : Met l yX10_count (Cond.code yX10_count cX10_count 2 (some .int) :: sw_T) rm_X10_count (sw_Pc D cy sz [.ref (sz + 140), .int x1] G I J) (sw_Q D cy sz (sw_qi G Q)) 0 0 (fun q => sz ≤ q) :=
  sw_met (by decide) (fun q => by cases q) (Nat.le_of_ble_eq_true rfl) rfl (t_X10_count hG  h)
-- X10_row
abbrev rm_X10_row : Room := { frames := 1, cells := 0, slots := 0, locals := 25 }
def wp_X10_row (x1 : Int32) (I : sw_I) (J : sw_J) (Q : Int64 → sw_I → sw_J → Prop) : Prop :=
  ∀ I_1 : sw_I, I_1 = sw_up I 140 0 (0 : Int32) → wp_X10_in x1.toInt64 0 (((I_1 140 1) - (1 : Int32)).toInt64) I_1 J (fun r_3 I_4 J_5 => sw_if (r_3 = 0) (∀ I_8 : sw_I, I_8 = sw_up I_4 140 0 (1 : Int32) → Q (0 : Int64) I_8 J_5) (vp_in x1 24 ∧ Q (J_5 141 x1.toNatClampNeg) I_4 J_5))
set_option maxRecDepth 20000 in
theorem t_X10_row {l : Launch} {D : va_G} {cy : Nat → ClassId} {sz : Nat} {G : sw_G} (hG : sw_lay G)   {Q : Int64 → sw_I → sw_J → Prop} {x1 : Int32} {I : sw_I} {J : sw_J} (h : wp_X10_row x1 I J Q) : AW l D cy sz RX10 cX10_row 2 (some .long) false rm_X10_row 0 0 (sw_ql G Q) 0 0 G I J 0 [(0, .ref (sz + 140)), (1, .int x1)] [] := by
  unfold wp_X10_row at h
  refine aw_aload_n 0 dX10_row_0 rfl rfl ?_
  refine aw_iconst (v := 0) dX10_row_1 (by decide) ?_
  refine pf_X10_0 fl_X10_3 (lk140 hG) dX10_row_2 (aw_nameI fun I_1 e_2 => ?_)
  have h := h I_1 e_2
  refine aw_iload_n 1 dX10_row_5 rfl rfl ?_
  refine aw_i2l dX10_row_6 ?_
  refine aw_lconst (v := 0) dX10_row_7 (by decide) ?_
  refine aw_aload_n 0 dX10_row_8 rfl rfl ?_
  refine gf_X10_1 fl_X10_15 (lk140 hG) dX10_row_9 ?_
  refine aw_iconst (v := 1) dX10_row_12 (by decide) ?_
  refine aw_isub dX10_row_13 ?_
  refine aw_i2l dX10_row_14 ?_
  refine aw_callS wv_X10_in (M_X10_in trivial  h) ml_X10_25 rfl rfl (Nat.le_of_ble_eq_true rfl) ⟨rfl, rfl⟩ ⟨Nat.le_of_ble_eq_true rfl, Nat.le_of_ble_eq_true rfl⟩ ⟨Nat.le_refl _, Nat.le_refl _⟩ dX10_row_15 (aw_ki fun r_3 I_4 J_5 h => ?_)
  refine aw_zne 28 dX10_row_18 (by decide) (fun c_6 => ?_) (fun c_6 => ?_)
  · have h := sw_if.f h c_6
    refine aw_aload_n 0 dX10_row_28 rfl rfl ?_
    refine gf_X10_2 fl_X10_11 (lk140 hG) (lr140_2 hG) dX10_row_29 ?_
    refine aw_iload_n 1 dX10_row_32 rfl rfl ?_
    obtain ⟨hi_7, h⟩ := h
    refine aw_lld dX10_row_33 (lk141 hG) (ln141 hG) hi_7 ?_
    exact aw_lret rfl dX10_row_34 ⟨rfl, _, rfl, h⟩
  · have h := sw_if.t h c_6
    refine aw_aload_n 0 dX10_row_21 rfl rfl ?_
    refine aw_iconst (v := 1) dX10_row_22 (by decide) ?_
    refine pf_X10_0 fl_X10_3 (lk140 hG) dX10_row_23 (aw_nameI fun I_8 e_9 => ?_)
    have h := h I_8 e_9
    refine aw_lconst (v := 0) dX10_row_26 (by decide) ?_
    exact aw_lret rfl dX10_row_27 ⟨rfl, _, rfl, h⟩
theorem M_X10_row {l : Launch} {D : va_G} {cy : Nat → ClassId} {sz : Nat} {G : sw_G} (hG : sw_lay G)   {Q : Int64 → sw_I → sw_J → Prop} {x1 : Int32} {I : sw_I} {J : sw_J} (h : wp_X10_row x1 I J Q) : Met l yX10_row (Cond.code yX10_row cX10_row 2 (some .long) :: sw_T) rm_X10_row (sw_Pc D cy sz [.ref (sz + 140), .int x1] G I J) (sw_Q D cy sz (sw_ql G Q)) 0 0 (fun q => sz ≤ q) :=
  sw_met (by decide) (fun q => by cases q) (Nat.le_of_ble_eq_true rfl) rfl (t_X10_row hG  h)
-- J6_numberOfTrailingZeros_0f7a4
abbrev rm_J6_numberOfTrailingZeros_0f7a4 : Room := { frames := 0, cells := 0, slots := 0, locals := 0 }
def wB_J6_numberOfTrailingZeros_0f7a4_74   (Q : Int32 → sw_I → sw_J → Prop) (x0 : Int32) (x1 : Int32) (I : sw_I) (J : sw_J) : Prop :=
  Q (x1 + ((x0.toUInt32 >>> ((1 : Int32).toUInt32 &&& Int32.toUInt32 31)).toInt32)) I J
def wB_J6_numberOfTrailingZeros_0f7a4_62   (Q : Int32 → sw_I → sw_J → Prop) (x0 : Int32) (x1 : Int32) (I : sw_I) (J : sw_J) : Prop :=
  sw_if ((4 : Int32) < x0) (∀ y_2 : Int32, y_2 = x1 + 2 → ∀ y_4 : Int32, y_4 = (x0.toUInt32 >>> ((2 : Int32).toUInt32 &&& Int32.toUInt32 31)).toInt32 → wB_J6_numberOfTrailingZeros_0f7a4_74   Q y_4 y_2 I J) (wB_J6_numberOfTrailingZeros_0f7a4_74   Q x0 x1 I J)
def wB_J6_numberOfTrailingZeros_0f7a4_49   (Q : Int32 → sw_I → sw_J → Prop) (x0 : Int32) (x1 : Int32) (I : sw_I) (J : sw_J) : Prop :=
  sw_if ((16 : Int32) < x0) (∀ y_2 : Int32, y_2 = x1 + 4 → ∀ y_4 : Int32, y_4 = (x0.toUInt32 >>> ((4 : Int32).toUInt32 &&& Int32.toUInt32 31)).toInt32 → wB_J6_numberOfTrailingZeros_0f7a4_62   Q y_4 y_2 I J) (wB_J6_numberOfTrailingZeros_0f7a4_62   Q x0 x1 I J)
def wB_J6_numberOfTrailingZeros_0f7a4_34   (Q : Int32 → sw_I → sw_J → Prop) (x0 : Int32) (x1 : Int32) (I : sw_I) (J : sw_J) : Prop :=
  sw_if ((256 : Int32) < x0) (∀ y_2 : Int32, y_2 = x1 + 8 → ∀ y_4 : Int32, y_4 = (x0.toUInt32 >>> ((8 : Int32).toUInt32 &&& Int32.toUInt32 31)).toInt32 → wB_J6_numberOfTrailingZeros_0f7a4_49   Q y_4 y_2 I J) (wB_J6_numberOfTrailingZeros_0f7a4_49   Q x0 x1 I J)
def wp_J6_numberOfTrailingZeros_0f7a4 (x0 : Int32) (I : sw_I) (J : sw_J) (Q : Int32 → sw_I → sw_J → Prop) : Prop :=
  ∀ y_1 : Int32, y_1 = (x0 ^^^ (-1 : Int32)) &&& (x0 - (1 : Int32)) → sw_if (0 < y_1) (sw_if ((65536 : Int32) < y_1) (∀ y_5 : Int32, y_5 = 1 + 16 → ∀ y_7 : Int32, y_7 = (y_1.toUInt32 >>> ((16 : Int32).toUInt32 &&& Int32.toUInt32 31)).toInt32 → wB_J6_numberOfTrailingZeros_0f7a4_34   Q y_7 y_5 I J) (wB_J6_numberOfTrailingZeros_0f7a4_34   Q y_1 1 I J)) (Q (y_1 &&& (32 : Int32)) I J)
set_option maxRecDepth 20000 in
theorem t_J6_numberOfTrailingZeros_0f7a4_74 {l : Launch} {D : va_G} {cy : Nat → ClassId} {sz : Nat} {G : sw_G} (hG : True)   {Q : Int32 → sw_I → sw_J → Prop} {x0 : Int32} {x1 : Int32} {I : sw_I} {J : sw_J} (h : wB_J6_numberOfTrailingZeros_0f7a4_74   Q x0 x1 I J) : AW l D cy sz RJ6 cJ6_numberOfTrailingZeros_0f7a4 2 (some .int) false rm_J6_numberOfTrailingZeros_0f7a4 0 0 (sw_qi G Q) 0 0 G I J 74 [(0, .int x0), (1, .int x1)] [] := by
  unfold wB_J6_numberOfTrailingZeros_0f7a4_74 at h
  refine aw_iload_n 1 dJ6_numberOfTrailingZeros_0f7a4_74 rfl rfl ?_
  refine aw_iload_n 0 dJ6_numberOfTrailingZeros_0f7a4_75 rfl rfl ?_
  refine aw_iconst (v := 1) dJ6_numberOfTrailingZeros_0f7a4_76 (by decide) ?_
  refine aw_iushr dJ6_numberOfTrailingZeros_0f7a4_77 ?_
  refine aw_iadd dJ6_numberOfTrailingZeros_0f7a4_78 ?_
  exact aw_iret rfl dJ6_numberOfTrailingZeros_0f7a4_79 ⟨rfl, _, rfl, h⟩
set_option maxRecDepth 20000 in
theorem t_J6_numberOfTrailingZeros_0f7a4_62 {l : Launch} {D : va_G} {cy : Nat → ClassId} {sz : Nat} {G : sw_G} (hG : True)   {Q : Int32 → sw_I → sw_J → Prop} {x0 : Int32} {x1 : Int32} {I : sw_I} {J : sw_J} (h : wB_J6_numberOfTrailingZeros_0f7a4_62   Q x0 x1 I J) : AW l D cy sz RJ6 cJ6_numberOfTrailingZeros_0f7a4 2 (some .int) false rm_J6_numberOfTrailingZeros_0f7a4 0 0 (sw_qi G Q) 0 0 G I J 62 [(0, .int x0), (1, .int x1)] [] := by
  unfold wB_J6_numberOfTrailingZeros_0f7a4_62 at h
  refine aw_iload_n 0 dJ6_numberOfTrailingZeros_0f7a4_62 rfl rfl ?_
  refine aw_iconst (v := 4) dJ6_numberOfTrailingZeros_0f7a4_63 (by decide) ?_
  refine aw_jle 74 dJ6_numberOfTrailingZeros_0f7a4_64 (by decide) (fun c_1 => ?_) (fun c_1 => ?_)
  · have h := sw_if.f h c_1
    refine aw_sub [0, 1] rfl ?_
    exact t_J6_numberOfTrailingZeros_0f7a4_74 hG   h
  · have h := sw_if.t h c_1
    obtain ⟨y_2, e_3⟩ : ∃ q : Int32, q = x1 + 2 := ⟨_, rfl⟩
    have h := h y_2 e_3
    refine aw_iinc (lv' := [(1, .int y_2), (0, .int x0)]) 1 dJ6_numberOfTrailingZeros_0f7a4_67 rfl (by rw [e_3]; rfl) (by decide) rfl ?_
    refine aw_iload_n 1 dJ6_numberOfTrailingZeros_0f7a4_70 rfl rfl ?_
    refine aw_iconst (v := 2) dJ6_numberOfTrailingZeros_0f7a4_71 (by decide) ?_
    refine aw_iushr dJ6_numberOfTrailingZeros_0f7a4_72 ?_
    refine aw_topi (fun y_4 e_5 => ?_)
    have h := h y_4 e_5
    refine aw_istore_n (lv' := [(0, .int y_4), (1, .int y_2)]) dJ6_numberOfTrailingZeros_0f7a4_73 rfl (by decide) rfl ?_
    refine aw_sub [0, 1] rfl ?_
    exact t_J6_numberOfTrailingZeros_0f7a4_74 hG   h
set_option maxRecDepth 20000 in
theorem t_J6_numberOfTrailingZeros_0f7a4_49 {l : Launch} {D : va_G} {cy : Nat → ClassId} {sz : Nat} {G : sw_G} (hG : True)   {Q : Int32 → sw_I → sw_J → Prop} {x0 : Int32} {x1 : Int32} {I : sw_I} {J : sw_J} (h : wB_J6_numberOfTrailingZeros_0f7a4_49   Q x0 x1 I J) : AW l D cy sz RJ6 cJ6_numberOfTrailingZeros_0f7a4 2 (some .int) false rm_J6_numberOfTrailingZeros_0f7a4 0 0 (sw_qi G Q) 0 0 G I J 49 [(0, .int x0), (1, .int x1)] [] := by
  unfold wB_J6_numberOfTrailingZeros_0f7a4_49 at h
  refine aw_iload_n 0 dJ6_numberOfTrailingZeros_0f7a4_49 rfl rfl ?_
  refine aw_bipush (v := 16) dJ6_numberOfTrailingZeros_0f7a4_50 (by decide) ?_
  refine aw_jle 62 dJ6_numberOfTrailingZeros_0f7a4_52 (by decide) (fun c_1 => ?_) (fun c_1 => ?_)
  · have h := sw_if.f h c_1
    refine aw_sub [0, 1] rfl ?_
    exact t_J6_numberOfTrailingZeros_0f7a4_62 hG   h
  · have h := sw_if.t h c_1
    obtain ⟨y_2, e_3⟩ : ∃ q : Int32, q = x1 + 4 := ⟨_, rfl⟩
    have h := h y_2 e_3
    refine aw_iinc (lv' := [(1, .int y_2), (0, .int x0)]) 1 dJ6_numberOfTrailingZeros_0f7a4_55 rfl (by rw [e_3]; rfl) (by decide) rfl ?_
    refine aw_iload_n 1 dJ6_numberOfTrailingZeros_0f7a4_58 rfl rfl ?_
    refine aw_iconst (v := 4) dJ6_numberOfTrailingZeros_0f7a4_59 (by decide) ?_
    refine aw_iushr dJ6_numberOfTrailingZeros_0f7a4_60 ?_
    refine aw_topi (fun y_4 e_5 => ?_)
    have h := h y_4 e_5
    refine aw_istore_n (lv' := [(0, .int y_4), (1, .int y_2)]) dJ6_numberOfTrailingZeros_0f7a4_61 rfl (by decide) rfl ?_
    refine aw_sub [0, 1] rfl ?_
    exact t_J6_numberOfTrailingZeros_0f7a4_62 hG   h
set_option maxRecDepth 20000 in
theorem t_J6_numberOfTrailingZeros_0f7a4_34 {l : Launch} {D : va_G} {cy : Nat → ClassId} {sz : Nat} {G : sw_G} (hG : True)   {Q : Int32 → sw_I → sw_J → Prop} {x0 : Int32} {x1 : Int32} {I : sw_I} {J : sw_J} (h : wB_J6_numberOfTrailingZeros_0f7a4_34   Q x0 x1 I J) : AW l D cy sz RJ6 cJ6_numberOfTrailingZeros_0f7a4 2 (some .int) false rm_J6_numberOfTrailingZeros_0f7a4 0 0 (sw_qi G Q) 0 0 G I J 34 [(0, .int x0), (1, .int x1)] [] := by
  unfold wB_J6_numberOfTrailingZeros_0f7a4_34 at h
  refine aw_iload_n 0 dJ6_numberOfTrailingZeros_0f7a4_34 rfl rfl ?_
  refine aw_sipush (v := 256) dJ6_numberOfTrailingZeros_0f7a4_35 (by decide) ?_
  refine aw_jle 49 dJ6_numberOfTrailingZeros_0f7a4_38 (by decide) (fun c_1 => ?_) (fun c_1 => ?_)
  · have h := sw_if.f h c_1
    refine aw_sub [0, 1] rfl ?_
    exact t_J6_numberOfTrailingZeros_0f7a4_49 hG   h
  · have h := sw_if.t h c_1
    obtain ⟨y_2, e_3⟩ : ∃ q : Int32, q = x1 + 8 := ⟨_, rfl⟩
    have h := h y_2 e_3
    refine aw_iinc (lv' := [(1, .int y_2), (0, .int x0)]) 1 dJ6_numberOfTrailingZeros_0f7a4_41 rfl (by rw [e_3]; rfl) (by decide) rfl ?_
    refine aw_iload_n 1 dJ6_numberOfTrailingZeros_0f7a4_44 rfl rfl ?_
    refine aw_bipush (v := 8) dJ6_numberOfTrailingZeros_0f7a4_45 (by decide) ?_
    refine aw_iushr dJ6_numberOfTrailingZeros_0f7a4_47 ?_
    refine aw_topi (fun y_4 e_5 => ?_)
    have h := h y_4 e_5
    refine aw_istore_n (lv' := [(0, .int y_4), (1, .int y_2)]) dJ6_numberOfTrailingZeros_0f7a4_48 rfl (by decide) rfl ?_
    refine aw_sub [0, 1] rfl ?_
    exact t_J6_numberOfTrailingZeros_0f7a4_49 hG   h
set_option maxRecDepth 20000 in
theorem t_J6_numberOfTrailingZeros_0f7a4 {l : Launch} {D : va_G} {cy : Nat → ClassId} {sz : Nat} {G : sw_G} (hG : True)   {Q : Int32 → sw_I → sw_J → Prop} {x0 : Int32} {I : sw_I} {J : sw_J} (h : wp_J6_numberOfTrailingZeros_0f7a4 x0 I J Q) : AW l D cy sz RJ6 cJ6_numberOfTrailingZeros_0f7a4 2 (some .int) false rm_J6_numberOfTrailingZeros_0f7a4 0 0 (sw_qi G Q) 0 0 G I J 0 [(0, .int x0)] [] := by
  unfold wp_J6_numberOfTrailingZeros_0f7a4 at h
  refine aw_iload_n 0 dJ6_numberOfTrailingZeros_0f7a4_0 rfl rfl ?_
  refine aw_iconst (v := (-1)) dJ6_numberOfTrailingZeros_0f7a4_1 (by decide) ?_
  refine aw_ixor dJ6_numberOfTrailingZeros_0f7a4_2 ?_
  refine aw_iload_n 0 dJ6_numberOfTrailingZeros_0f7a4_3 rfl rfl ?_
  refine aw_iconst (v := 1) dJ6_numberOfTrailingZeros_0f7a4_4 (by decide) ?_
  refine aw_isub dJ6_numberOfTrailingZeros_0f7a4_5 ?_
  refine aw_iand dJ6_numberOfTrailingZeros_0f7a4_6 ?_
  refine aw_topi (fun y_1 e_2 => ?_)
  have h := h y_1 e_2
  refine aw_istore_n (lv' := [(0, .int y_1)]) dJ6_numberOfTrailingZeros_0f7a4_7 rfl (by decide) rfl ?_
  refine aw_iload_n 0 dJ6_numberOfTrailingZeros_0f7a4_8 rfl rfl ?_
  refine aw_zgt 17 dJ6_numberOfTrailingZeros_0f7a4_9 (by decide) (fun c_3 => ?_) (fun c_3 => ?_)
  · have h := sw_if.t h c_3
    refine aw_iconst (v := 1) dJ6_numberOfTrailingZeros_0f7a4_17 (by decide) ?_
    refine aw_istore_n (lv' := [(1, .int 1), (0, .int y_1)]) dJ6_numberOfTrailingZeros_0f7a4_18 rfl (by decide) rfl ?_
    refine aw_iload_n 1 dJ6_numberOfTrailingZeros_0f7a4_19 rfl rfl ?_
    refine aw_ldcw (v := 65536) dJ6_numberOfTrailingZeros_0f7a4_20 k_J6_264 ?_
    refine aw_jle 34 dJ6_numberOfTrailingZeros_0f7a4_23 (by decide) (fun c_4 => ?_) (fun c_4 => ?_)
    · have h := sw_if.f h c_4
      refine aw_sub [1, 0] rfl ?_
      exact t_J6_numberOfTrailingZeros_0f7a4_34 hG   h
    · have h := sw_if.t h c_4
      obtain ⟨y_5, e_6⟩ : ∃ q : Int32, q = 1 + 16 := ⟨_, rfl⟩
      have h := h y_5 e_6
      refine aw_iinc (lv' := [(1, .int y_5), (0, .int y_1)]) 0 dJ6_numberOfTrailingZeros_0f7a4_26 rfl (by rw [e_6]; rfl) (by decide) rfl ?_
      refine aw_iload_n 1 dJ6_numberOfTrailingZeros_0f7a4_29 rfl rfl ?_
      refine aw_bipush (v := 16) dJ6_numberOfTrailingZeros_0f7a4_30 (by decide) ?_
      refine aw_iushr dJ6_numberOfTrailingZeros_0f7a4_32 ?_
      refine aw_topi (fun y_7 e_8 => ?_)
      have h := h y_7 e_8
      refine aw_istore_n (lv' := [(0, .int y_7), (1, .int y_5)]) dJ6_numberOfTrailingZeros_0f7a4_33 rfl (by decide) rfl ?_
      refine aw_sub [0, 1] rfl ?_
      exact t_J6_numberOfTrailingZeros_0f7a4_34 hG   h
  · have h := sw_if.f h c_3
    refine aw_iload_n 0 dJ6_numberOfTrailingZeros_0f7a4_12 rfl rfl ?_
    refine aw_bipush (v := 32) dJ6_numberOfTrailingZeros_0f7a4_13 (by decide) ?_
    refine aw_iand dJ6_numberOfTrailingZeros_0f7a4_15 ?_
    exact aw_iret rfl dJ6_numberOfTrailingZeros_0f7a4_16 ⟨rfl, _, rfl, h⟩
theorem M_J6_numberOfTrailingZeros_0f7a4 {l : Launch} {D : va_G} {cy : Nat → ClassId} {sz : Nat} {G : sw_G} (hG : True)   {Q : Int32 → sw_I → sw_J → Prop} {x0 : Int32} {I : sw_I} {J : sw_J} (h : wp_J6_numberOfTrailingZeros_0f7a4 x0 I J Q) : Met l yJ6_numberOfTrailingZeros_0f7a4 (Cond.code yJ6_numberOfTrailingZeros_0f7a4 cJ6_numberOfTrailingZeros_0f7a4 2 (some .int) :: sw_T) rm_J6_numberOfTrailingZeros_0f7a4 (sw_Pc D cy sz [.int x0] G I J) (sw_Q D cy sz (sw_qi G Q)) 0 0 (fun q => sz ≤ q) :=
  sw_met (by decide) (fun q => by cases q) (Nat.le_of_ble_eq_true rfl) rfl (t_J6_numberOfTrailingZeros_0f7a4 hG  h)
-- J6_bitCount_0f7a4
abbrev rm_J6_bitCount_0f7a4 : Room := { frames := 0, cells := 0, slots := 0, locals := 0 }
def wp_J6_bitCount_0f7a4 (x0 : Int32) (I : sw_I) (J : sw_J) (Q : Int32 → sw_I → sw_J → Prop) : Prop :=
  ∀ y_1 : Int32, y_1 = x0 - (((x0.toUInt32 >>> ((1 : Int32).toUInt32 &&& Int32.toUInt32 31)).toInt32) &&& (1431655765 : Int32)) → ∀ y_3 : Int32, y_3 = (y_1 &&& (858993459 : Int32)) + (((y_1.toUInt32 >>> ((2 : Int32).toUInt32 &&& Int32.toUInt32 31)).toInt32) &&& (858993459 : Int32)) → ∀ y_5 : Int32, y_5 = (y_3 + ((y_3.toUInt32 >>> ((4 : Int32).toUInt32 &&& Int32.toUInt32 31)).toInt32)) &&& (252645135 : Int32) → ∀ y_7 : Int32, y_7 = y_5 + ((y_5.toUInt32 >>> ((8 : Int32).toUInt32 &&& Int32.toUInt32 31)).toInt32) → ∀ y_9 : Int32, y_9 = y_7 + ((y_7.toUInt32 >>> ((16 : Int32).toUInt32 &&& Int32.toUInt32 31)).toInt32) → Q (y_9 &&& (63 : Int32)) I J
set_option maxRecDepth 20000 in
theorem t_J6_bitCount_0f7a4 {l : Launch} {D : va_G} {cy : Nat → ClassId} {sz : Nat} {G : sw_G} (hG : True)   {Q : Int32 → sw_I → sw_J → Prop} {x0 : Int32} {I : sw_I} {J : sw_J} (h : wp_J6_bitCount_0f7a4 x0 I J Q) : AW l D cy sz RJ6 cJ6_bitCount_0f7a4 1 (some .int) false rm_J6_bitCount_0f7a4 0 0 (sw_qi G Q) 0 0 G I J 0 [(0, .int x0)] [] := by
  unfold wp_J6_bitCount_0f7a4 at h
  refine aw_iload_n 0 dJ6_bitCount_0f7a4_0 rfl rfl ?_
  refine aw_iload_n 0 dJ6_bitCount_0f7a4_1 rfl rfl ?_
  refine aw_iconst (v := 1) dJ6_bitCount_0f7a4_2 (by decide) ?_
  refine aw_iushr dJ6_bitCount_0f7a4_3 ?_
  refine aw_ldcw (v := 1431655765) dJ6_bitCount_0f7a4_4 k_J6_265 ?_
  refine aw_iand dJ6_bitCount_0f7a4_7 ?_
  refine aw_isub dJ6_bitCount_0f7a4_8 ?_
  refine aw_topi (fun y_1 e_2 => ?_)
  have h := h y_1 e_2
  refine aw_istore_n (lv' := [(0, .int y_1)]) dJ6_bitCount_0f7a4_9 rfl (by decide) rfl ?_
  refine aw_iload_n 0 dJ6_bitCount_0f7a4_10 rfl rfl ?_
  refine aw_ldcw (v := 858993459) dJ6_bitCount_0f7a4_11 k_J6_266 ?_
  refine aw_iand dJ6_bitCount_0f7a4_14 ?_
  refine aw_iload_n 0 dJ6_bitCount_0f7a4_15 rfl rfl ?_
  refine aw_iconst (v := 2) dJ6_bitCount_0f7a4_16 (by decide) ?_
  refine aw_iushr dJ6_bitCount_0f7a4_17 ?_
  refine aw_ldcw (v := 858993459) dJ6_bitCount_0f7a4_18 k_J6_266 ?_
  refine aw_iand dJ6_bitCount_0f7a4_21 ?_
  refine aw_iadd dJ6_bitCount_0f7a4_22 ?_
  refine aw_topi (fun y_3 e_4 => ?_)
  have h := h y_3 e_4
  refine aw_istore_n (lv' := [(0, .int y_3)]) dJ6_bitCount_0f7a4_23 rfl (by decide) rfl ?_
  refine aw_iload_n 0 dJ6_bitCount_0f7a4_24 rfl rfl ?_
  refine aw_iload_n 0 dJ6_bitCount_0f7a4_25 rfl rfl ?_
  refine aw_iconst (v := 4) dJ6_bitCount_0f7a4_26 (by decide) ?_
  refine aw_iushr dJ6_bitCount_0f7a4_27 ?_
  refine aw_iadd dJ6_bitCount_0f7a4_28 ?_
  refine aw_ldcw (v := 252645135) dJ6_bitCount_0f7a4_29 k_J6_267 ?_
  refine aw_iand dJ6_bitCount_0f7a4_32 ?_
  refine aw_topi (fun y_5 e_6 => ?_)
  have h := h y_5 e_6
  refine aw_istore_n (lv' := [(0, .int y_5)]) dJ6_bitCount_0f7a4_33 rfl (by decide) rfl ?_
  refine aw_iload_n 0 dJ6_bitCount_0f7a4_34 rfl rfl ?_
  refine aw_iload_n 0 dJ6_bitCount_0f7a4_35 rfl rfl ?_
  refine aw_bipush (v := 8) dJ6_bitCount_0f7a4_36 (by decide) ?_
  refine aw_iushr dJ6_bitCount_0f7a4_38 ?_
  refine aw_iadd dJ6_bitCount_0f7a4_39 ?_
  refine aw_topi (fun y_7 e_8 => ?_)
  have h := h y_7 e_8
  refine aw_istore_n (lv' := [(0, .int y_7)]) dJ6_bitCount_0f7a4_40 rfl (by decide) rfl ?_
  refine aw_iload_n 0 dJ6_bitCount_0f7a4_41 rfl rfl ?_
  refine aw_iload_n 0 dJ6_bitCount_0f7a4_42 rfl rfl ?_
  refine aw_bipush (v := 16) dJ6_bitCount_0f7a4_43 (by decide) ?_
  refine aw_iushr dJ6_bitCount_0f7a4_45 ?_
  refine aw_iadd dJ6_bitCount_0f7a4_46 ?_
  refine aw_topi (fun y_9 e_10 => ?_)
  have h := h y_9 e_10
  refine aw_istore_n (lv' := [(0, .int y_9)]) dJ6_bitCount_0f7a4_47 rfl (by decide) rfl ?_
  refine aw_iload_n 0 dJ6_bitCount_0f7a4_48 rfl rfl ?_
  refine aw_bipush (v := 63) dJ6_bitCount_0f7a4_49 (by decide) ?_
  refine aw_iand dJ6_bitCount_0f7a4_51 ?_
  exact aw_iret rfl dJ6_bitCount_0f7a4_52 ⟨rfl, _, rfl, h⟩
theorem M_J6_bitCount_0f7a4 {l : Launch} {D : va_G} {cy : Nat → ClassId} {sz : Nat} {G : sw_G} (hG : True)   {Q : Int32 → sw_I → sw_J → Prop} {x0 : Int32} {I : sw_I} {J : sw_J} (h : wp_J6_bitCount_0f7a4 x0 I J Q) : Met l yJ6_bitCount_0f7a4 (Cond.code yJ6_bitCount_0f7a4 cJ6_bitCount_0f7a4 1 (some .int) :: sw_T) rm_J6_bitCount_0f7a4 (sw_Pc D cy sz [.int x0] G I J) (sw_Q D cy sz (sw_qi G Q)) 0 0 (fun q => sz ≤ q) :=
  sw_met (by decide) (fun q => by cases q) (Nat.le_of_ble_eq_true rfl) rfl (t_J6_bitCount_0f7a4 hG  h)
-- J7_fill_d0a16
abbrev rm_J7_fill_d0a16 : Room := { frames := 0, cells := 0, slots := 0, locals := 0 }
def wb_J7_fill_d0a16_6 (b0 : Nat) (n0 : Nat) (K6 : Int64 → Int32 → Int32 → sw_I → sw_J → Prop) (Q : sw_I → sw_J → Prop) (w1 : Int64) (x3 : Int32) (x4 : Int32) (I : sw_I) (J : sw_J) : Prop :=
  sw_if (x3 < x4) (vp_in x3 n0 ∧ ∀ J_3 : sw_J, J_3 = sw_up J b0 x3.toNatClampNeg w1 → ∀ y_5 : Int32, y_5 = x3 + 1 → K6 w1 y_5 x4 I J_3) (Q I J)
def wl_J7_fill_d0a16_6 (b0 : Nat) (n0 : Nat)  (Q : sw_I → sw_J → Prop) : Nat → Int64 → Int32 → Int32 → sw_I → sw_J → Prop
  | 0 => fun _ _ _ _ _ => False
  | n + 1 => fun w1 x3 x4 I J => wb_J7_fill_d0a16_6 b0 n0 (wl_J7_fill_d0a16_6 b0 n0  Q n) Q w1 x3 x4 I J
def wp_J7_fill_d0a16 (b0 : Nat) (n0 : Nat) (w1 : Int64) (I : sw_I) (J : sw_J) (Q : sw_I → sw_J → Prop) : Prop :=
  ∀ y_1 : Int32, y_1 = (Int32.ofNat n0) → ∃ n_3 : Nat, wl_J7_fill_d0a16_6 b0 n0  Q n_3 w1 0 y_1 I J
set_option maxRecDepth 20000 in
theorem tb_J7_fill_d0a16_6 {l : Launch} {D : va_G} {cy : Nat → ClassId} {sz : Nat} {G : sw_G} (hG : True) {b0 : Nat} {n0 : Nat} (hb0 : sw_la G b0 n0) {Q : sw_I → sw_J → Prop} {K6 : Int64 → Int32 → Int32 → sw_I → sw_J → Prop} (hK6 : ∀ (w1 : Int64) (x3 : Int32) (x4 : Int32) (I : sw_I) (J : sw_J), K6 w1 x3 x4 I J → AW l D cy sz RJ7 cJ7_fill_d0a16 5 none false rm_J7_fill_d0a16 0 0 (sw_qv G Q) 0 0 G I J 6 [(0, .ref (sz + b0)), (1, .long w1), (3, .int x3), (4, .int x4)] []) {w1 : Int64} {x3 : Int32} {x4 : Int32} {I : sw_I} {J : sw_J} (h : wb_J7_fill_d0a16_6 b0 n0 K6 Q w1 x3 x4 I J) : AW l D cy sz RJ7 cJ7_fill_d0a16 5 none false rm_J7_fill_d0a16 0 0 (sw_qv G Q) 0 0 G I J 6 [(0, .ref (sz + b0)), (1, .long w1), (3, .int x3), (4, .int x4)] [] := by
  unfold wb_J7_fill_d0a16_6 at h
  refine aw_iload_n 2 dJ7_fill_d0a16_6 rfl rfl ?_
  refine aw_iload 3 dJ7_fill_d0a16_7 rfl ?_
  refine aw_jge 22 dJ7_fill_d0a16_9 (by decide) (fun c_1 => ?_) (fun c_1 => ?_)
  · have h := sw_if.f h c_1
    exact aw_vret rfl dJ7_fill_d0a16_22 ⟨rfl, rfl, h⟩
  · have h := sw_if.t h c_1
    refine aw_aload_n 0 dJ7_fill_d0a16_12 rfl rfl ?_
    refine aw_iload_n 2 dJ7_fill_d0a16_13 rfl rfl ?_
    refine aw_lload_n 1 dJ7_fill_d0a16_14 rfl rfl ?_
    obtain ⟨hi_2, h⟩ := h
    refine aw_lst dJ7_fill_d0a16_15 hb0.1 hb0.2 hi_2 (aw_nameJ fun J_3 e_4 => ?_)
    have h := h J_3 e_4
    obtain ⟨y_5, e_6⟩ : ∃ q : Int32, q = x3 + 1 := ⟨_, rfl⟩
    have h := h y_5 e_6
    refine aw_iinc (lv' := [(3, .int y_5), (0, .ref (sz + b0)), (1, .long w1), (4, .int x4)]) 2 dJ7_fill_d0a16_16 rfl (by rw [e_6]; rfl) (by decide) rfl ?_
    refine aw_goto 6 dJ7_fill_d0a16_19 (by decide) ?_
    refine aw_sub [1, 2, 0, 3] rfl ?_
    exact hK6 w1 y_5 x4 I J_3 h
set_option maxRecDepth 20000 in
theorem tl_J7_fill_d0a16_6 {l : Launch} {D : va_G} {cy : Nat → ClassId} {sz : Nat} {G : sw_G} (hG : True) {b0 : Nat} {n0 : Nat} (hb0 : sw_la G b0 n0) {Q : sw_I → sw_J → Prop} : ∀ (n : Nat) (w1 : Int64) (x3 : Int32) (x4 : Int32) (I : sw_I) (J : sw_J), wl_J7_fill_d0a16_6 b0 n0  Q n w1 x3 x4 I J → AW l D cy sz RJ7 cJ7_fill_d0a16 5 none false rm_J7_fill_d0a16 0 0 (sw_qv G Q) 0 0 G I J 6 [(0, .ref (sz + b0)), (1, .long w1), (3, .int x3), (4, .int x4)] [] := by
  intro n
  induction n with
  | zero => intro w1 x3 x4 I J h; exact False.elim h
  | succ n ih => intro w1 x3 x4 I J h; exact tb_J7_fill_d0a16_6 hG hb0 ih h
set_option maxRecDepth 20000 in
theorem t_J7_fill_d0a16 {l : Launch} {D : va_G} {cy : Nat → ClassId} {sz : Nat} {G : sw_G} (hG : True) {b0 : Nat} {n0 : Nat} (hb0 : sw_la G b0 n0) {Q : sw_I → sw_J → Prop} {w1 : Int64} {I : sw_I} {J : sw_J} (h : wp_J7_fill_d0a16 b0 n0 w1 I J Q) : AW l D cy sz RJ7 cJ7_fill_d0a16 5 none false rm_J7_fill_d0a16 0 0 (sw_qv G Q) 0 0 G I J 0 [(0, .ref (sz + b0)), (1, .long w1)] [] := by
  unfold wp_J7_fill_d0a16 at h
  refine aw_iconst (v := 0) dJ7_fill_d0a16_0 (by decide) ?_
  refine aw_istore_n (lv' := [(3, .int 0), (0, .ref (sz + b0)), (1, .long w1)]) dJ7_fill_d0a16_1 rfl (by decide) rfl ?_
  refine aw_aload_n 1 dJ7_fill_d0a16_2 rfl rfl ?_
  refine aw_alenL dJ7_fill_d0a16_3 hb0.1 hb0.2 ?_
  refine aw_topi (fun y_1 e_2 => ?_)
  have h := h y_1 e_2
  refine aw_istore (lv' := [(4, .int y_1), (3, .int 0), (0, .ref (sz + b0)), (1, .long w1)]) dJ7_fill_d0a16_4 (by decide) rfl ?_
  refine aw_sub [2, 3, 1, 0] rfl ?_
  obtain ⟨n_3, h⟩ := h
  exact tl_J7_fill_d0a16_6 hG hb0  n_3 w1 0 y_1 I J h
theorem M_J7_fill_d0a16 {l : Launch} {D : va_G} {cy : Nat → ClassId} {sz : Nat} {G : sw_G} (hG : True) {b0 : Nat} {n0 : Nat} (hb0 : sw_la G b0 n0) {Q : sw_I → sw_J → Prop} {w1 : Int64} {I : sw_I} {J : sw_J} (h : wp_J7_fill_d0a16 b0 n0 w1 I J Q) : Met l yJ7_fill_d0a16 (Cond.code yJ7_fill_d0a16 cJ7_fill_d0a16 5 none :: sw_T) rm_J7_fill_d0a16 (sw_Pc D cy sz [.ref (sz + b0), .long w1] G I J) (sw_Q D cy sz (sw_qv G Q)) 0 0 (fun q => sz ≤ q) :=
  sw_met (by decide) (fun q => by cases q) (Nat.le_of_ble_eq_true rfl) rfl (t_J7_fill_d0a16 hG hb0 h)
-- J7_fill_53178
abbrev rm_J7_fill_53178 : Room := { frames := 0, cells := 0, slots := 0, locals := 0 }
def wb_J7_fill_53178_5 (b0 : Nat) (n0 : Nat) (K5 : Int32 → Int32 → Int32 → sw_I → sw_J → Prop) (Q : sw_I → sw_J → Prop) (x1 : Int32) (x2 : Int32) (x3 : Int32) (I : sw_I) (J : sw_J) : Prop :=
  sw_if (x2 < x3) (vp_in x2 n0 ∧ ∀ I_3 : sw_I, I_3 = sw_up I b0 x2.toNatClampNeg x1 → ∀ y_5 : Int32, y_5 = x2 + 1 → K5 x1 y_5 x3 I_3 J) (Q I J)
def wl_J7_fill_53178_5 (b0 : Nat) (n0 : Nat)  (Q : sw_I → sw_J → Prop) : Nat → Int32 → Int32 → Int32 → sw_I → sw_J → Prop
  | 0 => fun _ _ _ _ _ => False
  | n + 1 => fun x1 x2 x3 I J => wb_J7_fill_53178_5 b0 n0 (wl_J7_fill_53178_5 b0 n0  Q n) Q x1 x2 x3 I J
def wp_J7_fill_53178 (b0 : Nat) (n0 : Nat) (x1 : Int32) (I : sw_I) (J : sw_J) (Q : sw_I → sw_J → Prop) : Prop :=
  ∀ y_1 : Int32, y_1 = (Int32.ofNat n0) → ∃ n_3 : Nat, wl_J7_fill_53178_5 b0 n0  Q n_3 x1 0 y_1 I J
set_option maxRecDepth 20000 in
theorem tb_J7_fill_53178_5 {l : Launch} {D : va_G} {cy : Nat → ClassId} {sz : Nat} {G : sw_G} (hG : True) {b0 : Nat} {n0 : Nat} (hb0 : sw_ia G b0 n0) {Q : sw_I → sw_J → Prop} {K5 : Int32 → Int32 → Int32 → sw_I → sw_J → Prop} (hK5 : ∀ (x1 : Int32) (x2 : Int32) (x3 : Int32) (I : sw_I) (J : sw_J), K5 x1 x2 x3 I J → AW l D cy sz RJ7 cJ7_fill_53178 4 none false rm_J7_fill_53178 0 0 (sw_qv G Q) 0 0 G I J 5 [(0, .ref (sz + b0)), (1, .int x1), (2, .int x2), (3, .int x3)] []) {x1 : Int32} {x2 : Int32} {x3 : Int32} {I : sw_I} {J : sw_J} (h : wb_J7_fill_53178_5 b0 n0 K5 Q x1 x2 x3 I J) : AW l D cy sz RJ7 cJ7_fill_53178 4 none false rm_J7_fill_53178 0 0 (sw_qv G Q) 0 0 G I J 5 [(0, .ref (sz + b0)), (1, .int x1), (2, .int x2), (3, .int x3)] [] := by
  unfold wb_J7_fill_53178_5 at h
  refine aw_iload_n 2 dJ7_fill_53178_5 rfl rfl ?_
  refine aw_iload_n 3 dJ7_fill_53178_6 rfl rfl ?_
  refine aw_jge 20 dJ7_fill_53178_7 (by decide) (fun c_1 => ?_) (fun c_1 => ?_)
  · have h := sw_if.f h c_1
    exact aw_vret rfl dJ7_fill_53178_20 ⟨rfl, rfl, h⟩
  · have h := sw_if.t h c_1
    refine aw_aload_n 0 dJ7_fill_53178_10 rfl rfl ?_
    refine aw_iload_n 2 dJ7_fill_53178_11 rfl rfl ?_
    refine aw_iload_n 1 dJ7_fill_53178_12 rfl rfl ?_
    obtain ⟨hi_2, h⟩ := h
    refine aw_ist dJ7_fill_53178_13 hb0.1 hb0.2 hi_2 (aw_nameI fun I_3 e_4 => ?_)
    have h := h I_3 e_4
    obtain ⟨y_5, e_6⟩ : ∃ q : Int32, q = x2 + 1 := ⟨_, rfl⟩
    have h := h y_5 e_6
    refine aw_iinc (lv' := [(2, .int y_5), (0, .ref (sz + b0)), (1, .int x1), (3, .int x3)]) 2 dJ7_fill_53178_14 rfl (by rw [e_6]; rfl) (by decide) rfl ?_
    refine aw_goto 5 dJ7_fill_53178_17 (by decide) ?_
    refine aw_sub [1, 2, 0, 3] rfl ?_
    exact hK5 x1 y_5 x3 I_3 J h
set_option maxRecDepth 20000 in
theorem tl_J7_fill_53178_5 {l : Launch} {D : va_G} {cy : Nat → ClassId} {sz : Nat} {G : sw_G} (hG : True) {b0 : Nat} {n0 : Nat} (hb0 : sw_ia G b0 n0) {Q : sw_I → sw_J → Prop} : ∀ (n : Nat) (x1 : Int32) (x2 : Int32) (x3 : Int32) (I : sw_I) (J : sw_J), wl_J7_fill_53178_5 b0 n0  Q n x1 x2 x3 I J → AW l D cy sz RJ7 cJ7_fill_53178 4 none false rm_J7_fill_53178 0 0 (sw_qv G Q) 0 0 G I J 5 [(0, .ref (sz + b0)), (1, .int x1), (2, .int x2), (3, .int x3)] [] := by
  intro n
  induction n with
  | zero => intro x1 x2 x3 I J h; exact False.elim h
  | succ n ih => intro x1 x2 x3 I J h; exact tb_J7_fill_53178_5 hG hb0 ih h
set_option maxRecDepth 20000 in
theorem t_J7_fill_53178 {l : Launch} {D : va_G} {cy : Nat → ClassId} {sz : Nat} {G : sw_G} (hG : True) {b0 : Nat} {n0 : Nat} (hb0 : sw_ia G b0 n0) {Q : sw_I → sw_J → Prop} {x1 : Int32} {I : sw_I} {J : sw_J} (h : wp_J7_fill_53178 b0 n0 x1 I J Q) : AW l D cy sz RJ7 cJ7_fill_53178 4 none false rm_J7_fill_53178 0 0 (sw_qv G Q) 0 0 G I J 0 [(0, .ref (sz + b0)), (1, .int x1)] [] := by
  unfold wp_J7_fill_53178 at h
  refine aw_iconst (v := 0) dJ7_fill_53178_0 (by decide) ?_
  refine aw_istore_n (lv' := [(2, .int 0), (0, .ref (sz + b0)), (1, .int x1)]) dJ7_fill_53178_1 rfl (by decide) rfl ?_
  refine aw_aload_n 1 dJ7_fill_53178_2 rfl rfl ?_
  refine aw_alen dJ7_fill_53178_3 hb0.1 hb0.2 ?_
  refine aw_topi (fun y_1 e_2 => ?_)
  have h := h y_1 e_2
  refine aw_istore_n (lv' := [(3, .int y_1), (2, .int 0), (0, .ref (sz + b0)), (1, .int x1)]) dJ7_fill_53178_4 rfl (by decide) rfl ?_
  refine aw_sub [2, 3, 1, 0] rfl ?_
  obtain ⟨n_3, h⟩ := h
  exact tl_J7_fill_53178_5 hG hb0  n_3 x1 0 y_1 I J h
theorem M_J7_fill_53178 {l : Launch} {D : va_G} {cy : Nat → ClassId} {sz : Nat} {G : sw_G} (hG : True) {b0 : Nat} {n0 : Nat} (hb0 : sw_ia G b0 n0) {Q : sw_I → sw_J → Prop} {x1 : Int32} {I : sw_I} {J : sw_J} (h : wp_J7_fill_53178 b0 n0 x1 I J Q) : Met l yJ7_fill_53178 (Cond.code yJ7_fill_53178 cJ7_fill_53178 4 none :: sw_T) rm_J7_fill_53178 (sw_Pc D cy sz [.ref (sz + b0), .int x1] G I J) (sw_Q D cy sz (sw_qv G Q)) 0 0 (fun q => sz ≤ q) :=
  sw_met (by decide) (fun q => by cases q) (Nat.le_of_ble_eq_true rfl) rfl (t_J7_fill_53178 hG hb0 h)
-- X10_readsThing
abbrev rm_X10_readsThing (d : Nat) : Room := { frames := 5 + d, cells := 0, slots := 0, locals := 107 + d * 23 }
def wB_X10_readsThing_80 (C_X10_readsThing : sw_I → sw_J → (Int32 → sw_I → sw_J → Prop) → Prop) (C_X10_readsRank : Int32 → sw_I → sw_J → (Int32 → sw_I → sw_J → Prop) → Prop)  (Q : Int32 → sw_I → sw_J → Prop) (x1 : Int32) (I : sw_I) (J : sw_J) : Prop :=
  wp_X10_codes x1 I J (fun I_2 J_3 => Q 1 I_2 J_3)
def wb_X10_readsThing_34 (C_X10_readsThing : sw_I → sw_J → (Int32 → sw_I → sw_J → Prop) → Prop) (C_X10_readsRank : Int32 → sw_I → sw_J → (Int32 → sw_I → sw_J → Prop) → Prop) (K34 : Int32 → Int32 → sw_I → sw_J → Prop) (Q : Int32 → sw_I → sw_J → Prop) (x1 : Int32) (x2 : Int32) (I : sw_I) (J : sw_J) : Prop :=
  sw_if (x2 < (3 : Int32)) (wp_X10_isDigit  I J (fun r_2 I_3 J_4 => sw_if (r_2 = 0) (wB_X10_readsThing_80 C_X10_readsThing C_X10_readsRank  Q x1 I_3 J_4) (vp_in (I_3 140 13) 80 ∧ ∀ y_7 : Int32, y_7 = (((10 : Int32) * x1) + (I_3 146 (I_3 140 13).toNatClampNeg)) - (48 : Int32) → ∀ I_9 : sw_I, I_9 = sw_up I_3 140 13 ((I_3 140 13) + (1 : Int32)) → ∀ y_11 : Int32, y_11 = x2 + 1 → K34 y_7 y_11 I_9 J_4))) (wB_X10_readsThing_80 C_X10_readsThing C_X10_readsRank  Q x1 I J)
def wl_X10_readsThing_34 (C_X10_readsThing : sw_I → sw_J → (Int32 → sw_I → sw_J → Prop) → Prop) (C_X10_readsRank : Int32 → sw_I → sw_J → (Int32 → sw_I → sw_J → Prop) → Prop)  (Q : Int32 → sw_I → sw_J → Prop) : Nat → Int32 → Int32 → sw_I → sw_J → Prop
  | 0 => fun _ _ _ _ => False
  | n + 1 => fun x1 x2 I J => wb_X10_readsThing_34 C_X10_readsThing C_X10_readsRank (wl_X10_readsThing_34 C_X10_readsThing C_X10_readsRank  Q n) Q x1 x2 I J
def wpb_X10_readsThing (C_X10_readsThing : sw_I → sw_J → (Int32 → sw_I → sw_J → Prop) → Prop) (C_X10_readsRank : Int32 → sw_I → sw_J → (Int32 → sw_I → sw_J → Prop) → Prop)  (I : sw_I) (J : sw_J) (Q : Int32 → sw_I → sw_J → Prop) : Prop :=
  wp_X10_takes 45 I J (fun r_1 I_2 J_3 => sw_if (r_1 = 0) (wp_X10_isDigit  I_2 J_3 (fun r_5 I_6 J_7 => sw_if (r_5 = 0) (wp_X10_among 0 I_6 J_7 (fun r_9 I_10 J_11 => sw_if (r_9 < 0) (sw_if ((I_10 140 15) = (4 : Int32)) (Q 0 I_10 J_11) (wp_X10_takes 40 I_10 J_11 (fun r_14 I_15 J_16 => sw_if (r_14 = 0) (Q 0 I_15 J_16) (∀ I_18 : sw_I, I_18 = sw_up I_15 140 15 ((I_15 140 15) + (1 : Int32)) → C_X10_readsRank 0 I_18 J_16 (fun r_20 I_21 J_22 => sw_if (r_20 = 0) (Q 0 I_21 J_22) (wp_X10_takes 41 I_21 J_22 (fun r_24 I_25 J_26 => sw_if (r_24 = 0) (Q 0 I_25 J_26) (∀ I_28 : sw_I, I_28 = sw_up I_25 140 15 ((I_25 140 15) - (1 : Int32)) → Q 1 I_28 J_26)))))))) (∀ I_30 : sw_I, I_30 = sw_up I_10 140 13 ((I_10 140 13) + (1 : Int32)) → wp_X10_codes ((1000 : Int32) + r_9) I_30 J_11 (fun I_33 J_34 => Q 1 I_33 J_34)))) (∃ n_35 : Nat, wl_X10_readsThing_34 C_X10_readsThing C_X10_readsRank  Q n_35 0 0 I_6 J_7))) (C_X10_readsThing  I_2 J_3 (fun r_36 I_37 J_38 => wp_X10_codes 3000 I_37 J_38 (fun I_40 J_41 => (r_36 = 0 ∨ r_36 = 1) ∧ Q r_36 I_40 J_41))))
def wB_X10_readsRank_119 (C_X10_readsThing : sw_I → sw_J → (Int32 → sw_I → sw_J → Prop) → Prop) (C_X10_readsRank : Int32 → sw_I → sw_J → (Int32 → sw_I → sw_J → Prop) → Prop) (K24 : Int32 → Int32 → sw_I → sw_J → Prop) (Q : Int32 → sw_I → sw_J → Prop) (x1 : Int32) (s0 : Int32) (I : sw_I) (J : sw_J) : Prop :=
  K24 x1 s0 I J
def wB_X10_readsRank_106 (C_X10_readsThing : sw_I → sw_J → (Int32 → sw_I → sw_J → Prop) → Prop) (C_X10_readsRank : Int32 → sw_I → sw_J → (Int32 → sw_I → sw_J → Prop) → Prop) (K24 : Int32 → Int32 → sw_I → sw_J → Prop) (Q : Int32 → sw_I → sw_J → Prop) (x1 : Int32) (s1 : Int32) (s2 : Int32) (I : sw_I) (J : sw_J) : Prop :=
  wp_X10_codes (s1 + s2) I J (fun I_2 J_3 => sw_if (0 < x1) (wB_X10_readsRank_119 C_X10_readsThing C_X10_readsRank K24 Q x1 1 I_2 J_3) (wB_X10_readsRank_119 C_X10_readsThing C_X10_readsRank K24 Q x1 0 I_2 J_3))
def wb_X10_readsRank_24 (C_X10_readsThing : sw_I → sw_J → (Int32 → sw_I → sw_J → Prop) → Prop) (C_X10_readsRank : Int32 → sw_I → sw_J → (Int32 → sw_I → sw_J → Prop) → Prop) (K24 : Int32 → Int32 → sw_I → sw_J → Prop) (Q : Int32 → sw_I → sw_J → Prop) (x1 : Int32) (x2 : Int32) (I : sw_I) (J : sw_J) : Prop :=
  sw_if (x2 = 0) (Q 1 I J) (sw_if (x1 = 0) (wp_X10_among 1 I J (fun r_28 I_29 J_30 => sw_if (r_28 < 0) (Q 1 I_29 J_30) (∀ I_32 : sw_I, I_32 = sw_up I_29 140 13 ((I_29 140 13) + (1 : Int32)) → C_X10_readsRank (x1 + (1 : Int32)) I_32 J_30 (fun r_34 I_35 J_36 => sw_if (r_34 = 0) (Q 0 I_35 J_36) (sw_if (x1 = 0) (wB_X10_readsRank_106 C_X10_readsThing C_X10_readsRank K24 Q x1 ((2000 : Int32) + r_28) 0 I_35 J_36) (sw_if (x1 = (1 : Int32)) (wB_X10_readsRank_106 C_X10_readsThing C_X10_readsRank K24 Q x1 ((2000 : Int32) + r_28) 3 I_35 J_36) (wB_X10_readsRank_106 C_X10_readsThing C_X10_readsRank K24 Q x1 ((2000 : Int32) + r_28) 5 I_35 J_36))))))) (sw_if (x1 = (1 : Int32)) (wp_X10_among 2 I J (fun r_16 I_17 J_18 => sw_if (r_16 < 0) (Q 1 I_17 J_18) (∀ I_20 : sw_I, I_20 = sw_up I_17 140 13 ((I_17 140 13) + (1 : Int32)) → C_X10_readsRank (x1 + (1 : Int32)) I_20 J_18 (fun r_22 I_23 J_24 => sw_if (r_22 = 0) (Q 0 I_23 J_24) (sw_if (x1 = 0) (wB_X10_readsRank_106 C_X10_readsThing C_X10_readsRank K24 Q x1 ((2000 : Int32) + r_16) 0 I_23 J_24) (sw_if (x1 = (1 : Int32)) (wB_X10_readsRank_106 C_X10_readsThing C_X10_readsRank K24 Q x1 ((2000 : Int32) + r_16) 3 I_23 J_24) (wB_X10_readsRank_106 C_X10_readsThing C_X10_readsRank K24 Q x1 ((2000 : Int32) + r_16) 5 I_23 J_24))))))) (wp_X10_among 3 I J (fun r_4 I_5 J_6 => sw_if (r_4 < 0) (Q 1 I_5 J_6) (∀ I_8 : sw_I, I_8 = sw_up I_5 140 13 ((I_5 140 13) + (1 : Int32)) → C_X10_readsRank (x1 + (1 : Int32)) I_8 J_6 (fun r_10 I_11 J_12 => sw_if (r_10 = 0) (Q 0 I_11 J_12) (sw_if (x1 = 0) (wB_X10_readsRank_106 C_X10_readsThing C_X10_readsRank K24 Q x1 ((2000 : Int32) + r_4) 0 I_11 J_12) (sw_if (x1 = (1 : Int32)) (wB_X10_readsRank_106 C_X10_readsThing C_X10_readsRank K24 Q x1 ((2000 : Int32) + r_4) 3 I_11 J_12) (wB_X10_readsRank_106 C_X10_readsThing C_X10_readsRank K24 Q x1 ((2000 : Int32) + r_4) 5 I_11 J_12)))))))))
def wl_X10_readsRank_24 (C_X10_readsThing : sw_I → sw_J → (Int32 → sw_I → sw_J → Prop) → Prop) (C_X10_readsRank : Int32 → sw_I → sw_J → (Int32 → sw_I → sw_J → Prop) → Prop)  (Q : Int32 → sw_I → sw_J → Prop) : Nat → Int32 → Int32 → sw_I → sw_J → Prop
  | 0 => fun _ _ _ _ => False
  | n + 1 => fun x1 x2 I J => wb_X10_readsRank_24 C_X10_readsThing C_X10_readsRank (wl_X10_readsRank_24 C_X10_readsThing C_X10_readsRank  Q n) Q x1 x2 I J
def wpb_X10_readsRank (C_X10_readsThing : sw_I → sw_J → (Int32 → sw_I → sw_J → Prop) → Prop) (C_X10_readsRank : Int32 → sw_I → sw_J → (Int32 → sw_I → sw_J → Prop) → Prop) (x1 : Int32) (I : sw_I) (J : sw_J) (Q : Int32 → sw_I → sw_J → Prop) : Prop :=
  sw_if (x1 = (3 : Int32)) (C_X10_readsThing  I J (fun r_7 I_8 J_9 => (r_7 = 0 ∨ r_7 = 1) ∧ Q r_7 I_8 J_9)) (C_X10_readsRank (x1 + (1 : Int32)) I J (fun r_2 I_3 J_4 => sw_if (r_2 = 0) (Q 0 I_3 J_4) (∃ n_6 : Nat, wl_X10_readsRank_24 C_X10_readsThing C_X10_readsRank  Q n_6 x1 1 I_3 J_4)))
set_option maxRecDepth 20000 in
theorem t_X10_readsThing_80 {l : Launch} {D : va_G} {cy : Nat → ClassId} {sz : Nat} {G : sw_G} (hG : sw_lay G) {C_X10_readsThing : sw_I → sw_J → (Int32 → sw_I → sw_J → Prop) → Prop} {C_X10_readsRank : Int32 → sw_I → sw_J → (Int32 → sw_I → sw_J → Prop) → Prop} {dd : Nat} (hC_X10_readsThing : ∀  {I : sw_I} {J : sw_J} {Q : Int32 → sw_I → sw_J → Prop}, C_X10_readsThing  I J Q → Met l yX10_readsThing (Cond.code yX10_readsThing cX10_readsThing 3 (some .boolean) :: sw_T) (rm_X10_readsThing dd) (sw_Pc D cy sz [.ref (sz + 140)] G I J) (sw_Q D cy sz (sw_qi G Q)) 0 0 (fun q => sz ≤ q)) (hC_X10_readsRank : ∀ {x1 : Int32} {I : sw_I} {J : sw_J} {Q : Int32 → sw_I → sw_J → Prop}, C_X10_readsRank x1 I J Q → Met l yX10_readsRank (Cond.code yX10_readsRank cX10_readsRank 4 (some .boolean) :: sw_T) (rm_X10_readsThing dd) (sw_Pc D cy sz [.ref (sz + 140), .int x1] G I J) (sw_Q D cy sz (sw_qi G Q)) 0 0 (fun q => sz ≤ q)) {Q : Int32 → sw_I → sw_J → Prop} {x1 : Int32} {I : sw_I} {J : sw_J} (h : wB_X10_readsThing_80 C_X10_readsThing C_X10_readsRank  Q x1 I J) : AW l D cy sz RX10 cX10_readsThing 3 (some .boolean) false (rm_X10_readsThing (dd + 1)) 0 0 (sw_qi G Q) 0 0 G I J 80 [(0, .ref (sz + 140)), (1, .int x1)] [] := by
  unfold wB_X10_readsThing_80 at h
  refine aw_aload_n 0 dX10_readsThing_80 rfl rfl ?_
  refine aw_iload_n 1 dX10_readsThing_81 rfl rfl ?_
  refine aw_callV wv_X10_codes (M_X10_codes hG  h) ml_X10_150 rfl (by decide) (lk140 hG) rfl rfl (Nat.le_of_ble_eq_true rfl) ⟨rfl, rfl⟩ ⟨by simp only [rm_X10_readsThing, rm_X10_codes]; omega, by simp only [rm_X10_readsThing, rm_X10_codes]; omega⟩ ⟨Nat.le_refl _, Nat.le_refl _⟩ dX10_readsThing_82 (aw_kv fun I_2 J_3 h => ?_)
  refine aw_iconst (v := 1) dX10_readsThing_85 (by decide) ?_
  exact aw_zret rfl rfl dX10_readsThing_86 ⟨rfl, _, rfl, h⟩
set_option maxRecDepth 20000 in
theorem tb_X10_readsThing_34 {l : Launch} {D : va_G} {cy : Nat → ClassId} {sz : Nat} {G : sw_G} (hG : sw_lay G) {C_X10_readsThing : sw_I → sw_J → (Int32 → sw_I → sw_J → Prop) → Prop} {C_X10_readsRank : Int32 → sw_I → sw_J → (Int32 → sw_I → sw_J → Prop) → Prop} {dd : Nat} (hC_X10_readsThing : ∀  {I : sw_I} {J : sw_J} {Q : Int32 → sw_I → sw_J → Prop}, C_X10_readsThing  I J Q → Met l yX10_readsThing (Cond.code yX10_readsThing cX10_readsThing 3 (some .boolean) :: sw_T) (rm_X10_readsThing dd) (sw_Pc D cy sz [.ref (sz + 140)] G I J) (sw_Q D cy sz (sw_qi G Q)) 0 0 (fun q => sz ≤ q)) (hC_X10_readsRank : ∀ {x1 : Int32} {I : sw_I} {J : sw_J} {Q : Int32 → sw_I → sw_J → Prop}, C_X10_readsRank x1 I J Q → Met l yX10_readsRank (Cond.code yX10_readsRank cX10_readsRank 4 (some .boolean) :: sw_T) (rm_X10_readsThing dd) (sw_Pc D cy sz [.ref (sz + 140), .int x1] G I J) (sw_Q D cy sz (sw_qi G Q)) 0 0 (fun q => sz ≤ q)) {Q : Int32 → sw_I → sw_J → Prop} {K34 : Int32 → Int32 → sw_I → sw_J → Prop} (hK34 : ∀ (x1 : Int32) (x2 : Int32) (I : sw_I) (J : sw_J), K34 x1 x2 I J → AW l D cy sz RX10 cX10_readsThing 3 (some .boolean) false (rm_X10_readsThing (dd + 1)) 0 0 (sw_qi G Q) 0 0 G I J 34 [(0, .ref (sz + 140)), (1, .int x1), (2, .int x2)] []) {x1 : Int32} {x2 : Int32} {I : sw_I} {J : sw_J} (h : wb_X10_readsThing_34 C_X10_readsThing C_X10_readsRank K34 Q x1 x2 I J) : AW l D cy sz RX10 cX10_readsThing 3 (some .boolean) false (rm_X10_readsThing (dd + 1)) 0 0 (sw_qi G Q) 0 0 G I J 34 [(0, .ref (sz + 140)), (1, .int x1), (2, .int x2)] [] := by
  unfold wb_X10_readsThing_34 at h
  refine aw_iload_n 2 dX10_readsThing_34 rfl rfl ?_
  refine aw_iconst (v := 3) dX10_readsThing_35 (by decide) ?_
  refine aw_jge 80 dX10_readsThing_36 (by decide) (fun c_1 => ?_) (fun c_1 => ?_)
  · have h := sw_if.f h c_1
    refine aw_sub [0, 1] rfl ?_
    exact t_X10_readsThing_80 hG hC_X10_readsThing hC_X10_readsRank  h
  · have h := sw_if.t h c_1
    refine aw_aload_n 0 dX10_readsThing_39 rfl rfl ?_
    refine aw_callV wv_X10_isDigit (M_X10_isDigit hG  h) ml_X10_91 rfl (by decide) (lk140 hG) rfl rfl (Nat.le_of_ble_eq_true rfl) ⟨rfl, rfl⟩ ⟨by simp only [rm_X10_readsThing, rm_X10_isDigit]; omega, by simp only [rm_X10_readsThing, rm_X10_isDigit]; omega⟩ ⟨Nat.le_refl _, Nat.le_refl _⟩ dX10_readsThing_40 (aw_ki fun r_2 I_3 J_4 h => ?_)
    refine aw_zeq 80 dX10_readsThing_43 (by decide) (fun c_5 => ?_) (fun c_5 => ?_)
    · have h := sw_if.t h c_5
      refine aw_sub [0, 1] rfl ?_
      exact t_X10_readsThing_80 hG hC_X10_readsThing hC_X10_readsRank  h
    · have h := sw_if.f h c_5
      refine aw_bipush (v := 10) dX10_readsThing_46 (by decide) ?_
      refine aw_iload_n 1 dX10_readsThing_48 rfl rfl ?_
      refine aw_imul dX10_readsThing_49 ?_
      refine aw_aload_n 0 dX10_readsThing_50 rfl rfl ?_
      refine gf_X10_11 fl_X10_35 (lk140 hG) (lr140_11 hG) dX10_readsThing_51 ?_
      refine aw_aload_n 0 dX10_readsThing_54 rfl rfl ?_
      refine gf_X10_13 fl_X10_39 (lk140 hG) dX10_readsThing_55 ?_
      obtain ⟨hi_6, h⟩ := h
      refine aw_ild dX10_readsThing_58 (lk146 hG) (ln146 hG) hi_6 ?_
      refine aw_iadd dX10_readsThing_59 ?_
      refine aw_bipush (v := 48) dX10_readsThing_60 (by decide) ?_
      refine aw_isub dX10_readsThing_62 ?_
      refine aw_topi (fun y_7 e_8 => ?_)
      have h := h y_7 e_8
      refine aw_istore_n (lv' := [(1, .int y_7), (0, .ref (sz + 140)), (2, .int x2)]) dX10_readsThing_63 rfl (by decide) rfl ?_
      refine aw_aload_n 1 dX10_readsThing_64 rfl rfl ?_
      refine aw_dup dX10_readsThing_65 rfl ?_
      refine gf_X10_13 fl_X10_39 (lk140 hG) dX10_readsThing_66 ?_
      refine aw_iconst (v := 1) dX10_readsThing_69 (by decide) ?_
      refine aw_iadd dX10_readsThing_70 ?_
      refine pf_X10_13 fl_X10_39 (lk140 hG) dX10_readsThing_71 (aw_nameI fun I_9 e_10 => ?_)
      have h := h I_9 e_10
      obtain ⟨y_11, e_12⟩ : ∃ q : Int32, q = x2 + 1 := ⟨_, rfl⟩
      have h := h y_11 e_12
      refine aw_iinc (lv' := [(2, .int y_11), (1, .int y_7), (0, .ref (sz + 140))]) 2 dX10_readsThing_74 rfl (by rw [e_12]; rfl) (by decide) rfl ?_
      refine aw_goto 34 dX10_readsThing_77 (by decide) ?_
      refine aw_sub [2, 1, 0] rfl ?_
      exact hK34 y_7 y_11 I_9 J_4 h
set_option maxRecDepth 20000 in
theorem tl_X10_readsThing_34 {l : Launch} {D : va_G} {cy : Nat → ClassId} {sz : Nat} {G : sw_G} (hG : sw_lay G) {C_X10_readsThing : sw_I → sw_J → (Int32 → sw_I → sw_J → Prop) → Prop} {C_X10_readsRank : Int32 → sw_I → sw_J → (Int32 → sw_I → sw_J → Prop) → Prop} {dd : Nat} (hC_X10_readsThing : ∀  {I : sw_I} {J : sw_J} {Q : Int32 → sw_I → sw_J → Prop}, C_X10_readsThing  I J Q → Met l yX10_readsThing (Cond.code yX10_readsThing cX10_readsThing 3 (some .boolean) :: sw_T) (rm_X10_readsThing dd) (sw_Pc D cy sz [.ref (sz + 140)] G I J) (sw_Q D cy sz (sw_qi G Q)) 0 0 (fun q => sz ≤ q)) (hC_X10_readsRank : ∀ {x1 : Int32} {I : sw_I} {J : sw_J} {Q : Int32 → sw_I → sw_J → Prop}, C_X10_readsRank x1 I J Q → Met l yX10_readsRank (Cond.code yX10_readsRank cX10_readsRank 4 (some .boolean) :: sw_T) (rm_X10_readsThing dd) (sw_Pc D cy sz [.ref (sz + 140), .int x1] G I J) (sw_Q D cy sz (sw_qi G Q)) 0 0 (fun q => sz ≤ q)) {Q : Int32 → sw_I → sw_J → Prop} : ∀ (n : Nat) (x1 : Int32) (x2 : Int32) (I : sw_I) (J : sw_J), wl_X10_readsThing_34 C_X10_readsThing C_X10_readsRank  Q n x1 x2 I J → AW l D cy sz RX10 cX10_readsThing 3 (some .boolean) false (rm_X10_readsThing (dd + 1)) 0 0 (sw_qi G Q) 0 0 G I J 34 [(0, .ref (sz + 140)), (1, .int x1), (2, .int x2)] [] := by
  intro n
  induction n with
  | zero => intro x1 x2 I J h; exact False.elim h
  | succ n ih => intro x1 x2 I J h; exact tb_X10_readsThing_34 hG hC_X10_readsThing hC_X10_readsRank ih h
set_option maxRecDepth 20000 in
theorem t_X10_readsThing {l : Launch} {D : va_G} {cy : Nat → ClassId} {sz : Nat} {G : sw_G} (hG : sw_lay G) {C_X10_readsThing : sw_I → sw_J → (Int32 → sw_I → sw_J → Prop) → Prop} {C_X10_readsRank : Int32 → sw_I → sw_J → (Int32 → sw_I → sw_J → Prop) → Prop} {dd : Nat} (hC_X10_readsThing : ∀  {I : sw_I} {J : sw_J} {Q : Int32 → sw_I → sw_J → Prop}, C_X10_readsThing  I J Q → Met l yX10_readsThing (Cond.code yX10_readsThing cX10_readsThing 3 (some .boolean) :: sw_T) (rm_X10_readsThing dd) (sw_Pc D cy sz [.ref (sz + 140)] G I J) (sw_Q D cy sz (sw_qi G Q)) 0 0 (fun q => sz ≤ q)) (hC_X10_readsRank : ∀ {x1 : Int32} {I : sw_I} {J : sw_J} {Q : Int32 → sw_I → sw_J → Prop}, C_X10_readsRank x1 I J Q → Met l yX10_readsRank (Cond.code yX10_readsRank cX10_readsRank 4 (some .boolean) :: sw_T) (rm_X10_readsThing dd) (sw_Pc D cy sz [.ref (sz + 140), .int x1] G I J) (sw_Q D cy sz (sw_qi G Q)) 0 0 (fun q => sz ≤ q)) {Q : Int32 → sw_I → sw_J → Prop}  {I : sw_I} {J : sw_J} (h : wpb_X10_readsThing C_X10_readsThing C_X10_readsRank  I J Q) : AW l D cy sz RX10 cX10_readsThing 3 (some .boolean) false (rm_X10_readsThing (dd + 1)) 0 0 (sw_qi G Q) 0 0 G I J 0 [(0, .ref (sz + 140))] [] := by
  unfold wpb_X10_readsThing at h
  refine aw_aload_n 0 dX10_readsThing_0 rfl rfl ?_
  refine aw_bipush (v := 45) dX10_readsThing_1 (by decide) ?_
  refine aw_callV wv_X10_takes (M_X10_takes hG  h) ml_X10_108 rfl (by decide) (lk140 hG) rfl rfl (Nat.le_of_ble_eq_true rfl) ⟨rfl, rfl⟩ ⟨by simp only [rm_X10_readsThing, rm_X10_takes]; omega, by simp only [rm_X10_readsThing, rm_X10_takes]; omega⟩ ⟨Nat.le_refl _, Nat.le_refl _⟩ dX10_readsThing_3 (aw_ki fun r_1 I_2 J_3 h => ?_)
  refine aw_zeq 23 dX10_readsThing_6 (by decide) (fun c_4 => ?_) (fun c_4 => ?_)
  · have h := sw_if.t h c_4
    refine aw_aload_n 0 dX10_readsThing_23 rfl rfl ?_
    refine aw_callV wv_X10_isDigit (M_X10_isDigit hG  h) ml_X10_91 rfl (by decide) (lk140 hG) rfl rfl (Nat.le_of_ble_eq_true rfl) ⟨rfl, rfl⟩ ⟨by simp only [rm_X10_readsThing, rm_X10_isDigit]; omega, by simp only [rm_X10_readsThing, rm_X10_isDigit]; omega⟩ ⟨Nat.le_refl _, Nat.le_refl _⟩ dX10_readsThing_24 (aw_ki fun r_5 I_6 J_7 h => ?_)
    refine aw_zeq 87 dX10_readsThing_27 (by decide) (fun c_8 => ?_) (fun c_8 => ?_)
    · have h := sw_if.t h c_8
      refine aw_aload_n 0 dX10_readsThing_87 rfl rfl ?_
      refine aw_ldcS (i := 0) rfl (by decide) rfl sw_sr0 dX10_readsThing_88 ?_
      refine aw_callV wv_X10_among (M_X10_among hG (by decide) h) ml_X10_156 rfl (by decide) (lk140 hG) rfl rfl (Nat.le_of_ble_eq_true rfl) ⟨rfl, rfl⟩ ⟨by simp only [rm_X10_readsThing, rm_X10_among]; omega, by simp only [rm_X10_readsThing, rm_X10_among]; omega⟩ ⟨Nat.le_refl _, Nat.le_refl _⟩ dX10_readsThing_90 (aw_ki fun r_9 I_10 J_11 h => ?_)
      refine aw_istore_n (lv' := [(1, .int r_9), (0, .ref (sz + 140))]) dX10_readsThing_93 rfl (by decide) rfl ?_
      refine aw_iload_n 0 dX10_readsThing_94 rfl rfl ?_
      refine aw_zlt 119 dX10_readsThing_95 (by decide) (fun c_12 => ?_) (fun c_12 => ?_)
      · have h := sw_if.t h c_12
        refine aw_aload_n 1 dX10_readsThing_119 rfl rfl ?_
        refine gf_X10_15 fl_X10_42 (lk140 hG) dX10_readsThing_120 ?_
        refine aw_iconst (v := 4) dX10_readsThing_123 (by decide) ?_
        refine aw_jeq 136 dX10_readsThing_124 (by decide) (fun c_13 => ?_) (fun c_13 => ?_)
        · have h := sw_if.t h c_13
          refine aw_iconst (v := 0) dX10_readsThing_136 (by decide) ?_
          exact aw_zret rfl rfl dX10_readsThing_137 ⟨rfl, _, rfl, h⟩
        · have h := sw_if.f h c_13
          refine aw_aload_n 1 dX10_readsThing_127 rfl rfl ?_
          refine aw_bipush (v := 40) dX10_readsThing_128 (by decide) ?_
          refine aw_callV wv_X10_takes (M_X10_takes hG  h) ml_X10_108 rfl (by decide) (lk140 hG) rfl rfl (Nat.le_of_ble_eq_true rfl) ⟨rfl, rfl⟩ ⟨by simp only [rm_X10_readsThing, rm_X10_takes]; omega, by simp only [rm_X10_readsThing, rm_X10_takes]; omega⟩ ⟨Nat.le_refl _, Nat.le_refl _⟩ dX10_readsThing_130 (aw_ki fun r_14 I_15 J_16 h => ?_)
          refine aw_zne 138 dX10_readsThing_133 (by decide) (fun c_17 => ?_) (fun c_17 => ?_)
          · have h := sw_if.f h c_17
            refine aw_aload_n 1 dX10_readsThing_138 rfl rfl ?_
            refine aw_dup dX10_readsThing_139 rfl ?_
            refine gf_X10_15 fl_X10_42 (lk140 hG) dX10_readsThing_140 ?_
            refine aw_iconst (v := 1) dX10_readsThing_143 (by decide) ?_
            refine aw_iadd dX10_readsThing_144 ?_
            refine pf_X10_15 fl_X10_42 (lk140 hG) dX10_readsThing_145 (aw_nameI fun I_18 e_19 => ?_)
            have h := h I_18 e_19
            refine aw_aload_n 1 dX10_readsThing_148 rfl rfl ?_
            refine aw_iconst (v := 0) dX10_readsThing_149 (by decide) ?_
            refine aw_callV wv_X10_readsRank (hC_X10_readsRank h) ml_X10_160 rfl (by decide) (lk140 hG) rfl rfl (Nat.le_of_ble_eq_true rfl) ⟨rfl, rfl⟩ ⟨by simp only [rm_X10_readsThing]; omega, by simp only [rm_X10_readsThing]; omega⟩ ⟨Nat.le_refl _, Nat.le_refl _⟩ dX10_readsThing_150 (aw_ki fun r_20 I_21 J_22 h => ?_)
            refine aw_zeq 165 dX10_readsThing_153 (by decide) (fun c_23 => ?_) (fun c_23 => ?_)
            · have h := sw_if.t h c_23
              refine aw_iconst (v := 0) dX10_readsThing_165 (by decide) ?_
              exact aw_zret rfl rfl dX10_readsThing_166 ⟨rfl, _, rfl, h⟩
            · have h := sw_if.f h c_23
              refine aw_aload_n 1 dX10_readsThing_156 rfl rfl ?_
              refine aw_bipush (v := 41) dX10_readsThing_157 (by decide) ?_
              refine aw_callV wv_X10_takes (M_X10_takes hG  h) ml_X10_108 rfl (by decide) (lk140 hG) rfl rfl (Nat.le_of_ble_eq_true rfl) ⟨rfl, rfl⟩ ⟨by simp only [rm_X10_readsThing, rm_X10_takes]; omega, by simp only [rm_X10_readsThing, rm_X10_takes]; omega⟩ ⟨Nat.le_refl _, Nat.le_refl _⟩ dX10_readsThing_159 (aw_ki fun r_24 I_25 J_26 h => ?_)
              refine aw_zne 167 dX10_readsThing_162 (by decide) (fun c_27 => ?_) (fun c_27 => ?_)
              · have h := sw_if.f h c_27
                refine aw_aload_n 1 dX10_readsThing_167 rfl rfl ?_
                refine aw_dup dX10_readsThing_168 rfl ?_
                refine gf_X10_15 fl_X10_42 (lk140 hG) dX10_readsThing_169 ?_
                refine aw_iconst (v := 1) dX10_readsThing_172 (by decide) ?_
                refine aw_isub dX10_readsThing_173 ?_
                refine pf_X10_15 fl_X10_42 (lk140 hG) dX10_readsThing_174 (aw_nameI fun I_28 e_29 => ?_)
                have h := h I_28 e_29
                refine aw_iconst (v := 1) dX10_readsThing_177 (by decide) ?_
                exact aw_zret rfl rfl dX10_readsThing_178 ⟨rfl, _, rfl, h⟩
              · have h := sw_if.t h c_27
                refine aw_iconst (v := 0) dX10_readsThing_165 (by decide) ?_
                exact aw_zret rfl rfl dX10_readsThing_166 ⟨rfl, _, rfl, h⟩
          · have h := sw_if.t h c_17
            refine aw_iconst (v := 0) dX10_readsThing_136 (by decide) ?_
            exact aw_zret rfl rfl dX10_readsThing_137 ⟨rfl, _, rfl, h⟩
      · have h := sw_if.f h c_12
        refine aw_aload_n 1 dX10_readsThing_98 rfl rfl ?_
        refine aw_dup dX10_readsThing_99 rfl ?_
        refine gf_X10_13 fl_X10_39 (lk140 hG) dX10_readsThing_100 ?_
        refine aw_iconst (v := 1) dX10_readsThing_103 (by decide) ?_
        refine aw_iadd dX10_readsThing_104 ?_
        refine pf_X10_13 fl_X10_39 (lk140 hG) dX10_readsThing_105 (aw_nameI fun I_30 e_31 => ?_)
        have h := h I_30 e_31
        refine aw_aload_n 1 dX10_readsThing_108 rfl rfl ?_
        refine aw_sipush (v := 1000) dX10_readsThing_109 (by decide) ?_
        refine aw_iload_n 0 dX10_readsThing_112 rfl rfl ?_
        refine aw_iadd dX10_readsThing_113 ?_
        refine aw_callV wv_X10_codes (M_X10_codes hG  h) ml_X10_150 rfl (by decide) (lk140 hG) rfl rfl (Nat.le_of_ble_eq_true rfl) ⟨rfl, rfl⟩ ⟨by simp only [rm_X10_readsThing, rm_X10_codes]; omega, by simp only [rm_X10_readsThing, rm_X10_codes]; omega⟩ ⟨Nat.le_refl _, Nat.le_refl _⟩ dX10_readsThing_114 (aw_kv fun I_33 J_34 h => ?_)
        refine aw_iconst (v := 1) dX10_readsThing_117 (by decide) ?_
        exact aw_zret rfl rfl dX10_readsThing_118 ⟨rfl, _, rfl, h⟩
    · have h := sw_if.f h c_8
      refine aw_iconst (v := 0) dX10_readsThing_30 (by decide) ?_
      refine aw_istore_n (lv' := [(1, .int 0), (0, .ref (sz + 140))]) dX10_readsThing_31 rfl (by decide) rfl ?_
      refine aw_iconst (v := 0) dX10_readsThing_32 (by decide) ?_
      refine aw_istore_n (lv' := [(2, .int 0), (1, .int 0), (0, .ref (sz + 140))]) dX10_readsThing_33 rfl (by decide) rfl ?_
      refine aw_sub [2, 1, 0] rfl ?_
      obtain ⟨n_35, h⟩ := h
      exact tl_X10_readsThing_34 hG hC_X10_readsThing hC_X10_readsRank  n_35 0 0 I_6 J_7 h
  · have h := sw_if.f h c_4
    refine aw_aload_n 0 dX10_readsThing_9 rfl rfl ?_
    refine aw_callV wv_X10_readsThing (hC_X10_readsThing h) ml_X10_147 rfl (by decide) (lk140 hG) rfl rfl (Nat.le_of_ble_eq_true rfl) ⟨rfl, rfl⟩ ⟨by simp only [rm_X10_readsThing]; omega, by simp only [rm_X10_readsThing]; omega⟩ ⟨Nat.le_refl _, Nat.le_refl _⟩ dX10_readsThing_10 (aw_ki fun r_36 I_37 J_38 h => ?_)
    refine aw_istore_n (lv' := [(1, .int r_36), (0, .ref (sz + 140))]) dX10_readsThing_13 rfl (by decide) rfl ?_
    refine aw_aload_n 1 dX10_readsThing_14 rfl rfl ?_
    refine aw_sipush (v := 3000) dX10_readsThing_15 (by decide) ?_
    refine aw_callV wv_X10_codes (M_X10_codes hG  h) ml_X10_150 rfl (by decide) (lk140 hG) rfl rfl (Nat.le_of_ble_eq_true rfl) ⟨rfl, rfl⟩ ⟨by simp only [rm_X10_readsThing, rm_X10_codes]; omega, by simp only [rm_X10_readsThing, rm_X10_codes]; omega⟩ ⟨Nat.le_refl _, Nat.le_refl _⟩ dX10_readsThing_18 (aw_kv fun I_40 J_41 h => ?_)
    refine aw_iload_n 0 dX10_readsThing_21 rfl rfl ?_
    exact aw_zret rfl (sw_bool h.1).1 dX10_readsThing_22 ⟨rfl, _, rfl, h.2⟩
set_option maxRecDepth 20000 in
theorem t_X10_readsRank_119 {l : Launch} {D : va_G} {cy : Nat → ClassId} {sz : Nat} {G : sw_G} (hG : sw_lay G) {C_X10_readsThing : sw_I → sw_J → (Int32 → sw_I → sw_J → Prop) → Prop} {C_X10_readsRank : Int32 → sw_I → sw_J → (Int32 → sw_I → sw_J → Prop) → Prop} {dd : Nat} (hC_X10_readsThing : ∀  {I : sw_I} {J : sw_J} {Q : Int32 → sw_I → sw_J → Prop}, C_X10_readsThing  I J Q → Met l yX10_readsThing (Cond.code yX10_readsThing cX10_readsThing 3 (some .boolean) :: sw_T) (rm_X10_readsThing dd) (sw_Pc D cy sz [.ref (sz + 140)] G I J) (sw_Q D cy sz (sw_qi G Q)) 0 0 (fun q => sz ≤ q)) (hC_X10_readsRank : ∀ {x1 : Int32} {I : sw_I} {J : sw_J} {Q : Int32 → sw_I → sw_J → Prop}, C_X10_readsRank x1 I J Q → Met l yX10_readsRank (Cond.code yX10_readsRank cX10_readsRank 4 (some .boolean) :: sw_T) (rm_X10_readsThing dd) (sw_Pc D cy sz [.ref (sz + 140), .int x1] G I J) (sw_Q D cy sz (sw_qi G Q)) 0 0 (fun q => sz ≤ q)) {Q : Int32 → sw_I → sw_J → Prop} {K24 : Int32 → Int32 → sw_I → sw_J → Prop} (hK24 : ∀ (x1 : Int32) (x2 : Int32) (I : sw_I) (J : sw_J), K24 x1 x2 I J → AW l D cy sz RX10 cX10_readsRank 4 (some .boolean) false (rm_X10_readsThing (dd + 1)) 0 0 (sw_qi G Q) 0 0 G I J 24 [(0, .ref (sz + 140)), (1, .int x1), (2, .int x2)] []) {x1 : Int32} {s0 : Int32} {I : sw_I} {J : sw_J} (h : wB_X10_readsRank_119 C_X10_readsThing C_X10_readsRank K24 Q x1 s0 I J) : AW l D cy sz RX10 cX10_readsRank 4 (some .boolean) false (rm_X10_readsThing (dd + 1)) 0 0 (sw_qi G Q) 0 0 G I J 119 [(0, .ref (sz + 140)), (1, .int x1)] [.int s0] := by
  unfold wB_X10_readsRank_119 at h
  refine aw_istore_n (lv' := [(2, .int s0), (0, .ref (sz + 140)), (1, .int x1)]) dX10_readsRank_119 rfl (by decide) rfl ?_
  refine aw_goto 24 dX10_readsRank_120 (by decide) ?_
  refine aw_sub [1, 2, 0] rfl ?_
  exact hK24 x1 s0 I J h
set_option maxRecDepth 20000 in
theorem t_X10_readsRank_106 {l : Launch} {D : va_G} {cy : Nat → ClassId} {sz : Nat} {G : sw_G} (hG : sw_lay G) {C_X10_readsThing : sw_I → sw_J → (Int32 → sw_I → sw_J → Prop) → Prop} {C_X10_readsRank : Int32 → sw_I → sw_J → (Int32 → sw_I → sw_J → Prop) → Prop} {dd : Nat} (hC_X10_readsThing : ∀  {I : sw_I} {J : sw_J} {Q : Int32 → sw_I → sw_J → Prop}, C_X10_readsThing  I J Q → Met l yX10_readsThing (Cond.code yX10_readsThing cX10_readsThing 3 (some .boolean) :: sw_T) (rm_X10_readsThing dd) (sw_Pc D cy sz [.ref (sz + 140)] G I J) (sw_Q D cy sz (sw_qi G Q)) 0 0 (fun q => sz ≤ q)) (hC_X10_readsRank : ∀ {x1 : Int32} {I : sw_I} {J : sw_J} {Q : Int32 → sw_I → sw_J → Prop}, C_X10_readsRank x1 I J Q → Met l yX10_readsRank (Cond.code yX10_readsRank cX10_readsRank 4 (some .boolean) :: sw_T) (rm_X10_readsThing dd) (sw_Pc D cy sz [.ref (sz + 140), .int x1] G I J) (sw_Q D cy sz (sw_qi G Q)) 0 0 (fun q => sz ≤ q)) {Q : Int32 → sw_I → sw_J → Prop} {K24 : Int32 → Int32 → sw_I → sw_J → Prop} (hK24 : ∀ (x1 : Int32) (x2 : Int32) (I : sw_I) (J : sw_J), K24 x1 x2 I J → AW l D cy sz RX10 cX10_readsRank 4 (some .boolean) false (rm_X10_readsThing (dd + 1)) 0 0 (sw_qi G Q) 0 0 G I J 24 [(0, .ref (sz + 140)), (1, .int x1), (2, .int x2)] []) {x1 : Int32} {s1 : Int32} {s2 : Int32} {I : sw_I} {J : sw_J} (h : wB_X10_readsRank_106 C_X10_readsThing C_X10_readsRank K24 Q x1 s1 s2 I J) : AW l D cy sz RX10 cX10_readsRank 4 (some .boolean) false (rm_X10_readsThing (dd + 1)) 0 0 (sw_qi G Q) 0 0 G I J 106 [(0, .ref (sz + 140)), (1, .int x1)] [.int s2, .int s1, .ref (sz + 140)] := by
  unfold wB_X10_readsRank_106 at h
  refine aw_iadd dX10_readsRank_106 ?_
  refine aw_callV wv_X10_codes (M_X10_codes hG  h) ml_X10_150 rfl (by decide) (lk140 hG) rfl rfl (Nat.le_of_ble_eq_true rfl) ⟨rfl, rfl⟩ ⟨by simp only [rm_X10_readsThing, rm_X10_codes]; omega, by simp only [rm_X10_readsThing, rm_X10_codes]; omega⟩ ⟨Nat.le_refl _, Nat.le_refl _⟩ dX10_readsRank_107 (aw_kv fun I_2 J_3 h => ?_)
  refine aw_iload_n 1 dX10_readsRank_110 rfl rfl ?_
  refine aw_zle 118 dX10_readsRank_111 (by decide) (fun c_4 => ?_) (fun c_4 => ?_)
  · have h := sw_if.f h c_4
    refine aw_iconst (v := 0) dX10_readsRank_118 (by decide) ?_
    refine aw_sub [0, 1] rfl ?_
    exact t_X10_readsRank_119 hG hC_X10_readsThing hC_X10_readsRank hK24 h
  · have h := sw_if.t h c_4
    refine aw_iconst (v := 1) dX10_readsRank_114 (by decide) ?_
    refine aw_goto 119 dX10_readsRank_115 (by decide) ?_
    refine aw_sub [0, 1] rfl ?_
    exact t_X10_readsRank_119 hG hC_X10_readsThing hC_X10_readsRank hK24 h
set_option maxRecDepth 20000 in
theorem tb_X10_readsRank_24 {l : Launch} {D : va_G} {cy : Nat → ClassId} {sz : Nat} {G : sw_G} (hG : sw_lay G) {C_X10_readsThing : sw_I → sw_J → (Int32 → sw_I → sw_J → Prop) → Prop} {C_X10_readsRank : Int32 → sw_I → sw_J → (Int32 → sw_I → sw_J → Prop) → Prop} {dd : Nat} (hC_X10_readsThing : ∀  {I : sw_I} {J : sw_J} {Q : Int32 → sw_I → sw_J → Prop}, C_X10_readsThing  I J Q → Met l yX10_readsThing (Cond.code yX10_readsThing cX10_readsThing 3 (some .boolean) :: sw_T) (rm_X10_readsThing dd) (sw_Pc D cy sz [.ref (sz + 140)] G I J) (sw_Q D cy sz (sw_qi G Q)) 0 0 (fun q => sz ≤ q)) (hC_X10_readsRank : ∀ {x1 : Int32} {I : sw_I} {J : sw_J} {Q : Int32 → sw_I → sw_J → Prop}, C_X10_readsRank x1 I J Q → Met l yX10_readsRank (Cond.code yX10_readsRank cX10_readsRank 4 (some .boolean) :: sw_T) (rm_X10_readsThing dd) (sw_Pc D cy sz [.ref (sz + 140), .int x1] G I J) (sw_Q D cy sz (sw_qi G Q)) 0 0 (fun q => sz ≤ q)) {Q : Int32 → sw_I → sw_J → Prop} {K24 : Int32 → Int32 → sw_I → sw_J → Prop} (hK24 : ∀ (x1 : Int32) (x2 : Int32) (I : sw_I) (J : sw_J), K24 x1 x2 I J → AW l D cy sz RX10 cX10_readsRank 4 (some .boolean) false (rm_X10_readsThing (dd + 1)) 0 0 (sw_qi G Q) 0 0 G I J 24 [(0, .ref (sz + 140)), (1, .int x1), (2, .int x2)] []) {x1 : Int32} {x2 : Int32} {I : sw_I} {J : sw_J} (h : wb_X10_readsRank_24 C_X10_readsThing C_X10_readsRank K24 Q x1 x2 I J) : AW l D cy sz RX10 cX10_readsRank 4 (some .boolean) false (rm_X10_readsThing (dd + 1)) 0 0 (sw_qi G Q) 0 0 G I J 24 [(0, .ref (sz + 140)), (1, .int x1), (2, .int x2)] [] := by
  unfold wb_X10_readsRank_24 at h
  refine aw_iload_n 2 dX10_readsRank_24 rfl rfl ?_
  refine aw_zeq 123 dX10_readsRank_25 (by decide) (fun c_1 => ?_) (fun c_1 => ?_)
  · have h := sw_if.t h c_1
    refine aw_iconst (v := 1) dX10_readsRank_123 (by decide) ?_
    exact aw_zret rfl rfl dX10_readsRank_124 ⟨rfl, _, rfl, h⟩
  · have h := sw_if.f h c_1
    refine aw_aload_n 0 dX10_readsRank_28 rfl rfl ?_
    refine aw_iload_n 1 dX10_readsRank_29 rfl rfl ?_
    refine aw_zne 38 dX10_readsRank_30 (by decide) (fun c_2 => ?_) (fun c_2 => ?_)
    · have h := sw_if.f h c_2
      refine aw_iload_n 1 dX10_readsRank_38 rfl rfl ?_
      refine aw_iconst (v := 1) dX10_readsRank_39 (by decide) ?_
      refine aw_jne 48 dX10_readsRank_40 (by decide) (fun c_3 => ?_) (fun c_3 => ?_)
      · have h := sw_if.f h c_3
        refine aw_ldcS (i := 3) rfl (by decide) rfl sw_sr3 dX10_readsRank_48 ?_
        refine aw_callV wv_X10_among (M_X10_among hG (by decide) h) ml_X10_156 rfl (by decide) (lk140 hG) rfl rfl (Nat.le_of_ble_eq_true rfl) ⟨rfl, rfl⟩ ⟨by simp only [rm_X10_readsThing, rm_X10_among]; omega, by simp only [rm_X10_readsThing, rm_X10_among]; omega⟩ ⟨Nat.le_refl _, Nat.le_refl _⟩ dX10_readsRank_50 (aw_ki fun r_4 I_5 J_6 h => ?_)
        refine aw_istore_n (lv' := [(3, .int r_4), (0, .ref (sz + 140)), (1, .int x1), (2, .int x2)]) dX10_readsRank_53 rfl (by decide) rfl ?_
        refine aw_iload_n 0 dX10_readsRank_54 rfl rfl ?_
        refine aw_zge 60 dX10_readsRank_55 (by decide) (fun c_7 => ?_) (fun c_7 => ?_)
        · have h := sw_if.f h c_7
          refine aw_aload_n 1 dX10_readsRank_60 rfl rfl ?_
          refine aw_dup dX10_readsRank_61 rfl ?_
          refine gf_X10_13 fl_X10_39 (lk140 hG) dX10_readsRank_62 ?_
          refine aw_iconst (v := 1) dX10_readsRank_65 (by decide) ?_
          refine aw_iadd dX10_readsRank_66 ?_
          refine pf_X10_13 fl_X10_39 (lk140 hG) dX10_readsRank_67 (aw_nameI fun I_8 e_9 => ?_)
          have h := h I_8 e_9
          refine aw_aload_n 1 dX10_readsRank_70 rfl rfl ?_
          refine aw_iload_n 2 dX10_readsRank_71 rfl rfl ?_
          refine aw_iconst (v := 1) dX10_readsRank_72 (by decide) ?_
          refine aw_iadd dX10_readsRank_73 ?_
          refine aw_callV wv_X10_readsRank (hC_X10_readsRank h) ml_X10_160 rfl (by decide) (lk140 hG) rfl rfl (Nat.le_of_ble_eq_true rfl) ⟨rfl, rfl⟩ ⟨by simp only [rm_X10_readsThing]; omega, by simp only [rm_X10_readsThing]; omega⟩ ⟨Nat.le_refl _, Nat.le_refl _⟩ dX10_readsRank_74 (aw_ki fun r_10 I_11 J_12 h => ?_)
          refine aw_zne 82 dX10_readsRank_77 (by decide) (fun c_13 => ?_) (fun c_13 => ?_)
          · have h := sw_if.f h c_13
            refine aw_aload_n 1 dX10_readsRank_82 rfl rfl ?_
            refine aw_sipush (v := 2000) dX10_readsRank_83 (by decide) ?_
            refine aw_iload_n 0 dX10_readsRank_86 rfl rfl ?_
            refine aw_iadd dX10_readsRank_87 ?_
            refine aw_iload_n 2 dX10_readsRank_88 rfl rfl ?_
            refine aw_zne 96 dX10_readsRank_89 (by decide) (fun c_14 => ?_) (fun c_14 => ?_)
            · have h := sw_if.f h c_14
              refine aw_iload_n 2 dX10_readsRank_96 rfl rfl ?_
              refine aw_iconst (v := 1) dX10_readsRank_97 (by decide) ?_
              refine aw_jne 105 dX10_readsRank_98 (by decide) (fun c_15 => ?_) (fun c_15 => ?_)
              · have h := sw_if.f h c_15
                refine aw_iconst (v := 5) dX10_readsRank_105 (by decide) ?_
                refine aw_sub [1, 2] rfl ?_
                exact t_X10_readsRank_106 hG hC_X10_readsThing hC_X10_readsRank hK24 h
              · have h := sw_if.t h c_15
                refine aw_iconst (v := 3) dX10_readsRank_101 (by decide) ?_
                refine aw_goto 106 dX10_readsRank_102 (by decide) ?_
                refine aw_sub [1, 2] rfl ?_
                exact t_X10_readsRank_106 hG hC_X10_readsThing hC_X10_readsRank hK24 h
            · have h := sw_if.t h c_14
              refine aw_iconst (v := 0) dX10_readsRank_92 (by decide) ?_
              refine aw_goto 106 dX10_readsRank_93 (by decide) ?_
              refine aw_sub [1, 2] rfl ?_
              exact t_X10_readsRank_106 hG hC_X10_readsThing hC_X10_readsRank hK24 h
          · have h := sw_if.t h c_13
            refine aw_iconst (v := 0) dX10_readsRank_80 (by decide) ?_
            exact aw_zret rfl rfl dX10_readsRank_81 ⟨rfl, _, rfl, h⟩
        · have h := sw_if.t h c_7
          refine aw_iconst (v := 1) dX10_readsRank_58 (by decide) ?_
          exact aw_zret rfl rfl dX10_readsRank_59 ⟨rfl, _, rfl, h⟩
      · have h := sw_if.t h c_3
        refine aw_ldcS (i := 2) rfl (by decide) rfl sw_sr2 dX10_readsRank_43 ?_
        refine aw_goto 50 dX10_readsRank_45 (by decide) ?_
        refine aw_callV wv_X10_among (M_X10_among hG (by decide) h) ml_X10_156 rfl (by decide) (lk140 hG) rfl rfl (Nat.le_of_ble_eq_true rfl) ⟨rfl, rfl⟩ ⟨by simp only [rm_X10_readsThing, rm_X10_among]; omega, by simp only [rm_X10_readsThing, rm_X10_among]; omega⟩ ⟨Nat.le_refl _, Nat.le_refl _⟩ dX10_readsRank_50 (aw_ki fun r_16 I_17 J_18 h => ?_)
        refine aw_istore_n (lv' := [(3, .int r_16), (0, .ref (sz + 140)), (1, .int x1), (2, .int x2)]) dX10_readsRank_53 rfl (by decide) rfl ?_
        refine aw_iload_n 0 dX10_readsRank_54 rfl rfl ?_
        refine aw_zge 60 dX10_readsRank_55 (by decide) (fun c_19 => ?_) (fun c_19 => ?_)
        · have h := sw_if.f h c_19
          refine aw_aload_n 1 dX10_readsRank_60 rfl rfl ?_
          refine aw_dup dX10_readsRank_61 rfl ?_
          refine gf_X10_13 fl_X10_39 (lk140 hG) dX10_readsRank_62 ?_
          refine aw_iconst (v := 1) dX10_readsRank_65 (by decide) ?_
          refine aw_iadd dX10_readsRank_66 ?_
          refine pf_X10_13 fl_X10_39 (lk140 hG) dX10_readsRank_67 (aw_nameI fun I_20 e_21 => ?_)
          have h := h I_20 e_21
          refine aw_aload_n 1 dX10_readsRank_70 rfl rfl ?_
          refine aw_iload_n 2 dX10_readsRank_71 rfl rfl ?_
          refine aw_iconst (v := 1) dX10_readsRank_72 (by decide) ?_
          refine aw_iadd dX10_readsRank_73 ?_
          refine aw_callV wv_X10_readsRank (hC_X10_readsRank h) ml_X10_160 rfl (by decide) (lk140 hG) rfl rfl (Nat.le_of_ble_eq_true rfl) ⟨rfl, rfl⟩ ⟨by simp only [rm_X10_readsThing]; omega, by simp only [rm_X10_readsThing]; omega⟩ ⟨Nat.le_refl _, Nat.le_refl _⟩ dX10_readsRank_74 (aw_ki fun r_22 I_23 J_24 h => ?_)
          refine aw_zne 82 dX10_readsRank_77 (by decide) (fun c_25 => ?_) (fun c_25 => ?_)
          · have h := sw_if.f h c_25
            refine aw_aload_n 1 dX10_readsRank_82 rfl rfl ?_
            refine aw_sipush (v := 2000) dX10_readsRank_83 (by decide) ?_
            refine aw_iload_n 0 dX10_readsRank_86 rfl rfl ?_
            refine aw_iadd dX10_readsRank_87 ?_
            refine aw_iload_n 2 dX10_readsRank_88 rfl rfl ?_
            refine aw_zne 96 dX10_readsRank_89 (by decide) (fun c_26 => ?_) (fun c_26 => ?_)
            · have h := sw_if.f h c_26
              refine aw_iload_n 2 dX10_readsRank_96 rfl rfl ?_
              refine aw_iconst (v := 1) dX10_readsRank_97 (by decide) ?_
              refine aw_jne 105 dX10_readsRank_98 (by decide) (fun c_27 => ?_) (fun c_27 => ?_)
              · have h := sw_if.f h c_27
                refine aw_iconst (v := 5) dX10_readsRank_105 (by decide) ?_
                refine aw_sub [1, 2] rfl ?_
                exact t_X10_readsRank_106 hG hC_X10_readsThing hC_X10_readsRank hK24 h
              · have h := sw_if.t h c_27
                refine aw_iconst (v := 3) dX10_readsRank_101 (by decide) ?_
                refine aw_goto 106 dX10_readsRank_102 (by decide) ?_
                refine aw_sub [1, 2] rfl ?_
                exact t_X10_readsRank_106 hG hC_X10_readsThing hC_X10_readsRank hK24 h
            · have h := sw_if.t h c_26
              refine aw_iconst (v := 0) dX10_readsRank_92 (by decide) ?_
              refine aw_goto 106 dX10_readsRank_93 (by decide) ?_
              refine aw_sub [1, 2] rfl ?_
              exact t_X10_readsRank_106 hG hC_X10_readsThing hC_X10_readsRank hK24 h
          · have h := sw_if.t h c_25
            refine aw_iconst (v := 0) dX10_readsRank_80 (by decide) ?_
            exact aw_zret rfl rfl dX10_readsRank_81 ⟨rfl, _, rfl, h⟩
        · have h := sw_if.t h c_19
          refine aw_iconst (v := 1) dX10_readsRank_58 (by decide) ?_
          exact aw_zret rfl rfl dX10_readsRank_59 ⟨rfl, _, rfl, h⟩
    · have h := sw_if.t h c_2
      refine aw_ldcS (i := 1) rfl (by decide) rfl sw_sr1 dX10_readsRank_33 ?_
      refine aw_goto 50 dX10_readsRank_35 (by decide) ?_
      refine aw_callV wv_X10_among (M_X10_among hG (by decide) h) ml_X10_156 rfl (by decide) (lk140 hG) rfl rfl (Nat.le_of_ble_eq_true rfl) ⟨rfl, rfl⟩ ⟨by simp only [rm_X10_readsThing, rm_X10_among]; omega, by simp only [rm_X10_readsThing, rm_X10_among]; omega⟩ ⟨Nat.le_refl _, Nat.le_refl _⟩ dX10_readsRank_50 (aw_ki fun r_28 I_29 J_30 h => ?_)
      refine aw_istore_n (lv' := [(3, .int r_28), (0, .ref (sz + 140)), (1, .int x1), (2, .int x2)]) dX10_readsRank_53 rfl (by decide) rfl ?_
      refine aw_iload_n 0 dX10_readsRank_54 rfl rfl ?_
      refine aw_zge 60 dX10_readsRank_55 (by decide) (fun c_31 => ?_) (fun c_31 => ?_)
      · have h := sw_if.f h c_31
        refine aw_aload_n 1 dX10_readsRank_60 rfl rfl ?_
        refine aw_dup dX10_readsRank_61 rfl ?_
        refine gf_X10_13 fl_X10_39 (lk140 hG) dX10_readsRank_62 ?_
        refine aw_iconst (v := 1) dX10_readsRank_65 (by decide) ?_
        refine aw_iadd dX10_readsRank_66 ?_
        refine pf_X10_13 fl_X10_39 (lk140 hG) dX10_readsRank_67 (aw_nameI fun I_32 e_33 => ?_)
        have h := h I_32 e_33
        refine aw_aload_n 1 dX10_readsRank_70 rfl rfl ?_
        refine aw_iload_n 2 dX10_readsRank_71 rfl rfl ?_
        refine aw_iconst (v := 1) dX10_readsRank_72 (by decide) ?_
        refine aw_iadd dX10_readsRank_73 ?_
        refine aw_callV wv_X10_readsRank (hC_X10_readsRank h) ml_X10_160 rfl (by decide) (lk140 hG) rfl rfl (Nat.le_of_ble_eq_true rfl) ⟨rfl, rfl⟩ ⟨by simp only [rm_X10_readsThing]; omega, by simp only [rm_X10_readsThing]; omega⟩ ⟨Nat.le_refl _, Nat.le_refl _⟩ dX10_readsRank_74 (aw_ki fun r_34 I_35 J_36 h => ?_)
        refine aw_zne 82 dX10_readsRank_77 (by decide) (fun c_37 => ?_) (fun c_37 => ?_)
        · have h := sw_if.f h c_37
          refine aw_aload_n 1 dX10_readsRank_82 rfl rfl ?_
          refine aw_sipush (v := 2000) dX10_readsRank_83 (by decide) ?_
          refine aw_iload_n 0 dX10_readsRank_86 rfl rfl ?_
          refine aw_iadd dX10_readsRank_87 ?_
          refine aw_iload_n 2 dX10_readsRank_88 rfl rfl ?_
          refine aw_zne 96 dX10_readsRank_89 (by decide) (fun c_38 => ?_) (fun c_38 => ?_)
          · have h := sw_if.f h c_38
            refine aw_iload_n 2 dX10_readsRank_96 rfl rfl ?_
            refine aw_iconst (v := 1) dX10_readsRank_97 (by decide) ?_
            refine aw_jne 105 dX10_readsRank_98 (by decide) (fun c_39 => ?_) (fun c_39 => ?_)
            · have h := sw_if.f h c_39
              refine aw_iconst (v := 5) dX10_readsRank_105 (by decide) ?_
              refine aw_sub [1, 2] rfl ?_
              exact t_X10_readsRank_106 hG hC_X10_readsThing hC_X10_readsRank hK24 h
            · have h := sw_if.t h c_39
              refine aw_iconst (v := 3) dX10_readsRank_101 (by decide) ?_
              refine aw_goto 106 dX10_readsRank_102 (by decide) ?_
              refine aw_sub [1, 2] rfl ?_
              exact t_X10_readsRank_106 hG hC_X10_readsThing hC_X10_readsRank hK24 h
          · have h := sw_if.t h c_38
            refine aw_iconst (v := 0) dX10_readsRank_92 (by decide) ?_
            refine aw_goto 106 dX10_readsRank_93 (by decide) ?_
            refine aw_sub [1, 2] rfl ?_
            exact t_X10_readsRank_106 hG hC_X10_readsThing hC_X10_readsRank hK24 h
        · have h := sw_if.t h c_37
          refine aw_iconst (v := 0) dX10_readsRank_80 (by decide) ?_
          exact aw_zret rfl rfl dX10_readsRank_81 ⟨rfl, _, rfl, h⟩
      · have h := sw_if.t h c_31
        refine aw_iconst (v := 1) dX10_readsRank_58 (by decide) ?_
        exact aw_zret rfl rfl dX10_readsRank_59 ⟨rfl, _, rfl, h⟩
set_option maxRecDepth 20000 in
theorem tl_X10_readsRank_24 {l : Launch} {D : va_G} {cy : Nat → ClassId} {sz : Nat} {G : sw_G} (hG : sw_lay G) {C_X10_readsThing : sw_I → sw_J → (Int32 → sw_I → sw_J → Prop) → Prop} {C_X10_readsRank : Int32 → sw_I → sw_J → (Int32 → sw_I → sw_J → Prop) → Prop} {dd : Nat} (hC_X10_readsThing : ∀  {I : sw_I} {J : sw_J} {Q : Int32 → sw_I → sw_J → Prop}, C_X10_readsThing  I J Q → Met l yX10_readsThing (Cond.code yX10_readsThing cX10_readsThing 3 (some .boolean) :: sw_T) (rm_X10_readsThing dd) (sw_Pc D cy sz [.ref (sz + 140)] G I J) (sw_Q D cy sz (sw_qi G Q)) 0 0 (fun q => sz ≤ q)) (hC_X10_readsRank : ∀ {x1 : Int32} {I : sw_I} {J : sw_J} {Q : Int32 → sw_I → sw_J → Prop}, C_X10_readsRank x1 I J Q → Met l yX10_readsRank (Cond.code yX10_readsRank cX10_readsRank 4 (some .boolean) :: sw_T) (rm_X10_readsThing dd) (sw_Pc D cy sz [.ref (sz + 140), .int x1] G I J) (sw_Q D cy sz (sw_qi G Q)) 0 0 (fun q => sz ≤ q)) {Q : Int32 → sw_I → sw_J → Prop} : ∀ (n : Nat) (x1 : Int32) (x2 : Int32) (I : sw_I) (J : sw_J), wl_X10_readsRank_24 C_X10_readsThing C_X10_readsRank  Q n x1 x2 I J → AW l D cy sz RX10 cX10_readsRank 4 (some .boolean) false (rm_X10_readsThing (dd + 1)) 0 0 (sw_qi G Q) 0 0 G I J 24 [(0, .ref (sz + 140)), (1, .int x1), (2, .int x2)] [] := by
  intro n
  induction n with
  | zero => intro x1 x2 I J h; exact False.elim h
  | succ n ih => intro x1 x2 I J h; exact tb_X10_readsRank_24 hG hC_X10_readsThing hC_X10_readsRank ih h
set_option maxRecDepth 20000 in
theorem t_X10_readsRank {l : Launch} {D : va_G} {cy : Nat → ClassId} {sz : Nat} {G : sw_G} (hG : sw_lay G) {C_X10_readsThing : sw_I → sw_J → (Int32 → sw_I → sw_J → Prop) → Prop} {C_X10_readsRank : Int32 → sw_I → sw_J → (Int32 → sw_I → sw_J → Prop) → Prop} {dd : Nat} (hC_X10_readsThing : ∀  {I : sw_I} {J : sw_J} {Q : Int32 → sw_I → sw_J → Prop}, C_X10_readsThing  I J Q → Met l yX10_readsThing (Cond.code yX10_readsThing cX10_readsThing 3 (some .boolean) :: sw_T) (rm_X10_readsThing dd) (sw_Pc D cy sz [.ref (sz + 140)] G I J) (sw_Q D cy sz (sw_qi G Q)) 0 0 (fun q => sz ≤ q)) (hC_X10_readsRank : ∀ {x1 : Int32} {I : sw_I} {J : sw_J} {Q : Int32 → sw_I → sw_J → Prop}, C_X10_readsRank x1 I J Q → Met l yX10_readsRank (Cond.code yX10_readsRank cX10_readsRank 4 (some .boolean) :: sw_T) (rm_X10_readsThing dd) (sw_Pc D cy sz [.ref (sz + 140), .int x1] G I J) (sw_Q D cy sz (sw_qi G Q)) 0 0 (fun q => sz ≤ q)) {Q : Int32 → sw_I → sw_J → Prop} {x1 : Int32} {I : sw_I} {J : sw_J} (h : wpb_X10_readsRank C_X10_readsThing C_X10_readsRank x1 I J Q) : AW l D cy sz RX10 cX10_readsRank 4 (some .boolean) false (rm_X10_readsThing (dd + 1)) 0 0 (sw_qi G Q) 0 0 G I J 0 [(0, .ref (sz + 140)), (1, .int x1)] [] := by
  unfold wpb_X10_readsRank at h
  refine aw_iload_n 1 dX10_readsRank_0 rfl rfl ?_
  refine aw_iconst (v := 3) dX10_readsRank_1 (by decide) ?_
  refine aw_jne 10 dX10_readsRank_2 (by decide) (fun c_1 => ?_) (fun c_1 => ?_)
  · have h := sw_if.f h c_1
    refine aw_aload_n 0 dX10_readsRank_10 rfl rfl ?_
    refine aw_iload_n 1 dX10_readsRank_11 rfl rfl ?_
    refine aw_iconst (v := 1) dX10_readsRank_12 (by decide) ?_
    refine aw_iadd dX10_readsRank_13 ?_
    refine aw_callV wv_X10_readsRank (hC_X10_readsRank h) ml_X10_160 rfl (by decide) (lk140 hG) rfl rfl (Nat.le_of_ble_eq_true rfl) ⟨rfl, rfl⟩ ⟨by simp only [rm_X10_readsThing]; omega, by simp only [rm_X10_readsThing]; omega⟩ ⟨Nat.le_refl _, Nat.le_refl _⟩ dX10_readsRank_14 (aw_ki fun r_2 I_3 J_4 h => ?_)
    refine aw_zne 22 dX10_readsRank_17 (by decide) (fun c_5 => ?_) (fun c_5 => ?_)
    · have h := sw_if.f h c_5
      refine aw_iconst (v := 1) dX10_readsRank_22 (by decide) ?_
      refine aw_istore_n (lv' := [(2, .int 1), (0, .ref (sz + 140)), (1, .int x1)]) dX10_readsRank_23 rfl (by decide) rfl ?_
      refine aw_sub [1, 2, 0] rfl ?_
      obtain ⟨n_6, h⟩ := h
      exact tl_X10_readsRank_24 hG hC_X10_readsThing hC_X10_readsRank  n_6 x1 1 I_3 J_4 h
    · have h := sw_if.t h c_5
      refine aw_iconst (v := 0) dX10_readsRank_20 (by decide) ?_
      exact aw_zret rfl rfl dX10_readsRank_21 ⟨rfl, _, rfl, h⟩
  · have h := sw_if.t h c_1
    refine aw_aload_n 0 dX10_readsRank_5 rfl rfl ?_
    refine aw_callV wv_X10_readsThing (hC_X10_readsThing h) ml_X10_147 rfl (by decide) (lk140 hG) rfl rfl (Nat.le_of_ble_eq_true rfl) ⟨rfl, rfl⟩ ⟨by simp only [rm_X10_readsThing]; omega, by simp only [rm_X10_readsThing]; omega⟩ ⟨Nat.le_refl _, Nat.le_refl _⟩ dX10_readsRank_6 (aw_ki fun r_7 I_8 J_9 h => ?_)
    exact aw_zret rfl (sw_bool h.1).1 dX10_readsRank_9 ⟨rfl, _, rfl, h.2⟩
def wpg_X10_readsThing : Nat → (sw_I → sw_J → (Int32 → sw_I → sw_J → Prop) → Prop) × (Int32 → sw_I → sw_J → (Int32 → sw_I → sw_J → Prop) → Prop)
  | 0 => (fun  _ _ _ => False, fun _ _ _ _ => False)
  | d + 1 => (wpb_X10_readsThing (wpg_X10_readsThing d).1 (wpg_X10_readsThing d).2, wpb_X10_readsRank (wpg_X10_readsThing d).1 (wpg_X10_readsThing d).2)
abbrev wp_X10_readsThing (d : Nat) := (wpg_X10_readsThing d).1
abbrev wp_X10_readsRank (d : Nat) := (wpg_X10_readsThing d).2
theorem MG_X10_readsThing {l : Launch} {D : va_G} {cy : Nat → ClassId} {sz : Nat} {G : sw_G} (hG : sw_lay G) : ∀ d : Nat, (∀  {I : sw_I} {J : sw_J} {Q : Int32 → sw_I → sw_J → Prop}, wp_X10_readsThing d  I J Q → Met l yX10_readsThing (Cond.code yX10_readsThing cX10_readsThing 3 (some .boolean) :: sw_T) (rm_X10_readsThing d) (sw_Pc D cy sz [.ref (sz + 140)] G I J) (sw_Q D cy sz (sw_qi G Q)) 0 0 (fun q => sz ≤ q)) ∧ (∀ {x1 : Int32} {I : sw_I} {J : sw_J} {Q : Int32 → sw_I → sw_J → Prop}, wp_X10_readsRank d x1 I J Q → Met l yX10_readsRank (Cond.code yX10_readsRank cX10_readsRank 4 (some .boolean) :: sw_T) (rm_X10_readsThing d) (sw_Pc D cy sz [.ref (sz + 140), .int x1] G I J) (sw_Q D cy sz (sw_qi G Q)) 0 0 (fun q => sz ≤ q)) := by
  intro d
  induction d with
  | zero => exact ⟨fun h => False.elim h, fun h => False.elim h⟩
  | succ d ih => exact ⟨fun h => sw_met (by decide) (fun q => by cases q) (Nat.le_of_ble_eq_true rfl) rfl (t_X10_readsThing hG ih.1 ih.2 h), fun h => sw_met (by decide) (fun q => by cases q) (Nat.le_of_ble_eq_true rfl) rfl (t_X10_readsRank hG ih.1 ih.2 h)⟩
theorem M_X10_readsThing {l : Launch} {D : va_G} {cy : Nat → ClassId} {sz : Nat} {G : sw_G} (hG : sw_lay G) (d : Nat) : ∀  {I : sw_I} {J : sw_J} {Q : Int32 → sw_I → sw_J → Prop}, wp_X10_readsThing d  I J Q → Met l yX10_readsThing (Cond.code yX10_readsThing cX10_readsThing 3 (some .boolean) :: sw_T) (rm_X10_readsThing d) (sw_Pc D cy sz [.ref (sz + 140)] G I J) (sw_Q D cy sz (sw_qi G Q)) 0 0 (fun q => sz ≤ q) := (MG_X10_readsThing hG d).1
theorem M_X10_readsRank {l : Launch} {D : va_G} {cy : Nat → ClassId} {sz : Nat} {G : sw_G} (hG : sw_lay G) (d : Nat) : ∀ {x1 : Int32} {I : sw_I} {J : sw_J} {Q : Int32 → sw_I → sw_J → Prop}, wp_X10_readsRank d x1 I J Q → Met l yX10_readsRank (Cond.code yX10_readsRank cX10_readsRank 4 (some .boolean) :: sw_T) (rm_X10_readsThing d) (sw_Pc D cy sz [.ref (sz + 140), .int x1] G I J) (sw_Q D cy sz (sw_qi G Q)) 0 0 (fun q => sz ≤ q) := (MG_X10_readsThing hG d).2
-- X0_nextPlace
abbrev rm_X0_nextPlace : Room := { frames := 1, cells := 0, slots := 0, locals := 20 }
def wB_X0_nextPlace_72   (Q : Int32 → sw_I → sw_J → Prop) (x1 : Int32) (I : sw_I) (J : sw_J) : Prop :=
  sw_if (x1 = (59 : Int32)) (Q (0 : Int32) I J) (Q (-1 : Int32) I J)
def wB_X0_nextPlace_115   (Q : Int32 → sw_I → sw_J → Prop)  (I : sw_I) (J : sw_J) : Prop :=
  Q (6 : Int32) I J
def wB_X0_nextPlace_137   (Q : Int32 → sw_I → sw_J → Prop) (x1 : Int32) (I : sw_I) (J : sw_J) : Prop :=
  sw_if (x1 = (59 : Int32)) (Q (0 : Int32) I J) (Q (-1 : Int32) I J)
def wp_X0_nextPlace (x0 : Int32) (x1 : Int32) (x2 : Int32) (I : sw_I) (J : sw_J) (Q : Int32 → sw_I → sw_J → Prop) : Prop :=
  sw_if (x0 = 0) (wp_X0_placeBehind x1 I J (fun r_2 I_3 J_4 => Q r_2 I_3 J_4)) (sw_if (x0 = 1) (wp_X0_isLetter x1 I J (fun r_6 I_7 J_8 => sw_if (r_6 = 0) (Q (-1 : Int32) I_7 J_8) (Q (2 : Int32) I_7 J_8))) (sw_if (x0 = 2) (wp_X0_isLetter x1 I J (fun r_11 I_12 J_13 => sw_if (r_11 = 0) (wB_X0_nextPlace_72   Q x1 I_12 J_13) (sw_if (x2 < x1) (Q (2 : Int32) I_12 J_13) (wB_X0_nextPlace_72   Q x1 I_12 J_13)))) (sw_if (x0 = 3) (wp_X0_isLetter x1 I J (fun r_17 I_18 J_19 => sw_if (r_17 = 0) (Q (-1 : Int32) I_18 J_19) (Q (4 : Int32) I_18 J_19))) (sw_if (x0 = 4) (sw_if (x1 = (45 : Int32)) (wB_X0_nextPlace_115   Q  I J) (sw_if (x1 < (48 : Int32)) (Q (-1 : Int32) I J) (sw_if ((57 : Int32) < x1) (Q (-1 : Int32) I J) (wB_X0_nextPlace_115   Q  I J)))) (sw_if (x0 = 5) (sw_if (x1 < (49 : Int32)) (wB_X0_nextPlace_137   Q x1 I J) (sw_if ((57 : Int32) < x1) (wB_X0_nextPlace_137   Q x1 I J) (Q (6 : Int32) I J))) (sw_if (x1 = (59 : Int32)) (Q (0 : Int32) I J) (Q (-1 : Int32) I J)))))))
set_option maxRecDepth 20000 in
theorem t_X0_nextPlace_72 {l : Launch} {D : va_G} {cy : Nat → ClassId} {sz : Nat} {G : sw_G} (hG : True)   {Q : Int32 → sw_I → sw_J → Prop} {x1 : Int32} {I : sw_I} {J : sw_J} (h : wB_X0_nextPlace_72   Q x1 I J) : AW l D cy sz RX0 cX0_nextPlace 3 (some .int) false rm_X0_nextPlace 0 0 (sw_qi G Q) 0 0 G I J 72 [(1, .int x1)] [] := by
  unfold wB_X0_nextPlace_72 at h
  refine aw_iload_n 0 dX0_nextPlace_72 rfl rfl ?_
  refine aw_bipush (v := 59) dX0_nextPlace_73 (by decide) ?_
  refine aw_jne 82 dX0_nextPlace_75 (by decide) (fun c_1 => ?_) (fun c_1 => ?_)
  · have h := sw_if.f h c_1
    refine aw_iconst (v := (-1)) dX0_nextPlace_82 (by decide) ?_
    exact aw_iret rfl dX0_nextPlace_83 ⟨rfl, _, rfl, h⟩
  · have h := sw_if.t h c_1
    refine aw_iconst (v := 0) dX0_nextPlace_78 (by decide) ?_
    refine aw_goto 83 dX0_nextPlace_79 (by decide) ?_
    exact aw_iret rfl dX0_nextPlace_83 ⟨rfl, _, rfl, h⟩
set_option maxRecDepth 20000 in
theorem t_X0_nextPlace_115 {l : Launch} {D : va_G} {cy : Nat → ClassId} {sz : Nat} {G : sw_G} (hG : True)   {Q : Int32 → sw_I → sw_J → Prop}  {I : sw_I} {J : sw_J} (h : wB_X0_nextPlace_115   Q  I J) : AW l D cy sz RX0 cX0_nextPlace 3 (some .int) false rm_X0_nextPlace 0 0 (sw_qi G Q) 0 0 G I J 115 [] [] := by
  unfold wB_X0_nextPlace_115 at h
  refine aw_bipush (v := 6) dX0_nextPlace_115 (by decide) ?_
  refine aw_goto 121 dX0_nextPlace_117 (by decide) ?_
  exact aw_iret rfl dX0_nextPlace_121 ⟨rfl, _, rfl, h⟩
set_option maxRecDepth 20000 in
theorem t_X0_nextPlace_137 {l : Launch} {D : va_G} {cy : Nat → ClassId} {sz : Nat} {G : sw_G} (hG : True)   {Q : Int32 → sw_I → sw_J → Prop} {x1 : Int32} {I : sw_I} {J : sw_J} (h : wB_X0_nextPlace_137   Q x1 I J) : AW l D cy sz RX0 cX0_nextPlace 3 (some .int) false rm_X0_nextPlace 0 0 (sw_qi G Q) 0 0 G I J 137 [(1, .int x1)] [] := by
  unfold wB_X0_nextPlace_137 at h
  refine aw_iload_n 0 dX0_nextPlace_137 rfl rfl ?_
  refine aw_bipush (v := 59) dX0_nextPlace_138 (by decide) ?_
  refine aw_jne 147 dX0_nextPlace_140 (by decide) (fun c_1 => ?_) (fun c_1 => ?_)
  · have h := sw_if.f h c_1
    refine aw_iconst (v := (-1)) dX0_nextPlace_147 (by decide) ?_
    exact aw_iret rfl dX0_nextPlace_148 ⟨rfl, _, rfl, h⟩
  · have h := sw_if.t h c_1
    refine aw_iconst (v := 0) dX0_nextPlace_143 (by decide) ?_
    refine aw_goto 148 dX0_nextPlace_144 (by decide) ?_
    exact aw_iret rfl dX0_nextPlace_148 ⟨rfl, _, rfl, h⟩
set_option maxRecDepth 20000 in
theorem t_X0_nextPlace {l : Launch} {D : va_G} {cy : Nat → ClassId} {sz : Nat} {G : sw_G} (hG : True)   {Q : Int32 → sw_I → sw_J → Prop} {x0 : Int32} {x1 : Int32} {x2 : Int32} {I : sw_I} {J : sw_J} (h : wp_X0_nextPlace x0 x1 x2 I J Q) : AW l D cy sz RX0 cX0_nextPlace 3 (some .int) false rm_X0_nextPlace 0 0 (sw_qi G Q) 0 0 G I J 0 [(0, .int x0), (1, .int x1), (2, .int x2)] [] := by
  unfold wp_X0_nextPlace at h
  refine aw_iload_n 0 dX0_nextPlace_0 rfl rfl ?_
  by_cases c_1 : x0 = 0
  · have h := sw_if.t h c_1; refine aw_tableIn 40 dX0_nextPlace_1 (by rw [c_1]; decide) (by rw [c_1]; decide) (by rw [c_1]; rfl) (by decide) ?_
    refine aw_iload_n 1 dX0_nextPlace_40 rfl rfl ?_
    refine aw_callS wv_X0_placeBehind (M_X0_placeBehind trivial  h) ml_X0_44 rfl rfl (Nat.le_of_ble_eq_true rfl) ⟨rfl, rfl⟩ ⟨Nat.le_of_ble_eq_true rfl, Nat.le_of_ble_eq_true rfl⟩ ⟨Nat.le_refl _, Nat.le_refl _⟩ dX0_nextPlace_41 (aw_ki fun r_2 I_3 J_4 h => ?_)
    exact aw_iret rfl dX0_nextPlace_44 ⟨rfl, _, rfl, h⟩
  · have h := sw_if.f h c_1
    by_cases c_5 : x0 = 1
    · have h := sw_if.t h c_5; refine aw_tableIn 45 dX0_nextPlace_1 (by rw [c_5]; decide) (by rw [c_5]; decide) (by rw [c_5]; rfl) (by decide) ?_
      refine aw_iload_n 1 dX0_nextPlace_45 rfl rfl ?_
      refine aw_callS wv_X0_isLetter (M_X0_isLetter trivial  h) ml_X0_47 rfl rfl (Nat.le_of_ble_eq_true rfl) ⟨rfl, rfl⟩ ⟨Nat.le_of_ble_eq_true rfl, Nat.le_of_ble_eq_true rfl⟩ ⟨Nat.le_refl _, Nat.le_refl _⟩ dX0_nextPlace_46 (aw_ki fun r_6 I_7 J_8 h => ?_)
      refine aw_zeq 56 dX0_nextPlace_49 (by decide) (fun c_9 => ?_) (fun c_9 => ?_)
      · have h := sw_if.t h c_9
        refine aw_iconst (v := (-1)) dX0_nextPlace_56 (by decide) ?_
        exact aw_iret rfl dX0_nextPlace_57 ⟨rfl, _, rfl, h⟩
      · have h := sw_if.f h c_9
        refine aw_iconst (v := 2) dX0_nextPlace_52 (by decide) ?_
        refine aw_goto 57 dX0_nextPlace_53 (by decide) ?_
        exact aw_iret rfl dX0_nextPlace_57 ⟨rfl, _, rfl, h⟩
    · have h := sw_if.f h c_5
      by_cases c_10 : x0 = 2
      · have h := sw_if.t h c_10; refine aw_tableIn 58 dX0_nextPlace_1 (by rw [c_10]; decide) (by rw [c_10]; decide) (by rw [c_10]; rfl) (by decide) ?_
        refine aw_iload_n 1 dX0_nextPlace_58 rfl rfl ?_
        refine aw_callS wv_X0_isLetter (M_X0_isLetter trivial  h) ml_X0_47 rfl rfl (Nat.le_of_ble_eq_true rfl) ⟨rfl, rfl⟩ ⟨Nat.le_of_ble_eq_true rfl, Nat.le_of_ble_eq_true rfl⟩ ⟨Nat.le_refl _, Nat.le_refl _⟩ dX0_nextPlace_59 (aw_ki fun r_11 I_12 J_13 h => ?_)
        refine aw_zeq 72 dX0_nextPlace_62 (by decide) (fun c_14 => ?_) (fun c_14 => ?_)
        · have h := sw_if.t h c_14
          refine aw_sub [1] rfl ?_
          exact t_X0_nextPlace_72 hG   h
        · have h := sw_if.f h c_14
          refine aw_iload_n 1 dX0_nextPlace_65 rfl rfl ?_
          refine aw_iload_n 2 dX0_nextPlace_66 rfl rfl ?_
          refine aw_jle 72 dX0_nextPlace_67 (by decide) (fun c_15 => ?_) (fun c_15 => ?_)
          · have h := sw_if.f h c_15
            refine aw_sub [1] rfl ?_
            exact t_X0_nextPlace_72 hG   h
          · have h := sw_if.t h c_15
            refine aw_iconst (v := 2) dX0_nextPlace_70 (by decide) ?_
            exact aw_iret rfl dX0_nextPlace_71 ⟨rfl, _, rfl, h⟩
      · have h := sw_if.f h c_10
        by_cases c_16 : x0 = 3
        · have h := sw_if.t h c_16; refine aw_tableIn 84 dX0_nextPlace_1 (by rw [c_16]; decide) (by rw [c_16]; decide) (by rw [c_16]; rfl) (by decide) ?_
          refine aw_iload_n 1 dX0_nextPlace_84 rfl rfl ?_
          refine aw_callS wv_X0_isLetter (M_X0_isLetter trivial  h) ml_X0_47 rfl rfl (Nat.le_of_ble_eq_true rfl) ⟨rfl, rfl⟩ ⟨Nat.le_of_ble_eq_true rfl, Nat.le_of_ble_eq_true rfl⟩ ⟨Nat.le_refl _, Nat.le_refl _⟩ dX0_nextPlace_85 (aw_ki fun r_17 I_18 J_19 h => ?_)
          refine aw_zeq 95 dX0_nextPlace_88 (by decide) (fun c_20 => ?_) (fun c_20 => ?_)
          · have h := sw_if.t h c_20
            refine aw_iconst (v := (-1)) dX0_nextPlace_95 (by decide) ?_
            exact aw_iret rfl dX0_nextPlace_96 ⟨rfl, _, rfl, h⟩
          · have h := sw_if.f h c_20
            refine aw_iconst (v := 4) dX0_nextPlace_91 (by decide) ?_
            refine aw_goto 96 dX0_nextPlace_92 (by decide) ?_
            exact aw_iret rfl dX0_nextPlace_96 ⟨rfl, _, rfl, h⟩
        · have h := sw_if.f h c_16
          by_cases c_21 : x0 = 4
          · have h := sw_if.t h c_21; refine aw_tableIn 97 dX0_nextPlace_1 (by rw [c_21]; decide) (by rw [c_21]; decide) (by rw [c_21]; rfl) (by decide) ?_
            refine aw_iload_n 1 dX0_nextPlace_97 rfl rfl ?_
            refine aw_bipush (v := 45) dX0_nextPlace_98 (by decide) ?_
            refine aw_jeq 115 dX0_nextPlace_100 (by decide) (fun c_22 => ?_) (fun c_22 => ?_)
            · have h := sw_if.t h c_22
              refine aw_sub [] rfl ?_
              exact t_X0_nextPlace_115 hG   h
            · have h := sw_if.f h c_22
              refine aw_iload_n 1 dX0_nextPlace_103 rfl rfl ?_
              refine aw_bipush (v := 48) dX0_nextPlace_104 (by decide) ?_
              refine aw_jlt 120 dX0_nextPlace_106 (by decide) (fun c_23 => ?_) (fun c_23 => ?_)
              · have h := sw_if.t h c_23
                refine aw_iconst (v := (-1)) dX0_nextPlace_120 (by decide) ?_
                exact aw_iret rfl dX0_nextPlace_121 ⟨rfl, _, rfl, h⟩
              · have h := sw_if.f h c_23
                refine aw_iload_n 1 dX0_nextPlace_109 rfl rfl ?_
                refine aw_bipush (v := 57) dX0_nextPlace_110 (by decide) ?_
                refine aw_jgt 120 dX0_nextPlace_112 (by decide) (fun c_24 => ?_) (fun c_24 => ?_)
                · have h := sw_if.t h c_24
                  refine aw_iconst (v := (-1)) dX0_nextPlace_120 (by decide) ?_
                  exact aw_iret rfl dX0_nextPlace_121 ⟨rfl, _, rfl, h⟩
                · have h := sw_if.f h c_24
                  refine aw_sub [] rfl ?_
                  exact t_X0_nextPlace_115 hG   h
          · have h := sw_if.f h c_21
            by_cases c_25 : x0 = 5
            · have h := sw_if.t h c_25; refine aw_tableIn 122 dX0_nextPlace_1 (by rw [c_25]; decide) (by rw [c_25]; decide) (by rw [c_25]; rfl) (by decide) ?_
              refine aw_iload_n 1 dX0_nextPlace_122 rfl rfl ?_
              refine aw_bipush (v := 49) dX0_nextPlace_123 (by decide) ?_
              refine aw_jlt 137 dX0_nextPlace_125 (by decide) (fun c_26 => ?_) (fun c_26 => ?_)
              · have h := sw_if.t h c_26
                refine aw_sub [1] rfl ?_
                exact t_X0_nextPlace_137 hG   h
              · have h := sw_if.f h c_26
                refine aw_iload_n 1 dX0_nextPlace_128 rfl rfl ?_
                refine aw_bipush (v := 57) dX0_nextPlace_129 (by decide) ?_
                refine aw_jgt 137 dX0_nextPlace_131 (by decide) (fun c_27 => ?_) (fun c_27 => ?_)
                · have h := sw_if.t h c_27
                  refine aw_sub [1] rfl ?_
                  exact t_X0_nextPlace_137 hG   h
                · have h := sw_if.f h c_27
                  refine aw_bipush (v := 6) dX0_nextPlace_134 (by decide) ?_
                  exact aw_iret rfl dX0_nextPlace_136 ⟨rfl, _, rfl, h⟩
            · have h := sw_if.f h c_25
              refine aw_tableOut 149 dX0_nextPlace_1 (by have g0 := sw_ne c_1 (by decide : (0 : Int32).toInt = 0); have g1 := sw_ne c_5 (by decide : (1 : Int32).toInt = 1); have g2 := sw_ne c_10 (by decide : (2 : Int32).toInt = 2); have g3 := sw_ne c_16 (by decide : (3 : Int32).toInt = 3); have g4 := sw_ne c_21 (by decide : (4 : Int32).toInt = 4); have g5 := sw_ne c_25 (by decide : (5 : Int32).toInt = 5); omega) (by decide) ?_
              refine aw_iload_n 1 dX0_nextPlace_149 rfl rfl ?_
              refine aw_bipush (v := 59) dX0_nextPlace_150 (by decide) ?_
              refine aw_jne 159 dX0_nextPlace_152 (by decide) (fun c_28 => ?_) (fun c_28 => ?_)
              · have h := sw_if.f h c_28
                refine aw_iconst (v := (-1)) dX0_nextPlace_159 (by decide) ?_
                exact aw_iret rfl dX0_nextPlace_160 ⟨rfl, _, rfl, h⟩
              · have h := sw_if.t h c_28
                refine aw_iconst (v := 0) dX0_nextPlace_155 (by decide) ?_
                refine aw_goto 160 dX0_nextPlace_156 (by decide) ?_
                exact aw_iret rfl dX0_nextPlace_160 ⟨rfl, _, rfl, h⟩
theorem M_X0_nextPlace {l : Launch} {D : va_G} {cy : Nat → ClassId} {sz : Nat} {G : sw_G} (hG : True)   {Q : Int32 → sw_I → sw_J → Prop} {x0 : Int32} {x1 : Int32} {x2 : Int32} {I : sw_I} {J : sw_J} (h : wp_X0_nextPlace x0 x1 x2 I J Q) : Met l yX0_nextPlace (Cond.code yX0_nextPlace cX0_nextPlace 3 (some .int) :: sw_T) rm_X0_nextPlace (sw_Pc D cy sz [.int x0, .int x1, .int x2] G I J) (sw_Q D cy sz (sw_qi G Q)) 0 0 (fun q => sz ≤ q) :=
  sw_met (by decide) (fun q => by cases q) (Nat.le_of_ble_eq_true rfl) rfl (t_X0_nextPlace hG  h)
-- X0_pass
abbrev rm_X0_pass : Room := { frames := 2, cells := 0, slots := 0, locals := 42 }
def wB_X0_pass_68 (a1 : Nat) (K22 : Int32 → Int32 → Int32 → sw_I → sw_J → Prop) (Q : Int32 → sw_I → sw_J → Prop) (x4 : Int32) (x5 : Int32) (x6 : Int32) (x7 : Int32) (I : sw_I) (J : sw_J) : Prop :=
  ∀ I_1 : sw_I, I_1 = sw_up I a1 3 ((I a1 3) ^^^ ((1 : Int32) <<< (x7 &&& 31))) → ∀ I_3 : sw_I, I_3 = sw_up I_1 119 2 ((I_1 119 2) + (1 : Int32)) → ∀ y_5 : Int32, y_5 = x6 + 1 → K22 x4 x5 y_5 I_3 J
def wb_X0_pass_22 (a1 : Nat) (K22 : Int32 → Int32 → Int32 → sw_I → sw_J → Prop) (Q : Int32 → sw_I → sw_J → Prop) (x4 : Int32) (x5 : Int32) (x6 : Int32) (I : sw_I) (J : sw_J) : Prop :=
  sw_if (x6 < x4) (wp_X8_at x6 I J (fun r_2 I_3 J_4 => ∀ y_5 : Int32, y_5 = r_2 - (97 : Int32) → sw_if (x5 = 0) (wp_X3_isIn a1 y_5 I_3 J_4 (fun r_8 I_9 J_10 => sw_if (r_8 = 0) (Q 0 I_9 J_10) (wB_X0_pass_68 a1 K22 Q x4 x5 x6 y_5 I_9 J_10))) (wp_X3_stands a1 y_5 I_3 J_4 (fun r_12 I_13 J_14 => sw_if (r_12 = 0) (Q 0 I_13 J_14) (wB_X0_pass_68 a1 K22 Q x4 x5 x6 y_5 I_13 J_14))))) (Q 1 I J)
def wl_X0_pass_22 (a1 : Nat)  (Q : Int32 → sw_I → sw_J → Prop) : Nat → Int32 → Int32 → Int32 → sw_I → sw_J → Prop
  | 0 => fun _ _ _ _ _ => False
  | n + 1 => fun x4 x5 x6 I J => wb_X0_pass_22 a1 (wl_X0_pass_22 a1  Q n) Q x4 x5 x6 I J
def wB_X0_pass_15 (a1 : Nat)  (Q : Int32 → sw_I → sw_J → Prop) (x3 : Int32) (x4 : Int32) (s0 : Int32) (I : sw_I) (J : sw_J) : Prop :=
  ∀ y_1 : Int32, y_1 = x3 + (1 : Int32) → ∃ n_3 : Nat, wl_X0_pass_22 a1  Q n_3 x4 s0 y_1 I J
def wp_X0_pass (a1 : Nat) (x3 : Int32) (x4 : Int32) (I : sw_I) (J : sw_J) (Q : Int32 → sw_I → sw_J → Prop) : Prop :=
  wp_X8_at x3 I J (fun r_1 I_2 J_3 => sw_if (r_1 = (105 : Int32)) (wB_X0_pass_15 a1  Q x3 x4 1 I_2 J_3) (wB_X0_pass_15 a1  Q x3 x4 0 I_2 J_3))
set_option maxRecDepth 20000 in
theorem t_X0_pass_68 {l : Launch} {D : va_G} {cy : Nat → ClassId} {sz : Nat} {G : sw_G} (hG : sw_lay G) {a1 : Nat} (ha1 : sw_mom G a1) {Q : Int32 → sw_I → sw_J → Prop} {K22 : Int32 → Int32 → Int32 → sw_I → sw_J → Prop} (hK22 : ∀ (x4 : Int32) (x5 : Int32) (x6 : Int32) (I : sw_I) (J : sw_J), K22 x4 x5 x6 I J → AW l D cy sz RX0 cX0_pass 8 (some .boolean) false rm_X0_pass 0 0 (sw_qi G Q) 0 0 G I J 22 [(0, .ref (sz + 119)), (1, .ref (sz + a1)), (2, .ref (sz + 1)), (4, .int x4), (5, .int x5), (6, .int x6)] []) {x4 : Int32} {x5 : Int32} {x6 : Int32} {x7 : Int32} {I : sw_I} {J : sw_J} (h : wB_X0_pass_68 a1 K22 Q x4 x5 x6 x7 I J) : AW l D cy sz RX0 cX0_pass 8 (some .boolean) false rm_X0_pass 0 0 (sw_qi G Q) 0 0 G I J 68 [(0, .ref (sz + 119)), (1, .ref (sz + a1)), (2, .ref (sz + 1)), (4, .int x4), (5, .int x5), (6, .int x6), (7, .int x7)] [] := by
  unfold wB_X0_pass_68 at h
  refine aw_aload_n 1 dX0_pass_68 rfl rfl ?_
  refine aw_dup dX0_pass_69 rfl ?_
  refine gf_X3_3 fl_X0_77 ha1.1 dX0_pass_70 ?_
  refine aw_iconst (v := 1) dX0_pass_73 (by decide) ?_
  refine aw_iload 6 dX0_pass_74 rfl ?_
  refine aw_ishl dX0_pass_76 ?_
  refine aw_ixor dX0_pass_77 ?_
  refine pf_X3_3 fl_X0_77 ha1.1 dX0_pass_78 (aw_nameI fun I_1 e_2 => ?_)
  have h := h I_1 e_2
  refine aw_aload_n 0 dX0_pass_81 rfl rfl ?_
  refine aw_dup dX0_pass_82 rfl ?_
  refine gf_X0_2 fl_X0_18 (lk119 hG) dX0_pass_83 ?_
  refine aw_iconst (v := 1) dX0_pass_86 (by decide) ?_
  refine aw_iadd dX0_pass_87 ?_
  refine pf_X0_2 fl_X0_18 (lk119 hG) dX0_pass_88 (aw_nameI fun I_3 e_4 => ?_)
  have h := h I_3 e_4
  obtain ⟨y_5, e_6⟩ : ∃ q : Int32, q = x6 + 1 := ⟨_, rfl⟩
  have h := h y_5 e_6
  refine aw_iinc (lv' := [(6, .int y_5), (0, .ref (sz + 119)), (1, .ref (sz + a1)), (2, .ref (sz + 1)), (4, .int x4), (5, .int x5), (7, .int x7)]) 5 dX0_pass_91 rfl (by rw [e_6]; rfl) (by decide) rfl ?_
  refine aw_goto 22 dX0_pass_94 (by decide) ?_
  refine aw_sub [1, 2, 3, 4, 5, 0] rfl ?_
  exact hK22 x4 x5 y_5 I_3 J h
set_option maxRecDepth 20000 in
theorem tb_X0_pass_22 {l : Launch} {D : va_G} {cy : Nat → ClassId} {sz : Nat} {G : sw_G} (hG : sw_lay G) {a1 : Nat} (ha1 : sw_mom G a1) {Q : Int32 → sw_I → sw_J → Prop} {K22 : Int32 → Int32 → Int32 → sw_I → sw_J → Prop} (hK22 : ∀ (x4 : Int32) (x5 : Int32) (x6 : Int32) (I : sw_I) (J : sw_J), K22 x4 x5 x6 I J → AW l D cy sz RX0 cX0_pass 8 (some .boolean) false rm_X0_pass 0 0 (sw_qi G Q) 0 0 G I J 22 [(0, .ref (sz + 119)), (1, .ref (sz + a1)), (2, .ref (sz + 1)), (4, .int x4), (5, .int x5), (6, .int x6)] []) {x4 : Int32} {x5 : Int32} {x6 : Int32} {I : sw_I} {J : sw_J} (h : wb_X0_pass_22 a1 K22 Q x4 x5 x6 I J) : AW l D cy sz RX0 cX0_pass 8 (some .boolean) false rm_X0_pass 0 0 (sw_qi G Q) 0 0 G I J 22 [(0, .ref (sz + 119)), (1, .ref (sz + a1)), (2, .ref (sz + 1)), (4, .int x4), (5, .int x5), (6, .int x6)] [] := by
  unfold wb_X0_pass_22 at h
  refine aw_iload 5 dX0_pass_22 rfl ?_
  refine aw_iload 3 dX0_pass_24 rfl ?_
  refine aw_jge 97 dX0_pass_26 (by decide) (fun c_1 => ?_) (fun c_1 => ?_)
  · have h := sw_if.f h c_1
    refine aw_iconst (v := 1) dX0_pass_97 (by decide) ?_
    exact aw_zret rfl rfl dX0_pass_98 ⟨rfl, _, rfl, h⟩
  · have h := sw_if.t h c_1
    refine aw_aload_n 2 dX0_pass_29 rfl rfl ?_
    refine aw_iload 5 dX0_pass_30 rfl ?_
    refine aw_callV wv_X8_at (M_X8_at hG  h) ml_X0_32 rfl (by decide) (lk1 hG) rfl rfl (Nat.le_of_ble_eq_true rfl) ⟨rfl, rfl⟩ ⟨Nat.le_of_ble_eq_true rfl, Nat.le_of_ble_eq_true rfl⟩ ⟨Nat.le_refl _, Nat.le_refl _⟩ dX0_pass_32 (aw_ki fun r_2 I_3 J_4 h => ?_)
    refine aw_bipush (v := 97) dX0_pass_35 (by decide) ?_
    refine aw_isub dX0_pass_37 ?_
    refine aw_topi (fun y_5 e_6 => ?_)
    have h := h y_5 e_6
    refine aw_istore (lv' := [(7, .int y_5), (0, .ref (sz + 119)), (1, .ref (sz + a1)), (2, .ref (sz + 1)), (4, .int x4), (5, .int x5), (6, .int x6)]) dX0_pass_38 (by decide) rfl ?_
    refine aw_iload 5 dX0_pass_40 rfl ?_
    refine aw_zeq 57 dX0_pass_42 (by decide) (fun c_7 => ?_) (fun c_7 => ?_)
    · have h := sw_if.t h c_7
      refine aw_aload_n 2 dX0_pass_57 rfl rfl ?_
      refine aw_iload 0 dX0_pass_58 rfl ?_
      refine aw_callV wv_X3_isIn (M_X3_isIn trivial ha1 h) ml_X0_74 rfl (by decide) ha1.1 rfl rfl (Nat.le_of_ble_eq_true rfl) ⟨rfl, rfl⟩ ⟨Nat.le_of_ble_eq_true rfl, Nat.le_of_ble_eq_true rfl⟩ ⟨Nat.le_refl _, Nat.le_refl _⟩ dX0_pass_60 (aw_ki fun r_8 I_9 J_10 h => ?_)
      refine aw_zne 68 dX0_pass_63 (by decide) (fun c_11 => ?_) (fun c_11 => ?_)
      · have h := sw_if.f h c_11
        refine aw_sub [1, 2, 3, 4, 5, 6, 0] rfl ?_
        exact t_X0_pass_68 hG ha1 hK22 h
      · have h := sw_if.t h c_11
        refine aw_iconst (v := 0) dX0_pass_66 (by decide) ?_
        exact aw_zret rfl rfl dX0_pass_67 ⟨rfl, _, rfl, h⟩
    · have h := sw_if.f h c_7
      refine aw_aload_n 2 dX0_pass_45 rfl rfl ?_
      refine aw_iload 0 dX0_pass_46 rfl ?_
      refine aw_callV wv_X3_stands (M_X3_stands trivial ha1 h) ml_X0_69 rfl (by decide) ha1.1 rfl rfl (Nat.le_of_ble_eq_true rfl) ⟨rfl, rfl⟩ ⟨Nat.le_of_ble_eq_true rfl, Nat.le_of_ble_eq_true rfl⟩ ⟨Nat.le_refl _, Nat.le_refl _⟩ dX0_pass_48 (aw_ki fun r_12 I_13 J_14 h => ?_)
      refine aw_zne 68 dX0_pass_51 (by decide) (fun c_15 => ?_) (fun c_15 => ?_)
      · have h := sw_if.f h c_15
        refine aw_sub [1, 2, 3, 4, 5, 6, 0] rfl ?_
        exact t_X0_pass_68 hG ha1 hK22 h
      · have h := sw_if.t h c_15
        refine aw_goto 66 dX0_pass_54 (by decide) ?_
        refine aw_iconst (v := 0) dX0_pass_66 (by decide) ?_
        exact aw_zret rfl rfl dX0_pass_67 ⟨rfl, _, rfl, h⟩
set_option maxRecDepth 20000 in
theorem tl_X0_pass_22 {l : Launch} {D : va_G} {cy : Nat → ClassId} {sz : Nat} {G : sw_G} (hG : sw_lay G) {a1 : Nat} (ha1 : sw_mom G a1) {Q : Int32 → sw_I → sw_J → Prop} : ∀ (n : Nat) (x4 : Int32) (x5 : Int32) (x6 : Int32) (I : sw_I) (J : sw_J), wl_X0_pass_22 a1  Q n x4 x5 x6 I J → AW l D cy sz RX0 cX0_pass 8 (some .boolean) false rm_X0_pass 0 0 (sw_qi G Q) 0 0 G I J 22 [(0, .ref (sz + 119)), (1, .ref (sz + a1)), (2, .ref (sz + 1)), (4, .int x4), (5, .int x5), (6, .int x6)] [] := by
  intro n
  induction n with
  | zero => intro x4 x5 x6 I J h; exact False.elim h
  | succ n ih => intro x4 x5 x6 I J h; exact tb_X0_pass_22 hG ha1 ih h
set_option maxRecDepth 20000 in
theorem t_X0_pass_15 {l : Launch} {D : va_G} {cy : Nat → ClassId} {sz : Nat} {G : sw_G} (hG : sw_lay G) {a1 : Nat} (ha1 : sw_mom G a1) {Q : Int32 → sw_I → sw_J → Prop} {x3 : Int32} {x4 : Int32} {s0 : Int32} {I : sw_I} {J : sw_J} (h : wB_X0_pass_15 a1  Q x3 x4 s0 I J) : AW l D cy sz RX0 cX0_pass 8 (some .boolean) false rm_X0_pass 0 0 (sw_qi G Q) 0 0 G I J 15 [(0, .ref (sz + 119)), (1, .ref (sz + a1)), (2, .ref (sz + 1)), (3, .int x3), (4, .int x4)] [.int s0] := by
  unfold wB_X0_pass_15 at h
  refine aw_istore (lv' := [(5, .int s0), (0, .ref (sz + 119)), (1, .ref (sz + a1)), (2, .ref (sz + 1)), (3, .int x3), (4, .int x4)]) dX0_pass_15 (by decide) rfl ?_
  refine aw_iload_n 4 dX0_pass_17 rfl rfl ?_
  refine aw_iconst (v := 1) dX0_pass_18 (by decide) ?_
  refine aw_iadd dX0_pass_19 ?_
  refine aw_topi (fun y_1 e_2 => ?_)
  have h := h y_1 e_2
  refine aw_istore (lv' := [(6, .int y_1), (5, .int s0), (0, .ref (sz + 119)), (1, .ref (sz + a1)), (2, .ref (sz + 1)), (3, .int x3), (4, .int x4)]) dX0_pass_20 (by decide) rfl ?_
  refine aw_sub [2, 3, 4, 6, 1, 0] rfl ?_
  obtain ⟨n_3, h⟩ := h
  exact tl_X0_pass_22 hG ha1  n_3 x4 s0 y_1 I J h
set_option maxRecDepth 20000 in
theorem t_X0_pass {l : Launch} {D : va_G} {cy : Nat → ClassId} {sz : Nat} {G : sw_G} (hG : sw_lay G) {a1 : Nat} (ha1 : sw_mom G a1) {Q : Int32 → sw_I → sw_J → Prop} {x3 : Int32} {x4 : Int32} {I : sw_I} {J : sw_J} (h : wp_X0_pass a1 x3 x4 I J Q) : AW l D cy sz RX0 cX0_pass 8 (some .boolean) false rm_X0_pass 0 0 (sw_qi G Q) 0 0 G I J 0 [(0, .ref (sz + 119)), (1, .ref (sz + a1)), (2, .ref (sz + 1)), (3, .int x3), (4, .int x4)] [] := by
  unfold wp_X0_pass at h
  refine aw_aload_n 2 dX0_pass_0 rfl rfl ?_
  refine aw_iload_n 3 dX0_pass_1 rfl rfl ?_
  refine aw_callV wv_X8_at (M_X8_at hG  h) ml_X0_32 rfl (by decide) (lk1 hG) rfl rfl (Nat.le_of_ble_eq_true rfl) ⟨rfl, rfl⟩ ⟨Nat.le_of_ble_eq_true rfl, Nat.le_of_ble_eq_true rfl⟩ ⟨Nat.le_refl _, Nat.le_refl _⟩ dX0_pass_2 (aw_ki fun r_1 I_2 J_3 h => ?_)
  refine aw_bipush (v := 105) dX0_pass_5 (by decide) ?_
  refine aw_jne 14 dX0_pass_7 (by decide) (fun c_4 => ?_) (fun c_4 => ?_)
  · have h := sw_if.f h c_4
    refine aw_iconst (v := 0) dX0_pass_14 (by decide) ?_
    refine aw_sub [0, 1, 2, 3, 4] rfl ?_
    exact t_X0_pass_15 hG ha1  h
  · have h := sw_if.t h c_4
    refine aw_iconst (v := 1) dX0_pass_10 (by decide) ?_
    refine aw_goto 15 dX0_pass_11 (by decide) ?_
    refine aw_sub [0, 1, 2, 3, 4] rfl ?_
    exact t_X0_pass_15 hG ha1  h
theorem M_X0_pass {l : Launch} {D : va_G} {cy : Nat → ClassId} {sz : Nat} {G : sw_G} (hG : sw_lay G) {a1 : Nat} (ha1 : sw_mom G a1) {Q : Int32 → sw_I → sw_J → Prop} {x3 : Int32} {x4 : Int32} {I : sw_I} {J : sw_J} (h : wp_X0_pass a1 x3 x4 I J Q) : Met l yX0_pass (Cond.code yX0_pass cX0_pass 8 (some .boolean) :: sw_T) rm_X0_pass (sw_Pc D cy sz [.ref (sz + 119), .ref (sz + a1), .ref (sz + 1), .int x3, .int x4] G I J) (sw_Q D cy sz (sw_qi G Q)) 0 0 (fun q => sz ≤ q) :=
  sw_met (by decide) (fun q => by cases q) (Nat.le_of_ble_eq_true rfl) rfl (t_X0_pass hG ha1 h)
-- X0_wish
abbrev rm_X0_wish : Room := { frames := 2, cells := 0, slots := 0, locals := 42 }
def wB_X0_wish_16 (a2 : Nat)  (Q : Int32 → sw_I → sw_J → Prop) (x3 : Int32) (s0 : Int32) (I : sw_I) (J : sw_J) : Prop :=
  wp_X1_hasRider x3 I J (fun r_1 I_2 J_3 => sw_if (r_1 = 0) (Q 0 I_2 J_3) (wp_X1_canBeWish s0 I_2 J_3 (fun r_5 I_6 J_7 => sw_if (r_5 = 0) (Q 0 I_6 J_7) (vp_in x3 10 ∧ ∀ I_10 : sw_I, I_10 = sw_up I_6 (a2 + 2) x3.toNatClampNeg s0 → ∀ I_12 : sw_I, I_12 = sw_up I_10 119 2 ((I_10 119 2) + (1 : Int32)) → Q 1 I_12 J_7))))
def wp_X0_wish (a2 : Nat) (x3 : Int32) (x4 : Int32) (I : sw_I) (J : sw_J) (Q : Int32 → sw_I → sw_J → Prop) : Prop :=
  sw_if (x4 = (45 : Int32)) (wB_X0_wish_16 a2  Q x3 (-1) I J) (wB_X0_wish_16 a2  Q x3 (x4 - (48 : Int32)) I J)
set_option maxRecDepth 20000 in
theorem t_X0_wish_16 {l : Launch} {D : va_G} {cy : Nat → ClassId} {sz : Nat} {G : sw_G} (hG : sw_lay G) {a2 : Nat} (ha2 : sw_mom G a2) {Q : Int32 → sw_I → sw_J → Prop} {x3 : Int32} {s0 : Int32} {I : sw_I} {J : sw_J} (h : wB_X0_wish_16 a2  Q x3 s0 I J) : AW l D cy sz RX0 cX0_wish 6 (some .boolean) false rm_X0_wish 0 0 (sw_qi G Q) 0 0 G I J 16 [(0, .ref (sz + 119)), (1, .ref (sz + 3)), (2, .ref (sz + a2)), (3, .int x3)] [.int s0] := by
  unfold wB_X0_wish_16 at h
  refine aw_istore (lv' := [(5, .int s0), (0, .ref (sz + 119)), (1, .ref (sz + 3)), (2, .ref (sz + a2)), (3, .int x3)]) dX0_wish_16 (by decide) rfl ?_
  refine aw_aload_n 2 dX0_wish_18 rfl rfl ?_
  refine aw_iload_n 4 dX0_wish_19 rfl rfl ?_
  refine aw_callV wv_X1_hasRider (M_X1_hasRider hG  h) ml_X0_80 rfl (by decide) (lk3 hG) rfl rfl (Nat.le_of_ble_eq_true rfl) ⟨rfl, rfl⟩ ⟨Nat.le_of_ble_eq_true rfl, Nat.le_of_ble_eq_true rfl⟩ ⟨Nat.le_refl _, Nat.le_refl _⟩ dX0_wish_20 (aw_ki fun r_1 I_2 J_3 h => ?_)
  refine aw_zeq 35 dX0_wish_23 (by decide) (fun c_4 => ?_) (fun c_4 => ?_)
  · have h := sw_if.t h c_4
    refine aw_iconst (v := 0) dX0_wish_35 (by decide) ?_
    exact aw_zret rfl rfl dX0_wish_36 ⟨rfl, _, rfl, h⟩
  · have h := sw_if.f h c_4
    refine aw_aload_n 2 dX0_wish_26 rfl rfl ?_
    refine aw_iload 0 dX0_wish_27 rfl ?_
    refine aw_callV wv_X1_canBeWish (M_X1_canBeWish hG  h) ml_X0_83 rfl (by decide) (lk3 hG) rfl rfl (Nat.le_of_ble_eq_true rfl) ⟨rfl, rfl⟩ ⟨Nat.le_of_ble_eq_true rfl, Nat.le_of_ble_eq_true rfl⟩ ⟨Nat.le_refl _, Nat.le_refl _⟩ dX0_wish_29 (aw_ki fun r_5 I_6 J_7 h => ?_)
    refine aw_zne 37 dX0_wish_32 (by decide) (fun c_8 => ?_) (fun c_8 => ?_)
    · have h := sw_if.f h c_8
      refine aw_aload_n 3 dX0_wish_37 rfl rfl ?_
      refine gf_X3_1 fl_X0_86 ha2.1 ha2.2.1.2.1 dX0_wish_38 ?_
      refine aw_iload_n 4 dX0_wish_41 rfl rfl ?_
      refine aw_iload 0 dX0_wish_42 rfl ?_
      obtain ⟨hi_9, h⟩ := h
      refine aw_ist dX0_wish_44 ha2.2.2.2.1 ha2.2.2.2.2.2.2.1 hi_9 (aw_nameI fun I_10 e_11 => ?_)
      have h := h I_10 e_11
      refine aw_aload_n 1 dX0_wish_45 rfl rfl ?_
      refine aw_dup dX0_wish_46 rfl ?_
      refine gf_X0_2 fl_X0_18 (lk119 hG) dX0_wish_47 ?_
      refine aw_iconst (v := 1) dX0_wish_50 (by decide) ?_
      refine aw_iadd dX0_wish_51 ?_
      refine pf_X0_2 fl_X0_18 (lk119 hG) dX0_wish_52 (aw_nameI fun I_12 e_13 => ?_)
      have h := h I_12 e_13
      refine aw_iconst (v := 1) dX0_wish_55 (by decide) ?_
      exact aw_zret rfl rfl dX0_wish_56 ⟨rfl, _, rfl, h⟩
    · have h := sw_if.t h c_8
      refine aw_iconst (v := 0) dX0_wish_35 (by decide) ?_
      exact aw_zret rfl rfl dX0_wish_36 ⟨rfl, _, rfl, h⟩
set_option maxRecDepth 20000 in
theorem t_X0_wish {l : Launch} {D : va_G} {cy : Nat → ClassId} {sz : Nat} {G : sw_G} (hG : sw_lay G) {a2 : Nat} (ha2 : sw_mom G a2) {Q : Int32 → sw_I → sw_J → Prop} {x3 : Int32} {x4 : Int32} {I : sw_I} {J : sw_J} (h : wp_X0_wish a2 x3 x4 I J Q) : AW l D cy sz RX0 cX0_wish 6 (some .boolean) false rm_X0_wish 0 0 (sw_qi G Q) 0 0 G I J 0 [(0, .ref (sz + 119)), (1, .ref (sz + 3)), (2, .ref (sz + a2)), (3, .int x3), (4, .int x4)] [] := by
  unfold wp_X0_wish at h
  refine aw_iload 4 dX0_wish_0 rfl ?_
  refine aw_bipush (v := 45) dX0_wish_2 (by decide) ?_
  refine aw_jne 11 dX0_wish_4 (by decide) (fun c_1 => ?_) (fun c_1 => ?_)
  · have h := sw_if.f h c_1
    refine aw_iload 4 dX0_wish_11 rfl ?_
    refine aw_bipush (v := 48) dX0_wish_13 (by decide) ?_
    refine aw_isub dX0_wish_15 ?_
    refine aw_sub [0, 1, 2, 3] rfl ?_
    exact t_X0_wish_16 hG ha2  h
  · have h := sw_if.t h c_1
    refine aw_iconst (v := (-1)) dX0_wish_7 (by decide) ?_
    refine aw_goto 16 dX0_wish_8 (by decide) ?_
    refine aw_sub [0, 1, 2, 3] rfl ?_
    exact t_X0_wish_16 hG ha2  h
theorem M_X0_wish {l : Launch} {D : va_G} {cy : Nat → ClassId} {sz : Nat} {G : sw_G} (hG : sw_lay G) {a2 : Nat} (ha2 : sw_mom G a2) {Q : Int32 → sw_I → sw_J → Prop} {x3 : Int32} {x4 : Int32} {I : sw_I} {J : sw_J} (h : wp_X0_wish a2 x3 x4 I J Q) : Met l yX0_wish (Cond.code yX0_wish cX0_wish 6 (some .boolean) :: sw_T) rm_X0_wish (sw_Pc D cy sz [.ref (sz + 119), .ref (sz + 3), .ref (sz + a2), .int x3, .int x4] G I J) (sw_Q D cy sz (sw_qi G Q)) 0 0 (fun q => sz ≤ q) :=
  sw_met (by decide) (fun q => by cases q) (Nat.le_of_ble_eq_true rfl) rfl (t_X0_wish hG ha2 h)
-- X1_look
abbrev rm_X1_look : Room := { frames := 1, cells := 0, slots := 0, locals := 23 }
def wB_X1_look_108 (a1 : Nat) (K57 : Int32 → Int32 → sw_I → sw_J → Prop) (Q : sw_I → sw_J → Prop) (x2 : Int32) (x3 : Int32) (I : sw_I) (J : sw_J) : Prop :=
  ∀ y_1 : Int32, y_1 = x3 + 1 → K57 x2 y_1 I J
def wb_X1_look_57 (a1 : Nat) (K57 : Int32 → Int32 → sw_I → sw_J → Prop) (Q : sw_I → sw_J → Prop) (x2 : Int32) (x3 : Int32) (I : sw_I) (J : sw_J) : Prop :=
  sw_if (x3 < (I 3 2)) (sw_if (((x2 >>> (x3 &&& 31)) &&& (1 : Int32)) = 0) (vp_in x3 10 ∧ wp_X1_addAt 12 9 (I (a1 + 1) x3.toNatClampNeg) I J (fun I_9 J_10 => wB_X1_look_108 a1 K57 Q x2 x3 I_9 J_10)) (vp_in x3 10 ∧ wp_X1_addAt 11 9 (I (a1 + 2) x3.toNatClampNeg) I J (fun I_5 J_6 => wB_X1_look_108 a1 K57 Q x2 x3 I_5 J_6))) (Q I J)
def wl_X1_look_57 (a1 : Nat)  (Q : sw_I → sw_J → Prop) : Nat → Int32 → Int32 → sw_I → sw_J → Prop
  | 0 => fun _ _ _ _ => False
  | n + 1 => fun x2 x3 I J => wb_X1_look_57 a1 (wl_X1_look_57 a1  Q n) Q x2 x3 I J
def wp_X1_look (a1 : Nat) (x2 : Int32) (I : sw_I) (J : sw_J) (Q : sw_I → sw_J → Prop) : Prop :=
  wp_J7_fill_53178 11 9 0 I J (fun I_2 J_3 => wp_J7_fill_53178 12 9 0 I_2 J_3 (fun I_5 J_6 => wp_J6_bitCount_0f7a4 x2 I_5 J_6 (fun r_7 I_8 J_9 => ∀ I_10 : sw_I, I_10 = sw_up I_8 10 2 r_7 → ∀ I_12 : sw_I, I_12 = sw_up I_10 10 3 (I_10 a1 4) → ∀ I_14 : sw_I, I_14 = sw_up I_12 10 4 (I_12 a1 5) → ∃ n_16 : Nat, wl_X1_look_57 a1  Q n_16 x2 0 I_14 J_9)))
set_option maxRecDepth 20000 in
theorem t_X1_look_108 {l : Launch} {D : va_G} {cy : Nat → ClassId} {sz : Nat} {G : sw_G} (hG : sw_lay G) {a1 : Nat} (ha1 : sw_mom G a1) {Q : sw_I → sw_J → Prop} {K57 : Int32 → Int32 → sw_I → sw_J → Prop} (hK57 : ∀ (x2 : Int32) (x3 : Int32) (I : sw_I) (J : sw_J), K57 x2 x3 I J → AW l D cy sz RX1 cX1_look 4 none false rm_X1_look 0 0 (sw_qv G Q) 0 0 G I J 57 [(0, .ref (sz + 3)), (1, .ref (sz + a1)), (2, .int x2), (3, .int x3)] []) {x2 : Int32} {x3 : Int32} {I : sw_I} {J : sw_J} (h : wB_X1_look_108 a1 K57 Q x2 x3 I J) : AW l D cy sz RX1 cX1_look 4 none false rm_X1_look 0 0 (sw_qv G Q) 0 0 G I J 108 [(0, .ref (sz + 3)), (1, .ref (sz + a1)), (2, .int x2), (3, .int x3)] [] := by
  unfold wB_X1_look_108 at h
  obtain ⟨y_1, e_2⟩ : ∃ q : Int32, q = x3 + 1 := ⟨_, rfl⟩
  have h := h y_1 e_2
  refine aw_iinc (lv' := [(3, .int y_1), (0, .ref (sz + 3)), (1, .ref (sz + a1)), (2, .int x2)]) 3 dX1_look_108 rfl (by rw [e_2]; rfl) (by decide) rfl ?_
  refine aw_goto 57 dX1_look_111 (by decide) ?_
  refine aw_sub [1, 2, 3, 0] rfl ?_
  exact hK57 x2 y_1 I J h
set_option maxRecDepth 20000 in
theorem tb_X1_look_57 {l : Launch} {D : va_G} {cy : Nat → ClassId} {sz : Nat} {G : sw_G} (hG : sw_lay G) {a1 : Nat} (ha1 : sw_mom G a1) {Q : sw_I → sw_J → Prop} {K57 : Int32 → Int32 → sw_I → sw_J → Prop} (hK57 : ∀ (x2 : Int32) (x3 : Int32) (I : sw_I) (J : sw_J), K57 x2 x3 I J → AW l D cy sz RX1 cX1_look 4 none false rm_X1_look 0 0 (sw_qv G Q) 0 0 G I J 57 [(0, .ref (sz + 3)), (1, .ref (sz + a1)), (2, .int x2), (3, .int x3)] []) {x2 : Int32} {x3 : Int32} {I : sw_I} {J : sw_J} (h : wb_X1_look_57 a1 K57 Q x2 x3 I J) : AW l D cy sz RX1 cX1_look 4 none false rm_X1_look 0 0 (sw_qv G Q) 0 0 G I J 57 [(0, .ref (sz + 3)), (1, .ref (sz + a1)), (2, .int x2), (3, .int x3)] [] := by
  unfold wb_X1_look_57 at h
  refine aw_iload_n 3 dX1_look_57 rfl rfl ?_
  refine aw_aload_n 0 dX1_look_58 rfl rfl ?_
  refine gf_X1_2 fl_X1_18 (lk3 hG) dX1_look_59 ?_
  refine aw_jge 114 dX1_look_62 (by decide) (fun c_1 => ?_) (fun c_1 => ?_)
  · have h := sw_if.f h c_1
    exact aw_vret rfl dX1_look_114 ⟨rfl, rfl, h⟩
  · have h := sw_if.t h c_1
    refine aw_iload_n 2 dX1_look_65 rfl rfl ?_
    refine aw_iload_n 3 dX1_look_66 rfl rfl ?_
    refine aw_ishr dX1_look_67 ?_
    refine aw_iconst (v := 1) dX1_look_68 (by decide) ?_
    refine aw_iand dX1_look_69 ?_
    refine aw_zne 92 dX1_look_70 (by decide) (fun c_2 => ?_) (fun c_2 => ?_)
    · have h := sw_if.f h c_2
      refine aw_aload_n 0 dX1_look_92 rfl rfl ?_
      refine gf_X1_6 fl_X1_38 (lk3 hG) (lr3_6 hG) dX1_look_93 ?_
      refine gf_X5_0 fl_X1_46 (lk10 hG) (lr10_0 hG) dX1_look_96 ?_
      refine aw_aload_n 1 dX1_look_99 rfl rfl ?_
      refine gf_X3_1 fl_X1_83 ha1.1 ha1.2.1.2.1 dX1_look_100 ?_
      refine aw_iload_n 3 dX1_look_103 rfl rfl ?_
      obtain ⟨hi_3, h⟩ := h
      refine aw_ild dX1_look_104 ha1.2.2.2.1 ha1.2.2.2.2.2.2.1 hi_3 ?_
      refine aw_callS wv_X1_addAt (M_X1_addAt trivial ⟨(lk11 hG), (ln11 hG)⟩ h) ml_X1_80 rfl rfl (Nat.le_of_ble_eq_true rfl) ⟨rfl, rfl⟩ ⟨Nat.le_of_ble_eq_true rfl, Nat.le_of_ble_eq_true rfl⟩ ⟨Nat.le_refl _, Nat.le_refl _⟩ dX1_look_105 (aw_kv fun I_5 J_6 h => ?_)
      refine aw_sub [0, 1, 2, 3] rfl ?_
      exact t_X1_look_108 hG ha1 hK57 h
    · have h := sw_if.t h c_2
      refine aw_aload_n 0 dX1_look_73 rfl rfl ?_
      refine gf_X1_6 fl_X1_38 (lk3 hG) (lr3_6 hG) dX1_look_74 ?_
      refine gf_X5_1 fl_X1_55 (lk10 hG) (lr10_1 hG) dX1_look_77 ?_
      refine aw_aload_n 1 dX1_look_80 rfl rfl ?_
      refine gf_X3_0 fl_X1_77 ha1.1 ha1.2.1.1 dX1_look_81 ?_
      refine aw_iload_n 3 dX1_look_84 rfl rfl ?_
      obtain ⟨hi_7, h⟩ := h
      refine aw_ild dX1_look_85 ha1.2.2.1 ha1.2.2.2.2.2.1 hi_7 ?_
      refine aw_callS wv_X1_addAt (M_X1_addAt trivial ⟨(lk12 hG), (ln12 hG)⟩ h) ml_X1_80 rfl rfl (Nat.le_of_ble_eq_true rfl) ⟨rfl, rfl⟩ ⟨Nat.le_of_ble_eq_true rfl, Nat.le_of_ble_eq_true rfl⟩ ⟨Nat.le_refl _, Nat.le_refl _⟩ dX1_look_86 (aw_kv fun I_9 J_10 h => ?_)
      refine aw_goto 108 dX1_look_89 (by decide) ?_
      refine aw_sub [0, 1, 2, 3] rfl ?_
      exact t_X1_look_108 hG ha1 hK57 h
set_option maxRecDepth 20000 in
theorem tl_X1_look_57 {l : Launch} {D : va_G} {cy : Nat → ClassId} {sz : Nat} {G : sw_G} (hG : sw_lay G) {a1 : Nat} (ha1 : sw_mom G a1) {Q : sw_I → sw_J → Prop} : ∀ (n : Nat) (x2 : Int32) (x3 : Int32) (I : sw_I) (J : sw_J), wl_X1_look_57 a1  Q n x2 x3 I J → AW l D cy sz RX1 cX1_look 4 none false rm_X1_look 0 0 (sw_qv G Q) 0 0 G I J 57 [(0, .ref (sz + 3)), (1, .ref (sz + a1)), (2, .int x2), (3, .int x3)] [] := by
  intro n
  induction n with
  | zero => intro x2 x3 I J h; exact False.elim h
  | succ n ih => intro x2 x3 I J h; exact tb_X1_look_57 hG ha1 ih h
set_option maxRecDepth 20000 in
theorem t_X1_look {l : Launch} {D : va_G} {cy : Nat → ClassId} {sz : Nat} {G : sw_G} (hG : sw_lay G) {a1 : Nat} (ha1 : sw_mom G a1) {Q : sw_I → sw_J → Prop} {x2 : Int32} {I : sw_I} {J : sw_J} (h : wp_X1_look a1 x2 I J Q) : AW l D cy sz RX1 cX1_look 4 none false rm_X1_look 0 0 (sw_qv G Q) 0 0 G I J 0 [(0, .ref (sz + 3)), (1, .ref (sz + a1)), (2, .int x2)] [] := by
  unfold wp_X1_look at h
  refine aw_aload_n 0 dX1_look_0 rfl rfl ?_
  refine gf_X1_6 fl_X1_38 (lk3 hG) (lr3_6 hG) dX1_look_1 ?_
  refine gf_X5_0 fl_X1_46 (lk10 hG) (lr10_0 hG) dX1_look_4 ?_
  refine aw_iconst (v := 0) dX1_look_7 (by decide) ?_
  refine aw_callS wv_J7_fill_53178 (M_J7_fill_53178 trivial ⟨(lk11 hG), (ln11 hG)⟩ h) ml_X1_49 rfl rfl (Nat.le_of_ble_eq_true rfl) ⟨rfl, rfl⟩ ⟨Nat.le_of_ble_eq_true rfl, Nat.le_of_ble_eq_true rfl⟩ ⟨Nat.le_refl _, Nat.le_refl _⟩ dX1_look_8 (aw_kv fun I_2 J_3 h => ?_)
  refine aw_aload_n 0 dX1_look_11 rfl rfl ?_
  refine gf_X1_6 fl_X1_38 (lk3 hG) (lr3_6 hG) dX1_look_12 ?_
  refine gf_X5_1 fl_X1_55 (lk10 hG) (lr10_1 hG) dX1_look_15 ?_
  refine aw_iconst (v := 0) dX1_look_18 (by decide) ?_
  refine aw_callS wv_J7_fill_53178 (M_J7_fill_53178 trivial ⟨(lk12 hG), (ln12 hG)⟩ h) ml_X1_49 rfl rfl (Nat.le_of_ble_eq_true rfl) ⟨rfl, rfl⟩ ⟨Nat.le_of_ble_eq_true rfl, Nat.le_of_ble_eq_true rfl⟩ ⟨Nat.le_refl _, Nat.le_refl _⟩ dX1_look_19 (aw_kv fun I_5 J_6 h => ?_)
  refine aw_aload_n 0 dX1_look_22 rfl rfl ?_
  refine gf_X1_6 fl_X1_38 (lk3 hG) (lr3_6 hG) dX1_look_23 ?_
  refine aw_iload_n 2 dX1_look_26 rfl rfl ?_
  refine aw_callS wv_J6_bitCount_0f7a4 (M_J6_bitCount_0f7a4 trivial  h) ml_X1_58 rfl rfl (Nat.le_of_ble_eq_true rfl) ⟨rfl, rfl⟩ ⟨Nat.le_of_ble_eq_true rfl, Nat.le_of_ble_eq_true rfl⟩ ⟨Nat.le_refl _, Nat.le_refl _⟩ dX1_look_27 (aw_ki fun r_7 I_8 J_9 h => ?_)
  refine pf_X5_2 fl_X1_64 (lk10 hG) dX1_look_30 (aw_nameI fun I_10 e_11 => ?_)
  have h := h I_10 e_11
  refine aw_aload_n 0 dX1_look_33 rfl rfl ?_
  refine gf_X1_6 fl_X1_38 (lk3 hG) (lr3_6 hG) dX1_look_34 ?_
  refine aw_aload_n 1 dX1_look_37 rfl rfl ?_
  refine gf_X3_4 fl_X1_67 ha1.1 dX1_look_38 ?_
  refine pf_X5_3 fl_X1_72 (lk10 hG) dX1_look_41 (aw_nameI fun I_12 e_13 => ?_)
  have h := h I_12 e_13
  refine aw_aload_n 0 dX1_look_44 rfl rfl ?_
  refine gf_X1_6 fl_X1_38 (lk3 hG) (lr3_6 hG) dX1_look_45 ?_
  refine aw_aload_n 1 dX1_look_48 rfl rfl ?_
  refine gf_X3_5 fl_X1_73 ha1.1 dX1_look_49 ?_
  refine pf_X5_4 fl_X1_76 (lk10 hG) dX1_look_52 (aw_nameI fun I_14 e_15 => ?_)
  have h := h I_14 e_15
  refine aw_iconst (v := 0) dX1_look_55 (by decide) ?_
  refine aw_istore_n (lv' := [(3, .int 0), (0, .ref (sz + 3)), (1, .ref (sz + a1)), (2, .int x2)]) dX1_look_56 rfl (by decide) rfl ?_
  refine aw_sub [1, 2, 3, 0] rfl ?_
  obtain ⟨n_16, h⟩ := h
  exact tl_X1_look_57 hG ha1  n_16 x2 0 I_14 J_9 h
theorem M_X1_look {l : Launch} {D : va_G} {cy : Nat → ClassId} {sz : Nat} {G : sw_G} (hG : sw_lay G) {a1 : Nat} (ha1 : sw_mom G a1) {Q : sw_I → sw_J → Prop} {x2 : Int32} {I : sw_I} {J : sw_J} (h : wp_X1_look a1 x2 I J Q) : Met l yX1_look (Cond.code yX1_look cX1_look 4 none :: sw_T) rm_X1_look (sw_Pc D cy sz [.ref (sz + 3), .ref (sz + a1), .int x2] G I J) (sw_Q D cy sz (sw_qv G Q)) 0 0 (fun q => sz ≤ q) :=
  sw_met (by decide) (fun q => by cases q) (Nat.le_of_ble_eq_true rfl) rfl (t_X1_look hG ha1 h)
-- X1_flawOfLines
abbrev rm_X1_flawOfLines : Room := { frames := 2, cells := 0, slots := 0, locals := 44 }
def wB_X1_flawOfLines_127   (Q : Int32 → sw_I → sw_J → Prop) (s1 : Int32) (s2 : Int32) (I : sw_I) (J : sw_J) : Prop :=
  wp_X8_flawAtEnd s1 s2 I J (fun r_1 I_2 J_3 => Q r_1 I_2 J_3)
def wB_X1_flawOfLines_85  (K28 : Int32 → Int32 → Int32 → Int32 → Int32 → sw_I → sw_J → Prop) (Q : Int32 → sw_I → sw_J → Prop) (x2 : Int32) (x3 : Int32) (x4 : Int32) (x5 : Int32) (x6 : Int32) (x7 : Int32) (s0 : Int32) (I : sw_I) (J : sw_J) : Prop :=
  wp_X1_nextPlace x4 x7 s0 I J (fun r_1 I_2 J_3 => sw_if (r_1 < 0) (Q x6 I_2 J_3) (∀ y_5 : Int32, y_5 = x6 + 1 → K28 x2 x3 r_1 x5 y_5 I_2 J_3))
def wB_X1_flawOfLines_65  (K28 : Int32 → Int32 → Int32 → Int32 → Int32 → sw_I → sw_J → Prop) (Q : Int32 → sw_I → sw_J → Prop) (x2 : Int32) (x3 : Int32) (x4 : Int32) (x5 : Int32) (x6 : Int32) (x7 : Int32) (I : sw_I) (J : sw_J) : Prop :=
  wp_X8_at (x6 - (1 : Int32)) I J (fun r_1 I_2 J_3 => sw_if ((r_1 - (48 : Int32)) = x2) (wB_X1_flawOfLines_85  K28 Q x2 x3 x4 x5 x6 x7 1 I_2 J_3) (wB_X1_flawOfLines_85  K28 Q x2 x3 x4 x5 x6 x7 0 I_2 J_3))
def wb_X1_flawOfLines_28  (K28 : Int32 → Int32 → Int32 → Int32 → Int32 → sw_I → sw_J → Prop) (Q : Int32 → sw_I → sw_J → Prop) (x2 : Int32) (x3 : Int32) (x4 : Int32) (x5 : Int32) (x6 : Int32) (I : sw_I) (J : sw_J) : Prop :=
  sw_if (x6 < x3) (wp_X8_at x6 I J (fun r_3 I_4 J_5 => sw_if (x4 = 0) (∀ y_7 : Int32, y_7 = x5 + 1 → sw_if ((10 : Int32) < ((I_4 3 2) + y_7)) (Q x6 I_4 J_5) (wB_X1_flawOfLines_65  K28 Q x2 x3 x4 y_7 x6 r_3 I_4 J_5)) (wB_X1_flawOfLines_65  K28 Q x2 x3 x4 x5 x6 r_3 I_4 J_5))) (sw_if (x4 < (5 : Int32)) (wB_X1_flawOfLines_127   Q 76 0 I J) (wB_X1_flawOfLines_127   Q 76 1 I J))
def wl_X1_flawOfLines_28   (Q : Int32 → sw_I → sw_J → Prop) : Nat → Int32 → Int32 → Int32 → Int32 → Int32 → sw_I → sw_J → Prop
  | 0 => fun _ _ _ _ _ _ _ => False
  | n + 1 => fun x2 x3 x4 x5 x6 I J => wb_X1_flawOfLines_28  (wl_X1_flawOfLines_28   Q n) Q x2 x3 x4 x5 x6 I J
def wp_X1_flawOfLines (x2 : Int32) (I : sw_I) (J : sw_J) (Q : Int32 → sw_I → sw_J → Prop) : Prop :=
  sw_if ((I 1 1) = 0) (Q (-1 : Int32) I J) (∀ y_2 : Int32, y_2 = (if (76 : Int32) < (I 1 1) then (76 : Int32) else (I 1 1)) → ∃ n_4 : Nat, wl_X1_flawOfLines_28   Q n_4 x2 y_2 0 0 0 I J)
set_option maxRecDepth 20000 in
theorem t_X1_flawOfLines_127 {l : Launch} {D : va_G} {cy : Nat → ClassId} {sz : Nat} {G : sw_G} (hG : sw_lay G)   {Q : Int32 → sw_I → sw_J → Prop} {s1 : Int32} {s2 : Int32} {I : sw_I} {J : sw_J} (h : wB_X1_flawOfLines_127   Q s1 s2 I J) : AW l D cy sz RX1 cX1_flawOfLines 9 (some .int) false rm_X1_flawOfLines 0 0 (sw_qi G Q) 0 0 G I J 127 [] [.int s2, .int s1, .ref (sz + 1)] := by
  unfold wB_X1_flawOfLines_127 at h
  refine aw_callV wv_X8_flawAtEnd (M_X8_flawAtEnd hG  h) ml_X1_130 rfl (by decide) (lk1 hG) rfl rfl (Nat.le_of_ble_eq_true rfl) ⟨rfl, rfl⟩ ⟨Nat.le_of_ble_eq_true rfl, Nat.le_of_ble_eq_true rfl⟩ ⟨Nat.le_refl _, Nat.le_refl _⟩ dX1_flawOfLines_127 (aw_ki fun r_1 I_2 J_3 h => ?_)
  exact aw_iret rfl dX1_flawOfLines_130 ⟨rfl, _, rfl, h⟩
set_option maxRecDepth 20000 in
theorem t_X1_flawOfLines_85 {l : Launch} {D : va_G} {cy : Nat → ClassId} {sz : Nat} {G : sw_G} (hG : sw_lay G)   {Q : Int32 → sw_I → sw_J → Prop} {K28 : Int32 → Int32 → Int32 → Int32 → Int32 → sw_I → sw_J → Prop} (hK28 : ∀ (x2 : Int32) (x3 : Int32) (x4 : Int32) (x5 : Int32) (x6 : Int32) (I : sw_I) (J : sw_J), K28 x2 x3 x4 x5 x6 I J → AW l D cy sz RX1 cX1_flawOfLines 9 (some .int) false rm_X1_flawOfLines 0 0 (sw_qi G Q) 0 0 G I J 28 [(0, .ref (sz + 3)), (1, .ref (sz + 1)), (2, .int x2), (3, .int x3), (4, .int x4), (5, .int x5), (6, .int x6)] []) {x2 : Int32} {x3 : Int32} {x4 : Int32} {x5 : Int32} {x6 : Int32} {x7 : Int32} {s0 : Int32} {I : sw_I} {J : sw_J} (h : wB_X1_flawOfLines_85  K28 Q x2 x3 x4 x5 x6 x7 s0 I J) : AW l D cy sz RX1 cX1_flawOfLines 9 (some .int) false rm_X1_flawOfLines 0 0 (sw_qi G Q) 0 0 G I J 85 [(0, .ref (sz + 3)), (1, .ref (sz + 1)), (2, .int x2), (3, .int x3), (4, .int x4), (5, .int x5), (6, .int x6), (7, .int x7)] [.int s0] := by
  unfold wB_X1_flawOfLines_85 at h
  refine aw_istore (lv' := [(8, .int s0), (0, .ref (sz + 3)), (1, .ref (sz + 1)), (2, .int x2), (3, .int x3), (4, .int x4), (5, .int x5), (6, .int x6), (7, .int x7)]) dX1_flawOfLines_85 (by decide) rfl ?_
  refine aw_aload_n 1 dX1_flawOfLines_87 rfl rfl ?_
  refine aw_iload 5 dX1_flawOfLines_88 rfl ?_
  refine aw_iload 8 dX1_flawOfLines_90 rfl ?_
  refine aw_iload 0 dX1_flawOfLines_92 rfl ?_
  refine aw_callV wv_X1_nextPlace (M_X1_nextPlace hG  h) ml_X1_126 rfl (by decide) (lk3 hG) rfl rfl (Nat.le_of_ble_eq_true rfl) ⟨rfl, rfl⟩ ⟨Nat.le_of_ble_eq_true rfl, Nat.le_of_ble_eq_true rfl⟩ ⟨Nat.le_refl _, Nat.le_refl _⟩ dX1_flawOfLines_94 (aw_ki fun r_1 I_2 J_3 h => ?_)
  refine aw_istore (lv' := [(4, .int r_1), (8, .int s0), (0, .ref (sz + 3)), (1, .ref (sz + 1)), (2, .int x2), (3, .int x3), (5, .int x5), (6, .int x6), (7, .int x7)]) dX1_flawOfLines_97 (by decide) rfl ?_
  refine aw_iload 0 dX1_flawOfLines_99 rfl ?_
  refine aw_zge 107 dX1_flawOfLines_101 (by decide) (fun c_4 => ?_) (fun c_4 => ?_)
  · have h := sw_if.f h c_4
    obtain ⟨y_5, e_6⟩ : ∃ q : Int32, q = x6 + 1 := ⟨_, rfl⟩
    have h := h y_5 e_6
    refine aw_iinc (lv' := [(6, .int y_5), (4, .int r_1), (8, .int s0), (0, .ref (sz + 3)), (1, .ref (sz + 1)), (2, .int x2), (3, .int x3), (5, .int x5), (7, .int x7)]) 7 dX1_flawOfLines_107 rfl (by rw [e_6]; rfl) (by decide) rfl ?_
    refine aw_goto 28 dX1_flawOfLines_110 (by decide) ?_
    refine aw_sub [3, 4, 5, 6, 1, 7, 0] rfl ?_
    exact hK28 x2 x3 r_1 x5 y_5 I_2 J_3 h
  · have h := sw_if.t h c_4
    refine aw_iload 7 dX1_flawOfLines_104 rfl ?_
    exact aw_iret rfl dX1_flawOfLines_106 ⟨rfl, _, rfl, h⟩
set_option maxRecDepth 20000 in
theorem t_X1_flawOfLines_65 {l : Launch} {D : va_G} {cy : Nat → ClassId} {sz : Nat} {G : sw_G} (hG : sw_lay G)   {Q : Int32 → sw_I → sw_J → Prop} {K28 : Int32 → Int32 → Int32 → Int32 → Int32 → sw_I → sw_J → Prop} (hK28 : ∀ (x2 : Int32) (x3 : Int32) (x4 : Int32) (x5 : Int32) (x6 : Int32) (I : sw_I) (J : sw_J), K28 x2 x3 x4 x5 x6 I J → AW l D cy sz RX1 cX1_flawOfLines 9 (some .int) false rm_X1_flawOfLines 0 0 (sw_qi G Q) 0 0 G I J 28 [(0, .ref (sz + 3)), (1, .ref (sz + 1)), (2, .int x2), (3, .int x3), (4, .int x4), (5, .int x5), (6, .int x6)] []) {x2 : Int32} {x3 : Int32} {x4 : Int32} {x5 : Int32} {x6 : Int32} {x7 : Int32} {I : sw_I} {J : sw_J} (h : wB_X1_flawOfLines_65  K28 Q x2 x3 x4 x5 x6 x7 I J) : AW l D cy sz RX1 cX1_flawOfLines 9 (some .int) false rm_X1_flawOfLines 0 0 (sw_qi G Q) 0 0 G I J 65 [(0, .ref (sz + 3)), (1, .ref (sz + 1)), (2, .int x2), (3, .int x3), (4, .int x4), (5, .int x5), (6, .int x6), (7, .int x7)] [] := by
  unfold wB_X1_flawOfLines_65 at h
  refine aw_aload_n 1 dX1_flawOfLines_65 rfl rfl ?_
  refine aw_iload 6 dX1_flawOfLines_66 rfl ?_
  refine aw_iconst (v := 1) dX1_flawOfLines_68 (by decide) ?_
  refine aw_isub dX1_flawOfLines_69 ?_
  refine aw_callV wv_X8_at (M_X8_at hG  h) ml_X1_124 rfl (by decide) (lk1 hG) rfl rfl (Nat.le_of_ble_eq_true rfl) ⟨rfl, rfl⟩ ⟨Nat.le_of_ble_eq_true rfl, Nat.le_of_ble_eq_true rfl⟩ ⟨Nat.le_refl _, Nat.le_refl _⟩ dX1_flawOfLines_70 (aw_ki fun r_1 I_2 J_3 h => ?_)
  refine aw_bipush (v := 48) dX1_flawOfLines_73 (by decide) ?_
  refine aw_isub dX1_flawOfLines_75 ?_
  refine aw_iload_n 2 dX1_flawOfLines_76 rfl rfl ?_
  refine aw_jne 84 dX1_flawOfLines_77 (by decide) (fun c_4 => ?_) (fun c_4 => ?_)
  · have h := sw_if.f h c_4
    refine aw_iconst (v := 0) dX1_flawOfLines_84 (by decide) ?_
    refine aw_sub [0, 1, 2, 3, 4, 5, 6, 7] rfl ?_
    exact t_X1_flawOfLines_85 hG  hK28 h
  · have h := sw_if.t h c_4
    refine aw_iconst (v := 1) dX1_flawOfLines_80 (by decide) ?_
    refine aw_goto 85 dX1_flawOfLines_81 (by decide) ?_
    refine aw_sub [0, 1, 2, 3, 4, 5, 6, 7] rfl ?_
    exact t_X1_flawOfLines_85 hG  hK28 h
set_option maxRecDepth 20000 in
theorem tb_X1_flawOfLines_28 {l : Launch} {D : va_G} {cy : Nat → ClassId} {sz : Nat} {G : sw_G} (hG : sw_lay G)   {Q : Int32 → sw_I → sw_J → Prop} {K28 : Int32 → Int32 → Int32 → Int32 → Int32 → sw_I → sw_J → Prop} (hK28 : ∀ (x2 : Int32) (x3 : Int32) (x4 : Int32) (x5 : Int32) (x6 : Int32) (I : sw_I) (J : sw_J), K28 x2 x3 x4 x5 x6 I J → AW l D cy sz RX1 cX1_flawOfLines 9 (some .int) false rm_X1_flawOfLines 0 0 (sw_qi G Q) 0 0 G I J 28 [(0, .ref (sz + 3)), (1, .ref (sz + 1)), (2, .int x2), (3, .int x3), (4, .int x4), (5, .int x5), (6, .int x6)] []) {x2 : Int32} {x3 : Int32} {x4 : Int32} {x5 : Int32} {x6 : Int32} {I : sw_I} {J : sw_J} (h : wb_X1_flawOfLines_28  K28 Q x2 x3 x4 x5 x6 I J) : AW l D cy sz RX1 cX1_flawOfLines 9 (some .int) false rm_X1_flawOfLines 0 0 (sw_qi G Q) 0 0 G I J 28 [(0, .ref (sz + 3)), (1, .ref (sz + 1)), (2, .int x2), (3, .int x3), (4, .int x4), (5, .int x5), (6, .int x6)] [] := by
  unfold wb_X1_flawOfLines_28 at h
  refine aw_iload 6 dX1_flawOfLines_28 rfl ?_
  refine aw_iload_n 3 dX1_flawOfLines_30 rfl rfl ?_
  refine aw_jge 113 dX1_flawOfLines_31 (by decide) (fun c_1 => ?_) (fun c_1 => ?_)
  · have h := sw_if.f h c_1
    refine aw_aload_n 1 dX1_flawOfLines_113 rfl rfl ?_
    refine aw_bipush (v := 76) dX1_flawOfLines_114 (by decide) ?_
    refine aw_iload 4 dX1_flawOfLines_116 rfl ?_
    refine aw_iconst (v := 5) dX1_flawOfLines_118 (by decide) ?_
    refine aw_jlt 126 dX1_flawOfLines_119 (by decide) (fun c_2 => ?_) (fun c_2 => ?_)
    · have h := sw_if.t h c_2
      refine aw_iconst (v := 0) dX1_flawOfLines_126 (by decide) ?_
      refine aw_sub [] rfl ?_
      exact t_X1_flawOfLines_127 hG   h
    · have h := sw_if.f h c_2
      refine aw_iconst (v := 1) dX1_flawOfLines_122 (by decide) ?_
      refine aw_goto 127 dX1_flawOfLines_123 (by decide) ?_
      refine aw_sub [] rfl ?_
      exact t_X1_flawOfLines_127 hG   h
  · have h := sw_if.t h c_1
    refine aw_aload_n 1 dX1_flawOfLines_34 rfl rfl ?_
    refine aw_iload 6 dX1_flawOfLines_35 rfl ?_
    refine aw_callV wv_X8_at (M_X8_at hG  h) ml_X1_124 rfl (by decide) (lk1 hG) rfl rfl (Nat.le_of_ble_eq_true rfl) ⟨rfl, rfl⟩ ⟨Nat.le_of_ble_eq_true rfl, Nat.le_of_ble_eq_true rfl⟩ ⟨Nat.le_refl _, Nat.le_refl _⟩ dX1_flawOfLines_37 (aw_ki fun r_3 I_4 J_5 h => ?_)
    refine aw_istore (lv' := [(7, .int r_3), (0, .ref (sz + 3)), (1, .ref (sz + 1)), (2, .int x2), (3, .int x3), (4, .int x4), (5, .int x5), (6, .int x6)]) dX1_flawOfLines_40 (by decide) rfl ?_
    refine aw_iload 5 dX1_flawOfLines_42 rfl ?_
    refine aw_zne 65 dX1_flawOfLines_44 (by decide) (fun c_6 => ?_) (fun c_6 => ?_)
    · have h := sw_if.f h c_6
      refine aw_sub [1, 2, 3, 4, 5, 6, 7, 0] rfl ?_
      exact t_X1_flawOfLines_65 hG  hK28 h
    · have h := sw_if.t h c_6
      obtain ⟨y_7, e_8⟩ : ∃ q : Int32, q = x5 + 1 := ⟨_, rfl⟩
      have h := h y_7 e_8
      refine aw_iinc (lv' := [(5, .int y_7), (7, .int r_3), (0, .ref (sz + 3)), (1, .ref (sz + 1)), (2, .int x2), (3, .int x3), (4, .int x4), (6, .int x6)]) 6 dX1_flawOfLines_47 rfl (by rw [e_8]; rfl) (by decide) rfl ?_
      refine aw_aload_n 2 dX1_flawOfLines_50 rfl rfl ?_
      refine gf_X1_2 fl_X1_18 (lk3 hG) dX1_flawOfLines_51 ?_
      refine aw_iload 0 dX1_flawOfLines_54 rfl ?_
      refine aw_iadd dX1_flawOfLines_56 ?_
      refine aw_bipush (v := 10) dX1_flawOfLines_57 (by decide) ?_
      refine aw_jle 65 dX1_flawOfLines_59 (by decide) (fun c_9 => ?_) (fun c_9 => ?_)
      · have h := sw_if.f h c_9
        refine aw_sub [2, 3, 4, 5, 6, 0, 7, 1] rfl ?_
        exact t_X1_flawOfLines_65 hG  hK28 h
      · have h := sw_if.t h c_9
        refine aw_iload 7 dX1_flawOfLines_62 rfl ?_
        exact aw_iret rfl dX1_flawOfLines_64 ⟨rfl, _, rfl, h⟩
set_option maxRecDepth 20000 in
theorem tl_X1_flawOfLines_28 {l : Launch} {D : va_G} {cy : Nat → ClassId} {sz : Nat} {G : sw_G} (hG : sw_lay G)   {Q : Int32 → sw_I → sw_J → Prop} : ∀ (n : Nat) (x2 : Int32) (x3 : Int32) (x4 : Int32) (x5 : Int32) (x6 : Int32) (I : sw_I) (J : sw_J), wl_X1_flawOfLines_28   Q n x2 x3 x4 x5 x6 I J → AW l D cy sz RX1 cX1_flawOfLines 9 (some .int) false rm_X1_flawOfLines 0 0 (sw_qi G Q) 0 0 G I J 28 [(0, .ref (sz + 3)), (1, .ref (sz + 1)), (2, .int x2), (3, .int x3), (4, .int x4), (5, .int x5), (6, .int x6)] [] := by
  intro n
  induction n with
  | zero => intro x2 x3 x4 x5 x6 I J h; exact False.elim h
  | succ n ih => intro x2 x3 x4 x5 x6 I J h; exact tb_X1_flawOfLines_28 hG  ih h
set_option maxRecDepth 20000 in
theorem t_X1_flawOfLines {l : Launch} {D : va_G} {cy : Nat → ClassId} {sz : Nat} {G : sw_G} (hG : sw_lay G)   {Q : Int32 → sw_I → sw_J → Prop} {x2 : Int32} {I : sw_I} {J : sw_J} (h : wp_X1_flawOfLines x2 I J Q) : AW l D cy sz RX1 cX1_flawOfLines 9 (some .int) false rm_X1_flawOfLines 0 0 (sw_qi G Q) 0 0 G I J 0 [(0, .ref (sz + 3)), (1, .ref (sz + 1)), (2, .int x2)] [] := by
  unfold wp_X1_flawOfLines at h
  refine aw_aload_n 1 dX1_flawOfLines_0 rfl rfl ?_
  refine gf_X8_1 fl_X1_116 (lk1 hG) dX1_flawOfLines_1 ?_
  refine aw_zne 9 dX1_flawOfLines_4 (by decide) (fun c_1 => ?_) (fun c_1 => ?_)
  · have h := sw_if.f h c_1
    refine aw_aload_n 1 dX1_flawOfLines_9 rfl rfl ?_
    refine gf_X8_1 fl_X1_116 (lk1 hG) dX1_flawOfLines_10 ?_
    refine aw_bipush (v := 76) dX1_flawOfLines_13 (by decide) ?_
    refine aw_mmin mm_X1_121 wm_min (Nat.le_of_ble_eq_true rfl) (Nat.le_of_ble_eq_true rfl) ⟨Nat.le_refl _, Nat.le_refl _⟩ dX1_flawOfLines_15 ?_
    refine aw_topi (fun y_2 e_3 => ?_)
    have h := h y_2 e_3
    refine aw_istore_n (lv' := [(3, .int y_2), (0, .ref (sz + 3)), (1, .ref (sz + 1)), (2, .int x2)]) dX1_flawOfLines_18 rfl (by decide) rfl ?_
    refine aw_iconst (v := 0) dX1_flawOfLines_19 (by decide) ?_
    refine aw_istore (lv' := [(4, .int 0), (3, .int y_2), (0, .ref (sz + 3)), (1, .ref (sz + 1)), (2, .int x2)]) dX1_flawOfLines_20 (by decide) rfl ?_
    refine aw_iconst (v := 0) dX1_flawOfLines_22 (by decide) ?_
    refine aw_istore (lv' := [(5, .int 0), (4, .int 0), (3, .int y_2), (0, .ref (sz + 3)), (1, .ref (sz + 1)), (2, .int x2)]) dX1_flawOfLines_23 (by decide) rfl ?_
    refine aw_iconst (v := 0) dX1_flawOfLines_25 (by decide) ?_
    refine aw_istore (lv' := [(6, .int 0), (5, .int 0), (4, .int 0), (3, .int y_2), (0, .ref (sz + 3)), (1, .ref (sz + 1)), (2, .int x2)]) dX1_flawOfLines_26 (by decide) rfl ?_
    refine aw_sub [4, 5, 6, 3, 2, 1, 0] rfl ?_
    obtain ⟨n_4, h⟩ := h
    exact tl_X1_flawOfLines_28 hG   n_4 x2 y_2 0 0 0 I J h
  · have h := sw_if.t h c_1
    refine aw_iconst (v := (-1)) dX1_flawOfLines_7 (by decide) ?_
    exact aw_iret rfl dX1_flawOfLines_8 ⟨rfl, _, rfl, h⟩
theorem M_X1_flawOfLines {l : Launch} {D : va_G} {cy : Nat → ClassId} {sz : Nat} {G : sw_G} (hG : sw_lay G)   {Q : Int32 → sw_I → sw_J → Prop} {x2 : Int32} {I : sw_I} {J : sw_J} (h : wp_X1_flawOfLines x2 I J Q) : Met l yX1_flawOfLines (Cond.code yX1_flawOfLines cX1_flawOfLines 9 (some .int) :: sw_T) rm_X1_flawOfLines (sw_Pc D cy sz [.ref (sz + 3), .ref (sz + 1), .int x2] G I J) (sw_Q D cy sz (sw_qi G Q)) 0 0 (fun q => sz ≤ q) :=
  sw_met (by decide) (fun q => by cases q) (Nat.le_of_ble_eq_true rfl) rfl (t_X1_flawOfLines hG  h)
