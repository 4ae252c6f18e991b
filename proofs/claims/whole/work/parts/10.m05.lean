-- X2_flawOf
abbrev rm_X2_flawOf : Room := { frames := 2, cells := 0, slots := 0, locals := 40 }
def wB_X2_flawOf_229   (Q : Int32 → sw_I → sw_J → Prop) (s1 : Int32) (s2 : Int32) (I : sw_I) (J : sw_J) : Prop :=
  wp_X8_flawAtEnd s1 s2 I J (fun r_1 I_2 J_3 => Q r_1 I_2 J_3)
def wB_X2_flawOf_228   (Q : Int32 → sw_I → sw_J → Prop) (s1 : Int32) (I : sw_I) (J : sw_J) : Prop :=
  wB_X2_flawOf_229   Q s1 0 I J
def wB_X2_flawOf_206  (K33 : Int32 → Int32 → Int32 → Int32 → Int32 → Int32 → sw_I → sw_J → Prop) (Q : Int32 → sw_I → sw_J → Prop) (x2 : Int32) (x3 : Int32) (x4 : Int32) (x5 : Int32) (x6 : Int32) (x7 : Int32) (I : sw_I) (J : sw_J) : Prop :=
  ∀ y_1 : Int32, y_1 = x7 + 1 → K33 x2 x3 x4 x5 x6 y_1 I J
def wB_X2_flawOf_191  (K33 : Int32 → Int32 → Int32 → Int32 → Int32 → Int32 → sw_I → sw_J → Prop) (Q : Int32 → sw_I → sw_J → Prop) (x2 : Int32) (x3 : Int32) (x4 : Int32) (x5 : Int32) (x6 : Int32) (x7 : Int32) (I : sw_I) (J : sw_J) : Prop :=
  sw_if (x6 < (2 : Int32)) (Q x7 I J) (sw_if ((3 : Int32) < x6) (Q x7 I J) (wB_X2_flawOf_206  K33 Q x2 x3 x4 x5 x6 x7 I J))
def wB_X2_flawOf_168  (K33 : Int32 → Int32 → Int32 → Int32 → Int32 → Int32 → sw_I → sw_J → Prop) (Q : Int32 → sw_I → sw_J → Prop) (x2 : Int32) (x4 : Int32) (x5 : Int32) (x6 : Int32) (x7 : Int32) (I : sw_I) (J : sw_J) : Prop :=
  wB_X2_flawOf_206  K33 Q x2 1 x4 x5 x6 x7 I J
def wB_X2_flawOf_115  (K33 : Int32 → Int32 → Int32 → Int32 → Int32 → Int32 → sw_I → sw_J → Prop) (Q : Int32 → sw_I → sw_J → Prop) (x2 : Int32) (x4 : Int32) (x5 : Int32) (x6 : Int32) (x7 : Int32) (I : sw_I) (J : sw_J) : Prop :=
  wB_X2_flawOf_206  K33 Q x2 0 x4 x5 x6 x7 I J
def wB_X2_flawOf_99  (K33 : Int32 → Int32 → Int32 → Int32 → Int32 → Int32 → sw_I → sw_J → Prop) (Q : Int32 → sw_I → sw_J → Prop) (x2 : Int32) (x3 : Int32) (x4 : Int32) (x5 : Int32) (x6 : Int32) (x7 : Int32) (x8 : Int32) (I : sw_I) (J : sw_J) : Prop :=
  wp_X2_isDigit x8 I J (fun r_1 I_2 J_3 => sw_if (r_1 = 0) (wp_X2_isName x8 I_2 J_3 (fun r_5 I_6 J_7 => sw_if (r_5 = 0) (sw_if (x8 = (45 : Int32)) (wB_X2_flawOf_206  K33 Q x2 x3 x4 x5 x6 x7 I_6 J_7) (Q x7 I_6 J_7)) (wB_X2_flawOf_115  K33 Q x2 x4 x5 x6 x7 I_6 J_7))) (wB_X2_flawOf_115  K33 Q x2 x4 x5 x6 x7 I_2 J_3))
def wB_X2_flawOf_63  (K33 : Int32 → Int32 → Int32 → Int32 → Int32 → Int32 → sw_I → sw_J → Prop) (Q : Int32 → sw_I → sw_J → Prop) (x2 : Int32) (x3 : Int32) (x4 : Int32) (x5 : Int32) (x7 : Int32) (x8 : Int32) (s0 : Int32) (I : sw_I) (J : sw_J) : Prop :=
  sw_if (x3 = 0) (wp_X2_joinsTwo x8 I J (fun r_2 I_3 J_4 => sw_if (r_2 = 0) (sw_if (x8 = (41 : Int32)) (sw_if (0 < x4) (∀ y_8 : Int32, y_8 = x4 + (-1) → wB_X2_flawOf_206  K33 Q x2 x3 y_8 x5 s0 x7 I_3 J_4) (wB_X2_flawOf_191  K33 Q x2 x3 x4 x5 s0 x7 I_3 J_4)) (wB_X2_flawOf_191  K33 Q x2 x3 x4 x5 s0 x7 I_3 J_4)) (wp_X2_compares x8 I_3 J_4 (fun r_10 I_11 J_12 => sw_if (r_10 = 0) (wB_X2_flawOf_168  K33 Q x2 x4 x5 s0 x7 I_11 J_12) (sw_if (((x5 >>> (x4 &&& 31)) &&& (1 : Int32)) = 0) (∀ y_15 : Int32, y_15 = x5 ||| ((1 : Int32) <<< (x4 &&& 31)) → wB_X2_flawOf_168  K33 Q x2 x4 y_15 s0 x7 I_11 J_12) (Q x7 I_11 J_12)))))) (sw_if (x8 = (40 : Int32)) (sw_if (x4 < (4 : Int32)) (∀ y_19 : Int32, y_19 = x4 + 1 → ∀ y_21 : Int32, y_21 = x5 &&& (((1 : Int32) <<< (y_19 &&& 31)) ^^^ (-1 : Int32)) → wB_X2_flawOf_206  K33 Q x2 x3 y_19 y_21 s0 x7 I J) (wB_X2_flawOf_99  K33 Q x2 x3 x4 x5 s0 x7 x8 I J)) (wB_X2_flawOf_99  K33 Q x2 x3 x4 x5 s0 x7 x8 I J))
def wb_X2_flawOf_33  (K33 : Int32 → Int32 → Int32 → Int32 → Int32 → Int32 → sw_I → sw_J → Prop) (Q : Int32 → sw_I → sw_J → Prop) (x2 : Int32) (x3 : Int32) (x4 : Int32) (x5 : Int32) (x6 : Int32) (x7 : Int32) (I : sw_I) (J : sw_J) : Prop :=
  sw_if (x7 < x2) (wp_X8_at x7 I J (fun r_4 I_5 J_6 => wp_X2_isDigit r_4 I_5 J_6 (fun r_7 I_8 J_9 => sw_if (r_7 = 0) (wB_X2_flawOf_63  K33 Q x2 x3 x4 x5 x7 r_4 0 I_8 J_9) (wB_X2_flawOf_63  K33 Q x2 x3 x4 x5 x7 r_4 (x6 + (1 : Int32)) I_8 J_9)))) (sw_if (x3 = 0) (sw_if (x4 = 0) (wB_X2_flawOf_229   Q 40 1 I J) (wB_X2_flawOf_228   Q 40 I J)) (wB_X2_flawOf_228   Q 40 I J))
def wl_X2_flawOf_33   (Q : Int32 → sw_I → sw_J → Prop) : Nat → Int32 → Int32 → Int32 → Int32 → Int32 → Int32 → sw_I → sw_J → Prop
  | 0 => fun _ _ _ _ _ _ _ _ => False
  | n + 1 => fun x2 x3 x4 x5 x6 x7 I J => wb_X2_flawOf_33  (wl_X2_flawOf_33   Q n) Q x2 x3 x4 x5 x6 x7 I J
def wp_X2_flawOf  (I : sw_I) (J : sw_J) (Q : Int32 → sw_I → sw_J → Prop) : Prop :=
  sw_if ((I 1 1) = 0) (Q (-1 : Int32) I J) (∀ y_2 : Int32, y_2 = (if (40 : Int32) < (I 1 1) then (40 : Int32) else (I 1 1)) → ∃ n_4 : Nat, wl_X2_flawOf_33   Q n_4 y_2 1 0 0 0 0 I J)
set_option maxRecDepth 20000 in
theorem t_X2_flawOf_229 {l : Launch} {D : va_G} {cy : Nat → ClassId} {sz : Nat} {G : sw_G} (hG : sw_lay G)   {Q : Int32 → sw_I → sw_J → Prop} {s1 : Int32} {s2 : Int32} {I : sw_I} {J : sw_J} (h : wB_X2_flawOf_229   Q s1 s2 I J) : AW l D cy sz RX2 cX2_flawOf 9 (some .int) false rm_X2_flawOf 0 0 (sw_qi G Q) 0 0 G I J 229 [] [.int s2, .int s1, .ref (sz + 1)] := by
  unfold wB_X2_flawOf_229 at h
  refine aw_callV wv_X8_flawAtEnd (M_X8_flawAtEnd hG  h) ml_X2_58 rfl (by decide) (lk1 hG) rfl rfl (Nat.le_of_ble_eq_true rfl) ⟨rfl, rfl⟩ ⟨Nat.le_of_ble_eq_true rfl, Nat.le_of_ble_eq_true rfl⟩ ⟨Nat.le_refl _, Nat.le_refl _⟩ dX2_flawOf_229 (aw_ki fun r_1 I_2 J_3 h => ?_)
  exact aw_iret rfl dX2_flawOf_232 ⟨rfl, _, rfl, h⟩
set_option maxRecDepth 20000 in
theorem t_X2_flawOf_228 {l : Launch} {D : va_G} {cy : Nat → ClassId} {sz : Nat} {G : sw_G} (hG : sw_lay G)   {Q : Int32 → sw_I → sw_J → Prop} {s1 : Int32} {I : sw_I} {J : sw_J} (h : wB_X2_flawOf_228   Q s1 I J) : AW l D cy sz RX2 cX2_flawOf 9 (some .int) false rm_X2_flawOf 0 0 (sw_qi G Q) 0 0 G I J 228 [] [.int s1, .ref (sz + 1)] := by
  unfold wB_X2_flawOf_228 at h
  refine aw_iconst (v := 0) dX2_flawOf_228 (by decide) ?_
  refine aw_sub [] rfl ?_
  exact t_X2_flawOf_229 hG   h
set_option maxRecDepth 20000 in
theorem t_X2_flawOf_206 {l : Launch} {D : va_G} {cy : Nat → ClassId} {sz : Nat} {G : sw_G} (hG : sw_lay G)   {Q : Int32 → sw_I → sw_J → Prop} {K33 : Int32 → Int32 → Int32 → Int32 → Int32 → Int32 → sw_I → sw_J → Prop} (hK33 : ∀ (x2 : Int32) (x3 : Int32) (x4 : Int32) (x5 : Int32) (x6 : Int32) (x7 : Int32) (I : sw_I) (J : sw_J), K33 x2 x3 x4 x5 x6 x7 I J → AW l D cy sz RX2 cX2_flawOf 9 (some .int) false rm_X2_flawOf 0 0 (sw_qi G Q) 0 0 G I J 33 [(1, .ref (sz + 1)), (2, .int x2), (3, .int x3), (4, .int x4), (5, .int x5), (6, .int x6), (7, .int x7)] []) {x2 : Int32} {x3 : Int32} {x4 : Int32} {x5 : Int32} {x6 : Int32} {x7 : Int32} {I : sw_I} {J : sw_J} (h : wB_X2_flawOf_206  K33 Q x2 x3 x4 x5 x6 x7 I J) : AW l D cy sz RX2 cX2_flawOf 9 (some .int) false rm_X2_flawOf 0 0 (sw_qi G Q) 0 0 G I J 206 [(1, .ref (sz + 1)), (2, .int x2), (3, .int x3), (4, .int x4), (5, .int x5), (6, .int x6), (7, .int x7)] [] := by
  unfold wB_X2_flawOf_206 at h
  obtain ⟨y_1, e_2⟩ : ∃ q : Int32, q = x7 + 1 := ⟨_, rfl⟩
  have h := h y_1 e_2
  refine aw_iinc (lv' := [(7, .int y_1), (1, .ref (sz + 1)), (2, .int x2), (3, .int x3), (4, .int x4), (5, .int x5), (6, .int x6)]) 6 dX2_flawOf_206 rfl (by rw [e_2]; rfl) (by decide) rfl ?_
  refine aw_goto 33 dX2_flawOf_209 (by decide) ?_
  refine aw_sub [1, 2, 3, 4, 5, 6, 0] rfl ?_
  exact hK33 x2 x3 x4 x5 x6 y_1 I J h
set_option maxRecDepth 20000 in
theorem t_X2_flawOf_191 {l : Launch} {D : va_G} {cy : Nat → ClassId} {sz : Nat} {G : sw_G} (hG : sw_lay G)   {Q : Int32 → sw_I → sw_J → Prop} {K33 : Int32 → Int32 → Int32 → Int32 → Int32 → Int32 → sw_I → sw_J → Prop} (hK33 : ∀ (x2 : Int32) (x3 : Int32) (x4 : Int32) (x5 : Int32) (x6 : Int32) (x7 : Int32) (I : sw_I) (J : sw_J), K33 x2 x3 x4 x5 x6 x7 I J → AW l D cy sz RX2 cX2_flawOf 9 (some .int) false rm_X2_flawOf 0 0 (sw_qi G Q) 0 0 G I J 33 [(1, .ref (sz + 1)), (2, .int x2), (3, .int x3), (4, .int x4), (5, .int x5), (6, .int x6), (7, .int x7)] []) {x2 : Int32} {x3 : Int32} {x4 : Int32} {x5 : Int32} {x6 : Int32} {x7 : Int32} {I : sw_I} {J : sw_J} (h : wB_X2_flawOf_191  K33 Q x2 x3 x4 x5 x6 x7 I J) : AW l D cy sz RX2 cX2_flawOf 9 (some .int) false rm_X2_flawOf 0 0 (sw_qi G Q) 0 0 G I J 191 [(1, .ref (sz + 1)), (2, .int x2), (3, .int x3), (4, .int x4), (5, .int x5), (6, .int x6), (7, .int x7)] [] := by
  unfold wB_X2_flawOf_191 at h
  refine aw_iload 5 dX2_flawOf_191 rfl ?_
  refine aw_iconst (v := 2) dX2_flawOf_193 (by decide) ?_
  refine aw_jlt 203 dX2_flawOf_194 (by decide) (fun c_1 => ?_) (fun c_1 => ?_)
  · have h := sw_if.t h c_1
    refine aw_iload 6 dX2_flawOf_203 rfl ?_
    exact aw_iret rfl dX2_flawOf_205 ⟨rfl, _, rfl, h⟩
  · have h := sw_if.f h c_1
    refine aw_iload 5 dX2_flawOf_197 rfl ?_
    refine aw_iconst (v := 3) dX2_flawOf_199 (by decide) ?_
    refine aw_jle 206 dX2_flawOf_200 (by decide) (fun c_2 => ?_) (fun c_2 => ?_)
    · have h := sw_if.f h c_2
      refine aw_sub [0, 1, 2, 3, 4, 5, 6] rfl ?_
      exact t_X2_flawOf_206 hG  hK33 h
    · have h := sw_if.t h c_2
      refine aw_iload 6 dX2_flawOf_203 rfl ?_
      exact aw_iret rfl dX2_flawOf_205 ⟨rfl, _, rfl, h⟩
set_option maxRecDepth 20000 in
theorem t_X2_flawOf_168 {l : Launch} {D : va_G} {cy : Nat → ClassId} {sz : Nat} {G : sw_G} (hG : sw_lay G)   {Q : Int32 → sw_I → sw_J → Prop} {K33 : Int32 → Int32 → Int32 → Int32 → Int32 → Int32 → sw_I → sw_J → Prop} (hK33 : ∀ (x2 : Int32) (x3 : Int32) (x4 : Int32) (x5 : Int32) (x6 : Int32) (x7 : Int32) (I : sw_I) (J : sw_J), K33 x2 x3 x4 x5 x6 x7 I J → AW l D cy sz RX2 cX2_flawOf 9 (some .int) false rm_X2_flawOf 0 0 (sw_qi G Q) 0 0 G I J 33 [(1, .ref (sz + 1)), (2, .int x2), (3, .int x3), (4, .int x4), (5, .int x5), (6, .int x6), (7, .int x7)] []) {x2 : Int32} {x4 : Int32} {x5 : Int32} {x6 : Int32} {x7 : Int32} {I : sw_I} {J : sw_J} (h : wB_X2_flawOf_168  K33 Q x2 x4 x5 x6 x7 I J) : AW l D cy sz RX2 cX2_flawOf 9 (some .int) false rm_X2_flawOf 0 0 (sw_qi G Q) 0 0 G I J 168 [(1, .ref (sz + 1)), (2, .int x2), (4, .int x4), (5, .int x5), (6, .int x6), (7, .int x7)] [] := by
  unfold wB_X2_flawOf_168 at h
  refine aw_iconst (v := 1) dX2_flawOf_168 (by decide) ?_
  refine aw_istore_n (lv' := [(3, .int 1), (1, .ref (sz + 1)), (2, .int x2), (4, .int x4), (5, .int x5), (6, .int x6), (7, .int x7)]) dX2_flawOf_169 rfl (by decide) rfl ?_
  refine aw_goto 206 dX2_flawOf_170 (by decide) ?_
  refine aw_sub [1, 2, 0, 3, 4, 5, 6] rfl ?_
  exact t_X2_flawOf_206 hG  hK33 h
set_option maxRecDepth 20000 in
theorem t_X2_flawOf_115 {l : Launch} {D : va_G} {cy : Nat → ClassId} {sz : Nat} {G : sw_G} (hG : sw_lay G)   {Q : Int32 → sw_I → sw_J → Prop} {K33 : Int32 → Int32 → Int32 → Int32 → Int32 → Int32 → sw_I → sw_J → Prop} (hK33 : ∀ (x2 : Int32) (x3 : Int32) (x4 : Int32) (x5 : Int32) (x6 : Int32) (x7 : Int32) (I : sw_I) (J : sw_J), K33 x2 x3 x4 x5 x6 x7 I J → AW l D cy sz RX2 cX2_flawOf 9 (some .int) false rm_X2_flawOf 0 0 (sw_qi G Q) 0 0 G I J 33 [(1, .ref (sz + 1)), (2, .int x2), (3, .int x3), (4, .int x4), (5, .int x5), (6, .int x6), (7, .int x7)] []) {x2 : Int32} {x4 : Int32} {x5 : Int32} {x6 : Int32} {x7 : Int32} {I : sw_I} {J : sw_J} (h : wB_X2_flawOf_115  K33 Q x2 x4 x5 x6 x7 I J) : AW l D cy sz RX2 cX2_flawOf 9 (some .int) false rm_X2_flawOf 0 0 (sw_qi G Q) 0 0 G I J 115 [(1, .ref (sz + 1)), (2, .int x2), (4, .int x4), (5, .int x5), (6, .int x6), (7, .int x7)] [] := by
  unfold wB_X2_flawOf_115 at h
  refine aw_iconst (v := 0) dX2_flawOf_115 (by decide) ?_
  refine aw_istore_n (lv' := [(3, .int 0), (1, .ref (sz + 1)), (2, .int x2), (4, .int x4), (5, .int x5), (6, .int x6), (7, .int x7)]) dX2_flawOf_116 rfl (by decide) rfl ?_
  refine aw_goto 206 dX2_flawOf_117 (by decide) ?_
  refine aw_sub [1, 2, 0, 3, 4, 5, 6] rfl ?_
  exact t_X2_flawOf_206 hG  hK33 h
set_option maxRecDepth 20000 in
theorem t_X2_flawOf_99 {l : Launch} {D : va_G} {cy : Nat → ClassId} {sz : Nat} {G : sw_G} (hG : sw_lay G)   {Q : Int32 → sw_I → sw_J → Prop} {K33 : Int32 → Int32 → Int32 → Int32 → Int32 → Int32 → sw_I → sw_J → Prop} (hK33 : ∀ (x2 : Int32) (x3 : Int32) (x4 : Int32) (x5 : Int32) (x6 : Int32) (x7 : Int32) (I : sw_I) (J : sw_J), K33 x2 x3 x4 x5 x6 x7 I J → AW l D cy sz RX2 cX2_flawOf 9 (some .int) false rm_X2_flawOf 0 0 (sw_qi G Q) 0 0 G I J 33 [(1, .ref (sz + 1)), (2, .int x2), (3, .int x3), (4, .int x4), (5, .int x5), (6, .int x6), (7, .int x7)] []) {x2 : Int32} {x3 : Int32} {x4 : Int32} {x5 : Int32} {x6 : Int32} {x7 : Int32} {x8 : Int32} {I : sw_I} {J : sw_J} (h : wB_X2_flawOf_99  K33 Q x2 x3 x4 x5 x6 x7 x8 I J) : AW l D cy sz RX2 cX2_flawOf 9 (some .int) false rm_X2_flawOf 0 0 (sw_qi G Q) 0 0 G I J 99 [(1, .ref (sz + 1)), (2, .int x2), (3, .int x3), (4, .int x4), (5, .int x5), (6, .int x6), (7, .int x7), (8, .int x8)] [] := by
  unfold wB_X2_flawOf_99 at h
  refine aw_iload 7 dX2_flawOf_99 rfl ?_
  refine aw_callS wv_X2_isDigit (M_X2_isDigit trivial  h) ml_X2_49 rfl rfl (Nat.le_of_ble_eq_true rfl) ⟨rfl, rfl⟩ ⟨Nat.le_of_ble_eq_true rfl, Nat.le_of_ble_eq_true rfl⟩ ⟨Nat.le_refl _, Nat.le_refl _⟩ dX2_flawOf_101 (aw_ki fun r_1 I_2 J_3 h => ?_)
  refine aw_zne 115 dX2_flawOf_104 (by decide) (fun c_4 => ?_) (fun c_4 => ?_)
  · have h := sw_if.f h c_4
    refine aw_sub [0, 1, 3, 4, 5, 6] rfl ?_
    exact t_X2_flawOf_115 hG  hK33 h
  · have h := sw_if.t h c_4
    refine aw_iload 7 dX2_flawOf_107 rfl ?_
    refine aw_callS wv_X2_isName (M_X2_isName trivial  h) ml_X2_52 rfl rfl (Nat.le_of_ble_eq_true rfl) ⟨rfl, rfl⟩ ⟨Nat.le_of_ble_eq_true rfl, Nat.le_of_ble_eq_true rfl⟩ ⟨Nat.le_refl _, Nat.le_refl _⟩ dX2_flawOf_109 (aw_ki fun r_5 I_6 J_7 h => ?_)
    refine aw_zeq 120 dX2_flawOf_112 (by decide) (fun c_8 => ?_) (fun c_8 => ?_)
    · have h := sw_if.t h c_8
      refine aw_iload 7 dX2_flawOf_120 rfl ?_
      refine aw_bipush (v := 45) dX2_flawOf_122 (by decide) ?_
      refine aw_jeq 206 dX2_flawOf_124 (by decide) (fun c_9 => ?_) (fun c_9 => ?_)
      · have h := sw_if.t h c_9
        refine aw_sub [0, 1, 2, 3, 4, 5, 6] rfl ?_
        exact t_X2_flawOf_206 hG  hK33 h
      · have h := sw_if.f h c_9
        refine aw_iload 6 dX2_flawOf_127 rfl ?_
        exact aw_iret rfl dX2_flawOf_129 ⟨rfl, _, rfl, h⟩
    · have h := sw_if.f h c_8
      refine aw_sub [0, 1, 3, 4, 5, 6] rfl ?_
      exact t_X2_flawOf_115 hG  hK33 h
set_option maxRecDepth 20000 in
theorem t_X2_flawOf_63 {l : Launch} {D : va_G} {cy : Nat → ClassId} {sz : Nat} {G : sw_G} (hG : sw_lay G)   {Q : Int32 → sw_I → sw_J → Prop} {K33 : Int32 → Int32 → Int32 → Int32 → Int32 → Int32 → sw_I → sw_J → Prop} (hK33 : ∀ (x2 : Int32) (x3 : Int32) (x4 : Int32) (x5 : Int32) (x6 : Int32) (x7 : Int32) (I : sw_I) (J : sw_J), K33 x2 x3 x4 x5 x6 x7 I J → AW l D cy sz RX2 cX2_flawOf 9 (some .int) false rm_X2_flawOf 0 0 (sw_qi G Q) 0 0 G I J 33 [(1, .ref (sz + 1)), (2, .int x2), (3, .int x3), (4, .int x4), (5, .int x5), (6, .int x6), (7, .int x7)] []) {x2 : Int32} {x3 : Int32} {x4 : Int32} {x5 : Int32} {x7 : Int32} {x8 : Int32} {s0 : Int32} {I : sw_I} {J : sw_J} (h : wB_X2_flawOf_63  K33 Q x2 x3 x4 x5 x7 x8 s0 I J) : AW l D cy sz RX2 cX2_flawOf 9 (some .int) false rm_X2_flawOf 0 0 (sw_qi G Q) 0 0 G I J 63 [(1, .ref (sz + 1)), (2, .int x2), (3, .int x3), (4, .int x4), (5, .int x5), (7, .int x7), (8, .int x8)] [.int s0] := by
  unfold wB_X2_flawOf_63 at h
  refine aw_istore (lv' := [(6, .int s0), (1, .ref (sz + 1)), (2, .int x2), (3, .int x3), (4, .int x4), (5, .int x5), (7, .int x7), (8, .int x8)]) dX2_flawOf_63 (by decide) rfl ?_
  refine aw_iload_n 3 dX2_flawOf_65 rfl rfl ?_
  refine aw_zeq 130 dX2_flawOf_66 (by decide) (fun c_1 => ?_) (fun c_1 => ?_)
  · have h := sw_if.t h c_1
    refine aw_iload 7 dX2_flawOf_130 rfl ?_
    refine aw_callS wv_X2_joinsTwo (M_X2_joinsTwo trivial  h) ml_X2_55 rfl rfl (Nat.le_of_ble_eq_true rfl) ⟨rfl, rfl⟩ ⟨Nat.le_of_ble_eq_true rfl, Nat.le_of_ble_eq_true rfl⟩ ⟨Nat.le_refl _, Nat.le_refl _⟩ dX2_flawOf_132 (aw_ki fun r_2 I_3 J_4 h => ?_)
    refine aw_zeq 173 dX2_flawOf_135 (by decide) (fun c_5 => ?_) (fun c_5 => ?_)
    · have h := sw_if.t h c_5
      refine aw_iload 7 dX2_flawOf_173 rfl ?_
      refine aw_bipush (v := 41) dX2_flawOf_175 (by decide) ?_
      refine aw_jne 191 dX2_flawOf_177 (by decide) (fun c_6 => ?_) (fun c_6 => ?_)
      · have h := sw_if.f h c_6
        refine aw_sub [1, 2, 3, 4, 5, 0, 6] rfl ?_
        exact t_X2_flawOf_191 hG  hK33 h
      · have h := sw_if.t h c_6
        refine aw_iload 4 dX2_flawOf_180 rfl ?_
        refine aw_zle 191 dX2_flawOf_182 (by decide) (fun c_7 => ?_) (fun c_7 => ?_)
        · have h := sw_if.f h c_7
          refine aw_sub [1, 2, 3, 4, 5, 0, 6] rfl ?_
          exact t_X2_flawOf_191 hG  hK33 h
        · have h := sw_if.t h c_7
          obtain ⟨y_8, e_9⟩ : ∃ q : Int32, q = x4 + (-1) := ⟨_, rfl⟩
          have h := h y_8 e_9
          refine aw_iinc (lv' := [(4, .int y_8), (6, .int s0), (1, .ref (sz + 1)), (2, .int x2), (3, .int x3), (5, .int x5), (7, .int x7), (8, .int x8)]) 4 dX2_flawOf_185 rfl (by rw [e_9]; rfl) (by decide) rfl ?_
          refine aw_goto 206 dX2_flawOf_188 (by decide) ?_
          refine aw_sub [2, 3, 4, 0, 5, 1, 6] rfl ?_
          exact t_X2_flawOf_206 hG  hK33 h
    · have h := sw_if.f h c_5
      refine aw_iload 7 dX2_flawOf_138 rfl ?_
      refine aw_callS wv_X2_compares (M_X2_compares trivial  h) ml_X2_32 rfl rfl (Nat.le_of_ble_eq_true rfl) ⟨rfl, rfl⟩ ⟨Nat.le_of_ble_eq_true rfl, Nat.le_of_ble_eq_true rfl⟩ ⟨Nat.le_refl _, Nat.le_refl _⟩ dX2_flawOf_140 (aw_ki fun r_10 I_11 J_12 h => ?_)
      refine aw_zeq 168 dX2_flawOf_143 (by decide) (fun c_13 => ?_) (fun c_13 => ?_)
      · have h := sw_if.t h c_13
        refine aw_sub [1, 2, 4, 5, 0, 6] rfl ?_
        exact t_X2_flawOf_168 hG  hK33 h
      · have h := sw_if.f h c_13
        refine aw_iload 5 dX2_flawOf_146 rfl ?_
        refine aw_iload 4 dX2_flawOf_148 rfl ?_
        refine aw_ishr dX2_flawOf_150 ?_
        refine aw_iconst (v := 1) dX2_flawOf_151 (by decide) ?_
        refine aw_iand dX2_flawOf_152 ?_
        refine aw_zeq 159 dX2_flawOf_153 (by decide) (fun c_14 => ?_) (fun c_14 => ?_)
        · have h := sw_if.t h c_14
          refine aw_iload 5 dX2_flawOf_159 rfl ?_
          refine aw_iconst (v := 1) dX2_flawOf_161 (by decide) ?_
          refine aw_iload 4 dX2_flawOf_162 rfl ?_
          refine aw_ishl dX2_flawOf_164 ?_
          refine aw_ior dX2_flawOf_165 ?_
          refine aw_topi (fun y_15 e_16 => ?_)
          have h := h y_15 e_16
          refine aw_istore (lv' := [(5, .int y_15), (6, .int s0), (1, .ref (sz + 1)), (2, .int x2), (3, .int x3), (4, .int x4), (7, .int x7), (8, .int x8)]) dX2_flawOf_166 (by decide) rfl ?_
          refine aw_sub [2, 3, 5, 0, 1, 6] rfl ?_
          exact t_X2_flawOf_168 hG  hK33 h
        · have h := sw_if.f h c_14
          refine aw_iload 6 dX2_flawOf_156 rfl ?_
          exact aw_iret rfl dX2_flawOf_158 ⟨rfl, _, rfl, h⟩
  · have h := sw_if.f h c_1
    refine aw_iload 7 dX2_flawOf_69 rfl ?_
    refine aw_bipush (v := 40) dX2_flawOf_71 (by decide) ?_
    refine aw_jne 99 dX2_flawOf_73 (by decide) (fun c_17 => ?_) (fun c_17 => ?_)
    · have h := sw_if.f h c_17
      refine aw_sub [1, 2, 3, 4, 5, 0, 6, 7] rfl ?_
      exact t_X2_flawOf_99 hG  hK33 h
    · have h := sw_if.t h c_17
      refine aw_iload 4 dX2_flawOf_76 rfl ?_
      refine aw_iconst (v := 4) dX2_flawOf_78 (by decide) ?_
      refine aw_jge 99 dX2_flawOf_79 (by decide) (fun c_18 => ?_) (fun c_18 => ?_)
      · have h := sw_if.f h c_18
        refine aw_sub [1, 2, 3, 4, 5, 0, 6, 7] rfl ?_
        exact t_X2_flawOf_99 hG  hK33 h
      · have h := sw_if.t h c_18
        obtain ⟨y_19, e_20⟩ : ∃ q : Int32, q = x4 + 1 := ⟨_, rfl⟩
        have h := h y_19 e_20
        refine aw_iinc (lv' := [(4, .int y_19), (6, .int s0), (1, .ref (sz + 1)), (2, .int x2), (3, .int x3), (5, .int x5), (7, .int x7), (8, .int x8)]) 4 dX2_flawOf_82 rfl (by rw [e_20]; rfl) (by decide) rfl ?_
        refine aw_iload 5 dX2_flawOf_85 rfl ?_
        refine aw_iconst (v := 1) dX2_flawOf_87 (by decide) ?_
        refine aw_iload 0 dX2_flawOf_88 rfl ?_
        refine aw_ishl dX2_flawOf_90 ?_
        refine aw_iconst (v := (-1)) dX2_flawOf_91 (by decide) ?_
        refine aw_ixor dX2_flawOf_92 ?_
        refine aw_iand dX2_flawOf_93 ?_
        refine aw_topi (fun y_21 e_22 => ?_)
        have h := h y_21 e_22
        refine aw_istore (lv' := [(5, .int y_21), (4, .int y_19), (6, .int s0), (1, .ref (sz + 1)), (2, .int x2), (3, .int x3), (7, .int x7), (8, .int x8)]) dX2_flawOf_94 (by decide) rfl ?_
        refine aw_goto 206 dX2_flawOf_96 (by decide) ?_
        refine aw_sub [3, 4, 5, 1, 0, 2, 6] rfl ?_
        exact t_X2_flawOf_206 hG  hK33 h
set_option maxRecDepth 20000 in
theorem tb_X2_flawOf_33 {l : Launch} {D : va_G} {cy : Nat → ClassId} {sz : Nat} {G : sw_G} (hG : sw_lay G)   {Q : Int32 → sw_I → sw_J → Prop} {K33 : Int32 → Int32 → Int32 → Int32 → Int32 → Int32 → sw_I → sw_J → Prop} (hK33 : ∀ (x2 : Int32) (x3 : Int32) (x4 : Int32) (x5 : Int32) (x6 : Int32) (x7 : Int32) (I : sw_I) (J : sw_J), K33 x2 x3 x4 x5 x6 x7 I J → AW l D cy sz RX2 cX2_flawOf 9 (some .int) false rm_X2_flawOf 0 0 (sw_qi G Q) 0 0 G I J 33 [(1, .ref (sz + 1)), (2, .int x2), (3, .int x3), (4, .int x4), (5, .int x5), (6, .int x6), (7, .int x7)] []) {x2 : Int32} {x3 : Int32} {x4 : Int32} {x5 : Int32} {x6 : Int32} {x7 : Int32} {I : sw_I} {J : sw_J} (h : wb_X2_flawOf_33  K33 Q x2 x3 x4 x5 x6 x7 I J) : AW l D cy sz RX2 cX2_flawOf 9 (some .int) false rm_X2_flawOf 0 0 (sw_qi G Q) 0 0 G I J 33 [(1, .ref (sz + 1)), (2, .int x2), (3, .int x3), (4, .int x4), (5, .int x5), (6, .int x6), (7, .int x7)] [] := by
  unfold wb_X2_flawOf_33 at h
  refine aw_iload 6 dX2_flawOf_33 rfl ?_
  refine aw_iload_n 1 dX2_flawOf_35 rfl rfl ?_
  refine aw_jge 212 dX2_flawOf_36 (by decide) (fun c_1 => ?_) (fun c_1 => ?_)
  · have h := sw_if.f h c_1
    refine aw_aload_n 0 dX2_flawOf_212 rfl rfl ?_
    refine aw_bipush (v := 40) dX2_flawOf_213 (by decide) ?_
    refine aw_iload_n 2 dX2_flawOf_215 rfl rfl ?_
    refine aw_zne 228 dX2_flawOf_216 (by decide) (fun c_2 => ?_) (fun c_2 => ?_)
    · have h := sw_if.f h c_2
      refine aw_sub [] rfl ?_
      exact t_X2_flawOf_228 hG   h
    · have h := sw_if.t h c_2
      refine aw_iload 3 dX2_flawOf_219 rfl ?_
      refine aw_zne 228 dX2_flawOf_221 (by decide) (fun c_3 => ?_) (fun c_3 => ?_)
      · have h := sw_if.f h c_3
        refine aw_sub [] rfl ?_
        exact t_X2_flawOf_228 hG   h
      · have h := sw_if.t h c_3
        refine aw_iconst (v := 1) dX2_flawOf_224 (by decide) ?_
        refine aw_goto 229 dX2_flawOf_225 (by decide) ?_
        refine aw_sub [] rfl ?_
        exact t_X2_flawOf_229 hG   h
  · have h := sw_if.t h c_1
    refine aw_aload_n 0 dX2_flawOf_39 rfl rfl ?_
    refine aw_iload 6 dX2_flawOf_40 rfl ?_
    refine aw_callV wv_X8_at (M_X8_at hG  h) ml_X2_45 rfl (by decide) (lk1 hG) rfl rfl (Nat.le_of_ble_eq_true rfl) ⟨rfl, rfl⟩ ⟨Nat.le_of_ble_eq_true rfl, Nat.le_of_ble_eq_true rfl⟩ ⟨Nat.le_refl _, Nat.le_refl _⟩ dX2_flawOf_42 (aw_ki fun r_4 I_5 J_6 h => ?_)
    refine aw_istore (lv' := [(8, .int r_4), (1, .ref (sz + 1)), (2, .int x2), (3, .int x3), (4, .int x4), (5, .int x5), (6, .int x6), (7, .int x7)]) dX2_flawOf_45 (by decide) rfl ?_
    refine aw_iload 0 dX2_flawOf_47 rfl ?_
    refine aw_callS wv_X2_isDigit (M_X2_isDigit trivial  h) ml_X2_49 rfl rfl (Nat.le_of_ble_eq_true rfl) ⟨rfl, rfl⟩ ⟨Nat.le_of_ble_eq_true rfl, Nat.le_of_ble_eq_true rfl⟩ ⟨Nat.le_refl _, Nat.le_refl _⟩ dX2_flawOf_49 (aw_ki fun r_7 I_8 J_9 h => ?_)
    refine aw_zeq 62 dX2_flawOf_52 (by decide) (fun c_10 => ?_) (fun c_10 => ?_)
    · have h := sw_if.t h c_10
      refine aw_iconst (v := 0) dX2_flawOf_62 (by decide) ?_
      refine aw_sub [1, 2, 3, 4, 5, 7, 0] rfl ?_
      exact t_X2_flawOf_63 hG  hK33 h
    · have h := sw_if.f h c_10
      refine aw_iload 6 dX2_flawOf_55 rfl ?_
      refine aw_iconst (v := 1) dX2_flawOf_57 (by decide) ?_
      refine aw_iadd dX2_flawOf_58 ?_
      refine aw_goto 63 dX2_flawOf_59 (by decide) ?_
      refine aw_sub [1, 2, 3, 4, 5, 7, 0] rfl ?_
      exact t_X2_flawOf_63 hG  hK33 h
set_option maxRecDepth 20000 in
theorem tl_X2_flawOf_33 {l : Launch} {D : va_G} {cy : Nat → ClassId} {sz : Nat} {G : sw_G} (hG : sw_lay G)   {Q : Int32 → sw_I → sw_J → Prop} : ∀ (n : Nat) (x2 : Int32) (x3 : Int32) (x4 : Int32) (x5 : Int32) (x6 : Int32) (x7 : Int32) (I : sw_I) (J : sw_J), wl_X2_flawOf_33   Q n x2 x3 x4 x5 x6 x7 I J → AW l D cy sz RX2 cX2_flawOf 9 (some .int) false rm_X2_flawOf 0 0 (sw_qi G Q) 0 0 G I J 33 [(1, .ref (sz + 1)), (2, .int x2), (3, .int x3), (4, .int x4), (5, .int x5), (6, .int x6), (7, .int x7)] [] := by
  intro n
  induction n with
  | zero => intro x2 x3 x4 x5 x6 x7 I J h; exact False.elim h
  | succ n ih => intro x2 x3 x4 x5 x6 x7 I J h; exact tb_X2_flawOf_33 hG  ih h
set_option maxRecDepth 20000 in
theorem t_X2_flawOf {l : Launch} {D : va_G} {cy : Nat → ClassId} {sz : Nat} {G : sw_G} (hG : sw_lay G)   {Q : Int32 → sw_I → sw_J → Prop}  {I : sw_I} {J : sw_J} (h : wp_X2_flawOf  I J Q) : AW l D cy sz RX2 cX2_flawOf 9 (some .int) false rm_X2_flawOf 0 0 (sw_qi G Q) 0 0 G I J 0 [(0, .ref (sz + 6)), (1, .ref (sz + 1))] [] := by
  unfold wp_X2_flawOf at h
  refine aw_aload_n 1 dX2_flawOf_0 rfl rfl ?_
  refine gf_X8_1 fl_X2_36 (lk1 hG) dX2_flawOf_1 ?_
  refine aw_zne 9 dX2_flawOf_4 (by decide) (fun c_1 => ?_) (fun c_1 => ?_)
  · have h := sw_if.f h c_1
    refine aw_aload_n 1 dX2_flawOf_9 rfl rfl ?_
    refine gf_X8_1 fl_X2_36 (lk1 hG) dX2_flawOf_10 ?_
    refine aw_bipush (v := 40) dX2_flawOf_13 (by decide) ?_
    refine aw_mmin mm_X2_39 wm_min (Nat.le_of_ble_eq_true rfl) (Nat.le_of_ble_eq_true rfl) ⟨Nat.le_refl _, Nat.le_refl _⟩ dX2_flawOf_15 ?_
    refine aw_topi (fun y_2 e_3 => ?_)
    have h := h y_2 e_3
    refine aw_istore_n (lv' := [(2, .int y_2), (0, .ref (sz + 6)), (1, .ref (sz + 1))]) dX2_flawOf_18 rfl (by decide) rfl ?_
    refine aw_iconst (v := 1) dX2_flawOf_19 (by decide) ?_
    refine aw_istore_n (lv' := [(3, .int 1), (2, .int y_2), (0, .ref (sz + 6)), (1, .ref (sz + 1))]) dX2_flawOf_20 rfl (by decide) rfl ?_
    refine aw_iconst (v := 0) dX2_flawOf_21 (by decide) ?_
    refine aw_istore (lv' := [(4, .int 0), (3, .int 1), (2, .int y_2), (0, .ref (sz + 6)), (1, .ref (sz + 1))]) dX2_flawOf_22 (by decide) rfl ?_
    refine aw_iconst (v := 0) dX2_flawOf_24 (by decide) ?_
    refine aw_istore (lv' := [(5, .int 0), (4, .int 0), (3, .int 1), (2, .int y_2), (0, .ref (sz + 6)), (1, .ref (sz + 1))]) dX2_flawOf_25 (by decide) rfl ?_
    refine aw_iconst (v := 0) dX2_flawOf_27 (by decide) ?_
    refine aw_istore (lv' := [(6, .int 0), (5, .int 0), (4, .int 0), (3, .int 1), (2, .int y_2), (0, .ref (sz + 6)), (1, .ref (sz + 1))]) dX2_flawOf_28 (by decide) rfl ?_
    refine aw_iconst (v := 0) dX2_flawOf_30 (by decide) ?_
    refine aw_istore (lv' := [(7, .int 0), (6, .int 0), (5, .int 0), (4, .int 0), (3, .int 1), (2, .int y_2), (0, .ref (sz + 6)), (1, .ref (sz + 1))]) dX2_flawOf_31 (by decide) rfl ?_
    refine aw_sub [7, 5, 4, 3, 2, 1, 0] rfl ?_
    obtain ⟨n_4, h⟩ := h
    exact tl_X2_flawOf_33 hG   n_4 y_2 1 0 0 0 0 I J h
  · have h := sw_if.t h c_1
    refine aw_iconst (v := (-1)) dX2_flawOf_7 (by decide) ?_
    exact aw_iret rfl dX2_flawOf_8 ⟨rfl, _, rfl, h⟩
theorem M_X2_flawOf {l : Launch} {D : va_G} {cy : Nat → ClassId} {sz : Nat} {G : sw_G} (hG : sw_lay G)   {Q : Int32 → sw_I → sw_J → Prop}  {I : sw_I} {J : sw_J} (h : wp_X2_flawOf  I J Q) : Met l yX2_flawOf (Cond.code yX2_flawOf cX2_flawOf 9 (some .int) :: sw_T) rm_X2_flawOf (sw_Pc D cy sz [.ref (sz + 6), .ref (sz + 1)] G I J) (sw_Q D cy sz (sw_qi G Q)) 0 0 (fun q => sz ≤ q) :=
  sw_met (by decide) (fun q => by cases q) (Nat.le_of_ble_eq_true rfl) rfl (t_X2_flawOf hG  h)
-- X2_take
abbrev rm_X2_take : Room := { frames := 3, cells := 0, slots := 0, locals := 61 }
def wB_X2_take_181  (K19 : Int32 → Int32 → sw_I → sw_J → Prop) (Q : sw_I → sw_J → Prop) (x2 : Int32) (x3 : Int32) (I : sw_I) (J : sw_J) : Prop :=
  ∀ y_1 : Int32, y_1 = x3 + 1 → K19 x2 y_1 I J
def wB_X2_take_97  (K19 : Int32 → Int32 → sw_I → sw_J → Prop) (Q : sw_I → sw_J → Prop) (x3 : Int32) (s1 : Int32) (s2 : Int32) (I : sw_I) (J : sw_J) : Prop :=
  ((s1 ||| s2) = 0 ∨ (s1 ||| s2) = 1) ∧ ∀ I_2 : sw_I, I_2 = sw_up I 6 5 (s1 ||| s2) → wB_X2_take_181  K19 Q 0 x3 I_2 J
def wB_X2_take_57  (K19 : Int32 → Int32 → sw_I → sw_J → Prop) (Q : sw_I → sw_J → Prop) (x3 : Int32) (s1 : Int32) (s2 : Int32) (I : sw_I) (J : sw_J) : Prop :=
  wp_X2_putDigit s1 s2 I J (fun I_2 J_3 => wB_X2_take_181  K19 Q 0 x3 I_2 J_3)
def wb_X2_take_19  (K19 : Int32 → Int32 → sw_I → sw_J → Prop) (Q : sw_I → sw_J → Prop) (x2 : Int32) (x3 : Int32) (I : sw_I) (J : sw_J) : Prop :=
  sw_if (x3 < (I 1 1)) (wp_X8_at x3 I J (fun r_9 I_10 J_11 => wp_X2_isDigit r_9 I_10 J_11 (fun r_12 I_13 J_14 => sw_if (r_12 = 0) (wp_X2_isName r_9 I_13 J_14 (fun r_16 I_17 J_18 => sw_if (r_16 = 0) (sw_if (r_9 = (40 : Int32)) (wp_X2_await r_9 I_17 J_18 (fun I_41 J_42 => wB_X2_take_181  K19 Q x2 x3 I_41 J_42)) (sw_if (r_9 = (41 : Int32)) (wp_X2_release 1 I_17 J_18 (fun I_36 J_37 => ∀ I_38 : sw_I, I_38 = sw_up I_36 6 4 (if ((I_36 6 4) - (1 : Int32)) < (0 : Int32) then (0 : Int32) else ((I_36 6 4) - (1 : Int32))) → wB_X2_take_181  K19 Q x2 x3 I_38 J_37)) (sw_if (x2 = 0) (wp_X2_strength r_9 I_17 J_18 (fun r_23 I_24 J_25 => wp_X2_release r_23 I_24 J_25 (fun I_27 J_28 => wp_X2_await r_9 I_27 J_28 (fun I_30 J_31 => wB_X2_take_181  K19 Q 1 x3 I_30 J_31)))) (wp_X2_await 126 I_17 J_18 (fun I_33 J_34 => wB_X2_take_181  K19 Q x2 x3 I_33 J_34))))) (wp_X2_put (-r_9) I_17 J_18 (fun I_44 J_45 => sw_if (r_9 = (114 : Int32)) (wB_X2_take_97  K19 Q x3 (I_44 6 5) 1 I_44 J_45) (wB_X2_take_97  K19 Q x3 (I_44 6 5) 0 I_44 J_45))))) (sw_if (x2 = 0) (wB_X2_take_57  K19 Q x3 (r_9 - (48 : Int32)) 1 I_13 J_14) (wB_X2_take_57  K19 Q x3 (r_9 - (48 : Int32)) 0 I_13 J_14))))) (wp_X2_release 1 I J (fun I_3 J_4 => sw_if ((I_3 6 3) = 0) (wp_X2_put (-119) I_3 J_4 (fun I_7 J_8 => Q I_7 J_8)) (Q I_3 J_4)))
def wl_X2_take_19   (Q : sw_I → sw_J → Prop) : Nat → Int32 → Int32 → sw_I → sw_J → Prop
  | 0 => fun _ _ _ _ => False
  | n + 1 => fun x2 x3 I J => wb_X2_take_19  (wl_X2_take_19   Q n) Q x2 x3 I J
def wp_X2_take  (I : sw_I) (J : sw_J) (Q : sw_I → sw_J → Prop) : Prop :=
  ∀ I_1 : sw_I, I_1 = sw_up I 6 3 (0 : Int32) → ∀ I_3 : sw_I, I_3 = sw_up I_1 6 4 (0 : Int32) → ∀ I_5 : sw_I, I_5 = sw_up I_3 6 5 (0 : Int32) → ∃ n_7 : Nat, wl_X2_take_19   Q n_7 1 0 I_5 J
set_option maxRecDepth 20000 in
theorem t_X2_take_181 {l : Launch} {D : va_G} {cy : Nat → ClassId} {sz : Nat} {G : sw_G} (hG : sw_lay G)   {Q : sw_I → sw_J → Prop} {K19 : Int32 → Int32 → sw_I → sw_J → Prop} (hK19 : ∀ (x2 : Int32) (x3 : Int32) (I : sw_I) (J : sw_J), K19 x2 x3 I J → AW l D cy sz RX2 cX2_take 5 none false rm_X2_take 0 0 (sw_qv G Q) 0 0 G I J 19 [(0, .ref (sz + 6)), (1, .ref (sz + 1)), (2, .int x2), (3, .int x3)] []) {x2 : Int32} {x3 : Int32} {I : sw_I} {J : sw_J} (h : wB_X2_take_181  K19 Q x2 x3 I J) : AW l D cy sz RX2 cX2_take 5 none false rm_X2_take 0 0 (sw_qv G Q) 0 0 G I J 181 [(0, .ref (sz + 6)), (1, .ref (sz + 1)), (2, .int x2), (3, .int x3)] [] := by
  unfold wB_X2_take_181 at h
  obtain ⟨y_1, e_2⟩ : ∃ q : Int32, q = x3 + 1 := ⟨_, rfl⟩
  have h := h y_1 e_2
  refine aw_iinc (lv' := [(3, .int y_1), (0, .ref (sz + 6)), (1, .ref (sz + 1)), (2, .int x2)]) 3 dX2_take_181 rfl (by rw [e_2]; rfl) (by decide) rfl ?_
  refine aw_goto 19 dX2_take_184 (by decide) ?_
  refine aw_sub [1, 2, 3, 0] rfl ?_
  exact hK19 x2 y_1 I J h
set_option maxRecDepth 20000 in
theorem t_X2_take_97 {l : Launch} {D : va_G} {cy : Nat → ClassId} {sz : Nat} {G : sw_G} (hG : sw_lay G)   {Q : sw_I → sw_J → Prop} {K19 : Int32 → Int32 → sw_I → sw_J → Prop} (hK19 : ∀ (x2 : Int32) (x3 : Int32) (I : sw_I) (J : sw_J), K19 x2 x3 I J → AW l D cy sz RX2 cX2_take 5 none false rm_X2_take 0 0 (sw_qv G Q) 0 0 G I J 19 [(0, .ref (sz + 6)), (1, .ref (sz + 1)), (2, .int x2), (3, .int x3)] []) {x3 : Int32} {s1 : Int32} {s2 : Int32} {I : sw_I} {J : sw_J} (h : wB_X2_take_97  K19 Q x3 s1 s2 I J) : AW l D cy sz RX2 cX2_take 5 none false rm_X2_take 0 0 (sw_qv G Q) 0 0 G I J 97 [(0, .ref (sz + 6)), (1, .ref (sz + 1)), (3, .int x3)] [.int s2, .int s1, .ref (sz + 6)] := by
  unfold wB_X2_take_97 at h
  refine aw_ior dX2_take_97 ?_
  obtain ⟨hv_1, h⟩ := h
  refine pf_X2_5 hv_1 fl_X2_28 (lk6 hG) dX2_take_98 (aw_nameI fun I_2 e_3 => ?_)
  have h := h I_2 e_3
  refine aw_iconst (v := 0) dX2_take_101 (by decide) ?_
  refine aw_istore_n (lv' := [(2, .int 0), (0, .ref (sz + 6)), (1, .ref (sz + 1)), (3, .int x3)]) dX2_take_102 rfl (by decide) rfl ?_
  refine aw_goto 181 dX2_take_103 (by decide) ?_
  refine aw_sub [1, 2, 0, 3] rfl ?_
  exact t_X2_take_181 hG  hK19 h
set_option maxRecDepth 20000 in
theorem t_X2_take_57 {l : Launch} {D : va_G} {cy : Nat → ClassId} {sz : Nat} {G : sw_G} (hG : sw_lay G)   {Q : sw_I → sw_J → Prop} {K19 : Int32 → Int32 → sw_I → sw_J → Prop} (hK19 : ∀ (x2 : Int32) (x3 : Int32) (I : sw_I) (J : sw_J), K19 x2 x3 I J → AW l D cy sz RX2 cX2_take 5 none false rm_X2_take 0 0 (sw_qv G Q) 0 0 G I J 19 [(0, .ref (sz + 6)), (1, .ref (sz + 1)), (2, .int x2), (3, .int x3)] []) {x3 : Int32} {s1 : Int32} {s2 : Int32} {I : sw_I} {J : sw_J} (h : wB_X2_take_57  K19 Q x3 s1 s2 I J) : AW l D cy sz RX2 cX2_take 5 none false rm_X2_take 0 0 (sw_qv G Q) 0 0 G I J 57 [(0, .ref (sz + 6)), (1, .ref (sz + 1)), (3, .int x3)] [.int s2, .int s1, .ref (sz + 6)] := by
  unfold wB_X2_take_57 at h
  refine aw_callV wv_X2_putDigit (M_X2_putDigit hG  h) ml_X2_62 rfl (by decide) (lk6 hG) rfl rfl (Nat.le_of_ble_eq_true rfl) ⟨rfl, rfl⟩ ⟨Nat.le_of_ble_eq_true rfl, Nat.le_of_ble_eq_true rfl⟩ ⟨Nat.le_refl _, Nat.le_refl _⟩ dX2_take_57 (aw_kv fun I_2 J_3 h => ?_)
  refine aw_iconst (v := 0) dX2_take_60 (by decide) ?_
  refine aw_istore_n (lv' := [(2, .int 0), (0, .ref (sz + 6)), (1, .ref (sz + 1)), (3, .int x3)]) dX2_take_61 rfl (by decide) rfl ?_
  refine aw_goto 181 dX2_take_62 (by decide) ?_
  refine aw_sub [1, 2, 0, 3] rfl ?_
  exact t_X2_take_181 hG  hK19 h
set_option maxRecDepth 20000 in
theorem tb_X2_take_19 {l : Launch} {D : va_G} {cy : Nat → ClassId} {sz : Nat} {G : sw_G} (hG : sw_lay G)   {Q : sw_I → sw_J → Prop} {K19 : Int32 → Int32 → sw_I → sw_J → Prop} (hK19 : ∀ (x2 : Int32) (x3 : Int32) (I : sw_I) (J : sw_J), K19 x2 x3 I J → AW l D cy sz RX2 cX2_take 5 none false rm_X2_take 0 0 (sw_qv G Q) 0 0 G I J 19 [(0, .ref (sz + 6)), (1, .ref (sz + 1)), (2, .int x2), (3, .int x3)] []) {x2 : Int32} {x3 : Int32} {I : sw_I} {J : sw_J} (h : wb_X2_take_19  K19 Q x2 x3 I J) : AW l D cy sz RX2 cX2_take 5 none false rm_X2_take 0 0 (sw_qv G Q) 0 0 G I J 19 [(0, .ref (sz + 6)), (1, .ref (sz + 1)), (2, .int x2), (3, .int x3)] [] := by
  unfold wb_X2_take_19 at h
  refine aw_iload_n 3 dX2_take_19 rfl rfl ?_
  refine aw_aload_n 1 dX2_take_20 rfl rfl ?_
  refine gf_X8_1 fl_X2_36 (lk1 hG) dX2_take_21 ?_
  refine aw_jge 187 dX2_take_24 (by decide) (fun c_1 => ?_) (fun c_1 => ?_)
  · have h := sw_if.f h c_1
    refine aw_aload_n 0 dX2_take_187 rfl rfl ?_
    refine aw_iconst (v := 1) dX2_take_188 (by decide) ?_
    refine aw_callV wv_X2_release (M_X2_release hG  h) ml_X2_73 rfl (by decide) (lk6 hG) rfl rfl (Nat.le_of_ble_eq_true rfl) ⟨rfl, rfl⟩ ⟨Nat.le_of_ble_eq_true rfl, Nat.le_of_ble_eq_true rfl⟩ ⟨Nat.le_refl _, Nat.le_refl _⟩ dX2_take_189 (aw_kv fun I_3 J_4 h => ?_)
    refine aw_aload_n 0 dX2_take_192 rfl rfl ?_
    refine gf_X2_3 fl_X2_21 (lk6 hG) dX2_take_193 ?_
    refine aw_zne 205 dX2_take_196 (by decide) (fun c_5 => ?_) (fun c_5 => ?_)
    · have h := sw_if.f h c_5
      exact aw_vret rfl dX2_take_205 ⟨rfl, rfl, h⟩
    · have h := sw_if.t h c_5
      refine aw_aload_n 0 dX2_take_199 rfl rfl ?_
      refine aw_bipush (v := (-119)) dX2_take_200 (by decide) ?_
      refine aw_callV wv_X2_put (M_X2_put hG  h) ml_X2_66 rfl (by decide) (lk6 hG) rfl rfl (Nat.le_of_ble_eq_true rfl) ⟨rfl, rfl⟩ ⟨Nat.le_of_ble_eq_true rfl, Nat.le_of_ble_eq_true rfl⟩ ⟨Nat.le_refl _, Nat.le_refl _⟩ dX2_take_202 (aw_kv fun I_7 J_8 h => ?_)
      exact aw_vret rfl dX2_take_205 ⟨rfl, rfl, h⟩
  · have h := sw_if.t h c_1
    refine aw_aload_n 1 dX2_take_27 rfl rfl ?_
    refine aw_iload_n 3 dX2_take_28 rfl rfl ?_
    refine aw_callV wv_X8_at (M_X8_at hG  h) ml_X2_45 rfl (by decide) (lk1 hG) rfl rfl (Nat.le_of_ble_eq_true rfl) ⟨rfl, rfl⟩ ⟨Nat.le_of_ble_eq_true rfl, Nat.le_of_ble_eq_true rfl⟩ ⟨Nat.le_refl _, Nat.le_refl _⟩ dX2_take_29 (aw_ki fun r_9 I_10 J_11 h => ?_)
    refine aw_istore (lv' := [(4, .int r_9), (0, .ref (sz + 6)), (1, .ref (sz + 1)), (2, .int x2), (3, .int x3)]) dX2_take_32 (by decide) rfl ?_
    refine aw_iload 0 dX2_take_34 rfl ?_
    refine aw_callS wv_X2_isDigit (M_X2_isDigit trivial  h) ml_X2_49 rfl rfl (Nat.le_of_ble_eq_true rfl) ⟨rfl, rfl⟩ ⟨Nat.le_of_ble_eq_true rfl, Nat.le_of_ble_eq_true rfl⟩ ⟨Nat.le_refl _, Nat.le_refl _⟩ dX2_take_36 (aw_ki fun r_12 I_13 J_14 h => ?_)
    refine aw_zeq 65 dX2_take_39 (by decide) (fun c_15 => ?_) (fun c_15 => ?_)
    · have h := sw_if.t h c_15
      refine aw_iload 0 dX2_take_65 rfl ?_
      refine aw_callS wv_X2_isName (M_X2_isName trivial  h) ml_X2_52 rfl rfl (Nat.le_of_ble_eq_true rfl) ⟨rfl, rfl⟩ ⟨Nat.le_of_ble_eq_true rfl, Nat.le_of_ble_eq_true rfl⟩ ⟨Nat.le_refl _, Nat.le_refl _⟩ dX2_take_67 (aw_ki fun r_16 I_17 J_18 h => ?_)
      refine aw_zeq 106 dX2_take_70 (by decide) (fun c_19 => ?_) (fun c_19 => ?_)
      · have h := sw_if.t h c_19
        refine aw_iload 0 dX2_take_106 rfl ?_
        refine aw_bipush (v := 40) dX2_take_108 (by decide) ?_
        refine aw_jne 122 dX2_take_110 (by decide) (fun c_20 => ?_) (fun c_20 => ?_)
        · have h := sw_if.f h c_20
          refine aw_iload 0 dX2_take_122 rfl ?_
          refine aw_bipush (v := 41) dX2_take_124 (by decide) ?_
          refine aw_jne 151 dX2_take_126 (by decide) (fun c_21 => ?_) (fun c_21 => ?_)
          · have h := sw_if.f h c_21
            refine aw_iload_n 3 dX2_take_151 rfl rfl ?_
            refine aw_zeq 164 dX2_take_152 (by decide) (fun c_22 => ?_) (fun c_22 => ?_)
            · have h := sw_if.t h c_22
              refine aw_aload_n 1 dX2_take_164 rfl rfl ?_
              refine aw_iload 0 dX2_take_165 rfl ?_
              refine aw_callS wv_X2_strength (M_X2_strength trivial  h) ml_X2_79 rfl rfl (Nat.le_of_ble_eq_true rfl) ⟨rfl, rfl⟩ ⟨Nat.le_of_ble_eq_true rfl, Nat.le_of_ble_eq_true rfl⟩ ⟨Nat.le_refl _, Nat.le_refl _⟩ dX2_take_167 (aw_ki fun r_23 I_24 J_25 h => ?_)
              refine aw_callV wv_X2_release (M_X2_release hG  h) ml_X2_73 rfl (by decide) (lk6 hG) rfl rfl (Nat.le_of_ble_eq_true rfl) ⟨rfl, rfl⟩ ⟨Nat.le_of_ble_eq_true rfl, Nat.le_of_ble_eq_true rfl⟩ ⟨Nat.le_refl _, Nat.le_refl _⟩ dX2_take_170 (aw_kv fun I_27 J_28 h => ?_)
              refine aw_aload_n 1 dX2_take_173 rfl rfl ?_
              refine aw_iload 0 dX2_take_174 rfl ?_
              refine aw_callV wv_X2_await (M_X2_await hG  h) ml_X2_70 rfl (by decide) (lk6 hG) rfl rfl (Nat.le_of_ble_eq_true rfl) ⟨rfl, rfl⟩ ⟨Nat.le_of_ble_eq_true rfl, Nat.le_of_ble_eq_true rfl⟩ ⟨Nat.le_refl _, Nat.le_refl _⟩ dX2_take_176 (aw_kv fun I_30 J_31 h => ?_)
              refine aw_iconst (v := 1) dX2_take_179 (by decide) ?_
              refine aw_istore_n (lv' := [(2, .int 1), (4, .int r_9), (0, .ref (sz + 6)), (1, .ref (sz + 1)), (3, .int x3)]) dX2_take_180 rfl (by decide) rfl ?_
              refine aw_sub [2, 3, 0, 4] rfl ?_
              exact t_X2_take_181 hG  hK19 h
            · have h := sw_if.f h c_22
              refine aw_aload_n 1 dX2_take_155 rfl rfl ?_
              refine aw_bipush (v := 126) dX2_take_156 (by decide) ?_
              refine aw_callV wv_X2_await (M_X2_await hG  h) ml_X2_70 rfl (by decide) (lk6 hG) rfl rfl (Nat.le_of_ble_eq_true rfl) ⟨rfl, rfl⟩ ⟨Nat.le_of_ble_eq_true rfl, Nat.le_of_ble_eq_true rfl⟩ ⟨Nat.le_refl _, Nat.le_refl _⟩ dX2_take_158 (aw_kv fun I_33 J_34 h => ?_)
              refine aw_goto 181 dX2_take_161 (by decide) ?_
              refine aw_sub [1, 2, 3, 4] rfl ?_
              exact t_X2_take_181 hG  hK19 h
          · have h := sw_if.t h c_21
            refine aw_aload_n 1 dX2_take_129 rfl rfl ?_
            refine aw_iconst (v := 1) dX2_take_130 (by decide) ?_
            refine aw_callV wv_X2_release (M_X2_release hG  h) ml_X2_73 rfl (by decide) (lk6 hG) rfl rfl (Nat.le_of_ble_eq_true rfl) ⟨rfl, rfl⟩ ⟨Nat.le_of_ble_eq_true rfl, Nat.le_of_ble_eq_true rfl⟩ ⟨Nat.le_refl _, Nat.le_refl _⟩ dX2_take_131 (aw_kv fun I_36 J_37 h => ?_)
            refine aw_aload_n 1 dX2_take_134 rfl rfl ?_
            refine aw_aload_n 1 dX2_take_135 rfl rfl ?_
            refine gf_X2_4 fl_X2_25 (lk6 hG) dX2_take_136 ?_
            refine aw_iconst (v := 1) dX2_take_139 (by decide) ?_
            refine aw_isub dX2_take_140 ?_
            refine aw_iconst (v := 0) dX2_take_141 (by decide) ?_
            refine aw_mmax mm_X2_76 wm_max (Nat.le_of_ble_eq_true rfl) (Nat.le_of_ble_eq_true rfl) ⟨Nat.le_refl _, Nat.le_refl _⟩ dX2_take_142 ?_
            refine pf_X2_4 fl_X2_25 (lk6 hG) dX2_take_145 (aw_nameI fun I_38 e_39 => ?_)
            have h := h I_38 e_39
            refine aw_goto 181 dX2_take_148 (by decide) ?_
            refine aw_sub [1, 2, 3, 4] rfl ?_
            exact t_X2_take_181 hG  hK19 h
        · have h := sw_if.t h c_20
          refine aw_aload_n 1 dX2_take_113 rfl rfl ?_
          refine aw_iload 0 dX2_take_114 rfl ?_
          refine aw_callV wv_X2_await (M_X2_await hG  h) ml_X2_70 rfl (by decide) (lk6 hG) rfl rfl (Nat.le_of_ble_eq_true rfl) ⟨rfl, rfl⟩ ⟨Nat.le_of_ble_eq_true rfl, Nat.le_of_ble_eq_true rfl⟩ ⟨Nat.le_refl _, Nat.le_refl _⟩ dX2_take_116 (aw_kv fun I_41 J_42 h => ?_)
          refine aw_goto 181 dX2_take_119 (by decide) ?_
          refine aw_sub [1, 2, 3, 4] rfl ?_
          exact t_X2_take_181 hG  hK19 h
      · have h := sw_if.f h c_19
        refine aw_aload_n 1 dX2_take_73 rfl rfl ?_
        refine aw_iload 0 dX2_take_74 rfl ?_
        refine aw_ineg dX2_take_76 ?_
        refine aw_callV wv_X2_put (M_X2_put hG  h) ml_X2_66 rfl (by decide) (lk6 hG) rfl rfl (Nat.le_of_ble_eq_true rfl) ⟨rfl, rfl⟩ ⟨Nat.le_of_ble_eq_true rfl, Nat.le_of_ble_eq_true rfl⟩ ⟨Nat.le_refl _, Nat.le_refl _⟩ dX2_take_77 (aw_kv fun I_44 J_45 h => ?_)
        refine aw_aload_n 1 dX2_take_80 rfl rfl ?_
        refine aw_dup dX2_take_81 rfl ?_
        refine gf_X2_5 fl_X2_28 (lk6 hG) dX2_take_82 ?_
        refine aw_iload 0 dX2_take_85 rfl ?_
        refine aw_bipush (v := 114) dX2_take_87 (by decide) ?_
        refine aw_jne 96 dX2_take_89 (by decide) (fun c_46 => ?_) (fun c_46 => ?_)
        · have h := sw_if.f h c_46
          refine aw_iconst (v := 0) dX2_take_96 (by decide) ?_
          refine aw_sub [1, 2, 4] rfl ?_
          exact t_X2_take_97 hG  hK19 h
        · have h := sw_if.t h c_46
          refine aw_iconst (v := 1) dX2_take_92 (by decide) ?_
          refine aw_goto 97 dX2_take_93 (by decide) ?_
          refine aw_sub [1, 2, 4] rfl ?_
          exact t_X2_take_97 hG  hK19 h
    · have h := sw_if.f h c_15
      refine aw_aload_n 1 dX2_take_42 rfl rfl ?_
      refine aw_iload 0 dX2_take_43 rfl ?_
      refine aw_bipush (v := 48) dX2_take_45 (by decide) ?_
      refine aw_isub dX2_take_47 ?_
      refine aw_iload_n 3 dX2_take_48 rfl rfl ?_
      refine aw_zne 56 dX2_take_49 (by decide) (fun c_47 => ?_) (fun c_47 => ?_)
      · have h := sw_if.f h c_47
        refine aw_iconst (v := 0) dX2_take_56 (by decide) ?_
        refine aw_sub [1, 2, 4] rfl ?_
        exact t_X2_take_57 hG  hK19 h
      · have h := sw_if.t h c_47
        refine aw_iconst (v := 1) dX2_take_52 (by decide) ?_
        refine aw_goto 57 dX2_take_53 (by decide) ?_
        refine aw_sub [1, 2, 4] rfl ?_
        exact t_X2_take_57 hG  hK19 h
set_option maxRecDepth 20000 in
theorem tl_X2_take_19 {l : Launch} {D : va_G} {cy : Nat → ClassId} {sz : Nat} {G : sw_G} (hG : sw_lay G)   {Q : sw_I → sw_J → Prop} : ∀ (n : Nat) (x2 : Int32) (x3 : Int32) (I : sw_I) (J : sw_J), wl_X2_take_19   Q n x2 x3 I J → AW l D cy sz RX2 cX2_take 5 none false rm_X2_take 0 0 (sw_qv G Q) 0 0 G I J 19 [(0, .ref (sz + 6)), (1, .ref (sz + 1)), (2, .int x2), (3, .int x3)] [] := by
  intro n
  induction n with
  | zero => intro x2 x3 I J h; exact False.elim h
  | succ n ih => intro x2 x3 I J h; exact tb_X2_take_19 hG  ih h
set_option maxRecDepth 20000 in
theorem t_X2_take {l : Launch} {D : va_G} {cy : Nat → ClassId} {sz : Nat} {G : sw_G} (hG : sw_lay G)   {Q : sw_I → sw_J → Prop}  {I : sw_I} {J : sw_J} (h : wp_X2_take  I J Q) : AW l D cy sz RX2 cX2_take 5 none false rm_X2_take 0 0 (sw_qv G Q) 0 0 G I J 0 [(0, .ref (sz + 6)), (1, .ref (sz + 1))] [] := by
  unfold wp_X2_take at h
  refine aw_aload_n 0 dX2_take_0 rfl rfl ?_
  refine aw_iconst (v := 0) dX2_take_1 (by decide) ?_
  refine pf_X2_3 fl_X2_21 (lk6 hG) dX2_take_2 (aw_nameI fun I_1 e_2 => ?_)
  have h := h I_1 e_2
  refine aw_aload_n 0 dX2_take_5 rfl rfl ?_
  refine aw_iconst (v := 0) dX2_take_6 (by decide) ?_
  refine pf_X2_4 fl_X2_25 (lk6 hG) dX2_take_7 (aw_nameI fun I_3 e_4 => ?_)
  have h := h I_3 e_4
  refine aw_aload_n 0 dX2_take_10 rfl rfl ?_
  refine aw_iconst (v := 0) dX2_take_11 (by decide) ?_
  refine pf_X2_5 (by decide) fl_X2_28 (lk6 hG) dX2_take_12 (aw_nameI fun I_5 e_6 => ?_)
  have h := h I_5 e_6
  refine aw_iconst (v := 1) dX2_take_15 (by decide) ?_
  refine aw_istore_n (lv' := [(2, .int 1), (0, .ref (sz + 6)), (1, .ref (sz + 1))]) dX2_take_16 rfl (by decide) rfl ?_
  refine aw_iconst (v := 0) dX2_take_17 (by decide) ?_
  refine aw_istore_n (lv' := [(3, .int 0), (2, .int 1), (0, .ref (sz + 6)), (1, .ref (sz + 1))]) dX2_take_18 rfl (by decide) rfl ?_
  refine aw_sub [2, 3, 1, 0] rfl ?_
  obtain ⟨n_7, h⟩ := h
  exact tl_X2_take_19 hG   n_7 1 0 I_5 J h
theorem M_X2_take {l : Launch} {D : va_G} {cy : Nat → ClassId} {sz : Nat} {G : sw_G} (hG : sw_lay G)   {Q : sw_I → sw_J → Prop}  {I : sw_I} {J : sw_J} (h : wp_X2_take  I J Q) : Met l yX2_take (Cond.code yX2_take cX2_take 5 none :: sw_T) rm_X2_take (sw_Pc D cy sz [.ref (sz + 6), .ref (sz + 1)] G I J) (sw_Q D cy sz (sw_qv G Q)) 0 0 (fun q => sz ≤ q) :=
  sw_met (by decide) (fun q => by cases q) (Nat.le_of_ble_eq_true rfl) rfl (t_X2_take hG  h)
-- X2_worth
abbrev rm_X2_worth : Room := { frames := 1, cells := 0, slots := 0, locals := 22 }
def wB_X2_worth_138  (K5 : Int32 → Int32 → Int32 → sw_I → sw_J → Prop) (Q : Int32 → sw_I → sw_J → Prop) (x2 : Int32) (x3 : Int32) (x4 : Int32) (I : sw_I) (J : sw_J) : Prop :=
  ∀ y_1 : Int32, y_1 = x4 + 1 → K5 x2 x3 y_1 I J
def wB_X2_worth_102  (K5 : Int32 → Int32 → Int32 → sw_I → sw_J → Prop) (Q : Int32 → sw_I → sw_J → Prop) (x2 : Int32) (x3 : Int32) (x4 : Int32) (x5 : Int32) (I : sw_I) (J : sw_J) : Prop :=
  sw_if ((1 : Int32) < x3) (∀ y_2 : Int32, y_2 = x3 + (-1) → vp_in (y_2 - (1 : Int32)) 40 ∧ vp_in y_2 40 ∧ wp_X2_joined (-x5) (I 9 (y_2 - (1 : Int32)).toNatClampNeg) (I 9 y_2.toNatClampNeg) I J (fun r_6 I_7 J_8 => vp_in (y_2 - (1 : Int32)) 40 ∧ ∀ I_10 : sw_I, I_10 = sw_up I_7 9 (y_2 - (1 : Int32)).toNatClampNeg r_6 → wB_X2_worth_138  K5 Q x2 y_2 x4 I_10 J_8)) (wB_X2_worth_138  K5 Q x2 x3 x4 I J)
def wb_X2_worth_5  (K5 : Int32 → Int32 → Int32 → sw_I → sw_J → Prop) (Q : Int32 → sw_I → sw_J → Prop) (x2 : Int32) (x3 : Int32) (x4 : Int32) (I : sw_I) (J : sw_J) : Prop :=
  sw_if (x4 < (I 6 3)) (vp_in x4 40 ∧ ∀ y_4 : Int32, y_4 = (I 7 x4.toNatClampNeg) → sw_if (y_4 < 0) (wp_X2_isName (-y_4) I J (fun r_7 I_8 J_9 => sw_if (r_7 = 0) (sw_if (y_4 = (-126 : Int32)) (sw_if (0 < x3) (vp_in (x3 - (1 : Int32)) 40 ∧ vp_in (x3 - (1 : Int32)) 40 ∧ ∀ I_15 : sw_I, I_15 = sw_up I_8 9 (x3 - (1 : Int32)).toNatClampNeg (-(I_8 9 (x3 - (1 : Int32)).toNatClampNeg)) → wB_X2_worth_138  K5 Q x2 x3 x4 I_15 J_9) (wB_X2_worth_102  K5 Q x2 x3 x4 y_4 I_8 J_9)) (wB_X2_worth_102  K5 Q x2 x3 x4 y_4 I_8 J_9)) (wp_X2_named (-y_4) x2 I_8 J_9 (fun r_17 I_18 J_19 => vp_in x3 40 ∧ ∀ I_21 : sw_I, I_21 = sw_up I_18 9 x3.toNatClampNeg r_17 → ∀ y_23 : Int32, y_23 = x3 + 1 → wB_X2_worth_138  K5 Q x2 y_23 x4 I_21 J_19)))) (vp_in x3 40 ∧ ∀ I_26 : sw_I, I_26 = sw_up I 9 x3.toNatClampNeg y_4 → ∀ y_28 : Int32, y_28 = x3 + 1 → wB_X2_worth_138  K5 Q x2 y_28 x4 I_26 J)) (Q (I 9 (0 : Int32).toNatClampNeg) I J)
def wl_X2_worth_5   (Q : Int32 → sw_I → sw_J → Prop) : Nat → Int32 → Int32 → Int32 → sw_I → sw_J → Prop
  | 0 => fun _ _ _ _ _ => False
  | n + 1 => fun x2 x3 x4 I J => wb_X2_worth_5  (wl_X2_worth_5   Q n) Q x2 x3 x4 I J
def wp_X2_worth (x2 : Int32) (I : sw_I) (J : sw_J) (Q : Int32 → sw_I → sw_J → Prop) : Prop :=
  ∃ n_1 : Nat, wl_X2_worth_5   Q n_1 x2 0 0 I J
set_option maxRecDepth 20000 in
theorem t_X2_worth_138 {l : Launch} {D : va_G} {cy : Nat → ClassId} {sz : Nat} {G : sw_G} (hG : sw_lay G)   {Q : Int32 → sw_I → sw_J → Prop} {K5 : Int32 → Int32 → Int32 → sw_I → sw_J → Prop} (hK5 : ∀ (x2 : Int32) (x3 : Int32) (x4 : Int32) (I : sw_I) (J : sw_J), K5 x2 x3 x4 I J → AW l D cy sz RX2 cX2_worth 6 (some .int) false rm_X2_worth 0 0 (sw_qi G Q) 0 0 G I J 5 [(0, .ref (sz + 6)), (1, .ref (sz + 10)), (2, .int x2), (3, .int x3), (4, .int x4)] []) {x2 : Int32} {x3 : Int32} {x4 : Int32} {I : sw_I} {J : sw_J} (h : wB_X2_worth_138  K5 Q x2 x3 x4 I J) : AW l D cy sz RX2 cX2_worth 6 (some .int) false rm_X2_worth 0 0 (sw_qi G Q) 0 0 G I J 138 [(0, .ref (sz + 6)), (1, .ref (sz + 10)), (2, .int x2), (3, .int x3), (4, .int x4)] [] := by
  unfold wB_X2_worth_138 at h
  obtain ⟨y_1, e_2⟩ : ∃ q : Int32, q = x4 + 1 := ⟨_, rfl⟩
  have h := h y_1 e_2
  refine aw_iinc (lv' := [(4, .int y_1), (0, .ref (sz + 6)), (1, .ref (sz + 10)), (2, .int x2), (3, .int x3)]) 4 dX2_worth_138 rfl (by rw [e_2]; rfl) (by decide) rfl ?_
  refine aw_goto 5 dX2_worth_141 (by decide) ?_
  refine aw_sub [1, 2, 3, 4, 0] rfl ?_
  exact hK5 x2 x3 y_1 I J h
set_option maxRecDepth 20000 in
theorem t_X2_worth_102 {l : Launch} {D : va_G} {cy : Nat → ClassId} {sz : Nat} {G : sw_G} (hG : sw_lay G)   {Q : Int32 → sw_I → sw_J → Prop} {K5 : Int32 → Int32 → Int32 → sw_I → sw_J → Prop} (hK5 : ∀ (x2 : Int32) (x3 : Int32) (x4 : Int32) (I : sw_I) (J : sw_J), K5 x2 x3 x4 I J → AW l D cy sz RX2 cX2_worth 6 (some .int) false rm_X2_worth 0 0 (sw_qi G Q) 0 0 G I J 5 [(0, .ref (sz + 6)), (1, .ref (sz + 10)), (2, .int x2), (3, .int x3), (4, .int x4)] []) {x2 : Int32} {x3 : Int32} {x4 : Int32} {x5 : Int32} {I : sw_I} {J : sw_J} (h : wB_X2_worth_102  K5 Q x2 x3 x4 x5 I J) : AW l D cy sz RX2 cX2_worth 6 (some .int) false rm_X2_worth 0 0 (sw_qi G Q) 0 0 G I J 102 [(0, .ref (sz + 6)), (1, .ref (sz + 10)), (2, .int x2), (3, .int x3), (4, .int x4), (5, .int x5)] [] := by
  unfold wB_X2_worth_102 at h
  refine aw_iload_n 3 dX2_worth_102 rfl rfl ?_
  refine aw_iconst (v := 1) dX2_worth_103 (by decide) ?_
  refine aw_jle 138 dX2_worth_104 (by decide) (fun c_1 => ?_) (fun c_1 => ?_)
  · have h := sw_if.f h c_1
    refine aw_sub [0, 1, 2, 3, 4] rfl ?_
    exact t_X2_worth_138 hG  hK5 h
  · have h := sw_if.t h c_1
    obtain ⟨y_2, e_3⟩ : ∃ q : Int32, q = x3 + (-1) := ⟨_, rfl⟩
    have h := h y_2 e_3
    refine aw_iinc (lv' := [(3, .int y_2), (0, .ref (sz + 6)), (1, .ref (sz + 10)), (2, .int x2), (4, .int x4), (5, .int x5)]) 3 dX2_worth_107 rfl (by rw [e_3]; rfl) (by decide) rfl ?_
    refine aw_aload_n 1 dX2_worth_110 rfl rfl ?_
    refine gf_X2_2 fl_X2_18 (lk6 hG) (lr6_2 hG) dX2_worth_111 ?_
    refine aw_iload_n 0 dX2_worth_114 rfl rfl ?_
    refine aw_iconst (v := 1) dX2_worth_115 (by decide) ?_
    refine aw_isub dX2_worth_116 ?_
    refine aw_iload 5 dX2_worth_117 rfl ?_
    refine aw_ineg dX2_worth_119 ?_
    refine aw_aload_n 1 dX2_worth_120 rfl rfl ?_
    refine gf_X2_2 fl_X2_18 (lk6 hG) (lr6_2 hG) dX2_worth_121 ?_
    refine aw_iload_n 0 dX2_worth_124 rfl rfl ?_
    refine aw_iconst (v := 1) dX2_worth_125 (by decide) ?_
    refine aw_isub dX2_worth_126 ?_
    obtain ⟨hi_4, h⟩ := h
    refine aw_ild dX2_worth_127 (lk9 hG) (ln9 hG) hi_4 ?_
    refine aw_aload_n 1 dX2_worth_128 rfl rfl ?_
    refine gf_X2_2 fl_X2_18 (lk6 hG) (lr6_2 hG) dX2_worth_129 ?_
    refine aw_iload_n 0 dX2_worth_132 rfl rfl ?_
    obtain ⟨hi_5, h⟩ := h
    refine aw_ild dX2_worth_133 (lk9 hG) (ln9 hG) hi_5 ?_
    refine aw_callS wv_X2_joined (M_X2_joined trivial  h) ml_X2_86 rfl rfl (Nat.le_of_ble_eq_true rfl) ⟨rfl, rfl⟩ ⟨Nat.le_of_ble_eq_true rfl, Nat.le_of_ble_eq_true rfl⟩ ⟨Nat.le_refl _, Nat.le_refl _⟩ dX2_worth_134 (aw_ki fun r_6 I_7 J_8 h => ?_)
    obtain ⟨hi_9, h⟩ := h
    refine aw_ist dX2_worth_137 (lk9 hG) (ln9 hG) hi_9 (aw_nameI fun I_10 e_11 => ?_)
    have h := h I_10 e_11
    refine aw_sub [1, 2, 3, 0, 4] rfl ?_
    exact t_X2_worth_138 hG  hK5 h
set_option maxRecDepth 20000 in
theorem tb_X2_worth_5 {l : Launch} {D : va_G} {cy : Nat → ClassId} {sz : Nat} {G : sw_G} (hG : sw_lay G)   {Q : Int32 → sw_I → sw_J → Prop} {K5 : Int32 → Int32 → Int32 → sw_I → sw_J → Prop} (hK5 : ∀ (x2 : Int32) (x3 : Int32) (x4 : Int32) (I : sw_I) (J : sw_J), K5 x2 x3 x4 I J → AW l D cy sz RX2 cX2_worth 6 (some .int) false rm_X2_worth 0 0 (sw_qi G Q) 0 0 G I J 5 [(0, .ref (sz + 6)), (1, .ref (sz + 10)), (2, .int x2), (3, .int x3), (4, .int x4)] []) {x2 : Int32} {x3 : Int32} {x4 : Int32} {I : sw_I} {J : sw_J} (h : wb_X2_worth_5  K5 Q x2 x3 x4 I J) : AW l D cy sz RX2 cX2_worth 6 (some .int) false rm_X2_worth 0 0 (sw_qi G Q) 0 0 G I J 5 [(0, .ref (sz + 6)), (1, .ref (sz + 10)), (2, .int x2), (3, .int x3), (4, .int x4)] [] := by
  unfold wb_X2_worth_5 at h
  refine aw_iload 4 dX2_worth_5 rfl ?_
  refine aw_aload_n 0 dX2_worth_7 rfl rfl ?_
  refine gf_X2_3 fl_X2_21 (lk6 hG) dX2_worth_8 ?_
  refine aw_jge 144 dX2_worth_11 (by decide) (fun c_1 => ?_) (fun c_1 => ?_)
  · have h := sw_if.f h c_1
    refine aw_aload_n 0 dX2_worth_144 rfl rfl ?_
    refine gf_X2_2 fl_X2_18 (lk6 hG) (lr6_2 hG) dX2_worth_145 ?_
    refine aw_iconst (v := 0) dX2_worth_148 (by decide) ?_
    refine aw_ild dX2_worth_149 (lk9 hG) (ln9 hG) (by unfold vp_in; decide) ?_
    exact aw_iret rfl dX2_worth_150 ⟨rfl, _, rfl, h⟩
  · have h := sw_if.t h c_1
    refine aw_aload_n 0 dX2_worth_14 rfl rfl ?_
    refine gf_X2_0 fl_X2_9 (lk6 hG) (lr6_0 hG) dX2_worth_15 ?_
    refine aw_iload 4 dX2_worth_18 rfl ?_
    obtain ⟨hi_3, h⟩ := h
    refine aw_ild dX2_worth_20 (lk7 hG) (ln7 hG) hi_3 ?_
    refine aw_topi (fun y_4 e_5 => ?_)
    have h := h y_4 e_5
    refine aw_istore (lv' := [(5, .int y_4), (0, .ref (sz + 6)), (1, .ref (sz + 10)), (2, .int x2), (3, .int x3), (4, .int x4)]) dX2_worth_21 (by decide) rfl ?_
    refine aw_iload 0 dX2_worth_23 rfl ?_
    refine aw_zlt 42 dX2_worth_25 (by decide) (fun c_6 => ?_) (fun c_6 => ?_)
    · have h := sw_if.t h c_6
      refine aw_iload 0 dX2_worth_42 rfl ?_
      refine aw_ineg dX2_worth_44 ?_
      refine aw_callS wv_X2_isName (M_X2_isName trivial  h) ml_X2_52 rfl rfl (Nat.le_of_ble_eq_true rfl) ⟨rfl, rfl⟩ ⟨Nat.le_of_ble_eq_true rfl, Nat.le_of_ble_eq_true rfl⟩ ⟨Nat.le_refl _, Nat.le_refl _⟩ dX2_worth_45 (aw_ki fun r_7 I_8 J_9 h => ?_)
      refine aw_zeq 71 dX2_worth_48 (by decide) (fun c_10 => ?_) (fun c_10 => ?_)
      · have h := sw_if.t h c_10
        refine aw_iload 0 dX2_worth_71 rfl ?_
        refine aw_bipush (v := (-126)) dX2_worth_73 (by decide) ?_
        refine aw_jne 102 dX2_worth_75 (by decide) (fun c_11 => ?_) (fun c_11 => ?_)
        · have h := sw_if.f h c_11
          refine aw_sub [1, 2, 3, 4, 5, 0] rfl ?_
          exact t_X2_worth_102 hG  hK5 h
        · have h := sw_if.t h c_11
          refine aw_iload_n 4 dX2_worth_78 rfl rfl ?_
          refine aw_zle 102 dX2_worth_79 (by decide) (fun c_12 => ?_) (fun c_12 => ?_)
          · have h := sw_if.f h c_12
            refine aw_sub [1, 2, 3, 4, 5, 0] rfl ?_
            exact t_X2_worth_102 hG  hK5 h
          · have h := sw_if.t h c_12
            refine aw_aload_n 1 dX2_worth_82 rfl rfl ?_
            refine gf_X2_2 fl_X2_18 (lk6 hG) (lr6_2 hG) dX2_worth_83 ?_
            refine aw_iload_n 4 dX2_worth_86 rfl rfl ?_
            refine aw_iconst (v := 1) dX2_worth_87 (by decide) ?_
            refine aw_isub dX2_worth_88 ?_
            refine aw_aload_n 1 dX2_worth_89 rfl rfl ?_
            refine gf_X2_2 fl_X2_18 (lk6 hG) (lr6_2 hG) dX2_worth_90 ?_
            refine aw_iload_n 4 dX2_worth_93 rfl rfl ?_
            refine aw_iconst (v := 1) dX2_worth_94 (by decide) ?_
            refine aw_isub dX2_worth_95 ?_
            obtain ⟨hi_13, h⟩ := h
            refine aw_ild dX2_worth_96 (lk9 hG) (ln9 hG) hi_13 ?_
            refine aw_ineg dX2_worth_97 ?_
            obtain ⟨hi_14, h⟩ := h
            refine aw_ist dX2_worth_98 (lk9 hG) (ln9 hG) hi_14 (aw_nameI fun I_15 e_16 => ?_)
            have h := h I_15 e_16
            refine aw_goto 138 dX2_worth_99 (by decide) ?_
            refine aw_sub [1, 2, 3, 4, 5] rfl ?_
            exact t_X2_worth_138 hG  hK5 h
      · have h := sw_if.f h c_10
        refine aw_aload_n 1 dX2_worth_51 rfl rfl ?_
        refine gf_X2_2 fl_X2_18 (lk6 hG) (lr6_2 hG) dX2_worth_52 ?_
        refine aw_iload_n 4 dX2_worth_55 rfl rfl ?_
        refine aw_iload 0 dX2_worth_56 rfl ?_
        refine aw_ineg dX2_worth_58 ?_
        refine aw_aload_n 2 dX2_worth_59 rfl rfl ?_
        refine aw_iload_n 3 dX2_worth_60 rfl rfl ?_
        refine aw_callS wv_X2_named (M_X2_named hG  h) ml_X2_82 rfl rfl (Nat.le_of_ble_eq_true rfl) ⟨rfl, rfl⟩ ⟨Nat.le_of_ble_eq_true rfl, Nat.le_of_ble_eq_true rfl⟩ ⟨Nat.le_refl _, Nat.le_refl _⟩ dX2_worth_61 (aw_ki fun r_17 I_18 J_19 h => ?_)
        obtain ⟨hi_20, h⟩ := h
        refine aw_ist dX2_worth_64 (lk9 hG) (ln9 hG) hi_20 (aw_nameI fun I_21 e_22 => ?_)
        have h := h I_21 e_22
        obtain ⟨y_23, e_24⟩ : ∃ q : Int32, q = x3 + 1 := ⟨_, rfl⟩
        have h := h y_23 e_24
        refine aw_iinc (lv' := [(3, .int y_23), (5, .int y_4), (0, .ref (sz + 6)), (1, .ref (sz + 10)), (2, .int x2), (4, .int x4)]) 4 dX2_worth_65 rfl (by rw [e_24]; rfl) (by decide) rfl ?_
        refine aw_goto 138 dX2_worth_68 (by decide) ?_
        refine aw_sub [2, 3, 4, 0, 5] rfl ?_
        exact t_X2_worth_138 hG  hK5 h
    · have h := sw_if.f h c_6
      refine aw_aload_n 1 dX2_worth_28 rfl rfl ?_
      refine gf_X2_2 fl_X2_18 (lk6 hG) (lr6_2 hG) dX2_worth_29 ?_
      refine aw_iload_n 4 dX2_worth_32 rfl rfl ?_
      refine aw_iload 0 dX2_worth_33 rfl ?_
      obtain ⟨hi_25, h⟩ := h
      refine aw_ist dX2_worth_35 (lk9 hG) (ln9 hG) hi_25 (aw_nameI fun I_26 e_27 => ?_)
      have h := h I_26 e_27
      obtain ⟨y_28, e_29⟩ : ∃ q : Int32, q = x3 + 1 := ⟨_, rfl⟩
      have h := h y_28 e_29
      refine aw_iinc (lv' := [(3, .int y_28), (5, .int y_4), (0, .ref (sz + 6)), (1, .ref (sz + 10)), (2, .int x2), (4, .int x4)]) 4 dX2_worth_36 rfl (by rw [e_29]; rfl) (by decide) rfl ?_
      refine aw_goto 138 dX2_worth_39 (by decide) ?_
      refine aw_sub [2, 3, 4, 0, 5] rfl ?_
      exact t_X2_worth_138 hG  hK5 h
set_option maxRecDepth 20000 in
theorem tl_X2_worth_5 {l : Launch} {D : va_G} {cy : Nat → ClassId} {sz : Nat} {G : sw_G} (hG : sw_lay G)   {Q : Int32 → sw_I → sw_J → Prop} : ∀ (n : Nat) (x2 : Int32) (x3 : Int32) (x4 : Int32) (I : sw_I) (J : sw_J), wl_X2_worth_5   Q n x2 x3 x4 I J → AW l D cy sz RX2 cX2_worth 6 (some .int) false rm_X2_worth 0 0 (sw_qi G Q) 0 0 G I J 5 [(0, .ref (sz + 6)), (1, .ref (sz + 10)), (2, .int x2), (3, .int x3), (4, .int x4)] [] := by
  intro n
  induction n with
  | zero => intro x2 x3 x4 I J h; exact False.elim h
  | succ n ih => intro x2 x3 x4 I J h; exact tb_X2_worth_5 hG  ih h
set_option maxRecDepth 20000 in
theorem t_X2_worth {l : Launch} {D : va_G} {cy : Nat → ClassId} {sz : Nat} {G : sw_G} (hG : sw_lay G)   {Q : Int32 → sw_I → sw_J → Prop} {x2 : Int32} {I : sw_I} {J : sw_J} (h : wp_X2_worth x2 I J Q) : AW l D cy sz RX2 cX2_worth 6 (some .int) false rm_X2_worth 0 0 (sw_qi G Q) 0 0 G I J 0 [(0, .ref (sz + 6)), (1, .ref (sz + 10)), (2, .int x2)] [] := by
  unfold wp_X2_worth at h
  refine aw_iconst (v := 0) dX2_worth_0 (by decide) ?_
  refine aw_istore_n (lv' := [(3, .int 0), (0, .ref (sz + 6)), (1, .ref (sz + 10)), (2, .int x2)]) dX2_worth_1 rfl (by decide) rfl ?_
  refine aw_iconst (v := 0) dX2_worth_2 (by decide) ?_
  refine aw_istore (lv' := [(4, .int 0), (3, .int 0), (0, .ref (sz + 6)), (1, .ref (sz + 10)), (2, .int x2)]) dX2_worth_3 (by decide) rfl ?_
  refine aw_sub [2, 3, 4, 1, 0] rfl ?_
  obtain ⟨n_1, h⟩ := h
  exact tl_X2_worth_5 hG   n_1 x2 0 0 I J h
theorem M_X2_worth {l : Launch} {D : va_G} {cy : Nat → ClassId} {sz : Nat} {G : sw_G} (hG : sw_lay G)   {Q : Int32 → sw_I → sw_J → Prop} {x2 : Int32} {I : sw_I} {J : sw_J} (h : wp_X2_worth x2 I J Q) : Met l yX2_worth (Cond.code yX2_worth cX2_worth 6 (some .int) :: sw_T) rm_X2_worth (sw_Pc D cy sz [.ref (sz + 6), .ref (sz + 10), .int x2] G I J) (sw_Q D cy sz (sw_qi G Q)) 0 0 (fun q => sz ≤ q) :=
  sw_met (by decide) (fun q => by cases q) (Nat.le_of_ble_eq_true rfl) rfl (t_X2_worth hG  h)
-- X3_clear
abbrev rm_X3_clear : Room := { frames := 1, cells := 0, slots := 0, locals := 23 }
def wp_X3_clear (a0 : Nat) (I : sw_I) (J : sw_J) (Q : sw_I → sw_J → Prop) : Prop :=
  wp_J7_fill_53178 (a0 + 1) 10 (-1) I J (fun I_2 J_3 => wp_J7_fill_53178 (a0 + 2) 10 (-1) I_2 J_3 (fun I_5 J_6 => wp_J7_fill_53178 (a0 + 3) 10 0 I_5 J_6 (fun I_8 J_9 => ∀ I_10 : sw_I, I_10 = sw_up I_8 a0 3 (0 : Int32) → ∀ I_12 : sw_I, I_12 = sw_up I_10 a0 4 (0 : Int32) → ∀ I_14 : sw_I, I_14 = sw_up I_12 a0 5 (0 : Int32) → Q I_14 J_9)))
set_option maxRecDepth 20000 in
theorem t_X3_clear {l : Launch} {D : va_G} {cy : Nat → ClassId} {sz : Nat} {G : sw_G} (hG : True) {a0 : Nat} (ha0 : sw_mom G a0) {Q : sw_I → sw_J → Prop}  {I : sw_I} {J : sw_J} (h : wp_X3_clear a0 I J Q) : AW l D cy sz RX3 cX3_clear 1 none false rm_X3_clear 0 0 (sw_qv G Q) 0 0 G I J 0 [(0, .ref (sz + a0))] [] := by
  unfold wp_X3_clear at h
  refine aw_aload_n 0 dX3_clear_0 rfl rfl ?_
  refine gf_X3_0 fl_X3_9 ha0.1 ha0.2.1.1 dX3_clear_1 ?_
  refine aw_iconst (v := (-1)) dX3_clear_4 (by decide) ?_
  refine aw_callS wv_J7_fill_53178 (M_J7_fill_53178 trivial ⟨ha0.2.2.1, ha0.2.2.2.2.2.1⟩ h) ml_X3_31 rfl rfl (Nat.le_of_ble_eq_true rfl) ⟨rfl, rfl⟩ ⟨Nat.le_of_ble_eq_true rfl, Nat.le_of_ble_eq_true rfl⟩ ⟨Nat.le_refl _, Nat.le_refl _⟩ dX3_clear_5 (aw_kv fun I_2 J_3 h => ?_)
  refine aw_aload_n 0 dX3_clear_8 rfl rfl ?_
  refine gf_X3_1 fl_X3_15 ha0.1 ha0.2.1.2.1 dX3_clear_9 ?_
  refine aw_iconst (v := (-1)) dX3_clear_12 (by decide) ?_
  refine aw_callS wv_J7_fill_53178 (M_J7_fill_53178 trivial ⟨ha0.2.2.2.1, ha0.2.2.2.2.2.2.1⟩ h) ml_X3_31 rfl rfl (Nat.le_of_ble_eq_true rfl) ⟨rfl, rfl⟩ ⟨Nat.le_of_ble_eq_true rfl, Nat.le_of_ble_eq_true rfl⟩ ⟨Nat.le_refl _, Nat.le_refl _⟩ dX3_clear_13 (aw_kv fun I_5 J_6 h => ?_)
  refine aw_aload_n 0 dX3_clear_16 rfl rfl ?_
  refine gf_X3_2 fl_X3_18 ha0.1 ha0.2.1.2.2 dX3_clear_17 ?_
  refine aw_iconst (v := 0) dX3_clear_20 (by decide) ?_
  refine aw_callS wv_J7_fill_53178 (M_J7_fill_53178 trivial ⟨ha0.2.2.2.2.1, ha0.2.2.2.2.2.2.2⟩ h) ml_X3_31 rfl rfl (Nat.le_of_ble_eq_true rfl) ⟨rfl, rfl⟩ ⟨Nat.le_of_ble_eq_true rfl, Nat.le_of_ble_eq_true rfl⟩ ⟨Nat.le_refl _, Nat.le_refl _⟩ dX3_clear_21 (aw_kv fun I_8 J_9 h => ?_)
  refine aw_aload_n 0 dX3_clear_24 rfl rfl ?_
  refine aw_iconst (v := 0) dX3_clear_25 (by decide) ?_
  refine pf_X3_3 fl_X3_21 ha0.1 dX3_clear_26 (aw_nameI fun I_10 e_11 => ?_)
  have h := h I_10 e_11
  refine aw_aload_n 0 dX3_clear_29 rfl rfl ?_
  refine aw_iconst (v := 0) dX3_clear_30 (by decide) ?_
  refine pf_X3_4 fl_X3_25 ha0.1 dX3_clear_31 (aw_nameI fun I_12 e_13 => ?_)
  have h := h I_12 e_13
  refine aw_aload_n 0 dX3_clear_34 rfl rfl ?_
  refine aw_iconst (v := 0) dX3_clear_35 (by decide) ?_
  refine pf_X3_5 fl_X3_28 ha0.1 dX3_clear_36 (aw_nameI fun I_14 e_15 => ?_)
  have h := h I_14 e_15
  exact aw_vret rfl dX3_clear_39 ⟨rfl, rfl, h⟩
theorem M_X3_clear {l : Launch} {D : va_G} {cy : Nat → ClassId} {sz : Nat} {G : sw_G} (hG : True) {a0 : Nat} (ha0 : sw_mom G a0) {Q : sw_I → sw_J → Prop}  {I : sw_I} {J : sw_J} (h : wp_X3_clear a0 I J Q) : Met l yX3_clear (Cond.code yX3_clear cX3_clear 1 none :: sw_T) rm_X3_clear (sw_Pc D cy sz [.ref (sz + a0)] G I J) (sw_Q D cy sz (sw_qv G Q)) 0 0 (fun q => sz ≤ q) :=
  sw_met (by decide) (fun q => by cases q) (Nat.le_of_ble_eq_true rfl) rfl (t_X3_clear hG ha0 h)
-- X6_bringUp
abbrev rm_X6_bringUp : Room := { frames := 1, cells := 0, slots := 0, locals := 22 }
def wb_X6_bringUp_2  (K2 : Int64 → Int32 → sw_I → sw_J → Prop) (Q : sw_I → sw_J → Prop) (w1 : Int64) (x3 : Int32) (I : sw_I) (J : sw_J) : Prop :=
  sw_if (x3 < (10 : Int32)) (wp_X6_floorOf w1 x3 I J (fun r_9 I_10 J_11 => vp_in x3 10 ∧ ∀ I_13 : sw_I, I_13 = sw_up I_10 122 x3.toNatClampNeg r_9 → ∀ y_15 : Int32, y_15 = x3 + 1 → K2 w1 y_15 I_13 J_11)) (wp_X6_liftOf w1 I J (fun r_2 I_3 J_4 => ∀ I_5 : sw_I, I_5 = sw_up I_3 121 4 r_2 → ∀ I_7 : sw_I, I_7 = sw_up I_5 121 5 (((w1.toUInt64 >>> ((44 : Int32).toInt64.toUInt64 &&& Int64.toUInt64 63)).toInt64).toInt32) → Q I_7 J_4))
def wl_X6_bringUp_2   (Q : sw_I → sw_J → Prop) : Nat → Int64 → Int32 → sw_I → sw_J → Prop
  | 0 => fun _ _ _ _ => False
  | n + 1 => fun w1 x3 I J => wb_X6_bringUp_2  (wl_X6_bringUp_2   Q n) Q w1 x3 I J
def wp_X6_bringUp (w1 : Int64) (I : sw_I) (J : sw_J) (Q : sw_I → sw_J → Prop) : Prop :=
  ∃ n_1 : Nat, wl_X6_bringUp_2   Q n_1 w1 0 I J
set_option maxRecDepth 20000 in
theorem tb_X6_bringUp_2 {l : Launch} {D : va_G} {cy : Nat → ClassId} {sz : Nat} {G : sw_G} (hG : sw_lay G)   {Q : sw_I → sw_J → Prop} {K2 : Int64 → Int32 → sw_I → sw_J → Prop} (hK2 : ∀ (w1 : Int64) (x3 : Int32) (I : sw_I) (J : sw_J), K2 w1 x3 I J → AW l D cy sz RX6 cX6_bringUp 4 none false rm_X6_bringUp 0 0 (sw_qv G Q) 0 0 G I J 2 [(0, .ref (sz + 120)), (1, .long w1), (3, .int x3)] []) {w1 : Int64} {x3 : Int32} {I : sw_I} {J : sw_J} (h : wb_X6_bringUp_2  K2 Q w1 x3 I J) : AW l D cy sz RX6 cX6_bringUp 4 none false rm_X6_bringUp 0 0 (sw_qv G Q) 0 0 G I J 2 [(0, .ref (sz + 120)), (1, .long w1), (3, .int x3)] [] := by
  unfold wb_X6_bringUp_2 at h
  refine aw_iload_n 2 dX6_bringUp_2 rfl rfl ?_
  refine aw_bipush (v := 10) dX6_bringUp_3 (by decide) ?_
  refine aw_jge 28 dX6_bringUp_5 (by decide) (fun c_1 => ?_) (fun c_1 => ?_)
  · have h := sw_if.f h c_1
    refine aw_aload_n 0 dX6_bringUp_28 rfl rfl ?_
    refine gf_X6_0 fl_X6_12 (lk120 hG) (lr120_0 hG) dX6_bringUp_29 ?_
    refine aw_lload_n 1 dX6_bringUp_32 rfl rfl ?_
    refine aw_callS wv_X6_liftOf (M_X6_liftOf trivial  h) ml_X6_114 rfl rfl (Nat.le_of_ble_eq_true rfl) ⟨rfl, rfl⟩ ⟨Nat.le_of_ble_eq_true rfl, Nat.le_of_ble_eq_true rfl⟩ ⟨Nat.le_refl _, Nat.le_refl _⟩ dX6_bringUp_33 (aw_ki fun r_2 I_3 J_4 h => ?_)
    refine pf_X3_4 fl_X6_80 (lk121 hG) dX6_bringUp_36 (aw_nameI fun I_5 e_6 => ?_)
    have h := h I_5 e_6
    refine aw_aload_n 0 dX6_bringUp_39 rfl rfl ?_
    refine gf_X6_0 fl_X6_12 (lk120 hG) (lr120_0 hG) dX6_bringUp_40 ?_
    refine aw_lload_n 1 dX6_bringUp_43 rfl rfl ?_
    refine aw_bipush (v := 44) dX6_bringUp_44 (by decide) ?_
    refine aw_lushr dX6_bringUp_46 ?_
    refine aw_l2i dX6_bringUp_47 ?_
    refine pf_X3_5 fl_X6_59 (lk121 hG) dX6_bringUp_48 (aw_nameI fun I_7 e_8 => ?_)
    have h := h I_7 e_8
    exact aw_vret rfl dX6_bringUp_51 ⟨rfl, rfl, h⟩
  · have h := sw_if.t h c_1
    refine aw_aload_n 0 dX6_bringUp_8 rfl rfl ?_
    refine gf_X6_0 fl_X6_12 (lk120 hG) (lr120_0 hG) dX6_bringUp_9 ?_
    refine gf_X3_0 fl_X6_107 (lk121 hG) (lr121_0 hG) dX6_bringUp_12 ?_
    refine aw_iload_n 2 dX6_bringUp_15 rfl rfl ?_
    refine aw_lload_n 1 dX6_bringUp_16 rfl rfl ?_
    refine aw_iload_n 2 dX6_bringUp_17 rfl rfl ?_
    refine aw_callS wv_X6_floorOf (M_X6_floorOf trivial  h) ml_X6_110 rfl rfl (Nat.le_of_ble_eq_true rfl) ⟨rfl, rfl⟩ ⟨Nat.le_of_ble_eq_true rfl, Nat.le_of_ble_eq_true rfl⟩ ⟨Nat.le_refl _, Nat.le_refl _⟩ dX6_bringUp_18 (aw_ki fun r_9 I_10 J_11 h => ?_)
    obtain ⟨hi_12, h⟩ := h
    refine aw_ist dX6_bringUp_21 (lk122 hG) (ln122 hG) hi_12 (aw_nameI fun I_13 e_14 => ?_)
    have h := h I_13 e_14
    obtain ⟨y_15, e_16⟩ : ∃ q : Int32, q = x3 + 1 := ⟨_, rfl⟩
    have h := h y_15 e_16
    refine aw_iinc (lv' := [(3, .int y_15), (0, .ref (sz + 120)), (1, .long w1)]) 2 dX6_bringUp_22 rfl (by rw [e_16]; rfl) (by decide) rfl ?_
    refine aw_goto 2 dX6_bringUp_25 (by decide) ?_
    refine aw_sub [1, 2, 0] rfl ?_
    exact hK2 w1 y_15 I_13 J_11 h
set_option maxRecDepth 20000 in
theorem tl_X6_bringUp_2 {l : Launch} {D : va_G} {cy : Nat → ClassId} {sz : Nat} {G : sw_G} (hG : sw_lay G)   {Q : sw_I → sw_J → Prop} : ∀ (n : Nat) (w1 : Int64) (x3 : Int32) (I : sw_I) (J : sw_J), wl_X6_bringUp_2   Q n w1 x3 I J → AW l D cy sz RX6 cX6_bringUp 4 none false rm_X6_bringUp 0 0 (sw_qv G Q) 0 0 G I J 2 [(0, .ref (sz + 120)), (1, .long w1), (3, .int x3)] [] := by
  intro n
  induction n with
  | zero => intro w1 x3 I J h; exact False.elim h
  | succ n ih => intro w1 x3 I J h; exact tb_X6_bringUp_2 hG  ih h
set_option maxRecDepth 20000 in
theorem t_X6_bringUp {l : Launch} {D : va_G} {cy : Nat → ClassId} {sz : Nat} {G : sw_G} (hG : sw_lay G)   {Q : sw_I → sw_J → Prop} {w1 : Int64} {I : sw_I} {J : sw_J} (h : wp_X6_bringUp w1 I J Q) : AW l D cy sz RX6 cX6_bringUp 4 none false rm_X6_bringUp 0 0 (sw_qv G Q) 0 0 G I J 0 [(0, .ref (sz + 120)), (1, .long w1)] [] := by
  unfold wp_X6_bringUp at h
  refine aw_iconst (v := 0) dX6_bringUp_0 (by decide) ?_
  refine aw_istore_n (lv' := [(3, .int 0), (0, .ref (sz + 120)), (1, .long w1)]) dX6_bringUp_1 rfl (by decide) rfl ?_
  refine aw_sub [1, 2, 0] rfl ?_
  obtain ⟨n_1, h⟩ := h
  exact tl_X6_bringUp_2 hG   n_1 w1 0 I J h
theorem M_X6_bringUp {l : Launch} {D : va_G} {cy : Nat → ClassId} {sz : Nat} {G : sw_G} (hG : sw_lay G)   {Q : sw_I → sw_J → Prop} {w1 : Int64} {I : sw_I} {J : sw_J} (h : wp_X6_bringUp w1 I J Q) : Met l yX6_bringUp (Cond.code yX6_bringUp cX6_bringUp 4 none :: sw_T) rm_X6_bringUp (sw_Pc D cy sz [.ref (sz + 120), .long w1] G I J) (sw_Q D cy sz (sw_qv G Q)) 0 0 (fun q => sz ≤ q) :=
  sw_met (by decide) (fun q => by cases q) (Nat.le_of_ble_eq_true rfl) rfl (t_X6_bringUp hG  h)
-- X6_isWanted
abbrev rm_X6_isWanted : Room := { frames := 2, cells := 0, slots := 0, locals := 46 }
def wp_X6_isWanted (x1 : Int32) (I : sw_I) (J : sw_J) (Q : Int32 → sw_I → sw_J → Prop) : Prop :=
  wp_X6_isState x1 I J (fun r_1 I_2 J_3 => sw_if (r_1 = 0) (Q 0 I_2 J_3) (vp_in x1 3000 ∧ ∀ y_6 : Int64, y_6 = (J_3 125 x1.toNatClampNeg) → sw_if ((I_2 120 7) = (1 : Int32)) (wp_X6_onFloor y_6 (-1) I_2 J_3 (fun r_18 I_19 J_20 => sw_if (((I_2 120 8) &&& (r_18 ^^^ (-1 : Int32))) = 0) (Q 1 I_19 J_20) (Q 0 I_19 J_20))) (sw_if ((I_2 120 7) = (2 : Int32)) (wp_X6_liftOf y_6 I_2 J_3 (fun r_10 I_11 J_12 => sw_if (r_10 = (I_11 120 9)) (wp_X6_onFloor y_6 (I_11 120 9) I_11 J_12 (fun r_14 I_15 J_16 => sw_if (r_14 = (I_15 120 8)) (Q 1 I_15 J_16) (Q 0 I_15 J_16))) (Q 0 I_11 J_12))) (Q 0 I_2 J_3))))
set_option maxRecDepth 20000 in
theorem t_X6_isWanted {l : Launch} {D : va_G} {cy : Nat → ClassId} {sz : Nat} {G : sw_G} (hG : sw_lay G)   {Q : Int32 → sw_I → sw_J → Prop} {x1 : Int32} {I : sw_I} {J : sw_J} (h : wp_X6_isWanted x1 I J Q) : AW l D cy sz RX6 cX6_isWanted 4 (some .boolean) false rm_X6_isWanted 0 0 (sw_qi G Q) 0 0 G I J 0 [(0, .ref (sz + 120)), (1, .int x1)] [] := by
  unfold wp_X6_isWanted at h
  refine aw_aload_n 0 dX6_isWanted_0 rfl rfl ?_
  refine aw_iload_n 1 dX6_isWanted_1 rfl rfl ?_
  refine aw_callV wv_X6_isState (M_X6_isState hG  h) ml_X6_122 rfl (by decide) (lk120 hG) rfl rfl (Nat.le_of_ble_eq_true rfl) ⟨rfl, rfl⟩ ⟨Nat.le_of_ble_eq_true rfl, Nat.le_of_ble_eq_true rfl⟩ ⟨Nat.le_refl _, Nat.le_refl _⟩ dX6_isWanted_2 (aw_ki fun r_1 I_2 J_3 h => ?_)
  refine aw_zne 10 dX6_isWanted_5 (by decide) (fun c_4 => ?_) (fun c_4 => ?_)
  · have h := sw_if.f h c_4
    refine aw_aload_n 0 dX6_isWanted_10 rfl rfl ?_
    refine gf_X6_1 fl_X6_18 (lk120 hG) (lr120_1 hG) dX6_isWanted_11 ?_
    refine aw_iload_n 1 dX6_isWanted_14 rfl rfl ?_
    obtain ⟨hi_5, h⟩ := h
    refine aw_lld dX6_isWanted_15 (lk125 hG) (ln125 hG) hi_5 ?_
    refine aw_topl (fun y_6 e_7 => ?_)
    have h := h y_6 e_7
    refine aw_lstore_n (lv' := [(2, .long y_6), (0, .ref (sz + 120)), (1, .int x1)]) dX6_isWanted_16 rfl (by decide) rfl ?_
    refine aw_aload_n 1 dX6_isWanted_17 rfl rfl ?_
    refine gf_X6_7 fl_X6_40 (lk120 hG) dX6_isWanted_18 ?_
    refine aw_iconst (v := 1) dX6_isWanted_21 (by decide) ?_
    refine aw_jne 46 dX6_isWanted_22 (by decide) (fun c_8 => ?_) (fun c_8 => ?_)
    · have h := sw_if.f h c_8
      refine aw_aload_n 1 dX6_isWanted_46 rfl rfl ?_
      refine gf_X6_7 fl_X6_40 (lk120 hG) dX6_isWanted_47 ?_
      refine aw_iconst (v := 2) dX6_isWanted_50 (by decide) ?_
      refine aw_jne 84 dX6_isWanted_51 (by decide) (fun c_9 => ?_) (fun c_9 => ?_)
      · have h := sw_if.f h c_9
        refine aw_iconst (v := 0) dX6_isWanted_84 (by decide) ?_
        exact aw_zret rfl rfl dX6_isWanted_85 ⟨rfl, _, rfl, h⟩
      · have h := sw_if.t h c_9
        refine aw_lload_n 0 dX6_isWanted_54 rfl rfl ?_
        refine aw_callS wv_X6_liftOf (M_X6_liftOf trivial  h) ml_X6_114 rfl rfl (Nat.le_of_ble_eq_true rfl) ⟨rfl, rfl⟩ ⟨Nat.le_of_ble_eq_true rfl, Nat.le_of_ble_eq_true rfl⟩ ⟨Nat.le_refl _, Nat.le_refl _⟩ dX6_isWanted_55 (aw_ki fun r_10 I_11 J_12 h => ?_)
        refine aw_aload_n 1 dX6_isWanted_58 rfl rfl ?_
        refine gf_X6_9 fl_X6_46 (lk120 hG) dX6_isWanted_59 ?_
        refine aw_jne 84 dX6_isWanted_62 (by decide) (fun c_13 => ?_) (fun c_13 => ?_)
        · have h := sw_if.f h c_13
          refine aw_iconst (v := 0) dX6_isWanted_84 (by decide) ?_
          exact aw_zret rfl rfl dX6_isWanted_85 ⟨rfl, _, rfl, h⟩
        · have h := sw_if.t h c_13
          refine aw_lload_n 0 dX6_isWanted_65 rfl rfl ?_
          refine aw_aload_n 1 dX6_isWanted_66 rfl rfl ?_
          refine gf_X6_9 fl_X6_46 (lk120 hG) dX6_isWanted_67 ?_
          refine aw_callS wv_X6_onFloor (M_X6_onFloor trivial  h) ml_X6_125 rfl rfl (Nat.le_of_ble_eq_true rfl) ⟨rfl, rfl⟩ ⟨Nat.le_of_ble_eq_true rfl, Nat.le_of_ble_eq_true rfl⟩ ⟨Nat.le_refl _, Nat.le_refl _⟩ dX6_isWanted_70 (aw_ki fun r_14 I_15 J_16 h => ?_)
          refine aw_aload_n 1 dX6_isWanted_73 rfl rfl ?_
          refine gf_X6_8 fl_X6_43 (lk120 hG) dX6_isWanted_74 ?_
          refine aw_jne 84 dX6_isWanted_77 (by decide) (fun c_17 => ?_) (fun c_17 => ?_)
          · have h := sw_if.f h c_17
            refine aw_iconst (v := 0) dX6_isWanted_84 (by decide) ?_
            exact aw_zret rfl rfl dX6_isWanted_85 ⟨rfl, _, rfl, h⟩
          · have h := sw_if.t h c_17
            refine aw_iconst (v := 1) dX6_isWanted_80 (by decide) ?_
            refine aw_goto 85 dX6_isWanted_81 (by decide) ?_
            exact aw_zret rfl rfl dX6_isWanted_85 ⟨rfl, _, rfl, h⟩
    · have h := sw_if.t h c_8
      refine aw_aload_n 1 dX6_isWanted_25 rfl rfl ?_
      refine gf_X6_8 fl_X6_43 (lk120 hG) dX6_isWanted_26 ?_
      refine aw_lload_n 0 dX6_isWanted_29 rfl rfl ?_
      refine aw_iconst (v := (-1)) dX6_isWanted_30 (by decide) ?_
      refine aw_callS wv_X6_onFloor (M_X6_onFloor trivial  h) ml_X6_125 rfl rfl (Nat.le_of_ble_eq_true rfl) ⟨rfl, rfl⟩ ⟨Nat.le_of_ble_eq_true rfl, Nat.le_of_ble_eq_true rfl⟩ ⟨Nat.le_refl _, Nat.le_refl _⟩ dX6_isWanted_31 (aw_ki fun r_18 I_19 J_20 h => ?_)
      refine aw_iconst (v := (-1)) dX6_isWanted_34 (by decide) ?_
      refine aw_ixor dX6_isWanted_35 ?_
      refine aw_iand dX6_isWanted_36 ?_
      refine aw_zne 44 dX6_isWanted_37 (by decide) (fun c_21 => ?_) (fun c_21 => ?_)
      · have h := sw_if.f h c_21
        refine aw_iconst (v := 0) dX6_isWanted_44 (by decide) ?_
        exact aw_zret rfl rfl dX6_isWanted_45 ⟨rfl, _, rfl, h⟩
      · have h := sw_if.t h c_21
        refine aw_iconst (v := 1) dX6_isWanted_40 (by decide) ?_
        refine aw_goto 45 dX6_isWanted_41 (by decide) ?_
        exact aw_zret rfl rfl dX6_isWanted_45 ⟨rfl, _, rfl, h⟩
  · have h := sw_if.t h c_4
    refine aw_iconst (v := 0) dX6_isWanted_8 (by decide) ?_
    exact aw_zret rfl rfl dX6_isWanted_9 ⟨rfl, _, rfl, h⟩
theorem M_X6_isWanted {l : Launch} {D : va_G} {cy : Nat → ClassId} {sz : Nat} {G : sw_G} (hG : sw_lay G)   {Q : Int32 → sw_I → sw_J → Prop} {x1 : Int32} {I : sw_I} {J : sw_J} (h : wp_X6_isWanted x1 I J Q) : Met l yX6_isWanted (Cond.code yX6_isWanted cX6_isWanted 4 (some .boolean) :: sw_T) rm_X6_isWanted (sw_Pc D cy sz [.ref (sz + 120), .int x1] G I J) (sw_Q D cy sz (sw_qi G Q)) 0 0 (fun q => sz ≤ q) :=
  sw_met (by decide) (fun q => by cases q) (Nat.le_of_ble_eq_true rfl) rfl (t_X6_isWanted hG  h)
-- X9_floors
abbrev rm_X9_floors : Room := { frames := 2, cells := 0, slots := 0, locals := 43 }
def wp_X9_floors (x1 : Int32) (I : sw_I) (J : sw_J) (Q : Int32 → sw_I → sw_J → Prop) : Prop :=
  sw_if (x1 < (2 : Int32)) (Q 0 I J) (sw_if ((9 : Int32) < x1) (Q 0 I J) (wp_X1_empty x1 I J (fun I_4 J_5 => wp_X3_clear 13 I_4 J_5 (fun I_7 J_8 => ∀ I_9 : sw_I, I_9 = sw_up I_7 109 4 (0 : Int32) → wp_X9_forgetWhatWas  I_9 J_8 (fun I_12 J_13 => Q 1 I_12 J_13)))))
set_option maxRecDepth 20000 in
theorem t_X9_floors {l : Launch} {D : va_G} {cy : Nat → ClassId} {sz : Nat} {G : sw_G} (hG : sw_lay G)   {Q : Int32 → sw_I → sw_J → Prop} {x1 : Int32} {I : sw_I} {J : sw_J} (h : wp_X9_floors x1 I J Q) : AW l D cy sz RX9 cX9_floors 2 (some .boolean) false rm_X9_floors 0 0 (sw_qi G Q) 0 0 G I J 0 [(0, .ref (sz + 0)), (1, .int x1)] [] := by
  unfold wp_X9_floors at h
  refine aw_iload_n 1 dX9_floors_0 rfl rfl ?_
  refine aw_iconst (v := 2) dX9_floors_1 (by decide) ?_
  refine aw_jlt 11 dX9_floors_2 (by decide) (fun c_1 => ?_) (fun c_1 => ?_)
  · have h := sw_if.t h c_1
    refine aw_iconst (v := 0) dX9_floors_11 (by decide) ?_
    exact aw_zret rfl rfl dX9_floors_12 ⟨rfl, _, rfl, h⟩
  · have h := sw_if.f h c_1
    refine aw_iload_n 1 dX9_floors_5 rfl rfl ?_
    refine aw_bipush (v := 9) dX9_floors_6 (by decide) ?_
    refine aw_jle 13 dX9_floors_8 (by decide) (fun c_2 => ?_) (fun c_2 => ?_)
    · have h := sw_if.f h c_2
      refine aw_aload_n 0 dX9_floors_13 rfl rfl ?_
      refine gf_X9_1 fl_X9_19 (lk0 hG) (lr0_1 hG) dX9_floors_14 ?_
      refine aw_iload_n 1 dX9_floors_17 rfl rfl ?_
      refine aw_callV wv_X1_empty (M_X1_empty hG  h) ml_X9_87 rfl (by decide) (lk3 hG) rfl rfl (Nat.le_of_ble_eq_true rfl) ⟨rfl, rfl⟩ ⟨Nat.le_of_ble_eq_true rfl, Nat.le_of_ble_eq_true rfl⟩ ⟨Nat.le_refl _, Nat.le_refl _⟩ dX9_floors_18 (aw_kv fun I_4 J_5 h => ?_)
      refine aw_aload_n 0 dX9_floors_21 rfl rfl ?_
      refine gf_X9_2 fl_X9_26 (lk0 hG) (lr0_2 hG) dX9_floors_22 ?_
      refine aw_callV wv_X3_clear (M_X3_clear trivial (lm13 hG) h) ml_X9_90 rfl (by decide) (lk13 hG) rfl rfl (Nat.le_of_ble_eq_true rfl) ⟨rfl, rfl⟩ ⟨Nat.le_of_ble_eq_true rfl, Nat.le_of_ble_eq_true rfl⟩ ⟨Nat.le_refl _, Nat.le_refl _⟩ dX9_floors_25 (aw_kv fun I_7 J_8 h => ?_)
      refine aw_aload_n 0 dX9_floors_28 rfl rfl ?_
      refine gf_X9_7 fl_X9_51 (lk0 hG) (lr0_7 hG) dX9_floors_29 ?_
      refine aw_iconst (v := 0) dX9_floors_32 (by decide) ?_
      refine pf_X7_4 fl_X9_93 (lk109 hG) dX9_floors_33 (aw_nameI fun I_9 e_10 => ?_)
      have h := h I_9 e_10
      refine aw_aload_n 0 dX9_floors_36 rfl rfl ?_
      refine aw_callV wv_X9_forgetWhatWas (M_X9_forgetWhatWas hG  h) ml_X9_94 rfl (by decide) (lk0 hG) rfl rfl (Nat.le_of_ble_eq_true rfl) ⟨rfl, rfl⟩ ⟨Nat.le_of_ble_eq_true rfl, Nat.le_of_ble_eq_true rfl⟩ ⟨Nat.le_refl _, Nat.le_refl _⟩ dX9_floors_37 (aw_kv fun I_12 J_13 h => ?_)
      refine aw_iconst (v := 1) dX9_floors_40 (by decide) ?_
      exact aw_zret rfl rfl dX9_floors_41 ⟨rfl, _, rfl, h⟩
    · have h := sw_if.t h c_2
      refine aw_iconst (v := 0) dX9_floors_11 (by decide) ?_
      exact aw_zret rfl rfl dX9_floors_12 ⟨rfl, _, rfl, h⟩
theorem M_X9_floors {l : Launch} {D : va_G} {cy : Nat → ClassId} {sz : Nat} {G : sw_G} (hG : sw_lay G)   {Q : Int32 → sw_I → sw_J → Prop} {x1 : Int32} {I : sw_I} {J : sw_J} (h : wp_X9_floors x1 I J Q) : Met l yX9_floors (Cond.code yX9_floors cX9_floors 2 (some .boolean) :: sw_T) rm_X9_floors (sw_Pc D cy sz [.ref (sz + 0), .int x1] G I J) (sw_Q D cy sz (sw_qi G Q)) 0 0 (fun q => sz ≤ q) :=
  sw_met (by decide) (fun q => by cases q) (Nat.le_of_ble_eq_true rfl) rfl (t_X9_floors hG  h)
-- X9_law
abbrev rm_X9_law : Room := { frames := 4, cells := 0, slots := 0, locals := 85 }
def wB_X9_law_33   (Q : Int32 → sw_I → sw_J → Prop) (x1 : Int32) (I : sw_I) (J : sw_J) : Prop :=
  ∀ I_1 : sw_I, I_1 = sw_up I 1 1 (0 : Int32) → sw_if (x1 < 0) (Q (0 : Int32) I_1 J) (Q ((-1 : Int32) - x1) I_1 J)
def wp_X9_law  (I : sw_I) (J : sw_J) (Q : Int32 → sw_I → sw_J → Prop) : Prop :=
  wp_X2_flawOf  I J (fun r_1 I_2 J_3 => sw_if (r_1 < 0) (wp_X2_take  I_2 J_3 (fun I_6 J_7 => wB_X9_law_33   Q r_1 I_6 J_7)) (wB_X9_law_33   Q r_1 I_2 J_3))
set_option maxRecDepth 20000 in
theorem t_X9_law_33 {l : Launch} {D : va_G} {cy : Nat → ClassId} {sz : Nat} {G : sw_G} (hG : sw_lay G)   {Q : Int32 → sw_I → sw_J → Prop} {x1 : Int32} {I : sw_I} {J : sw_J} (h : wB_X9_law_33   Q x1 I J) : AW l D cy sz RX9 cX9_law 2 (some .int) false rm_X9_law 0 0 (sw_qi G Q) 0 0 G I J 33 [(0, .ref (sz + 0)), (1, .int x1)] [] := by
  unfold wB_X9_law_33 at h
  refine aw_aload_n 0 dX9_law_33 rfl rfl ?_
  refine gf_X9_0 fl_X9_12 (lk0 hG) (lr0_0 hG) dX9_law_34 ?_
  refine aw_iconst (v := 0) dX9_law_37 (by decide) ?_
  refine pf_X8_1 fl_X9_80 (lk1 hG) dX9_law_38 (aw_nameI fun I_1 e_2 => ?_)
  have h := h I_1 e_2
  refine aw_iload_n 1 dX9_law_41 rfl rfl ?_
  refine aw_zge 49 dX9_law_42 (by decide) (fun c_3 => ?_) (fun c_3 => ?_)
  · have h := sw_if.f h c_3
    refine aw_iconst (v := (-1)) dX9_law_49 (by decide) ?_
    refine aw_iload_n 1 dX9_law_50 rfl rfl ?_
    refine aw_isub dX9_law_51 ?_
    exact aw_iret rfl dX9_law_52 ⟨rfl, _, rfl, h⟩
  · have h := sw_if.t h c_3
    refine aw_iconst (v := 0) dX9_law_45 (by decide) ?_
    refine aw_goto 52 dX9_law_46 (by decide) ?_
    exact aw_iret rfl dX9_law_52 ⟨rfl, _, rfl, h⟩
set_option maxRecDepth 20000 in
theorem t_X9_law {l : Launch} {D : va_G} {cy : Nat → ClassId} {sz : Nat} {G : sw_G} (hG : sw_lay G)   {Q : Int32 → sw_I → sw_J → Prop}  {I : sw_I} {J : sw_J} (h : wp_X9_law  I J Q) : AW l D cy sz RX9 cX9_law 2 (some .int) false rm_X9_law 0 0 (sw_qi G Q) 0 0 G I J 0 [(0, .ref (sz + 0))] [] := by
  unfold wp_X9_law at h
  refine aw_aload_n 0 dX9_law_0 rfl rfl ?_
  refine gf_X9_1 fl_X9_19 (lk0 hG) (lr0_1 hG) dX9_law_1 ?_
  refine gf_X1_5 fl_X9_108 (lk3 hG) (lr3_5 hG) dX9_law_4 ?_
  refine aw_aload_n 0 dX9_law_7 rfl rfl ?_
  refine gf_X9_0 fl_X9_12 (lk0 hG) (lr0_0 hG) dX9_law_8 ?_
  refine aw_callV wv_X2_flawOf (M_X2_flawOf hG  h) ml_X9_112 rfl (by decide) (lk6 hG) rfl rfl (Nat.le_of_ble_eq_true rfl) ⟨rfl, rfl⟩ ⟨Nat.le_of_ble_eq_true rfl, Nat.le_of_ble_eq_true rfl⟩ ⟨Nat.le_refl _, Nat.le_refl _⟩ dX9_law_11 (aw_ki fun r_1 I_2 J_3 h => ?_)
  refine aw_istore_n (lv' := [(1, .int r_1), (0, .ref (sz + 0))]) dX9_law_14 rfl (by decide) rfl ?_
  refine aw_iload_n 0 dX9_law_15 rfl rfl ?_
  refine aw_zge 33 dX9_law_16 (by decide) (fun c_4 => ?_) (fun c_4 => ?_)
  · have h := sw_if.f h c_4
    refine aw_sub [1, 0] rfl ?_
    exact t_X9_law_33 hG   h
  · have h := sw_if.t h c_4
    refine aw_aload_n 1 dX9_law_19 rfl rfl ?_
    refine gf_X9_1 fl_X9_19 (lk0 hG) (lr0_1 hG) dX9_law_20 ?_
    refine gf_X1_5 fl_X9_108 (lk3 hG) (lr3_5 hG) dX9_law_23 ?_
    refine aw_aload_n 1 dX9_law_26 rfl rfl ?_
    refine gf_X9_0 fl_X9_12 (lk0 hG) (lr0_0 hG) dX9_law_27 ?_
    refine aw_callV wv_X2_take (M_X2_take hG  h) ml_X9_118 rfl (by decide) (lk6 hG) rfl rfl (Nat.le_of_ble_eq_true rfl) ⟨rfl, rfl⟩ ⟨Nat.le_of_ble_eq_true rfl, Nat.le_of_ble_eq_true rfl⟩ ⟨Nat.le_refl _, Nat.le_refl _⟩ dX9_law_30 (aw_kv fun I_6 J_7 h => ?_)
    refine aw_sub [1, 0] rfl ?_
    exact t_X9_law_33 hG   h
theorem M_X9_law {l : Launch} {D : va_G} {cy : Nat → ClassId} {sz : Nat} {G : sw_G} (hG : sw_lay G)   {Q : Int32 → sw_I → sw_J → Prop}  {I : sw_I} {J : sw_J} (h : wp_X9_law  I J Q) : Met l yX9_law (Cond.code yX9_law cX9_law 2 (some .int) :: sw_T) rm_X9_law (sw_Pc D cy sz [.ref (sz + 0)] G I J) (sw_Q D cy sz (sw_qi G Q)) 0 0 (fun q => sz ≤ q) :=
  sw_met (by decide) (fun q => by cases q) (Nat.le_of_ble_eq_true rfl) rfl (t_X9_law hG  h)
-- X9_sheet
abbrev rm_X9_sheet : Room := { frames := 1, cells := 0, slots := 0, locals := 21 }
def wB_X9_sheet_130  (K50 : Int32 → Int32 → Int32 → Int32 → Int32 → Int32 → sw_I → sw_J → Prop) (Q : Int32 → sw_I → sw_J → Prop) (x1 : Int32) (x4 : Int32) (x5 : Int32) (x6 : Int32) (x8 : Int32) (s0 : Int32) (s1 : Int32) (I : sw_I) (J : sw_J) : Prop :=
  ∀ y_1 : Int32, y_1 = s0 + s1 → ∀ y_3 : Int32, y_3 = x6 + x4 → ∀ y_5 : Int32, y_5 = x8 + 1 → K50 x1 x4 x5 y_3 y_1 y_5 I J
def wB_X9_sheet_108  (K50 : Int32 → Int32 → Int32 → Int32 → Int32 → Int32 → sw_I → sw_J → Prop) (Q : Int32 → sw_I → sw_J → Prop) (x1 : Int32) (x4 : Int32) (x5 : Int32) (x6 : Int32) (x7 : Int32) (x8 : Int32) (s1 : Int32) (s2 : Int32) (I : sw_I) (J : sw_J) : Prop :=
  vp_in s1 10 ∧ ∀ I_2 : sw_I, I_2 = sw_up I 15 s1.toNatClampNeg s2 → vp_in x8 10 ∧ sw_if ((I_2 15 x8.toNatClampNeg) = (-1 : Int32)) (wB_X9_sheet_130  K50 Q x1 x4 x5 x6 x8 x7 0 I_2 J) (wB_X9_sheet_130  K50 Q x1 x4 x5 x6 x8 x7 1 I_2 J)
def wB_X9_sheet_79  (K50 : Int32 → Int32 → Int32 → Int32 → Int32 → Int32 → sw_I → sw_J → Prop) (Q : Int32 → sw_I → sw_J → Prop) (x1 : Int32) (x4 : Int32) (x5 : Int32) (x6 : Int32) (x7 : Int32) (x8 : Int32) (s0 : Int32) (I : sw_I) (J : sw_J) : Prop :=
  wp_X1_hasFloor s0 I J (fun r_1 I_2 J_3 => sw_if (r_1 = 0) (wB_X9_sheet_108  K50 Q x1 x4 x5 x6 x7 x8 x8 (-1) I_2 J_3) (wB_X9_sheet_108  K50 Q x1 x4 x5 x6 x7 x8 x8 s0 I_2 J_3))
def wb_X9_sheet_50  (K50 : Int32 → Int32 → Int32 → Int32 → Int32 → Int32 → sw_I → sw_J → Prop) (Q : Int32 → sw_I → sw_J → Prop) (x1 : Int32) (x4 : Int32) (x5 : Int32) (x6 : Int32) (x7 : Int32) (x8 : Int32) (I : sw_I) (J : sw_J) : Prop :=
  sw_if (x8 < (I 3 2)) (sw_if (x8 < x5) (wp_X9_asKind x1 x6 I J (fun r_4 I_5 J_6 => wB_X9_sheet_79  K50 Q x1 x4 x5 x6 x7 x8 r_4 I_5 J_6)) (wB_X9_sheet_79  K50 Q x1 x4 x5 x6 x7 x8 (-1) I J)) (sw_if (x1 = (3 : Int32)) (Q (-3 : Int32) I J) (Q x7 I J))
def wl_X9_sheet_50   (Q : Int32 → sw_I → sw_J → Prop) : Nat → Int32 → Int32 → Int32 → Int32 → Int32 → Int32 → sw_I → sw_J → Prop
  | 0 => fun _ _ _ _ _ _ _ _ => False
  | n + 1 => fun x1 x4 x5 x6 x7 x8 I J => wb_X9_sheet_50  (wl_X9_sheet_50   Q n) Q x1 x4 x5 x6 x7 x8 I J
def wB_X9_sheet_39   (Q : Int32 → sw_I → sw_J → Prop) (x1 : Int32) (x3 : Int32) (x4 : Int32) (s0 : Int32) (I : sw_I) (J : sw_J) : Prop :=
  ∃ n_1 : Nat, wl_X9_sheet_50   Q n_1 x1 x4 s0 x3 0 0 I J
def wB_X9_sheet_29   (Q : Int32 → sw_I → sw_J → Prop) (x1 : Int32) (x2 : Int32) (x3 : Int32) (x4 : Int32) (I : sw_I) (J : sw_J) : Prop :=
  sw_if (x1 = (3 : Int32)) (wB_X9_sheet_39   Q x1 x3 x4 0 I J) (wB_X9_sheet_39   Q x1 x3 x4 x2 I J)
def wp_X9_sheet (x1 : Int32) (x2 : Int32) (x3 : Int32) (x4 : Int32) (I : sw_I) (J : sw_J) (Q : Int32 → sw_I → sw_J → Prop) : Prop :=
  sw_if (x1 < 0) (Q (-1 : Int32) I J) (sw_if ((3 : Int32) < x1) (Q (-1 : Int32) I J) (sw_if ((10 : Int32) < x2) (Q (-1 : Int32) I J) (sw_if (x1 = (3 : Int32)) (wB_X9_sheet_29   Q x1 x2 x3 x4 I J) (sw_if (x2 < 0) (Q (-2 : Int32) I J) (wB_X9_sheet_29   Q x1 x2 x3 x4 I J)))))
set_option maxRecDepth 20000 in
theorem t_X9_sheet_130 {l : Launch} {D : va_G} {cy : Nat → ClassId} {sz : Nat} {G : sw_G} (hG : sw_lay G)   {Q : Int32 → sw_I → sw_J → Prop} {K50 : Int32 → Int32 → Int32 → Int32 → Int32 → Int32 → sw_I → sw_J → Prop} (hK50 : ∀ (x1 : Int32) (x4 : Int32) (x5 : Int32) (x6 : Int32) (x7 : Int32) (x8 : Int32) (I : sw_I) (J : sw_J), K50 x1 x4 x5 x6 x7 x8 I J → AW l D cy sz RX9 cX9_sheet 10 (some .int) false rm_X9_sheet 0 0 (sw_qi G Q) 0 0 G I J 50 [(0, .ref (sz + 0)), (1, .int x1), (4, .int x4), (5, .int x5), (6, .int x6), (7, .int x7), (8, .int x8)] []) {x1 : Int32} {x4 : Int32} {x5 : Int32} {x6 : Int32} {x8 : Int32} {s0 : Int32} {s1 : Int32} {I : sw_I} {J : sw_J} (h : wB_X9_sheet_130  K50 Q x1 x4 x5 x6 x8 s0 s1 I J) : AW l D cy sz RX9 cX9_sheet 10 (some .int) false rm_X9_sheet 0 0 (sw_qi G Q) 0 0 G I J 130 [(0, .ref (sz + 0)), (1, .int x1), (4, .int x4), (5, .int x5), (6, .int x6), (8, .int x8)] [.int s1, .int s0] := by
  unfold wB_X9_sheet_130 at h
  refine aw_iadd dX9_sheet_130 ?_
  refine aw_topi (fun y_1 e_2 => ?_)
  have h := h y_1 e_2
  refine aw_istore (lv' := [(7, .int y_1), (0, .ref (sz + 0)), (1, .int x1), (4, .int x4), (5, .int x5), (6, .int x6), (8, .int x8)]) dX9_sheet_131 (by decide) rfl ?_
  refine aw_iload 5 dX9_sheet_133 rfl ?_
  refine aw_iload 3 dX9_sheet_135 rfl ?_
  refine aw_iadd dX9_sheet_137 ?_
  refine aw_topi (fun y_3 e_4 => ?_)
  have h := h y_3 e_4
  refine aw_istore (lv' := [(6, .int y_3), (7, .int y_1), (0, .ref (sz + 0)), (1, .int x1), (4, .int x4), (5, .int x5), (8, .int x8)]) dX9_sheet_138 (by decide) rfl ?_
  obtain ⟨y_5, e_6⟩ : ∃ q : Int32, q = x8 + 1 := ⟨_, rfl⟩
  have h := h y_5 e_6
  refine aw_iinc (lv' := [(8, .int y_5), (6, .int y_3), (7, .int y_1), (0, .ref (sz + 0)), (1, .int x1), (4, .int x4), (5, .int x5)]) 6 dX9_sheet_140 rfl (by rw [e_6]; rfl) (by decide) rfl ?_
  refine aw_goto 50 dX9_sheet_143 (by decide) ?_
  refine aw_sub [3, 4, 5, 6, 1, 2, 0] rfl ?_
  exact hK50 x1 x4 x5 y_3 y_1 y_5 I J h
set_option maxRecDepth 20000 in
theorem t_X9_sheet_108 {l : Launch} {D : va_G} {cy : Nat → ClassId} {sz : Nat} {G : sw_G} (hG : sw_lay G)   {Q : Int32 → sw_I → sw_J → Prop} {K50 : Int32 → Int32 → Int32 → Int32 → Int32 → Int32 → sw_I → sw_J → Prop} (hK50 : ∀ (x1 : Int32) (x4 : Int32) (x5 : Int32) (x6 : Int32) (x7 : Int32) (x8 : Int32) (I : sw_I) (J : sw_J), K50 x1 x4 x5 x6 x7 x8 I J → AW l D cy sz RX9 cX9_sheet 10 (some .int) false rm_X9_sheet 0 0 (sw_qi G Q) 0 0 G I J 50 [(0, .ref (sz + 0)), (1, .int x1), (4, .int x4), (5, .int x5), (6, .int x6), (7, .int x7), (8, .int x8)] []) {x1 : Int32} {x4 : Int32} {x5 : Int32} {x6 : Int32} {x7 : Int32} {x8 : Int32} {s1 : Int32} {s2 : Int32} {I : sw_I} {J : sw_J} (h : wB_X9_sheet_108  K50 Q x1 x4 x5 x6 x7 x8 s1 s2 I J) : AW l D cy sz RX9 cX9_sheet 10 (some .int) false rm_X9_sheet 0 0 (sw_qi G Q) 0 0 G I J 108 [(0, .ref (sz + 0)), (1, .int x1), (4, .int x4), (5, .int x5), (6, .int x6), (7, .int x7), (8, .int x8)] [.int s2, .int s1, .ref (sz + 15)] := by
  unfold wB_X9_sheet_108 at h
  obtain ⟨hi_1, h⟩ := h
  refine aw_ist dX9_sheet_108 (lk15 hG) (ln15 hG) hi_1 (aw_nameI fun I_2 e_3 => ?_)
  have h := h I_2 e_3
  refine aw_iload 5 dX9_sheet_109 rfl ?_
  refine aw_aload_n 0 dX9_sheet_111 rfl rfl ?_
  refine gf_X9_2 fl_X9_26 (lk0 hG) (lr0_2 hG) dX9_sheet_112 ?_
  refine gf_X3_1 fl_X9_133 (lk13 hG) (lr13_1 hG) dX9_sheet_115 ?_
  refine aw_iload 6 dX9_sheet_118 rfl ?_
  obtain ⟨hi_4, h⟩ := h
  refine aw_ild dX9_sheet_120 (lk15 hG) (ln15 hG) hi_4 ?_
  refine aw_iconst (v := (-1)) dX9_sheet_121 (by decide) ?_
  refine aw_jne 129 dX9_sheet_122 (by decide) (fun c_5 => ?_) (fun c_5 => ?_)
  · have h := sw_if.f h c_5
    refine aw_iconst (v := 1) dX9_sheet_129 (by decide) ?_
    refine aw_sub [0, 1, 2, 3, 4, 6] rfl ?_
    exact t_X9_sheet_130 hG  hK50 h
  · have h := sw_if.t h c_5
    refine aw_iconst (v := 0) dX9_sheet_125 (by decide) ?_
    refine aw_goto 130 dX9_sheet_126 (by decide) ?_
    refine aw_sub [0, 1, 2, 3, 4, 6] rfl ?_
    exact t_X9_sheet_130 hG  hK50 h
set_option maxRecDepth 20000 in
theorem t_X9_sheet_79 {l : Launch} {D : va_G} {cy : Nat → ClassId} {sz : Nat} {G : sw_G} (hG : sw_lay G)   {Q : Int32 → sw_I → sw_J → Prop} {K50 : Int32 → Int32 → Int32 → Int32 → Int32 → Int32 → sw_I → sw_J → Prop} (hK50 : ∀ (x1 : Int32) (x4 : Int32) (x5 : Int32) (x6 : Int32) (x7 : Int32) (x8 : Int32) (I : sw_I) (J : sw_J), K50 x1 x4 x5 x6 x7 x8 I J → AW l D cy sz RX9 cX9_sheet 10 (some .int) false rm_X9_sheet 0 0 (sw_qi G Q) 0 0 G I J 50 [(0, .ref (sz + 0)), (1, .int x1), (4, .int x4), (5, .int x5), (6, .int x6), (7, .int x7), (8, .int x8)] []) {x1 : Int32} {x4 : Int32} {x5 : Int32} {x6 : Int32} {x7 : Int32} {x8 : Int32} {s0 : Int32} {I : sw_I} {J : sw_J} (h : wB_X9_sheet_79  K50 Q x1 x4 x5 x6 x7 x8 s0 I J) : AW l D cy sz RX9 cX9_sheet 10 (some .int) false rm_X9_sheet 0 0 (sw_qi G Q) 0 0 G I J 79 [(0, .ref (sz + 0)), (1, .int x1), (4, .int x4), (5, .int x5), (6, .int x6), (7, .int x7), (8, .int x8)] [.int s0] := by
  unfold wB_X9_sheet_79 at h
  refine aw_istore (lv' := [(9, .int s0), (0, .ref (sz + 0)), (1, .int x1), (4, .int x4), (5, .int x5), (6, .int x6), (7, .int x7), (8, .int x8)]) dX9_sheet_79 (by decide) rfl ?_
  refine aw_aload_n 1 dX9_sheet_81 rfl rfl ?_
  refine gf_X9_2 fl_X9_26 (lk0 hG) (lr0_2 hG) dX9_sheet_82 ?_
  refine gf_X3_1 fl_X9_133 (lk13 hG) (lr13_1 hG) dX9_sheet_85 ?_
  refine aw_iload 7 dX9_sheet_88 rfl ?_
  refine aw_aload_n 1 dX9_sheet_90 rfl rfl ?_
  refine gf_X9_1 fl_X9_19 (lk0 hG) (lr0_1 hG) dX9_sheet_91 ?_
  refine aw_iload 0 dX9_sheet_94 rfl ?_
  refine aw_callV wv_X1_hasFloor (M_X1_hasFloor hG  h) ml_X9_148 rfl (by decide) (lk3 hG) rfl rfl (Nat.le_of_ble_eq_true rfl) ⟨rfl, rfl⟩ ⟨Nat.le_of_ble_eq_true rfl, Nat.le_of_ble_eq_true rfl⟩ ⟨Nat.le_refl _, Nat.le_refl _⟩ dX9_sheet_96 (aw_ki fun r_1 I_2 J_3 h => ?_)
  refine aw_zeq 107 dX9_sheet_99 (by decide) (fun c_4 => ?_) (fun c_4 => ?_)
  · have h := sw_if.t h c_4
    refine aw_iconst (v := (-1)) dX9_sheet_107 (by decide) ?_
    refine aw_sub [1, 2, 3, 4, 5, 6, 7] rfl ?_
    exact t_X9_sheet_108 hG  hK50 h
  · have h := sw_if.f h c_4
    refine aw_iload 0 dX9_sheet_102 rfl ?_
    refine aw_goto 108 dX9_sheet_104 (by decide) ?_
    refine aw_sub [1, 2, 3, 4, 5, 6, 7] rfl ?_
    exact t_X9_sheet_108 hG  hK50 h
set_option maxRecDepth 20000 in
theorem tb_X9_sheet_50 {l : Launch} {D : va_G} {cy : Nat → ClassId} {sz : Nat} {G : sw_G} (hG : sw_lay G)   {Q : Int32 → sw_I → sw_J → Prop} {K50 : Int32 → Int32 → Int32 → Int32 → Int32 → Int32 → sw_I → sw_J → Prop} (hK50 : ∀ (x1 : Int32) (x4 : Int32) (x5 : Int32) (x6 : Int32) (x7 : Int32) (x8 : Int32) (I : sw_I) (J : sw_J), K50 x1 x4 x5 x6 x7 x8 I J → AW l D cy sz RX9 cX9_sheet 10 (some .int) false rm_X9_sheet 0 0 (sw_qi G Q) 0 0 G I J 50 [(0, .ref (sz + 0)), (1, .int x1), (4, .int x4), (5, .int x5), (6, .int x6), (7, .int x7), (8, .int x8)] []) {x1 : Int32} {x4 : Int32} {x5 : Int32} {x6 : Int32} {x7 : Int32} {x8 : Int32} {I : sw_I} {J : sw_J} (h : wb_X9_sheet_50  K50 Q x1 x4 x5 x6 x7 x8 I J) : AW l D cy sz RX9 cX9_sheet 10 (some .int) false rm_X9_sheet 0 0 (sw_qi G Q) 0 0 G I J 50 [(0, .ref (sz + 0)), (1, .int x1), (4, .int x4), (5, .int x5), (6, .int x6), (7, .int x7), (8, .int x8)] [] := by
  unfold wb_X9_sheet_50 at h
  refine aw_iload 6 dX9_sheet_50 rfl ?_
  refine aw_aload_n 0 dX9_sheet_52 rfl rfl ?_
  refine gf_X9_1 fl_X9_19 (lk0 hG) (lr0_1 hG) dX9_sheet_53 ?_
  refine gf_X1_2 fl_X9_154 (lk3 hG) dX9_sheet_56 ?_
  refine aw_jge 146 dX9_sheet_59 (by decide) (fun c_1 => ?_) (fun c_1 => ?_)
  · have h := sw_if.f h c_1
    refine aw_iload_n 1 dX9_sheet_146 rfl rfl ?_
    refine aw_iconst (v := 3) dX9_sheet_147 (by decide) ?_
    refine aw_jne 156 dX9_sheet_148 (by decide) (fun c_2 => ?_) (fun c_2 => ?_)
    · have h := sw_if.f h c_2
      refine aw_iload 5 dX9_sheet_156 rfl ?_
      exact aw_iret rfl dX9_sheet_158 ⟨rfl, _, rfl, h⟩
    · have h := sw_if.t h c_2
      refine aw_bipush (v := (-3)) dX9_sheet_151 (by decide) ?_
      refine aw_goto 158 dX9_sheet_153 (by decide) ?_
      exact aw_iret rfl dX9_sheet_158 ⟨rfl, _, rfl, h⟩
  · have h := sw_if.t h c_1
    refine aw_iload 6 dX9_sheet_62 rfl ?_
    refine aw_iload 3 dX9_sheet_64 rfl ?_
    refine aw_jge 78 dX9_sheet_66 (by decide) (fun c_3 => ?_) (fun c_3 => ?_)
    · have h := sw_if.f h c_3
      refine aw_iconst (v := (-1)) dX9_sheet_78 (by decide) ?_
      refine aw_sub [0, 1, 2, 3, 4, 5, 6] rfl ?_
      exact t_X9_sheet_79 hG  hK50 h
    · have h := sw_if.t h c_3
      refine aw_iload_n 1 dX9_sheet_69 rfl rfl ?_
      refine aw_iload 4 dX9_sheet_70 rfl ?_
      refine aw_callS wv_X9_asKind (M_X9_asKind trivial  h) ml_X9_157 rfl rfl (Nat.le_of_ble_eq_true rfl) ⟨rfl, rfl⟩ ⟨Nat.le_of_ble_eq_true rfl, Nat.le_of_ble_eq_true rfl⟩ ⟨Nat.le_refl _, Nat.le_refl _⟩ dX9_sheet_72 (aw_ki fun r_4 I_5 J_6 h => ?_)
      refine aw_goto 79 dX9_sheet_75 (by decide) ?_
      refine aw_sub [0, 1, 2, 3, 4, 5, 6] rfl ?_
      exact t_X9_sheet_79 hG  hK50 h
set_option maxRecDepth 20000 in
theorem tl_X9_sheet_50 {l : Launch} {D : va_G} {cy : Nat → ClassId} {sz : Nat} {G : sw_G} (hG : sw_lay G)   {Q : Int32 → sw_I → sw_J → Prop} : ∀ (n : Nat) (x1 : Int32) (x4 : Int32) (x5 : Int32) (x6 : Int32) (x7 : Int32) (x8 : Int32) (I : sw_I) (J : sw_J), wl_X9_sheet_50   Q n x1 x4 x5 x6 x7 x8 I J → AW l D cy sz RX9 cX9_sheet 10 (some .int) false rm_X9_sheet 0 0 (sw_qi G Q) 0 0 G I J 50 [(0, .ref (sz + 0)), (1, .int x1), (4, .int x4), (5, .int x5), (6, .int x6), (7, .int x7), (8, .int x8)] [] := by
  intro n
  induction n with
  | zero => intro x1 x4 x5 x6 x7 x8 I J h; exact False.elim h
  | succ n ih => intro x1 x4 x5 x6 x7 x8 I J h; exact tb_X9_sheet_50 hG  ih h
set_option maxRecDepth 20000 in
theorem t_X9_sheet_39 {l : Launch} {D : va_G} {cy : Nat → ClassId} {sz : Nat} {G : sw_G} (hG : sw_lay G)   {Q : Int32 → sw_I → sw_J → Prop} {x1 : Int32} {x3 : Int32} {x4 : Int32} {s0 : Int32} {I : sw_I} {J : sw_J} (h : wB_X9_sheet_39   Q x1 x3 x4 s0 I J) : AW l D cy sz RX9 cX9_sheet 10 (some .int) false rm_X9_sheet 0 0 (sw_qi G Q) 0 0 G I J 39 [(0, .ref (sz + 0)), (1, .int x1), (3, .int x3), (4, .int x4)] [.int s0] := by
  unfold wB_X9_sheet_39 at h
  refine aw_istore (lv' := [(5, .int s0), (0, .ref (sz + 0)), (1, .int x1), (3, .int x3), (4, .int x4)]) dX9_sheet_39 (by decide) rfl ?_
  refine aw_iload_n 3 dX9_sheet_41 rfl rfl ?_
  refine aw_istore (lv' := [(6, .int x3), (5, .int s0), (0, .ref (sz + 0)), (1, .int x1), (3, .int x3), (4, .int x4)]) dX9_sheet_42 (by decide) rfl ?_
  refine aw_iconst (v := 0) dX9_sheet_44 (by decide) ?_
  refine aw_istore (lv' := [(7, .int 0), (6, .int x3), (5, .int s0), (0, .ref (sz + 0)), (1, .int x1), (3, .int x3), (4, .int x4)]) dX9_sheet_45 (by decide) rfl ?_
  refine aw_iconst (v := 0) dX9_sheet_47 (by decide) ?_
  refine aw_istore (lv' := [(8, .int 0), (7, .int 0), (6, .int x3), (5, .int s0), (0, .ref (sz + 0)), (1, .int x1), (3, .int x3), (4, .int x4)]) dX9_sheet_48 (by decide) rfl ?_
  refine aw_sub [4, 5, 7, 3, 2, 1, 0] rfl ?_
  obtain ⟨n_1, h⟩ := h
  exact tl_X9_sheet_50 hG   n_1 x1 x4 s0 x3 0 0 I J h
set_option maxRecDepth 20000 in
theorem t_X9_sheet_29 {l : Launch} {D : va_G} {cy : Nat → ClassId} {sz : Nat} {G : sw_G} (hG : sw_lay G)   {Q : Int32 → sw_I → sw_J → Prop} {x1 : Int32} {x2 : Int32} {x3 : Int32} {x4 : Int32} {I : sw_I} {J : sw_J} (h : wB_X9_sheet_29   Q x1 x2 x3 x4 I J) : AW l D cy sz RX9 cX9_sheet 10 (some .int) false rm_X9_sheet 0 0 (sw_qi G Q) 0 0 G I J 29 [(0, .ref (sz + 0)), (1, .int x1), (2, .int x2), (3, .int x3), (4, .int x4)] [] := by
  unfold wB_X9_sheet_29 at h
  refine aw_iload_n 1 dX9_sheet_29 rfl rfl ?_
  refine aw_iconst (v := 3) dX9_sheet_30 (by decide) ?_
  refine aw_jne 38 dX9_sheet_31 (by decide) (fun c_1 => ?_) (fun c_1 => ?_)
  · have h := sw_if.f h c_1
    refine aw_iload_n 2 dX9_sheet_38 rfl rfl ?_
    refine aw_sub [0, 1, 3, 4] rfl ?_
    exact t_X9_sheet_39 hG   h
  · have h := sw_if.t h c_1
    refine aw_iconst (v := 0) dX9_sheet_34 (by decide) ?_
    refine aw_goto 39 dX9_sheet_35 (by decide) ?_
    refine aw_sub [0, 1, 3, 4] rfl ?_
    exact t_X9_sheet_39 hG   h
set_option maxRecDepth 20000 in
theorem t_X9_sheet {l : Launch} {D : va_G} {cy : Nat → ClassId} {sz : Nat} {G : sw_G} (hG : sw_lay G)   {Q : Int32 → sw_I → sw_J → Prop} {x1 : Int32} {x2 : Int32} {x3 : Int32} {x4 : Int32} {I : sw_I} {J : sw_J} (h : wp_X9_sheet x1 x2 x3 x4 I J Q) : AW l D cy sz RX9 cX9_sheet 10 (some .int) false rm_X9_sheet 0 0 (sw_qi G Q) 0 0 G I J 0 [(0, .ref (sz + 0)), (1, .int x1), (2, .int x2), (3, .int x3), (4, .int x4)] [] := by
  unfold wp_X9_sheet at h
  refine aw_iload_n 1 dX9_sheet_0 rfl rfl ?_
  refine aw_zlt 15 dX9_sheet_1 (by decide) (fun c_1 => ?_) (fun c_1 => ?_)
  · have h := sw_if.t h c_1
    refine aw_iconst (v := (-1)) dX9_sheet_15 (by decide) ?_
    exact aw_iret rfl dX9_sheet_16 ⟨rfl, _, rfl, h⟩
  · have h := sw_if.f h c_1
    refine aw_iload_n 1 dX9_sheet_4 rfl rfl ?_
    refine aw_iconst (v := 3) dX9_sheet_5 (by decide) ?_
    refine aw_jgt 15 dX9_sheet_6 (by decide) (fun c_2 => ?_) (fun c_2 => ?_)
    · have h := sw_if.t h c_2
      refine aw_iconst (v := (-1)) dX9_sheet_15 (by decide) ?_
      exact aw_iret rfl dX9_sheet_16 ⟨rfl, _, rfl, h⟩
    · have h := sw_if.f h c_2
      refine aw_iload_n 2 dX9_sheet_9 rfl rfl ?_
      refine aw_bipush (v := 10) dX9_sheet_10 (by decide) ?_
      refine aw_jle 17 dX9_sheet_12 (by decide) (fun c_3 => ?_) (fun c_3 => ?_)
      · have h := sw_if.f h c_3
        refine aw_iload_n 1 dX9_sheet_17 rfl rfl ?_
        refine aw_iconst (v := 3) dX9_sheet_18 (by decide) ?_
        refine aw_jeq 29 dX9_sheet_19 (by decide) (fun c_4 => ?_) (fun c_4 => ?_)
        · have h := sw_if.t h c_4
          refine aw_sub [0, 1, 2, 3, 4] rfl ?_
          exact t_X9_sheet_29 hG   h
        · have h := sw_if.f h c_4
          refine aw_iload_n 2 dX9_sheet_22 rfl rfl ?_
          refine aw_zge 29 dX9_sheet_23 (by decide) (fun c_5 => ?_) (fun c_5 => ?_)
          · have h := sw_if.f h c_5
            refine aw_sub [0, 1, 2, 3, 4] rfl ?_
            exact t_X9_sheet_29 hG   h
          · have h := sw_if.t h c_5
            refine aw_bipush (v := (-2)) dX9_sheet_26 (by decide) ?_
            exact aw_iret rfl dX9_sheet_28 ⟨rfl, _, rfl, h⟩
      · have h := sw_if.t h c_3
        refine aw_iconst (v := (-1)) dX9_sheet_15 (by decide) ?_
        exact aw_iret rfl dX9_sheet_16 ⟨rfl, _, rfl, h⟩
theorem M_X9_sheet {l : Launch} {D : va_G} {cy : Nat → ClassId} {sz : Nat} {G : sw_G} (hG : sw_lay G)   {Q : Int32 → sw_I → sw_J → Prop} {x1 : Int32} {x2 : Int32} {x3 : Int32} {x4 : Int32} {I : sw_I} {J : sw_J} (h : wp_X9_sheet x1 x2 x3 x4 I J Q) : Met l yX9_sheet (Cond.code yX9_sheet cX9_sheet 10 (some .int) :: sw_T) rm_X9_sheet (sw_Pc D cy sz [.ref (sz + 0), .int x1, .int x2, .int x3, .int x4] G I J) (sw_Q D cy sz (sw_qi G Q)) 0 0 (fun q => sz ≤ q) :=
  sw_met (by decide) (fun q => by cases q) (Nat.le_of_ble_eq_true rfl) rfl (t_X9_sheet hG  h)
-- X9_crowd
abbrev rm_X9_crowd : Room := { frames := 1, cells := 0, slots := 0, locals := 25 }
def wb_X9_crowd_26  (K26 : Int32 → Int32 → Int32 → Int32 → sw_I → sw_J → Prop) (Q : Int32 → sw_I → sw_J → Prop) (x2 : Int32) (x3 : Int32) (x4 : Int32) (x5 : Int32) (I : sw_I) (J : sw_J) : Prop :=
  sw_if (x5 < x2) (wp_X9_nextDrawn x4 I J (fun r_8 I_9 J_10 => wp_X9_ofFloors r_8 I_9 J_10 (fun r_11 I_12 J_13 => wp_X9_nextDrawn r_8 I_12 J_13 (fun r_14 I_15 J_16 => wp_X9_ofFloors r_14 I_15 J_16 (fun r_17 I_18 J_19 => wp_X9_nextDrawn r_14 I_18 J_19 (fun r_20 I_21 J_22 => wp_X9_ofFloors r_20 I_21 J_22 (fun r_23 I_24 J_25 => wp_X9_addRider r_11 r_17 r_23 0 I_24 J_25 (fun I_27 J_28 => ∀ y_29 : Int32, y_29 = x5 + 1 → K26 x2 x3 r_20 y_29 I_27 J_28)))))))) (∀ y_2 : Int32, y_2 = (I 3 2) - x3 → sw_if (0 < y_2) (wp_X9_forgetWhatWas  I J (fun I_6 J_7 => Q y_2 I_6 J_7)) (Q y_2 I J))
def wl_X9_crowd_26   (Q : Int32 → sw_I → sw_J → Prop) : Nat → Int32 → Int32 → Int32 → Int32 → sw_I → sw_J → Prop
  | 0 => fun _ _ _ _ _ _ => False
  | n + 1 => fun x2 x3 x4 x5 I J => wb_X9_crowd_26  (wl_X9_crowd_26   Q n) Q x2 x3 x4 x5 I J
def wp_X9_crowd (x1 : Int32) (x2 : Int32) (I : sw_I) (J : sw_J) (Q : Int32 → sw_I → sw_J → Prop) : Prop :=
  sw_if (x2 < 0) (Q (-1 : Int32) I J) (sw_if ((10 : Int32) < x2) (Q (-1 : Int32) I J) (∀ y_3 : Int32, y_3 = (I 3 2) → ∃ n_5 : Nat, wl_X9_crowd_26   Q n_5 x2 y_3 x1 y_3 I J))
set_option maxRecDepth 20000 in
theorem tb_X9_crowd_26 {l : Launch} {D : va_G} {cy : Nat → ClassId} {sz : Nat} {G : sw_G} (hG : sw_lay G)   {Q : Int32 → sw_I → sw_J → Prop} {K26 : Int32 → Int32 → Int32 → Int32 → sw_I → sw_J → Prop} (hK26 : ∀ (x2 : Int32) (x3 : Int32) (x4 : Int32) (x5 : Int32) (I : sw_I) (J : sw_J), K26 x2 x3 x4 x5 I J → AW l D cy sz RX9 cX9_crowd 8 (some .int) false rm_X9_crowd 0 0 (sw_qi G Q) 0 0 G I J 26 [(0, .ref (sz + 0)), (2, .int x2), (3, .int x3), (4, .int x4), (5, .int x5)] []) {x2 : Int32} {x3 : Int32} {x4 : Int32} {x5 : Int32} {I : sw_I} {J : sw_J} (h : wb_X9_crowd_26  K26 Q x2 x3 x4 x5 I J) : AW l D cy sz RX9 cX9_crowd 8 (some .int) false rm_X9_crowd 0 0 (sw_qi G Q) 0 0 G I J 26 [(0, .ref (sz + 0)), (2, .int x2), (3, .int x3), (4, .int x4), (5, .int x5)] [] := by
  unfold wb_X9_crowd_26 at h
  refine aw_iload 4 dX9_crowd_26 rfl ?_
  refine aw_iload_n 1 dX9_crowd_28 rfl rfl ?_
  refine aw_jge 90 dX9_crowd_29 (by decide) (fun c_1 => ?_) (fun c_1 => ?_)
  · have h := sw_if.f h c_1
    refine aw_aload_n 0 dX9_crowd_90 rfl rfl ?_
    refine gf_X9_1 fl_X9_19 (lk0 hG) (lr0_1 hG) dX9_crowd_91 ?_
    refine gf_X1_2 fl_X9_154 (lk3 hG) dX9_crowd_94 ?_
    refine aw_iload_n 2 dX9_crowd_97 rfl rfl ?_
    refine aw_isub dX9_crowd_98 ?_
    refine aw_topi (fun y_2 e_3 => ?_)
    have h := h y_2 e_3
    refine aw_istore (lv' := [(5, .int y_2), (0, .ref (sz + 0)), (2, .int x2), (3, .int x3), (4, .int x4)]) dX9_crowd_99 (by decide) rfl ?_
    refine aw_iload 0 dX9_crowd_101 rfl ?_
    refine aw_zle 110 dX9_crowd_103 (by decide) (fun c_4 => ?_) (fun c_4 => ?_)
    · have h := sw_if.f h c_4
      refine aw_iload 0 dX9_crowd_110 rfl ?_
      exact aw_iret rfl dX9_crowd_112 ⟨rfl, _, rfl, h⟩
    · have h := sw_if.t h c_4
      refine aw_aload_n 1 dX9_crowd_106 rfl rfl ?_
      refine aw_callV wv_X9_forgetWhatWas (M_X9_forgetWhatWas hG  h) ml_X9_94 rfl (by decide) (lk0 hG) rfl rfl (Nat.le_of_ble_eq_true rfl) ⟨rfl, rfl⟩ ⟨Nat.le_of_ble_eq_true rfl, Nat.le_of_ble_eq_true rfl⟩ ⟨Nat.le_refl _, Nat.le_refl _⟩ dX9_crowd_107 (aw_kv fun I_6 J_7 h => ?_)
      refine aw_iload 0 dX9_crowd_110 rfl ?_
      exact aw_iret rfl dX9_crowd_112 ⟨rfl, _, rfl, h⟩
  · have h := sw_if.t h c_1
    refine aw_iload 3 dX9_crowd_32 rfl ?_
    refine aw_callS wv_X9_nextDrawn (M_X9_nextDrawn trivial  h) ml_X9_164 rfl rfl (Nat.le_of_ble_eq_true rfl) ⟨rfl, rfl⟩ ⟨Nat.le_of_ble_eq_true rfl, Nat.le_of_ble_eq_true rfl⟩ ⟨Nat.le_refl _, Nat.le_refl _⟩ dX9_crowd_34 (aw_ki fun r_8 I_9 J_10 h => ?_)
    refine aw_istore (lv' := [(4, .int r_8), (0, .ref (sz + 0)), (2, .int x2), (3, .int x3), (5, .int x5)]) dX9_crowd_37 (by decide) rfl ?_
    refine aw_aload_n 1 dX9_crowd_39 rfl rfl ?_
    refine aw_iload 0 dX9_crowd_40 rfl ?_
    refine aw_callV wv_X9_ofFloors (M_X9_ofFloors hG  h) ml_X9_168 rfl (by decide) (lk0 hG) rfl rfl (Nat.le_of_ble_eq_true rfl) ⟨rfl, rfl⟩ ⟨Nat.le_of_ble_eq_true rfl, Nat.le_of_ble_eq_true rfl⟩ ⟨Nat.le_refl _, Nat.le_refl _⟩ dX9_crowd_42 (aw_ki fun r_11 I_12 J_13 h => ?_)
    refine aw_istore (lv' := [(6, .int r_11), (4, .int r_8), (0, .ref (sz + 0)), (2, .int x2), (3, .int x3), (5, .int x5)]) dX9_crowd_45 (by decide) rfl ?_
    refine aw_iload 1 dX9_crowd_47 rfl ?_
    refine aw_callS wv_X9_nextDrawn (M_X9_nextDrawn trivial  h) ml_X9_164 rfl rfl (Nat.le_of_ble_eq_true rfl) ⟨rfl, rfl⟩ ⟨Nat.le_of_ble_eq_true rfl, Nat.le_of_ble_eq_true rfl⟩ ⟨Nat.le_refl _, Nat.le_refl _⟩ dX9_crowd_49 (aw_ki fun r_14 I_15 J_16 h => ?_)
    refine aw_istore (lv' := [(4, .int r_14), (6, .int r_11), (0, .ref (sz + 0)), (2, .int x2), (3, .int x3), (5, .int x5)]) dX9_crowd_52 (by decide) rfl ?_
    refine aw_aload_n 2 dX9_crowd_54 rfl rfl ?_
    refine aw_iload 0 dX9_crowd_55 rfl ?_
    refine aw_callV wv_X9_ofFloors (M_X9_ofFloors hG  h) ml_X9_168 rfl (by decide) (lk0 hG) rfl rfl (Nat.le_of_ble_eq_true rfl) ⟨rfl, rfl⟩ ⟨Nat.le_of_ble_eq_true rfl, Nat.le_of_ble_eq_true rfl⟩ ⟨Nat.le_refl _, Nat.le_refl _⟩ dX9_crowd_57 (aw_ki fun r_17 I_18 J_19 h => ?_)
    refine aw_istore (lv' := [(7, .int r_17), (4, .int r_14), (6, .int r_11), (0, .ref (sz + 0)), (2, .int x2), (3, .int x3), (5, .int x5)]) dX9_crowd_60 (by decide) rfl ?_
    refine aw_iload 1 dX9_crowd_62 rfl ?_
    refine aw_callS wv_X9_nextDrawn (M_X9_nextDrawn trivial  h) ml_X9_164 rfl rfl (Nat.le_of_ble_eq_true rfl) ⟨rfl, rfl⟩ ⟨Nat.le_of_ble_eq_true rfl, Nat.le_of_ble_eq_true rfl⟩ ⟨Nat.le_refl _, Nat.le_refl _⟩ dX9_crowd_64 (aw_ki fun r_20 I_21 J_22 h => ?_)
    refine aw_istore (lv' := [(4, .int r_20), (7, .int r_17), (6, .int r_11), (0, .ref (sz + 0)), (2, .int x2), (3, .int x3), (5, .int x5)]) dX9_crowd_67 (by decide) rfl ?_
    refine aw_aload_n 3 dX9_crowd_69 rfl rfl ?_
    refine aw_iload 2 dX9_crowd_70 rfl ?_
    refine aw_iload 1 dX9_crowd_72 rfl ?_
    refine aw_aload_n 3 dX9_crowd_74 rfl rfl ?_
    refine aw_iload 0 dX9_crowd_75 rfl ?_
    refine aw_callV wv_X9_ofFloors (M_X9_ofFloors hG  h) ml_X9_168 rfl (by decide) (lk0 hG) rfl rfl (Nat.le_of_ble_eq_true rfl) ⟨rfl, rfl⟩ ⟨Nat.le_of_ble_eq_true rfl, Nat.le_of_ble_eq_true rfl⟩ ⟨Nat.le_refl _, Nat.le_refl _⟩ dX9_crowd_77 (aw_ki fun r_23 I_24 J_25 h => ?_)
    refine aw_iconst (v := 0) dX9_crowd_80 (by decide) ?_
    refine aw_callV wv_X9_addRider (M_X9_addRider hG  h) ml_X9_171 rfl (by decide) (lk0 hG) rfl rfl (Nat.le_of_ble_eq_true rfl) ⟨rfl, rfl⟩ ⟨Nat.le_of_ble_eq_true rfl, Nat.le_of_ble_eq_true rfl⟩ ⟨Nat.le_refl _, Nat.le_refl _⟩ dX9_crowd_81 (aw_kv fun I_27 J_28 h => ?_)
    obtain ⟨y_29, e_30⟩ : ∃ q : Int32, q = x5 + 1 := ⟨_, rfl⟩
    have h := h y_29 e_30
    refine aw_iinc (lv' := [(5, .int y_29), (4, .int r_20), (7, .int r_17), (6, .int r_11), (0, .ref (sz + 0)), (2, .int x2), (3, .int x3)]) 6 dX9_crowd_84 rfl (by rw [e_30]; rfl) (by decide) rfl ?_
    refine aw_goto 26 dX9_crowd_87 (by decide) ?_
    refine aw_sub [4, 5, 6, 1, 0] rfl ?_
    exact hK26 x2 x3 r_20 y_29 I_27 J_28 h
set_option maxRecDepth 20000 in
theorem tl_X9_crowd_26 {l : Launch} {D : va_G} {cy : Nat → ClassId} {sz : Nat} {G : sw_G} (hG : sw_lay G)   {Q : Int32 → sw_I → sw_J → Prop} : ∀ (n : Nat) (x2 : Int32) (x3 : Int32) (x4 : Int32) (x5 : Int32) (I : sw_I) (J : sw_J), wl_X9_crowd_26   Q n x2 x3 x4 x5 I J → AW l D cy sz RX9 cX9_crowd 8 (some .int) false rm_X9_crowd 0 0 (sw_qi G Q) 0 0 G I J 26 [(0, .ref (sz + 0)), (2, .int x2), (3, .int x3), (4, .int x4), (5, .int x5)] [] := by
  intro n
  induction n with
  | zero => intro x2 x3 x4 x5 I J h; exact False.elim h
  | succ n ih => intro x2 x3 x4 x5 I J h; exact tb_X9_crowd_26 hG  ih h
set_option maxRecDepth 20000 in
theorem t_X9_crowd {l : Launch} {D : va_G} {cy : Nat → ClassId} {sz : Nat} {G : sw_G} (hG : sw_lay G)   {Q : Int32 → sw_I → sw_J → Prop} {x1 : Int32} {x2 : Int32} {I : sw_I} {J : sw_J} (h : wp_X9_crowd x1 x2 I J Q) : AW l D cy sz RX9 cX9_crowd 8 (some .int) false rm_X9_crowd 0 0 (sw_qi G Q) 0 0 G I J 0 [(0, .ref (sz + 0)), (1, .int x1), (2, .int x2)] [] := by
  unfold wp_X9_crowd at h
  refine aw_iload_n 2 dX9_crowd_0 rfl rfl ?_
  refine aw_zlt 10 dX9_crowd_1 (by decide) (fun c_1 => ?_) (fun c_1 => ?_)
  · have h := sw_if.t h c_1
    refine aw_iconst (v := (-1)) dX9_crowd_10 (by decide) ?_
    exact aw_iret rfl dX9_crowd_11 ⟨rfl, _, rfl, h⟩
  · have h := sw_if.f h c_1
    refine aw_iload_n 2 dX9_crowd_4 rfl rfl ?_
    refine aw_bipush (v := 10) dX9_crowd_5 (by decide) ?_
    refine aw_jle 12 dX9_crowd_7 (by decide) (fun c_2 => ?_) (fun c_2 => ?_)
    · have h := sw_if.f h c_2
      refine aw_aload_n 0 dX9_crowd_12 rfl rfl ?_
      refine gf_X9_1 fl_X9_19 (lk0 hG) (lr0_1 hG) dX9_crowd_13 ?_
      refine gf_X1_2 fl_X9_154 (lk3 hG) dX9_crowd_16 ?_
      refine aw_topi (fun y_3 e_4 => ?_)
      have h := h y_3 e_4
      refine aw_istore_n (lv' := [(3, .int y_3), (0, .ref (sz + 0)), (1, .int x1), (2, .int x2)]) dX9_crowd_19 rfl (by decide) rfl ?_
      refine aw_iload_n 2 dX9_crowd_20 rfl rfl ?_
      refine aw_istore (lv' := [(4, .int x1), (3, .int y_3), (0, .ref (sz + 0)), (1, .int x1), (2, .int x2)]) dX9_crowd_21 (by decide) rfl ?_
      refine aw_iload_n 1 dX9_crowd_23 rfl rfl ?_
      refine aw_istore (lv' := [(5, .int y_3), (4, .int x1), (3, .int y_3), (0, .ref (sz + 0)), (1, .int x1), (2, .int x2)]) dX9_crowd_24 (by decide) rfl ?_
      refine aw_sub [3, 5, 2, 1, 0] rfl ?_
      obtain ⟨n_5, h⟩ := h
      exact tl_X9_crowd_26 hG   n_5 x2 y_3 x1 y_3 I J h
    · have h := sw_if.t h c_2
      refine aw_iconst (v := (-1)) dX9_crowd_10 (by decide) ?_
      exact aw_iret rfl dX9_crowd_11 ⟨rfl, _, rfl, h⟩
theorem M_X9_crowd {l : Launch} {D : va_G} {cy : Nat → ClassId} {sz : Nat} {G : sw_G} (hG : sw_lay G)   {Q : Int32 → sw_I → sw_J → Prop} {x1 : Int32} {x2 : Int32} {I : sw_I} {J : sw_J} (h : wp_X9_crowd x1 x2 I J Q) : Met l yX9_crowd (Cond.code yX9_crowd cX9_crowd 8 (some .int) :: sw_T) rm_X9_crowd (sw_Pc D cy sz [.ref (sz + 0), .int x1, .int x2] G I J) (sw_Q D cy sz (sw_qi G Q)) 0 0 (fun q => sz ≤ q) :=
  sw_met (by decide) (fun q => by cases q) (Nat.le_of_ble_eq_true rfl) rfl (t_X9_crowd hG  h)
-- X9_setsOf
abbrev rm_X9_setsOf : Room := { frames := 1, cells := 0, slots := 0, locals := 20 }
def wp_X9_setsOf (x0 : Int32) (I : sw_I) (J : sw_J) (Q : Int32 → sw_I → sw_J → Prop) : Prop :=
  wp_J6_bitCount_0f7a4 x0 I J (fun r_1 I_2 J_3 => Q ((1 : Int32) <<< (r_1 &&& 31)) I_2 J_3)
set_option maxRecDepth 20000 in
theorem t_X9_setsOf {l : Launch} {D : va_G} {cy : Nat → ClassId} {sz : Nat} {G : sw_G} (hG : True)   {Q : Int32 → sw_I → sw_J → Prop} {x0 : Int32} {I : sw_I} {J : sw_J} (h : wp_X9_setsOf x0 I J Q) : AW l D cy sz RX9 cX9_setsOf 1 (some .int) false rm_X9_setsOf 0 0 (sw_qi G Q) 0 0 G I J 0 [(0, .int x0)] [] := by
  unfold wp_X9_setsOf at h
  refine aw_iconst (v := 1) dX9_setsOf_0 (by decide) ?_
  refine aw_iload_n 0 dX9_setsOf_1 rfl rfl ?_
  refine aw_callS wv_J6_bitCount_0f7a4 (M_J6_bitCount_0f7a4 trivial  h) ml_X9_272 rfl rfl (Nat.le_of_ble_eq_true rfl) ⟨rfl, rfl⟩ ⟨Nat.le_of_ble_eq_true rfl, Nat.le_of_ble_eq_true rfl⟩ ⟨Nat.le_refl _, Nat.le_refl _⟩ dX9_setsOf_2 (aw_ki fun r_1 I_2 J_3 h => ?_)
  refine aw_ishl dX9_setsOf_5 ?_
  exact aw_iret rfl dX9_setsOf_6 ⟨rfl, _, rfl, h⟩
theorem M_X9_setsOf {l : Launch} {D : va_G} {cy : Nat → ClassId} {sz : Nat} {G : sw_G} (hG : True)   {Q : Int32 → sw_I → sw_J → Prop} {x0 : Int32} {I : sw_I} {J : sw_J} (h : wp_X9_setsOf x0 I J Q) : Met l yX9_setsOf (Cond.code yX9_setsOf cX9_setsOf 1 (some .int) :: sw_T) rm_X9_setsOf (sw_Pc D cy sz [.int x0] G I J) (sw_Q D cy sz (sw_qi G Q)) 0 0 (fun q => sz ≤ q) :=
  sw_met (by decide) (fun q => by cases q) (Nat.le_of_ble_eq_true rfl) rfl (t_X9_setsOf hG  h)
-- X9_takeLines
abbrev rm_X9_takeLines : Room := { frames := 1, cells := 0, slots := 0, locals := 25 }
def wB_X9_takeLines_123  (K4 : Int32 → Int32 → sw_I → sw_J → Prop) (Q : Int32 → sw_I → sw_J → Prop) (x1 : Int32) (s0 : Int32) (s1 : Int32) (I : sw_I) (J : sw_J) : Prop :=
  ∀ y_1 : Int32, y_1 = s0 + s1 → K4 x1 y_1 I J
def wB_X9_takeLines_83  (K4 : Int32 → Int32 → sw_I → sw_J → Prop) (Q : Int32 → sw_I → sw_J → Prop) (x1 : Int32) (x2 : Int32) (x3 : Int32) (x4 : Int32) (s0 : Int32) (I : sw_I) (J : sw_J) : Prop :=
  wp_X8_at (x2 + (4 : Int32)) I J (fun r_1 I_2 J_3 => wp_X9_addRider x3 x4 (r_1 - (48 : Int32)) s0 I_2 J_3 (fun I_5 J_6 => ∀ y_7 : Int32, y_7 = x1 + 1 → sw_if (s0 = 0) (wB_X9_takeLines_123  K4 Q y_7 x2 6 I_5 J_6) (wB_X9_takeLines_123  K4 Q y_7 x2 7 I_5 J_6)))
def wB_X9_takeLines_61  (K4 : Int32 → Int32 → sw_I → sw_J → Prop) (Q : Int32 → sw_I → sw_J → Prop) (x1 : Int32) (x2 : Int32) (x3 : Int32) (s0 : Int32) (I : sw_I) (J : sw_J) : Prop :=
  wp_X8_at (x2 + (5 : Int32)) I J (fun r_1 I_2 J_3 => sw_if (r_1 = (33 : Int32)) (wB_X9_takeLines_83  K4 Q x1 x2 x3 s0 1 I_2 J_3) (wB_X9_takeLines_83  K4 Q x1 x2 x3 s0 0 I_2 J_3))
def wb_X9_takeLines_4  (K4 : Int32 → Int32 → sw_I → sw_J → Prop) (Q : Int32 → sw_I → sw_J → Prop) (x1 : Int32) (x2 : Int32) (I : sw_I) (J : sw_J) : Prop :=
  sw_if ((I 1 1) < (x2 + (5 : Int32))) (sw_if (0 < x1) (wp_X9_forgetWhatWas  I J (fun I_4 J_5 => Q x1 I_4 J_5)) (Q x1 I J)) (wp_X8_at x2 I J (fun r_6 I_7 J_8 => ∀ y_9 : Int32, y_9 = r_6 - (48 : Int32) → wp_X8_at (x2 + (2 : Int32)) I_7 J_8 (fun r_11 I_12 J_13 => sw_if (r_11 = (45 : Int32)) (wB_X9_takeLines_61  K4 Q x1 x2 y_9 (-1) I_12 J_13) (wp_X8_at (x2 + (2 : Int32)) I_12 J_13 (fun r_15 I_16 J_17 => wB_X9_takeLines_61  K4 Q x1 x2 y_9 (r_15 - (48 : Int32)) I_16 J_17)))))
def wl_X9_takeLines_4   (Q : Int32 → sw_I → sw_J → Prop) : Nat → Int32 → Int32 → sw_I → sw_J → Prop
  | 0 => fun _ _ _ _ => False
  | n + 1 => fun x1 x2 I J => wb_X9_takeLines_4  (wl_X9_takeLines_4   Q n) Q x1 x2 I J
def wp_X9_takeLines  (I : sw_I) (J : sw_J) (Q : Int32 → sw_I → sw_J → Prop) : Prop :=
  ∃ n_1 : Nat, wl_X9_takeLines_4   Q n_1 0 0 I J
set_option maxRecDepth 20000 in
theorem t_X9_takeLines_123 {l : Launch} {D : va_G} {cy : Nat → ClassId} {sz : Nat} {G : sw_G} (hG : sw_lay G)   {Q : Int32 → sw_I → sw_J → Prop} {K4 : Int32 → Int32 → sw_I → sw_J → Prop} (hK4 : ∀ (x1 : Int32) (x2 : Int32) (I : sw_I) (J : sw_J), K4 x1 x2 I J → AW l D cy sz RX9 cX9_takeLines 6 (some .int) false rm_X9_takeLines 0 0 (sw_qi G Q) 0 0 G I J 4 [(0, .ref (sz + 0)), (1, .int x1), (2, .int x2)] []) {x1 : Int32} {s0 : Int32} {s1 : Int32} {I : sw_I} {J : sw_J} (h : wB_X9_takeLines_123  K4 Q x1 s0 s1 I J) : AW l D cy sz RX9 cX9_takeLines 6 (some .int) false rm_X9_takeLines 0 0 (sw_qi G Q) 0 0 G I J 123 [(0, .ref (sz + 0)), (1, .int x1)] [.int s1, .int s0] := by
  unfold wB_X9_takeLines_123 at h
  refine aw_iadd dX9_takeLines_123 ?_
  refine aw_topi (fun y_1 e_2 => ?_)
  have h := h y_1 e_2
  refine aw_istore_n (lv' := [(2, .int y_1), (0, .ref (sz + 0)), (1, .int x1)]) dX9_takeLines_124 rfl (by decide) rfl ?_
  refine aw_goto 4 dX9_takeLines_125 (by decide) ?_
  refine aw_sub [1, 2, 0] rfl ?_
  exact hK4 x1 y_1 I J h
set_option maxRecDepth 20000 in
theorem t_X9_takeLines_83 {l : Launch} {D : va_G} {cy : Nat → ClassId} {sz : Nat} {G : sw_G} (hG : sw_lay G)   {Q : Int32 → sw_I → sw_J → Prop} {K4 : Int32 → Int32 → sw_I → sw_J → Prop} (hK4 : ∀ (x1 : Int32) (x2 : Int32) (I : sw_I) (J : sw_J), K4 x1 x2 I J → AW l D cy sz RX9 cX9_takeLines 6 (some .int) false rm_X9_takeLines 0 0 (sw_qi G Q) 0 0 G I J 4 [(0, .ref (sz + 0)), (1, .int x1), (2, .int x2)] []) {x1 : Int32} {x2 : Int32} {x3 : Int32} {x4 : Int32} {s0 : Int32} {I : sw_I} {J : sw_J} (h : wB_X9_takeLines_83  K4 Q x1 x2 x3 x4 s0 I J) : AW l D cy sz RX9 cX9_takeLines 6 (some .int) false rm_X9_takeLines 0 0 (sw_qi G Q) 0 0 G I J 83 [(0, .ref (sz + 0)), (1, .int x1), (2, .int x2), (3, .int x3), (4, .int x4)] [.int s0] := by
  unfold wB_X9_takeLines_83 at h
  refine aw_istore (lv' := [(5, .int s0), (0, .ref (sz + 0)), (1, .int x1), (2, .int x2), (3, .int x3), (4, .int x4)]) dX9_takeLines_83 (by decide) rfl ?_
  refine aw_aload_n 1 dX9_takeLines_85 rfl rfl ?_
  refine aw_iload_n 4 dX9_takeLines_86 rfl rfl ?_
  refine aw_iload 5 dX9_takeLines_87 rfl ?_
  refine aw_aload_n 1 dX9_takeLines_89 rfl rfl ?_
  refine gf_X9_0 fl_X9_12 (lk0 hG) (lr0_0 hG) dX9_takeLines_90 ?_
  refine aw_iload_n 3 dX9_takeLines_93 rfl rfl ?_
  refine aw_iconst (v := 4) dX9_takeLines_94 (by decide) ?_
  refine aw_iadd dX9_takeLines_95 ?_
  refine aw_callV wv_X8_at (M_X8_at hG  h) ml_X9_352 rfl (by decide) (lk1 hG) rfl rfl (Nat.le_of_ble_eq_true rfl) ⟨rfl, rfl⟩ ⟨Nat.le_of_ble_eq_true rfl, Nat.le_of_ble_eq_true rfl⟩ ⟨Nat.le_refl _, Nat.le_refl _⟩ dX9_takeLines_96 (aw_ki fun r_1 I_2 J_3 h => ?_)
  refine aw_bipush (v := 48) dX9_takeLines_99 (by decide) ?_
  refine aw_isub dX9_takeLines_101 ?_
  refine aw_iload 0 dX9_takeLines_102 rfl ?_
  refine aw_callV wv_X9_addRider (M_X9_addRider hG  h) ml_X9_171 rfl (by decide) (lk0 hG) rfl rfl (Nat.le_of_ble_eq_true rfl) ⟨rfl, rfl⟩ ⟨Nat.le_of_ble_eq_true rfl, Nat.le_of_ble_eq_true rfl⟩ ⟨Nat.le_refl _, Nat.le_refl _⟩ dX9_takeLines_104 (aw_kv fun I_5 J_6 h => ?_)
  obtain ⟨y_7, e_8⟩ : ∃ q : Int32, q = x1 + 1 := ⟨_, rfl⟩
  have h := h y_7 e_8
  refine aw_iinc (lv' := [(1, .int y_7), (5, .int s0), (0, .ref (sz + 0)), (2, .int x2), (3, .int x3), (4, .int x4)]) 2 dX9_takeLines_107 rfl (by rw [e_8]; rfl) (by decide) rfl ?_
  refine aw_iload_n 3 dX9_takeLines_110 rfl rfl ?_
  refine aw_iload 1 dX9_takeLines_111 rfl ?_
  refine aw_zeq 121 dX9_takeLines_113 (by decide) (fun c_9 => ?_) (fun c_9 => ?_)
  · have h := sw_if.t h c_9
    refine aw_bipush (v := 6) dX9_takeLines_121 (by decide) ?_
    refine aw_sub [2, 0] rfl ?_
    exact t_X9_takeLines_123 hG  hK4 h
  · have h := sw_if.f h c_9
    refine aw_bipush (v := 7) dX9_takeLines_116 (by decide) ?_
    refine aw_goto 123 dX9_takeLines_118 (by decide) ?_
    refine aw_sub [2, 0] rfl ?_
    exact t_X9_takeLines_123 hG  hK4 h
set_option maxRecDepth 20000 in
theorem t_X9_takeLines_61 {l : Launch} {D : va_G} {cy : Nat → ClassId} {sz : Nat} {G : sw_G} (hG : sw_lay G)   {Q : Int32 → sw_I → sw_J → Prop} {K4 : Int32 → Int32 → sw_I → sw_J → Prop} (hK4 : ∀ (x1 : Int32) (x2 : Int32) (I : sw_I) (J : sw_J), K4 x1 x2 I J → AW l D cy sz RX9 cX9_takeLines 6 (some .int) false rm_X9_takeLines 0 0 (sw_qi G Q) 0 0 G I J 4 [(0, .ref (sz + 0)), (1, .int x1), (2, .int x2)] []) {x1 : Int32} {x2 : Int32} {x3 : Int32} {s0 : Int32} {I : sw_I} {J : sw_J} (h : wB_X9_takeLines_61  K4 Q x1 x2 x3 s0 I J) : AW l D cy sz RX9 cX9_takeLines 6 (some .int) false rm_X9_takeLines 0 0 (sw_qi G Q) 0 0 G I J 61 [(0, .ref (sz + 0)), (1, .int x1), (2, .int x2), (3, .int x3)] [.int s0] := by
  unfold wB_X9_takeLines_61 at h
  refine aw_istore (lv' := [(4, .int s0), (0, .ref (sz + 0)), (1, .int x1), (2, .int x2), (3, .int x3)]) dX9_takeLines_61 (by decide) rfl ?_
  refine aw_aload_n 1 dX9_takeLines_63 rfl rfl ?_
  refine gf_X9_0 fl_X9_12 (lk0 hG) (lr0_0 hG) dX9_takeLines_64 ?_
  refine aw_iload_n 3 dX9_takeLines_67 rfl rfl ?_
  refine aw_iconst (v := 5) dX9_takeLines_68 (by decide) ?_
  refine aw_iadd dX9_takeLines_69 ?_
  refine aw_callV wv_X8_at (M_X8_at hG  h) ml_X9_352 rfl (by decide) (lk1 hG) rfl rfl (Nat.le_of_ble_eq_true rfl) ⟨rfl, rfl⟩ ⟨Nat.le_of_ble_eq_true rfl, Nat.le_of_ble_eq_true rfl⟩ ⟨Nat.le_refl _, Nat.le_refl _⟩ dX9_takeLines_70 (aw_ki fun r_1 I_2 J_3 h => ?_)
  refine aw_bipush (v := 33) dX9_takeLines_73 (by decide) ?_
  refine aw_jne 82 dX9_takeLines_75 (by decide) (fun c_4 => ?_) (fun c_4 => ?_)
  · have h := sw_if.f h c_4
    refine aw_iconst (v := 0) dX9_takeLines_82 (by decide) ?_
    refine aw_sub [1, 2, 3, 4, 0] rfl ?_
    exact t_X9_takeLines_83 hG  hK4 h
  · have h := sw_if.t h c_4
    refine aw_iconst (v := 1) dX9_takeLines_78 (by decide) ?_
    refine aw_goto 83 dX9_takeLines_79 (by decide) ?_
    refine aw_sub [1, 2, 3, 4, 0] rfl ?_
    exact t_X9_takeLines_83 hG  hK4 h
set_option maxRecDepth 20000 in
theorem tb_X9_takeLines_4 {l : Launch} {D : va_G} {cy : Nat → ClassId} {sz : Nat} {G : sw_G} (hG : sw_lay G)   {Q : Int32 → sw_I → sw_J → Prop} {K4 : Int32 → Int32 → sw_I → sw_J → Prop} (hK4 : ∀ (x1 : Int32) (x2 : Int32) (I : sw_I) (J : sw_J), K4 x1 x2 I J → AW l D cy sz RX9 cX9_takeLines 6 (some .int) false rm_X9_takeLines 0 0 (sw_qi G Q) 0 0 G I J 4 [(0, .ref (sz + 0)), (1, .int x1), (2, .int x2)] []) {x1 : Int32} {x2 : Int32} {I : sw_I} {J : sw_J} (h : wb_X9_takeLines_4  K4 Q x1 x2 I J) : AW l D cy sz RX9 cX9_takeLines 6 (some .int) false rm_X9_takeLines 0 0 (sw_qi G Q) 0 0 G I J 4 [(0, .ref (sz + 0)), (1, .int x1), (2, .int x2)] [] := by
  unfold wb_X9_takeLines_4 at h
  refine aw_iload_n 2 dX9_takeLines_4 rfl rfl ?_
  refine aw_iconst (v := 5) dX9_takeLines_5 (by decide) ?_
  refine aw_iadd dX9_takeLines_6 ?_
  refine aw_aload_n 0 dX9_takeLines_7 rfl rfl ?_
  refine gf_X9_0 fl_X9_12 (lk0 hG) (lr0_0 hG) dX9_takeLines_8 ?_
  refine gf_X8_1 fl_X9_80 (lk1 hG) dX9_takeLines_11 ?_
  refine aw_jgt 128 dX9_takeLines_14 (by decide) (fun c_1 => ?_) (fun c_1 => ?_)
  · have h := sw_if.t h c_1
    refine aw_iload_n 1 dX9_takeLines_128 rfl rfl ?_
    refine aw_zle 136 dX9_takeLines_129 (by decide) (fun c_2 => ?_) (fun c_2 => ?_)
    · have h := sw_if.f h c_2
      refine aw_iload_n 1 dX9_takeLines_136 rfl rfl ?_
      exact aw_iret rfl dX9_takeLines_137 ⟨rfl, _, rfl, h⟩
    · have h := sw_if.t h c_2
      refine aw_aload_n 0 dX9_takeLines_132 rfl rfl ?_
      refine aw_callV wv_X9_forgetWhatWas (M_X9_forgetWhatWas hG  h) ml_X9_94 rfl (by decide) (lk0 hG) rfl rfl (Nat.le_of_ble_eq_true rfl) ⟨rfl, rfl⟩ ⟨Nat.le_of_ble_eq_true rfl, Nat.le_of_ble_eq_true rfl⟩ ⟨Nat.le_refl _, Nat.le_refl _⟩ dX9_takeLines_133 (aw_kv fun I_4 J_5 h => ?_)
      refine aw_iload_n 1 dX9_takeLines_136 rfl rfl ?_
      exact aw_iret rfl dX9_takeLines_137 ⟨rfl, _, rfl, h⟩
  · have h := sw_if.f h c_1
    refine aw_aload_n 0 dX9_takeLines_17 rfl rfl ?_
    refine gf_X9_0 fl_X9_12 (lk0 hG) (lr0_0 hG) dX9_takeLines_18 ?_
    refine aw_iload_n 2 dX9_takeLines_21 rfl rfl ?_
    refine aw_callV wv_X8_at (M_X8_at hG  h) ml_X9_352 rfl (by decide) (lk1 hG) rfl rfl (Nat.le_of_ble_eq_true rfl) ⟨rfl, rfl⟩ ⟨Nat.le_of_ble_eq_true rfl, Nat.le_of_ble_eq_true rfl⟩ ⟨Nat.le_refl _, Nat.le_refl _⟩ dX9_takeLines_22 (aw_ki fun r_6 I_7 J_8 h => ?_)
    refine aw_bipush (v := 48) dX9_takeLines_25 (by decide) ?_
    refine aw_isub dX9_takeLines_27 ?_
    refine aw_topi (fun y_9 e_10 => ?_)
    have h := h y_9 e_10
    refine aw_istore_n (lv' := [(3, .int y_9), (0, .ref (sz + 0)), (1, .int x1), (2, .int x2)]) dX9_takeLines_28 rfl (by decide) rfl ?_
    refine aw_aload_n 1 dX9_takeLines_29 rfl rfl ?_
    refine gf_X9_0 fl_X9_12 (lk0 hG) (lr0_0 hG) dX9_takeLines_30 ?_
    refine aw_iload_n 3 dX9_takeLines_33 rfl rfl ?_
    refine aw_iconst (v := 2) dX9_takeLines_34 (by decide) ?_
    refine aw_iadd dX9_takeLines_35 ?_
    refine aw_callV wv_X8_at (M_X8_at hG  h) ml_X9_352 rfl (by decide) (lk1 hG) rfl rfl (Nat.le_of_ble_eq_true rfl) ⟨rfl, rfl⟩ ⟨Nat.le_of_ble_eq_true rfl, Nat.le_of_ble_eq_true rfl⟩ ⟨Nat.le_refl _, Nat.le_refl _⟩ dX9_takeLines_36 (aw_ki fun r_11 I_12 J_13 h => ?_)
    refine aw_bipush (v := 45) dX9_takeLines_39 (by decide) ?_
    refine aw_jne 48 dX9_takeLines_41 (by decide) (fun c_14 => ?_) (fun c_14 => ?_)
    · have h := sw_if.f h c_14
      refine aw_aload_n 1 dX9_takeLines_48 rfl rfl ?_
      refine gf_X9_0 fl_X9_12 (lk0 hG) (lr0_0 hG) dX9_takeLines_49 ?_
      refine aw_iload_n 3 dX9_takeLines_52 rfl rfl ?_
      refine aw_iconst (v := 2) dX9_takeLines_53 (by decide) ?_
      refine aw_iadd dX9_takeLines_54 ?_
      refine aw_callV wv_X8_at (M_X8_at hG  h) ml_X9_352 rfl (by decide) (lk1 hG) rfl rfl (Nat.le_of_ble_eq_true rfl) ⟨rfl, rfl⟩ ⟨Nat.le_of_ble_eq_true rfl, Nat.le_of_ble_eq_true rfl⟩ ⟨Nat.le_refl _, Nat.le_refl _⟩ dX9_takeLines_55 (aw_ki fun r_15 I_16 J_17 h => ?_)
      refine aw_bipush (v := 48) dX9_takeLines_58 (by decide) ?_
      refine aw_isub dX9_takeLines_60 ?_
      refine aw_sub [1, 2, 3, 0] rfl ?_
      exact t_X9_takeLines_61 hG  hK4 h
    · have h := sw_if.t h c_14
      refine aw_iconst (v := (-1)) dX9_takeLines_44 (by decide) ?_
      refine aw_goto 61 dX9_takeLines_45 (by decide) ?_
      refine aw_sub [1, 2, 3, 0] rfl ?_
      exact t_X9_takeLines_61 hG  hK4 h
set_option maxRecDepth 20000 in
theorem tl_X9_takeLines_4 {l : Launch} {D : va_G} {cy : Nat → ClassId} {sz : Nat} {G : sw_G} (hG : sw_lay G)   {Q : Int32 → sw_I → sw_J → Prop} : ∀ (n : Nat) (x1 : Int32) (x2 : Int32) (I : sw_I) (J : sw_J), wl_X9_takeLines_4   Q n x1 x2 I J → AW l D cy sz RX9 cX9_takeLines 6 (some .int) false rm_X9_takeLines 0 0 (sw_qi G Q) 0 0 G I J 4 [(0, .ref (sz + 0)), (1, .int x1), (2, .int x2)] [] := by
  intro n
  induction n with
  | zero => intro x1 x2 I J h; exact False.elim h
  | succ n ih => intro x1 x2 I J h; exact tb_X9_takeLines_4 hG  ih h
set_option maxRecDepth 20000 in
theorem t_X9_takeLines {l : Launch} {D : va_G} {cy : Nat → ClassId} {sz : Nat} {G : sw_G} (hG : sw_lay G)   {Q : Int32 → sw_I → sw_J → Prop}  {I : sw_I} {J : sw_J} (h : wp_X9_takeLines  I J Q) : AW l D cy sz RX9 cX9_takeLines 6 (some .int) false rm_X9_takeLines 0 0 (sw_qi G Q) 0 0 G I J 0 [(0, .ref (sz + 0))] [] := by
  unfold wp_X9_takeLines at h
  refine aw_iconst (v := 0) dX9_takeLines_0 (by decide) ?_
  refine aw_istore_n (lv' := [(1, .int 0), (0, .ref (sz + 0))]) dX9_takeLines_1 rfl (by decide) rfl ?_
  refine aw_iconst (v := 0) dX9_takeLines_2 (by decide) ?_
  refine aw_istore_n (lv' := [(2, .int 0), (1, .int 0), (0, .ref (sz + 0))]) dX9_takeLines_3 rfl (by decide) rfl ?_
  refine aw_sub [2, 1, 0] rfl ?_
  obtain ⟨n_1, h⟩ := h
  exact tl_X9_takeLines_4 hG   n_1 0 0 I J h
theorem M_X9_takeLines {l : Launch} {D : va_G} {cy : Nat → ClassId} {sz : Nat} {G : sw_G} (hG : sw_lay G)   {Q : Int32 → sw_I → sw_J → Prop}  {I : sw_I} {J : sw_J} (h : wp_X9_takeLines  I J Q) : Met l yX9_takeLines (Cond.code yX9_takeLines cX9_takeLines 6 (some .int) :: sw_T) rm_X9_takeLines (sw_Pc D cy sz [.ref (sz + 0)] G I J) (sw_Q D cy sz (sw_qi G Q)) 0 0 (fun q => sz ≤ q) :=
  sw_met (by decide) (fun q => by cases q) (Nat.le_of_ble_eq_true rfl) rfl (t_X9_takeLines hG  h)
-- X9_tellLiars
abbrev rm_X9_tellLiars : Room := { frames := 1, cells := 0, slots := 0, locals := 22 }
def wp_X9_tellLiars (x1 : Int32) (x2 : Int32) (x3 : Int32) (I : sw_I) (J : sw_J) (Q : sw_I → sw_J → Prop) : Prop :=
  wp_X9_clearRow  I J (fun I_2 J_3 => wp_X9_tell x1.toInt64 I_2 J_3 (fun I_5 J_6 => wp_X9_tell x2.toInt64 I_5 J_6 (fun I_8 J_9 => wp_J6_bitCount_0f7a4 x1 I_8 J_9 (fun r_10 I_11 J_12 => sw_if ((1 : Int32) < r_10) (wp_X9_tell x3.toInt64 I_11 J_12 (fun I_15 J_16 => Q I_15 J_16)) (Q I_11 J_12)))))
set_option maxRecDepth 20000 in
theorem t_X9_tellLiars {l : Launch} {D : va_G} {cy : Nat → ClassId} {sz : Nat} {G : sw_G} (hG : sw_lay G)   {Q : sw_I → sw_J → Prop} {x1 : Int32} {x2 : Int32} {x3 : Int32} {I : sw_I} {J : sw_J} (h : wp_X9_tellLiars x1 x2 x3 I J Q) : AW l D cy sz RX9 cX9_tellLiars 4 none false rm_X9_tellLiars 0 0 (sw_qv G Q) 0 0 G I J 0 [(0, .ref (sz + 0)), (1, .int x1), (2, .int x2), (3, .int x3)] [] := by
  unfold wp_X9_tellLiars at h
  refine aw_aload_n 0 dX9_tellLiars_0 rfl rfl ?_
  refine aw_callV wv_X9_clearRow (M_X9_clearRow hG  h) ml_X9_192 rfl (by decide) (lk0 hG) rfl rfl (Nat.le_of_ble_eq_true rfl) ⟨rfl, rfl⟩ ⟨Nat.le_of_ble_eq_true rfl, Nat.le_of_ble_eq_true rfl⟩ ⟨Nat.le_refl _, Nat.le_refl _⟩ dX9_tellLiars_1 (aw_kv fun I_2 J_3 h => ?_)
  refine aw_aload_n 0 dX9_tellLiars_4 rfl rfl ?_
  refine aw_iload_n 1 dX9_tellLiars_5 rfl rfl ?_
  refine aw_i2l dX9_tellLiars_6 ?_
  refine aw_callV wv_X9_tell (M_X9_tell hG  h) ml_X9_195 rfl (by decide) (lk0 hG) rfl rfl (Nat.le_of_ble_eq_true rfl) ⟨rfl, rfl⟩ ⟨Nat.le_of_ble_eq_true rfl, Nat.le_of_ble_eq_true rfl⟩ ⟨Nat.le_refl _, Nat.le_refl _⟩ dX9_tellLiars_7 (aw_kv fun I_5 J_6 h => ?_)
  refine aw_aload_n 0 dX9_tellLiars_10 rfl rfl ?_
  refine aw_iload_n 2 dX9_tellLiars_11 rfl rfl ?_
  refine aw_i2l dX9_tellLiars_12 ?_
  refine aw_callV wv_X9_tell (M_X9_tell hG  h) ml_X9_195 rfl (by decide) (lk0 hG) rfl rfl (Nat.le_of_ble_eq_true rfl) ⟨rfl, rfl⟩ ⟨Nat.le_of_ble_eq_true rfl, Nat.le_of_ble_eq_true rfl⟩ ⟨Nat.le_refl _, Nat.le_refl _⟩ dX9_tellLiars_13 (aw_kv fun I_8 J_9 h => ?_)
  refine aw_iload_n 1 dX9_tellLiars_16 rfl rfl ?_
  refine aw_callS wv_J6_bitCount_0f7a4 (M_J6_bitCount_0f7a4 trivial  h) ml_X9_272 rfl rfl (Nat.le_of_ble_eq_true rfl) ⟨rfl, rfl⟩ ⟨Nat.le_of_ble_eq_true rfl, Nat.le_of_ble_eq_true rfl⟩ ⟨Nat.le_refl _, Nat.le_refl _⟩ dX9_tellLiars_17 (aw_ki fun r_10 I_11 J_12 h => ?_)
  refine aw_iconst (v := 1) dX9_tellLiars_20 (by decide) ?_
  refine aw_jle 30 dX9_tellLiars_21 (by decide) (fun c_13 => ?_) (fun c_13 => ?_)
  · have h := sw_if.f h c_13
    exact aw_vret rfl dX9_tellLiars_30 ⟨rfl, rfl, h⟩
  · have h := sw_if.t h c_13
    refine aw_aload_n 0 dX9_tellLiars_24 rfl rfl ?_
    refine aw_iload_n 3 dX9_tellLiars_25 rfl rfl ?_
    refine aw_i2l dX9_tellLiars_26 ?_
    refine aw_callV wv_X9_tell (M_X9_tell hG  h) ml_X9_195 rfl (by decide) (lk0 hG) rfl rfl (Nat.le_of_ble_eq_true rfl) ⟨rfl, rfl⟩ ⟨Nat.le_of_ble_eq_true rfl, Nat.le_of_ble_eq_true rfl⟩ ⟨Nat.le_refl _, Nat.le_refl _⟩ dX9_tellLiars_27 (aw_kv fun I_15 J_16 h => ?_)
    exact aw_vret rfl dX9_tellLiars_30 ⟨rfl, rfl, h⟩
theorem M_X9_tellLiars {l : Launch} {D : va_G} {cy : Nat → ClassId} {sz : Nat} {G : sw_G} (hG : sw_lay G)   {Q : sw_I → sw_J → Prop} {x1 : Int32} {x2 : Int32} {x3 : Int32} {I : sw_I} {J : sw_J} (h : wp_X9_tellLiars x1 x2 x3 I J Q) : Met l yX9_tellLiars (Cond.code yX9_tellLiars cX9_tellLiars 4 none :: sw_T) rm_X9_tellLiars (sw_Pc D cy sz [.ref (sz + 0), .int x1, .int x2, .int x3] G I J) (sw_Q D cy sz (sw_qv G Q)) 0 0 (fun q => sz ≤ q) :=
  sw_met (by decide) (fun q => by cases q) (Nat.le_of_ble_eq_true rfl) rfl (t_X9_tellLiars hG  h)
-- X10_house
abbrev rm_X10_house : Room := { frames := 4, cells := 0, slots := 0, locals := 87 }
def wb_X10_house_89  (K89 : Int32 → Int32 → sw_I → sw_J → Prop) (Q : Int32 → sw_I → sw_J → Prop) (x1 : Int32) (x5 : Int32) (I : sw_I) (J : sw_J) : Prop :=
  sw_if (x5 < ((I 140 4) + (I 140 19))) (vp_in x5 10 ∧ vp_in x5 10 ∧ vp_in x5 10 ∧ wp_X10_comes x5 (I 147 x5.toNatClampNeg) (I 148 x5.toNatClampNeg) (I 149 x5.toNatClampNeg) I J (fun I_17 J_18 => ∀ y_19 : Int32, y_19 = x5 + 1 → K89 x1 y_19 I_17 J_18)) (∀ I_4 : sw_I, I_4 = sw_up I 144 (30 : Int32).toNatClampNeg ((I 144 (30 : Int32).toNatClampNeg) ||| (I 140 20)) → ∀ I_6 : sw_I, I_6 = sw_up I_4 140 4 ((I_4 140 4) + (I_4 140 19)) → sw_if (0 < x1) (∀ I_9 : sw_I, I_9 = sw_up I_6 140 32 (0 : Int32) → ∀ I_11 : sw_I, I_11 = sw_up I_9 140 6 ((I_9 140 6) + (1 : Int32)) → Q (I_11 140 19) I_11 J) (Q (I_6 140 19) I_6 J))
def wl_X10_house_89   (Q : Int32 → sw_I → sw_J → Prop) : Nat → Int32 → Int32 → sw_I → sw_J → Prop
  | 0 => fun _ _ _ _ => False
  | n + 1 => fun x1 x5 I J => wb_X10_house_89  (wl_X10_house_89   Q n) Q x1 x5 I J
def wB_X10_house_61  (K34 : Int32 → Int32 → Int32 → sw_I → sw_J → Prop) (Q : Int32 → sw_I → sw_J → Prop) (x1 : Int32) (x2 : Int32) (s0 : Int32) (I : sw_I) (J : sw_J) : Prop :=
  K34 x1 x2 s0 I J
def wB_X10_house_60  (K34 : Int32 → Int32 → Int32 → sw_I → sw_J → Prop) (Q : Int32 → sw_I → sw_J → Prop) (x1 : Int32) (x2 : Int32) (I : sw_I) (J : sw_J) : Prop :=
  wB_X10_house_61  K34 Q x1 x2 0 I J
def wb_X10_house_34  (K34 : Int32 → Int32 → Int32 → sw_I → sw_J → Prop) (Q : Int32 → sw_I → sw_J → Prop) (x1 : Int32) (x2 : Int32) (x3 : Int32) (I : sw_I) (J : sw_J) : Prop :=
  sw_if (x3 = 0) (wp_X10_faultOf x1 76 x2 I J (fun r_2 I_3 J_4 => sw_if (r_2 < 0) (Q r_2 I_3 J_4) (∀ y_6 : Int32, y_6 = (I_3 140 4) → ∃ n_8 : Nat, wl_X10_house_89   Q n_8 x1 y_6 I_3 J_4))) (wp_X10_readsRider  I J (fun r_9 I_10 J_11 => sw_if (r_9 = 0) (wB_X10_house_60  K34 Q x1 r_9 I_10 J_11) (wp_X10_takes 59 I_10 J_11 (fun r_13 I_14 J_15 => sw_if (r_13 = 0) (wB_X10_house_60  K34 Q x1 r_9 I_14 J_15) (wB_X10_house_61  K34 Q x1 r_9 1 I_14 J_15)))))
def wl_X10_house_34   (Q : Int32 → sw_I → sw_J → Prop) : Nat → Int32 → Int32 → Int32 → sw_I → sw_J → Prop
  | 0 => fun _ _ _ _ _ => False
  | n + 1 => fun x1 x2 x3 I J => wb_X10_house_34  (wl_X10_house_34   Q n) Q x1 x2 x3 I J
def wB_X10_house_33   (Q : Int32 → sw_I → sw_J → Prop) (x1 : Int32) (x2 : Int32) (s0 : Int32) (I : sw_I) (J : sw_J) : Prop :=
  ∃ n_1 : Nat, wl_X10_house_34   Q n_1 x1 x2 s0 I J
def wp_X10_house  (I : sw_I) (J : sw_J) (Q : Int32 → sw_I → sw_J → Prop) : Prop :=
  ∀ I_1 : sw_I, I_1 = sw_up I 140 0 (0 : Int32) → wp_X10_begins 76 I_1 J (fun r_3 I_4 J_5 => ∀ I_6 : sw_I, I_6 = sw_up I_4 140 19 (0 : Int32) → ∀ I_8 : sw_I, I_8 = sw_up I_6 140 20 (0 : Int32) → sw_if (0 < r_3) (wB_X10_house_33   Q r_3 1 1 I_8 J_5) (wB_X10_house_33   Q r_3 1 0 I_8 J_5))
set_option maxRecDepth 20000 in
theorem tb_X10_house_89 {l : Launch} {D : va_G} {cy : Nat → ClassId} {sz : Nat} {G : sw_G} (hG : sw_lay G)   {Q : Int32 → sw_I → sw_J → Prop} {K89 : Int32 → Int32 → sw_I → sw_J → Prop} (hK89 : ∀ (x1 : Int32) (x5 : Int32) (I : sw_I) (J : sw_J), K89 x1 x5 I J → AW l D cy sz RX10 cX10_house 6 (some .int) false rm_X10_house 0 0 (sw_qi G Q) 0 0 G I J 89 [(0, .ref (sz + 140)), (1, .int x1), (5, .int x5)] []) {x1 : Int32} {x5 : Int32} {I : sw_I} {J : sw_J} (h : wb_X10_house_89  K89 Q x1 x5 I J) : AW l D cy sz RX10 cX10_house 6 (some .int) false rm_X10_house 0 0 (sw_qi G Q) 0 0 G I J 89 [(0, .ref (sz + 140)), (1, .int x1), (5, .int x5)] [] := by
  unfold wb_X10_house_89 at h
  refine aw_iload 2 dX10_house_89 rfl ?_
  refine aw_aload_n 0 dX10_house_91 rfl rfl ?_
  refine gf_X10_4 fl_X10_29 (lk140 hG) dX10_house_92 ?_
  refine aw_aload_n 0 dX10_house_95 rfl rfl ?_
  refine gf_X10_19 fl_X10_99 (lk140 hG) dX10_house_96 ?_
  refine aw_iadd dX10_house_99 ?_
  refine aw_jge 136 dX10_house_100 (by decide) (fun c_1 => ?_) (fun c_1 => ?_)
  · have h := sw_if.f h c_1
    refine aw_aload_n 0 dX10_house_136 rfl rfl ?_
    refine gf_X10_9 fl_X10_79 (lk140 hG) (lr140_9 hG) dX10_house_137 ?_
    refine aw_bipush (v := 30) dX10_house_140 (by decide) ?_
    refine aw_dup2 dX10_house_142 rfl rfl ?_
    refine aw_ild dX10_house_143 (lk144 hG) (ln144 hG) (by unfold vp_in; decide) ?_
    refine aw_aload_n 0 dX10_house_144 rfl rfl ?_
    refine gf_X10_20 fl_X10_117 (lk140 hG) dX10_house_145 ?_
    refine aw_ior dX10_house_148 ?_
    refine aw_ist dX10_house_149 (lk144 hG) (ln144 hG) (by unfold vp_in; decide) (aw_nameI fun I_4 e_5 => ?_)
    have h := h I_4 e_5
    refine aw_aload_n 0 dX10_house_150 rfl rfl ?_
    refine aw_dup dX10_house_151 rfl ?_
    refine gf_X10_4 fl_X10_29 (lk140 hG) dX10_house_152 ?_
    refine aw_aload_n 0 dX10_house_155 rfl rfl ?_
    refine gf_X10_19 fl_X10_99 (lk140 hG) dX10_house_156 ?_
    refine aw_iadd dX10_house_159 ?_
    refine pf_X10_4 fl_X10_29 (lk140 hG) dX10_house_160 (aw_nameI fun I_6 e_7 => ?_)
    have h := h I_6 e_7
    refine aw_iload_n 1 dX10_house_163 rfl rfl ?_
    refine aw_zle 182 dX10_house_164 (by decide) (fun c_8 => ?_) (fun c_8 => ?_)
    · have h := sw_if.f h c_8
      refine aw_aload_n 0 dX10_house_182 rfl rfl ?_
      refine gf_X10_19 fl_X10_99 (lk140 hG) dX10_house_183 ?_
      exact aw_iret rfl dX10_house_186 ⟨rfl, _, rfl, h⟩
    · have h := sw_if.t h c_8
      refine aw_aload_n 0 dX10_house_167 rfl rfl ?_
      refine aw_iconst (v := 0) dX10_house_168 (by decide) ?_
      refine pf_X10_32 fl_X10_82 (lk140 hG) dX10_house_169 (aw_nameI fun I_9 e_10 => ?_)
      have h := h I_9 e_10
      refine aw_aload_n 0 dX10_house_172 rfl rfl ?_
      refine aw_dup dX10_house_173 rfl ?_
      refine gf_X10_6 fl_X10_88 (lk140 hG) dX10_house_174 ?_
      refine aw_iconst (v := 1) dX10_house_177 (by decide) ?_
      refine aw_iadd dX10_house_178 ?_
      refine pf_X10_6 fl_X10_88 (lk140 hG) dX10_house_179 (aw_nameI fun I_11 e_12 => ?_)
      have h := h I_11 e_12
      refine aw_aload_n 0 dX10_house_182 rfl rfl ?_
      refine gf_X10_19 fl_X10_99 (lk140 hG) dX10_house_183 ?_
      exact aw_iret rfl dX10_house_186 ⟨rfl, _, rfl, h⟩
  · have h := sw_if.t h c_1
    refine aw_aload_n 0 dX10_house_103 rfl rfl ?_
    refine aw_iload 2 dX10_house_104 rfl ?_
    refine aw_aload_n 0 dX10_house_106 rfl rfl ?_
    refine gf_X10_16 fl_X10_102 (lk140 hG) (lr140_16 hG) dX10_house_107 ?_
    refine aw_iload 2 dX10_house_110 rfl ?_
    obtain ⟨hi_13, h⟩ := h
    refine aw_ild dX10_house_112 (lk147 hG) (ln147 hG) hi_13 ?_
    refine aw_aload_n 0 dX10_house_113 rfl rfl ?_
    refine gf_X10_17 fl_X10_111 (lk140 hG) (lr140_17 hG) dX10_house_114 ?_
    refine aw_iload 2 dX10_house_117 rfl ?_
    obtain ⟨hi_14, h⟩ := h
    refine aw_ild dX10_house_119 (lk148 hG) (ln148 hG) hi_14 ?_
    refine aw_aload_n 0 dX10_house_120 rfl rfl ?_
    refine gf_X10_18 fl_X10_114 (lk140 hG) (lr140_18 hG) dX10_house_121 ?_
    refine aw_iload 2 dX10_house_124 rfl ?_
    obtain ⟨hi_15, h⟩ := h
    refine aw_ild dX10_house_126 (lk149 hG) (ln149 hG) hi_15 ?_
    refine aw_callV wv_X10_comes (M_X10_comes hG  h) ml_X10_131 rfl (by decide) (lk140 hG) rfl rfl (Nat.le_of_ble_eq_true rfl) ⟨rfl, rfl⟩ ⟨Nat.le_of_ble_eq_true rfl, Nat.le_of_ble_eq_true rfl⟩ ⟨Nat.le_refl _, Nat.le_refl _⟩ dX10_house_127 (aw_kv fun I_17 J_18 h => ?_)
    obtain ⟨y_19, e_20⟩ : ∃ q : Int32, q = x5 + 1 := ⟨_, rfl⟩
    have h := h y_19 e_20
    refine aw_iinc (lv' := [(5, .int y_19), (0, .ref (sz + 140)), (1, .int x1)]) 2 dX10_house_130 rfl (by rw [e_20]; rfl) (by decide) rfl ?_
    refine aw_goto 89 dX10_house_133 (by decide) ?_
    refine aw_sub [1, 2, 0] rfl ?_
    exact hK89 x1 y_19 I_17 J_18 h
set_option maxRecDepth 20000 in
theorem tl_X10_house_89 {l : Launch} {D : va_G} {cy : Nat → ClassId} {sz : Nat} {G : sw_G} (hG : sw_lay G)   {Q : Int32 → sw_I → sw_J → Prop} : ∀ (n : Nat) (x1 : Int32) (x5 : Int32) (I : sw_I) (J : sw_J), wl_X10_house_89   Q n x1 x5 I J → AW l D cy sz RX10 cX10_house 6 (some .int) false rm_X10_house 0 0 (sw_qi G Q) 0 0 G I J 89 [(0, .ref (sz + 140)), (1, .int x1), (5, .int x5)] [] := by
  intro n
  induction n with
  | zero => intro x1 x5 I J h; exact False.elim h
  | succ n ih => intro x1 x5 I J h; exact tb_X10_house_89 hG  ih h
set_option maxRecDepth 20000 in
theorem t_X10_house_61 {l : Launch} {D : va_G} {cy : Nat → ClassId} {sz : Nat} {G : sw_G} (hG : sw_lay G)   {Q : Int32 → sw_I → sw_J → Prop} {K34 : Int32 → Int32 → Int32 → sw_I → sw_J → Prop} (hK34 : ∀ (x1 : Int32) (x2 : Int32) (x3 : Int32) (I : sw_I) (J : sw_J), K34 x1 x2 x3 I J → AW l D cy sz RX10 cX10_house 6 (some .int) false rm_X10_house 0 0 (sw_qi G Q) 0 0 G I J 34 [(0, .ref (sz + 140)), (1, .int x1), (2, .int x2), (3, .int x3)] []) {x1 : Int32} {x2 : Int32} {s0 : Int32} {I : sw_I} {J : sw_J} (h : wB_X10_house_61  K34 Q x1 x2 s0 I J) : AW l D cy sz RX10 cX10_house 6 (some .int) false rm_X10_house 0 0 (sw_qi G Q) 0 0 G I J 61 [(0, .ref (sz + 140)), (1, .int x1), (2, .int x2)] [.int s0] := by
  unfold wB_X10_house_61 at h
  refine aw_istore_n (lv' := [(3, .int s0), (0, .ref (sz + 140)), (1, .int x1), (2, .int x2)]) dX10_house_61 rfl (by decide) rfl ?_
  refine aw_goto 34 dX10_house_62 (by decide) ?_
  refine aw_sub [1, 2, 3, 0] rfl ?_
  exact hK34 x1 x2 s0 I J h
set_option maxRecDepth 20000 in
theorem t_X10_house_60 {l : Launch} {D : va_G} {cy : Nat → ClassId} {sz : Nat} {G : sw_G} (hG : sw_lay G)   {Q : Int32 → sw_I → sw_J → Prop} {K34 : Int32 → Int32 → Int32 → sw_I → sw_J → Prop} (hK34 : ∀ (x1 : Int32) (x2 : Int32) (x3 : Int32) (I : sw_I) (J : sw_J), K34 x1 x2 x3 I J → AW l D cy sz RX10 cX10_house 6 (some .int) false rm_X10_house 0 0 (sw_qi G Q) 0 0 G I J 34 [(0, .ref (sz + 140)), (1, .int x1), (2, .int x2), (3, .int x3)] []) {x1 : Int32} {x2 : Int32} {I : sw_I} {J : sw_J} (h : wB_X10_house_60  K34 Q x1 x2 I J) : AW l D cy sz RX10 cX10_house 6 (some .int) false rm_X10_house 0 0 (sw_qi G Q) 0 0 G I J 60 [(0, .ref (sz + 140)), (1, .int x1), (2, .int x2)] [] := by
  unfold wB_X10_house_60 at h
  refine aw_iconst (v := 0) dX10_house_60 (by decide) ?_
  refine aw_sub [0, 1, 2] rfl ?_
  exact t_X10_house_61 hG  hK34 h
set_option maxRecDepth 20000 in
theorem tb_X10_house_34 {l : Launch} {D : va_G} {cy : Nat → ClassId} {sz : Nat} {G : sw_G} (hG : sw_lay G)   {Q : Int32 → sw_I → sw_J → Prop} {K34 : Int32 → Int32 → Int32 → sw_I → sw_J → Prop} (hK34 : ∀ (x1 : Int32) (x2 : Int32) (x3 : Int32) (I : sw_I) (J : sw_J), K34 x1 x2 x3 I J → AW l D cy sz RX10 cX10_house 6 (some .int) false rm_X10_house 0 0 (sw_qi G Q) 0 0 G I J 34 [(0, .ref (sz + 140)), (1, .int x1), (2, .int x2), (3, .int x3)] []) {x1 : Int32} {x2 : Int32} {x3 : Int32} {I : sw_I} {J : sw_J} (h : wb_X10_house_34  K34 Q x1 x2 x3 I J) : AW l D cy sz RX10 cX10_house 6 (some .int) false rm_X10_house 0 0 (sw_qi G Q) 0 0 G I J 34 [(0, .ref (sz + 140)), (1, .int x1), (2, .int x2), (3, .int x3)] [] := by
  unfold wb_X10_house_34 at h
  refine aw_iload_n 3 dX10_house_34 rfl rfl ?_
  refine aw_zeq 65 dX10_house_35 (by decide) (fun c_1 => ?_) (fun c_1 => ?_)
  · have h := sw_if.t h c_1
    refine aw_aload_n 0 dX10_house_65 rfl rfl ?_
    refine aw_iload_n 1 dX10_house_66 rfl rfl ?_
    refine aw_bipush (v := 76) dX10_house_67 (by decide) ?_
    refine aw_iload_n 2 dX10_house_69 rfl rfl ?_
    refine aw_callV wv_X10_faultOf (M_X10_faultOf hG  h) ml_X10_127 rfl (by decide) (lk140 hG) rfl rfl (Nat.le_of_ble_eq_true rfl) ⟨rfl, rfl⟩ ⟨Nat.le_of_ble_eq_true rfl, Nat.le_of_ble_eq_true rfl⟩ ⟨Nat.le_refl _, Nat.le_refl _⟩ dX10_house_70 (aw_ki fun r_2 I_3 J_4 h => ?_)
    refine aw_istore (lv' := [(4, .int r_2), (0, .ref (sz + 140)), (1, .int x1), (2, .int x2), (3, .int x3)]) dX10_house_73 (by decide) rfl ?_
    refine aw_iload 0 dX10_house_75 rfl ?_
    refine aw_zge 83 dX10_house_77 (by decide) (fun c_5 => ?_) (fun c_5 => ?_)
    · have h := sw_if.f h c_5
      refine aw_aload_n 1 dX10_house_83 rfl rfl ?_
      refine gf_X10_4 fl_X10_29 (lk140 hG) dX10_house_84 ?_
      refine aw_topi (fun y_6 e_7 => ?_)
      have h := h y_6 e_7
      refine aw_istore (lv' := [(5, .int y_6), (4, .int r_2), (0, .ref (sz + 140)), (1, .int x1), (2, .int x2), (3, .int x3)]) dX10_house_87 (by decide) rfl ?_
      refine aw_sub [2, 3, 0] rfl ?_
      obtain ⟨n_8, h⟩ := h
      exact tl_X10_house_89 hG   n_8 x1 y_6 I_3 J_4 h
    · have h := sw_if.t h c_5
      refine aw_iload 0 dX10_house_80 rfl ?_
      exact aw_iret rfl dX10_house_82 ⟨rfl, _, rfl, h⟩
  · have h := sw_if.f h c_1
    refine aw_aload_n 0 dX10_house_38 rfl rfl ?_
    refine aw_callV wv_X10_readsRider (M_X10_readsRider hG  h) ml_X10_124 rfl (by decide) (lk140 hG) rfl rfl (Nat.le_of_ble_eq_true rfl) ⟨rfl, rfl⟩ ⟨Nat.le_of_ble_eq_true rfl, Nat.le_of_ble_eq_true rfl⟩ ⟨Nat.le_refl _, Nat.le_refl _⟩ dX10_house_39 (aw_ki fun r_9 I_10 J_11 h => ?_)
    refine aw_istore_n (lv' := [(2, .int r_9), (0, .ref (sz + 140)), (1, .int x1), (3, .int x3)]) dX10_house_42 rfl (by decide) rfl ?_
    refine aw_iload_n 0 dX10_house_43 rfl rfl ?_
    refine aw_zeq 60 dX10_house_44 (by decide) (fun c_12 => ?_) (fun c_12 => ?_)
    · have h := sw_if.t h c_12
      refine aw_sub [1, 2, 0] rfl ?_
      exact t_X10_house_60 hG  hK34 h
    · have h := sw_if.f h c_12
      refine aw_aload_n 1 dX10_house_47 rfl rfl ?_
      refine aw_bipush (v := 59) dX10_house_48 (by decide) ?_
      refine aw_callV wv_X10_takes (M_X10_takes hG  h) ml_X10_108 rfl (by decide) (lk140 hG) rfl rfl (Nat.le_of_ble_eq_true rfl) ⟨rfl, rfl⟩ ⟨Nat.le_of_ble_eq_true rfl, Nat.le_of_ble_eq_true rfl⟩ ⟨Nat.le_refl _, Nat.le_refl _⟩ dX10_house_50 (aw_ki fun r_13 I_14 J_15 h => ?_)
      refine aw_zeq 60 dX10_house_53 (by decide) (fun c_16 => ?_) (fun c_16 => ?_)
      · have h := sw_if.t h c_16
        refine aw_sub [1, 2, 0] rfl ?_
        exact t_X10_house_60 hG  hK34 h
      · have h := sw_if.f h c_16
        refine aw_iconst (v := 1) dX10_house_56 (by decide) ?_
        refine aw_goto 61 dX10_house_57 (by decide) ?_
        refine aw_sub [1, 2, 0] rfl ?_
        exact t_X10_house_61 hG  hK34 h
set_option maxRecDepth 20000 in
theorem tl_X10_house_34 {l : Launch} {D : va_G} {cy : Nat → ClassId} {sz : Nat} {G : sw_G} (hG : sw_lay G)   {Q : Int32 → sw_I → sw_J → Prop} : ∀ (n : Nat) (x1 : Int32) (x2 : Int32) (x3 : Int32) (I : sw_I) (J : sw_J), wl_X10_house_34   Q n x1 x2 x3 I J → AW l D cy sz RX10 cX10_house 6 (some .int) false rm_X10_house 0 0 (sw_qi G Q) 0 0 G I J 34 [(0, .ref (sz + 140)), (1, .int x1), (2, .int x2), (3, .int x3)] [] := by
  intro n
  induction n with
  | zero => intro x1 x2 x3 I J h; exact False.elim h
  | succ n ih => intro x1 x2 x3 I J h; exact tb_X10_house_34 hG  ih h
set_option maxRecDepth 20000 in
theorem t_X10_house_33 {l : Launch} {D : va_G} {cy : Nat → ClassId} {sz : Nat} {G : sw_G} (hG : sw_lay G)   {Q : Int32 → sw_I → sw_J → Prop} {x1 : Int32} {x2 : Int32} {s0 : Int32} {I : sw_I} {J : sw_J} (h : wB_X10_house_33   Q x1 x2 s0 I J) : AW l D cy sz RX10 cX10_house 6 (some .int) false rm_X10_house 0 0 (sw_qi G Q) 0 0 G I J 33 [(0, .ref (sz + 140)), (1, .int x1), (2, .int x2)] [.int s0] := by
  unfold wB_X10_house_33 at h
  refine aw_istore_n (lv' := [(3, .int s0), (0, .ref (sz + 140)), (1, .int x1), (2, .int x2)]) dX10_house_33 rfl (by decide) rfl ?_
  refine aw_sub [1, 2, 3, 0] rfl ?_
  obtain ⟨n_1, h⟩ := h
  exact tl_X10_house_34 hG   n_1 x1 x2 s0 I J h
set_option maxRecDepth 20000 in
theorem t_X10_house {l : Launch} {D : va_G} {cy : Nat → ClassId} {sz : Nat} {G : sw_G} (hG : sw_lay G)   {Q : Int32 → sw_I → sw_J → Prop}  {I : sw_I} {J : sw_J} (h : wp_X10_house  I J Q) : AW l D cy sz RX10 cX10_house 6 (some .int) false rm_X10_house 0 0 (sw_qi G Q) 0 0 G I J 0 [(0, .ref (sz + 140))] [] := by
  unfold wp_X10_house at h
  refine aw_aload_n 0 dX10_house_0 rfl rfl ?_
  refine aw_iconst (v := 0) dX10_house_1 (by decide) ?_
  refine pf_X10_0 fl_X10_3 (lk140 hG) dX10_house_2 (aw_nameI fun I_1 e_2 => ?_)
  have h := h I_1 e_2
  refine aw_aload_n 0 dX10_house_5 rfl rfl ?_
  refine aw_bipush (v := 76) dX10_house_6 (by decide) ?_
  refine aw_callV wv_X10_begins (M_X10_begins hG  h) ml_X10_120 rfl (by decide) (lk140 hG) rfl rfl (Nat.le_of_ble_eq_true rfl) ⟨rfl, rfl⟩ ⟨Nat.le_of_ble_eq_true rfl, Nat.le_of_ble_eq_true rfl⟩ ⟨Nat.le_refl _, Nat.le_refl _⟩ dX10_house_8 (aw_ki fun r_3 I_4 J_5 h => ?_)
  refine aw_istore_n (lv' := [(1, .int r_3), (0, .ref (sz + 140))]) dX10_house_11 rfl (by decide) rfl ?_
  refine aw_aload_n 1 dX10_house_12 rfl rfl ?_
  refine aw_iconst (v := 0) dX10_house_13 (by decide) ?_
  refine pf_X10_19 fl_X10_99 (lk140 hG) dX10_house_14 (aw_nameI fun I_6 e_7 => ?_)
  have h := h I_6 e_7
  refine aw_aload_n 1 dX10_house_17 rfl rfl ?_
  refine aw_iconst (v := 0) dX10_house_18 (by decide) ?_
  refine pf_X10_20 fl_X10_117 (lk140 hG) dX10_house_19 (aw_nameI fun I_8 e_9 => ?_)
  have h := h I_8 e_9
  refine aw_iconst (v := 1) dX10_house_22 (by decide) ?_
  refine aw_istore_n (lv' := [(2, .int 1), (1, .int r_3), (0, .ref (sz + 140))]) dX10_house_23 rfl (by decide) rfl ?_
  refine aw_iload_n 1 dX10_house_24 rfl rfl ?_
  refine aw_zle 32 dX10_house_25 (by decide) (fun c_10 => ?_) (fun c_10 => ?_)
  · have h := sw_if.f h c_10
    refine aw_iconst (v := 0) dX10_house_32 (by decide) ?_
    refine aw_sub [2, 1, 0] rfl ?_
    exact t_X10_house_33 hG   h
  · have h := sw_if.t h c_10
    refine aw_iconst (v := 1) dX10_house_28 (by decide) ?_
    refine aw_goto 33 dX10_house_29 (by decide) ?_
    refine aw_sub [2, 1, 0] rfl ?_
    exact t_X10_house_33 hG   h
theorem M_X10_house {l : Launch} {D : va_G} {cy : Nat → ClassId} {sz : Nat} {G : sw_G} (hG : sw_lay G)   {Q : Int32 → sw_I → sw_J → Prop}  {I : sw_I} {J : sw_J} (h : wp_X10_house  I J Q) : Met l yX10_house (Cond.code yX10_house cX10_house 6 (some .int) :: sw_T) rm_X10_house (sw_Pc D cy sz [.ref (sz + 140)] G I J) (sw_Q D cy sz (sw_qi G Q)) 0 0 (fun q => sz ≤ q) :=
  sw_met (by decide) (fun q => by cases q) (Nat.le_of_ble_eq_true rfl) rfl (t_X10_house hG  h)
-- X10_law
abbrev rm_X10_law : Room := { frames := 96, cells := 0, slots := 0, locals := 2200 }
def wb_X10_law_61  (K61 : Int32 → sw_I → sw_J → Prop) (Q : Int32 → sw_I → sw_J → Prop) (x4 : Int32) (I : sw_I) (J : sw_J) : Prop :=
  sw_if (x4 < (I 140 24)) (vp_in x4 80 ∧ vp_in x4 80 ∧ ∀ I_4 : sw_I, I_4 = sw_up I 150 x4.toNatClampNeg (I 151 x4.toNatClampNeg) → ∀ y_6 : Int32, y_6 = x4 + 1 → K61 y_6 I_4 J) (Q (0 : Int32) I J)
def wl_X10_law_61   (Q : Int32 → sw_I → sw_J → Prop) : Nat → Int32 → sw_I → sw_J → Prop
  | 0 => fun _ _ _ => False
  | n + 1 => fun x4 I J => wb_X10_law_61  (wl_X10_law_61   Q n) Q x4 I J
def wB_X10_law_34   (Q : Int32 → sw_I → sw_J → Prop) (x1 : Int32) (s0 : Int32) (I : sw_I) (J : sw_J) : Prop :=
  wp_X10_faultOf x1 40 s0 I J (fun r_1 I_2 J_3 => sw_if (r_1 < 0) (Q r_1 I_2 J_3) (∀ I_5 : sw_I, I_5 = sw_up I_2 140 23 (I_2 140 24) → ∃ n_7 : Nat, wl_X10_law_61   Q n_7 0 I_5 J_3))
def wB_X10_law_29   (Q : Int32 → sw_I → sw_J → Prop) (x1 : Int32) (I : sw_I) (J : sw_J) : Prop :=
  wB_X10_law_34   Q x1 1 I J
def wp_X10_law  (I : sw_I) (J : sw_J) (Q : Int32 → sw_I → sw_J → Prop) : Prop :=
  ∀ I_1 : sw_I, I_1 = sw_up I 140 0 (0 : Int32) → wp_X10_begins 40 I_1 J (fun r_3 I_4 J_5 => ∀ I_6 : sw_I, I_6 = sw_up I_4 140 24 (0 : Int32) → sw_if (r_3 = 0) (wB_X10_law_29   Q r_3 I_6 J_5) (wp_X10_readsRank 90 0 I_6 J_5 (fun r_9 I_10 J_11 => sw_if (r_9 = 0) (wB_X10_law_34   Q r_3 0 I_10 J_11) (wB_X10_law_29   Q r_3 I_10 J_11))))
set_option maxRecDepth 20000 in
theorem tb_X10_law_61 {l : Launch} {D : va_G} {cy : Nat → ClassId} {sz : Nat} {G : sw_G} (hG : sw_lay G)   {Q : Int32 → sw_I → sw_J → Prop} {K61 : Int32 → sw_I → sw_J → Prop} (hK61 : ∀ (x4 : Int32) (I : sw_I) (J : sw_J), K61 x4 I J → AW l D cy sz RX10 cX10_law 5 (some .int) false rm_X10_law 0 0 (sw_qi G Q) 0 0 G I J 61 [(0, .ref (sz + 140)), (4, .int x4)] []) {x4 : Int32} {I : sw_I} {J : sw_J} (h : wb_X10_law_61  K61 Q x4 I J) : AW l D cy sz RX10 cX10_law 5 (some .int) false rm_X10_law 0 0 (sw_qi G Q) 0 0 G I J 61 [(0, .ref (sz + 140)), (4, .int x4)] [] := by
  unfold wb_X10_law_61 at h
  refine aw_iload 1 dX10_law_61 rfl ?_
  refine aw_aload_n 0 dX10_law_63 rfl rfl ?_
  refine gf_X10_24 fl_X10_144 (lk140 hG) dX10_law_64 ?_
  refine aw_jge 90 dX10_law_67 (by decide) (fun c_1 => ?_) (fun c_1 => ?_)
  · have h := sw_if.f h c_1
    refine aw_iconst (v := 0) dX10_law_90 (by decide) ?_
    exact aw_iret rfl dX10_law_91 ⟨rfl, _, rfl, h⟩
  · have h := sw_if.t h c_1
    refine aw_aload_n 0 dX10_law_70 rfl rfl ?_
    refine gf_X10_21 fl_X10_172 (lk140 hG) (lr140_21 hG) dX10_law_71 ?_
    refine aw_iload 1 dX10_law_74 rfl ?_
    refine aw_aload_n 0 dX10_law_76 rfl rfl ?_
    refine gf_X10_22 fl_X10_141 (lk140 hG) (lr140_22 hG) dX10_law_77 ?_
    refine aw_iload 1 dX10_law_80 rfl ?_
    obtain ⟨hi_2, h⟩ := h
    refine aw_ild dX10_law_82 (lk151 hG) (ln151 hG) hi_2 ?_
    obtain ⟨hi_3, h⟩ := h
    refine aw_ist dX10_law_83 (lk150 hG) (ln150 hG) hi_3 (aw_nameI fun I_4 e_5 => ?_)
    have h := h I_4 e_5
    obtain ⟨y_6, e_7⟩ : ∃ q : Int32, q = x4 + 1 := ⟨_, rfl⟩
    have h := h y_6 e_7
    refine aw_iinc (lv' := [(4, .int y_6), (0, .ref (sz + 140))]) 1 dX10_law_84 rfl (by rw [e_7]; rfl) (by decide) rfl ?_
    refine aw_goto 61 dX10_law_87 (by decide) ?_
    refine aw_sub [1, 0] rfl ?_
    exact hK61 y_6 I_4 J h
set_option maxRecDepth 20000 in
theorem tl_X10_law_61 {l : Launch} {D : va_G} {cy : Nat → ClassId} {sz : Nat} {G : sw_G} (hG : sw_lay G)   {Q : Int32 → sw_I → sw_J → Prop} : ∀ (n : Nat) (x4 : Int32) (I : sw_I) (J : sw_J), wl_X10_law_61   Q n x4 I J → AW l D cy sz RX10 cX10_law 5 (some .int) false rm_X10_law 0 0 (sw_qi G Q) 0 0 G I J 61 [(0, .ref (sz + 140)), (4, .int x4)] [] := by
  intro n
  induction n with
  | zero => intro x4 I J h; exact False.elim h
  | succ n ih => intro x4 I J h; exact tb_X10_law_61 hG  ih h
set_option maxRecDepth 20000 in
theorem t_X10_law_34 {l : Launch} {D : va_G} {cy : Nat → ClassId} {sz : Nat} {G : sw_G} (hG : sw_lay G)   {Q : Int32 → sw_I → sw_J → Prop} {x1 : Int32} {s0 : Int32} {I : sw_I} {J : sw_J} (h : wB_X10_law_34   Q x1 s0 I J) : AW l D cy sz RX10 cX10_law 5 (some .int) false rm_X10_law 0 0 (sw_qi G Q) 0 0 G I J 34 [(0, .ref (sz + 140)), (1, .int x1)] [.int s0] := by
  unfold wB_X10_law_34 at h
  refine aw_istore_n (lv' := [(2, .int s0), (0, .ref (sz + 140)), (1, .int x1)]) dX10_law_34 rfl (by decide) rfl ?_
  refine aw_aload_n 1 dX10_law_35 rfl rfl ?_
  refine aw_iload_n 2 dX10_law_36 rfl rfl ?_
  refine aw_bipush (v := 40) dX10_law_37 (by decide) ?_
  refine aw_iload_n 0 dX10_law_39 rfl rfl ?_
  refine aw_callV wv_X10_faultOf (M_X10_faultOf hG  h) ml_X10_127 rfl (by decide) (lk140 hG) rfl rfl (Nat.le_of_ble_eq_true rfl) ⟨rfl, rfl⟩ ⟨Nat.le_of_ble_eq_true rfl, Nat.le_of_ble_eq_true rfl⟩ ⟨Nat.le_refl _, Nat.le_refl _⟩ dX10_law_40 (aw_ki fun r_1 I_2 J_3 h => ?_)
  refine aw_istore_n (lv' := [(3, .int r_1), (2, .int s0), (0, .ref (sz + 140)), (1, .int x1)]) dX10_law_43 rfl (by decide) rfl ?_
  refine aw_iload_n 0 dX10_law_44 rfl rfl ?_
  refine aw_zge 50 dX10_law_45 (by decide) (fun c_4 => ?_) (fun c_4 => ?_)
  · have h := sw_if.f h c_4
    refine aw_aload_n 2 dX10_law_50 rfl rfl ?_
    refine aw_aload_n 2 dX10_law_51 rfl rfl ?_
    refine gf_X10_24 fl_X10_144 (lk140 hG) dX10_law_52 ?_
    refine pf_X10_23 fl_X10_169 (lk140 hG) dX10_law_55 (aw_nameI fun I_5 e_6 => ?_)
    have h := h I_5 e_6
    refine aw_iconst (v := 0) dX10_law_58 (by decide) ?_
    refine aw_istore (lv' := [(4, .int 0), (3, .int r_1), (2, .int s0), (0, .ref (sz + 140)), (1, .int x1)]) dX10_law_59 (by decide) rfl ?_
    refine aw_sub [3, 0] rfl ?_
    obtain ⟨n_7, h⟩ := h
    exact tl_X10_law_61 hG   n_7 0 I_5 J_3 h
  · have h := sw_if.t h c_4
    refine aw_iload_n 0 dX10_law_48 rfl rfl ?_
    exact aw_iret rfl dX10_law_49 ⟨rfl, _, rfl, h⟩
set_option maxRecDepth 20000 in
theorem t_X10_law_29 {l : Launch} {D : va_G} {cy : Nat → ClassId} {sz : Nat} {G : sw_G} (hG : sw_lay G)   {Q : Int32 → sw_I → sw_J → Prop} {x1 : Int32} {I : sw_I} {J : sw_J} (h : wB_X10_law_29   Q x1 I J) : AW l D cy sz RX10 cX10_law 5 (some .int) false rm_X10_law 0 0 (sw_qi G Q) 0 0 G I J 29 [(0, .ref (sz + 140)), (1, .int x1)] [] := by
  unfold wB_X10_law_29 at h
  refine aw_iconst (v := 1) dX10_law_29 (by decide) ?_
  refine aw_goto 34 dX10_law_30 (by decide) ?_
  refine aw_sub [0, 1] rfl ?_
  exact t_X10_law_34 hG   h
set_option maxRecDepth 20000 in
theorem t_X10_law {l : Launch} {D : va_G} {cy : Nat → ClassId} {sz : Nat} {G : sw_G} (hG : sw_lay G)   {Q : Int32 → sw_I → sw_J → Prop}  {I : sw_I} {J : sw_J} (h : wp_X10_law  I J Q) : AW l D cy sz RX10 cX10_law 5 (some .int) false rm_X10_law 0 0 (sw_qi G Q) 0 0 G I J 0 [(0, .ref (sz + 140))] [] := by
  unfold wp_X10_law at h
  refine aw_aload_n 0 dX10_law_0 rfl rfl ?_
  refine aw_iconst (v := 0) dX10_law_1 (by decide) ?_
  refine pf_X10_0 fl_X10_3 (lk140 hG) dX10_law_2 (aw_nameI fun I_1 e_2 => ?_)
  have h := h I_1 e_2
  refine aw_aload_n 0 dX10_law_5 rfl rfl ?_
  refine aw_bipush (v := 40) dX10_law_6 (by decide) ?_
  refine aw_callV wv_X10_begins (M_X10_begins hG  h) ml_X10_120 rfl (by decide) (lk140 hG) rfl rfl (Nat.le_of_ble_eq_true rfl) ⟨rfl, rfl⟩ ⟨Nat.le_of_ble_eq_true rfl, Nat.le_of_ble_eq_true rfl⟩ ⟨Nat.le_refl _, Nat.le_refl _⟩ dX10_law_8 (aw_ki fun r_3 I_4 J_5 h => ?_)
  refine aw_istore_n (lv' := [(1, .int r_3), (0, .ref (sz + 140))]) dX10_law_11 rfl (by decide) rfl ?_
  refine aw_aload_n 1 dX10_law_12 rfl rfl ?_
  refine aw_iconst (v := 0) dX10_law_13 (by decide) ?_
  refine pf_X10_24 fl_X10_144 (lk140 hG) dX10_law_14 (aw_nameI fun I_6 e_7 => ?_)
  have h := h I_6 e_7
  refine aw_iload_n 0 dX10_law_17 rfl rfl ?_
  refine aw_zeq 29 dX10_law_18 (by decide) (fun c_8 => ?_) (fun c_8 => ?_)
  · have h := sw_if.t h c_8
    refine aw_sub [1, 0] rfl ?_
    exact t_X10_law_29 hG   h
  · have h := sw_if.f h c_8
    refine aw_aload_n 1 dX10_law_21 rfl rfl ?_
    refine aw_iconst (v := 0) dX10_law_22 (by decide) ?_
    refine aw_callV wv_X10_readsRank (M_X10_readsRank hG 90  h) ml_X10_160 rfl (by decide) (lk140 hG) rfl rfl (Nat.le_of_ble_eq_true rfl) ⟨rfl, rfl⟩ ⟨Nat.le_of_ble_eq_true rfl, Nat.le_of_ble_eq_true rfl⟩ ⟨Nat.le_refl _, Nat.le_refl _⟩ dX10_law_23 (aw_ki fun r_9 I_10 J_11 h => ?_)
    refine aw_zeq 33 dX10_law_26 (by decide) (fun c_12 => ?_) (fun c_12 => ?_)
    · have h := sw_if.t h c_12
      refine aw_iconst (v := 0) dX10_law_33 (by decide) ?_
      refine aw_sub [1, 0] rfl ?_
      exact t_X10_law_34 hG   h
    · have h := sw_if.f h c_12
      refine aw_sub [1, 0] rfl ?_
      exact t_X10_law_29 hG   h
theorem M_X10_law {l : Launch} {D : va_G} {cy : Nat → ClassId} {sz : Nat} {G : sw_G} (hG : sw_lay G)   {Q : Int32 → sw_I → sw_J → Prop}  {I : sw_I} {J : sw_J} (h : wp_X10_law  I J Q) : Met l yX10_law (Cond.code yX10_law cX10_law 5 (some .int) :: sw_T) rm_X10_law (sw_Pc D cy sz [.ref (sz + 140)] G I J) (sw_Q D cy sz (sw_qi G Q)) 0 0 (fun q => sz ≤ q) :=
  sw_met (by decide) (fun q => by cases q) (Nat.le_of_ble_eq_true rfl) rfl (t_X10_law hG  h)
