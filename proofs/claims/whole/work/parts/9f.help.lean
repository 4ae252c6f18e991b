theorem ax_w7 : Cond.classLink RL 13 ax_E ∈ sw_T := sw_mem 1014 (by decide +kernel) rfl
set_option maxRecDepth 50000 in
theorem wv_X9_of : sw_V yX9_of cX9_of 3 (some .int) 2 := ⟨sw_mem 1016 (by decide +kernel) rfl, sw_mem 1017 (by decide +kernel) rfl, sw_mem 87 (by decide +kernel) rfl, sw_mem 1018 rfl rfl, ⟨by decide +kernel, by decide +kernel, by decide +kernel⟩⟩
theorem ml_L_7 : Cond.methodLink RL 7 yX9_of ∈ sw_T := sw_mem 1015 (by decide +kernel) rfl
abbrev hh_L_of : List (Nat × Nat × Nat × Nat) := [(0, 10, 13, 13)]
set_option maxRecDepth 50000 in
theorem wv_L_of : Cond.static yL_of ∈ sw_T ∧ Cond.initialized yL_of.cls ∈ sw_T ∧ Cond.codeWith yL_of cL_of 5 (some .int) hh_L_of ∈ sw_T ∧ sw_D yL_of 4 := ⟨sw_mem 1012 (by decide +kernel) rfl, sw_mem 86 (by decide +kernel) rfl, sw_mem 1013 rfl rfl, ⟨by decide +kernel, by decide +kernel, by decide +kernel⟩⟩
theorem ml_L_52 : Cond.methodLink RL 52 yL_of ∈ sw_T := sw_mem 1011 (by decide +kernel) rfl
abbrev rm_L_of : Room := { frames := 7, cells := 1, slots := 6, locals := 111 }
def wp_L_of (x1 x2 : Int32) (o : Nat) (I : sw_I) (J : sw_J) (Q : Int32 → sw_I → sw_J → Prop) : Prop :=
  wp_X9_of x1 x2 I J (fun r I1 J1 => Q 0 I1 (sw_up J1 o 0 r.toInt64)) (fun I1 J1 => Q 1 I1 J1)
set_option maxRecDepth 20000 in
theorem t_L_of {l : Launch} {D : va_G} {cy : Nat → ClassId} {sz : Nat} {G : sw_G} (hl : l.stackTraces = false) (hG : sw_lay G) {o : Nat} (ho : sw_la G o 1) {Q : Int32 → sw_I → sw_J → Prop} {x1 : Int32} {x2 : Int32} {I : sw_I} {J : sw_J} (h : wp_L_of x1 x2 o I J Q) : AH hh_L_of l D cy sz RL cL_of 5 (some .int) false rm_L_of 1 6 (sw_qi G Q) 0 0 G I J 0 [(0, .ref (sz + 0)), (1, .int x1), (2, .int x2), (3, .ref (sz + o))] [] := by
  unfold wp_L_of at h
  refine ah_aload_n 3 dL_of_0 rfl rfl ?_
  refine ah_iconst (v := 0) dL_of_1 (by decide) ?_
  refine ah_aload_n 0 dL_of_2 rfl rfl ?_
  refine ah_iload_n 1 dL_of_3 rfl rfl ?_
  refine ah_iload_n 2 dL_of_4 rfl rfl ?_
  refine ah_callX ⟨0, 10, 13, 13⟩ wv_X9_of (M_X9_of hl hG h) ml_L_7 rfl (by decide) (lk0 hG) rfl rfl (Nat.le_of_ble_eq_true rfl) ⟨rfl, rfl⟩ ⟨Nat.le_of_ble_eq_true rfl, Nat.le_of_ble_eq_true rfl⟩ ⟨Nat.le_of_ble_eq_true rfl, Nat.le_of_ble_eq_true rfl⟩ dL_of_5 rfl rfl (by decide) ax_w7 (fun r G1 I1 J1 hq => ?_) (fun q G1 I1 J1 hq => ?_)
  · obtain ⟨hs, rfl, hq⟩ := hq
    rcases hq with ⟨v, rfl, hq⟩ | ⟨rfl, _⟩
    · refine aw_i2l dL_of_8 ?_
      refine aw_lst dL_of_9 ho.1 ho.2 (by unfold vp_in; decide) (aw_nameJ fun J9 e9 => ?_)
      rw [show (0 : Int32).toNatClampNeg = 0 from by decide] at e9
      rw [← e9] at hq
      refine aw_goto 17 dL_of_10 (by decide) ?_
      refine aw_iconst (v := 0) dL_of_17 (by decide) ?_
      exact aw_iret rfl dL_of_18 ⟨rfl, _, rfl, hq⟩
    · cases hs
  · obtain ⟨rfl, hq⟩ := hq
    rcases hq with ⟨v, hv, _⟩ | ⟨_, hq⟩
    · cases hv
    · refine aw_astore (lv' := (4, .ref q) :: [(0, .ref (sz + 0)), (1, .int x1), (2, .int x2), (3, .ref (sz + o))]) dL_of_13 (by decide) rfl ?_
      refine aw_iconst (v := 1) dL_of_15 (by decide) ?_
      exact aw_iret rfl dL_of_16 ⟨rfl, _, rfl, hq⟩
theorem M_L_of {l : Launch} {D : va_G} {cy : Nat → ClassId} {sz : Nat} {G : sw_G} (hl : l.stackTraces = false) (hG : sw_lay G) {o : Nat} (ho : sw_la G o 1) {Q : Int32 → sw_I → sw_J → Prop} {x1 : Int32} {x2 : Int32} {I : sw_I} {J : sw_J} (h : wp_L_of x1 x2 o I J Q) : Met l yL_of (Cond.codeWith yL_of cL_of 5 (some .int) hh_L_of :: sw_T) rm_L_of (sw_Pc D cy sz [.ref (sz + 0), .int x1, .int x2, .ref (sz + o)] G I J) (sw_Q D cy sz (sw_qi G Q)) 1 6 (fun q => sz ≤ q) :=
  ah_met (by decide) (fun q => by cases q) (Nat.le_of_ble_eq_true rfl) rfl (t_L_of hl hG ho h)
set_option maxRecDepth 50000 in
theorem wv_X9_worthOf : sw_V yX9_worthOf cX9_worthOf 2 (some .int) 1 := ⟨sw_mem 1084 (by decide +kernel) rfl, sw_mem 1085 (by decide +kernel) rfl, sw_mem 87 (by decide +kernel) rfl, sw_mem 1086 rfl rfl, ⟨by decide +kernel, by decide +kernel, by decide +kernel⟩⟩
theorem ml_L_15 : Cond.methodLink RL 15 yX9_worthOf ∈ sw_T := sw_mem 1083 (by decide +kernel) rfl
abbrev hh_L_worthOf : List (Nat × Nat × Nat × Nat) := [(0, 9, 12, 13)]
set_option maxRecDepth 50000 in
theorem wv_L_worthOf : Cond.static yL_worthOf ∈ sw_T ∧ Cond.initialized yL_worthOf.cls ∈ sw_T ∧ Cond.codeWith yL_worthOf cL_worthOf 4 (some .int) hh_L_worthOf ∈ sw_T ∧ sw_D yL_worthOf 3 := ⟨sw_mem 1081 (by decide +kernel) rfl, sw_mem 86 (by decide +kernel) rfl, sw_mem 1082 rfl rfl, ⟨by decide +kernel, by decide +kernel, by decide +kernel⟩⟩
theorem ml_L_111 : Cond.methodLink RL 111 yL_worthOf ∈ sw_T := sw_mem 1080 (by decide +kernel) rfl
abbrev rm_L_worthOf : Room := { frames := 7, cells := 1, slots := 6, locals := 110 }
def wp_L_worthOf (x1 : Int32) (o : Nat) (I : sw_I) (J : sw_J) (Q : Int32 → sw_I → sw_J → Prop) : Prop :=
  wp_X9_worthOf x1 I J (fun r I1 J1 => Q 0 I1 (sw_up J1 o 0 r.toInt64)) (fun I1 J1 => Q 1 I1 J1)
set_option maxRecDepth 20000 in
theorem t_L_worthOf {l : Launch} {D : va_G} {cy : Nat → ClassId} {sz : Nat} {G : sw_G} (hl : l.stackTraces = false) (hG : sw_lay G) {o : Nat} (ho : sw_la G o 1) {Q : Int32 → sw_I → sw_J → Prop} {x1 : Int32} {I : sw_I} {J : sw_J} (h : wp_L_worthOf x1 o I J Q) : AH hh_L_worthOf l D cy sz RL cL_worthOf 4 (some .int) false rm_L_worthOf 1 6 (sw_qi G Q) 0 0 G I J 0 [(0, .ref (sz + 0)), (1, .int x1), (2, .ref (sz + o))] [] := by
  unfold wp_L_worthOf at h
  refine ah_aload_n 2 dL_worthOf_0 rfl rfl ?_
  refine ah_iconst (v := 0) dL_worthOf_1 (by decide) ?_
  refine ah_aload_n 0 dL_worthOf_2 rfl rfl ?_
  refine ah_iload_n 1 dL_worthOf_3 rfl rfl ?_
  refine ah_callX ⟨0, 9, 12, 13⟩ wv_X9_worthOf (M_X9_worthOf hl hG h) ml_L_15 rfl (by decide) (lk0 hG) rfl rfl (Nat.le_of_ble_eq_true rfl) ⟨rfl, rfl⟩ ⟨Nat.le_of_ble_eq_true rfl, Nat.le_of_ble_eq_true rfl⟩ ⟨Nat.le_of_ble_eq_true rfl, Nat.le_of_ble_eq_true rfl⟩ dL_worthOf_4 rfl rfl (by decide) ax_w7 (fun r G1 I1 J1 hq => ?_) (fun q G1 I1 J1 hq => ?_)
  · obtain ⟨hs, rfl, hq⟩ := hq
    rcases hq with ⟨v, rfl, hq⟩ | ⟨rfl, _⟩
    · refine aw_i2l dL_worthOf_7 ?_
      refine aw_lst dL_worthOf_8 ho.1 ho.2 (by unfold vp_in; decide) (aw_nameJ fun J9 e9 => ?_)
      rw [show (0 : Int32).toNatClampNeg = 0 from by decide] at e9
      rw [← e9] at hq
      refine aw_goto 15 dL_worthOf_9 (by decide) ?_
      refine aw_iconst (v := 0) dL_worthOf_15 (by decide) ?_
      exact aw_iret rfl dL_worthOf_16 ⟨rfl, _, rfl, hq⟩
    · cases hs
  · obtain ⟨rfl, hq⟩ := hq
    rcases hq with ⟨v, hv, _⟩ | ⟨_, hq⟩
    · cases hv
    · refine aw_astore_n (lv' := (3, .ref q) :: [(0, .ref (sz + 0)), (1, .int x1), (2, .ref (sz + o))]) dL_worthOf_12 rfl (by decide) rfl ?_
      refine aw_iconst (v := 1) dL_worthOf_13 (by decide) ?_
      exact aw_iret rfl dL_worthOf_14 ⟨rfl, _, rfl, hq⟩
theorem M_L_worthOf {l : Launch} {D : va_G} {cy : Nat → ClassId} {sz : Nat} {G : sw_G} (hl : l.stackTraces = false) (hG : sw_lay G) {o : Nat} (ho : sw_la G o 1) {Q : Int32 → sw_I → sw_J → Prop} {x1 : Int32} {I : sw_I} {J : sw_J} (h : wp_L_worthOf x1 o I J Q) : Met l yL_worthOf (Cond.codeWith yL_worthOf cL_worthOf 4 (some .int) hh_L_worthOf :: sw_T) rm_L_worthOf (sw_Pc D cy sz [.ref (sz + 0), .int x1, .ref (sz + o)] G I J) (sw_Q D cy sz (sw_qi G Q)) 1 6 (fun q => sz ≤ q) :=
  ah_met (by decide) (fun q => by cases q) (Nat.le_of_ble_eq_true rfl) rfl (t_L_worthOf hl hG ho h)
set_option maxRecDepth 50000 in
theorem wv_X9_ballast : sw_V yX9_ballast cX9_ballast 6 (some .int) 2 := ⟨sw_mem 1091 (by decide +kernel) rfl, sw_mem 1092 (by decide +kernel) rfl, sw_mem 87 (by decide +kernel) rfl, sw_mem 1093 rfl rfl, ⟨by decide +kernel, by decide +kernel, by decide +kernel⟩⟩
theorem ml_L_19 : Cond.methodLink RL 19 yX9_ballast ∈ sw_T := sw_mem 1090 (by decide +kernel) rfl
abbrev hh_L_ballast : List (Nat × Nat × Nat × Nat) := [(0, 10, 13, 13)]
set_option maxRecDepth 50000 in
theorem wv_L_ballast : Cond.static yL_ballast ∈ sw_T ∧ Cond.initialized yL_ballast.cls ∈ sw_T ∧ Cond.codeWith yL_ballast cL_ballast 5 (some .int) hh_L_ballast ∈ sw_T ∧ sw_D yL_ballast 4 := ⟨sw_mem 1088 (by decide +kernel) rfl, sw_mem 86 (by decide +kernel) rfl, sw_mem 1089 rfl rfl, ⟨by decide +kernel, by decide +kernel, by decide +kernel⟩⟩
theorem ml_L_143 : Cond.methodLink RL 143 yL_ballast ∈ sw_T := sw_mem 1087 (by decide +kernel) rfl
abbrev rm_L_ballast : Room := { frames := 7, cells := 1, slots := 6, locals := 147 }
def wp_L_ballast (x1 x2 : Int32) (o : Nat) (I : sw_I) (J : sw_J) (Q : Int32 → sw_I → sw_J → Prop) : Prop :=
  wp_X9_ballast x1 x2 I J (fun r I1 J1 => Q 0 I1 (sw_up J1 o 0 r.toInt64)) (fun I1 J1 => Q 1 I1 J1)
set_option maxRecDepth 20000 in
theorem t_L_ballast {l : Launch} {D : va_G} {cy : Nat → ClassId} {sz : Nat} {G : sw_G} (hl : l.stackTraces = false) (hG : sw_lay G) {o : Nat} (ho : sw_la G o 1) {Q : Int32 → sw_I → sw_J → Prop} {x1 : Int32} {x2 : Int32} {I : sw_I} {J : sw_J} (h : wp_L_ballast x1 x2 o I J Q) : AH hh_L_ballast l D cy sz RL cL_ballast 5 (some .int) false rm_L_ballast 1 6 (sw_qi G Q) 0 0 G I J 0 [(0, .ref (sz + 0)), (1, .int x1), (2, .int x2), (3, .ref (sz + o))] [] := by
  unfold wp_L_ballast at h
  refine ah_aload_n 3 dL_ballast_0 rfl rfl ?_
  refine ah_iconst (v := 0) dL_ballast_1 (by decide) ?_
  refine ah_aload_n 0 dL_ballast_2 rfl rfl ?_
  refine ah_iload_n 1 dL_ballast_3 rfl rfl ?_
  refine ah_iload_n 2 dL_ballast_4 rfl rfl ?_
  refine ah_callX ⟨0, 10, 13, 13⟩ wv_X9_ballast (M_X9_ballast hl hG h) ml_L_19 rfl (by decide) (lk0 hG) rfl rfl (Nat.le_of_ble_eq_true rfl) ⟨rfl, rfl⟩ ⟨Nat.le_of_ble_eq_true rfl, Nat.le_of_ble_eq_true rfl⟩ ⟨Nat.le_of_ble_eq_true rfl, Nat.le_of_ble_eq_true rfl⟩ dL_ballast_5 rfl rfl (by decide) ax_w7 (fun r G1 I1 J1 hq => ?_) (fun q G1 I1 J1 hq => ?_)
  · obtain ⟨hs, rfl, hq⟩ := hq
    rcases hq with ⟨v, rfl, hq⟩ | ⟨rfl, _⟩
    · refine aw_i2l dL_ballast_8 ?_
      refine aw_lst dL_ballast_9 ho.1 ho.2 (by unfold vp_in; decide) (aw_nameJ fun J9 e9 => ?_)
      rw [show (0 : Int32).toNatClampNeg = 0 from by decide] at e9
      rw [← e9] at hq
      refine aw_goto 17 dL_ballast_10 (by decide) ?_
      refine aw_iconst (v := 0) dL_ballast_17 (by decide) ?_
      exact aw_iret rfl dL_ballast_18 ⟨rfl, _, rfl, hq⟩
    · cases hs
  · obtain ⟨rfl, hq⟩ := hq
    rcases hq with ⟨v, hv, _⟩ | ⟨_, hq⟩
    · cases hv
    · refine aw_astore (lv' := (4, .ref q) :: [(0, .ref (sz + 0)), (1, .int x1), (2, .int x2), (3, .ref (sz + o))]) dL_ballast_13 (by decide) rfl ?_
      refine aw_iconst (v := 1) dL_ballast_15 (by decide) ?_
      exact aw_iret rfl dL_ballast_16 ⟨rfl, _, rfl, hq⟩
theorem M_L_ballast {l : Launch} {D : va_G} {cy : Nat → ClassId} {sz : Nat} {G : sw_G} (hl : l.stackTraces = false) (hG : sw_lay G) {o : Nat} (ho : sw_la G o 1) {Q : Int32 → sw_I → sw_J → Prop} {x1 : Int32} {x2 : Int32} {I : sw_I} {J : sw_J} (h : wp_L_ballast x1 x2 o I J Q) : Met l yL_ballast (Cond.codeWith yL_ballast cL_ballast 5 (some .int) hh_L_ballast :: sw_T) rm_L_ballast (sw_Pc D cy sz [.ref (sz + 0), .int x1, .int x2, .ref (sz + o)] G I J) (sw_Q D cy sz (sw_qi G Q)) 1 6 (fun q => sz ≤ q) :=
  ah_met (by decide) (fun q => by cases q) (Nat.le_of_ble_eq_true rfl) rfl (t_L_ballast hl hG ho h)
set_option maxRecDepth 50000 in
theorem wv_X9_row : sw_V yX9_row cX9_row 2 (some .long) 1 := ⟨sw_mem 1098 (by decide +kernel) rfl, sw_mem 1099 (by decide +kernel) rfl, sw_mem 87 (by decide +kernel) rfl, sw_mem 1100 rfl rfl, ⟨by decide +kernel, by decide +kernel, by decide +kernel⟩⟩
theorem ml_L_22 : Cond.methodLink RL 22 yX9_row ∈ sw_T := sw_mem 1097 (by decide +kernel) rfl
abbrev hh_L_row : List (Nat × Nat × Nat × Nat) := [(0, 8, 11, 13)]
set_option maxRecDepth 50000 in
theorem wv_L_row : Cond.static yL_row ∈ sw_T ∧ Cond.initialized yL_row.cls ∈ sw_T ∧ Cond.codeWith yL_row cL_row 4 (some .int) hh_L_row ∈ sw_T ∧ sw_D yL_row 3 := ⟨sw_mem 1095 (by decide +kernel) rfl, sw_mem 86 (by decide +kernel) rfl, sw_mem 1096 rfl rfl, ⟨by decide +kernel, by decide +kernel, by decide +kernel⟩⟩
theorem ml_L_219 : Cond.methodLink RL 219 yL_row ∈ sw_T := sw_mem 1094 (by decide +kernel) rfl
abbrev rm_L_row : Room := { frames := 7, cells := 1, slots := 6, locals := 110 }
def wp_L_row (x1 : Int32) (o : Nat) (I : sw_I) (J : sw_J) (Q : Int32 → sw_I → sw_J → Prop) : Prop :=
  wp_X9_row x1 I J (fun r I1 J1 => Q 0 I1 (sw_up J1 o 0 r)) (fun I1 J1 => Q 1 I1 J1)
set_option maxRecDepth 20000 in
theorem t_L_row {l : Launch} {D : va_G} {cy : Nat → ClassId} {sz : Nat} {G : sw_G} (hl : l.stackTraces = false) (hG : sw_lay G) {o : Nat} (ho : sw_la G o 1) {Q : Int32 → sw_I → sw_J → Prop} {x1 : Int32} {I : sw_I} {J : sw_J} (h : wp_L_row x1 o I J Q) : AH hh_L_row l D cy sz RL cL_row 4 (some .int) false rm_L_row 1 6 (sw_qi G Q) 0 0 G I J 0 [(0, .ref (sz + 0)), (1, .int x1), (2, .ref (sz + o))] [] := by
  unfold wp_L_row at h
  refine ah_aload_n 2 dL_row_0 rfl rfl ?_
  refine ah_iconst (v := 0) dL_row_1 (by decide) ?_
  refine ah_aload_n 0 dL_row_2 rfl rfl ?_
  refine ah_iload_n 1 dL_row_3 rfl rfl ?_
  refine ah_callX ⟨0, 8, 11, 13⟩ wv_X9_row (M_X9_row hl hG h) ml_L_22 rfl (by decide) (lk0 hG) rfl rfl (Nat.le_of_ble_eq_true rfl) ⟨rfl, rfl⟩ ⟨Nat.le_of_ble_eq_true rfl, Nat.le_of_ble_eq_true rfl⟩ ⟨Nat.le_of_ble_eq_true rfl, Nat.le_of_ble_eq_true rfl⟩ dL_row_4 rfl rfl (by decide) ax_w7 (fun r G1 I1 J1 hq => ?_) (fun q G1 I1 J1 hq => ?_)
  · obtain ⟨hs, rfl, hq⟩ := hq
    rcases hq with ⟨v, rfl, hq⟩ | ⟨rfl, _⟩
    · refine aw_lst dL_row_7 ho.1 ho.2 (by unfold vp_in; decide) (aw_nameJ fun J9 e9 => ?_)
      rw [show (0 : Int32).toNatClampNeg = 0 from by decide] at e9
      rw [← e9] at hq
      refine aw_goto 14 dL_row_8 (by decide) ?_
      refine aw_iconst (v := 0) dL_row_14 (by decide) ?_
      exact aw_iret rfl dL_row_15 ⟨rfl, _, rfl, hq⟩
    · cases hs
  · obtain ⟨rfl, hq⟩ := hq
    rcases hq with ⟨v, hv, _⟩ | ⟨_, hq⟩
    · cases hv
    · refine aw_astore_n (lv' := (3, .ref q) :: [(0, .ref (sz + 0)), (1, .int x1), (2, .ref (sz + o))]) dL_row_11 rfl (by decide) rfl ?_
      refine aw_iconst (v := 1) dL_row_12 (by decide) ?_
      exact aw_iret rfl dL_row_13 ⟨rfl, _, rfl, hq⟩
theorem M_L_row {l : Launch} {D : va_G} {cy : Nat → ClassId} {sz : Nat} {G : sw_G} (hl : l.stackTraces = false) (hG : sw_lay G) {o : Nat} (ho : sw_la G o 1) {Q : Int32 → sw_I → sw_J → Prop} {x1 : Int32} {I : sw_I} {J : sw_J} (h : wp_L_row x1 o I J Q) : Met l yL_row (Cond.codeWith yL_row cL_row 4 (some .int) hh_L_row :: sw_T) rm_L_row (sw_Pc D cy sz [.ref (sz + 0), .int x1, .ref (sz + o)] G I J) (sw_Q D cy sz (sw_qi G Q)) 1 6 (fun q => sz ≤ q) :=
  ah_met (by decide) (fun q => by cases q) (Nat.le_of_ble_eq_true rfl) rfl (t_L_row hl hG ho h)
