/-- a size that is no longer needed -/
theorem al_none {l : Launch} {D : va_G} {cy : Nat → ClassId} {sz : Nat} {own : String} {cc : ByteArray} {nL : Nat} {ret : Option FieldType} {ini : Bool} {R : Room} {cells slots : Nat} {I : sw_I} {J : sw_J} {pc : Nat} {lv : List (Nat × Value)} {st : List Value} {E : State → Prop} {Z : List Frame → Array Value → State → State → Prop} {G : sw_G}
    (k : AL E Z l D cy sz own cc nL ret ini R cells slots (none, G.2) I J pc lv st) : AL E Z l D cy sz own cc nL ret ini R cells slots G I J pc lv st := fun p e s m args below meth c H locs ls X hR hS hl hxt =>
  k p e s m args below meth c H locs ls X ⟨(fun n h => by cases h), hR.2.1, hR.2.2⟩ hS hl hxt
theorem cl_L_8 : Cond.classLink RL 8 RX9 ∈ sw_T := sw_mem 110 (by decide +kernel) rfl
theorem cl_L_27 : Cond.classLink RL 27 RX10 ∈ sw_T := sw_mem 1590 (by decide +kernel) rfl
theorem in_X9 : Cond.instantiable RX9 13 ∈ sw_T := sw_mem 111 (by decide +kernel) rfl
theorem in_X10 : Cond.instantiable RX10 62 ∈ sw_T := sw_mem 1129 (by decide +kernel) rfl
theorem ii_X9 : Cond.initialized RX9 ∈ sw_T := sw_mem 87 (by decide +kernel) rfl
theorem ii_X10 : Cond.initialized RX10 ∈ sw_T := sw_mem 98 (by decide +kernel) rfl
theorem ml_L_26 : Cond.methodLink RL 26 yX9_init ∈ sw_T := sw_mem 112 (by decide +kernel) rfl
theorem ml_L_29 : Cond.methodLink RL 29 yX10_init ∈ sw_T := sw_mem 1591 (by decide +kernel) rfl
set_option maxRecDepth 50000 in
theorem wc_X9 : sw_C9 yX9_init cX9_init 2 0 := ⟨sw_mem 113 (by decide +kernel) rfl, ii_X9, sw_mem 114 rfl rfl, ⟨by decide +kernel, by decide +kernel, by decide +kernel⟩, rfl⟩
set_option maxRecDepth 50000 in
theorem wc_X10 : sw_C9 yX10_init cX10_init 1 0 := ⟨sw_mem 1592 (by decide +kernel) rfl, ii_X10, sw_mem 1593 rfl rfl, ⟨by decide +kernel, by decide +kernel, by decide +kernel⟩, rfl⟩
set_option maxRecDepth 20000 in
theorem lw_make {b L : Nat} {xs : Nat → Int32} {Z : List Frame → Array Value → State → State → Prop} {l : Launch} {D : va_G} {cy : Nat → ClassId} {sz : Nat} {ρ : mk_RR} {I : sw_I} {J : sw_J} (hJ : ∀ k j, J k j = 0) (hz : mk_Z 0 ρ I)
    (k : ∀ (ρ2 : mk_RR) (I2 : sw_I), (∀ c, c < 174 → (∀ j, ρ2 c j = mk_R c j) ∧ ∀ j, j < mk_N c → I2 c j = mk_I c j) → mk_Z 174 ρ2 I2 → LL b L xs Z l D cy sz (none, List.range 175, mk_K, mk_N, ρ2) 175 44473 I2 J 23 (lw_lv b sz 0) []) :
    LL b L xs Z l D cy sz (mk_G 0 ρ) 0 0 I J 0 [(0, .ref b)] [] := by
  refine mal_newX (n := 0) (ci := 9) (C := RX9) (T := TX9) (N := 13) rfl inT9 tyX9 tyX9_ok cl_L_8 in_X9 ii_X9 rfl (by decide) rfl (by decide) hz (Nat.le_of_ble_eq_true rfl) (Nat.le_of_ble_eq_true rfl) dL_law_0 ?_
  refine al_dup dL_law_3 rfl ?_
  refine al_callI wc_X9 (M_X9_init hJ hz) ml_L_26 rfl rfl (Nat.le_of_ble_eq_true rfl) ⟨rfl, rfl⟩ ⟨Nat.le_of_ble_eq_true rfl, Nat.le_of_ble_eq_true rfl⟩ ⟨Nat.le_of_ble_eq_true rfl, Nat.le_of_ble_eq_true rfl⟩ dL_law_4 (mal_kc fun ρ1 I1 h1 => ?_)
  refine al_astore_n (lv' := [(1, .ref (sz + 0)), (0, .ref b)]) dL_law_7 rfl (by decide) rfl ?_
  refine mal_newX (n := 140) (ci := 10) (C := RX10) (T := TX10) (N := 62) rfl inT10 tyX10 tyX10_ok cl_L_27 in_X10 ii_X10 rfl (by decide) rfl (by decide) h1.2.2 (Nat.le_of_ble_eq_true rfl) (Nat.le_of_ble_eq_true rfl) dL_law_8 ?_
  refine al_dup dL_law_11 rfl ?_
  refine al_callI wc_X10 (M_X10_init hJ h1.2.2) ml_L_29 rfl rfl (Nat.le_of_ble_eq_true rfl) ⟨rfl, rfl⟩ ⟨Nat.le_of_ble_eq_true rfl, Nat.le_of_ble_eq_true rfl⟩ ⟨Nat.le_of_ble_eq_true rfl, Nat.le_of_ble_eq_true rfl⟩ dL_law_12 (mal_kc fun ρ2 I2 h2 => ?_)
  refine al_astore_n (lv' := [(2, .ref (sz + 140)), (1, .ref (sz + 0)), (0, .ref b)]) dL_law_15 rfl (by decide) rfl ?_
  refine al_iconst (v := 1) dL_law_16 (by decide) ?_
  refine mal_newL (n := 174) rfl rfl (fun j => hJ _ j) (by decide) rfl (by decide) (Nat.le_of_ble_eq_true rfl) (Nat.le_of_ble_eq_true rfl) dL_law_17 ?_
  refine al_astore_n (lv' := [(3, .ref (sz + 174)), (2, .ref (sz + 140)), (1, .ref (sz + 0)), (0, .ref b)]) dL_law_19 rfl (by decide) rfl ?_
  refine al_iconst (v := 0) dL_law_20 (by decide) ?_
  refine al_istore (lv' := lw_lv b sz 0) dL_law_21 (by decide) rfl ?_
  refine al_none ?_
  refine k ρ2 I2 (fun c hc => ?_) h2.2.2
  by_cases q : c < 140
  · rw [(h2.1 c q).1, (h2.1 c q).2]; exact h1.2.1 c (Nat.zero_le _) q
  · exact h2.2.1 c (by omega) hc
