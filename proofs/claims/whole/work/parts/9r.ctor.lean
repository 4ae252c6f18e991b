theorem lo_X8 : Cond.methodLink RX8 3 Lib.objectInit ∈ sw_T := sw_mem 123 (by decide +kernel) rfl
theorem fc_X8_9 : Cond.fieldLink RX8 9 RX8 "signs" "[I" ∈ sw_T := sw_mem 124 (by decide +kernel) rfl
theorem fc_X8_15 : Cond.fieldLink RX8 15 RX8 "size" "I" ∈ sw_T := sw_mem 125 (by decide +kernel) rfl
abbrev rm_X8_init : Room := { frames := 1, cells := 1, slots := 80, locals := 40 }
set_option maxRecDepth 20000 in
theorem t_X8_init {l : Launch} {D : va_G} {cy : Nat → ClassId} {sz : Nat} {ρ : mk_RR} {I : sw_I} {J : sw_J} (hJ : ∀ k j, J k j = 0) (hz : mk_Z 1 ρ I) : AW l D cy sz RX8 cX8_init 1 none true rm_X8_init 1 80 (mk_Q 1 3 ρ I J) 0 0 (mk_G 2 ρ) I J 0 [(0, .ref (sz + 1))] [] := by
  have s := mkS.start (N := 2) hz
  refine aw_aload_n 0 dX8_init_0 rfl rfl ?_
  refine aw_oinit lo_X8 (Nat.le_of_ble_eq_true rfl) (Nat.le_of_ble_eq_true rfl) dX8_init_1 ?_
  refine aw_aload_n 0 dX8_init_4 rfl rfl ?_
  refine aw_bipush (v := 80) dX8_init_5 (by decide) ?_
  refine mk_newI (n := 2) (ρ := ρ) rfl rfl (fun j => (s.2.2.2 2 (Nat.le_refl _) j).2) (by decide) rfl (by decide) (Nat.le_of_ble_eq_true rfl) (Nat.le_of_ble_eq_true rfl) dX8_init_7 ?_
  have s := s.new (fun _ => rfl) (fun _ _ => rfl)
  refine mk_putF (b := 2) (n := 3) (a := 1) (ci := 8) (k := 0) (C := RX8) (T := TX8) (N := 2) (ty := (.array .int)) rfl inT8 tyX8 tyX8_ok nmX8 (by decide) rfl (by decide) rfl rfl rfl rfl rfl rfl (fun _ => rfl) (fun _ => rfl) fc_X8_9 (by decide) rfl dX8_init_9 (fun ρ1 e2 => ?_)
  have s := s.putR1 (by decide) e2
  refine aw_aload_n 0 dX8_init_12 rfl rfl ?_
  refine aw_iconst (v := 0) dX8_init_13 (by decide) ?_
  refine mk_putI (n := 3) (a := 1) (ci := 8) (k := 1) (C := RX8) (T := TX8) (N := 2) (ty := .int) rfl inT8 tyX8 tyX8_ok nmX8 (by decide) rfl (by decide) rfl rfl rfl rfl rfl rfl fc_X8_15 (by decide) rfl dX8_init_14 (fun I3 e4 => ?_)
  have s := s.putI1 (by decide) e4
  have s := s.shut rfl (fun _ => rfl) (by decide)
  exact aw_vret rfl dX8_init_17 ⟨rfl, rfl, ρ1, rfl, s.fin⟩
theorem M_X8_init {l : Launch} {D : va_G} {cy : Nat → ClassId} {sz : Nat} {ρ : mk_RR} {I : sw_I} {J : sw_J} (hJ : ∀ k j, J k j = 0) (hz : mk_Z 1 ρ I) : Met l yX8_init (Cond.code yX8_init cX8_init 1 none :: sw_T) rm_X8_init (sw_Pc D cy sz [.ref (sz + 1)] (mk_G 2 ρ) I J) (sw_Q D cy sz (mk_Q 1 3 ρ I J)) 1 80 (fun q => sz ≤ q) :=
  sw_met (by decide) (fun _ => rfl) (Nat.le_of_ble_eq_true rfl) rfl (t_X8_init hJ hz)
theorem lo_X5 : Cond.methodLink RX5 3 Lib.objectInit ∈ sw_T := sw_mem 173 (by decide +kernel) rfl
theorem fc_X5_9 : Cond.fieldLink RX5 9 RX5 "wished" "[I" ∈ sw_T := sw_mem 174 (by decide +kernel) rfl
theorem fc_X5_15 : Cond.fieldLink RX5 15 RX5 "standing" "[I" ∈ sw_T := sw_mem 177 (by decide +kernel) rfl
theorem fc_X5_18 : Cond.fieldLink RX5 18 RX5 "in" "I" ∈ sw_T := sw_mem 180 (by decide +kernel) rfl
theorem fc_X5_22 : Cond.fieldLink RX5 22 RX5 "lift" "I" ∈ sw_T := sw_mem 183 (by decide +kernel) rfl
theorem fc_X5_25 : Cond.fieldLink RX5 25 RX5 "rides" "I" ∈ sw_T := sw_mem 186 (by decide +kernel) rfl
abbrev rm_X5_init : Room := { frames := 1, cells := 2, slots := 18, locals := 40 }
set_option maxRecDepth 20000 in
theorem t_X5_init {l : Launch} {D : va_G} {cy : Nat → ClassId} {sz : Nat} {ρ : mk_RR} {I : sw_I} {J : sw_J} (hJ : ∀ k j, J k j = 0) (hz : mk_Z 10 ρ I) : AW l D cy sz RX5 cX5_init 1 none true rm_X5_init 2 18 (mk_Q 10 13 ρ I J) 0 0 (mk_G 11 ρ) I J 0 [(0, .ref (sz + 10))] [] := by
  have s := mkS.start (N := 5) hz
  refine aw_aload_n 0 dX5_init_0 rfl rfl ?_
  refine aw_oinit lo_X5 (Nat.le_of_ble_eq_true rfl) (Nat.le_of_ble_eq_true rfl) dX5_init_1 ?_
  refine aw_aload_n 0 dX5_init_4 rfl rfl ?_
  refine aw_bipush (v := 9) dX5_init_5 (by decide) ?_
  refine mk_newI (n := 11) (ρ := ρ) rfl rfl (fun j => (s.2.2.2 11 (Nat.le_refl _) j).2) (by decide) rfl (by decide) (Nat.le_of_ble_eq_true rfl) (Nat.le_of_ble_eq_true rfl) dX5_init_7 ?_
  have s := s.new (fun _ => rfl) (fun _ _ => rfl)
  refine mk_putF (b := 11) (n := 12) (a := 10) (ci := 5) (k := 0) (C := RX5) (T := TX5) (N := 5) (ty := (.array .int)) rfl inT5 tyX5 tyX5_ok nmX5 (by decide) rfl (by decide) rfl rfl rfl rfl rfl rfl (fun _ => rfl) (fun _ => rfl) fc_X5_9 (by decide) rfl dX5_init_9 (fun ρ1 e2 => ?_)
  have s := s.putR1 (by decide) e2
  refine aw_aload_n 0 dX5_init_12 rfl rfl ?_
  refine aw_bipush (v := 9) dX5_init_13 (by decide) ?_
  refine mk_newI (n := 12) (ρ := ρ1) rfl rfl (fun j => (s.2.2.2 12 (Nat.le_refl _) j).2) (by decide) rfl (by decide) (Nat.le_of_ble_eq_true rfl) (Nat.le_of_ble_eq_true rfl) dX5_init_15 ?_
  have s := s.new (fun _ => rfl) (fun _ _ => rfl)
  refine mk_putF (b := 12) (n := 13) (a := 10) (ci := 5) (k := 1) (C := RX5) (T := TX5) (N := 5) (ty := (.array .int)) rfl inT5 tyX5 tyX5_ok nmX5 (by decide) rfl (by decide) rfl rfl rfl rfl rfl rfl (fun _ => rfl) (fun _ => rfl) fc_X5_15 (by decide) rfl dX5_init_17 (fun ρ3 e4 => ?_)
  have s := s.putR1 (by decide) e4
  refine aw_aload_n 0 dX5_init_20 rfl rfl ?_
  refine aw_iconst (v := 0) dX5_init_21 (by decide) ?_
  refine mk_putI (n := 13) (a := 10) (ci := 5) (k := 2) (C := RX5) (T := TX5) (N := 5) (ty := .int) rfl inT5 tyX5 tyX5_ok nmX5 (by decide) rfl (by decide) rfl rfl rfl rfl rfl rfl fc_X5_18 (by decide) rfl dX5_init_22 (fun I5 e6 => ?_)
  have s := s.putI1 (by decide) e6
  refine aw_aload_n 0 dX5_init_25 rfl rfl ?_
  refine aw_iconst (v := 0) dX5_init_26 (by decide) ?_
  refine mk_putI (n := 13) (a := 10) (ci := 5) (k := 3) (C := RX5) (T := TX5) (N := 5) (ty := .int) rfl inT5 tyX5 tyX5_ok nmX5 (by decide) rfl (by decide) rfl rfl rfl rfl rfl rfl fc_X5_22 (by decide) rfl dX5_init_27 (fun I7 e8 => ?_)
  have s := s.putI1 (by decide) e8
  refine aw_aload_n 0 dX5_init_30 rfl rfl ?_
  refine aw_iconst (v := 0) dX5_init_31 (by decide) ?_
  refine mk_putI (n := 13) (a := 10) (ci := 5) (k := 4) (C := RX5) (T := TX5) (N := 5) (ty := .int) rfl inT5 tyX5 tyX5_ok nmX5 (by decide) rfl (by decide) rfl rfl rfl rfl rfl rfl fc_X5_25 (by decide) rfl dX5_init_32 (fun I9 e10 => ?_)
  have s := s.putI1 (by decide) e10
  have s := s.shut rfl (fun _ => rfl) (by decide)
  exact aw_vret rfl dX5_init_35 ⟨rfl, rfl, ρ3, rfl, s.fin⟩
theorem M_X5_init {l : Launch} {D : va_G} {cy : Nat → ClassId} {sz : Nat} {ρ : mk_RR} {I : sw_I} {J : sw_J} (hJ : ∀ k j, J k j = 0) (hz : mk_Z 10 ρ I) : Met l yX5_init (Cond.code yX5_init cX5_init 1 none :: sw_T) rm_X5_init (sw_Pc D cy sz [.ref (sz + 10)] (mk_G 11 ρ) I J) (sw_Q D cy sz (mk_Q 10 13 ρ I J)) 2 18 (fun q => sz ≤ q) :=
  sw_met (by decide) (fun _ => rfl) (Nat.le_of_ble_eq_true rfl) rfl (t_X5_init hJ hz)
theorem lo_X2 : Cond.methodLink RX2 3 Lib.objectInit ∈ sw_T := sw_mem 147 (by decide +kernel) rfl
theorem fc_X2_9 : Cond.fieldLink RX2 9 RX2 "code" "[I" ∈ sw_T := sw_mem 148 (by decide +kernel) rfl
theorem fc_X2_15 : Cond.fieldLink RX2 15 RX2 "waiting" "[I" ∈ sw_T := sw_mem 149 (by decide +kernel) rfl
theorem fc_X2_18 : Cond.fieldLink RX2 18 RX2 "values" "[I" ∈ sw_T := sw_mem 150 (by decide +kernel) rfl
theorem fc_X2_21 : Cond.fieldLink RX2 21 RX2 "size" "I" ∈ sw_T := sw_mem 151 (by decide +kernel) rfl
theorem fc_X2_25 : Cond.fieldLink RX2 25 RX2 "waitingCount" "I" ∈ sw_T := sw_mem 152 (by decide +kernel) rfl
theorem fc_X2_28 : Cond.fieldLink RX2 28 RX2 "asksRides" "Z" ∈ sw_T := sw_mem 153 (by decide +kernel) rfl
abbrev rm_X2_init : Room := { frames := 1, cells := 3, slots := 120, locals := 40 }
set_option maxRecDepth 20000 in
theorem t_X2_init {l : Launch} {D : va_G} {cy : Nat → ClassId} {sz : Nat} {ρ : mk_RR} {I : sw_I} {J : sw_J} (hJ : ∀ k j, J k j = 0) (hz : mk_Z 6 ρ I) : AW l D cy sz RX2 cX2_init 1 none true rm_X2_init 3 120 (mk_Q 6 10 ρ I J) 0 0 (mk_G 7 ρ) I J 0 [(0, .ref (sz + 6))] [] := by
  have s := mkS.start (N := 6) hz
  refine aw_aload_n 0 dX2_init_0 rfl rfl ?_
  refine aw_oinit lo_X2 (Nat.le_of_ble_eq_true rfl) (Nat.le_of_ble_eq_true rfl) dX2_init_1 ?_
  refine aw_aload_n 0 dX2_init_4 rfl rfl ?_
  refine aw_bipush (v := 40) dX2_init_5 (by decide) ?_
  refine mk_newI (n := 7) (ρ := ρ) rfl rfl (fun j => (s.2.2.2 7 (Nat.le_refl _) j).2) (by decide) rfl (by decide) (Nat.le_of_ble_eq_true rfl) (Nat.le_of_ble_eq_true rfl) dX2_init_7 ?_
  have s := s.opn (N := 40) (by decide)
  have s := s.swap (by decide)
  refine mk_putF (b := 7) (n := 8) (a := 6) (ci := 2) (k := 0) (C := RX2) (T := TX2) (N := 6) (ty := (.array .int)) rfl inT2 tyX2 tyX2_ok nmX2 (by decide) rfl (by decide) rfl rfl rfl rfl rfl rfl (fun _ => rfl) (fun _ => rfl) fc_X2_9 (by decide) rfl dX2_init_9 (fun ρ1 e2 => ?_)
  have s := s.putR1 (by decide) e2
  refine aw_aload_n 0 dX2_init_12 rfl rfl ?_
  refine aw_bipush (v := 40) dX2_init_13 (by decide) ?_
  refine mk_newI (n := 8) (ρ := ρ1) rfl rfl (fun j => (s.2.2.2 8 (Nat.le_refl _) j).2) (by decide) rfl (by decide) (Nat.le_of_ble_eq_true rfl) (Nat.le_of_ble_eq_true rfl) dX2_init_15 ?_
  have s := s.new (fun _ => rfl) (fun _ _ => rfl)
  refine mk_putF (b := 8) (n := 9) (a := 6) (ci := 2) (k := 1) (C := RX2) (T := TX2) (N := 6) (ty := (.array .int)) rfl inT2 tyX2 tyX2_ok nmX2 (by decide) rfl (by decide) rfl rfl rfl rfl rfl rfl (fun _ => rfl) (fun _ => rfl) fc_X2_15 (by decide) rfl dX2_init_17 (fun ρ3 e4 => ?_)
  have s := s.putR1 (by decide) e4
  refine aw_aload_n 0 dX2_init_20 rfl rfl ?_
  refine aw_bipush (v := 40) dX2_init_21 (by decide) ?_
  refine mk_newI (n := 9) (ρ := ρ3) rfl rfl (fun j => (s.2.2.2 9 (Nat.le_refl _) j).2) (by decide) rfl (by decide) (Nat.le_of_ble_eq_true rfl) (Nat.le_of_ble_eq_true rfl) dX2_init_23 ?_
  have s := s.new (fun _ => rfl) (fun _ _ => rfl)
  refine mk_putF (b := 9) (n := 10) (a := 6) (ci := 2) (k := 2) (C := RX2) (T := TX2) (N := 6) (ty := (.array .int)) rfl inT2 tyX2 tyX2_ok nmX2 (by decide) rfl (by decide) rfl rfl rfl rfl rfl rfl (fun _ => rfl) (fun _ => rfl) fc_X2_18 (by decide) rfl dX2_init_25 (fun ρ5 e6 => ?_)
  have s := s.putR1 (by decide) e6
  refine aw_aload_n 0 dX2_init_28 rfl rfl ?_
  refine aw_iconst (v := 0) dX2_init_29 (by decide) ?_
  refine mk_putI (n := 10) (a := 6) (ci := 2) (k := 3) (C := RX2) (T := TX2) (N := 6) (ty := .int) rfl inT2 tyX2 tyX2_ok nmX2 (by decide) rfl (by decide) rfl rfl rfl rfl rfl rfl fc_X2_21 (by decide) rfl dX2_init_30 (fun I7 e8 => ?_)
  have s := s.putI1 (by decide) e8
  refine aw_aload_n 0 dX2_init_33 rfl rfl ?_
  refine aw_iconst (v := 0) dX2_init_34 (by decide) ?_
  refine mk_putI (n := 10) (a := 6) (ci := 2) (k := 4) (C := RX2) (T := TX2) (N := 6) (ty := .int) rfl inT2 tyX2 tyX2_ok nmX2 (by decide) rfl (by decide) rfl rfl rfl rfl rfl rfl fc_X2_25 (by decide) rfl dX2_init_35 (fun I9 e10 => ?_)
  have s := s.putI1 (by decide) e10
  refine aw_aload_n 0 dX2_init_38 rfl rfl ?_
  refine aw_iconst (v := 0) dX2_init_39 (by decide) ?_
  refine mk_putI (n := 10) (a := 6) (ci := 2) (k := 5) (C := RX2) (T := TX2) (N := 6) (ty := .boolean) rfl inT2 tyX2 tyX2_ok nmX2 (by decide) rfl (by decide) rfl rfl rfl rfl rfl rfl fc_X2_28 (by decide) rfl dX2_init_40 (fun I11 e12 => ?_)
  have s := s.putI1 (by decide) e12
  refine aw_aload_n 0 dX2_init_43 rfl rfl ?_
  have q13 : ρ5 6 0 = some 7 := (s.2.2.1 6 _ rfl).2.1 0
  refine aw_get (a := 6) (ci := 2) (k := 0) (C := RX2) (T := TX2) (N := 6) (v := .ref (sz + 7)) rfl inT2 (by decide) rfl (by decide) rfl (by show (if _ then va_rf (sw_o sz (ρ5 6 0)) else _) = _; rw [q13]; rfl) fc_X2_9 ⟨List.mem_range.mpr (by decide), rfl⟩ dX2_init_44 ?_
  refine aw_iconst (v := 0) dX2_init_47 (by decide) ?_
  refine aw_bipush (v := (-119)) dX2_init_48 (by decide) ?_
  have s := s.swap (by decide)
  refine aw_ist (n := 40) dX2_init_50 ⟨List.mem_range.mpr (by decide), rfl⟩ rfl (by unfold vp_in; decide) (aw_nameI fun I14 e15 => ?_)
  have s := s.putI1 (by decide) e15
  refine aw_aload_n 0 dX2_init_51 rfl rfl ?_
  refine aw_iconst (v := 1) dX2_init_52 (by decide) ?_
  have s := s.swap (by decide)
  refine mk_putI (n := 10) (a := 6) (ci := 2) (k := 3) (C := RX2) (T := TX2) (N := 6) (ty := .int) rfl inT2 tyX2 tyX2_ok nmX2 (by decide) rfl (by decide) rfl rfl rfl rfl rfl rfl fc_X2_21 (by decide) rfl dX2_init_53 (fun I16 e17 => ?_)
  have s := s.putI1 (by decide) e17
  have s := s.shut rfl (fun _ => rfl) (by decide)
  have s := s.shut rfl (fun j => getD_rep _ j none) (by decide)
  exact aw_vret rfl dX2_init_56 ⟨rfl, rfl, ρ5, rfl, s.fin⟩
theorem M_X2_init {l : Launch} {D : va_G} {cy : Nat → ClassId} {sz : Nat} {ρ : mk_RR} {I : sw_I} {J : sw_J} (hJ : ∀ k j, J k j = 0) (hz : mk_Z 6 ρ I) : Met l yX2_init (Cond.code yX2_init cX2_init 1 none :: sw_T) rm_X2_init (sw_Pc D cy sz [.ref (sz + 6)] (mk_G 7 ρ) I J) (sw_Q D cy sz (mk_Q 6 10 ρ I J)) 3 120 (fun q => sz ≤ q) :=
  sw_met (by decide) (fun _ => rfl) (Nat.le_of_ble_eq_true rfl) rfl (t_X2_init hJ hz)
theorem lo_X1 : Cond.methodLink RX1 3 Lib.objectInit ∈ sw_T := sw_mem 141 (by decide +kernel) rfl
theorem fc_X1_9 : Cond.fieldLink RX1 9 RX1 "floors" "I" ∈ sw_T := sw_mem 200 (by decide +kernel) rfl
theorem fc_X1_15 : Cond.fieldLink RX1 15 RX1 "dogFloor" "I" ∈ sw_T := sw_mem 203 (by decide +kernel) rfl
theorem fc_X1_18 : Cond.fieldLink RX1 18 RX1 "riders" "I" ∈ sw_T := sw_mem 205 (by decide +kernel) rfl
theorem fc_X1_21 : Cond.fieldLink RX1 21 RX1 "home" "[I" ∈ sw_T := sw_mem 208 (by decide +kernel) rfl
theorem fc_X1_25 : Cond.fieldLink RX1 25 RX1 "truth" "[I" ∈ sw_T := sw_mem 210 (by decide +kernel) rfl
theorem cl_X1_28 : Cond.classLink RX1 28 RX2 ∈ sw_T := sw_mem 142 (by decide +kernel) rfl
theorem in_X2 : Cond.instantiable RX2 6 ∈ sw_T := sw_mem 143 (by decide +kernel) rfl
theorem ii_X2 : Cond.initialized RX2 ∈ sw_T := sw_mem 90 (by decide +kernel) rfl
theorem lc_X1_30 : Cond.methodLink RX1 30 yX2_init ∈ sw_T := sw_mem 144 (by decide +kernel) rfl
set_option maxRecDepth 50000 in
theorem wc_X2 : sw_C9 yX2_init cX2_init 1 0 := ⟨sw_mem 145 (by decide +kernel) rfl, sw_mem 90 (by decide +kernel) rfl, sw_mem 146 rfl rfl, ⟨by decide +kernel, by decide +kernel, by decide +kernel⟩, rfl⟩
theorem fc_X1_31 : Cond.fieldLink RX1 31 RX1 "rule" "LLeastWished$Law;" ∈ sw_T := sw_mem 212 (by decide +kernel) rfl
theorem cl_X1_35 : Cond.classLink RX1 35 RX5 ∈ sw_T := sw_mem 168 (by decide +kernel) rfl
theorem in_X5 : Cond.instantiable RX5 5 ∈ sw_T := sw_mem 169 (by decide +kernel) rfl
theorem ii_X5 : Cond.initialized RX5 ∈ sw_T := sw_mem 91 (by decide +kernel) rfl
theorem lc_X1_37 : Cond.methodLinkNest RX1 37 yX5_init "LeastWished" ∈ lw_tbl := List.mem_of_getElem? (i := 170) (by decide +kernel)
set_option maxRecDepth 50000 in
theorem wc_X5 : sw_C9 yX5_init cX5_init 1 0 := ⟨sw_mem 171 (by decide +kernel) rfl, sw_mem 91 (by decide +kernel) rfl, sw_mem 172 rfl rfl, ⟨by decide +kernel, by decide +kernel, by decide +kernel⟩, rfl⟩
theorem fc_X1_38 : Cond.fieldLink RX1 38 RX1 "scene" "LLeastWished$Scene;" ∈ sw_T := sw_mem 214 (by decide +kernel) rfl
abbrev rm_X1_init : Room := { frames := 2, cells := 9, slots := 169, locals := 60 }
set_option maxRecDepth 20000 in
theorem t_X1_init {l : Launch} {D : va_G} {cy : Nat → ClassId} {sz : Nat} {ρ : mk_RR} {I : sw_I} {J : sw_J} (hJ : ∀ k j, J k j = 0) (hz : mk_Z 3 ρ I) : AW l D cy sz RX1 cX1_init 1 none true rm_X1_init 9 169 (mk_Q 3 13 ρ I J) 0 0 (mk_G 4 ρ) I J 0 [(0, .ref (sz + 3))] [] := by
  have s := mkS.start (N := 7) hz
  refine aw_aload_n 0 dX1_init_0 rfl rfl ?_
  refine aw_oinit lo_X1 (Nat.le_of_ble_eq_true rfl) (Nat.le_of_ble_eq_true rfl) dX1_init_1 ?_
  refine aw_aload_n 0 dX1_init_4 rfl rfl ?_
  refine aw_iconst (v := 2) dX1_init_5 (by decide) ?_
  refine mk_putI (n := 4) (a := 3) (ci := 1) (k := 0) (C := RX1) (T := TX1) (N := 7) (ty := .int) rfl inT1 tyX1 tyX1_ok nmX1 (by decide) rfl (by decide) rfl rfl rfl rfl rfl rfl fc_X1_9 (by decide) rfl dX1_init_6 (fun I1 e2 => ?_)
  have s := s.putI1 (by decide) e2
  refine aw_aload_n 0 dX1_init_9 rfl rfl ?_
  refine aw_iconst (v := (-1)) dX1_init_10 (by decide) ?_
  refine mk_putI (n := 4) (a := 3) (ci := 1) (k := 1) (C := RX1) (T := TX1) (N := 7) (ty := .int) rfl inT1 tyX1 tyX1_ok nmX1 (by decide) rfl (by decide) rfl rfl rfl rfl rfl rfl fc_X1_15 (by decide) rfl dX1_init_11 (fun I3 e4 => ?_)
  have s := s.putI1 (by decide) e4
  refine aw_aload_n 0 dX1_init_14 rfl rfl ?_
  refine aw_iconst (v := 0) dX1_init_15 (by decide) ?_
  refine mk_putI (n := 4) (a := 3) (ci := 1) (k := 2) (C := RX1) (T := TX1) (N := 7) (ty := .int) rfl inT1 tyX1 tyX1_ok nmX1 (by decide) rfl (by decide) rfl rfl rfl rfl rfl rfl fc_X1_18 (by decide) rfl dX1_init_16 (fun I5 e6 => ?_)
  have s := s.putI1 (by decide) e6
  refine aw_aload_n 0 dX1_init_19 rfl rfl ?_
  refine aw_bipush (v := 10) dX1_init_20 (by decide) ?_
  refine mk_newI (n := 4) (ρ := ρ) rfl rfl (fun j => (s.2.2.2 4 (Nat.le_refl _) j).2) (by decide) rfl (by decide) (Nat.le_of_ble_eq_true rfl) (Nat.le_of_ble_eq_true rfl) dX1_init_22 ?_
  have s := s.new (fun _ => rfl) (fun _ _ => rfl)
  refine mk_putF (b := 4) (n := 5) (a := 3) (ci := 1) (k := 3) (C := RX1) (T := TX1) (N := 7) (ty := (.array .int)) rfl inT1 tyX1 tyX1_ok nmX1 (by decide) rfl (by decide) rfl rfl rfl rfl rfl rfl (fun _ => rfl) (fun _ => rfl) fc_X1_21 (by decide) rfl dX1_init_24 (fun ρ7 e8 => ?_)
  have s := s.putR1 (by decide) e8
  refine aw_aload_n 0 dX1_init_27 rfl rfl ?_
  refine aw_bipush (v := 10) dX1_init_28 (by decide) ?_
  refine mk_newI (n := 5) (ρ := ρ7) rfl rfl (fun j => (s.2.2.2 5 (Nat.le_refl _) j).2) (by decide) rfl (by decide) (Nat.le_of_ble_eq_true rfl) (Nat.le_of_ble_eq_true rfl) dX1_init_30 ?_
  have s := s.new (fun _ => rfl) (fun _ _ => rfl)
  refine mk_putF (b := 5) (n := 6) (a := 3) (ci := 1) (k := 4) (C := RX1) (T := TX1) (N := 7) (ty := (.array .int)) rfl inT1 tyX1 tyX1_ok nmX1 (by decide) rfl (by decide) rfl rfl rfl rfl rfl rfl (fun _ => rfl) (fun _ => rfl) fc_X1_25 (by decide) rfl dX1_init_32 (fun ρ9 e10 => ?_)
  have s := s.putR1 (by decide) e10
  refine aw_aload_n 0 dX1_init_35 rfl rfl ?_
  refine mk_newX (n := 6) (ci := 2) (C := RX2) (T := TX2) (N := 6) (ρ := ρ9) rfl inT2 tyX2 tyX2_ok cl_X1_28 in_X2 ii_X2 rfl (by decide) rfl (by decide) s.2.2.2 (Nat.le_of_ble_eq_true rfl) (Nat.le_of_ble_eq_true rfl) dX1_init_36 ?_
  refine aw_dup dX1_init_39 rfl ?_
  refine aw_callI wc_X2 (M_X2_init hJ s.2.2.2) lc_X1_30 rfl rfl (Nat.le_of_ble_eq_true rfl) ⟨rfl, rfl⟩ ⟨Nat.le_of_ble_eq_true rfl, Nat.le_of_ble_eq_true rfl⟩ ⟨Nat.le_of_ble_eq_true rfl, Nat.le_of_ble_eq_true rfl⟩ dX1_init_40 (mk_kc fun ρ11 I12 h13 => ?_)
  have s := s.sub h13 (by decide) (by decide)
  refine mk_putF (b := 6) (n := 10) (a := 3) (ci := 1) (k := 5) (C := RX1) (T := TX1) (N := 7) (ty := (.object "LeastWished$Law")) rfl inT1 tyX1 tyX1_ok nmX1 (by decide) rfl (by decide) rfl rfl rfl rfl rfl rfl (fun _ => rfl) (fun _ => rfl) fc_X1_31 (by decide) rfl dX1_init_43 (fun ρ14 e15 => ?_)
  have s := s.putR1 (by decide) e15
  refine aw_aload_n 0 dX1_init_46 rfl rfl ?_
  refine mk_newX (n := 10) (ci := 5) (C := RX5) (T := TX5) (N := 5) (ρ := ρ14) rfl inT5 tyX5 tyX5_ok cl_X1_35 in_X5 ii_X5 rfl (by decide) rfl (by decide) s.2.2.2 (Nat.le_of_ble_eq_true rfl) (Nat.le_of_ble_eq_true rfl) dX1_init_47 ?_
  refine aw_dup dX1_init_50 rfl ?_
  refine aw_callIN wc_X5 (M_X5_init hJ s.2.2.2) lc_X1_37 rfl rfl (Nat.le_of_ble_eq_true rfl) ⟨rfl, rfl⟩ ⟨Nat.le_of_ble_eq_true rfl, Nat.le_of_ble_eq_true rfl⟩ ⟨Nat.le_of_ble_eq_true rfl, Nat.le_of_ble_eq_true rfl⟩ dX1_init_51 (mk_kc fun ρ16 I17 h18 => ?_)
  have s := s.sub h18 (by decide) (by decide)
  refine mk_putF (b := 10) (n := 13) (a := 3) (ci := 1) (k := 6) (C := RX1) (T := TX1) (N := 7) (ty := (.object "LeastWished$Scene")) rfl inT1 tyX1 tyX1_ok nmX1 (by decide) rfl (by decide) rfl rfl rfl rfl rfl rfl (fun _ => rfl) (fun _ => rfl) fc_X1_38 (by decide) rfl dX1_init_54 (fun ρ19 e20 => ?_)
  have s := s.putR1 (by decide) e20
  have s := s.shut rfl (fun _ => rfl) (by decide)
  exact aw_vret rfl dX1_init_57 ⟨rfl, rfl, ρ19, rfl, s.fin⟩
theorem M_X1_init {l : Launch} {D : va_G} {cy : Nat → ClassId} {sz : Nat} {ρ : mk_RR} {I : sw_I} {J : sw_J} (hJ : ∀ k j, J k j = 0) (hz : mk_Z 3 ρ I) : Met l yX1_init (Cond.code yX1_init cX1_init 1 none :: sw_T) rm_X1_init (sw_Pc D cy sz [.ref (sz + 3)] (mk_G 4 ρ) I J) (sw_Q D cy sz (mk_Q 3 13 ρ I J)) 9 169 (fun q => sz ≤ q) :=
  sw_met (by decide) (fun _ => rfl) (Nat.le_of_ble_eq_true rfl) rfl (t_X1_init hJ hz)
theorem lo_X0 : Cond.methodLink RX0 3 Lib.objectInit ∈ sw_T := sw_mem 329 (by decide +kernel) rfl
theorem fc_X0_9 : Cond.fieldLink RX0 9 RX0 "acts" "I" ∈ sw_T := sw_mem 330 (by decide +kernel) rfl
theorem fc_X0_15 : Cond.fieldLink RX0 15 RX0 "rides" "I" ∈ sw_T := sw_mem 332 (by decide +kernel) rfl
theorem fc_X0_18 : Cond.fieldLink RX0 18 RX0 "deeds" "I" ∈ sw_T := sw_mem 334 (by decide +kernel) rfl
abbrev rm_X0_init : Room := { frames := 1, cells := 0, slots := 0, locals := 40 }
set_option maxRecDepth 20000 in
theorem t_X0_init {l : Launch} {D : va_G} {cy : Nat → ClassId} {sz : Nat} {ρ : mk_RR} {I : sw_I} {J : sw_J} (hJ : ∀ k j, J k j = 0) (hz : mk_Z 119 ρ I) : AW l D cy sz RX0 cX0_init 1 none true rm_X0_init 0 0 (mk_Q 119 120 ρ I J) 0 0 (mk_G 120 ρ) I J 0 [(0, .ref (sz + 119))] [] := by
  have s := mkS.start (N := 3) hz
  refine aw_aload_n 0 dX0_init_0 rfl rfl ?_
  refine aw_oinit lo_X0 (Nat.le_of_ble_eq_true rfl) (Nat.le_of_ble_eq_true rfl) dX0_init_1 ?_
  refine aw_aload_n 0 dX0_init_4 rfl rfl ?_
  refine aw_iconst (v := 0) dX0_init_5 (by decide) ?_
  refine mk_putI (n := 120) (a := 119) (ci := 0) (k := 0) (C := RX0) (T := TX0) (N := 3) (ty := .int) rfl inT0 tyX0 tyX0_ok nmX0 (by decide) rfl (by decide) rfl rfl rfl rfl rfl rfl fc_X0_9 (by decide) rfl dX0_init_6 (fun I1 e2 => ?_)
  have s := s.putI1 (by decide) e2
  refine aw_aload_n 0 dX0_init_9 rfl rfl ?_
  refine aw_iconst (v := 0) dX0_init_10 (by decide) ?_
  refine mk_putI (n := 120) (a := 119) (ci := 0) (k := 1) (C := RX0) (T := TX0) (N := 3) (ty := .int) rfl inT0 tyX0 tyX0_ok nmX0 (by decide) rfl (by decide) rfl rfl rfl rfl rfl rfl fc_X0_15 (by decide) rfl dX0_init_11 (fun I3 e4 => ?_)
  have s := s.putI1 (by decide) e4
  refine aw_aload_n 0 dX0_init_14 rfl rfl ?_
  refine aw_iconst (v := 0) dX0_init_15 (by decide) ?_
  refine mk_putI (n := 120) (a := 119) (ci := 0) (k := 2) (C := RX0) (T := TX0) (N := 3) (ty := .int) rfl inT0 tyX0 tyX0_ok nmX0 (by decide) rfl (by decide) rfl rfl rfl rfl rfl rfl fc_X0_18 (by decide) rfl dX0_init_16 (fun I5 e6 => ?_)
  have s := s.putI1 (by decide) e6
  have s := s.shut rfl (fun _ => rfl) (by decide)
  exact aw_vret rfl dX0_init_19 ⟨rfl, rfl, ρ, rfl, s.fin⟩
theorem M_X0_init {l : Launch} {D : va_G} {cy : Nat → ClassId} {sz : Nat} {ρ : mk_RR} {I : sw_I} {J : sw_J} (hJ : ∀ k j, J k j = 0) (hz : mk_Z 119 ρ I) : Met l yX0_init (Cond.code yX0_init cX0_init 1 none :: sw_T) rm_X0_init (sw_Pc D cy sz [.ref (sz + 119)] (mk_G 120 ρ) I J) (sw_Q D cy sz (mk_Q 119 120 ρ I J)) 0 0 (fun q => sz ≤ q) :=
  sw_met (by decide) (fun _ => rfl) (Nat.le_of_ble_eq_true rfl) rfl (t_X0_init hJ hz)
theorem lo_X7 : Cond.methodLink RX7 3 Lib.objectInit ∈ sw_T := sw_mem 303 (by decide +kernel) rfl
theorem fc_X7_9 : Cond.fieldLink RX7 9 RX7 "from" "[I" ∈ sw_T := sw_mem 306 (by decide +kernel) rfl
theorem fc_X7_15 : Cond.fieldLink RX7 15 RX7 "those" "[I" ∈ sw_T := sw_mem 307 (by decide +kernel) rfl
theorem fc_X7_18 : Cond.fieldLink RX7 18 RX7 "to" "[I" ∈ sw_T := sw_mem 308 (by decide +kernel) rfl
theorem cl_X7_21 : Cond.classLink RX7 21 RX3 ∈ sw_T := sw_mem 304 (by decide +kernel) rfl
theorem in_X3 : Cond.instantiable RX3 6 ∈ sw_T := sw_mem 232 (by decide +kernel) rfl
theorem ii_X3 : Cond.initialized RX3 ∈ sw_T := sw_mem 92 (by decide +kernel) rfl
theorem mk_mom13 : mk_mom 13 := ⟨⟨rfl, rfl, rfl, rfl⟩, ⟨rfl, rfl, rfl, rfl⟩, fun _ => rfl, fun _ => ⟨rfl, rfl, rfl⟩, fun j => ⟨rfl, rfl, rfl, rfl⟩⟩
theorem mk_mom17 : mk_mom 17 := ⟨⟨rfl, rfl, rfl, rfl⟩, ⟨rfl, rfl, rfl, rfl⟩, fun _ => rfl, fun _ => ⟨rfl, rfl, rfl⟩, fun j => ⟨rfl, rfl, rfl, rfl⟩⟩
theorem mk_mom23 : mk_mom 23 := ⟨⟨rfl, rfl, rfl, rfl⟩, ⟨rfl, rfl, rfl, rfl⟩, fun _ => rfl, fun _ => ⟨rfl, rfl, rfl⟩, fun j => ⟨rfl, rfl, rfl, rfl⟩⟩
theorem mk_mom27 : mk_mom 27 := ⟨⟨rfl, rfl, rfl, rfl⟩, ⟨rfl, rfl, rfl, rfl⟩, fun _ => rfl, fun _ => ⟨rfl, rfl, rfl⟩, fun j => ⟨rfl, rfl, rfl, rfl⟩⟩
theorem mk_mom31 : mk_mom 31 := ⟨⟨rfl, rfl, rfl, rfl⟩, ⟨rfl, rfl, rfl, rfl⟩, fun _ => rfl, fun _ => ⟨rfl, rfl, rfl⟩, fun j => ⟨rfl, rfl, rfl, rfl⟩⟩
theorem mk_mom35 : mk_mom 35 := ⟨⟨rfl, rfl, rfl, rfl⟩, ⟨rfl, rfl, rfl, rfl⟩, fun _ => rfl, fun _ => ⟨rfl, rfl, rfl⟩, fun j => ⟨rfl, rfl, rfl, rfl⟩⟩
theorem mk_mom39 : mk_mom 39 := ⟨⟨rfl, rfl, rfl, rfl⟩, ⟨rfl, rfl, rfl, rfl⟩, fun _ => rfl, fun _ => ⟨rfl, rfl, rfl⟩, fun j => ⟨rfl, rfl, rfl, rfl⟩⟩
theorem mk_mom43 : mk_mom 43 := ⟨⟨rfl, rfl, rfl, rfl⟩, ⟨rfl, rfl, rfl, rfl⟩, fun _ => rfl, fun _ => ⟨rfl, rfl, rfl⟩, fun j => ⟨rfl, rfl, rfl, rfl⟩⟩
theorem mk_mom47 : mk_mom 47 := ⟨⟨rfl, rfl, rfl, rfl⟩, ⟨rfl, rfl, rfl, rfl⟩, fun _ => rfl, fun _ => ⟨rfl, rfl, rfl⟩, fun j => ⟨rfl, rfl, rfl, rfl⟩⟩
theorem mk_mom51 : mk_mom 51 := ⟨⟨rfl, rfl, rfl, rfl⟩, ⟨rfl, rfl, rfl, rfl⟩, fun _ => rfl, fun _ => ⟨rfl, rfl, rfl⟩, fun j => ⟨rfl, rfl, rfl, rfl⟩⟩
theorem mk_mom55 : mk_mom 55 := ⟨⟨rfl, rfl, rfl, rfl⟩, ⟨rfl, rfl, rfl, rfl⟩, fun _ => rfl, fun _ => ⟨rfl, rfl, rfl⟩, fun j => ⟨rfl, rfl, rfl, rfl⟩⟩
theorem mk_mom59 : mk_mom 59 := ⟨⟨rfl, rfl, rfl, rfl⟩, ⟨rfl, rfl, rfl, rfl⟩, fun _ => rfl, fun _ => ⟨rfl, rfl, rfl⟩, fun j => ⟨rfl, rfl, rfl, rfl⟩⟩
theorem mk_mom63 : mk_mom 63 := ⟨⟨rfl, rfl, rfl, rfl⟩, ⟨rfl, rfl, rfl, rfl⟩, fun _ => rfl, fun _ => ⟨rfl, rfl, rfl⟩, fun j => ⟨rfl, rfl, rfl, rfl⟩⟩
theorem mk_mom67 : mk_mom 67 := ⟨⟨rfl, rfl, rfl, rfl⟩, ⟨rfl, rfl, rfl, rfl⟩, fun _ => rfl, fun _ => ⟨rfl, rfl, rfl⟩, fun j => ⟨rfl, rfl, rfl, rfl⟩⟩
theorem mk_mom71 : mk_mom 71 := ⟨⟨rfl, rfl, rfl, rfl⟩, ⟨rfl, rfl, rfl, rfl⟩, fun _ => rfl, fun _ => ⟨rfl, rfl, rfl⟩, fun j => ⟨rfl, rfl, rfl, rfl⟩⟩
theorem mk_mom75 : mk_mom 75 := ⟨⟨rfl, rfl, rfl, rfl⟩, ⟨rfl, rfl, rfl, rfl⟩, fun _ => rfl, fun _ => ⟨rfl, rfl, rfl⟩, fun j => ⟨rfl, rfl, rfl, rfl⟩⟩
theorem mk_mom79 : mk_mom 79 := ⟨⟨rfl, rfl, rfl, rfl⟩, ⟨rfl, rfl, rfl, rfl⟩, fun _ => rfl, fun _ => ⟨rfl, rfl, rfl⟩, fun j => ⟨rfl, rfl, rfl, rfl⟩⟩
theorem mk_mom83 : mk_mom 83 := ⟨⟨rfl, rfl, rfl, rfl⟩, ⟨rfl, rfl, rfl, rfl⟩, fun _ => rfl, fun _ => ⟨rfl, rfl, rfl⟩, fun j => ⟨rfl, rfl, rfl, rfl⟩⟩
theorem mk_mom87 : mk_mom 87 := ⟨⟨rfl, rfl, rfl, rfl⟩, ⟨rfl, rfl, rfl, rfl⟩, fun _ => rfl, fun _ => ⟨rfl, rfl, rfl⟩, fun j => ⟨rfl, rfl, rfl, rfl⟩⟩
theorem mk_mom91 : mk_mom 91 := ⟨⟨rfl, rfl, rfl, rfl⟩, ⟨rfl, rfl, rfl, rfl⟩, fun _ => rfl, fun _ => ⟨rfl, rfl, rfl⟩, fun j => ⟨rfl, rfl, rfl, rfl⟩⟩
theorem mk_mom95 : mk_mom 95 := ⟨⟨rfl, rfl, rfl, rfl⟩, ⟨rfl, rfl, rfl, rfl⟩, fun _ => rfl, fun _ => ⟨rfl, rfl, rfl⟩, fun j => ⟨rfl, rfl, rfl, rfl⟩⟩
theorem mk_mom99 : mk_mom 99 := ⟨⟨rfl, rfl, rfl, rfl⟩, ⟨rfl, rfl, rfl, rfl⟩, fun _ => rfl, fun _ => ⟨rfl, rfl, rfl⟩, fun j => ⟨rfl, rfl, rfl, rfl⟩⟩
theorem mk_mom103 : mk_mom 103 := ⟨⟨rfl, rfl, rfl, rfl⟩, ⟨rfl, rfl, rfl, rfl⟩, fun _ => rfl, fun _ => ⟨rfl, rfl, rfl⟩, fun j => ⟨rfl, rfl, rfl, rfl⟩⟩
theorem mk_mom113 : mk_mom 113 := ⟨⟨rfl, rfl, rfl, rfl⟩, ⟨rfl, rfl, rfl, rfl⟩, fun _ => rfl, fun _ => ⟨rfl, rfl, rfl⟩, fun j => ⟨rfl, rfl, rfl, rfl⟩⟩
theorem mk_mom121 : mk_mom 121 := ⟨⟨rfl, rfl, rfl, rfl⟩, ⟨rfl, rfl, rfl, rfl⟩, fun _ => rfl, fun _ => ⟨rfl, rfl, rfl⟩, fun j => ⟨rfl, rfl, rfl, rfl⟩⟩
theorem mk_mom128 : mk_mom 128 := ⟨⟨rfl, rfl, rfl, rfl⟩, ⟨rfl, rfl, rfl, rfl⟩, fun _ => rfl, fun _ => ⟨rfl, rfl, rfl⟩, fun j => ⟨rfl, rfl, rfl, rfl⟩⟩
theorem mk_mom132 : mk_mom 132 := ⟨⟨rfl, rfl, rfl, rfl⟩, ⟨rfl, rfl, rfl, rfl⟩, fun _ => rfl, fun _ => ⟨rfl, rfl, rfl⟩, fun j => ⟨rfl, rfl, rfl, rfl⟩⟩
theorem mk_mom136 : mk_mom 136 := ⟨⟨rfl, rfl, rfl, rfl⟩, ⟨rfl, rfl, rfl, rfl⟩, fun _ => rfl, fun _ => ⟨rfl, rfl, rfl⟩, fun j => ⟨rfl, rfl, rfl, rfl⟩⟩
theorem lc_X7_23 : Cond.methodLink RX7 23 yX3_init ∈ sw_T := sw_mem 305 (by decide +kernel) rfl
set_option maxRecDepth 50000 in
theorem wc_X3 : sw_C9 yX3_init cX3_init 1 0 := ⟨sw_mem 234 (by decide +kernel) rfl, sw_mem 92 (by decide +kernel) rfl, sw_mem 235 rfl rfl, ⟨by decide +kernel, by decide +kernel, by decide +kernel⟩, rfl⟩
theorem fc_X7_24 : Cond.fieldLink RX7 24 RX7 "alone" "LLeastWished$Moment;" ∈ sw_T := sw_mem 309 (by decide +kernel) rfl
theorem fc_X7_28 : Cond.fieldLink RX7 28 RX7 "size" "I" ∈ sw_T := sw_mem 310 (by decide +kernel) rfl
abbrev rm_X7_init : Room := { frames := 2, cells := 7, slots := 60, locals := 60 }
set_option maxRecDepth 20000 in
theorem t_X7_init {l : Launch} {D : va_G} {cy : Nat → ClassId} {sz : Nat} {ρ : mk_RR} {I : sw_I} {J : sw_J} (hJ : ∀ k j, J k j = 0) (hz : mk_Z 109 ρ I) : AW l D cy sz RX7 cX7_init 1 none true rm_X7_init 7 60 (mk_Q 109 117 ρ I J) 0 0 (mk_G 110 ρ) I J 0 [(0, .ref (sz + 109))] [] := by
  have s := mkS.start (N := 5) hz
  refine aw_aload_n 0 dX7_init_0 rfl rfl ?_
  refine aw_oinit lo_X7 (Nat.le_of_ble_eq_true rfl) (Nat.le_of_ble_eq_true rfl) dX7_init_1 ?_
  refine aw_aload_n 0 dX7_init_4 rfl rfl ?_
  refine aw_bipush (v := 8) dX7_init_5 (by decide) ?_
  refine mk_newI (n := 110) (ρ := ρ) rfl rfl (fun j => (s.2.2.2 110 (Nat.le_refl _) j).2) (by decide) rfl (by decide) (Nat.le_of_ble_eq_true rfl) (Nat.le_of_ble_eq_true rfl) dX7_init_7 ?_
  have s := s.new (fun _ => rfl) (fun _ _ => rfl)
  refine mk_putF (b := 110) (n := 111) (a := 109) (ci := 7) (k := 0) (C := RX7) (T := TX7) (N := 5) (ty := (.array .int)) rfl inT7 tyX7 tyX7_ok nmX7 (by decide) rfl (by decide) rfl rfl rfl rfl rfl rfl (fun _ => rfl) (fun _ => rfl) fc_X7_9 (by decide) rfl dX7_init_9 (fun ρ1 e2 => ?_)
  have s := s.putR1 (by decide) e2
  refine aw_aload_n 0 dX7_init_12 rfl rfl ?_
  refine aw_bipush (v := 8) dX7_init_13 (by decide) ?_
  refine mk_newI (n := 111) (ρ := ρ1) rfl rfl (fun j => (s.2.2.2 111 (Nat.le_refl _) j).2) (by decide) rfl (by decide) (Nat.le_of_ble_eq_true rfl) (Nat.le_of_ble_eq_true rfl) dX7_init_15 ?_
  have s := s.new (fun _ => rfl) (fun _ _ => rfl)
  refine mk_putF (b := 111) (n := 112) (a := 109) (ci := 7) (k := 1) (C := RX7) (T := TX7) (N := 5) (ty := (.array .int)) rfl inT7 tyX7 tyX7_ok nmX7 (by decide) rfl (by decide) rfl rfl rfl rfl rfl rfl (fun _ => rfl) (fun _ => rfl) fc_X7_15 (by decide) rfl dX7_init_17 (fun ρ3 e4 => ?_)
  have s := s.putR1 (by decide) e4
  refine aw_aload_n 0 dX7_init_20 rfl rfl ?_
  refine aw_bipush (v := 8) dX7_init_21 (by decide) ?_
  refine mk_newI (n := 112) (ρ := ρ3) rfl rfl (fun j => (s.2.2.2 112 (Nat.le_refl _) j).2) (by decide) rfl (by decide) (Nat.le_of_ble_eq_true rfl) (Nat.le_of_ble_eq_true rfl) dX7_init_23 ?_
  have s := s.new (fun _ => rfl) (fun _ _ => rfl)
  refine mk_putF (b := 112) (n := 113) (a := 109) (ci := 7) (k := 2) (C := RX7) (T := TX7) (N := 5) (ty := (.array .int)) rfl inT7 tyX7 tyX7_ok nmX7 (by decide) rfl (by decide) rfl rfl rfl rfl rfl rfl (fun _ => rfl) (fun _ => rfl) fc_X7_18 (by decide) rfl dX7_init_25 (fun ρ5 e6 => ?_)
  have s := s.putR1 (by decide) e6
  refine aw_aload_n 0 dX7_init_28 rfl rfl ?_
  refine mk_newX (n := 113) (ci := 3) (C := RX3) (T := TX3) (N := 6) (ρ := ρ5) rfl inT3 tyX3 tyX3_ok cl_X7_21 in_X3 ii_X3 rfl (by decide) rfl (by decide) s.2.2.2 (Nat.le_of_ble_eq_true rfl) (Nat.le_of_ble_eq_true rfl) dX7_init_29 ?_
  refine aw_dup dX7_init_32 rfl ?_
  refine aw_callI wc_X3 (M_X3_init mk_mom113 s.2.2.2) lc_X7_23 rfl rfl (Nat.le_of_ble_eq_true rfl) ⟨rfl, rfl⟩ ⟨Nat.le_of_ble_eq_true rfl, Nat.le_of_ble_eq_true rfl⟩ ⟨Nat.le_of_ble_eq_true rfl, Nat.le_of_ble_eq_true rfl⟩ dX7_init_33 (mk_kc fun ρ7 I8 h9 => ?_)
  have s := s.sub h9 (by decide) (by decide)
  refine mk_putF (b := 113) (n := 117) (a := 109) (ci := 7) (k := 3) (C := RX7) (T := TX7) (N := 5) (ty := (.object "LeastWished$Moment")) rfl inT7 tyX7 tyX7_ok nmX7 (by decide) rfl (by decide) rfl rfl rfl rfl rfl rfl (fun _ => rfl) (fun _ => rfl) fc_X7_24 (by decide) rfl dX7_init_36 (fun ρ10 e11 => ?_)
  have s := s.putR1 (by decide) e11
  refine aw_aload_n 0 dX7_init_39 rfl rfl ?_
  refine aw_iconst (v := 0) dX7_init_40 (by decide) ?_
  refine mk_putI (n := 117) (a := 109) (ci := 7) (k := 4) (C := RX7) (T := TX7) (N := 5) (ty := .int) rfl inT7 tyX7 tyX7_ok nmX7 (by decide) rfl (by decide) rfl rfl rfl rfl rfl rfl fc_X7_28 (by decide) rfl dX7_init_41 (fun I12 e13 => ?_)
  have s := s.putI1 (by decide) e13
  have s := s.shut rfl (fun _ => rfl) (by decide)
  exact aw_vret rfl dX7_init_44 ⟨rfl, rfl, ρ10, rfl, s.fin⟩
theorem M_X7_init {l : Launch} {D : va_G} {cy : Nat → ClassId} {sz : Nat} {ρ : mk_RR} {I : sw_I} {J : sw_J} (hJ : ∀ k j, J k j = 0) (hz : mk_Z 109 ρ I) : Met l yX7_init (Cond.code yX7_init cX7_init 1 none :: sw_T) rm_X7_init (sw_Pc D cy sz [.ref (sz + 109)] (mk_G 110 ρ) I J) (sw_Q D cy sz (mk_Q 109 117 ρ I J)) 7 60 (fun q => sz ≤ q) :=
  sw_met (by decide) (fun _ => rfl) (Nat.le_of_ble_eq_true rfl) rfl (t_X7_init hJ hz)
theorem lo_X6 : Cond.methodLink RX6 3 Lib.objectInit ∈ sw_T := sw_mem 349 (by decide +kernel) rfl
theorem cl_X6_9 : Cond.classLink RX6 9 RX3 ∈ sw_T := sw_mem 350 (by decide +kernel) rfl
theorem lc_X6_11 : Cond.methodLink RX6 11 yX3_init ∈ sw_T := sw_mem 351 (by decide +kernel) rfl
theorem fc_X6_12 : Cond.fieldLink RX6 12 RX6 "moment" "LLeastWished$Moment;" ∈ sw_T := sw_mem 352 (by decide +kernel) rfl
theorem fc_X6_18 : Cond.fieldLink RX6 18 RX6 "keys" "[J" ∈ sw_T := sw_mem 353 (by decide +kernel) rfl
theorem fc_X6_22 : Cond.fieldLink RX6 22 RX6 "steps" "[I" ∈ sw_T := sw_mem 354 (by decide +kernel) rfl
theorem fc_X6_26 : Cond.fieldLink RX6 26 RX6 "slots" "[I" ∈ sw_T := sw_mem 355 (by decide +kernel) rfl
theorem fc_X6_29 : Cond.fieldLink RX6 29 RX6 "found" "I" ∈ sw_T := sw_mem 356 (by decide +kernel) rfl
theorem fc_X6_33 : Cond.fieldLink RX6 33 RX6 "rides" "I" ∈ sw_T := sw_mem 358 (by decide +kernel) rfl
theorem fc_X6_36 : Cond.fieldLink RX6 36 RX6 "more" "Z" ∈ sw_T := sw_mem 360 (by decide +kernel) rfl
theorem fc_X6_40 : Cond.fieldLink RX6 40 RX6 "wanted" "I" ∈ sw_T := sw_mem 362 (by decide +kernel) rfl
theorem fc_X6_43 : Cond.fieldLink RX6 43 RX6 "wantedThose" "I" ∈ sw_T := sw_mem 363 (by decide +kernel) rfl
theorem fc_X6_46 : Cond.fieldLink RX6 46 RX6 "wantedFloor" "I" ∈ sw_T := sw_mem 364 (by decide +kernel) rfl
abbrev rm_X6_init : Room := { frames := 2, cells := 7, slots := 10132, locals := 60 }
set_option maxRecDepth 20000 in
theorem t_X6_init {l : Launch} {D : va_G} {cy : Nat → ClassId} {sz : Nat} {ρ : mk_RR} {I : sw_I} {J : sw_J} (hJ : ∀ k j, J k j = 0) (hz : mk_Z 120 ρ I) : AW l D cy sz RX6 cX6_init 1 none true rm_X6_init 7 10132 (mk_Q 120 128 ρ I J) 0 0 (mk_G 121 ρ) I J 0 [(0, .ref (sz + 120))] [] := by
  have s := mkS.start (N := 10) hz
  refine aw_aload_n 0 dX6_init_0 rfl rfl ?_
  refine aw_oinit lo_X6 (Nat.le_of_ble_eq_true rfl) (Nat.le_of_ble_eq_true rfl) dX6_init_1 ?_
  refine aw_aload_n 0 dX6_init_4 rfl rfl ?_
  refine mk_newX (n := 121) (ci := 3) (C := RX3) (T := TX3) (N := 6) (ρ := ρ) rfl inT3 tyX3 tyX3_ok cl_X6_9 in_X3 ii_X3 rfl (by decide) rfl (by decide) s.2.2.2 (Nat.le_of_ble_eq_true rfl) (Nat.le_of_ble_eq_true rfl) dX6_init_5 ?_
  refine aw_dup dX6_init_8 rfl ?_
  refine aw_callI wc_X3 (M_X3_init mk_mom121 s.2.2.2) lc_X6_11 rfl rfl (Nat.le_of_ble_eq_true rfl) ⟨rfl, rfl⟩ ⟨Nat.le_of_ble_eq_true rfl, Nat.le_of_ble_eq_true rfl⟩ ⟨Nat.le_of_ble_eq_true rfl, Nat.le_of_ble_eq_true rfl⟩ dX6_init_9 (mk_kc fun ρ1 I2 h3 => ?_)
  have s := s.sub h3 (by decide) (by decide)
  refine mk_putF (b := 121) (n := 125) (a := 120) (ci := 6) (k := 0) (C := RX6) (T := TX6) (N := 10) (ty := (.object "LeastWished$Moment")) rfl inT6 tyX6 tyX6_ok nmX6 (by decide) rfl (by decide) rfl rfl rfl rfl rfl rfl (fun _ => rfl) (fun _ => rfl) fc_X6_12 (by decide) rfl dX6_init_12 (fun ρ4 e5 => ?_)
  have s := s.putR1 (by decide) e5
  refine aw_aload_n 0 dX6_init_15 rfl rfl ?_
  refine aw_sipush (v := 3000) dX6_init_16 (by decide) ?_
  refine mk_newL (n := 125) (ρ := ρ4) rfl rfl (fun j => hJ _ j) (by decide) rfl (by decide) (Nat.le_of_ble_eq_true rfl) (Nat.le_of_ble_eq_true rfl) dX6_init_19 ?_
  have s := s.new (fun _ => rfl) (fun _ _ => rfl)
  refine mk_putF (b := 125) (n := 126) (a := 120) (ci := 6) (k := 1) (C := RX6) (T := TX6) (N := 10) (ty := (.array .long)) rfl inT6 tyX6 tyX6_ok nmX6 (by decide) rfl (by decide) rfl rfl rfl rfl rfl rfl (fun _ => rfl) (fun _ => rfl) fc_X6_18 (by decide) rfl dX6_init_21 (fun ρ6 e7 => ?_)
  have s := s.putR1 (by decide) e7
  refine aw_aload_n 0 dX6_init_24 rfl rfl ?_
  refine aw_sipush (v := 3000) dX6_init_25 (by decide) ?_
  refine mk_newI (n := 126) (ρ := ρ6) rfl rfl (fun j => (s.2.2.2 126 (Nat.le_refl _) j).2) (by decide) rfl (by decide) (Nat.le_of_ble_eq_true rfl) (Nat.le_of_ble_eq_true rfl) dX6_init_28 ?_
  have s := s.new (fun _ => rfl) (fun _ _ => rfl)
  refine mk_putF (b := 126) (n := 127) (a := 120) (ci := 6) (k := 2) (C := RX6) (T := TX6) (N := 10) (ty := (.array .int)) rfl inT6 tyX6 tyX6_ok nmX6 (by decide) rfl (by decide) rfl rfl rfl rfl rfl rfl (fun _ => rfl) (fun _ => rfl) fc_X6_22 (by decide) rfl dX6_init_30 (fun ρ8 e9 => ?_)
  have s := s.putR1 (by decide) e9
  refine aw_aload_n 0 dX6_init_33 rfl rfl ?_
  refine aw_sipush (v := 4096) dX6_init_34 (by decide) ?_
  refine mk_newI (n := 127) (ρ := ρ8) rfl rfl (fun j => (s.2.2.2 127 (Nat.le_refl _) j).2) (by decide) rfl (by decide) (Nat.le_of_ble_eq_true rfl) (Nat.le_of_ble_eq_true rfl) dX6_init_37 ?_
  have s := s.new (fun _ => rfl) (fun _ _ => rfl)
  refine mk_putF (b := 127) (n := 128) (a := 120) (ci := 6) (k := 3) (C := RX6) (T := TX6) (N := 10) (ty := (.array .int)) rfl inT6 tyX6 tyX6_ok nmX6 (by decide) rfl (by decide) rfl rfl rfl rfl rfl rfl (fun _ => rfl) (fun _ => rfl) fc_X6_26 (by decide) rfl dX6_init_39 (fun ρ10 e11 => ?_)
  have s := s.putR1 (by decide) e11
  refine aw_aload_n 0 dX6_init_42 rfl rfl ?_
  refine aw_iconst (v := 0) dX6_init_43 (by decide) ?_
  refine mk_putI (n := 128) (a := 120) (ci := 6) (k := 4) (C := RX6) (T := TX6) (N := 10) (ty := .int) rfl inT6 tyX6 tyX6_ok nmX6 (by decide) rfl (by decide) rfl rfl rfl rfl rfl rfl fc_X6_29 (by decide) rfl dX6_init_44 (fun I12 e13 => ?_)
  have s := s.putI1 (by decide) e13
  refine aw_aload_n 0 dX6_init_47 rfl rfl ?_
  refine aw_iconst (v := 0) dX6_init_48 (by decide) ?_
  refine mk_putI (n := 128) (a := 120) (ci := 6) (k := 5) (C := RX6) (T := TX6) (N := 10) (ty := .int) rfl inT6 tyX6 tyX6_ok nmX6 (by decide) rfl (by decide) rfl rfl rfl rfl rfl rfl fc_X6_33 (by decide) rfl dX6_init_49 (fun I14 e15 => ?_)
  have s := s.putI1 (by decide) e15
  refine aw_aload_n 0 dX6_init_52 rfl rfl ?_
  refine aw_iconst (v := 0) dX6_init_53 (by decide) ?_
  refine mk_putI (n := 128) (a := 120) (ci := 6) (k := 6) (C := RX6) (T := TX6) (N := 10) (ty := .boolean) rfl inT6 tyX6 tyX6_ok nmX6 (by decide) rfl (by decide) rfl rfl rfl rfl rfl rfl fc_X6_36 (by decide) rfl dX6_init_54 (fun I16 e17 => ?_)
  have s := s.putI1 (by decide) e17
  refine aw_aload_n 0 dX6_init_57 rfl rfl ?_
  refine aw_iconst (v := 0) dX6_init_58 (by decide) ?_
  refine mk_putI (n := 128) (a := 120) (ci := 6) (k := 7) (C := RX6) (T := TX6) (N := 10) (ty := .int) rfl inT6 tyX6 tyX6_ok nmX6 (by decide) rfl (by decide) rfl rfl rfl rfl rfl rfl fc_X6_40 (by decide) rfl dX6_init_59 (fun I18 e19 => ?_)
  have s := s.putI1 (by decide) e19
  refine aw_aload_n 0 dX6_init_62 rfl rfl ?_
  refine aw_iconst (v := 0) dX6_init_63 (by decide) ?_
  refine mk_putI (n := 128) (a := 120) (ci := 6) (k := 8) (C := RX6) (T := TX6) (N := 10) (ty := .int) rfl inT6 tyX6 tyX6_ok nmX6 (by decide) rfl (by decide) rfl rfl rfl rfl rfl rfl fc_X6_43 (by decide) rfl dX6_init_64 (fun I20 e21 => ?_)
  have s := s.putI1 (by decide) e21
  refine aw_aload_n 0 dX6_init_67 rfl rfl ?_
  refine aw_iconst (v := 0) dX6_init_68 (by decide) ?_
  refine mk_putI (n := 128) (a := 120) (ci := 6) (k := 9) (C := RX6) (T := TX6) (N := 10) (ty := .int) rfl inT6 tyX6 tyX6_ok nmX6 (by decide) rfl (by decide) rfl rfl rfl rfl rfl rfl fc_X6_46 (by decide) rfl dX6_init_69 (fun I22 e23 => ?_)
  have s := s.putI1 (by decide) e23
  have s := s.shut rfl (fun _ => rfl) (by decide)
  exact aw_vret rfl dX6_init_72 ⟨rfl, rfl, ρ10, rfl, s.fin⟩
theorem M_X6_init {l : Launch} {D : va_G} {cy : Nat → ClassId} {sz : Nat} {ρ : mk_RR} {I : sw_I} {J : sw_J} (hJ : ∀ k j, J k j = 0) (hz : mk_Z 120 ρ I) : Met l yX6_init (Cond.code yX6_init cX6_init 1 none :: sw_T) rm_X6_init (sw_Pc D cy sz [.ref (sz + 120)] (mk_G 121 ρ) I J) (sw_Q D cy sz (mk_Q 120 128 ρ I J)) 7 10132 (fun q => sz ≤ q) :=
  sw_met (by decide) (fun _ => rfl) (Nat.le_of_ble_eq_true rfl) rfl (t_X6_init hJ hz)
