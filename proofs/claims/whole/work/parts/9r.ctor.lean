theorem lo_X8 : Cond.methodLink RX8 3 Lib.objectInit ∈ sw_T := sw_mem 123 (by decide +kernel) rfl
theorem fc_X8_9 : Cond.fieldLink RX8 9 RX8 "signs" "[I" ∈ sw_T := sw_mem 124 (by decide +kernel) rfl
theorem fc_X8_15 : Cond.fieldLink RX8 15 RX8 "size" "I" ∈ sw_T := sw_mem 125 (by decide +kernel) rfl
abbrev rm_X8_init : Room := { frames := 1, cells := 1, slots := 80, locals := 40 }
set_option maxRecDepth 20000 in
theorem t_X8_init {l : Launch} {D : va_G} {cy : Nat → ClassId} {sz : Nat} {ρ : mk_RR} {I : sw_I} {J : sw_J} (hJ : ∀ k j, J k j = 0) (hz : mk_Z 1 ρ I) : AW l D cy sz RX8 cX8_init 1 none true rm_X8_init 1 80 (mk_Q 1 3 ρ I J) 0 0 (mk_G 2 ρ) I J 0 [(0, .ref (sz + 1))] [] := by
  have s := mkS.start (N := 2) hz
  refine aw_aload_n 0 dX8_init_0 rfl rfl ?_
  refine aw_oinit lo_X8 (Nat.le_of_ble_eq_true rfl) (Nat.le_of_ble_eq_true rfl) dX8_init_1 ?_
  refine aw_aload_n 0 dX8_init_4 rfl rfl ?_
  refine aw_bipush (v := 80) dX8_init_5 (by decide) ?_
  refine mk_newI (n := 2) (ρ := ρ) rfl rfl (fun j => (s.2.2.2 2 (Nat.le_refl _) j).2) (by decide) rfl (by decide) (Nat.le_of_ble_eq_true rfl) (Nat.le_of_ble_eq_true rfl) dX8_init_7 ?_
  have s := s.new (fun _ => rfl) (fun _ _ => rfl)
  refine mk_putF (b := 2) (n := 3) (a := 1) (ci := 8) (k := 0) (C := RX8) (T := TX8) (N := 2) (ty := (.array .int)) rfl inT8 tyX8 tyX8_ok nmX8 (by decide) rfl (by decide) rfl rfl rfl rfl rfl rfl (fun _ => rfl) (fun _ => rfl) fc_X8_9 (by decide) rfl dX8_init_9 (fun ρ1 e2 => ?_)
  have s := s.putR1 (by decide) e2
  refine aw_aload_n 0 dX8_init_12 rfl rfl ?_
  refine aw_iconst (v := 0) dX8_init_13 (by decide) ?_
  refine mk_putI (n := 3) (a := 1) (ci := 8) (k := 1) (C := RX8) (T := TX8) (N := 2) (ty := .int) rfl inT8 tyX8 tyX8_ok nmX8 (by decide) rfl (by decide) rfl rfl rfl rfl rfl rfl fc_X8_15 (by decide) rfl dX8_init_14 (fun I3 e4 => ?_)
  have s := s.putI1 (by decide) e4
  have s := s.shut rfl (fun _ => rfl) (by decide)
  exact aw_vret rfl dX8_init_17 ⟨rfl, rfl, ρ1, rfl, s.fin⟩
theorem M_X8_init {l : Launch} {D : va_G} {cy : Nat → ClassId} {sz : Nat} {ρ : mk_RR} {I : sw_I} {J : sw_J} (hJ : ∀ k j, J k j = 0) (hz : mk_Z 1 ρ I) : Met l yX8_init (Cond.code yX8_init cX8_init 1 none :: sw_T) rm_X8_init (sw_Pc D cy sz [.ref (sz + 1)] (mk_G 2 ρ) I J) (sw_Q D cy sz (mk_Q 1 3 ρ I J)) 1 80 (fun q => sz ≤ q) :=
  sw_met (by decide) (fun _ => rfl) (Nat.le_of_ble_eq_true rfl) rfl (t_X8_init hJ hz)
theorem lo_X5 : Cond.methodLink RX5 3 Lib.objectInit ∈ sw_T := sw_mem 173 (by decide +kernel) rfl
theorem fc_X5_9 : Cond.fieldLink RX5 9 RX5 "wished" "[I" ∈ sw_T := sw_mem 174 (by decide +kernel) rfl
theorem fc_X5_15 : Cond.fieldLink RX5 15 RX5 "standing" "[I" ∈ sw_T := sw_mem 177 (by decide +kernel) rfl
theorem fc_X5_18 : Cond.fieldLink RX5 18 RX5 "in" "I" ∈ sw_T := sw_mem 180 (by decide +kernel) rfl
theorem fc_X5_22 : Cond.fieldLink RX5 22 RX5 "lift" "I" ∈ sw_T := sw_mem 183 (by decide +kernel) rfl
theorem fc_X5_25 : Cond.fieldLink RX5 25 RX5 "rides" "I" ∈ sw_T := sw_mem 186 (by decide +kernel) rfl
abbrev rm_X5_init : Room := { frames := 1, cells := 2, slots := 18, locals := 40 }
set_option maxRecDepth 20000 in
theorem t_X5_init {l : Launch} {D : va_G} {cy : Nat → ClassId} {sz : Nat} {ρ : mk_RR} {I : sw_I} {J : sw_J} (hJ : ∀ k j, J k j = 0) (hz : mk_Z 10 ρ I) : AW l D cy sz RX5 cX5_init 1 none true rm_X5_init 2 18 (mk_Q 10 13 ρ I J) 0 0 (mk_G 11 ρ) I J 0 [(0, .ref (sz + 10))] [] := by
  have s := mkS.start (N := 5) hz
  refine aw_aload_n 0 dX5_init_0 rfl rfl ?_
  refine aw_oinit lo_X5 (Nat.le_of_ble_eq_true rfl) (Nat.le_of_ble_eq_true rfl) dX5_init_1 ?_
  refine aw_aload_n 0 dX5_init_4 rfl rfl ?_
  refine aw_bipush (v := 9) dX5_init_5 (by decide) ?_
  refine mk_newI (n := 11) (ρ := ρ) rfl rfl (fun j => (s.2.2.2 11 (Nat.le_refl _) j).2) (by decide) rfl (by decide) (Nat.le_of_ble_eq_true rfl) (Nat.le_of_ble_eq_true rfl) dX5_init_7 ?_
  have s := s.new (fun _ => rfl) (fun _ _ => rfl)
  refine mk_putF (b := 11) (n := 12) (a := 10) (ci := 5) (k := 0) (C := RX5) (T := TX5) (N := 5) (ty := (.array .int)) rfl inT5 tyX5 tyX5_ok nmX5 (by decide) rfl (by decide) rfl rfl rfl rfl rfl rfl (fun _ => rfl) (fun _ => rfl) fc_X5_9 (by decide) rfl dX5_init_9 (fun ρ1 e2 => ?_)
  have s := s.putR1 (by decide) e2
  refine aw_aload_n 0 dX5_init_12 rfl rfl ?_
  refine aw_bipush (v := 9) dX5_init_13 (by decide) ?_
  refine mk_newI (n := 12) (ρ := ρ1) rfl rfl (fun j => (s.2.2.2 12 (Nat.le_refl _) j).2) (by decide) rfl (by decide) (Nat.le_of_ble_eq_true rfl) (Nat.le_of_ble_eq_true rfl) dX5_init_15 ?_
  have s := s.new (fun _ => rfl) (fun _ _ => rfl)
  refine mk_putF (b := 12) (n := 13) (a := 10) (ci := 5) (k := 1) (C := RX5) (T := TX5) (N := 5) (ty := (.array .int)) rfl inT5 tyX5 tyX5_ok nmX5 (by decide) rfl (by decide) rfl rfl rfl rfl rfl rfl (fun _ => rfl) (fun _ => rfl) fc_X5_15 (by decide) rfl dX5_init_17 (fun ρ3 e4 => ?_)
  have s := s.putR1 (by decide) e4
  refine aw_aload_n 0 dX5_init_20 rfl rfl ?_
  refine aw_iconst (v := 0) dX5_init_21 (by decide) ?_
  refine mk_putI (n := 13) (a := 10) (ci := 5) (k := 2) (C := RX5) (T := TX5) (N := 5) (ty := .int) rfl inT5 tyX5 tyX5_ok nmX5 (by decide) rfl (by decide) rfl rfl rfl rfl rfl rfl fc_X5_18 (by decide) rfl dX5_init_22 (fun I5 e6 => ?_)
  have s := s.putI1 (by decide) e6
  refine aw_aload_n 0 dX5_init_25 rfl rfl ?_
  refine aw_iconst (v := 0) dX5_init_26 (by decide) ?_
  refine mk_putI (n := 13) (a := 10) (ci := 5) (k := 3) (C := RX5) (T := TX5) (N := 5) (ty := .int) rfl inT5 tyX5 tyX5_ok nmX5 (by decide) rfl (by decide) rfl rfl rfl rfl rfl rfl fc_X5_22 (by decide) rfl dX5_init_27 (fun I7 e8 => ?_)
  have s := s.putI1 (by decide) e8
  refine aw_aload_n 0 dX5_init_30 rfl rfl ?_
  refine aw_iconst (v := 0) dX5_init_31 (by decide) ?_
  refine mk_putI (n := 13) (a := 10) (ci := 5) (k := 4) (C := RX5) (T := TX5) (N := 5) (ty := .int) rfl inT5 tyX5 tyX5_ok nmX5 (by decide) rfl (by decide) rfl rfl rfl rfl rfl rfl fc_X5_25 (by decide) rfl dX5_init_32 (fun I9 e10 => ?_)
  have s := s.putI1 (by decide) e10
  have s := s.shut rfl (fun _ => rfl) (by decide)
  exact aw_vret rfl dX5_init_35 ⟨rfl, rfl, ρ3, rfl, s.fin⟩
theorem M_X5_init {l : Launch} {D : va_G} {cy : Nat → ClassId} {sz : Nat} {ρ : mk_RR} {I : sw_I} {J : sw_J} (hJ : ∀ k j, J k j = 0) (hz : mk_Z 10 ρ I) : Met l yX5_init (Cond.code yX5_init cX5_init 1 none :: sw_T) rm_X5_init (sw_Pc D cy sz [.ref (sz + 10)] (mk_G 11 ρ) I J) (sw_Q D cy sz (mk_Q 10 13 ρ I J)) 2 18 (fun q => sz ≤ q) :=
  sw_met (by decide) (fun _ => rfl) (Nat.le_of_ble_eq_true rfl) rfl (t_X5_init hJ hz)
theorem lo_X2 : Cond.methodLink RX2 3 Lib.objectInit ∈ sw_T := sw_mem 147 (by decide +kernel) rfl
theorem fc_X2_9 : Cond.fieldLink RX2 9 RX2 "code" "[I" ∈ sw_T := sw_mem 148 (by decide +kernel) rfl
theorem fc_X2_15 : Cond.fieldLink RX2 15 RX2 "waiting" "[I" ∈ sw_T := sw_mem 149 (by decide +kernel) rfl
theorem fc_X2_18 : Cond.fieldLink RX2 18 RX2 "values" "[I" ∈ sw_T := sw_mem 150 (by decide +kernel) rfl
theorem fc_X2_21 : Cond.fieldLink RX2 21 RX2 "size" "I" ∈ sw_T := sw_mem 151 (by decide +kernel) rfl
theorem fc_X2_25 : Cond.fieldLink RX2 25 RX2 "waitingCount" "I" ∈ sw_T := sw_mem 152 (by decide +kernel) rfl
theorem fc_X2_28 : Cond.fieldLink RX2 28 RX2 "asksRides" "Z" ∈ sw_T := sw_mem 153 (by decide +kernel) rfl
abbrev rm_X2_init : Room := { frames := 1, cells := 3, slots := 120, locals := 40 }
set_option maxRecDepth 20000 in
theorem t_X2_init {l : Launch} {D : va_G} {cy : Nat → ClassId} {sz : Nat} {ρ : mk_RR} {I : sw_I} {J : sw_J} (hJ : ∀ k j, J k j = 0) (hz : mk_Z 6 ρ I) : AW l D cy sz RX2 cX2_init 1 none true rm_X2_init 3 120 (mk_Q 6 10 ρ I J) 0 0 (mk_G 7 ρ) I J 0 [(0, .ref (sz + 6))] [] := by
  have s := mkS.start (N := 6) hz
  refine aw_aload_n 0 dX2_init_0 rfl rfl ?_
  refine aw_oinit lo_X2 (Nat.le_of_ble_eq_true rfl) (Nat.le_of_ble_eq_true rfl) dX2_init_1 ?_
  refine aw_aload_n 0 dX2_init_4 rfl rfl ?_
  refine aw_bipush (v := 40) dX2_init_5 (by decide) ?_
  refine mk_newI (n := 7) (ρ := ρ) rfl rfl (fun j => (s.2.2.2 7 (Nat.le_refl _) j).2) (by decide) rfl (by decide) (Nat.le_of_ble_eq_true rfl) (Nat.le_of_ble_eq_true rfl) dX2_init_7 ?_
  have s := s.opn (N := 40) (by decide)
  have s := s.swap (by decide)
  refine mk_putF (b := 7) (n := 8) (a := 6) (ci := 2) (k := 0) (C := RX2) (T := TX2) (N := 6) (ty := (.array .int)) rfl inT2 tyX2 tyX2_ok nmX2 (by decide) rfl (by decide) rfl rfl rfl rfl rfl rfl (fun _ => rfl) (fun _ => rfl) fc_X2_9 (by decide) rfl dX2_init_9 (fun ρ1 e2 => ?_)
  have s := s.putR1 (by decide) e2
  refine aw_aload_n 0 dX2_init_12 rfl rfl ?_
  refine aw_bipush (v := 40) dX2_init_13 (by decide) ?_
  refine mk_newI (n := 8) (ρ := ρ1) rfl rfl (fun j => (s.2.2.2 8 (Nat.le_refl _) j).2) (by decide) rfl (by decide) (Nat.le_of_ble_eq_true rfl) (Nat.le_of_ble_eq_true rfl) dX2_init_15 ?_
  have s := s.new (fun _ => rfl) (fun _ _ => rfl)
  refine mk_putF (b := 8) (n := 9) (a := 6) (ci := 2) (k := 1) (C := RX2) (T := TX2) (N := 6) (ty := (.array .int)) rfl inT2 tyX2 tyX2_ok nmX2 (by decide) rfl (by decide) rfl rfl rfl rfl rfl rfl (fun _ => rfl) (fun _ => rfl) fc_X2_15 (by decide) rfl dX2_init_17 (fun ρ3 e4 => ?_)
  have s := s.putR1 (by decide) e4
  refine aw_aload_n 0 dX2_init_20 rfl rfl ?_
  refine aw_bipush (v := 40) dX2_init_21 (by decide) ?_
  refine mk_newI (n := 9) (ρ := ρ3) rfl rfl (fun j => (s.2.2.2 9 (Nat.le_refl _) j).2) (by decide) rfl (by decide) (Nat.le_of_ble_eq_true rfl) (Nat.le_of_ble_eq_true rfl) dX2_init_23 ?_
  have s := s.new (fun _ => rfl) (fun _ _ => rfl)
  refine mk_putF (b := 9) (n := 10) (a := 6) (ci := 2) (k := 2) (C := RX2) (T := TX2) (N := 6) (ty := (.array .int)) rfl inT2 tyX2 tyX2_ok nmX2 (by decide) rfl (by decide) rfl rfl rfl rfl rfl rfl (fun _ => rfl) (fun _ => rfl) fc_X2_18 (by decide) rfl dX2_init_25 (fun ρ5 e6 => ?_)
  have s := s.putR1 (by decide) e6
  refine aw_aload_n 0 dX2_init_28 rfl rfl ?_
  refine aw_iconst (v := 0) dX2_init_29 (by decide) ?_
  refine mk_putI (n := 10) (a := 6) (ci := 2) (k := 3) (C := RX2) (T := TX2) (N := 6) (ty := .int) rfl inT2 tyX2 tyX2_ok nmX2 (by decide) rfl (by decide) rfl rfl rfl rfl rfl rfl fc_X2_21 (by decide) rfl dX2_init_30 (fun I7 e8 => ?_)
  have s := s.putI1 (by decide) e8
  refine aw_aload_n 0 dX2_init_33 rfl rfl ?_
  refine aw_iconst (v := 0) dX2_init_34 (by decide) ?_
  refine mk_putI (n := 10) (a := 6) (ci := 2) (k := 4) (C := RX2) (T := TX2) (N := 6) (ty := .int) rfl inT2 tyX2 tyX2_ok nmX2 (by decide) rfl (by decide) rfl rfl rfl rfl rfl rfl fc_X2_25 (by decide) rfl dX2_init_35 (fun I9 e10 => ?_)
  have s := s.putI1 (by decide) e10
  refine aw_aload_n 0 dX2_init_38 rfl rfl ?_
  refine aw_iconst (v := 0) dX2_init_39 (by decide) ?_
  refine mk_putI (n := 10) (a := 6) (ci := 2) (k := 5) (C := RX2) (T := TX2) (N := 6) (ty := .boolean) rfl inT2 tyX2 tyX2_ok nmX2 (by decide) rfl (by decide) rfl rfl rfl rfl rfl rfl fc_X2_28 (by decide) rfl dX2_init_40 (fun I11 e12 => ?_)
  have s := s.putI1 (by decide) e12
  refine aw_aload_n 0 dX2_init_43 rfl rfl ?_
  have q13 : ρ5 6 0 = some 7 := (s.2.2.1 6 _ rfl).2.1 0
  refine aw_get (a := 6) (ci := 2) (k := 0) (C := RX2) (T := TX2) (N := 6) (v := .ref (sz + 7)) rfl inT2 (by decide) rfl (by decide) rfl (by show (if _ then va_rf (sw_o sz (ρ5 6 0)) else _) = _; rw [q13]; rfl) fc_X2_9 ⟨List.mem_range.mpr (by decide), rfl⟩ dX2_init_44 ?_
  refine aw_iconst (v := 0) dX2_init_47 (by decide) ?_
  refine aw_bipush (v := (-119)) dX2_init_48 (by decide) ?_
  have s := s.swap (by decide)
  refine aw_ist (n := 40) dX2_init_50 ⟨List.mem_range.mpr (by decide), rfl⟩ rfl (by unfold vp_in; decide) (aw_nameI fun I14 e15 => ?_)
  have s := s.putI1 (by decide) e15
  refine aw_aload_n 0 dX2_init_51 rfl rfl ?_
  refine aw_iconst (v := 1) dX2_init_52 (by decide) ?_
  have s := s.swap (by decide)
  refine mk_putI (n := 10) (a := 6) (ci := 2) (k := 3) (C := RX2) (T := TX2) (N := 6) (ty := .int) rfl inT2 tyX2 tyX2_ok nmX2 (by decide) rfl (by decide) rfl rfl rfl rfl rfl rfl fc_X2_21 (by decide) rfl dX2_init_53 (fun I16 e17 => ?_)
  have s := s.putI1 (by decide) e17
  have s := s.shut rfl (fun _ => rfl) (by decide)
  have s := s.shut rfl (fun j => getD_rep _ j none) (by decide)
  exact aw_vret rfl dX2_init_56 ⟨rfl, rfl, ρ5, rfl, s.fin⟩
theorem M_X2_init {l : Launch} {D : va_G} {cy : Nat → ClassId} {sz : Nat} {ρ : mk_RR} {I : sw_I} {J : sw_J} (hJ : ∀ k j, J k j = 0) (hz : mk_Z 6 ρ I) : Met l yX2_init (Cond.code yX2_init cX2_init 1 none :: sw_T) rm_X2_init (sw_Pc D cy sz [.ref (sz + 6)] (mk_G 7 ρ) I J) (sw_Q D cy sz (mk_Q 6 10 ρ I J)) 3 120 (fun q => sz ≤ q) :=
  sw_met (by decide) (fun _ => rfl) (Nat.le_of_ble_eq_true rfl) rfl (t_X2_init hJ hz)
theorem lo_X1 : Cond.methodLink RX1 3 Lib.objectInit ∈ sw_T := sw_mem 141 (by decide +kernel) rfl
theorem fc_X1_9 : Cond.fieldLink RX1 9 RX1 "floors" "I" ∈ sw_T := sw_mem 200 (by decide +kernel) rfl
theorem fc_X1_15 : Cond.fieldLink RX1 15 RX1 "dogFloor" "I" ∈ sw_T := sw_mem 203 (by decide +kernel) rfl
theorem fc_X1_18 : Cond.fieldLink RX1 18 RX1 "riders" "I" ∈ sw_T := sw_mem 205 (by decide +kernel) rfl
theorem fc_X1_21 : Cond.fieldLink RX1 21 RX1 "home" "[I" ∈ sw_T := sw_mem 208 (by decide +kernel) rfl
theorem fc_X1_25 : Cond.fieldLink RX1 25 RX1 "truth" "[I" ∈ sw_T := sw_mem 210 (by decide +kernel) rfl
theorem cl_X1_28 : Cond.classLink RX1 28 RX2 ∈ sw_T := sw_mem 142 (by decide +kernel) rfl
theorem in_X2 : Cond.instantiable RX2 6 ∈ sw_T := sw_mem 143 (by decide +kernel) rfl
theorem ii_X2 : Cond.initialized RX2 ∈ sw_T := sw_mem 90 (by decide +kernel) rfl
theorem lc_X1_30 : Cond.methodLink RX1 30 yX2_init ∈ sw_T := sw_mem 144 (by decide +kernel) rfl
set_option maxRecDepth 50000 in
theorem wc_X2 : sw_C9 yX2_init cX2_init 1 0 := ⟨sw_mem 145 (by decide +kernel) rfl, sw_mem 90 (by decide +kernel) rfl, sw_mem 146 rfl rfl, ⟨by decide +kernel, by decide +kernel, by decide +kernel⟩, rfl⟩
theorem fc_X1_31 : Cond.fieldLink RX1 31 RX1 "rule" "LLeastWished$Law;" ∈ sw_T := sw_mem 212 (by decide +kernel) rfl
theorem cl_X1_35 : Cond.classLink RX1 35 RX5 ∈ sw_T := sw_mem 168 (by decide +kernel) rfl
theorem in_X5 : Cond.instantiable RX5 5 ∈ sw_T := sw_mem 169 (by decide +kernel) rfl
theorem ii_X5 : Cond.initialized RX5 ∈ sw_T := sw_mem 91 (by decide +kernel) rfl
theorem lc_X1_37 : Cond.methodLinkNest RX1 37 yX5_init "LeastWished" ∈ lw_tbl := List.mem_of_getElem? (i := 170) (by decide +kernel)
set_option maxRecDepth 50000 in
theorem wc_X5 : sw_C9 yX5_init cX5_init 1 0 := ⟨sw_mem 171 (by decide +kernel) rfl, sw_mem 91 (by decide +kernel) rfl, sw_mem 172 rfl rfl, ⟨by decide +kernel, by decide +kernel, by decide +kernel⟩, rfl⟩
theorem fc_X1_38 : Cond.fieldLink RX1 38 RX1 "scene" "LLeastWished$Scene;" ∈ sw_T := sw_mem 214 (by decide +kernel) rfl
abbrev rm_X1_init : Room := { frames := 2, cells := 9, slots := 169, locals := 60 }
set_option maxRecDepth 20000 in
theorem t_X1_init {l : Launch} {D : va_G} {cy : Nat → ClassId} {sz : Nat} {ρ : mk_RR} {I : sw_I} {J : sw_J} (hJ : ∀ k j, J k j = 0) (hz : mk_Z 3 ρ I) : AW l D cy sz RX1 cX1_init 1 none true rm_X1_init 9 169 (mk_Q 3 13 ρ I J) 0 0 (mk_G 4 ρ) I J 0 [(0, .ref (sz + 3))] [] := by
  have s := mkS.start (N := 7) hz
  refine aw_aload_n 0 dX1_init_0 rfl rfl ?_
  refine aw_oinit lo_X1 (Nat.le_of_ble_eq_true rfl) (Nat.le_of_ble_eq_true rfl) dX1_init_1 ?_
  refine aw_aload_n 0 dX1_init_4 rfl rfl ?_
  refine aw_iconst (v := 2) dX1_init_5 (by decide) ?_
  refine mk_putI (n := 4) (a := 3) (ci := 1) (k := 0) (C := RX1) (T := TX1) (N := 7) (ty := .int) rfl inT1 tyX1 tyX1_ok nmX1 (by decide) rfl (by decide) rfl rfl rfl rfl rfl rfl fc_X1_9 (by decide) rfl dX1_init_6 (fun I1 e2 => ?_)
  have s := s.putI1 (by decide) e2
  refine aw_aload_n 0 dX1_init_9 rfl rfl ?_
  refine aw_iconst (v := (-1)) dX1_init_10 (by decide) ?_
  refine mk_putI (n := 4) (a := 3) (ci := 1) (k := 1) (C := RX1) (T := TX1) (N := 7) (ty := .int) rfl inT1 tyX1 tyX1_ok nmX1 (by decide) rfl (by decide) rfl rfl rfl rfl rfl rfl fc_X1_15 (by decide) rfl dX1_init_11 (fun I3 e4 => ?_)
  have s := s.putI1 (by decide) e4
  refine aw_aload_n 0 dX1_init_14 rfl rfl ?_
  refine aw_iconst (v := 0) dX1_init_15 (by decide) ?_
  refine mk_putI (n := 4) (a := 3) (ci := 1) (k := 2) (C := RX1) (T := TX1) (N := 7) (ty := .int) rfl inT1 tyX1 tyX1_ok nmX1 (by decide) rfl (by decide) rfl rfl rfl rfl rfl rfl fc_X1_18 (by decide) rfl dX1_init_16 (fun I5 e6 => ?_)
  have s := s.putI1 (by decide) e6
  refine aw_aload_n 0 dX1_init_19 rfl rfl ?_
  refine aw_bipush (v := 10) dX1_init_20 (by decide) ?_
  refine mk_newI (n := 4) (ρ := ρ) rfl rfl (fun j => (s.2.2.2 4 (Nat.le_refl _) j).2) (by decide) rfl (by decide) (Nat.le_of_ble_eq_true rfl) (Nat.le_of_ble_eq_true rfl) dX1_init_22 ?_
  have s := s.new (fun _ => rfl) (fun _ _ => rfl)
  refine mk_putF (b := 4) (n := 5) (a := 3) (ci := 1) (k := 3) (C := RX1) (T := TX1) (N := 7) (ty := (.array .int)) rfl inT1 tyX1 tyX1_ok nmX1 (by decide) rfl (by decide) rfl rfl rfl rfl rfl rfl (fun _ => rfl) (fun _ => rfl) fc_X1_21 (by decide) rfl dX1_init_24 (fun ρ7 e8 => ?_)
  have s := s.putR1 (by decide) e8
  refine aw_aload_n 0 dX1_init_27 rfl rfl ?_
  refine aw_bipush (v := 10) dX1_init_28 (by decide) ?_
  refine mk_newI (n := 5) (ρ := ρ7) rfl rfl (fun j => (s.2.2.2 5 (Nat.le_refl _) j).2) (by decide) rfl (by decide) (Nat.le_of_ble_eq_true rfl) (Nat.le_of_ble_eq_true rfl) dX1_init_30 ?_
  have s := s.new (fun _ => rfl) (fun _ _ => rfl)
  refine mk_putF (b := 5) (n := 6) (a := 3) (ci := 1) (k := 4) (C := RX1) (T := TX1) (N := 7) (ty := (.array .int)) rfl inT1 tyX1 tyX1_ok nmX1 (by decide) rfl (by decide) rfl rfl rfl rfl rfl rfl (fun _ => rfl) (fun _ => rfl) fc_X1_25 (by decide) rfl dX1_init_32 (fun ρ9 e10 => ?_)
  have s := s.putR1 (by decide) e10
  refine aw_aload_n 0 dX1_init_35 rfl rfl ?_
  refine mk_newX (n := 6) (ci := 2) (C := RX2) (T := TX2) (N := 6) (ρ := ρ9) rfl inT2 tyX2 tyX2_ok cl_X1_28 in_X2 ii_X2 rfl (by decide) rfl (by decide) s.2.2.2 (Nat.le_of_ble_eq_true rfl) (Nat.le_of_ble_eq_true rfl) dX1_init_36 ?_
  refine aw_dup dX1_init_39 rfl ?_
  refine aw_callI wc_X2 (M_X2_init hJ s.2.2.2) lc_X1_30 rfl rfl (Nat.le_of_ble_eq_true rfl) ⟨rfl, rfl⟩ ⟨Nat.le_of_ble_eq_true rfl, Nat.le_of_ble_eq_true rfl⟩ ⟨Nat.le_of_ble_eq_true rfl, Nat.le_of_ble_eq_true rfl⟩ dX1_init_40 (mk_kc fun ρ11 I12 h13 => ?_)
  have s := s.sub h13 (by decide) (by decide)
  refine mk_putF (b := 6) (n := 10) (a := 3) (ci := 1) (k := 5) (C := RX1) (T := TX1) (N := 7) (ty := (.object "LeastWished$Law")) rfl inT1 tyX1 tyX1_ok nmX1 (by decide) rfl (by decide) rfl rfl rfl rfl rfl rfl (fun _ => rfl) (fun _ => rfl) fc_X1_31 (by decide) rfl dX1_init_43 (fun ρ14 e15 => ?_)
  have s := s.putR1 (by decide) e15
  refine aw_aload_n 0 dX1_init_46 rfl rfl ?_
  refine mk_newX (n := 10) (ci := 5) (C := RX5) (T := TX5) (N := 5) (ρ := ρ14) rfl inT5 tyX5 tyX5_ok cl_X1_35 in_X5 ii_X5 rfl (by decide) rfl (by decide) s.2.2.2 (Nat.le_of_ble_eq_true rfl) (Nat.le_of_ble_eq_true rfl) dX1_init_47 ?_
  refine aw_dup dX1_init_50 rfl ?_
  refine aw_callIN wc_X5 (M_X5_init hJ s.2.2.2) lc_X1_37 rfl rfl (Nat.le_of_ble_eq_true rfl) ⟨rfl, rfl⟩ ⟨Nat.le_of_ble_eq_true rfl, Nat.le_of_ble_eq_true rfl⟩ ⟨Nat.le_of_ble_eq_true rfl, Nat.le_of_ble_eq_true rfl⟩ dX1_init_51 (mk_kc fun ρ16 I17 h18 => ?_)
  have s := s.sub h18 (by decide) (by decide)
  refine mk_putF (b := 10) (n := 13) (a := 3) (ci := 1) (k := 6) (C := RX1) (T := TX1) (N := 7) (ty := (.object "LeastWished$Scene")) rfl inT1 tyX1 tyX1_ok nmX1 (by decide) rfl (by decide) rfl rfl rfl rfl rfl rfl (fun _ => rfl) (fun _ => rfl) fc_X1_38 (by decide) rfl dX1_init_54 (fun ρ19 e20 => ?_)
  have s := s.putR1 (by decide) e20
  have s := s.shut rfl (fun _ => rfl) (by decide)
  exact aw_vret rfl dX1_init_57 ⟨rfl, rfl, ρ19, rfl, s.fin⟩
theorem M_X1_init {l : Launch} {D : va_G} {cy : Nat → ClassId} {sz : Nat} {ρ : mk_RR} {I : sw_I} {J : sw_J} (hJ : ∀ k j, J k j = 0) (hz : mk_Z 3 ρ I) : Met l yX1_init (Cond.code yX1_init cX1_init 1 none :: sw_T) rm_X1_init (sw_Pc D cy sz [.ref (sz + 3)] (mk_G 4 ρ) I J) (sw_Q D cy sz (mk_Q 3 13 ρ I J)) 9 169 (fun q => sz ≤ q) :=
  sw_met (by decide) (fun _ => rfl) (Nat.le_of_ble_eq_true rfl) rfl (t_X1_init hJ hz)
theorem lo_X0 : Cond.methodLink RX0 3 Lib.objectInit ∈ sw_T := sw_mem 329 (by decide +kernel) rfl
theorem fc_X0_9 : Cond.fieldLink RX0 9 RX0 "acts" "I" ∈ sw_T := sw_mem 330 (by decide +kernel) rfl
theorem fc_X0_15 : Cond.fieldLink RX0 15 RX0 "rides" "I" ∈ sw_T := sw_mem 332 (by decide +kernel) rfl
theorem fc_X0_18 : Cond.fieldLink RX0 18 RX0 "deeds" "I" ∈ sw_T := sw_mem 334 (by decide +kernel) rfl
abbrev rm_X0_init : Room := { frames := 1, cells := 0, slots := 0, locals := 40 }
set_option maxRecDepth 20000 in
theorem t_X0_init {l : Launch} {D : va_G} {cy : Nat → ClassId} {sz : Nat} {ρ : mk_RR} {I : sw_I} {J : sw_J} (hJ : ∀ k j, J k j = 0) (hz : mk_Z 119 ρ I) : AW l D cy sz RX0 cX0_init 1 none true rm_X0_init 0 0 (mk_Q 119 120 ρ I J) 0 0 (mk_G 120 ρ) I J 0 [(0, .ref (sz + 119))] [] := by
  have s := mkS.start (N := 3) hz
  refine aw_aload_n 0 dX0_init_0 rfl rfl ?_
  refine aw_oinit lo_X0 (Nat.le_of_ble_eq_true rfl) (Nat.le_of_ble_eq_true rfl) dX0_init_1 ?_
  refine aw_aload_n 0 dX0_init_4 rfl rfl ?_
  refine aw_iconst (v := 0) dX0_init_5 (by decide) ?_
  refine mk_putI (n := 120) (a := 119) (ci := 0) (k := 0) (C := RX0) (T := TX0) (N := 3) (ty := .int) rfl inT0 tyX0 tyX0_ok nmX0 (by decide) rfl (by decide) rfl rfl rfl rfl rfl rfl fc_X0_9 (by decide) rfl dX0_init_6 (fun I1 e2 => ?_)
  have s := s.putI1 (by decide) e2
  refine aw_aload_n 0 dX0_init_9 rfl rfl ?_
  refine aw_iconst (v := 0) dX0_init_10 (by decide) ?_
  refine mk_putI (n := 120) (a := 119) (ci := 0) (k := 1) (C := RX0) (T := TX0) (N := 3) (ty := .int) rfl inT0 tyX0 tyX0_ok nmX0 (by decide) rfl (by decide) rfl rfl rfl rfl rfl rfl fc_X0_15 (by decide) rfl dX0_init_11 (fun I3 e4 => ?_)
  have s := s.putI1 (by decide) e4
  refine aw_aload_n 0 dX0_init_14 rfl rfl ?_
  refine aw_iconst (v := 0) dX0_init_15 (by decide) ?_
  refine mk_putI (n := 120) (a := 119) (ci := 0) (k := 2) (C := RX0) (T := TX0) (N := 3) (ty := .int) rfl inT0 tyX0 tyX0_ok nmX0 (by decide) rfl (by decide) rfl rfl rfl rfl rfl rfl fc_X0_18 (by decide) rfl dX0_init_16 (fun I5 e6 => ?_)
  have s := s.putI1 (by decide) e6
  have s := s.shut rfl (fun _ => rfl) (by decide)
  exact aw_vret rfl dX0_init_19 ⟨rfl, rfl, ρ, rfl, s.fin⟩
theorem M_X0_init {l : Launch} {D : va_G} {cy : Nat → ClassId} {sz : Nat} {ρ : mk_RR} {I : sw_I} {J : sw_J} (hJ : ∀ k j, J k j = 0) (hz : mk_Z 119 ρ I) : Met l yX0_init (Cond.code yX0_init cX0_init 1 none :: sw_T) rm_X0_init (sw_Pc D cy sz [.ref (sz + 119)] (mk_G 120 ρ) I J) (sw_Q D cy sz (mk_Q 119 120 ρ I J)) 0 0 (fun q => sz ≤ q) :=
  sw_met (by decide) (fun _ => rfl) (Nat.le_of_ble_eq_true rfl) rfl (t_X0_init hJ hz)
theorem lo_X7 : Cond.methodLink RX7 3 Lib.objectInit ∈ sw_T := sw_mem 303 (by decide +kernel) rfl
theorem fc_X7_9 : Cond.fieldLink RX7 9 RX7 "from" "[I" ∈ sw_T := sw_mem 306 (by decide +kernel) rfl
theorem fc_X7_15 : Cond.fieldLink RX7 15 RX7 "those" "[I" ∈ sw_T := sw_mem 307 (by decide +kernel) rfl
theorem fc_X7_18 : Cond.fieldLink RX7 18 RX7 "to" "[I" ∈ sw_T := sw_mem 308 (by decide +kernel) rfl
theorem cl_X7_21 : Cond.classLink RX7 21 RX3 ∈ sw_T := sw_mem 304 (by decide +kernel) rfl
theorem in_X3 : Cond.instantiable RX3 6 ∈ sw_T := sw_mem 232 (by decide +kernel) rfl
theorem ii_X3 : Cond.initialized RX3 ∈ sw_T := sw_mem 92 (by decide +kernel) rfl
theorem mk_mom13 : mk_mom 13 := ⟨⟨rfl, rfl, rfl, rfl⟩, ⟨rfl, rfl, rfl, rfl⟩, fun _ => rfl, fun _ => ⟨rfl, rfl, rfl⟩, fun j => ⟨rfl, rfl, rfl, rfl⟩⟩
theorem mk_mom17 : mk_mom 17 := ⟨⟨rfl, rfl, rfl, rfl⟩, ⟨rfl, rfl, rfl, rfl⟩, fun _ => rfl, fun _ => ⟨rfl, rfl, rfl⟩, fun j => ⟨rfl, rfl, rfl, rfl⟩⟩
theorem mk_mom23 : mk_mom 23 := ⟨⟨rfl, rfl, rfl, rfl⟩, ⟨rfl, rfl, rfl, rfl⟩, fun _ => rfl, fun _ => ⟨rfl, rfl, rfl⟩, fun j => ⟨rfl, rfl, rfl, rfl⟩⟩
theorem mk_mom27 : mk_mom 27 := ⟨⟨rfl, rfl, rfl, rfl⟩, ⟨rfl, rfl, rfl, rfl⟩, fun _ => rfl, fun _ => ⟨rfl, rfl, rfl⟩, fun j => ⟨rfl, rfl, rfl, rfl⟩⟩
theorem mk_mom31 : mk_mom 31 := ⟨⟨rfl, rfl, rfl, rfl⟩, ⟨rfl, rfl, rfl, rfl⟩, fun _ => rfl, fun _ => ⟨rfl, rfl, rfl⟩, fun j => ⟨rfl, rfl, rfl, rfl⟩⟩
theorem mk_mom35 : mk_mom 35 := ⟨⟨rfl, rfl, rfl, rfl⟩, ⟨rfl, rfl, rfl, rfl⟩, fun _ => rfl, fun _ => ⟨rfl, rfl, rfl⟩, fun j => ⟨rfl, rfl, rfl, rfl⟩⟩
theorem mk_mom39 : mk_mom 39 := ⟨⟨rfl, rfl, rfl, rfl⟩, ⟨rfl, rfl, rfl, rfl⟩, fun _ => rfl, fun _ => ⟨rfl, rfl, rfl⟩, fun j => ⟨rfl, rfl, rfl, rfl⟩⟩
theorem mk_mom43 : mk_mom 43 := ⟨⟨rfl, rfl, rfl, rfl⟩, ⟨rfl, rfl, rfl, rfl⟩, fun _ => rfl, fun _ => ⟨rfl, rfl, rfl⟩, fun j => ⟨rfl, rfl, rfl, rfl⟩⟩
theorem mk_mom47 : mk_mom 47 := ⟨⟨rfl, rfl, rfl, rfl⟩, ⟨rfl, rfl, rfl, rfl⟩, fun _ => rfl, fun _ => ⟨rfl, rfl, rfl⟩, fun j => ⟨rfl, rfl, rfl, rfl⟩⟩
theorem mk_mom51 : mk_mom 51 := ⟨⟨rfl, rfl, rfl, rfl⟩, ⟨rfl, rfl, rfl, rfl⟩, fun _ => rfl, fun _ => ⟨rfl, rfl, rfl⟩, fun j => ⟨rfl, rfl, rfl, rfl⟩⟩
theorem mk_mom55 : mk_mom 55 := ⟨⟨rfl, rfl, rfl, rfl⟩, ⟨rfl, rfl, rfl, rfl⟩, fun _ => rfl, fun _ => ⟨rfl, rfl, rfl⟩, fun j => ⟨rfl, rfl, rfl, rfl⟩⟩
theorem mk_mom59 : mk_mom 59 := ⟨⟨rfl, rfl, rfl, rfl⟩, ⟨rfl, rfl, rfl, rfl⟩, fun _ => rfl, fun _ => ⟨rfl, rfl, rfl⟩, fun j => ⟨rfl, rfl, rfl, rfl⟩⟩
theorem mk_mom63 : mk_mom 63 := ⟨⟨rfl, rfl, rfl, rfl⟩, ⟨rfl, rfl, rfl, rfl⟩, fun _ => rfl, fun _ => ⟨rfl, rfl, rfl⟩, fun j => ⟨rfl, rfl, rfl, rfl⟩⟩
theorem mk_mom67 : mk_mom 67 := ⟨⟨rfl, rfl, rfl, rfl⟩, ⟨rfl, rfl, rfl, rfl⟩, fun _ => rfl, fun _ => ⟨rfl, rfl, rfl⟩, fun j => ⟨rfl, rfl, rfl, rfl⟩⟩
theorem mk_mom71 : mk_mom 71 := ⟨⟨rfl, rfl, rfl, rfl⟩, ⟨rfl, rfl, rfl, rfl⟩, fun _ => rfl, fun _ => ⟨rfl, rfl, rfl⟩, fun j => ⟨rfl, rfl, rfl, rfl⟩⟩
theorem mk_mom75 : mk_mom 75 := ⟨⟨rfl, rfl, rfl, rfl⟩, ⟨rfl, rfl, rfl, rfl⟩, fun _ => rfl, fun _ => ⟨rfl, rfl, rfl⟩, fun j => ⟨rfl, rfl, rfl, rfl⟩⟩
theorem mk_mom79 : mk_mom 79 := ⟨⟨rfl, rfl, rfl, rfl⟩, ⟨rfl, rfl, rfl, rfl⟩, fun _ => rfl, fun _ => ⟨rfl, rfl, rfl⟩, fun j => ⟨rfl, rfl, rfl, rfl⟩⟩
theorem mk_mom83 : mk_mom 83 := ⟨⟨rfl, rfl, rfl, rfl⟩, ⟨rfl, rfl, rfl, rfl⟩, fun _ => rfl, fun _ => ⟨rfl, rfl, rfl⟩, fun j => ⟨rfl, rfl, rfl, rfl⟩⟩
theorem mk_mom87 : mk_mom 87 := ⟨⟨rfl, rfl, rfl, rfl⟩, ⟨rfl, rfl, rfl, rfl⟩, fun _ => rfl, fun _ => ⟨rfl, rfl, rfl⟩, fun j => ⟨rfl, rfl, rfl, rfl⟩⟩
theorem mk_mom91 : mk_mom 91 := ⟨⟨rfl, rfl, rfl, rfl⟩, ⟨rfl, rfl, rfl, rfl⟩, fun _ => rfl, fun _ => ⟨rfl, rfl, rfl⟩, fun j => ⟨rfl, rfl, rfl, rfl⟩⟩
theorem mk_mom95 : mk_mom 95 := ⟨⟨rfl, rfl, rfl, rfl⟩, ⟨rfl, rfl, rfl, rfl⟩, fun _ => rfl, fun _ => ⟨rfl, rfl, rfl⟩, fun j => ⟨rfl, rfl, rfl, rfl⟩⟩
theorem mk_mom99 : mk_mom 99 := ⟨⟨rfl, rfl, rfl, rfl⟩, ⟨rfl, rfl, rfl, rfl⟩, fun _ => rfl, fun _ => ⟨rfl, rfl, rfl⟩, fun j => ⟨rfl, rfl, rfl, rfl⟩⟩
theorem mk_mom103 : mk_mom 103 := ⟨⟨rfl, rfl, rfl, rfl⟩, ⟨rfl, rfl, rfl, rfl⟩, fun _ => rfl, fun _ => ⟨rfl, rfl, rfl⟩, fun j => ⟨rfl, rfl, rfl, rfl⟩⟩
theorem mk_mom113 : mk_mom 113 := ⟨⟨rfl, rfl, rfl, rfl⟩, ⟨rfl, rfl, rfl, rfl⟩, fun _ => rfl, fun _ => ⟨rfl, rfl, rfl⟩, fun j => ⟨rfl, rfl, rfl, rfl⟩⟩
theorem mk_mom121 : mk_mom 121 := ⟨⟨rfl, rfl, rfl, rfl⟩, ⟨rfl, rfl, rfl, rfl⟩, fun _ => rfl, fun _ => ⟨rfl, rfl, rfl⟩, fun j => ⟨rfl, rfl, rfl, rfl⟩⟩
theorem mk_mom128 : mk_mom 128 := ⟨⟨rfl, rfl, rfl, rfl⟩, ⟨rfl, rfl, rfl, rfl⟩, fun _ => rfl, fun _ => ⟨rfl, rfl, rfl⟩, fun j => ⟨rfl, rfl, rfl, rfl⟩⟩
theorem mk_mom132 : mk_mom 132 := ⟨⟨rfl, rfl, rfl, rfl⟩, ⟨rfl, rfl, rfl, rfl⟩, fun _ => rfl, fun _ => ⟨rfl, rfl, rfl⟩, fun j => ⟨rfl, rfl, rfl, rfl⟩⟩
theorem mk_mom136 : mk_mom 136 := ⟨⟨rfl, rfl, rfl, rfl⟩, ⟨rfl, rfl, rfl, rfl⟩, fun _ => rfl, fun _ => ⟨rfl, rfl, rfl⟩, fun j => ⟨rfl, rfl, rfl, rfl⟩⟩
theorem lc_X7_23 : Cond.methodLink RX7 23 yX3_init ∈ sw_T := sw_mem 305 (by decide +kernel) rfl
set_option maxRecDepth 50000 in
theorem wc_X3 : sw_C9 yX3_init cX3_init 1 0 := ⟨sw_mem 234 (by decide +kernel) rfl, sw_mem 92 (by decide +kernel) rfl, sw_mem 235 rfl rfl, ⟨by decide +kernel, by decide +kernel, by decide +kernel⟩, rfl⟩
theorem fc_X7_24 : Cond.fieldLink RX7 24 RX7 "alone" "LLeastWished$Moment;" ∈ sw_T := sw_mem 309 (by decide +kernel) rfl
theorem fc_X7_28 : Cond.fieldLink RX7 28 RX7 "size" "I" ∈ sw_T := sw_mem 310 (by decide +kernel) rfl
abbrev rm_X7_init : Room := { frames := 2, cells := 7, slots := 60, locals := 60 }
set_option maxRecDepth 20000 in
theorem t_X7_init {l : Launch} {D : va_G} {cy : Nat → ClassId} {sz : Nat} {ρ : mk_RR} {I : sw_I} {J : sw_J} (hJ : ∀ k j, J k j = 0) (hz : mk_Z 109 ρ I) : AW l D cy sz RX7 cX7_init 1 none true rm_X7_init 7 60 (mk_Q 109 117 ρ I J) 0 0 (mk_G 110 ρ) I J 0 [(0, .ref (sz + 109))] [] := by
  have s := mkS.start (N := 5) hz
  refine aw_aload_n 0 dX7_init_0 rfl rfl ?_
  refine aw_oinit lo_X7 (Nat.le_of_ble_eq_true rfl) (Nat.le_of_ble_eq_true rfl) dX7_init_1 ?_
  refine aw_aload_n 0 dX7_init_4 rfl rfl ?_
  refine aw_bipush (v := 8) dX7_init_5 (by decide) ?_
  refine mk_newI (n := 110) (ρ := ρ) rfl rfl (fun j => (s.2.2.2 110 (Nat.le_refl _) j).2) (by decide) rfl (by decide) (Nat.le_of_ble_eq_true rfl) (Nat.le_of_ble_eq_true rfl) dX7_init_7 ?_
  have s := s.new (fun _ => rfl) (fun _ _ => rfl)
  refine mk_putF (b := 110) (n := 111) (a := 109) (ci := 7) (k := 0) (C := RX7) (T := TX7) (N := 5) (ty := (.array .int)) rfl inT7 tyX7 tyX7_ok nmX7 (by decide) rfl (by decide) rfl rfl rfl rfl rfl rfl (fun _ => rfl) (fun _ => rfl) fc_X7_9 (by decide) rfl dX7_init_9 (fun ρ1 e2 => ?_)
  have s := s.putR1 (by decide) e2
  refine aw_aload_n 0 dX7_init_12 rfl rfl ?_
  refine aw_bipush (v := 8) dX7_init_13 (by decide) ?_
  refine mk_newI (n := 111) (ρ := ρ1) rfl rfl (fun j => (s.2.2.2 111 (Nat.le_refl _) j).2) (by decide) rfl (by decide) (Nat.le_of_ble_eq_true rfl) (Nat.le_of_ble_eq_true rfl) dX7_init_15 ?_
  have s := s.new (fun _ => rfl) (fun _ _ => rfl)
  refine mk_putF (b := 111) (n := 112) (a := 109) (ci := 7) (k := 1) (C := RX7) (T := TX7) (N := 5) (ty := (.array .int)) rfl inT7 tyX7 tyX7_ok nmX7 (by decide) rfl (by decide) rfl rfl rfl rfl rfl rfl (fun _ => rfl) (fun _ => rfl) fc_X7_15 (by decide) rfl dX7_init_17 (fun ρ3 e4 => ?_)
  have s := s.putR1 (by decide) e4
  refine aw_aload_n 0 dX7_init_20 rfl rfl ?_
  refine aw_bipush (v := 8) dX7_init_21 (by decide) ?_
  refine mk_newI (n := 112) (ρ := ρ3) rfl rfl (fun j => (s.2.2.2 112 (Nat.le_refl _) j).2) (by decide) rfl (by decide) (Nat.le_of_ble_eq_true rfl) (Nat.le_of_ble_eq_true rfl) dX7_init_23 ?_
  have s := s.new (fun _ => rfl) (fun _ _ => rfl)
  refine mk_putF (b := 112) (n := 113) (a := 109) (ci := 7) (k := 2) (C := RX7) (T := TX7) (N := 5) (ty := (.array .int)) rfl inT7 tyX7 tyX7_ok nmX7 (by decide) rfl (by decide) rfl rfl rfl rfl rfl rfl (fun _ => rfl) (fun _ => rfl) fc_X7_18 (by decide) rfl dX7_init_25 (fun ρ5 e6 => ?_)
  have s := s.putR1 (by decide) e6
  refine aw_aload_n 0 dX7_init_28 rfl rfl ?_
  refine mk_newX (n := 113) (ci := 3) (C := RX3) (T := TX3) (N := 6) (ρ := ρ5) rfl inT3 tyX3 tyX3_ok cl_X7_21 in_X3 ii_X3 rfl (by decide) rfl (by decide) s.2.2.2 (Nat.le_of_ble_eq_true rfl) (Nat.le_of_ble_eq_true rfl) dX7_init_29 ?_
  refine aw_dup dX7_init_32 rfl ?_
  refine aw_callI wc_X3 (M_X3_init mk_mom113 s.2.2.2) lc_X7_23 rfl rfl (Nat.le_of_ble_eq_true rfl) ⟨rfl, rfl⟩ ⟨Nat.le_of_ble_eq_true rfl, Nat.le_of_ble_eq_true rfl⟩ ⟨Nat.le_of_ble_eq_true rfl, Nat.le_of_ble_eq_true rfl⟩ dX7_init_33 (mk_kc fun ρ7 I8 h9 => ?_)
  have s := s.sub h9 (by decide) (by decide)
  refine mk_putF (b := 113) (n := 117) (a := 109) (ci := 7) (k := 3) (C := RX7) (T := TX7) (N := 5) (ty := (.object "LeastWished$Moment")) rfl inT7 tyX7 tyX7_ok nmX7 (by decide) rfl (by decide) rfl rfl rfl rfl rfl rfl (fun _ => rfl) (fun _ => rfl) fc_X7_24 (by decide) rfl dX7_init_36 (fun ρ10 e11 => ?_)
  have s := s.putR1 (by decide) e11
  refine aw_aload_n 0 dX7_init_39 rfl rfl ?_
  refine aw_iconst (v := 0) dX7_init_40 (by decide) ?_
  refine mk_putI (n := 117) (a := 109) (ci := 7) (k := 4) (C := RX7) (T := TX7) (N := 5) (ty := .int) rfl inT7 tyX7 tyX7_ok nmX7 (by decide) rfl (by decide) rfl rfl rfl rfl rfl rfl fc_X7_28 (by decide) rfl dX7_init_41 (fun I12 e13 => ?_)
  have s := s.putI1 (by decide) e13
  have s := s.shut rfl (fun _ => rfl) (by decide)
  exact aw_vret rfl dX7_init_44 ⟨rfl, rfl, ρ10, rfl, s.fin⟩
theorem M_X7_init {l : Launch} {D : va_G} {cy : Nat → ClassId} {sz : Nat} {ρ : mk_RR} {I : sw_I} {J : sw_J} (hJ : ∀ k j, J k j = 0) (hz : mk_Z 109 ρ I) : Met l yX7_init (Cond.code yX7_init cX7_init 1 none :: sw_T) rm_X7_init (sw_Pc D cy sz [.ref (sz + 109)] (mk_G 110 ρ) I J) (sw_Q D cy sz (mk_Q 109 117 ρ I J)) 7 60 (fun q => sz ≤ q) :=
  sw_met (by decide) (fun _ => rfl) (Nat.le_of_ble_eq_true rfl) rfl (t_X7_init hJ hz)
theorem lo_X6 : Cond.methodLink RX6 3 Lib.objectInit ∈ sw_T := sw_mem 349 (by decide +kernel) rfl
theorem cl_X6_9 : Cond.classLink RX6 9 RX3 ∈ sw_T := sw_mem 350 (by decide +kernel) rfl
theorem lc_X6_11 : Cond.methodLink RX6 11 yX3_init ∈ sw_T := sw_mem 351 (by decide +kernel) rfl
theorem fc_X6_12 : Cond.fieldLink RX6 12 RX6 "moment" "LLeastWished$Moment;" ∈ sw_T := sw_mem 352 (by decide +kernel) rfl
theorem fc_X6_18 : Cond.fieldLink RX6 18 RX6 "keys" "[J" ∈ sw_T := sw_mem 353 (by decide +kernel) rfl
theorem fc_X6_22 : Cond.fieldLink RX6 22 RX6 "steps" "[I" ∈ sw_T := sw_mem 354 (by decide +kernel) rfl
theorem fc_X6_26 : Cond.fieldLink RX6 26 RX6 "slots" "[I" ∈ sw_T := sw_mem 355 (by decide +kernel) rfl
theorem fc_X6_29 : Cond.fieldLink RX6 29 RX6 "found" "I" ∈ sw_T := sw_mem 356 (by decide +kernel) rfl
theorem fc_X6_33 : Cond.fieldLink RX6 33 RX6 "rides" "I" ∈ sw_T := sw_mem 358 (by decide +kernel) rfl
theorem fc_X6_36 : Cond.fieldLink RX6 36 RX6 "more" "Z" ∈ sw_T := sw_mem 360 (by decide +kernel) rfl
theorem fc_X6_40 : Cond.fieldLink RX6 40 RX6 "wanted" "I" ∈ sw_T := sw_mem 362 (by decide +kernel) rfl
theorem fc_X6_43 : Cond.fieldLink RX6 43 RX6 "wantedThose" "I" ∈ sw_T := sw_mem 363 (by decide +kernel) rfl
theorem fc_X6_46 : Cond.fieldLink RX6 46 RX6 "wantedFloor" "I" ∈ sw_T := sw_mem 364 (by decide +kernel) rfl
abbrev rm_X6_init : Room := { frames := 2, cells := 7, slots := 10132, locals := 60 }
set_option maxRecDepth 20000 in
theorem t_X6_init {l : Launch} {D : va_G} {cy : Nat → ClassId} {sz : Nat} {ρ : mk_RR} {I : sw_I} {J : sw_J} (hJ : ∀ k j, J k j = 0) (hz : mk_Z 120 ρ I) : AW l D cy sz RX6 cX6_init 1 none true rm_X6_init 7 10132 (mk_Q 120 128 ρ I J) 0 0 (mk_G 121 ρ) I J 0 [(0, .ref (sz + 120))] [] := by
  have s := mkS.start (N := 10) hz
  refine aw_aload_n 0 dX6_init_0 rfl rfl ?_
  refine aw_oinit lo_X6 (Nat.le_of_ble_eq_true rfl) (Nat.le_of_ble_eq_true rfl) dX6_init_1 ?_
  refine aw_aload_n 0 dX6_init_4 rfl rfl ?_
  refine mk_newX (n := 121) (ci := 3) (C := RX3) (T := TX3) (N := 6) (ρ := ρ) rfl inT3 tyX3 tyX3_ok cl_X6_9 in_X3 ii_X3 rfl (by decide) rfl (by decide) s.2.2.2 (Nat.le_of_ble_eq_true rfl) (Nat.le_of_ble_eq_true rfl) dX6_init_5 ?_
  refine aw_dup dX6_init_8 rfl ?_
  refine aw_callI wc_X3 (M_X3_init mk_mom121 s.2.2.2) lc_X6_11 rfl rfl (Nat.le_of_ble_eq_true rfl) ⟨rfl, rfl⟩ ⟨Nat.le_of_ble_eq_true rfl, Nat.le_of_ble_eq_true rfl⟩ ⟨Nat.le_of_ble_eq_true rfl, Nat.le_of_ble_eq_true rfl⟩ dX6_init_9 (mk_kc fun ρ1 I2 h3 => ?_)
  have s := s.sub h3 (by decide) (by decide)
  refine mk_putF (b := 121) (n := 125) (a := 120) (ci := 6) (k := 0) (C := RX6) (T := TX6) (N := 10) (ty := (.object "LeastWished$Moment")) rfl inT6 tyX6 tyX6_ok nmX6 (by decide) rfl (by decide) rfl rfl rfl rfl rfl rfl (fun _ => rfl) (fun _ => rfl) fc_X6_12 (by decide) rfl dX6_init_12 (fun ρ4 e5 => ?_)
  have s := s.putR1 (by decide) e5
  refine aw_aload_n 0 dX6_init_15 rfl rfl ?_
  refine aw_sipush (v := 3000) dX6_init_16 (by decide) ?_
  refine mk_newL (n := 125) (ρ := ρ4) rfl rfl (fun j => hJ _ j) (by decide) rfl (by decide) (Nat.le_of_ble_eq_true rfl) (Nat.le_of_ble_eq_true rfl) dX6_init_19 ?_
  have s := s.new (fun _ => rfl) (fun _ _ => rfl)
  refine mk_putF (b := 125) (n := 126) (a := 120) (ci := 6) (k := 1) (C := RX6) (T := TX6) (N := 10) (ty := (.array .long)) rfl inT6 tyX6 tyX6_ok nmX6 (by decide) rfl (by decide) rfl rfl rfl rfl rfl rfl (fun _ => rfl) (fun _ => rfl) fc_X6_18 (by decide) rfl dX6_init_21 (fun ρ6 e7 => ?_)
  have s := s.putR1 (by decide) e7
  refine aw_aload_n 0 dX6_init_24 rfl rfl ?_
  refine aw_sipush (v := 3000) dX6_init_25 (by decide) ?_
  refine mk_newI (n := 126) (ρ := ρ6) rfl rfl (fun j => (s.2.2.2 126 (Nat.le_refl _) j).2) (by decide) rfl (by decide) (Nat.le_of_ble_eq_true rfl) (Nat.le_of_ble_eq_true rfl) dX6_init_28 ?_
  have s := s.new (fun _ => rfl) (fun _ _ => rfl)
  refine mk_putF (b := 126) (n := 127) (a := 120) (ci := 6) (k := 2) (C := RX6) (T := TX6) (N := 10) (ty := (.array .int)) rfl inT6 tyX6 tyX6_ok nmX6 (by decide) rfl (by decide) rfl rfl rfl rfl rfl rfl (fun _ => rfl) (fun _ => rfl) fc_X6_22 (by decide) rfl dX6_init_30 (fun ρ8 e9 => ?_)
  have s := s.putR1 (by decide) e9
  refine aw_aload_n 0 dX6_init_33 rfl rfl ?_
  refine aw_sipush (v := 4096) dX6_init_34 (by decide) ?_
  refine mk_newI (n := 127) (ρ := ρ8) rfl rfl (fun j => (s.2.2.2 127 (Nat.le_refl _) j).2) (by decide) rfl (by decide) (Nat.le_of_ble_eq_true rfl) (Nat.le_of_ble_eq_true rfl) dX6_init_37 ?_
  have s := s.new (fun _ => rfl) (fun _ _ => rfl)
  refine mk_putF (b := 127) (n := 128) (a := 120) (ci := 6) (k := 3) (C := RX6) (T := TX6) (N := 10) (ty := (.array .int)) rfl inT6 tyX6 tyX6_ok nmX6 (by decide) rfl (by decide) rfl rfl rfl rfl rfl rfl (fun _ => rfl) (fun _ => rfl) fc_X6_26 (by decide) rfl dX6_init_39 (fun ρ10 e11 => ?_)
  have s := s.putR1 (by decide) e11
  refine aw_aload_n 0 dX6_init_42 rfl rfl ?_
  refine aw_iconst (v := 0) dX6_init_43 (by decide) ?_
  refine mk_putI (n := 128) (a := 120) (ci := 6) (k := 4) (C := RX6) (T := TX6) (N := 10) (ty := .int) rfl inT6 tyX6 tyX6_ok nmX6 (by decide) rfl (by decide) rfl rfl rfl rfl rfl rfl fc_X6_29 (by decide) rfl dX6_init_44 (fun I12 e13 => ?_)
  have s := s.putI1 (by decide) e13
  refine aw_aload_n 0 dX6_init_47 rfl rfl ?_
  refine aw_iconst (v := 0) dX6_init_48 (by decide) ?_
  refine mk_putI (n := 128) (a := 120) (ci := 6) (k := 5) (C := RX6) (T := TX6) (N := 10) (ty := .int) rfl inT6 tyX6 tyX6_ok nmX6 (by decide) rfl (by decide) rfl rfl rfl rfl rfl rfl fc_X6_33 (by decide) rfl dX6_init_49 (fun I14 e15 => ?_)
  have s := s.putI1 (by decide) e15
  refine aw_aload_n 0 dX6_init_52 rfl rfl ?_
  refine aw_iconst (v := 0) dX6_init_53 (by decide) ?_
  refine mk_putI (n := 128) (a := 120) (ci := 6) (k := 6) (C := RX6) (T := TX6) (N := 10) (ty := .boolean) rfl inT6 tyX6 tyX6_ok nmX6 (by decide) rfl (by decide) rfl rfl rfl rfl rfl rfl fc_X6_36 (by decide) rfl dX6_init_54 (fun I16 e17 => ?_)
  have s := s.putI1 (by decide) e17
  refine aw_aload_n 0 dX6_init_57 rfl rfl ?_
  refine aw_iconst (v := 0) dX6_init_58 (by decide) ?_
  refine mk_putI (n := 128) (a := 120) (ci := 6) (k := 7) (C := RX6) (T := TX6) (N := 10) (ty := .int) rfl inT6 tyX6 tyX6_ok nmX6 (by decide) rfl (by decide) rfl rfl rfl rfl rfl rfl fc_X6_40 (by decide) rfl dX6_init_59 (fun I18 e19 => ?_)
  have s := s.putI1 (by decide) e19
  refine aw_aload_n 0 dX6_init_62 rfl rfl ?_
  refine aw_iconst (v := 0) dX6_init_63 (by decide) ?_
  refine mk_putI (n := 128) (a := 120) (ci := 6) (k := 8) (C := RX6) (T := TX6) (N := 10) (ty := .int) rfl inT6 tyX6 tyX6_ok nmX6 (by decide) rfl (by decide) rfl rfl rfl rfl rfl rfl fc_X6_43 (by decide) rfl dX6_init_64 (fun I20 e21 => ?_)
  have s := s.putI1 (by decide) e21
  refine aw_aload_n 0 dX6_init_67 rfl rfl ?_
  refine aw_iconst (v := 0) dX6_init_68 (by decide) ?_
  refine mk_putI (n := 128) (a := 120) (ci := 6) (k := 9) (C := RX6) (T := TX6) (N := 10) (ty := .int) rfl inT6 tyX6 tyX6_ok nmX6 (by decide) rfl (by decide) rfl rfl rfl rfl rfl rfl fc_X6_46 (by decide) rfl dX6_init_69 (fun I22 e23 => ?_)
  have s := s.putI1 (by decide) e23
  have s := s.shut rfl (fun _ => rfl) (by decide)
  exact aw_vret rfl dX6_init_72 ⟨rfl, rfl, ρ10, rfl, s.fin⟩
theorem M_X6_init {l : Launch} {D : va_G} {cy : Nat → ClassId} {sz : Nat} {ρ : mk_RR} {I : sw_I} {J : sw_J} (hJ : ∀ k j, J k j = 0) (hz : mk_Z 120 ρ I) : Met l yX6_init (Cond.code yX6_init cX6_init 1 none :: sw_T) rm_X6_init (sw_Pc D cy sz [.ref (sz + 120)] (mk_G 121 ρ) I J) (sw_Q D cy sz (mk_Q 120 128 ρ I J)) 7 10132 (fun q => sz ≤ q) :=
  sw_met (by decide) (fun _ => rfl) (Nat.le_of_ble_eq_true rfl) rfl (t_X6_init hJ hz)
theorem lo_X4 : Cond.methodLink RX4 3 Lib.objectInit ∈ sw_T := sw_mem 283 (by decide +kernel) rfl
theorem cl_X4_11 : Cond.classLink RX4 11 "LeastWished$Moment" ∈ sw_T := sw_mem 284 (by decide +kernel) rfl
theorem w_over : Cond.arrayOver (.object "LeastWished$Moment") ∈ lw_tbl := List.mem_of_getElem? (i := 285) (by decide +kernel)
theorem fc_X4_13 : Cond.fieldLink RX4 13 RX4 "moments" "[LLeastWished$Moment;" ∈ sw_T := sw_mem 287 (by decide +kernel) rfl
theorem fc_X4_17 : Cond.fieldLink RX4 17 RX4 "next" "I" ∈ sw_T := sw_mem 288 (by decide +kernel) rfl
theorem fc_X4_21 : Cond.fieldLink RX4 21 RX4 "size" "I" ∈ sw_T := sw_mem 289 (by decide +kernel) rfl
theorem lc_X4_24 : Cond.methodLink RX4 24 yX3_init ∈ sw_T := sw_mem 286 (by decide +kernel) rfl
abbrev rm_X4_init : Room := { frames := 2, cells := 85, slots := 777, locals := 60 }
set_option maxRecDepth 20000 in
theorem t_X4_init {l : Launch} {D : va_G} {cy : Nat → ClassId} {sz : Nat} {ρ : mk_RR} {I : sw_I} {J : sw_J} (hJ : ∀ k j, J k j = 0) (hz : mk_Z 21 ρ I) : AW l D cy sz RX4 cX4_init 2 none true rm_X4_init 85 777 (mk_Q 21 107 ρ I J) 0 0 (mk_G 22 ρ) I J 0 [(0, .ref (sz + 21))] [] := by
  have s := mkS.start (N := 3) hz
  refine aw_aload_n 0 dX4_init_0 rfl rfl ?_
  refine aw_oinit lo_X4 (Nat.le_of_ble_eq_true rfl) (Nat.le_of_ble_eq_true rfl) dX4_init_1 ?_
  refine aw_aload_n 0 dX4_init_4 rfl rfl ?_
  refine aw_bipush (v := 21) dX4_init_5 (by decide) ?_
  refine aw_newq (n := 22) (N' := 21) cl_X4_11 w_over rfl rfl (fun j => (s.2.2.2 22 (Nat.le_refl _) j).1) (by decide) rfl (by decide) (Nat.le_of_ble_eq_true rfl) (Nat.le_of_ble_eq_true rfl) dX4_init_7 ?_
  rw [← List.range_succ]
  have s := s.opn (N := 21) (by decide)
  have s := s.swap (by decide)
  refine mk_putF (b := 22) (n := 23) (a := 21) (ci := 4) (k := 0) (C := RX4) (T := TX4) (N := 3) (ty := (.array (.object "LeastWished$Moment"))) rfl inT4 tyX4 tyX4_ok nmX4 (by decide) rfl (by decide) rfl rfl rfl rfl rfl rfl (fun _ => rfl) (fun _ => rfl) fc_X4_13 (by decide) rfl dX4_init_10 (fun ρ1 e2 => ?_)
  have s := s.putR1 (by decide) e2
  refine aw_aload_n 0 dX4_init_13 rfl rfl ?_
  refine aw_iconst (v := 0) dX4_init_14 (by decide) ?_
  refine mk_putI (n := 23) (a := 21) (ci := 4) (k := 1) (C := RX4) (T := TX4) (N := 3) (ty := .int) rfl inT4 tyX4 tyX4_ok nmX4 (by decide) rfl (by decide) rfl rfl rfl rfl rfl rfl fc_X4_17 (by decide) rfl dX4_init_15 (fun I3 e4 => ?_)
  have s := s.putI1 (by decide) e4
  refine aw_aload_n 0 dX4_init_18 rfl rfl ?_
  refine aw_iconst (v := 0) dX4_init_19 (by decide) ?_
  refine mk_putI (n := 23) (a := 21) (ci := 4) (k := 2) (C := RX4) (T := TX4) (N := 3) (ty := .int) rfl inT4 tyX4 tyX4_ok nmX4 (by decide) rfl (by decide) rfl rfl rfl rfl rfl rfl fc_X4_21 (by decide) rfl dX4_init_20 (fun I5 e6 => ?_)
  have s := s.putI1 (by decide) e6
  refine aw_iconst (v := 0) dX4_init_23 (by decide) ?_
  refine aw_istore_n (lv' := [(1, .int 0), (0, .ref (sz + 21))]) dX4_init_24 rfl (by decide) rfl ?_
  refine aw_iload_n 0 dX4_init_25 rfl rfl ?_
  refine aw_bipush (v := 21) dX4_init_26 (by decide) ?_
  refine aw_jge 50 dX4_init_28 (by decide) (fun c => absurd (by decide) c) (fun _ => ?_)
  refine aw_aload_n 1 dX4_init_31 rfl rfl ?_
  have q7 : ρ1 21 0 = some 22 := (s.2.2.1 21 _ rfl).2.1 0
  refine aw_get (a := 21) (ci := 4) (k := 0) (C := RX4) (T := TX4) (N := 3) (v := .ref (sz + 22)) rfl inT4 (by decide) rfl (by decide) rfl (by show (if _ then va_rf (sw_o sz (ρ1 21 0)) else _) = _; rw [q7]; rfl) fc_X4_13 ⟨List.mem_range.mpr (by decide), rfl⟩ dX4_init_32 ?_
  refine aw_iload_n 0 dX4_init_35 rfl rfl ?_
  refine mk_newX (n := 23) (ci := 3) (C := RX3) (T := TX3) (N := 6) (ρ := ρ1) rfl inT3 tyX3 tyX3_ok cl_X4_11 in_X3 ii_X3 rfl (by decide) rfl (by decide) s.2.2.2 (Nat.le_of_ble_eq_true rfl) (Nat.le_of_ble_eq_true rfl) dX4_init_36 ?_
  refine aw_dup dX4_init_39 rfl ?_
  refine aw_callI wc_X3 (M_X3_init mk_mom23 s.2.2.2) lc_X4_24 rfl rfl (Nat.le_of_ble_eq_true rfl) ⟨rfl, rfl⟩ ⟨Nat.le_of_ble_eq_true rfl, Nat.le_of_ble_eq_true rfl⟩ ⟨Nat.le_of_ble_eq_true rfl, Nat.le_of_ble_eq_true rfl⟩ dX4_init_40 (mk_kc fun ρ8 I9 h10 => ?_)
  have s := s.sub h10 (by decide) (by decide)
  have s := s.swap (by decide)
  refine aw_astq (idx := 0) (n := 21) dX4_init_43 ⟨List.mem_range.mpr (by decide), rfl⟩ rfl ⟨List.mem_range.mpr (by decide), rfl⟩ (by unfold vp_in; decide) ?_
  obtain ⟨ρ11, e12⟩ : ∃ q : mk_RR, q = sw_up ρ8 22 (0 : Int32).toNatClampNeg (some 23) := ⟨_, rfl⟩
  show AW _ _ _ _ _ _ _ _ _ _ _ _ _ _ _ (mk_G 27 (sw_up ρ8 22 (0 : Int32).toNatClampNeg (some 23))) _ _ _ _ _
  rw [← e12]
  have s := s.putR1 (k := 0) (by decide) e12
  refine aw_iinc (lv' := [(1, .int 1), (0, .ref (sz + 21))]) 0 dX4_init_44 rfl (by decide) (by decide) rfl ?_
  refine aw_goto 25 dX4_init_47 (by decide) ?_
  refine aw_iload_n 0 dX4_init_25 rfl rfl ?_
  refine aw_bipush (v := 21) dX4_init_26 (by decide) ?_
  refine aw_jge 50 dX4_init_28 (by decide) (fun c => absurd (by decide) c) (fun _ => ?_)
  refine aw_aload_n 1 dX4_init_31 rfl rfl ?_
  have q13 : ρ11 21 0 = some 22 := (s.2.2.1 21 _ rfl).2.1 0
  refine aw_get (a := 21) (ci := 4) (k := 0) (C := RX4) (T := TX4) (N := 3) (v := .ref (sz + 22)) rfl inT4 (by decide) rfl (by decide) rfl (by show (if _ then va_rf (sw_o sz (ρ11 21 0)) else _) = _; rw [q13]; rfl) fc_X4_13 ⟨List.mem_range.mpr (by decide), rfl⟩ dX4_init_32 ?_
  refine aw_iload_n 0 dX4_init_35 rfl rfl ?_
  refine mk_newX (n := 27) (ci := 3) (C := RX3) (T := TX3) (N := 6) (ρ := ρ11) rfl inT3 tyX3 tyX3_ok cl_X4_11 in_X3 ii_X3 rfl (by decide) rfl (by decide) s.2.2.2 (Nat.le_of_ble_eq_true rfl) (Nat.le_of_ble_eq_true rfl) dX4_init_36 ?_
  refine aw_dup dX4_init_39 rfl ?_
  refine aw_callI wc_X3 (M_X3_init mk_mom27 s.2.2.2) lc_X4_24 rfl rfl (Nat.le_of_ble_eq_true rfl) ⟨rfl, rfl⟩ ⟨Nat.le_of_ble_eq_true rfl, Nat.le_of_ble_eq_true rfl⟩ ⟨Nat.le_of_ble_eq_true rfl, Nat.le_of_ble_eq_true rfl⟩ dX4_init_40 (mk_kc fun ρ14 I15 h16 => ?_)
  have s := s.sub h16 (by decide) (by decide)
  refine aw_astq (idx := 0) (n := 21) dX4_init_43 ⟨List.mem_range.mpr (by decide), rfl⟩ rfl ⟨List.mem_range.mpr (by decide), rfl⟩ (by unfold vp_in; decide) ?_
  obtain ⟨ρ17, e18⟩ : ∃ q : mk_RR, q = sw_up ρ14 22 (1 : Int32).toNatClampNeg (some 27) := ⟨_, rfl⟩
  show AW _ _ _ _ _ _ _ _ _ _ _ _ _ _ _ (mk_G 31 (sw_up ρ14 22 (1 : Int32).toNatClampNeg (some 27))) _ _ _ _ _
  rw [← e18]
  have s := s.putR1 (k := 1) (by decide) e18
  refine aw_iinc (lv' := [(1, .int 2), (0, .ref (sz + 21))]) 0 dX4_init_44 rfl (by decide) (by decide) rfl ?_
  refine aw_goto 25 dX4_init_47 (by decide) ?_
  refine aw_iload_n 0 dX4_init_25 rfl rfl ?_
  refine aw_bipush (v := 21) dX4_init_26 (by decide) ?_
  refine aw_jge 50 dX4_init_28 (by decide) (fun c => absurd (by decide) c) (fun _ => ?_)
  refine aw_aload_n 1 dX4_init_31 rfl rfl ?_
  have q19 : ρ17 21 0 = some 22 := (s.2.2.1 21 _ rfl).2.1 0
  refine aw_get (a := 21) (ci := 4) (k := 0) (C := RX4) (T := TX4) (N := 3) (v := .ref (sz + 22)) rfl inT4 (by decide) rfl (by decide) rfl (by show (if _ then va_rf (sw_o sz (ρ17 21 0)) else _) = _; rw [q19]; rfl) fc_X4_13 ⟨List.mem_range.mpr (by decide), rfl⟩ dX4_init_32 ?_
  refine aw_iload_n 0 dX4_init_35 rfl rfl ?_
  refine mk_newX (n := 31) (ci := 3) (C := RX3) (T := TX3) (N := 6) (ρ := ρ17) rfl inT3 tyX3 tyX3_ok cl_X4_11 in_X3 ii_X3 rfl (by decide) rfl (by decide) s.2.2.2 (Nat.le_of_ble_eq_true rfl) (Nat.le_of_ble_eq_true rfl) dX4_init_36 ?_
  refine aw_dup dX4_init_39 rfl ?_
  refine aw_callI wc_X3 (M_X3_init mk_mom31 s.2.2.2) lc_X4_24 rfl rfl (Nat.le_of_ble_eq_true rfl) ⟨rfl, rfl⟩ ⟨Nat.le_of_ble_eq_true rfl, Nat.le_of_ble_eq_true rfl⟩ ⟨Nat.le_of_ble_eq_true rfl, Nat.le_of_ble_eq_true rfl⟩ dX4_init_40 (mk_kc fun ρ20 I21 h22 => ?_)
  have s := s.sub h22 (by decide) (by decide)
  refine aw_astq (idx := 0) (n := 21) dX4_init_43 ⟨List.mem_range.mpr (by decide), rfl⟩ rfl ⟨List.mem_range.mpr (by decide), rfl⟩ (by unfold vp_in; decide) ?_
  obtain ⟨ρ23, e24⟩ : ∃ q : mk_RR, q = sw_up ρ20 22 (2 : Int32).toNatClampNeg (some 31) := ⟨_, rfl⟩
  show AW _ _ _ _ _ _ _ _ _ _ _ _ _ _ _ (mk_G 35 (sw_up ρ20 22 (2 : Int32).toNatClampNeg (some 31))) _ _ _ _ _
  rw [← e24]
  have s := s.putR1 (k := 2) (by decide) e24
  refine aw_iinc (lv' := [(1, .int 3), (0, .ref (sz + 21))]) 0 dX4_init_44 rfl (by decide) (by decide) rfl ?_
  refine aw_goto 25 dX4_init_47 (by decide) ?_
  refine aw_iload_n 0 dX4_init_25 rfl rfl ?_
  refine aw_bipush (v := 21) dX4_init_26 (by decide) ?_
  refine aw_jge 50 dX4_init_28 (by decide) (fun c => absurd (by decide) c) (fun _ => ?_)
  refine aw_aload_n 1 dX4_init_31 rfl rfl ?_
  have q25 : ρ23 21 0 = some 22 := (s.2.2.1 21 _ rfl).2.1 0
  refine aw_get (a := 21) (ci := 4) (k := 0) (C := RX4) (T := TX4) (N := 3) (v := .ref (sz + 22)) rfl inT4 (by decide) rfl (by decide) rfl (by show (if _ then va_rf (sw_o sz (ρ23 21 0)) else _) = _; rw [q25]; rfl) fc_X4_13 ⟨List.mem_range.mpr (by decide), rfl⟩ dX4_init_32 ?_
  refine aw_iload_n 0 dX4_init_35 rfl rfl ?_
  refine mk_newX (n := 35) (ci := 3) (C := RX3) (T := TX3) (N := 6) (ρ := ρ23) rfl inT3 tyX3 tyX3_ok cl_X4_11 in_X3 ii_X3 rfl (by decide) rfl (by decide) s.2.2.2 (Nat.le_of_ble_eq_true rfl) (Nat.le_of_ble_eq_true rfl) dX4_init_36 ?_
  refine aw_dup dX4_init_39 rfl ?_
  refine aw_callI wc_X3 (M_X3_init mk_mom35 s.2.2.2) lc_X4_24 rfl rfl (Nat.le_of_ble_eq_true rfl) ⟨rfl, rfl⟩ ⟨Nat.le_of_ble_eq_true rfl, Nat.le_of_ble_eq_true rfl⟩ ⟨Nat.le_of_ble_eq_true rfl, Nat.le_of_ble_eq_true rfl⟩ dX4_init_40 (mk_kc fun ρ26 I27 h28 => ?_)
  have s := s.sub h28 (by decide) (by decide)
  refine aw_astq (idx := 0) (n := 21) dX4_init_43 ⟨List.mem_range.mpr (by decide), rfl⟩ rfl ⟨List.mem_range.mpr (by decide), rfl⟩ (by unfold vp_in; decide) ?_
  obtain ⟨ρ29, e30⟩ : ∃ q : mk_RR, q = sw_up ρ26 22 (3 : Int32).toNatClampNeg (some 35) := ⟨_, rfl⟩
  show AW _ _ _ _ _ _ _ _ _ _ _ _ _ _ _ (mk_G 39 (sw_up ρ26 22 (3 : Int32).toNatClampNeg (some 35))) _ _ _ _ _
  rw [← e30]
  have s := s.putR1 (k := 3) (by decide) e30
  refine aw_iinc (lv' := [(1, .int 4), (0, .ref (sz + 21))]) 0 dX4_init_44 rfl (by decide) (by decide) rfl ?_
  refine aw_goto 25 dX4_init_47 (by decide) ?_
  refine aw_iload_n 0 dX4_init_25 rfl rfl ?_
  refine aw_bipush (v := 21) dX4_init_26 (by decide) ?_
  refine aw_jge 50 dX4_init_28 (by decide) (fun c => absurd (by decide) c) (fun _ => ?_)
  refine aw_aload_n 1 dX4_init_31 rfl rfl ?_
  have q31 : ρ29 21 0 = some 22 := (s.2.2.1 21 _ rfl).2.1 0
  refine aw_get (a := 21) (ci := 4) (k := 0) (C := RX4) (T := TX4) (N := 3) (v := .ref (sz + 22)) rfl inT4 (by decide) rfl (by decide) rfl (by show (if _ then va_rf (sw_o sz (ρ29 21 0)) else _) = _; rw [q31]; rfl) fc_X4_13 ⟨List.mem_range.mpr (by decide), rfl⟩ dX4_init_32 ?_
  refine aw_iload_n 0 dX4_init_35 rfl rfl ?_
  refine mk_newX (n := 39) (ci := 3) (C := RX3) (T := TX3) (N := 6) (ρ := ρ29) rfl inT3 tyX3 tyX3_ok cl_X4_11 in_X3 ii_X3 rfl (by decide) rfl (by decide) s.2.2.2 (Nat.le_of_ble_eq_true rfl) (Nat.le_of_ble_eq_true rfl) dX4_init_36 ?_
  refine aw_dup dX4_init_39 rfl ?_
  refine aw_callI wc_X3 (M_X3_init mk_mom39 s.2.2.2) lc_X4_24 rfl rfl (Nat.le_of_ble_eq_true rfl) ⟨rfl, rfl⟩ ⟨Nat.le_of_ble_eq_true rfl, Nat.le_of_ble_eq_true rfl⟩ ⟨Nat.le_of_ble_eq_true rfl, Nat.le_of_ble_eq_true rfl⟩ dX4_init_40 (mk_kc fun ρ32 I33 h34 => ?_)
  have s := s.sub h34 (by decide) (by decide)
  refine aw_astq (idx := 0) (n := 21) dX4_init_43 ⟨List.mem_range.mpr (by decide), rfl⟩ rfl ⟨List.mem_range.mpr (by decide), rfl⟩ (by unfold vp_in; decide) ?_
  obtain ⟨ρ35, e36⟩ : ∃ q : mk_RR, q = sw_up ρ32 22 (4 : Int32).toNatClampNeg (some 39) := ⟨_, rfl⟩
  show AW _ _ _ _ _ _ _ _ _ _ _ _ _ _ _ (mk_G 43 (sw_up ρ32 22 (4 : Int32).toNatClampNeg (some 39))) _ _ _ _ _
  rw [← e36]
  have s := s.putR1 (k := 4) (by decide) e36
  refine aw_iinc (lv' := [(1, .int 5), (0, .ref (sz + 21))]) 0 dX4_init_44 rfl (by decide) (by decide) rfl ?_
  refine aw_goto 25 dX4_init_47 (by decide) ?_
  refine aw_iload_n 0 dX4_init_25 rfl rfl ?_
  refine aw_bipush (v := 21) dX4_init_26 (by decide) ?_
  refine aw_jge 50 dX4_init_28 (by decide) (fun c => absurd (by decide) c) (fun _ => ?_)
  refine aw_aload_n 1 dX4_init_31 rfl rfl ?_
  have q37 : ρ35 21 0 = some 22 := (s.2.2.1 21 _ rfl).2.1 0
  refine aw_get (a := 21) (ci := 4) (k := 0) (C := RX4) (T := TX4) (N := 3) (v := .ref (sz + 22)) rfl inT4 (by decide) rfl (by decide) rfl (by show (if _ then va_rf (sw_o sz (ρ35 21 0)) else _) = _; rw [q37]; rfl) fc_X4_13 ⟨List.mem_range.mpr (by decide), rfl⟩ dX4_init_32 ?_
  refine aw_iload_n 0 dX4_init_35 rfl rfl ?_
  refine mk_newX (n := 43) (ci := 3) (C := RX3) (T := TX3) (N := 6) (ρ := ρ35) rfl inT3 tyX3 tyX3_ok cl_X4_11 in_X3 ii_X3 rfl (by decide) rfl (by decide) s.2.2.2 (Nat.le_of_ble_eq_true rfl) (Nat.le_of_ble_eq_true rfl) dX4_init_36 ?_
  refine aw_dup dX4_init_39 rfl ?_
  refine aw_callI wc_X3 (M_X3_init mk_mom43 s.2.2.2) lc_X4_24 rfl rfl (Nat.le_of_ble_eq_true rfl) ⟨rfl, rfl⟩ ⟨Nat.le_of_ble_eq_true rfl, Nat.le_of_ble_eq_true rfl⟩ ⟨Nat.le_of_ble_eq_true rfl, Nat.le_of_ble_eq_true rfl⟩ dX4_init_40 (mk_kc fun ρ38 I39 h40 => ?_)
  have s := s.sub h40 (by decide) (by decide)
  refine aw_astq (idx := 0) (n := 21) dX4_init_43 ⟨List.mem_range.mpr (by decide), rfl⟩ rfl ⟨List.mem_range.mpr (by decide), rfl⟩ (by unfold vp_in; decide) ?_
  obtain ⟨ρ41, e42⟩ : ∃ q : mk_RR, q = sw_up ρ38 22 (5 : Int32).toNatClampNeg (some 43) := ⟨_, rfl⟩
  show AW _ _ _ _ _ _ _ _ _ _ _ _ _ _ _ (mk_G 47 (sw_up ρ38 22 (5 : Int32).toNatClampNeg (some 43))) _ _ _ _ _
  rw [← e42]
  have s := s.putR1 (k := 5) (by decide) e42
  refine aw_iinc (lv' := [(1, .int 6), (0, .ref (sz + 21))]) 0 dX4_init_44 rfl (by decide) (by decide) rfl ?_
  refine aw_goto 25 dX4_init_47 (by decide) ?_
  refine aw_iload_n 0 dX4_init_25 rfl rfl ?_
  refine aw_bipush (v := 21) dX4_init_26 (by decide) ?_
  refine aw_jge 50 dX4_init_28 (by decide) (fun c => absurd (by decide) c) (fun _ => ?_)
  refine aw_aload_n 1 dX4_init_31 rfl rfl ?_
  have q43 : ρ41 21 0 = some 22 := (s.2.2.1 21 _ rfl).2.1 0
  refine aw_get (a := 21) (ci := 4) (k := 0) (C := RX4) (T := TX4) (N := 3) (v := .ref (sz + 22)) rfl inT4 (by decide) rfl (by decide) rfl (by show (if _ then va_rf (sw_o sz (ρ41 21 0)) else _) = _; rw [q43]; rfl) fc_X4_13 ⟨List.mem_range.mpr (by decide), rfl⟩ dX4_init_32 ?_
  refine aw_iload_n 0 dX4_init_35 rfl rfl ?_
  refine mk_newX (n := 47) (ci := 3) (C := RX3) (T := TX3) (N := 6) (ρ := ρ41) rfl inT3 tyX3 tyX3_ok cl_X4_11 in_X3 ii_X3 rfl (by decide) rfl (by decide) s.2.2.2 (Nat.le_of_ble_eq_true rfl) (Nat.le_of_ble_eq_true rfl) dX4_init_36 ?_
  refine aw_dup dX4_init_39 rfl ?_
  refine aw_callI wc_X3 (M_X3_init mk_mom47 s.2.2.2) lc_X4_24 rfl rfl (Nat.le_of_ble_eq_true rfl) ⟨rfl, rfl⟩ ⟨Nat.le_of_ble_eq_true rfl, Nat.le_of_ble_eq_true rfl⟩ ⟨Nat.le_of_ble_eq_true rfl, Nat.le_of_ble_eq_true rfl⟩ dX4_init_40 (mk_kc fun ρ44 I45 h46 => ?_)
  have s := s.sub h46 (by decide) (by decide)
  refine aw_astq (idx := 0) (n := 21) dX4_init_43 ⟨List.mem_range.mpr (by decide), rfl⟩ rfl ⟨List.mem_range.mpr (by decide), rfl⟩ (by unfold vp_in; decide) ?_
  obtain ⟨ρ47, e48⟩ : ∃ q : mk_RR, q = sw_up ρ44 22 (6 : Int32).toNatClampNeg (some 47) := ⟨_, rfl⟩
  show AW _ _ _ _ _ _ _ _ _ _ _ _ _ _ _ (mk_G 51 (sw_up ρ44 22 (6 : Int32).toNatClampNeg (some 47))) _ _ _ _ _
  rw [← e48]
  have s := s.putR1 (k := 6) (by decide) e48
  refine aw_iinc (lv' := [(1, .int 7), (0, .ref (sz + 21))]) 0 dX4_init_44 rfl (by decide) (by decide) rfl ?_
  refine aw_goto 25 dX4_init_47 (by decide) ?_
  refine aw_iload_n 0 dX4_init_25 rfl rfl ?_
  refine aw_bipush (v := 21) dX4_init_26 (by decide) ?_
  refine aw_jge 50 dX4_init_28 (by decide) (fun c => absurd (by decide) c) (fun _ => ?_)
  refine aw_aload_n 1 dX4_init_31 rfl rfl ?_
  have q49 : ρ47 21 0 = some 22 := (s.2.2.1 21 _ rfl).2.1 0
  refine aw_get (a := 21) (ci := 4) (k := 0) (C := RX4) (T := TX4) (N := 3) (v := .ref (sz + 22)) rfl inT4 (by decide) rfl (by decide) rfl (by show (if _ then va_rf (sw_o sz (ρ47 21 0)) else _) = _; rw [q49]; rfl) fc_X4_13 ⟨List.mem_range.mpr (by decide), rfl⟩ dX4_init_32 ?_
  refine aw_iload_n 0 dX4_init_35 rfl rfl ?_
  refine mk_newX (n := 51) (ci := 3) (C := RX3) (T := TX3) (N := 6) (ρ := ρ47) rfl inT3 tyX3 tyX3_ok cl_X4_11 in_X3 ii_X3 rfl (by decide) rfl (by decide) s.2.2.2 (Nat.le_of_ble_eq_true rfl) (Nat.le_of_ble_eq_true rfl) dX4_init_36 ?_
  refine aw_dup dX4_init_39 rfl ?_
  refine aw_callI wc_X3 (M_X3_init mk_mom51 s.2.2.2) lc_X4_24 rfl rfl (Nat.le_of_ble_eq_true rfl) ⟨rfl, rfl⟩ ⟨Nat.le_of_ble_eq_true rfl, Nat.le_of_ble_eq_true rfl⟩ ⟨Nat.le_of_ble_eq_true rfl, Nat.le_of_ble_eq_true rfl⟩ dX4_init_40 (mk_kc fun ρ50 I51 h52 => ?_)
  have s := s.sub h52 (by decide) (by decide)
  refine aw_astq (idx := 0) (n := 21) dX4_init_43 ⟨List.mem_range.mpr (by decide), rfl⟩ rfl ⟨List.mem_range.mpr (by decide), rfl⟩ (by unfold vp_in; decide) ?_
  obtain ⟨ρ53, e54⟩ : ∃ q : mk_RR, q = sw_up ρ50 22 (7 : Int32).toNatClampNeg (some 51) := ⟨_, rfl⟩
  show AW _ _ _ _ _ _ _ _ _ _ _ _ _ _ _ (mk_G 55 (sw_up ρ50 22 (7 : Int32).toNatClampNeg (some 51))) _ _ _ _ _
  rw [← e54]
  have s := s.putR1 (k := 7) (by decide) e54
  refine aw_iinc (lv' := [(1, .int 8), (0, .ref (sz + 21))]) 0 dX4_init_44 rfl (by decide) (by decide) rfl ?_
  refine aw_goto 25 dX4_init_47 (by decide) ?_
  refine aw_iload_n 0 dX4_init_25 rfl rfl ?_
  refine aw_bipush (v := 21) dX4_init_26 (by decide) ?_
  refine aw_jge 50 dX4_init_28 (by decide) (fun c => absurd (by decide) c) (fun _ => ?_)
  refine aw_aload_n 1 dX4_init_31 rfl rfl ?_
  have q55 : ρ53 21 0 = some 22 := (s.2.2.1 21 _ rfl).2.1 0
  refine aw_get (a := 21) (ci := 4) (k := 0) (C := RX4) (T := TX4) (N := 3) (v := .ref (sz + 22)) rfl inT4 (by decide) rfl (by decide) rfl (by show (if _ then va_rf (sw_o sz (ρ53 21 0)) else _) = _; rw [q55]; rfl) fc_X4_13 ⟨List.mem_range.mpr (by decide), rfl⟩ dX4_init_32 ?_
  refine aw_iload_n 0 dX4_init_35 rfl rfl ?_
  refine mk_newX (n := 55) (ci := 3) (C := RX3) (T := TX3) (N := 6) (ρ := ρ53) rfl inT3 tyX3 tyX3_ok cl_X4_11 in_X3 ii_X3 rfl (by decide) rfl (by decide) s.2.2.2 (Nat.le_of_ble_eq_true rfl) (Nat.le_of_ble_eq_true rfl) dX4_init_36 ?_
  refine aw_dup dX4_init_39 rfl ?_
  refine aw_callI wc_X3 (M_X3_init mk_mom55 s.2.2.2) lc_X4_24 rfl rfl (Nat.le_of_ble_eq_true rfl) ⟨rfl, rfl⟩ ⟨Nat.le_of_ble_eq_true rfl, Nat.le_of_ble_eq_true rfl⟩ ⟨Nat.le_of_ble_eq_true rfl, Nat.le_of_ble_eq_true rfl⟩ dX4_init_40 (mk_kc fun ρ56 I57 h58 => ?_)
  have s := s.sub h58 (by decide) (by decide)
  refine aw_astq (idx := 0) (n := 21) dX4_init_43 ⟨List.mem_range.mpr (by decide), rfl⟩ rfl ⟨List.mem_range.mpr (by decide), rfl⟩ (by unfold vp_in; decide) ?_
  obtain ⟨ρ59, e60⟩ : ∃ q : mk_RR, q = sw_up ρ56 22 (8 : Int32).toNatClampNeg (some 55) := ⟨_, rfl⟩
  show AW _ _ _ _ _ _ _ _ _ _ _ _ _ _ _ (mk_G 59 (sw_up ρ56 22 (8 : Int32).toNatClampNeg (some 55))) _ _ _ _ _
  rw [← e60]
  have s := s.putR1 (k := 8) (by decide) e60
  refine aw_iinc (lv' := [(1, .int 9), (0, .ref (sz + 21))]) 0 dX4_init_44 rfl (by decide) (by decide) rfl ?_
  refine aw_goto 25 dX4_init_47 (by decide) ?_
  refine aw_iload_n 0 dX4_init_25 rfl rfl ?_
  refine aw_bipush (v := 21) dX4_init_26 (by decide) ?_
  refine aw_jge 50 dX4_init_28 (by decide) (fun c => absurd (by decide) c) (fun _ => ?_)
  refine aw_aload_n 1 dX4_init_31 rfl rfl ?_
  have q61 : ρ59 21 0 = some 22 := (s.2.2.1 21 _ rfl).2.1 0
  refine aw_get (a := 21) (ci := 4) (k := 0) (C := RX4) (T := TX4) (N := 3) (v := .ref (sz + 22)) rfl inT4 (by decide) rfl (by decide) rfl (by show (if _ then va_rf (sw_o sz (ρ59 21 0)) else _) = _; rw [q61]; rfl) fc_X4_13 ⟨List.mem_range.mpr (by decide), rfl⟩ dX4_init_32 ?_
  refine aw_iload_n 0 dX4_init_35 rfl rfl ?_
  refine mk_newX (n := 59) (ci := 3) (C := RX3) (T := TX3) (N := 6) (ρ := ρ59) rfl inT3 tyX3 tyX3_ok cl_X4_11 in_X3 ii_X3 rfl (by decide) rfl (by decide) s.2.2.2 (Nat.le_of_ble_eq_true rfl) (Nat.le_of_ble_eq_true rfl) dX4_init_36 ?_
  refine aw_dup dX4_init_39 rfl ?_
  refine aw_callI wc_X3 (M_X3_init mk_mom59 s.2.2.2) lc_X4_24 rfl rfl (Nat.le_of_ble_eq_true rfl) ⟨rfl, rfl⟩ ⟨Nat.le_of_ble_eq_true rfl, Nat.le_of_ble_eq_true rfl⟩ ⟨Nat.le_of_ble_eq_true rfl, Nat.le_of_ble_eq_true rfl⟩ dX4_init_40 (mk_kc fun ρ62 I63 h64 => ?_)
  have s := s.sub h64 (by decide) (by decide)
  refine aw_astq (idx := 0) (n := 21) dX4_init_43 ⟨List.mem_range.mpr (by decide), rfl⟩ rfl ⟨List.mem_range.mpr (by decide), rfl⟩ (by unfold vp_in; decide) ?_
  obtain ⟨ρ65, e66⟩ : ∃ q : mk_RR, q = sw_up ρ62 22 (9 : Int32).toNatClampNeg (some 59) := ⟨_, rfl⟩
  show AW _ _ _ _ _ _ _ _ _ _ _ _ _ _ _ (mk_G 63 (sw_up ρ62 22 (9 : Int32).toNatClampNeg (some 59))) _ _ _ _ _
  rw [← e66]
  have s := s.putR1 (k := 9) (by decide) e66
  refine aw_iinc (lv' := [(1, .int 10), (0, .ref (sz + 21))]) 0 dX4_init_44 rfl (by decide) (by decide) rfl ?_
  refine aw_goto 25 dX4_init_47 (by decide) ?_
  refine aw_iload_n 0 dX4_init_25 rfl rfl ?_
  refine aw_bipush (v := 21) dX4_init_26 (by decide) ?_
  refine aw_jge 50 dX4_init_28 (by decide) (fun c => absurd (by decide) c) (fun _ => ?_)
  refine aw_aload_n 1 dX4_init_31 rfl rfl ?_
  have q67 : ρ65 21 0 = some 22 := (s.2.2.1 21 _ rfl).2.1 0
  refine aw_get (a := 21) (ci := 4) (k := 0) (C := RX4) (T := TX4) (N := 3) (v := .ref (sz + 22)) rfl inT4 (by decide) rfl (by decide) rfl (by show (if _ then va_rf (sw_o sz (ρ65 21 0)) else _) = _; rw [q67]; rfl) fc_X4_13 ⟨List.mem_range.mpr (by decide), rfl⟩ dX4_init_32 ?_
  refine aw_iload_n 0 dX4_init_35 rfl rfl ?_
  refine mk_newX (n := 63) (ci := 3) (C := RX3) (T := TX3) (N := 6) (ρ := ρ65) rfl inT3 tyX3 tyX3_ok cl_X4_11 in_X3 ii_X3 rfl (by decide) rfl (by decide) s.2.2.2 (Nat.le_of_ble_eq_true rfl) (Nat.le_of_ble_eq_true rfl) dX4_init_36 ?_
  refine aw_dup dX4_init_39 rfl ?_
  refine aw_callI wc_X3 (M_X3_init mk_mom63 s.2.2.2) lc_X4_24 rfl rfl (Nat.le_of_ble_eq_true rfl) ⟨rfl, rfl⟩ ⟨Nat.le_of_ble_eq_true rfl, Nat.le_of_ble_eq_true rfl⟩ ⟨Nat.le_of_ble_eq_true rfl, Nat.le_of_ble_eq_true rfl⟩ dX4_init_40 (mk_kc fun ρ68 I69 h70 => ?_)
  have s := s.sub h70 (by decide) (by decide)
  refine aw_astq (idx := 0) (n := 21) dX4_init_43 ⟨List.mem_range.mpr (by decide), rfl⟩ rfl ⟨List.mem_range.mpr (by decide), rfl⟩ (by unfold vp_in; decide) ?_
  obtain ⟨ρ71, e72⟩ : ∃ q : mk_RR, q = sw_up ρ68 22 (10 : Int32).toNatClampNeg (some 63) := ⟨_, rfl⟩
  show AW _ _ _ _ _ _ _ _ _ _ _ _ _ _ _ (mk_G 67 (sw_up ρ68 22 (10 : Int32).toNatClampNeg (some 63))) _ _ _ _ _
  rw [← e72]
  have s := s.putR1 (k := 10) (by decide) e72
  refine aw_iinc (lv' := [(1, .int 11), (0, .ref (sz + 21))]) 0 dX4_init_44 rfl (by decide) (by decide) rfl ?_
  refine aw_goto 25 dX4_init_47 (by decide) ?_
  refine aw_iload_n 0 dX4_init_25 rfl rfl ?_
  refine aw_bipush (v := 21) dX4_init_26 (by decide) ?_
  refine aw_jge 50 dX4_init_28 (by decide) (fun c => absurd (by decide) c) (fun _ => ?_)
  refine aw_aload_n 1 dX4_init_31 rfl rfl ?_
  have q73 : ρ71 21 0 = some 22 := (s.2.2.1 21 _ rfl).2.1 0
  refine aw_get (a := 21) (ci := 4) (k := 0) (C := RX4) (T := TX4) (N := 3) (v := .ref (sz + 22)) rfl inT4 (by decide) rfl (by decide) rfl (by show (if _ then va_rf (sw_o sz (ρ71 21 0)) else _) = _; rw [q73]; rfl) fc_X4_13 ⟨List.mem_range.mpr (by decide), rfl⟩ dX4_init_32 ?_
  refine aw_iload_n 0 dX4_init_35 rfl rfl ?_
  refine mk_newX (n := 67) (ci := 3) (C := RX3) (T := TX3) (N := 6) (ρ := ρ71) rfl inT3 tyX3 tyX3_ok cl_X4_11 in_X3 ii_X3 rfl (by decide) rfl (by decide) s.2.2.2 (Nat.le_of_ble_eq_true rfl) (Nat.le_of_ble_eq_true rfl) dX4_init_36 ?_
  refine aw_dup dX4_init_39 rfl ?_
  refine aw_callI wc_X3 (M_X3_init mk_mom67 s.2.2.2) lc_X4_24 rfl rfl (Nat.le_of_ble_eq_true rfl) ⟨rfl, rfl⟩ ⟨Nat.le_of_ble_eq_true rfl, Nat.le_of_ble_eq_true rfl⟩ ⟨Nat.le_of_ble_eq_true rfl, Nat.le_of_ble_eq_true rfl⟩ dX4_init_40 (mk_kc fun ρ74 I75 h76 => ?_)
  have s := s.sub h76 (by decide) (by decide)
  refine aw_astq (idx := 0) (n := 21) dX4_init_43 ⟨List.mem_range.mpr (by decide), rfl⟩ rfl ⟨List.mem_range.mpr (by decide), rfl⟩ (by unfold vp_in; decide) ?_
  obtain ⟨ρ77, e78⟩ : ∃ q : mk_RR, q = sw_up ρ74 22 (11 : Int32).toNatClampNeg (some 67) := ⟨_, rfl⟩
  show AW _ _ _ _ _ _ _ _ _ _ _ _ _ _ _ (mk_G 71 (sw_up ρ74 22 (11 : Int32).toNatClampNeg (some 67))) _ _ _ _ _
  rw [← e78]
  have s := s.putR1 (k := 11) (by decide) e78
  refine aw_iinc (lv' := [(1, .int 12), (0, .ref (sz + 21))]) 0 dX4_init_44 rfl (by decide) (by decide) rfl ?_
  refine aw_goto 25 dX4_init_47 (by decide) ?_
  refine aw_iload_n 0 dX4_init_25 rfl rfl ?_
  refine aw_bipush (v := 21) dX4_init_26 (by decide) ?_
  refine aw_jge 50 dX4_init_28 (by decide) (fun c => absurd (by decide) c) (fun _ => ?_)
  refine aw_aload_n 1 dX4_init_31 rfl rfl ?_
  have q79 : ρ77 21 0 = some 22 := (s.2.2.1 21 _ rfl).2.1 0
  refine aw_get (a := 21) (ci := 4) (k := 0) (C := RX4) (T := TX4) (N := 3) (v := .ref (sz + 22)) rfl inT4 (by decide) rfl (by decide) rfl (by show (if _ then va_rf (sw_o sz (ρ77 21 0)) else _) = _; rw [q79]; rfl) fc_X4_13 ⟨List.mem_range.mpr (by decide), rfl⟩ dX4_init_32 ?_
  refine aw_iload_n 0 dX4_init_35 rfl rfl ?_
  refine mk_newX (n := 71) (ci := 3) (C := RX3) (T := TX3) (N := 6) (ρ := ρ77) rfl inT3 tyX3 tyX3_ok cl_X4_11 in_X3 ii_X3 rfl (by decide) rfl (by decide) s.2.2.2 (Nat.le_of_ble_eq_true rfl) (Nat.le_of_ble_eq_true rfl) dX4_init_36 ?_
  refine aw_dup dX4_init_39 rfl ?_
  refine aw_callI wc_X3 (M_X3_init mk_mom71 s.2.2.2) lc_X4_24 rfl rfl (Nat.le_of_ble_eq_true rfl) ⟨rfl, rfl⟩ ⟨Nat.le_of_ble_eq_true rfl, Nat.le_of_ble_eq_true rfl⟩ ⟨Nat.le_of_ble_eq_true rfl, Nat.le_of_ble_eq_true rfl⟩ dX4_init_40 (mk_kc fun ρ80 I81 h82 => ?_)
  have s := s.sub h82 (by decide) (by decide)
  refine aw_astq (idx := 0) (n := 21) dX4_init_43 ⟨List.mem_range.mpr (by decide), rfl⟩ rfl ⟨List.mem_range.mpr (by decide), rfl⟩ (by unfold vp_in; decide) ?_
  obtain ⟨ρ83, e84⟩ : ∃ q : mk_RR, q = sw_up ρ80 22 (12 : Int32).toNatClampNeg (some 71) := ⟨_, rfl⟩
  show AW _ _ _ _ _ _ _ _ _ _ _ _ _ _ _ (mk_G 75 (sw_up ρ80 22 (12 : Int32).toNatClampNeg (some 71))) _ _ _ _ _
  rw [← e84]
  have s := s.putR1 (k := 12) (by decide) e84
  refine aw_iinc (lv' := [(1, .int 13), (0, .ref (sz + 21))]) 0 dX4_init_44 rfl (by decide) (by decide) rfl ?_
  refine aw_goto 25 dX4_init_47 (by decide) ?_
  refine aw_iload_n 0 dX4_init_25 rfl rfl ?_
  refine aw_bipush (v := 21) dX4_init_26 (by decide) ?_
  refine aw_jge 50 dX4_init_28 (by decide) (fun c => absurd (by decide) c) (fun _ => ?_)
  refine aw_aload_n 1 dX4_init_31 rfl rfl ?_
  have q85 : ρ83 21 0 = some 22 := (s.2.2.1 21 _ rfl).2.1 0
  refine aw_get (a := 21) (ci := 4) (k := 0) (C := RX4) (T := TX4) (N := 3) (v := .ref (sz + 22)) rfl inT4 (by decide) rfl (by decide) rfl (by show (if _ then va_rf (sw_o sz (ρ83 21 0)) else _) = _; rw [q85]; rfl) fc_X4_13 ⟨List.mem_range.mpr (by decide), rfl⟩ dX4_init_32 ?_
  refine aw_iload_n 0 dX4_init_35 rfl rfl ?_
  refine mk_newX (n := 75) (ci := 3) (C := RX3) (T := TX3) (N := 6) (ρ := ρ83) rfl inT3 tyX3 tyX3_ok cl_X4_11 in_X3 ii_X3 rfl (by decide) rfl (by decide) s.2.2.2 (Nat.le_of_ble_eq_true rfl) (Nat.le_of_ble_eq_true rfl) dX4_init_36 ?_
  refine aw_dup dX4_init_39 rfl ?_
  refine aw_callI wc_X3 (M_X3_init mk_mom75 s.2.2.2) lc_X4_24 rfl rfl (Nat.le_of_ble_eq_true rfl) ⟨rfl, rfl⟩ ⟨Nat.le_of_ble_eq_true rfl, Nat.le_of_ble_eq_true rfl⟩ ⟨Nat.le_of_ble_eq_true rfl, Nat.le_of_ble_eq_true rfl⟩ dX4_init_40 (mk_kc fun ρ86 I87 h88 => ?_)
  have s := s.sub h88 (by decide) (by decide)
  refine aw_astq (idx := 0) (n := 21) dX4_init_43 ⟨List.mem_range.mpr (by decide), rfl⟩ rfl ⟨List.mem_range.mpr (by decide), rfl⟩ (by unfold vp_in; decide) ?_
  obtain ⟨ρ89, e90⟩ : ∃ q : mk_RR, q = sw_up ρ86 22 (13 : Int32).toNatClampNeg (some 75) := ⟨_, rfl⟩
  show AW _ _ _ _ _ _ _ _ _ _ _ _ _ _ _ (mk_G 79 (sw_up ρ86 22 (13 : Int32).toNatClampNeg (some 75))) _ _ _ _ _
  rw [← e90]
  have s := s.putR1 (k := 13) (by decide) e90
  refine aw_iinc (lv' := [(1, .int 14), (0, .ref (sz + 21))]) 0 dX4_init_44 rfl (by decide) (by decide) rfl ?_
  refine aw_goto 25 dX4_init_47 (by decide) ?_
  refine aw_iload_n 0 dX4_init_25 rfl rfl ?_
  refine aw_bipush (v := 21) dX4_init_26 (by decide) ?_
  refine aw_jge 50 dX4_init_28 (by decide) (fun c => absurd (by decide) c) (fun _ => ?_)
  refine aw_aload_n 1 dX4_init_31 rfl rfl ?_
  have q91 : ρ89 21 0 = some 22 := (s.2.2.1 21 _ rfl).2.1 0
  refine aw_get (a := 21) (ci := 4) (k := 0) (C := RX4) (T := TX4) (N := 3) (v := .ref (sz + 22)) rfl inT4 (by decide) rfl (by decide) rfl (by show (if _ then va_rf (sw_o sz (ρ89 21 0)) else _) = _; rw [q91]; rfl) fc_X4_13 ⟨List.mem_range.mpr (by decide), rfl⟩ dX4_init_32 ?_
  refine aw_iload_n 0 dX4_init_35 rfl rfl ?_
  refine mk_newX (n := 79) (ci := 3) (C := RX3) (T := TX3) (N := 6) (ρ := ρ89) rfl inT3 tyX3 tyX3_ok cl_X4_11 in_X3 ii_X3 rfl (by decide) rfl (by decide) s.2.2.2 (Nat.le_of_ble_eq_true rfl) (Nat.le_of_ble_eq_true rfl) dX4_init_36 ?_
  refine aw_dup dX4_init_39 rfl ?_
  refine aw_callI wc_X3 (M_X3_init mk_mom79 s.2.2.2) lc_X4_24 rfl rfl (Nat.le_of_ble_eq_true rfl) ⟨rfl, rfl⟩ ⟨Nat.le_of_ble_eq_true rfl, Nat.le_of_ble_eq_true rfl⟩ ⟨Nat.le_of_ble_eq_true rfl, Nat.le_of_ble_eq_true rfl⟩ dX4_init_40 (mk_kc fun ρ92 I93 h94 => ?_)
  have s := s.sub h94 (by decide) (by decide)
  refine aw_astq (idx := 0) (n := 21) dX4_init_43 ⟨List.mem_range.mpr (by decide), rfl⟩ rfl ⟨List.mem_range.mpr (by decide), rfl⟩ (by unfold vp_in; decide) ?_
  obtain ⟨ρ95, e96⟩ : ∃ q : mk_RR, q = sw_up ρ92 22 (14 : Int32).toNatClampNeg (some 79) := ⟨_, rfl⟩
  show AW _ _ _ _ _ _ _ _ _ _ _ _ _ _ _ (mk_G 83 (sw_up ρ92 22 (14 : Int32).toNatClampNeg (some 79))) _ _ _ _ _
  rw [← e96]
  have s := s.putR1 (k := 14) (by decide) e96
  refine aw_iinc (lv' := [(1, .int 15), (0, .ref (sz + 21))]) 0 dX4_init_44 rfl (by decide) (by decide) rfl ?_
  refine aw_goto 25 dX4_init_47 (by decide) ?_
  refine aw_iload_n 0 dX4_init_25 rfl rfl ?_
  refine aw_bipush (v := 21) dX4_init_26 (by decide) ?_
  refine aw_jge 50 dX4_init_28 (by decide) (fun c => absurd (by decide) c) (fun _ => ?_)
  refine aw_aload_n 1 dX4_init_31 rfl rfl ?_
  have q97 : ρ95 21 0 = some 22 := (s.2.2.1 21 _ rfl).2.1 0
  refine aw_get (a := 21) (ci := 4) (k := 0) (C := RX4) (T := TX4) (N := 3) (v := .ref (sz + 22)) rfl inT4 (by decide) rfl (by decide) rfl (by show (if _ then va_rf (sw_o sz (ρ95 21 0)) else _) = _; rw [q97]; rfl) fc_X4_13 ⟨List.mem_range.mpr (by decide), rfl⟩ dX4_init_32 ?_
  refine aw_iload_n 0 dX4_init_35 rfl rfl ?_
  refine mk_newX (n := 83) (ci := 3) (C := RX3) (T := TX3) (N := 6) (ρ := ρ95) rfl inT3 tyX3 tyX3_ok cl_X4_11 in_X3 ii_X3 rfl (by decide) rfl (by decide) s.2.2.2 (Nat.le_of_ble_eq_true rfl) (Nat.le_of_ble_eq_true rfl) dX4_init_36 ?_
  refine aw_dup dX4_init_39 rfl ?_
  refine aw_callI wc_X3 (M_X3_init mk_mom83 s.2.2.2) lc_X4_24 rfl rfl (Nat.le_of_ble_eq_true rfl) ⟨rfl, rfl⟩ ⟨Nat.le_of_ble_eq_true rfl, Nat.le_of_ble_eq_true rfl⟩ ⟨Nat.le_of_ble_eq_true rfl, Nat.le_of_ble_eq_true rfl⟩ dX4_init_40 (mk_kc fun ρ98 I99 h100 => ?_)
  have s := s.sub h100 (by decide) (by decide)
  refine aw_astq (idx := 0) (n := 21) dX4_init_43 ⟨List.mem_range.mpr (by decide), rfl⟩ rfl ⟨List.mem_range.mpr (by decide), rfl⟩ (by unfold vp_in; decide) ?_
  obtain ⟨ρ101, e102⟩ : ∃ q : mk_RR, q = sw_up ρ98 22 (15 : Int32).toNatClampNeg (some 83) := ⟨_, rfl⟩
  show AW _ _ _ _ _ _ _ _ _ _ _ _ _ _ _ (mk_G 87 (sw_up ρ98 22 (15 : Int32).toNatClampNeg (some 83))) _ _ _ _ _
  rw [← e102]
  have s := s.putR1 (k := 15) (by decide) e102
  refine aw_iinc (lv' := [(1, .int 16), (0, .ref (sz + 21))]) 0 dX4_init_44 rfl (by decide) (by decide) rfl ?_
  refine aw_goto 25 dX4_init_47 (by decide) ?_
  refine aw_iload_n 0 dX4_init_25 rfl rfl ?_
  refine aw_bipush (v := 21) dX4_init_26 (by decide) ?_
  refine aw_jge 50 dX4_init_28 (by decide) (fun c => absurd (by decide) c) (fun _ => ?_)
  refine aw_aload_n 1 dX4_init_31 rfl rfl ?_
  have q103 : ρ101 21 0 = some 22 := (s.2.2.1 21 _ rfl).2.1 0
  refine aw_get (a := 21) (ci := 4) (k := 0) (C := RX4) (T := TX4) (N := 3) (v := .ref (sz + 22)) rfl inT4 (by decide) rfl (by decide) rfl (by show (if _ then va_rf (sw_o sz (ρ101 21 0)) else _) = _; rw [q103]; rfl) fc_X4_13 ⟨List.mem_range.mpr (by decide), rfl⟩ dX4_init_32 ?_
  refine aw_iload_n 0 dX4_init_35 rfl rfl ?_
  refine mk_newX (n := 87) (ci := 3) (C := RX3) (T := TX3) (N := 6) (ρ := ρ101) rfl inT3 tyX3 tyX3_ok cl_X4_11 in_X3 ii_X3 rfl (by decide) rfl (by decide) s.2.2.2 (Nat.le_of_ble_eq_true rfl) (Nat.le_of_ble_eq_true rfl) dX4_init_36 ?_
  refine aw_dup dX4_init_39 rfl ?_
  refine aw_callI wc_X3 (M_X3_init mk_mom87 s.2.2.2) lc_X4_24 rfl rfl (Nat.le_of_ble_eq_true rfl) ⟨rfl, rfl⟩ ⟨Nat.le_of_ble_eq_true rfl, Nat.le_of_ble_eq_true rfl⟩ ⟨Nat.le_of_ble_eq_true rfl, Nat.le_of_ble_eq_true rfl⟩ dX4_init_40 (mk_kc fun ρ104 I105 h106 => ?_)
  have s := s.sub h106 (by decide) (by decide)
  refine aw_astq (idx := 0) (n := 21) dX4_init_43 ⟨List.mem_range.mpr (by decide), rfl⟩ rfl ⟨List.mem_range.mpr (by decide), rfl⟩ (by unfold vp_in; decide) ?_
  obtain ⟨ρ107, e108⟩ : ∃ q : mk_RR, q = sw_up ρ104 22 (16 : Int32).toNatClampNeg (some 87) := ⟨_, rfl⟩
  show AW _ _ _ _ _ _ _ _ _ _ _ _ _ _ _ (mk_G 91 (sw_up ρ104 22 (16 : Int32).toNatClampNeg (some 87))) _ _ _ _ _
  rw [← e108]
  have s := s.putR1 (k := 16) (by decide) e108
  refine aw_iinc (lv' := [(1, .int 17), (0, .ref (sz + 21))]) 0 dX4_init_44 rfl (by decide) (by decide) rfl ?_
  refine aw_goto 25 dX4_init_47 (by decide) ?_
  refine aw_iload_n 0 dX4_init_25 rfl rfl ?_
  refine aw_bipush (v := 21) dX4_init_26 (by decide) ?_
  refine aw_jge 50 dX4_init_28 (by decide) (fun c => absurd (by decide) c) (fun _ => ?_)
  refine aw_aload_n 1 dX4_init_31 rfl rfl ?_
  have q109 : ρ107 21 0 = some 22 := (s.2.2.1 21 _ rfl).2.1 0
  refine aw_get (a := 21) (ci := 4) (k := 0) (C := RX4) (T := TX4) (N := 3) (v := .ref (sz + 22)) rfl inT4 (by decide) rfl (by decide) rfl (by show (if _ then va_rf (sw_o sz (ρ107 21 0)) else _) = _; rw [q109]; rfl) fc_X4_13 ⟨List.mem_range.mpr (by decide), rfl⟩ dX4_init_32 ?_
  refine aw_iload_n 0 dX4_init_35 rfl rfl ?_
  refine mk_newX (n := 91) (ci := 3) (C := RX3) (T := TX3) (N := 6) (ρ := ρ107) rfl inT3 tyX3 tyX3_ok cl_X4_11 in_X3 ii_X3 rfl (by decide) rfl (by decide) s.2.2.2 (Nat.le_of_ble_eq_true rfl) (Nat.le_of_ble_eq_true rfl) dX4_init_36 ?_
  refine aw_dup dX4_init_39 rfl ?_
  refine aw_callI wc_X3 (M_X3_init mk_mom91 s.2.2.2) lc_X4_24 rfl rfl (Nat.le_of_ble_eq_true rfl) ⟨rfl, rfl⟩ ⟨Nat.le_of_ble_eq_true rfl, Nat.le_of_ble_eq_true rfl⟩ ⟨Nat.le_of_ble_eq_true rfl, Nat.le_of_ble_eq_true rfl⟩ dX4_init_40 (mk_kc fun ρ110 I111 h112 => ?_)
  have s := s.sub h112 (by decide) (by decide)
  refine aw_astq (idx := 0) (n := 21) dX4_init_43 ⟨List.mem_range.mpr (by decide), rfl⟩ rfl ⟨List.mem_range.mpr (by decide), rfl⟩ (by unfold vp_in; decide) ?_
  obtain ⟨ρ113, e114⟩ : ∃ q : mk_RR, q = sw_up ρ110 22 (17 : Int32).toNatClampNeg (some 91) := ⟨_, rfl⟩
  show AW _ _ _ _ _ _ _ _ _ _ _ _ _ _ _ (mk_G 95 (sw_up ρ110 22 (17 : Int32).toNatClampNeg (some 91))) _ _ _ _ _
  rw [← e114]
  have s := s.putR1 (k := 17) (by decide) e114
  refine aw_iinc (lv' := [(1, .int 18), (0, .ref (sz + 21))]) 0 dX4_init_44 rfl (by decide) (by decide) rfl ?_
  refine aw_goto 25 dX4_init_47 (by decide) ?_
  refine aw_iload_n 0 dX4_init_25 rfl rfl ?_
  refine aw_bipush (v := 21) dX4_init_26 (by decide) ?_
  refine aw_jge 50 dX4_init_28 (by decide) (fun c => absurd (by decide) c) (fun _ => ?_)
  refine aw_aload_n 1 dX4_init_31 rfl rfl ?_
  have q115 : ρ113 21 0 = some 22 := (s.2.2.1 21 _ rfl).2.1 0
  refine aw_get (a := 21) (ci := 4) (k := 0) (C := RX4) (T := TX4) (N := 3) (v := .ref (sz + 22)) rfl inT4 (by decide) rfl (by decide) rfl (by show (if _ then va_rf (sw_o sz (ρ113 21 0)) else _) = _; rw [q115]; rfl) fc_X4_13 ⟨List.mem_range.mpr (by decide), rfl⟩ dX4_init_32 ?_
  refine aw_iload_n 0 dX4_init_35 rfl rfl ?_
  refine mk_newX (n := 95) (ci := 3) (C := RX3) (T := TX3) (N := 6) (ρ := ρ113) rfl inT3 tyX3 tyX3_ok cl_X4_11 in_X3 ii_X3 rfl (by decide) rfl (by decide) s.2.2.2 (Nat.le_of_ble_eq_true rfl) (Nat.le_of_ble_eq_true rfl) dX4_init_36 ?_
  refine aw_dup dX4_init_39 rfl ?_
  refine aw_callI wc_X3 (M_X3_init mk_mom95 s.2.2.2) lc_X4_24 rfl rfl (Nat.le_of_ble_eq_true rfl) ⟨rfl, rfl⟩ ⟨Nat.le_of_ble_eq_true rfl, Nat.le_of_ble_eq_true rfl⟩ ⟨Nat.le_of_ble_eq_true rfl, Nat.le_of_ble_eq_true rfl⟩ dX4_init_40 (mk_kc fun ρ116 I117 h118 => ?_)
  have s := s.sub h118 (by decide) (by decide)
  refine aw_astq (idx := 0) (n := 21) dX4_init_43 ⟨List.mem_range.mpr (by decide), rfl⟩ rfl ⟨List.mem_range.mpr (by decide), rfl⟩ (by unfold vp_in; decide) ?_
  obtain ⟨ρ119, e120⟩ : ∃ q : mk_RR, q = sw_up ρ116 22 (18 : Int32).toNatClampNeg (some 95) := ⟨_, rfl⟩
  show AW _ _ _ _ _ _ _ _ _ _ _ _ _ _ _ (mk_G 99 (sw_up ρ116 22 (18 : Int32).toNatClampNeg (some 95))) _ _ _ _ _
  rw [← e120]
  have s := s.putR1 (k := 18) (by decide) e120
  refine aw_iinc (lv' := [(1, .int 19), (0, .ref (sz + 21))]) 0 dX4_init_44 rfl (by decide) (by decide) rfl ?_
  refine aw_goto 25 dX4_init_47 (by decide) ?_
  refine aw_iload_n 0 dX4_init_25 rfl rfl ?_
  refine aw_bipush (v := 21) dX4_init_26 (by decide) ?_
  refine aw_jge 50 dX4_init_28 (by decide) (fun c => absurd (by decide) c) (fun _ => ?_)
  refine aw_aload_n 1 dX4_init_31 rfl rfl ?_
  have q121 : ρ119 21 0 = some 22 := (s.2.2.1 21 _ rfl).2.1 0
  refine aw_get (a := 21) (ci := 4) (k := 0) (C := RX4) (T := TX4) (N := 3) (v := .ref (sz + 22)) rfl inT4 (by decide) rfl (by decide) rfl (by show (if _ then va_rf (sw_o sz (ρ119 21 0)) else _) = _; rw [q121]; rfl) fc_X4_13 ⟨List.mem_range.mpr (by decide), rfl⟩ dX4_init_32 ?_
  refine aw_iload_n 0 dX4_init_35 rfl rfl ?_
  refine mk_newX (n := 99) (ci := 3) (C := RX3) (T := TX3) (N := 6) (ρ := ρ119) rfl inT3 tyX3 tyX3_ok cl_X4_11 in_X3 ii_X3 rfl (by decide) rfl (by decide) s.2.2.2 (Nat.le_of_ble_eq_true rfl) (Nat.le_of_ble_eq_true rfl) dX4_init_36 ?_
  refine aw_dup dX4_init_39 rfl ?_
  refine aw_callI wc_X3 (M_X3_init mk_mom99 s.2.2.2) lc_X4_24 rfl rfl (Nat.le_of_ble_eq_true rfl) ⟨rfl, rfl⟩ ⟨Nat.le_of_ble_eq_true rfl, Nat.le_of_ble_eq_true rfl⟩ ⟨Nat.le_of_ble_eq_true rfl, Nat.le_of_ble_eq_true rfl⟩ dX4_init_40 (mk_kc fun ρ122 I123 h124 => ?_)
  have s := s.sub h124 (by decide) (by decide)
  refine aw_astq (idx := 0) (n := 21) dX4_init_43 ⟨List.mem_range.mpr (by decide), rfl⟩ rfl ⟨List.mem_range.mpr (by decide), rfl⟩ (by unfold vp_in; decide) ?_
  obtain ⟨ρ125, e126⟩ : ∃ q : mk_RR, q = sw_up ρ122 22 (19 : Int32).toNatClampNeg (some 99) := ⟨_, rfl⟩
  show AW _ _ _ _ _ _ _ _ _ _ _ _ _ _ _ (mk_G 103 (sw_up ρ122 22 (19 : Int32).toNatClampNeg (some 99))) _ _ _ _ _
  rw [← e126]
  have s := s.putR1 (k := 19) (by decide) e126
  refine aw_iinc (lv' := [(1, .int 20), (0, .ref (sz + 21))]) 0 dX4_init_44 rfl (by decide) (by decide) rfl ?_
  refine aw_goto 25 dX4_init_47 (by decide) ?_
  refine aw_iload_n 0 dX4_init_25 rfl rfl ?_
  refine aw_bipush (v := 21) dX4_init_26 (by decide) ?_
  refine aw_jge 50 dX4_init_28 (by decide) (fun c => absurd (by decide) c) (fun _ => ?_)
  refine aw_aload_n 1 dX4_init_31 rfl rfl ?_
  have q127 : ρ125 21 0 = some 22 := (s.2.2.1 21 _ rfl).2.1 0
  refine aw_get (a := 21) (ci := 4) (k := 0) (C := RX4) (T := TX4) (N := 3) (v := .ref (sz + 22)) rfl inT4 (by decide) rfl (by decide) rfl (by show (if _ then va_rf (sw_o sz (ρ125 21 0)) else _) = _; rw [q127]; rfl) fc_X4_13 ⟨List.mem_range.mpr (by decide), rfl⟩ dX4_init_32 ?_
  refine aw_iload_n 0 dX4_init_35 rfl rfl ?_
  refine mk_newX (n := 103) (ci := 3) (C := RX3) (T := TX3) (N := 6) (ρ := ρ125) rfl inT3 tyX3 tyX3_ok cl_X4_11 in_X3 ii_X3 rfl (by decide) rfl (by decide) s.2.2.2 (Nat.le_of_ble_eq_true rfl) (Nat.le_of_ble_eq_true rfl) dX4_init_36 ?_
  refine aw_dup dX4_init_39 rfl ?_
  refine aw_callI wc_X3 (M_X3_init mk_mom103 s.2.2.2) lc_X4_24 rfl rfl (Nat.le_of_ble_eq_true rfl) ⟨rfl, rfl⟩ ⟨Nat.le_of_ble_eq_true rfl, Nat.le_of_ble_eq_true rfl⟩ ⟨Nat.le_of_ble_eq_true rfl, Nat.le_of_ble_eq_true rfl⟩ dX4_init_40 (mk_kc fun ρ128 I129 h130 => ?_)
  have s := s.sub h130 (by decide) (by decide)
  refine aw_astq (idx := 0) (n := 21) dX4_init_43 ⟨List.mem_range.mpr (by decide), rfl⟩ rfl ⟨List.mem_range.mpr (by decide), rfl⟩ (by unfold vp_in; decide) ?_
  obtain ⟨ρ131, e132⟩ : ∃ q : mk_RR, q = sw_up ρ128 22 (20 : Int32).toNatClampNeg (some 103) := ⟨_, rfl⟩
  show AW _ _ _ _ _ _ _ _ _ _ _ _ _ _ _ (mk_G 107 (sw_up ρ128 22 (20 : Int32).toNatClampNeg (some 103))) _ _ _ _ _
  rw [← e132]
  have s := s.putR1 (k := 20) (by decide) e132
  refine aw_iinc (lv' := [(1, .int 21), (0, .ref (sz + 21))]) 0 dX4_init_44 rfl (by decide) (by decide) rfl ?_
  refine aw_goto 25 dX4_init_47 (by decide) ?_
  refine aw_iload_n 0 dX4_init_25 rfl rfl ?_
  refine aw_bipush (v := 21) dX4_init_26 (by decide) ?_
  refine aw_jge 50 dX4_init_28 (by decide) (fun _ => ?_) (fun c => absurd c (by decide))
  have s := s.shut rfl (fun _ => rfl) (by decide)
  have s := s.shut rfl (fun _ => rfl) (by decide)
  exact aw_vret rfl dX4_init_50 ⟨rfl, rfl, ρ131, rfl, s.fin⟩
theorem M_X4_init {l : Launch} {D : va_G} {cy : Nat → ClassId} {sz : Nat} {ρ : mk_RR} {I : sw_I} {J : sw_J} (hJ : ∀ k j, J k j = 0) (hz : mk_Z 21 ρ I) : Met l yX4_init (Cond.code yX4_init cX4_init 2 none :: sw_T) rm_X4_init (sw_Pc D cy sz [.ref (sz + 21)] (mk_G 22 ρ) I J) (sw_Q D cy sz (mk_Q 21 107 ρ I J)) 85 777 (fun q => sz ≤ q) :=
  sw_met (by decide) (fun _ => rfl) (Nat.le_of_ble_eq_true rfl) rfl (t_X4_init hJ hz)
theorem lo_X10 : Cond.methodLink RX10 468 Lib.objectInit ∈ sw_T := sw_mem 1594 (by decide +kernel) rfl
theorem fc_X10_11 : Cond.fieldLink RX10 11 RX10 "row" "[J" ∈ sw_T := sw_mem 1597 (by decide +kernel) rfl
theorem fc_X10_22 : Cond.fieldLink RX10 22 RX10 "floors" "I" ∈ sw_T := sw_mem 1598 (by decide +kernel) rfl
theorem fc_X10_76 : Cond.fieldLink RX10 76 RX10 "dog" "I" ∈ sw_T := sw_mem 1600 (by decide +kernel) rfl
theorem fc_X10_135 : Cond.fieldLink RX10 135 RX10 "home" "[I" ∈ sw_T := sw_mem 1602 (by decide +kernel) rfl
theorem fc_X10_138 : Cond.fieldLink RX10 138 RX10 "truth" "[I" ∈ sw_T := sw_mem 1603 (by decide +kernel) rfl
theorem fc_X10_79 : Cond.fieldLink RX10 79 RX10 "now" "[I" ∈ sw_T := sw_mem 1604 (by decide +kernel) rfl
theorem fc_X10_313 : Cond.fieldLink RX10 313 RX10 "next" "[I" ∈ sw_T := sw_mem 1605 (by decide +kernel) rfl
theorem fc_X10_35 : Cond.fieldLink RX10 35 RX10 "tape" "[I" ∈ sw_T := sw_mem 1606 (by decide +kernel) rfl
theorem fc_X10_102 : Cond.fieldLink RX10 102 RX10 "readHome" "[I" ∈ sw_T := sw_mem 1611 (by decide +kernel) rfl
theorem fc_X10_111 : Cond.fieldLink RX10 111 RX10 "readWish" "[I" ∈ sw_T := sw_mem 1612 (by decide +kernel) rfl
theorem fc_X10_114 : Cond.fieldLink RX10 114 RX10 "readPlace" "[I" ∈ sw_T := sw_mem 1613 (by decide +kernel) rfl
theorem fc_X10_172 : Cond.fieldLink RX10 172 RX10 "code" "[I" ∈ sw_T := sw_mem 1616 (by decide +kernel) rfl
theorem fc_X10_141 : Cond.fieldLink RX10 141 RX10 "readCode" "[I" ∈ sw_T := sw_mem 1617 (by decide +kernel) rfl
theorem fc_X10_202 : Cond.fieldLink RX10 202 RX10 "stack" "[I" ∈ sw_T := sw_mem 1620 (by decide +kernel) rfl
theorem fc_X10_189 : Cond.fieldLink RX10 189 RX10 "wished" "[I" ∈ sw_T := sw_mem 1621 (by decide +kernel) rfl
theorem fc_X10_192 : Cond.fieldLink RX10 192 RX10 "standing" "[I" ∈ sw_T := sw_mem 1622 (by decide +kernel) rfl
theorem fc_X10_245 : Cond.fieldLink RX10 245 RX10 "undone" "[I" ∈ sw_T := sw_mem 1628 (by decide +kernel) rfl
theorem fc_X10_268 : Cond.fieldLink RX10 268 RX10 "actSign" "[I" ∈ sw_T := sw_mem 1629 (by decide +kernel) rfl
theorem fc_X10_277 : Cond.fieldLink RX10 277 RX10 "actBits" "[I" ∈ sw_T := sw_mem 1630 (by decide +kernel) rfl
theorem fc_X10_280 : Cond.fieldLink RX10 280 RX10 "actWish" "[I" ∈ sw_T := sw_mem 1631 (by decide +kernel) rfl
theorem fc_X10_274 : Cond.fieldLink RX10 274 RX10 "actMany" "[I" ∈ sw_T := sw_mem 1632 (by decide +kernel) rfl
theorem fc_X10_299 : Cond.fieldLink RX10 299 RX10 "ways" "[I" ∈ sw_T := sw_mem 1636 (by decide +kernel) rfl
theorem fc_X10_333 : Cond.fieldLink RX10 333 RX10 "found" "[J" ∈ sw_T := sw_mem 1638 (by decide +kernel) rfl
theorem fc_X10_366 : Cond.fieldLink RX10 366 RX10 "from" "[I" ∈ sw_T := sw_mem 1639 (by decide +kernel) rfl
theorem fc_X10_369 : Cond.fieldLink RX10 369 RX10 "by" "[I" ∈ sw_T := sw_mem 1640 (by decide +kernel) rfl
theorem fc_X10_372 : Cond.fieldLink RX10 372 RX10 "far" "[I" ∈ sw_T := sw_mem 1641 (by decide +kernel) rfl
theorem fc_X10_348 : Cond.fieldLink RX10 348 RX10 "slots" "[I" ∈ sw_T := sw_mem 1642 (by decide +kernel) rfl
theorem fc_X10_403 : Cond.fieldLink RX10 403 RX10 "way" "[I" ∈ sw_T := sw_mem 1648 (by decide +kernel) rfl
theorem fc_X10_418 : Cond.fieldLink RX10 418 RX10 "seenFrom" "[I" ∈ sw_T := sw_mem 1650 (by decide +kernel) rfl
theorem fc_X10_421 : Cond.fieldLink RX10 421 RX10 "seenWho" "[I" ∈ sw_T := sw_mem 1651 (by decide +kernel) rfl
theorem fc_X10_424 : Cond.fieldLink RX10 424 RX10 "seenTo" "[I" ∈ sw_T := sw_mem 1652 (by decide +kernel) rfl
theorem fc_X10_439 : Cond.fieldLink RX10 439 RX10 "chance" "[J" ∈ sw_T := sw_mem 1653 (by decide +kernel) rfl
theorem fc_X10_458 : Cond.fieldLink RX10 458 RX10 "isKept" "[Z" ∈ sw_T := sw_mem 1654 (by decide +kernel) rfl
theorem fc_X10_462 : Cond.fieldLink RX10 462 RX10 "keptChanges" "[I" ∈ sw_T := sw_mem 1655 (by decide +kernel) rfl
theorem fc_X10_465 : Cond.fieldLink RX10 465 RX10 "kept" "[I" ∈ sw_T := sw_mem 1656 (by decide +kernel) rfl
abbrev rm_X10_init : Room := { frames := 1, cells := 33, slots := 32942, locals := 40 }
set_option maxRecDepth 20000 in
theorem t_X10_init {l : Launch} {D : va_G} {cy : Nat → ClassId} {sz : Nat} {ρ : mk_RR} {I : sw_I} {J : sw_J} (hJ : ∀ k j, J k j = 0) (hz : mk_Z 140 ρ I) : AW l D cy sz RX10 cX10_init 1 none true rm_X10_init 33 32942 (mk_Q 140 174 ρ I J) 0 0 (mk_G 141 ρ) I J 0 [(0, .ref (sz + 140))] [] := by
  have s := mkS.start (N := 62) hz
  refine aw_aload_n 0 dX10_init_0 rfl rfl ?_
  refine aw_oinit lo_X10 (Nat.le_of_ble_eq_true rfl) (Nat.le_of_ble_eq_true rfl) dX10_init_1 ?_
  refine aw_aload_n 0 dX10_init_4 rfl rfl ?_
  refine aw_bipush (v := 24) dX10_init_5 (by decide) ?_
  refine mk_newL (n := 141) (ρ := ρ) rfl rfl (fun j => hJ _ j) (by decide) rfl (by decide) (Nat.le_of_ble_eq_true rfl) (Nat.le_of_ble_eq_true rfl) dX10_init_7 ?_
  have s := s.new (fun _ => rfl) (fun _ _ => rfl)
  refine mk_putF (b := 141) (n := 142) (a := 140) (ci := 10) (k := 2) (C := RX10) (T := TX10) (N := 62) (ty := (.array .long)) rfl inT10 tyX10 tyX10_ok nmX10 (by decide) rfl (by decide) rfl rfl rfl rfl rfl rfl (fun _ => rfl) (fun _ => rfl) fc_X10_11 (by decide) rfl dX10_init_9 (fun ρ1 e2 => ?_)
  have s := s.putR1 (by decide) e2
  refine aw_aload_n 0 dX10_init_12 rfl rfl ?_
  refine aw_iconst (v := 2) dX10_init_13 (by decide) ?_
  refine mk_putI (n := 142) (a := 140) (ci := 10) (k := 3) (C := RX10) (T := TX10) (N := 62) (ty := .int) rfl inT10 tyX10 tyX10_ok nmX10 (by decide) rfl (by decide) rfl rfl rfl rfl rfl rfl fc_X10_22 (by decide) rfl dX10_init_14 (fun I3 e4 => ?_)
  have s := s.putI1 (by decide) e4
  refine aw_aload_n 0 dX10_init_17 rfl rfl ?_
  refine aw_iconst (v := (-1)) dX10_init_18 (by decide) ?_
  refine mk_putI (n := 142) (a := 140) (ci := 10) (k := 5) (C := RX10) (T := TX10) (N := 62) (ty := .int) rfl inT10 tyX10 tyX10_ok nmX10 (by decide) rfl (by decide) rfl rfl rfl rfl rfl rfl fc_X10_76 (by decide) rfl dX10_init_19 (fun I5 e6 => ?_)
  have s := s.putI1 (by decide) e6
  refine aw_aload_n 0 dX10_init_22 rfl rfl ?_
  refine aw_bipush (v := 10) dX10_init_23 (by decide) ?_
  refine mk_newI (n := 142) (ρ := ρ1) rfl rfl (fun j => (s.2.2.2 142 (Nat.le_refl _) j).2) (by decide) rfl (by decide) (Nat.le_of_ble_eq_true rfl) (Nat.le_of_ble_eq_true rfl) dX10_init_25 ?_
  have s := s.new (fun _ => rfl) (fun _ _ => rfl)
  refine mk_putF (b := 142) (n := 143) (a := 140) (ci := 10) (k := 7) (C := RX10) (T := TX10) (N := 62) (ty := (.array .int)) rfl inT10 tyX10 tyX10_ok nmX10 (by decide) rfl (by decide) rfl rfl rfl rfl rfl rfl (fun _ => rfl) (fun _ => rfl) fc_X10_135 (by decide) rfl dX10_init_27 (fun ρ7 e8 => ?_)
  have s := s.putR1 (by decide) e8
  refine aw_aload_n 0 dX10_init_30 rfl rfl ?_
  refine aw_bipush (v := 10) dX10_init_31 (by decide) ?_
  refine mk_newI (n := 143) (ρ := ρ7) rfl rfl (fun j => (s.2.2.2 143 (Nat.le_refl _) j).2) (by decide) rfl (by decide) (Nat.le_of_ble_eq_true rfl) (Nat.le_of_ble_eq_true rfl) dX10_init_33 ?_
  have s := s.new (fun _ => rfl) (fun _ _ => rfl)
  refine mk_putF (b := 143) (n := 144) (a := 140) (ci := 10) (k := 8) (C := RX10) (T := TX10) (N := 62) (ty := (.array .int)) rfl inT10 tyX10 tyX10_ok nmX10 (by decide) rfl (by decide) rfl rfl rfl rfl rfl rfl (fun _ => rfl) (fun _ => rfl) fc_X10_138 (by decide) rfl dX10_init_35 (fun ρ9 e10 => ?_)
  have s := s.putR1 (by decide) e10
  refine aw_aload_n 0 dX10_init_38 rfl rfl ?_
  refine aw_bipush (v := 33) dX10_init_39 (by decide) ?_
  refine mk_newI (n := 144) (ρ := ρ9) rfl rfl (fun j => (s.2.2.2 144 (Nat.le_refl _) j).2) (by decide) rfl (by decide) (Nat.le_of_ble_eq_true rfl) (Nat.le_of_ble_eq_true rfl) dX10_init_41 ?_
  have s := s.new (fun _ => rfl) (fun _ _ => rfl)
  refine mk_putF (b := 144) (n := 145) (a := 140) (ci := 10) (k := 9) (C := RX10) (T := TX10) (N := 62) (ty := (.array .int)) rfl inT10 tyX10 tyX10_ok nmX10 (by decide) rfl (by decide) rfl rfl rfl rfl rfl rfl (fun _ => rfl) (fun _ => rfl) fc_X10_79 (by decide) rfl dX10_init_43 (fun ρ11 e12 => ?_)
  have s := s.putR1 (by decide) e12
  refine aw_aload_n 0 dX10_init_46 rfl rfl ?_
  refine aw_bipush (v := 33) dX10_init_47 (by decide) ?_
  refine mk_newI (n := 145) (ρ := ρ11) rfl rfl (fun j => (s.2.2.2 145 (Nat.le_refl _) j).2) (by decide) rfl (by decide) (Nat.le_of_ble_eq_true rfl) (Nat.le_of_ble_eq_true rfl) dX10_init_49 ?_
  have s := s.new (fun _ => rfl) (fun _ _ => rfl)
  refine mk_putF (b := 145) (n := 146) (a := 140) (ci := 10) (k := 10) (C := RX10) (T := TX10) (N := 62) (ty := (.array .int)) rfl inT10 tyX10 tyX10_ok nmX10 (by decide) rfl (by decide) rfl rfl rfl rfl rfl rfl (fun _ => rfl) (fun _ => rfl) fc_X10_313 (by decide) rfl dX10_init_51 (fun ρ13 e14 => ?_)
  have s := s.putR1 (by decide) e14
  refine aw_aload_n 0 dX10_init_54 rfl rfl ?_
  refine aw_bipush (v := 80) dX10_init_55 (by decide) ?_
  refine mk_newI (n := 146) (ρ := ρ13) rfl rfl (fun j => (s.2.2.2 146 (Nat.le_refl _) j).2) (by decide) rfl (by decide) (Nat.le_of_ble_eq_true rfl) (Nat.le_of_ble_eq_true rfl) dX10_init_57 ?_
  have s := s.new (fun _ => rfl) (fun _ _ => rfl)
  refine mk_putF (b := 146) (n := 147) (a := 140) (ci := 10) (k := 11) (C := RX10) (T := TX10) (N := 62) (ty := (.array .int)) rfl inT10 tyX10 tyX10_ok nmX10 (by decide) rfl (by decide) rfl rfl rfl rfl rfl rfl (fun _ => rfl) (fun _ => rfl) fc_X10_35 (by decide) rfl dX10_init_59 (fun ρ15 e16 => ?_)
  have s := s.putR1 (by decide) e16
  refine aw_aload_n 0 dX10_init_62 rfl rfl ?_
  refine aw_bipush (v := 10) dX10_init_63 (by decide) ?_
  refine mk_newI (n := 147) (ρ := ρ15) rfl rfl (fun j => (s.2.2.2 147 (Nat.le_refl _) j).2) (by decide) rfl (by decide) (Nat.le_of_ble_eq_true rfl) (Nat.le_of_ble_eq_true rfl) dX10_init_65 ?_
  have s := s.new (fun _ => rfl) (fun _ _ => rfl)
  refine mk_putF (b := 147) (n := 148) (a := 140) (ci := 10) (k := 16) (C := RX10) (T := TX10) (N := 62) (ty := (.array .int)) rfl inT10 tyX10 tyX10_ok nmX10 (by decide) rfl (by decide) rfl rfl rfl rfl rfl rfl (fun _ => rfl) (fun _ => rfl) fc_X10_102 (by decide) rfl dX10_init_67 (fun ρ17 e18 => ?_)
  have s := s.putR1 (by decide) e18
  refine aw_aload_n 0 dX10_init_70 rfl rfl ?_
  refine aw_bipush (v := 10) dX10_init_71 (by decide) ?_
  refine mk_newI (n := 148) (ρ := ρ17) rfl rfl (fun j => (s.2.2.2 148 (Nat.le_refl _) j).2) (by decide) rfl (by decide) (Nat.le_of_ble_eq_true rfl) (Nat.le_of_ble_eq_true rfl) dX10_init_73 ?_
  have s := s.new (fun _ => rfl) (fun _ _ => rfl)
  refine mk_putF (b := 148) (n := 149) (a := 140) (ci := 10) (k := 17) (C := RX10) (T := TX10) (N := 62) (ty := (.array .int)) rfl inT10 tyX10 tyX10_ok nmX10 (by decide) rfl (by decide) rfl rfl rfl rfl rfl rfl (fun _ => rfl) (fun _ => rfl) fc_X10_111 (by decide) rfl dX10_init_75 (fun ρ19 e20 => ?_)
  have s := s.putR1 (by decide) e20
  refine aw_aload_n 0 dX10_init_78 rfl rfl ?_
  refine aw_bipush (v := 10) dX10_init_79 (by decide) ?_
  refine mk_newI (n := 149) (ρ := ρ19) rfl rfl (fun j => (s.2.2.2 149 (Nat.le_refl _) j).2) (by decide) rfl (by decide) (Nat.le_of_ble_eq_true rfl) (Nat.le_of_ble_eq_true rfl) dX10_init_81 ?_
  have s := s.new (fun _ => rfl) (fun _ _ => rfl)
  refine mk_putF (b := 149) (n := 150) (a := 140) (ci := 10) (k := 18) (C := RX10) (T := TX10) (N := 62) (ty := (.array .int)) rfl inT10 tyX10 tyX10_ok nmX10 (by decide) rfl (by decide) rfl rfl rfl rfl rfl rfl (fun _ => rfl) (fun _ => rfl) fc_X10_114 (by decide) rfl dX10_init_83 (fun ρ21 e22 => ?_)
  have s := s.putR1 (by decide) e22
  refine aw_aload_n 0 dX10_init_86 rfl rfl ?_
  refine aw_bipush (v := 80) dX10_init_87 (by decide) ?_
  refine mk_newI (n := 150) (ρ := ρ21) rfl rfl (fun j => (s.2.2.2 150 (Nat.le_refl _) j).2) (by decide) rfl (by decide) (Nat.le_of_ble_eq_true rfl) (Nat.le_of_ble_eq_true rfl) dX10_init_89 ?_
  have s := s.new (fun _ => rfl) (fun _ _ => rfl)
  refine mk_putF (b := 150) (n := 151) (a := 140) (ci := 10) (k := 21) (C := RX10) (T := TX10) (N := 62) (ty := (.array .int)) rfl inT10 tyX10 tyX10_ok nmX10 (by decide) rfl (by decide) rfl rfl rfl rfl rfl rfl (fun _ => rfl) (fun _ => rfl) fc_X10_172 (by decide) rfl dX10_init_91 (fun ρ23 e24 => ?_)
  have s := s.putR1 (by decide) e24
  refine aw_aload_n 0 dX10_init_94 rfl rfl ?_
  refine aw_bipush (v := 80) dX10_init_95 (by decide) ?_
  refine mk_newI (n := 151) (ρ := ρ23) rfl rfl (fun j => (s.2.2.2 151 (Nat.le_refl _) j).2) (by decide) rfl (by decide) (Nat.le_of_ble_eq_true rfl) (Nat.le_of_ble_eq_true rfl) dX10_init_97 ?_
  have s := s.new (fun _ => rfl) (fun _ _ => rfl)
  refine mk_putF (b := 151) (n := 152) (a := 140) (ci := 10) (k := 22) (C := RX10) (T := TX10) (N := 62) (ty := (.array .int)) rfl inT10 tyX10 tyX10_ok nmX10 (by decide) rfl (by decide) rfl rfl rfl rfl rfl rfl (fun _ => rfl) (fun _ => rfl) fc_X10_141 (by decide) rfl dX10_init_99 (fun ρ25 e26 => ?_)
  have s := s.putR1 (by decide) e26
  refine aw_aload_n 0 dX10_init_102 rfl rfl ?_
  refine aw_bipush (v := 80) dX10_init_103 (by decide) ?_
  refine mk_newI (n := 152) (ρ := ρ25) rfl rfl (fun j => (s.2.2.2 152 (Nat.le_refl _) j).2) (by decide) rfl (by decide) (Nat.le_of_ble_eq_true rfl) (Nat.le_of_ble_eq_true rfl) dX10_init_105 ?_
  have s := s.new (fun _ => rfl) (fun _ _ => rfl)
  refine mk_putF (b := 152) (n := 153) (a := 140) (ci := 10) (k := 25) (C := RX10) (T := TX10) (N := 62) (ty := (.array .int)) rfl inT10 tyX10 tyX10_ok nmX10 (by decide) rfl (by decide) rfl rfl rfl rfl rfl rfl (fun _ => rfl) (fun _ => rfl) fc_X10_202 (by decide) rfl dX10_init_107 (fun ρ27 e28 => ?_)
  have s := s.putR1 (by decide) e28
  refine aw_aload_n 0 dX10_init_110 rfl rfl ?_
  refine aw_bipush (v := 9) dX10_init_111 (by decide) ?_
  refine mk_newI (n := 153) (ρ := ρ27) rfl rfl (fun j => (s.2.2.2 153 (Nat.le_refl _) j).2) (by decide) rfl (by decide) (Nat.le_of_ble_eq_true rfl) (Nat.le_of_ble_eq_true rfl) dX10_init_113 ?_
  have s := s.new (fun _ => rfl) (fun _ _ => rfl)
  refine mk_putF (b := 153) (n := 154) (a := 140) (ci := 10) (k := 26) (C := RX10) (T := TX10) (N := 62) (ty := (.array .int)) rfl inT10 tyX10 tyX10_ok nmX10 (by decide) rfl (by decide) rfl rfl rfl rfl rfl rfl (fun _ => rfl) (fun _ => rfl) fc_X10_189 (by decide) rfl dX10_init_115 (fun ρ29 e30 => ?_)
  have s := s.putR1 (by decide) e30
  refine aw_aload_n 0 dX10_init_118 rfl rfl ?_
  refine aw_bipush (v := 9) dX10_init_119 (by decide) ?_
  refine mk_newI (n := 154) (ρ := ρ29) rfl rfl (fun j => (s.2.2.2 154 (Nat.le_refl _) j).2) (by decide) rfl (by decide) (Nat.le_of_ble_eq_true rfl) (Nat.le_of_ble_eq_true rfl) dX10_init_121 ?_
  have s := s.new (fun _ => rfl) (fun _ _ => rfl)
  refine mk_putF (b := 154) (n := 155) (a := 140) (ci := 10) (k := 27) (C := RX10) (T := TX10) (N := 62) (ty := (.array .int)) rfl inT10 tyX10 tyX10_ok nmX10 (by decide) rfl (by decide) rfl rfl rfl rfl rfl rfl (fun _ => rfl) (fun _ => rfl) fc_X10_192 (by decide) rfl dX10_init_123 (fun ρ31 e32 => ?_)
  have s := s.putR1 (by decide) e32
  refine aw_aload_n 0 dX10_init_126 rfl rfl ?_
  refine aw_sipush (v := 693) dX10_init_127 (by decide) ?_
  refine mk_newI (n := 155) (ρ := ρ31) rfl rfl (fun j => (s.2.2.2 155 (Nat.le_refl _) j).2) (by decide) rfl (by decide) (Nat.le_of_ble_eq_true rfl) (Nat.le_of_ble_eq_true rfl) dX10_init_130 ?_
  have s := s.new (fun _ => rfl) (fun _ _ => rfl)
  refine mk_putF (b := 155) (n := 156) (a := 140) (ci := 10) (k := 33) (C := RX10) (T := TX10) (N := 62) (ty := (.array .int)) rfl inT10 tyX10 tyX10_ok nmX10 (by decide) rfl (by decide) rfl rfl rfl rfl rfl rfl (fun _ => rfl) (fun _ => rfl) fc_X10_245 (by decide) rfl dX10_init_132 (fun ρ33 e34 => ?_)
  have s := s.putR1 (by decide) e34
  refine aw_aload_n 0 dX10_init_135 rfl rfl ?_
  refine aw_bipush (v := 60) dX10_init_136 (by decide) ?_
  refine mk_newI (n := 156) (ρ := ρ33) rfl rfl (fun j => (s.2.2.2 156 (Nat.le_refl _) j).2) (by decide) rfl (by decide) (Nat.le_of_ble_eq_true rfl) (Nat.le_of_ble_eq_true rfl) dX10_init_138 ?_
  have s := s.new (fun _ => rfl) (fun _ _ => rfl)
  refine mk_putF (b := 156) (n := 157) (a := 140) (ci := 10) (k := 34) (C := RX10) (T := TX10) (N := 62) (ty := (.array .int)) rfl inT10 tyX10 tyX10_ok nmX10 (by decide) rfl (by decide) rfl rfl rfl rfl rfl rfl (fun _ => rfl) (fun _ => rfl) fc_X10_268 (by decide) rfl dX10_init_140 (fun ρ35 e36 => ?_)
  have s := s.putR1 (by decide) e36
  refine aw_aload_n 0 dX10_init_143 rfl rfl ?_
  refine aw_bipush (v := 60) dX10_init_144 (by decide) ?_
  refine mk_newI (n := 157) (ρ := ρ35) rfl rfl (fun j => (s.2.2.2 157 (Nat.le_refl _) j).2) (by decide) rfl (by decide) (Nat.le_of_ble_eq_true rfl) (Nat.le_of_ble_eq_true rfl) dX10_init_146 ?_
  have s := s.new (fun _ => rfl) (fun _ _ => rfl)
  refine mk_putF (b := 157) (n := 158) (a := 140) (ci := 10) (k := 35) (C := RX10) (T := TX10) (N := 62) (ty := (.array .int)) rfl inT10 tyX10 tyX10_ok nmX10 (by decide) rfl (by decide) rfl rfl rfl rfl rfl rfl (fun _ => rfl) (fun _ => rfl) fc_X10_277 (by decide) rfl dX10_init_148 (fun ρ37 e38 => ?_)
  have s := s.putR1 (by decide) e38
  refine aw_aload_n 0 dX10_init_151 rfl rfl ?_
  refine aw_bipush (v := 60) dX10_init_152 (by decide) ?_
  refine mk_newI (n := 158) (ρ := ρ37) rfl rfl (fun j => (s.2.2.2 158 (Nat.le_refl _) j).2) (by decide) rfl (by decide) (Nat.le_of_ble_eq_true rfl) (Nat.le_of_ble_eq_true rfl) dX10_init_154 ?_
  have s := s.new (fun _ => rfl) (fun _ _ => rfl)
  refine mk_putF (b := 158) (n := 159) (a := 140) (ci := 10) (k := 36) (C := RX10) (T := TX10) (N := 62) (ty := (.array .int)) rfl inT10 tyX10 tyX10_ok nmX10 (by decide) rfl (by decide) rfl rfl rfl rfl rfl rfl (fun _ => rfl) (fun _ => rfl) fc_X10_280 (by decide) rfl dX10_init_156 (fun ρ39 e40 => ?_)
  have s := s.putR1 (by decide) e40
  refine aw_aload_n 0 dX10_init_159 rfl rfl ?_
  refine aw_bipush (v := 60) dX10_init_160 (by decide) ?_
  refine mk_newI (n := 159) (ρ := ρ39) rfl rfl (fun j => (s.2.2.2 159 (Nat.le_refl _) j).2) (by decide) rfl (by decide) (Nat.le_of_ble_eq_true rfl) (Nat.le_of_ble_eq_true rfl) dX10_init_162 ?_
  have s := s.new (fun _ => rfl) (fun _ _ => rfl)
  refine mk_putF (b := 159) (n := 160) (a := 140) (ci := 10) (k := 37) (C := RX10) (T := TX10) (N := 62) (ty := (.array .int)) rfl inT10 tyX10 tyX10_ok nmX10 (by decide) rfl (by decide) rfl rfl rfl rfl rfl rfl (fun _ => rfl) (fun _ => rfl) fc_X10_274 (by decide) rfl dX10_init_164 (fun ρ41 e42 => ?_)
  have s := s.putR1 (by decide) e42
  refine aw_aload_n 0 dX10_init_167 rfl rfl ?_
  refine aw_bipush (v := 9) dX10_init_168 (by decide) ?_
  refine mk_newI (n := 160) (ρ := ρ41) rfl rfl (fun j => (s.2.2.2 160 (Nat.le_refl _) j).2) (by decide) rfl (by decide) (Nat.le_of_ble_eq_true rfl) (Nat.le_of_ble_eq_true rfl) dX10_init_170 ?_
  have s := s.new (fun _ => rfl) (fun _ _ => rfl)
  refine mk_putF (b := 160) (n := 161) (a := 140) (ci := 10) (k := 41) (C := RX10) (T := TX10) (N := 62) (ty := (.array .int)) rfl inT10 tyX10 tyX10_ok nmX10 (by decide) rfl (by decide) rfl rfl rfl rfl rfl rfl (fun _ => rfl) (fun _ => rfl) fc_X10_299 (by decide) rfl dX10_init_172 (fun ρ43 e44 => ?_)
  have s := s.putR1 (by decide) e44
  refine aw_aload_n 0 dX10_init_175 rfl rfl ?_
  refine aw_sipush (v := 3000) dX10_init_176 (by decide) ?_
  refine mk_newL (n := 161) (ρ := ρ43) rfl rfl (fun j => hJ _ j) (by decide) rfl (by decide) (Nat.le_of_ble_eq_true rfl) (Nat.le_of_ble_eq_true rfl) dX10_init_179 ?_
  have s := s.new (fun _ => rfl) (fun _ _ => rfl)
  refine mk_putF (b := 161) (n := 162) (a := 140) (ci := 10) (k := 43) (C := RX10) (T := TX10) (N := 62) (ty := (.array .long)) rfl inT10 tyX10 tyX10_ok nmX10 (by decide) rfl (by decide) rfl rfl rfl rfl rfl rfl (fun _ => rfl) (fun _ => rfl) fc_X10_333 (by decide) rfl dX10_init_181 (fun ρ45 e46 => ?_)
  have s := s.putR1 (by decide) e46
  refine aw_aload_n 0 dX10_init_184 rfl rfl ?_
  refine aw_sipush (v := 3000) dX10_init_185 (by decide) ?_
  refine mk_newI (n := 162) (ρ := ρ45) rfl rfl (fun j => (s.2.2.2 162 (Nat.le_refl _) j).2) (by decide) rfl (by decide) (Nat.le_of_ble_eq_true rfl) (Nat.le_of_ble_eq_true rfl) dX10_init_188 ?_
  have s := s.new (fun _ => rfl) (fun _ _ => rfl)
  refine mk_putF (b := 162) (n := 163) (a := 140) (ci := 10) (k := 44) (C := RX10) (T := TX10) (N := 62) (ty := (.array .int)) rfl inT10 tyX10 tyX10_ok nmX10 (by decide) rfl (by decide) rfl rfl rfl rfl rfl rfl (fun _ => rfl) (fun _ => rfl) fc_X10_366 (by decide) rfl dX10_init_190 (fun ρ47 e48 => ?_)
  have s := s.putR1 (by decide) e48
  refine aw_aload_n 0 dX10_init_193 rfl rfl ?_
  refine aw_sipush (v := 3000) dX10_init_194 (by decide) ?_
  refine mk_newI (n := 163) (ρ := ρ47) rfl rfl (fun j => (s.2.2.2 163 (Nat.le_refl _) j).2) (by decide) rfl (by decide) (Nat.le_of_ble_eq_true rfl) (Nat.le_of_ble_eq_true rfl) dX10_init_197 ?_
  have s := s.new (fun _ => rfl) (fun _ _ => rfl)
  refine mk_putF (b := 163) (n := 164) (a := 140) (ci := 10) (k := 45) (C := RX10) (T := TX10) (N := 62) (ty := (.array .int)) rfl inT10 tyX10 tyX10_ok nmX10 (by decide) rfl (by decide) rfl rfl rfl rfl rfl rfl (fun _ => rfl) (fun _ => rfl) fc_X10_369 (by decide) rfl dX10_init_199 (fun ρ49 e50 => ?_)
  have s := s.putR1 (by decide) e50
  refine aw_aload_n 0 dX10_init_202 rfl rfl ?_
  refine aw_sipush (v := 3000) dX10_init_203 (by decide) ?_
  refine mk_newI (n := 164) (ρ := ρ49) rfl rfl (fun j => (s.2.2.2 164 (Nat.le_refl _) j).2) (by decide) rfl (by decide) (Nat.le_of_ble_eq_true rfl) (Nat.le_of_ble_eq_true rfl) dX10_init_206 ?_
  have s := s.new (fun _ => rfl) (fun _ _ => rfl)
  refine mk_putF (b := 164) (n := 165) (a := 140) (ci := 10) (k := 46) (C := RX10) (T := TX10) (N := 62) (ty := (.array .int)) rfl inT10 tyX10 tyX10_ok nmX10 (by decide) rfl (by decide) rfl rfl rfl rfl rfl rfl (fun _ => rfl) (fun _ => rfl) fc_X10_372 (by decide) rfl dX10_init_208 (fun ρ51 e52 => ?_)
  have s := s.putR1 (by decide) e52
  refine aw_aload_n 0 dX10_init_211 rfl rfl ?_
  refine aw_sipush (v := 16384) dX10_init_212 (by decide) ?_
  refine mk_newI (n := 165) (ρ := ρ51) rfl rfl (fun j => (s.2.2.2 165 (Nat.le_refl _) j).2) (by decide) rfl (by decide) (Nat.le_of_ble_eq_true rfl) (Nat.le_of_ble_eq_true rfl) dX10_init_215 ?_
  have s := s.new (fun _ => rfl) (fun _ _ => rfl)
  refine mk_putF (b := 165) (n := 166) (a := 140) (ci := 10) (k := 47) (C := RX10) (T := TX10) (N := 62) (ty := (.array .int)) rfl inT10 tyX10 tyX10_ok nmX10 (by decide) rfl (by decide) rfl rfl rfl rfl rfl rfl (fun _ => rfl) (fun _ => rfl) fc_X10_348 (by decide) rfl dX10_init_217 (fun ρ53 e54 => ?_)
  have s := s.putR1 (by decide) e54
  refine aw_aload_n 0 dX10_init_220 rfl rfl ?_
  refine aw_sipush (v := 3000) dX10_init_221 (by decide) ?_
  refine mk_newI (n := 166) (ρ := ρ53) rfl rfl (fun j => (s.2.2.2 166 (Nat.le_refl _) j).2) (by decide) rfl (by decide) (Nat.le_of_ble_eq_true rfl) (Nat.le_of_ble_eq_true rfl) dX10_init_224 ?_
  have s := s.new (fun _ => rfl) (fun _ _ => rfl)
  refine mk_putF (b := 166) (n := 167) (a := 140) (ci := 10) (k := 53) (C := RX10) (T := TX10) (N := 62) (ty := (.array .int)) rfl inT10 tyX10 tyX10_ok nmX10 (by decide) rfl (by decide) rfl rfl rfl rfl rfl rfl (fun _ => rfl) (fun _ => rfl) fc_X10_403 (by decide) rfl dX10_init_226 (fun ρ55 e56 => ?_)
  have s := s.putR1 (by decide) e56
  refine aw_aload_n 0 dX10_init_229 rfl rfl ?_
  refine aw_bipush (v := 8) dX10_init_230 (by decide) ?_
  refine mk_newI (n := 167) (ρ := ρ55) rfl rfl (fun j => (s.2.2.2 167 (Nat.le_refl _) j).2) (by decide) rfl (by decide) (Nat.le_of_ble_eq_true rfl) (Nat.le_of_ble_eq_true rfl) dX10_init_232 ?_
  have s := s.new (fun _ => rfl) (fun _ _ => rfl)
  refine mk_putF (b := 167) (n := 168) (a := 140) (ci := 10) (k := 55) (C := RX10) (T := TX10) (N := 62) (ty := (.array .int)) rfl inT10 tyX10 tyX10_ok nmX10 (by decide) rfl (by decide) rfl rfl rfl rfl rfl rfl (fun _ => rfl) (fun _ => rfl) fc_X10_418 (by decide) rfl dX10_init_234 (fun ρ57 e58 => ?_)
  have s := s.putR1 (by decide) e58
  refine aw_aload_n 0 dX10_init_237 rfl rfl ?_
  refine aw_bipush (v := 8) dX10_init_238 (by decide) ?_
  refine mk_newI (n := 168) (ρ := ρ57) rfl rfl (fun j => (s.2.2.2 168 (Nat.le_refl _) j).2) (by decide) rfl (by decide) (Nat.le_of_ble_eq_true rfl) (Nat.le_of_ble_eq_true rfl) dX10_init_240 ?_
  have s := s.new (fun _ => rfl) (fun _ _ => rfl)
  refine mk_putF (b := 168) (n := 169) (a := 140) (ci := 10) (k := 56) (C := RX10) (T := TX10) (N := 62) (ty := (.array .int)) rfl inT10 tyX10 tyX10_ok nmX10 (by decide) rfl (by decide) rfl rfl rfl rfl rfl rfl (fun _ => rfl) (fun _ => rfl) fc_X10_421 (by decide) rfl dX10_init_242 (fun ρ59 e60 => ?_)
  have s := s.putR1 (by decide) e60
  refine aw_aload_n 0 dX10_init_245 rfl rfl ?_
  refine aw_bipush (v := 8) dX10_init_246 (by decide) ?_
  refine mk_newI (n := 169) (ρ := ρ59) rfl rfl (fun j => (s.2.2.2 169 (Nat.le_refl _) j).2) (by decide) rfl (by decide) (Nat.le_of_ble_eq_true rfl) (Nat.le_of_ble_eq_true rfl) dX10_init_248 ?_
  have s := s.new (fun _ => rfl) (fun _ _ => rfl)
  refine mk_putF (b := 169) (n := 170) (a := 140) (ci := 10) (k := 57) (C := RX10) (T := TX10) (N := 62) (ty := (.array .int)) rfl inT10 tyX10 tyX10_ok nmX10 (by decide) rfl (by decide) rfl rfl rfl rfl rfl rfl (fun _ => rfl) (fun _ => rfl) fc_X10_424 (by decide) rfl dX10_init_250 (fun ρ61 e62 => ?_)
  have s := s.putR1 (by decide) e62
  refine aw_aload_n 0 dX10_init_253 rfl rfl ?_
  refine aw_bipush (v := 9) dX10_init_254 (by decide) ?_
  refine mk_newL (n := 170) (ρ := ρ61) rfl rfl (fun j => hJ _ j) (by decide) rfl (by decide) (Nat.le_of_ble_eq_true rfl) (Nat.le_of_ble_eq_true rfl) dX10_init_256 ?_
  have s := s.new (fun _ => rfl) (fun _ _ => rfl)
  refine mk_putF (b := 170) (n := 171) (a := 140) (ci := 10) (k := 58) (C := RX10) (T := TX10) (N := 62) (ty := (.array .long)) rfl inT10 tyX10 tyX10_ok nmX10 (by decide) rfl (by decide) rfl rfl rfl rfl rfl rfl (fun _ => rfl) (fun _ => rfl) fc_X10_439 (by decide) rfl dX10_init_258 (fun ρ63 e64 => ?_)
  have s := s.putR1 (by decide) e64
  refine aw_aload_n 0 dX10_init_261 rfl rfl ?_
  refine aw_iconst (v := 3) dX10_init_262 (by decide) ?_
  refine mk_newZ (n := 171) (ρ := ρ63) rfl rfl (fun j => (s.2.2.2 171 (Nat.le_refl _) j).2) (by decide) rfl (by decide) (Nat.le_of_ble_eq_true rfl) (Nat.le_of_ble_eq_true rfl) dX10_init_263 ?_
  have s := s.new (fun _ => rfl) (fun _ _ => rfl)
  refine mk_putF (b := 171) (n := 172) (a := 140) (ci := 10) (k := 59) (C := RX10) (T := TX10) (N := 62) (ty := (.array .boolean)) rfl inT10 tyX10 tyX10_ok nmX10 (by decide) rfl (by decide) rfl rfl rfl rfl rfl rfl (fun _ => rfl) (fun _ => rfl) fc_X10_458 (by decide) rfl dX10_init_265 (fun ρ65 e66 => ?_)
  have s := s.putR1 (by decide) e66
  refine aw_aload_n 0 dX10_init_268 rfl rfl ?_
  refine aw_iconst (v := 3) dX10_init_269 (by decide) ?_
  refine mk_newI (n := 172) (ρ := ρ65) rfl rfl (fun j => (s.2.2.2 172 (Nat.le_refl _) j).2) (by decide) rfl (by decide) (Nat.le_of_ble_eq_true rfl) (Nat.le_of_ble_eq_true rfl) dX10_init_270 ?_
  have s := s.new (fun _ => rfl) (fun _ _ => rfl)
  refine mk_putF (b := 172) (n := 173) (a := 140) (ci := 10) (k := 60) (C := RX10) (T := TX10) (N := 62) (ty := (.array .int)) rfl inT10 tyX10 tyX10_ok nmX10 (by decide) rfl (by decide) rfl rfl rfl rfl rfl rfl (fun _ => rfl) (fun _ => rfl) fc_X10_462 (by decide) rfl dX10_init_272 (fun ρ67 e68 => ?_)
  have s := s.putR1 (by decide) e68
  refine aw_aload_n 0 dX10_init_275 rfl rfl ?_
  refine aw_bipush (v := 99) dX10_init_276 (by decide) ?_
  refine mk_newI (n := 173) (ρ := ρ67) rfl rfl (fun j => (s.2.2.2 173 (Nat.le_refl _) j).2) (by decide) rfl (by decide) (Nat.le_of_ble_eq_true rfl) (Nat.le_of_ble_eq_true rfl) dX10_init_278 ?_
  have s := s.new (fun _ => rfl) (fun _ _ => rfl)
  refine mk_putF (b := 173) (n := 174) (a := 140) (ci := 10) (k := 61) (C := RX10) (T := TX10) (N := 62) (ty := (.array .int)) rfl inT10 tyX10 tyX10_ok nmX10 (by decide) rfl (by decide) rfl rfl rfl rfl rfl rfl (fun _ => rfl) (fun _ => rfl) fc_X10_465 (by decide) rfl dX10_init_280 (fun ρ69 e70 => ?_)
  have s := s.putR1 (by decide) e70
  have s := s.shut rfl (fun _ => rfl) (by decide)
  exact aw_vret rfl dX10_init_283 ⟨rfl, rfl, ρ69, rfl, s.fin⟩
theorem M_X10_init {l : Launch} {D : va_G} {cy : Nat → ClassId} {sz : Nat} {ρ : mk_RR} {I : sw_I} {J : sw_J} (hJ : ∀ k j, J k j = 0) (hz : mk_Z 140 ρ I) : Met l yX10_init (Cond.code yX10_init cX10_init 1 none :: sw_T) rm_X10_init (sw_Pc D cy sz [.ref (sz + 140)] (mk_G 141 ρ) I J) (sw_Q D cy sz (mk_Q 140 174 ρ I J)) 33 32942 (fun q => sz ≤ q) :=
  sw_met (by decide) (fun _ => rfl) (Nat.le_of_ble_eq_true rfl) rfl (t_X10_init hJ hz)
theorem lo_X9 : Cond.methodLink RX9 3 Lib.objectInit ∈ sw_T := sw_mem 115 (by decide +kernel) rfl
theorem cl_X9_9 : Cond.classLink RX9 9 RX8 ∈ sw_T := sw_mem 118 (by decide +kernel) rfl
theorem in_X8 : Cond.instantiable RX8 2 ∈ sw_T := sw_mem 119 (by decide +kernel) rfl
theorem ii_X8 : Cond.initialized RX8 ∈ sw_T := sw_mem 88 (by decide +kernel) rfl
theorem lc_X9_11 : Cond.methodLinkNest RX9 11 yX8_init "LeastWished" ∈ lw_tbl := List.mem_of_getElem? (i := 120) (by decide +kernel)
set_option maxRecDepth 50000 in
theorem wc_X8 : sw_C9 yX8_init cX8_init 1 0 := ⟨sw_mem 121 (by decide +kernel) rfl, sw_mem 88 (by decide +kernel) rfl, sw_mem 122 rfl rfl, ⟨by decide +kernel, by decide +kernel, by decide +kernel⟩, rfl⟩
theorem fc_X9_12 : Cond.fieldLink RX9 12 RX9 "text" "LLeastWished$Text;" ∈ sw_T := sw_mem 386 (by decide +kernel) rfl
theorem cl_X9_16 : Cond.classLink RX9 16 RX1 ∈ sw_T := sw_mem 136 (by decide +kernel) rfl
theorem in_X1 : Cond.instantiable RX1 7 ∈ sw_T := sw_mem 137 (by decide +kernel) rfl
theorem ii_X1 : Cond.initialized RX1 ∈ sw_T := sw_mem 89 (by decide +kernel) rfl
theorem lc_X9_18 : Cond.methodLinkNest RX9 18 yX1_init "LeastWished" ∈ lw_tbl := List.mem_of_getElem? (i := 138) (by decide +kernel)
set_option maxRecDepth 50000 in
theorem wc_X1 : sw_C9 yX1_init cX1_init 1 0 := ⟨sw_mem 139 (by decide +kernel) rfl, sw_mem 89 (by decide +kernel) rfl, sw_mem 140 rfl rfl, ⟨by decide +kernel, by decide +kernel, by decide +kernel⟩, rfl⟩
theorem fc_X9_19 : Cond.fieldLink RX9 19 RX9 "building" "LLeastWished$House;" ∈ sw_T := sw_mem 387 (by decide +kernel) rfl
theorem cl_X9_23 : Cond.classLink RX9 23 RX3 ∈ sw_T := sw_mem 231 (by decide +kernel) rfl
theorem lc_X9_25 : Cond.methodLink RX9 25 yX3_init ∈ sw_T := sw_mem 233 (by decide +kernel) rfl
theorem fc_X9_26 : Cond.fieldLink RX9 26 RX9 "now" "LLeastWished$Moment;" ∈ sw_T := sw_mem 388 (by decide +kernel) rfl
theorem fc_X9_30 : Cond.fieldLink RX9 30 RX9 "trial" "LLeastWished$Moment;" ∈ sw_T := sw_mem 389 (by decide +kernel) rfl
theorem cl_X9_33 : Cond.classLink RX9 33 RX4 ∈ sw_T := sw_mem 278 (by decide +kernel) rfl
theorem in_X4 : Cond.instantiable RX4 3 ∈ sw_T := sw_mem 279 (by decide +kernel) rfl
theorem ii_X4 : Cond.initialized RX4 ∈ sw_T := sw_mem 94 (by decide +kernel) rfl
theorem lc_X9_35 : Cond.methodLink RX9 35 yX4_init ∈ sw_T := sw_mem 280 (by decide +kernel) rfl
set_option maxRecDepth 50000 in
theorem wc_X4 : sw_C9 yX4_init cX4_init 2 0 := ⟨sw_mem 281 (by decide +kernel) rfl, sw_mem 94 (by decide +kernel) rfl, sw_mem 282 rfl rfl, ⟨by decide +kernel, by decide +kernel, by decide +kernel⟩, rfl⟩
theorem fc_X9_36 : Cond.fieldLink RX9 36 RX9 "past" "LLeastWished$Past;" ∈ sw_T := sw_mem 390 (by decide +kernel) rfl
theorem fc_X9_40 : Cond.fieldLink RX9 40 RX9 "kept" "[LLeastWished$Moment;" ∈ sw_T := sw_mem 391 (by decide +kernel) rfl
theorem fc_X9_44 : Cond.fieldLink RX9 44 RX9 "isKept" "[Z" ∈ sw_T := sw_mem 392 (by decide +kernel) rfl
theorem cl_X9_48 : Cond.classLink RX9 48 RX7 ∈ sw_T := sw_mem 298 (by decide +kernel) rfl
theorem in_X7 : Cond.instantiable RX7 5 ∈ sw_T := sw_mem 299 (by decide +kernel) rfl
theorem ii_X7 : Cond.initialized RX7 ∈ sw_T := sw_mem 95 (by decide +kernel) rfl
theorem lc_X9_50 : Cond.methodLinkNest RX9 50 yX7_init "LeastWished" ∈ lw_tbl := List.mem_of_getElem? (i := 300) (by decide +kernel)
set_option maxRecDepth 50000 in
theorem wc_X7 : sw_C9 yX7_init cX7_init 1 0 := ⟨sw_mem 301 (by decide +kernel) rfl, sw_mem 95 (by decide +kernel) rfl, sw_mem 302 rfl rfl, ⟨by decide +kernel, by decide +kernel, by decide +kernel⟩, rfl⟩
theorem fc_X9_51 : Cond.fieldLink RX9 51 RX9 "seen" "LLeastWished$Seen;" ∈ sw_T := sw_mem 393 (by decide +kernel) rfl
theorem fc_X9_55 : Cond.fieldLink RX9 55 RX9 "chances" "[J" ∈ sw_T := sw_mem 394 (by decide +kernel) rfl
theorem fc_X9_59 : Cond.fieldLink RX9 59 RX9 "told" "[J" ∈ sw_T := sw_mem 395 (by decide +kernel) rfl
theorem fc_X9_62 : Cond.fieldLink RX9 62 RX9 "toldCount" "I" ∈ sw_T := sw_mem 396 (by decide +kernel) rfl
theorem cl_X9_66 : Cond.classLink RX9 66 RX0 ∈ sw_T := sw_mem 324 (by decide +kernel) rfl
theorem in_X0 : Cond.instantiable RX0 3 ∈ sw_T := sw_mem 325 (by decide +kernel) rfl
theorem ii_X0 : Cond.initialized RX0 ∈ sw_T := sw_mem 96 (by decide +kernel) rfl
theorem lc_X9_68 : Cond.methodLinkNest RX9 68 yX0_init "LeastWished" ∈ lw_tbl := List.mem_of_getElem? (i := 326) (by decide +kernel)
set_option maxRecDepth 50000 in
theorem wc_X0 : sw_C9 yX0_init cX0_init 1 0 := ⟨sw_mem 327 (by decide +kernel) rfl, sw_mem 96 (by decide +kernel) rfl, sw_mem 328 rfl rfl, ⟨by decide +kernel, by decide +kernel, by decide +kernel⟩, rfl⟩
theorem fc_X9_69 : Cond.fieldLink RX9 69 RX9 "today" "LLeastWished$Day;" ∈ sw_T := sw_mem 397 (by decide +kernel) rfl
theorem cl_X9_73 : Cond.classLink RX9 73 RX6 ∈ sw_T := sw_mem 344 (by decide +kernel) rfl
theorem in_X6 : Cond.instantiable RX6 10 ∈ sw_T := sw_mem 345 (by decide +kernel) rfl
theorem ii_X6 : Cond.initialized RX6 ∈ sw_T := sw_mem 97 (by decide +kernel) rfl
theorem lc_X9_75 : Cond.methodLinkNest RX9 75 yX6_init "LeastWished" ∈ lw_tbl := List.mem_of_getElem? (i := 346) (by decide +kernel)
set_option maxRecDepth 50000 in
theorem wc_X6 : sw_C9 yX6_init cX6_init 1 0 := ⟨sw_mem 347 (by decide +kernel) rfl, sw_mem 97 (by decide +kernel) rfl, sw_mem 348 rfl rfl, ⟨by decide +kernel, by decide +kernel, by decide +kernel⟩, rfl⟩
theorem fc_X9_76 : Cond.fieldLink RX9 76 RX9 "plans" "LLeastWished$Search;" ∈ sw_T := sw_mem 398 (by decide +kernel) rfl
abbrev rm_X9_init : Room := { frames := 3, cells := 139, slots := 11455, locals := 81 }
set_option maxRecDepth 20000 in
theorem t_X9_init {l : Launch} {D : va_G} {cy : Nat → ClassId} {sz : Nat} {ρ : mk_RR} {I : sw_I} {J : sw_J} (hJ : ∀ k j, J k j = 0) (hz : mk_Z 0 ρ I) : AW l D cy sz RX9 cX9_init 2 none true rm_X9_init 139 11455 (mk_Q 0 140 ρ I J) 0 0 (mk_G 1 ρ) I J 0 [(0, .ref (sz + 0))] [] := by
  have s := mkS.start (N := 13) hz
  refine aw_aload_n 0 dX9_init_0 rfl rfl ?_
  refine aw_oinit lo_X9 (Nat.le_of_ble_eq_true rfl) (Nat.le_of_ble_eq_true rfl) dX9_init_1 ?_
  refine aw_aload_n 0 dX9_init_4 rfl rfl ?_
  refine mk_newX (n := 1) (ci := 8) (C := RX8) (T := TX8) (N := 2) (ρ := ρ) rfl inT8 tyX8 tyX8_ok cl_X9_9 in_X8 ii_X8 rfl (by decide) rfl (by decide) s.2.2.2 (Nat.le_of_ble_eq_true rfl) (Nat.le_of_ble_eq_true rfl) dX9_init_5 ?_
  refine aw_dup dX9_init_8 rfl ?_
  refine aw_callIN wc_X8 (M_X8_init hJ s.2.2.2) lc_X9_11 rfl rfl (Nat.le_of_ble_eq_true rfl) ⟨rfl, rfl⟩ ⟨Nat.le_of_ble_eq_true rfl, Nat.le_of_ble_eq_true rfl⟩ ⟨Nat.le_of_ble_eq_true rfl, Nat.le_of_ble_eq_true rfl⟩ dX9_init_9 (mk_kc fun ρ1 I2 h3 => ?_)
  have s := s.sub h3 (by decide) (by decide)
  refine mk_putF (b := 1) (n := 3) (a := 0) (ci := 9) (k := 0) (C := RX9) (T := TX9) (N := 13) (ty := (.object "LeastWished$Text")) rfl inT9 tyX9 tyX9_ok nmX9 (by decide) rfl (by decide) rfl rfl rfl rfl rfl rfl (fun _ => rfl) (fun _ => rfl) fc_X9_12 (by decide) rfl dX9_init_12 (fun ρ4 e5 => ?_)
  have s := s.putR1 (by decide) e5
  refine aw_aload_n 0 dX9_init_15 rfl rfl ?_
  refine mk_newX (n := 3) (ci := 1) (C := RX1) (T := TX1) (N := 7) (ρ := ρ4) rfl inT1 tyX1 tyX1_ok cl_X9_16 in_X1 ii_X1 rfl (by decide) rfl (by decide) s.2.2.2 (Nat.le_of_ble_eq_true rfl) (Nat.le_of_ble_eq_true rfl) dX9_init_16 ?_
  refine aw_dup dX9_init_19 rfl ?_
  refine aw_callIN wc_X1 (M_X1_init hJ s.2.2.2) lc_X9_18 rfl rfl (Nat.le_of_ble_eq_true rfl) ⟨rfl, rfl⟩ ⟨Nat.le_of_ble_eq_true rfl, Nat.le_of_ble_eq_true rfl⟩ ⟨Nat.le_of_ble_eq_true rfl, Nat.le_of_ble_eq_true rfl⟩ dX9_init_20 (mk_kc fun ρ6 I7 h8 => ?_)
  have s := s.sub h8 (by decide) (by decide)
  refine mk_putF (b := 3) (n := 13) (a := 0) (ci := 9) (k := 1) (C := RX9) (T := TX9) (N := 13) (ty := (.object "LeastWished$House")) rfl inT9 tyX9 tyX9_ok nmX9 (by decide) rfl (by decide) rfl rfl rfl rfl rfl rfl (fun _ => rfl) (fun _ => rfl) fc_X9_19 (by decide) rfl dX9_init_23 (fun ρ9 e10 => ?_)
  have s := s.putR1 (by decide) e10
  refine aw_aload_n 0 dX9_init_26 rfl rfl ?_
  refine mk_newX (n := 13) (ci := 3) (C := RX3) (T := TX3) (N := 6) (ρ := ρ9) rfl inT3 tyX3 tyX3_ok cl_X9_23 in_X3 ii_X3 rfl (by decide) rfl (by decide) s.2.2.2 (Nat.le_of_ble_eq_true rfl) (Nat.le_of_ble_eq_true rfl) dX9_init_27 ?_
  refine aw_dup dX9_init_30 rfl ?_
  refine aw_callI wc_X3 (M_X3_init mk_mom13 s.2.2.2) lc_X9_25 rfl rfl (Nat.le_of_ble_eq_true rfl) ⟨rfl, rfl⟩ ⟨Nat.le_of_ble_eq_true rfl, Nat.le_of_ble_eq_true rfl⟩ ⟨Nat.le_of_ble_eq_true rfl, Nat.le_of_ble_eq_true rfl⟩ dX9_init_31 (mk_kc fun ρ11 I12 h13 => ?_)
  have s := s.sub h13 (by decide) (by decide)
  refine mk_putF (b := 13) (n := 17) (a := 0) (ci := 9) (k := 2) (C := RX9) (T := TX9) (N := 13) (ty := (.object "LeastWished$Moment")) rfl inT9 tyX9 tyX9_ok nmX9 (by decide) rfl (by decide) rfl rfl rfl rfl rfl rfl (fun _ => rfl) (fun _ => rfl) fc_X9_26 (by decide) rfl dX9_init_34 (fun ρ14 e15 => ?_)
  have s := s.putR1 (by decide) e15
  refine aw_aload_n 0 dX9_init_37 rfl rfl ?_
  refine mk_newX (n := 17) (ci := 3) (C := RX3) (T := TX3) (N := 6) (ρ := ρ14) rfl inT3 tyX3 tyX3_ok cl_X9_23 in_X3 ii_X3 rfl (by decide) rfl (by decide) s.2.2.2 (Nat.le_of_ble_eq_true rfl) (Nat.le_of_ble_eq_true rfl) dX9_init_38 ?_
  refine aw_dup dX9_init_41 rfl ?_
  refine aw_callI wc_X3 (M_X3_init mk_mom17 s.2.2.2) lc_X9_25 rfl rfl (Nat.le_of_ble_eq_true rfl) ⟨rfl, rfl⟩ ⟨Nat.le_of_ble_eq_true rfl, Nat.le_of_ble_eq_true rfl⟩ ⟨Nat.le_of_ble_eq_true rfl, Nat.le_of_ble_eq_true rfl⟩ dX9_init_42 (mk_kc fun ρ16 I17 h18 => ?_)
  have s := s.sub h18 (by decide) (by decide)
  refine mk_putF (b := 17) (n := 21) (a := 0) (ci := 9) (k := 3) (C := RX9) (T := TX9) (N := 13) (ty := (.object "LeastWished$Moment")) rfl inT9 tyX9 tyX9_ok nmX9 (by decide) rfl (by decide) rfl rfl rfl rfl rfl rfl (fun _ => rfl) (fun _ => rfl) fc_X9_30 (by decide) rfl dX9_init_45 (fun ρ19 e20 => ?_)
  have s := s.putR1 (by decide) e20
  refine aw_aload_n 0 dX9_init_48 rfl rfl ?_
  refine mk_newX (n := 21) (ci := 4) (C := RX4) (T := TX4) (N := 3) (ρ := ρ19) rfl inT4 tyX4 tyX4_ok cl_X9_33 in_X4 ii_X4 rfl (by decide) rfl (by decide) s.2.2.2 (Nat.le_of_ble_eq_true rfl) (Nat.le_of_ble_eq_true rfl) dX9_init_49 ?_
  refine aw_dup dX9_init_52 rfl ?_
  refine aw_callI wc_X4 (M_X4_init hJ s.2.2.2) lc_X9_35 rfl rfl (Nat.le_of_ble_eq_true rfl) ⟨rfl, rfl⟩ ⟨Nat.le_of_ble_eq_true rfl, Nat.le_of_ble_eq_true rfl⟩ ⟨Nat.le_of_ble_eq_true rfl, Nat.le_of_ble_eq_true rfl⟩ dX9_init_53 (mk_kc fun ρ21 I22 h23 => ?_)
  have s := s.sub h23 (by decide) (by decide)
  refine mk_putF (b := 21) (n := 107) (a := 0) (ci := 9) (k := 4) (C := RX9) (T := TX9) (N := 13) (ty := (.object "LeastWished$Past")) rfl inT9 tyX9 tyX9_ok nmX9 (by decide) rfl (by decide) rfl rfl rfl rfl rfl rfl (fun _ => rfl) (fun _ => rfl) fc_X9_36 (by decide) rfl dX9_init_56 (fun ρ24 e25 => ?_)
  have s := s.putR1 (by decide) e25
  refine aw_aload_n 0 dX9_init_59 rfl rfl ?_
  refine aw_iconst (v := 3) dX9_init_60 (by decide) ?_
  refine aw_newq (n := 107) (N' := 3) cl_X9_23 w_over rfl rfl (fun j => (s.2.2.2 107 (Nat.le_refl _) j).1) (by decide) rfl (by decide) (Nat.le_of_ble_eq_true rfl) (Nat.le_of_ble_eq_true rfl) dX9_init_61 ?_
  rw [← List.range_succ]
  have s := s.opn (N := 3) (by decide)
  have s := s.swap (by decide)
  refine mk_putF (b := 107) (n := 108) (a := 0) (ci := 9) (k := 5) (C := RX9) (T := TX9) (N := 13) (ty := (.array (.object "LeastWished$Moment"))) rfl inT9 tyX9 tyX9_ok nmX9 (by decide) rfl (by decide) rfl rfl rfl rfl rfl rfl (fun _ => rfl) (fun _ => rfl) fc_X9_40 (by decide) rfl dX9_init_64 (fun ρ26 e27 => ?_)
  have s := s.putR1 (by decide) e27
  refine aw_aload_n 0 dX9_init_67 rfl rfl ?_
  refine aw_iconst (v := 3) dX9_init_68 (by decide) ?_
  refine mk_newZ (n := 108) (ρ := ρ26) rfl rfl (fun j => (s.2.2.2 108 (Nat.le_refl _) j).2) (by decide) rfl (by decide) (Nat.le_of_ble_eq_true rfl) (Nat.le_of_ble_eq_true rfl) dX9_init_69 ?_
  have s := s.new (fun _ => rfl) (fun _ _ => rfl)
  refine mk_putF (b := 108) (n := 109) (a := 0) (ci := 9) (k := 6) (C := RX9) (T := TX9) (N := 13) (ty := (.array .boolean)) rfl inT9 tyX9 tyX9_ok nmX9 (by decide) rfl (by decide) rfl rfl rfl rfl rfl rfl (fun _ => rfl) (fun _ => rfl) fc_X9_44 (by decide) rfl dX9_init_71 (fun ρ28 e29 => ?_)
  have s := s.putR1 (by decide) e29
  refine aw_aload_n 0 dX9_init_74 rfl rfl ?_
  refine mk_newX (n := 109) (ci := 7) (C := RX7) (T := TX7) (N := 5) (ρ := ρ28) rfl inT7 tyX7 tyX7_ok cl_X9_48 in_X7 ii_X7 rfl (by decide) rfl (by decide) s.2.2.2 (Nat.le_of_ble_eq_true rfl) (Nat.le_of_ble_eq_true rfl) dX9_init_75 ?_
  refine aw_dup dX9_init_78 rfl ?_
  refine aw_callIN wc_X7 (M_X7_init hJ s.2.2.2) lc_X9_50 rfl rfl (Nat.le_of_ble_eq_true rfl) ⟨rfl, rfl⟩ ⟨Nat.le_of_ble_eq_true rfl, Nat.le_of_ble_eq_true rfl⟩ ⟨Nat.le_of_ble_eq_true rfl, Nat.le_of_ble_eq_true rfl⟩ dX9_init_79 (mk_kc fun ρ30 I31 h32 => ?_)
  have s := s.sub h32 (by decide) (by decide)
  refine mk_putF (b := 109) (n := 117) (a := 0) (ci := 9) (k := 7) (C := RX9) (T := TX9) (N := 13) (ty := (.object "LeastWished$Seen")) rfl inT9 tyX9 tyX9_ok nmX9 (by decide) rfl (by decide) rfl rfl rfl rfl rfl rfl (fun _ => rfl) (fun _ => rfl) fc_X9_51 (by decide) rfl dX9_init_82 (fun ρ33 e34 => ?_)
  have s := s.putR1 (by decide) e34
  refine aw_aload_n 0 dX9_init_85 rfl rfl ?_
  refine aw_bipush (v := 9) dX9_init_86 (by decide) ?_
  refine mk_newL (n := 117) (ρ := ρ33) rfl rfl (fun j => hJ _ j) (by decide) rfl (by decide) (Nat.le_of_ble_eq_true rfl) (Nat.le_of_ble_eq_true rfl) dX9_init_88 ?_
  have s := s.new (fun _ => rfl) (fun _ _ => rfl)
  refine mk_putF (b := 117) (n := 118) (a := 0) (ci := 9) (k := 8) (C := RX9) (T := TX9) (N := 13) (ty := (.array .long)) rfl inT9 tyX9 tyX9_ok nmX9 (by decide) rfl (by decide) rfl rfl rfl rfl rfl rfl (fun _ => rfl) (fun _ => rfl) fc_X9_55 (by decide) rfl dX9_init_90 (fun ρ35 e36 => ?_)
  have s := s.putR1 (by decide) e36
  refine aw_aload_n 0 dX9_init_93 rfl rfl ?_
  refine aw_bipush (v := 12) dX9_init_94 (by decide) ?_
  refine mk_newL (n := 118) (ρ := ρ35) rfl rfl (fun j => hJ _ j) (by decide) rfl (by decide) (Nat.le_of_ble_eq_true rfl) (Nat.le_of_ble_eq_true rfl) dX9_init_96 ?_
  have s := s.new (fun _ => rfl) (fun _ _ => rfl)
  refine mk_putF (b := 118) (n := 119) (a := 0) (ci := 9) (k := 9) (C := RX9) (T := TX9) (N := 13) (ty := (.array .long)) rfl inT9 tyX9 tyX9_ok nmX9 (by decide) rfl (by decide) rfl rfl rfl rfl rfl rfl (fun _ => rfl) (fun _ => rfl) fc_X9_59 (by decide) rfl dX9_init_98 (fun ρ37 e38 => ?_)
  have s := s.putR1 (by decide) e38
  refine aw_aload_n 0 dX9_init_101 rfl rfl ?_
  refine aw_iconst (v := 0) dX9_init_102 (by decide) ?_
  refine mk_putI (n := 119) (a := 0) (ci := 9) (k := 10) (C := RX9) (T := TX9) (N := 13) (ty := .int) rfl inT9 tyX9 tyX9_ok nmX9 (by decide) rfl (by decide) rfl rfl rfl rfl rfl rfl fc_X9_62 (by decide) rfl dX9_init_103 (fun I39 e40 => ?_)
  have s := s.putI1 (by decide) e40
  refine aw_aload_n 0 dX9_init_106 rfl rfl ?_
  refine mk_newX (n := 119) (ci := 0) (C := RX0) (T := TX0) (N := 3) (ρ := ρ37) rfl inT0 tyX0 tyX0_ok cl_X9_66 in_X0 ii_X0 rfl (by decide) rfl (by decide) s.2.2.2 (Nat.le_of_ble_eq_true rfl) (Nat.le_of_ble_eq_true rfl) dX9_init_107 ?_
  refine aw_dup dX9_init_110 rfl ?_
  refine aw_callIN wc_X0 (M_X0_init hJ s.2.2.2) lc_X9_68 rfl rfl (Nat.le_of_ble_eq_true rfl) ⟨rfl, rfl⟩ ⟨Nat.le_of_ble_eq_true rfl, Nat.le_of_ble_eq_true rfl⟩ ⟨Nat.le_of_ble_eq_true rfl, Nat.le_of_ble_eq_true rfl⟩ dX9_init_111 (mk_kc fun ρ41 I42 h43 => ?_)
  have s := s.sub h43 (by decide) (by decide)
  refine mk_putF (b := 119) (n := 120) (a := 0) (ci := 9) (k := 11) (C := RX9) (T := TX9) (N := 13) (ty := (.object "LeastWished$Day")) rfl inT9 tyX9 tyX9_ok nmX9 (by decide) rfl (by decide) rfl rfl rfl rfl rfl rfl (fun _ => rfl) (fun _ => rfl) fc_X9_69 (by decide) rfl dX9_init_114 (fun ρ44 e45 => ?_)
  have s := s.putR1 (by decide) e45
  refine aw_aload_n 0 dX9_init_117 rfl rfl ?_
  refine mk_newX (n := 120) (ci := 6) (C := RX6) (T := TX6) (N := 10) (ρ := ρ44) rfl inT6 tyX6 tyX6_ok cl_X9_73 in_X6 ii_X6 rfl (by decide) rfl (by decide) s.2.2.2 (Nat.le_of_ble_eq_true rfl) (Nat.le_of_ble_eq_true rfl) dX9_init_118 ?_
  refine aw_dup dX9_init_121 rfl ?_
  refine aw_callIN wc_X6 (M_X6_init hJ s.2.2.2) lc_X9_75 rfl rfl (Nat.le_of_ble_eq_true rfl) ⟨rfl, rfl⟩ ⟨Nat.le_of_ble_eq_true rfl, Nat.le_of_ble_eq_true rfl⟩ ⟨Nat.le_of_ble_eq_true rfl, Nat.le_of_ble_eq_true rfl⟩ dX9_init_122 (mk_kc fun ρ46 I47 h48 => ?_)
  have s := s.sub h48 (by decide) (by decide)
  refine mk_putF (b := 120) (n := 128) (a := 0) (ci := 9) (k := 12) (C := RX9) (T := TX9) (N := 13) (ty := (.object "LeastWished$Search")) rfl inT9 tyX9 tyX9_ok nmX9 (by decide) rfl (by decide) rfl rfl rfl rfl rfl rfl (fun _ => rfl) (fun _ => rfl) fc_X9_76 (by decide) rfl dX9_init_125 (fun ρ49 e50 => ?_)
  have s := s.putR1 (by decide) e50
  refine aw_iconst (v := 0) dX9_init_128 (by decide) ?_
  refine aw_istore_n (lv' := [(1, .int 0), (0, .ref (sz + 0))]) dX9_init_129 rfl (by decide) rfl ?_
  refine aw_iload_n 0 dX9_init_130 rfl rfl ?_
  refine aw_iconst (v := 3) dX9_init_131 (by decide) ?_
  refine aw_jge 154 dX9_init_132 (by decide) (fun c => absurd (by decide) c) (fun _ => ?_)
  refine aw_aload_n 1 dX9_init_135 rfl rfl ?_
  have q51 : ρ49 0 5 = some 107 := (s.2.2.1 0 _ rfl).2.1 5
  refine aw_get (a := 0) (ci := 9) (k := 5) (C := RX9) (T := TX9) (N := 13) (v := .ref (sz + 107)) rfl inT9 (by decide) rfl (by decide) rfl (by show (if _ then va_rf (sw_o sz (ρ49 0 5)) else _) = _; rw [q51]; rfl) fc_X9_40 ⟨List.mem_range.mpr (by decide), rfl⟩ dX9_init_136 ?_
  refine aw_iload_n 0 dX9_init_139 rfl rfl ?_
  refine mk_newX (n := 128) (ci := 3) (C := RX3) (T := TX3) (N := 6) (ρ := ρ49) rfl inT3 tyX3 tyX3_ok cl_X9_23 in_X3 ii_X3 rfl (by decide) rfl (by decide) s.2.2.2 (Nat.le_of_ble_eq_true rfl) (Nat.le_of_ble_eq_true rfl) dX9_init_140 ?_
  refine aw_dup dX9_init_143 rfl ?_
  refine aw_callI wc_X3 (M_X3_init mk_mom128 s.2.2.2) lc_X9_25 rfl rfl (Nat.le_of_ble_eq_true rfl) ⟨rfl, rfl⟩ ⟨Nat.le_of_ble_eq_true rfl, Nat.le_of_ble_eq_true rfl⟩ ⟨Nat.le_of_ble_eq_true rfl, Nat.le_of_ble_eq_true rfl⟩ dX9_init_144 (mk_kc fun ρ52 I53 h54 => ?_)
  have s := s.sub h54 (by decide) (by decide)
  have s := s.swap (by decide)
  refine aw_astq (idx := 0) (n := 3) dX9_init_147 ⟨List.mem_range.mpr (by decide), rfl⟩ rfl ⟨List.mem_range.mpr (by decide), rfl⟩ (by unfold vp_in; decide) ?_
  obtain ⟨ρ55, e56⟩ : ∃ q : mk_RR, q = sw_up ρ52 107 (0 : Int32).toNatClampNeg (some 128) := ⟨_, rfl⟩
  show AW _ _ _ _ _ _ _ _ _ _ _ _ _ _ _ (mk_G 132 (sw_up ρ52 107 (0 : Int32).toNatClampNeg (some 128))) _ _ _ _ _
  rw [← e56]
  have s := s.putR1 (k := 0) (by decide) e56
  refine aw_iinc (lv' := [(1, .int 1), (0, .ref (sz + 0))]) 0 dX9_init_148 rfl (by decide) (by decide) rfl ?_
  refine aw_goto 130 dX9_init_151 (by decide) ?_
  refine aw_iload_n 0 dX9_init_130 rfl rfl ?_
  refine aw_iconst (v := 3) dX9_init_131 (by decide) ?_
  refine aw_jge 154 dX9_init_132 (by decide) (fun c => absurd (by decide) c) (fun _ => ?_)
  refine aw_aload_n 1 dX9_init_135 rfl rfl ?_
  have q57 : ρ55 0 5 = some 107 := (s.2.2.1 0 _ rfl).2.1 5
  refine aw_get (a := 0) (ci := 9) (k := 5) (C := RX9) (T := TX9) (N := 13) (v := .ref (sz + 107)) rfl inT9 (by decide) rfl (by decide) rfl (by show (if _ then va_rf (sw_o sz (ρ55 0 5)) else _) = _; rw [q57]; rfl) fc_X9_40 ⟨List.mem_range.mpr (by decide), rfl⟩ dX9_init_136 ?_
  refine aw_iload_n 0 dX9_init_139 rfl rfl ?_
  refine mk_newX (n := 132) (ci := 3) (C := RX3) (T := TX3) (N := 6) (ρ := ρ55) rfl inT3 tyX3 tyX3_ok cl_X9_23 in_X3 ii_X3 rfl (by decide) rfl (by decide) s.2.2.2 (Nat.le_of_ble_eq_true rfl) (Nat.le_of_ble_eq_true rfl) dX9_init_140 ?_
  refine aw_dup dX9_init_143 rfl ?_
  refine aw_callI wc_X3 (M_X3_init mk_mom132 s.2.2.2) lc_X9_25 rfl rfl (Nat.le_of_ble_eq_true rfl) ⟨rfl, rfl⟩ ⟨Nat.le_of_ble_eq_true rfl, Nat.le_of_ble_eq_true rfl⟩ ⟨Nat.le_of_ble_eq_true rfl, Nat.le_of_ble_eq_true rfl⟩ dX9_init_144 (mk_kc fun ρ58 I59 h60 => ?_)
  have s := s.sub h60 (by decide) (by decide)
  refine aw_astq (idx := 0) (n := 3) dX9_init_147 ⟨List.mem_range.mpr (by decide), rfl⟩ rfl ⟨List.mem_range.mpr (by decide), rfl⟩ (by unfold vp_in; decide) ?_
  obtain ⟨ρ61, e62⟩ : ∃ q : mk_RR, q = sw_up ρ58 107 (1 : Int32).toNatClampNeg (some 132) := ⟨_, rfl⟩
  show AW _ _ _ _ _ _ _ _ _ _ _ _ _ _ _ (mk_G 136 (sw_up ρ58 107 (1 : Int32).toNatClampNeg (some 132))) _ _ _ _ _
  rw [← e62]
  have s := s.putR1 (k := 1) (by decide) e62
  refine aw_iinc (lv' := [(1, .int 2), (0, .ref (sz + 0))]) 0 dX9_init_148 rfl (by decide) (by decide) rfl ?_
  refine aw_goto 130 dX9_init_151 (by decide) ?_
  refine aw_iload_n 0 dX9_init_130 rfl rfl ?_
  refine aw_iconst (v := 3) dX9_init_131 (by decide) ?_
  refine aw_jge 154 dX9_init_132 (by decide) (fun c => absurd (by decide) c) (fun _ => ?_)
  refine aw_aload_n 1 dX9_init_135 rfl rfl ?_
  have q63 : ρ61 0 5 = some 107 := (s.2.2.1 0 _ rfl).2.1 5
  refine aw_get (a := 0) (ci := 9) (k := 5) (C := RX9) (T := TX9) (N := 13) (v := .ref (sz + 107)) rfl inT9 (by decide) rfl (by decide) rfl (by show (if _ then va_rf (sw_o sz (ρ61 0 5)) else _) = _; rw [q63]; rfl) fc_X9_40 ⟨List.mem_range.mpr (by decide), rfl⟩ dX9_init_136 ?_
  refine aw_iload_n 0 dX9_init_139 rfl rfl ?_
  refine mk_newX (n := 136) (ci := 3) (C := RX3) (T := TX3) (N := 6) (ρ := ρ61) rfl inT3 tyX3 tyX3_ok cl_X9_23 in_X3 ii_X3 rfl (by decide) rfl (by decide) s.2.2.2 (Nat.le_of_ble_eq_true rfl) (Nat.le_of_ble_eq_true rfl) dX9_init_140 ?_
  refine aw_dup dX9_init_143 rfl ?_
  refine aw_callI wc_X3 (M_X3_init mk_mom136 s.2.2.2) lc_X9_25 rfl rfl (Nat.le_of_ble_eq_true rfl) ⟨rfl, rfl⟩ ⟨Nat.le_of_ble_eq_true rfl, Nat.le_of_ble_eq_true rfl⟩ ⟨Nat.le_of_ble_eq_true rfl, Nat.le_of_ble_eq_true rfl⟩ dX9_init_144 (mk_kc fun ρ64 I65 h66 => ?_)
  have s := s.sub h66 (by decide) (by decide)
  refine aw_astq (idx := 0) (n := 3) dX9_init_147 ⟨List.mem_range.mpr (by decide), rfl⟩ rfl ⟨List.mem_range.mpr (by decide), rfl⟩ (by unfold vp_in; decide) ?_
  obtain ⟨ρ67, e68⟩ : ∃ q : mk_RR, q = sw_up ρ64 107 (2 : Int32).toNatClampNeg (some 136) := ⟨_, rfl⟩
  show AW _ _ _ _ _ _ _ _ _ _ _ _ _ _ _ (mk_G 140 (sw_up ρ64 107 (2 : Int32).toNatClampNeg (some 136))) _ _ _ _ _
  rw [← e68]
  have s := s.putR1 (k := 2) (by decide) e68
  refine aw_iinc (lv' := [(1, .int 3), (0, .ref (sz + 0))]) 0 dX9_init_148 rfl (by decide) (by decide) rfl ?_
  refine aw_goto 130 dX9_init_151 (by decide) ?_
  refine aw_iload_n 0 dX9_init_130 rfl rfl ?_
  refine aw_iconst (v := 3) dX9_init_131 (by decide) ?_
  refine aw_jge 154 dX9_init_132 (by decide) (fun _ => ?_) (fun c => absurd c (by decide))
  have s := s.shut rfl (fun _ => rfl) (by decide)
  have s := s.shut rfl (fun _ => rfl) (by decide)
  exact aw_vret rfl dX9_init_154 ⟨rfl, rfl, ρ67, rfl, s.fin⟩
theorem M_X9_init {l : Launch} {D : va_G} {cy : Nat → ClassId} {sz : Nat} {ρ : mk_RR} {I : sw_I} {J : sw_J} (hJ : ∀ k j, J k j = 0) (hz : mk_Z 0 ρ I) : Met l yX9_init (Cond.code yX9_init cX9_init 2 none :: sw_T) rm_X9_init (sw_Pc D cy sz [.ref (sz + 0)] (mk_G 1 ρ) I J) (sw_Q D cy sz (mk_Q 0 140 ρ I J)) 139 11455 (fun q => sz ≤ q) :=
  sw_met (by decide) (fun _ => rfl) (Nat.le_of_ble_eq_true rfl) rfl (t_X9_init hJ hz)
