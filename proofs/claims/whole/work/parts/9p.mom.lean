theorem wa_int : Cond.arrayClass .int ∈ sw_T := sw_mem 135 (by decide +kernel) rfl
theorem wa_long : Cond.arrayClass .long ∈ sw_T := sw_mem 343 (by decide +kernel) rfl
theorem wa_bool : Cond.arrayClass .boolean ∈ sw_T := sw_mem 323 (by decide +kernel) rfl
theorem wo1 : Cond.instanceMethod Lib.objectInit ∈ sw_T := sw_mem 116 (by decide +kernel) rfl
theorem wo2 : Cond.code Lib.objectInit ⟨#[0xb1]⟩ 1 none ∈ sw_T := sw_mem 117 (by decide +kernel) rfl
section SMM
variable {l : Launch} {D : va_G} {cy : Nat → ClassId} {sz : Nat} {own : String} {cc : ByteArray} {nL : Nat} {ret : Option FieldType} {ini : Bool} {R : Room} {mc ms cells slots : Nat} {Q : Option Value → sw_G → sw_I → sw_J → Prop} {I : sw_I} {J : sw_J} {pc : Nat} {lv lv' : List (Nat × Value)} {st st0 : List Value} {ρ : mk_RR}
theorem aw_oinit {idx b : Nat} (hlink : Cond.methodLink own idx Lib.objectInit ∈ sw_T) (hf : 1 ≤ R.frames) (hlo : (st.map fun v => v.category).sum + 12 ≤ R.locals) (d : decode cc pc = .ok (.invokespecial idx, 3)) {G : sw_G} (k : AW l D cy sz own cc nL ret ini R mc ms Q cells slots G I J (pc + 3) lv st) : AW l D cy sz own cc nL ret ini R mc ms Q cells slots G I J pc lv (.ref b :: st) := by
  intro p e s m args below meth c H locs ls X hR hS hl
  obtain ⟨hx, hb9, hml, hr, hlk, hini, hown, hts, hK, hsz, hEv⟩ := id X
  exact W.objInit hx hb9 hown (hts _ hlink) (hts _ wo1) (hts _ wo2) rfl (hl.1.trans hml.symm) rfl d hf (by show 2 * 0 + _ + 12 ≤ _; omega) (k p e s m args below meth c H locs ls X hR hS hl)
theorem mk_newI {n N' : Nat} {x : Int32} (hK : mk_K n = 50) (hN : mk_N n = N') (hz : ∀ j, I n j = 0) (hx : ¬ x < 0) (hxn : x.toNatClampNeg = N') (hb : N' * 4 ≤ 536870912) (hc : cells + 1 ≤ R.cells) (hs : slots + N' ≤ R.slots) (d : decode cc pc = .ok (.newarray .int, 2))
    (k : AW l D cy sz own cc nL ret ini R mc ms Q (cells + 1) (slots + N') (mk_G (n + 1) ρ) I J (pc + 2) lv (.ref (sz + n) :: st)) : AW l D cy sz own cc nL ret ini R mc ms Q cells slots (mk_G n ρ) I J pc lv (.int x :: st) :=
  aw_newa (t0 := 0) (ty := .int) (f := (N', .inl (I n))) rfl wa_int rfl (fun _ _ h => h) (by rw [sw_E_ints (G := mk_G n ρ) hK]; show Sum.inl (cy 0, mk_N n, _) = _; rw [hN]) (by rw [vp_cell_i]; congr 1; funext j; rw [hz]; rfl) hx hxn hb hc hs d (by rw [← List.range_succ]; exact k)
theorem mk_newL {n N' : Nat} {x : Int32} (hK : mk_K n = 51) (hN : mk_N n = N') (hz : ∀ j, J n j = 0) (hx : ¬ x < 0) (hxn : x.toNatClampNeg = N') (hb : N' * 8 ≤ 536870912) (hc : cells + 1 ≤ R.cells) (hs : slots + N' ≤ R.slots) (d : decode cc pc = .ok (.newarray .long, 2))
    (k : AW l D cy sz own cc nL ret ini R mc ms Q (cells + 1) (slots + N') (mk_G (n + 1) ρ) I J (pc + 2) lv (.ref (sz + n) :: st)) : AW l D cy sz own cc nL ret ini R mc ms Q cells slots (mk_G n ρ) I J pc lv (.int x :: st) :=
  aw_newa (t0 := 1) (ty := .long) (f := (N', .inr (.inl (J n)))) rfl wa_long rfl (fun _ _ h => h) (by rw [sw_E_longs (G := mk_G n ρ) hK]; show Sum.inl (cy 1, mk_N n, _) = _; rw [hN]) (by rw [vp_cell_l]; congr 1; funext j; rw [hz]; rfl) hx hxn hb hc hs d (by rw [← List.range_succ]; exact k)
theorem mk_newZ {n N' : Nat} {x : Int32} (hK : mk_K n = 52) (hN : mk_N n = N') (hz : ∀ j, I n j = 0) (hx : ¬ x < 0) (hxn : x.toNatClampNeg = N') (hb : N' * 1 ≤ 536870912) (hc : cells + 1 ≤ R.cells) (hs : slots + N' ≤ R.slots) (d : decode cc pc = .ok (.newarray .boolean, 2))
    (k : AW l D cy sz own cc nL ret ini R mc ms Q (cells + 1) (slots + N') (mk_G (n + 1) ρ) I J (pc + 2) lv (.ref (sz + n) :: st)) : AW l D cy sz own cc nL ret ini R mc ms Q cells slots (mk_G n ρ) I J pc lv (.int x :: st) :=
  aw_newa (t0 := 2) (ty := .boolean) (f := (N', .inl (I n))) rfl wa_bool rfl (fun _ _ h => h) (by rw [sw_E_bools (G := mk_G n ρ) hK]; show Sum.inl (cy 2, mk_N n, _) = _; rw [hN]) (by rw [vp_cell_i]; congr 1; funext j; rw [hz]; rfl) hx hxn hb hc hs d (by rw [← List.range_succ]; exact k)
theorem mk_newX {n ci idx N : Nat} {C : String} {T : u_T} (hc0 : vwCl[ci]? = some (C, T, N)) (hin : ∀ w ∈ u_ws C T N, w ∈ sw_T) (ty : Nat → FieldType) (hty : ∀ k, k < N → parseFieldDescriptor (T k).2.2.1 = some (ty k)) (hcl : Cond.classLink own idx C ∈ sw_T) (hinst : Cond.instantiable C N ∈ sw_T) (hini0 : Cond.initialized C ∈ sw_T)
    (hK : mk_K n = ci) (h50 : ci < 50) (hN : sw_nf ci = N) (hdf : ∀ j, j < N → defaultValue (ty j) = (if sw_isR ci j then Value.null else .int 0)) (hz : mk_Z n ρ I) (hc : cells + 1 ≤ R.cells) (hs : slots + N ≤ R.slots) (d : decode cc pc = .ok (.new idx, 3))
    (k : AW l D cy sz own cc nL ret ini R mc ms Q (cells + 1) (slots + N) (mk_G (n + 1) ρ) I J (pc + 3) lv (.ref (sz + n) :: st)) : AW l D cy sz own cc nL ret ini R mc ms Q cells slots (mk_G n ρ) I J pc lv st :=
  aw_newo hc0 hin ty hty hcl hinst hini0 hK h50 hN (fun j hj => by
    unfold vp_V
    rw [List.getD_eq_getElem?_getD, sw_fs_get hj, hdf j hj]
    have q := hz n (Nat.le_refl _) j
    show _ = (if sw_isR ci j then va_rf (sw_o sz (ρ n j)) else .int (I n j))
    rw [q.1, q.2]
    rfl) hc hs d (by rw [← List.range_succ]; exact k)
end SMM
def mk_Q (a e : Nat) (ρ : mk_RR) (I : sw_I) (J : sw_J) : Option Value → sw_G → sw_I → sw_J → Prop := fun r G' I' J' => r = none ∧ J' = J ∧ ∃ ρ' : mk_RR, G' = mk_G e ρ' ∧ mkP a e ρ ρ' I I'
def mk_mom (a : Nat) : Prop := (mk_K a = 3 ∧ mk_K (a + 1) = 50 ∧ mk_K (a + 2) = 50 ∧ mk_K (a + 3) = 50) ∧ (mk_N a = 6 ∧ mk_N (a + 1) = 10 ∧ mk_N (a + 2) = 10 ∧ mk_N (a + 3) = 10) ∧ (∀ j, mk_R a j = ([some (a + 1), some (a + 2), some (a + 3), none, none, none] : List (Option Nat)).getD j none) ∧ (∀ j, mk_R (a + 1) j = none ∧ mk_R (a + 2) j = none ∧ mk_R (a + 3) j = none) ∧ (∀ j, mk_I a j = 0 ∧ mk_I (a + 1) j = -1 ∧ mk_I (a + 2) j = -1 ∧ mk_I (a + 3) j = 0)
theorem lo_X3 : Cond.methodLink RX3 3 Lib.objectInit ∈ sw_T := sw_mem 236 (by decide +kernel) rfl
abbrev rm_X3_init : Room := { frames := 1, cells := 3, slots := 30, locals := 40 }
set_option maxRecDepth 20000 in
theorem t_X3_init {l : Launch} {D : va_G} {cy : Nat → ClassId} {sz a : Nat} {ρ : mk_RR} {I : sw_I} {J : sw_J} (hm : mk_mom a) (hz : mk_Z a ρ I) : AW l D cy sz RX3 cX3_init 1 none true rm_X3_init 3 30 (mk_Q a (a + 4) ρ I J) 0 0 (mk_G (a + 1) ρ) I J 0 [(0, .ref (sz + a))] [] := by
  obtain ⟨⟨k0, k1, k2, k3⟩, ⟨n0, n1, n2, n3⟩, r0, r1, i0⟩ := hm
  have ten : (10 : Int32).toNatClampNeg = 10 := rfl
  have mem : ∀ {i m : Nat}, i < m → i ∈ List.range m := fun h => List.mem_range.mpr h
  refine aw_aload_n 0 dX3_init_0 rfl rfl ?_
  refine aw_oinit lo_X3 (Nat.le_of_ble_eq_true rfl) (Nat.le_of_ble_eq_true rfl) dX3_init_1 ?_
  refine aw_aload_n 0 dX3_init_4 rfl rfl ?_
  refine aw_bipush (v := 10) dX3_init_5 (by decide) ?_
  refine mk_newI (n := a + 1) k1 n1 (fun j => (hz _ (by omega) j).2) (by decide) ten (by decide) (Nat.le_of_ble_eq_true rfl) (Nat.le_of_ble_eq_true rfl) dX3_init_7 ?_
  refine aw_putF (a := a) (b := a + 1) (ci := 3) (k := 0) (C := RX3) (T := TX3) (N := 6) (ty := .array .int) rfl inT3 tyX3 tyX3_ok nmX3 (by decide) rfl (by decide) rfl rfl rfl rfl rfl rfl (fun _ => rfl) (fun _ => rfl) fl_X3_9 ⟨mem (by omega), k0⟩ dX3_init_9 ?_
  refine aw_aload_n 0 dX3_init_12 rfl rfl ?_
  refine aw_bipush (v := 10) dX3_init_13 (by decide) ?_
  refine mk_newI (n := a + 2) (ρ := sw_up ρ a 0 (some (a + 1))) k2 n2 (fun j => (hz _ (by omega) j).2) (by decide) ten (by decide) (Nat.le_of_ble_eq_true rfl) (Nat.le_of_ble_eq_true rfl) dX3_init_15 ?_
  refine aw_putF (a := a) (b := a + 2) (ci := 3) (k := 1) (C := RX3) (T := TX3) (N := 6) (ty := .array .int) rfl inT3 tyX3 tyX3_ok nmX3 (by decide) rfl (by decide) rfl rfl rfl rfl rfl rfl (fun _ => rfl) (fun _ => rfl) fl_X3_15 ⟨mem (by omega), k0⟩ dX3_init_17 ?_
  refine aw_aload_n 0 dX3_init_20 rfl rfl ?_
  refine aw_bipush (v := 10) dX3_init_21 (by decide) ?_
  refine mk_newI (n := a + 3) (ρ := sw_up (sw_up ρ a 0 (some (a + 1))) a 1 (some (a + 2))) k3 n3 (fun j => (hz _ (by omega) j).2) (by decide) ten (by decide) (Nat.le_of_ble_eq_true rfl) (Nat.le_of_ble_eq_true rfl) dX3_init_23 ?_
  refine aw_putF (a := a) (b := a + 3) (ci := 3) (k := 2) (C := RX3) (T := TX3) (N := 6) (ty := .array .int) rfl inT3 tyX3 tyX3_ok nmX3 (by decide) rfl (by decide) rfl rfl rfl rfl rfl rfl (fun _ => rfl) (fun _ => rfl) fl_X3_18 ⟨mem (by omega), k0⟩ dX3_init_25 ?_
  show AW _ _ _ _ _ _ _ _ _ _ _ _ _ _ _ (mk_G (a + 4) (sw_up (sw_up (sw_up ρ a 0 (some (a + 1))) a 1 (some (a + 2))) a 2 (some (a + 3)))) _ _ _ _ _
  obtain ⟨ρ3, e3⟩ : ∃ q : mk_RR, q = sw_up (sw_up (sw_up ρ a 0 (some (a + 1))) a 1 (some (a + 2))) a 2 (some (a + 3)) := ⟨_, rfl⟩
  rw [← e3]
  have q0 : ρ3 a 0 = some (a + 1) := by rw [e3, sw_up_slot _ _ _ _ (by decide), sw_up_slot _ _ _ _ (by decide), sw_up_same]
  have q1 : ρ3 a 1 = some (a + 2) := by rw [e3, sw_up_slot _ _ _ _ (by decide), sw_up_same]
  have q2 : ρ3 a 2 = some (a + 3) := by rw [e3, sw_up_same]
  refine aw_aload_n 0 dX3_init_28 rfl rfl ?_
  refine aw_iconst (v := 0) dX3_init_29 (by decide) ?_
  refine pf_X3_3 fl_X3_21 ⟨mem (by omega), k0⟩ dX3_init_30 ?_
  refine aw_aload_n 0 dX3_init_33 rfl rfl ?_
  refine aw_iconst (v := 0) dX3_init_34 (by decide) ?_
  refine pf_X3_4 fl_X3_25 ⟨mem (by omega), k0⟩ dX3_init_35 ?_
  refine aw_aload_n 0 dX3_init_38 rfl rfl ?_
  refine aw_iconst (v := 0) dX3_init_39 (by decide) ?_
  refine pf_X3_5 fl_X3_28 ⟨mem (by omega), k0⟩ dX3_init_40 (aw_nameI fun I1 e1 => ?_)
  refine aw_aload_n 0 dX3_init_43 rfl rfl ?_
  refine gf_X3_0 fl_X3_9 ⟨mem (by omega), k0⟩ q0 dX3_init_44 ?_
  refine aw_iconst (v := -1) dX3_init_47 (by decide) ?_
  refine aw_callS wv_J7_fill_53178 (M_J7_fill_53178 trivial (b0 := a + 1) (n0 := 10) ⟨⟨mem (by omega), k1⟩, n1⟩ (Q := fun I2 J2 => (eqx [a + 1] I1 I2 ∧ ∀ j, j < 10 → I2 (a + 1) j = -1) ∧ J2 = J) (s_J7_fill (by decide) (fun I2 x2 z2 => ⟨⟨x2, z2⟩, rfl⟩))) ml_X3_31 rfl rfl (Nat.le_of_ble_eq_true rfl) ⟨rfl, rfl⟩ ⟨Nat.le_of_ble_eq_true rfl, Nat.le_of_ble_eq_true rfl⟩ ⟨Nat.le_of_ble_eq_true rfl, Nat.le_of_ble_eq_true rfl⟩ dX3_init_48 (aw_kv fun I2 J2 h2 => ?_)
  refine aw_aload_n 0 dX3_init_51 rfl rfl ?_
  refine gf_X3_1 fl_X3_15 ⟨mem (by omega), k0⟩ q1 dX3_init_52 ?_
  refine aw_iconst (v := -1) dX3_init_55 (by decide) ?_
  refine aw_callS wv_J7_fill_53178 (M_J7_fill_53178 trivial (b0 := a + 2) (n0 := 10) ⟨⟨mem (by omega), k2⟩, n2⟩ (Q := fun I3 J3 => (eqx [a + 2] I2 I3 ∧ ∀ j, j < 10 → I3 (a + 2) j = -1) ∧ J3 = J2) (s_J7_fill (by decide) (fun I3 x3 z3 => ⟨⟨x3, z3⟩, rfl⟩))) ml_X3_31 rfl rfl (Nat.le_of_ble_eq_true rfl) ⟨rfl, rfl⟩ ⟨Nat.le_of_ble_eq_true rfl, Nat.le_of_ble_eq_true rfl⟩ ⟨Nat.le_of_ble_eq_true rfl, Nat.le_of_ble_eq_true rfl⟩ dX3_init_56 (aw_kv fun I3 J3 h3 => ?_)
  refine aw_vret rfl dX3_init_59 ⟨rfl, h3.2.trans h2.2, ρ3, rfl, ?_⟩
  have row3 : ∀ k, k ≠ a → ρ3 k = ρ k := fun k hk => by rw [e3, sw_up_row _ _ _ hk, sw_up_row _ _ _ hk, sw_up_row _ _ _ hk]
  have irow : ∀ k, k ≠ a → k ≠ a + 1 → k ≠ a + 2 → I3 k = I k := fun k c1 c2 c3 => by
    rw [h3.1.1 k (by simp [c3]), h2.1.1 k (by simp [c2]), e1, sw_up_row _ _ _ c1, sw_up_row _ _ _ c1, sw_up_row _ _ _ c1]
  have ia : ∀ j, I3 a j = 0 := fun j => by
    rw [h3.1.1 a (by simp), h2.1.1 a (by simp), e1]
    have := (hz a (Nat.le_refl _) j).2
    unfold sw_up
    split
    · rfl
    · split
      · rfl
      · split
        · rfl
        · exact this
  have ra : ∀ j, ρ3 a j = ([some (a + 1), some (a + 2), some (a + 3), none, none, none] : List (Option Nat)).getD j none := fun j => by
    by_cases c0 : j = 0
    · rw [c0]; exact q0
    by_cases c1 : j = 1
    · rw [c1]; exact q1
    by_cases c2 : j = 2
    · rw [c2]; exact q2
    rw [e3, sw_up_slot _ _ _ _ c2, sw_up_slot _ _ _ _ c1, sw_up_slot _ _ _ _ c0, (hz a (Nat.le_refl _) j).1]
    match j, c0, c1, c2 with
    | 3, _, _, _ => rfl
    | 4, _, _, _ => rfl
    | 5, _, _, _ => rfl
    | j + 6, _, _, _ => rfl
  refine ⟨fun k hk => ⟨row3 k (by omega), irow k (by omega) (by omega) (by omega)⟩, fun k c1 c2 => ?_, fun k hk j => ?_⟩
  · rcases (by omega : k = a ∨ k = a + 1 ∨ k = a + 2 ∨ k = a + 3) with c | c | c | c
    · subst c
      exact ⟨fun j => (ra j).trans (r0 j).symm, fun j _ => (ia j).trans (i0 j).1.symm⟩
    · rw [c]
      refine ⟨fun j => ?_, fun j hj => ?_⟩
      · rw [row3 _ (by omega), (r1 j).1]; exact (hz _ (by omega) j).1
      · rw [h3.1.1 (a + 1) (by simp), h2.1.2 j (by omega), (i0 j).2.1]
    · rw [c]
      refine ⟨fun j => ?_, fun j hj => ?_⟩
      · rw [row3 _ (by omega), (r1 j).2.1]; exact (hz _ (by omega) j).1
      · rw [h3.1.2 j (by omega), (i0 j).2.2.1]
    · rw [c]
      refine ⟨fun j => ?_, fun j hj => ?_⟩
      · rw [row3 _ (by omega), (r1 j).2.2]; exact (hz _ (by omega) j).1
      · rw [irow _ (by omega) (by omega) (by omega), (i0 j).2.2.2]; exact (hz _ (by omega) j).2
  · rw [row3 k (by omega), irow k (by omega) (by omega) (by omega)]; exact hz k (by omega) j
theorem M_X3_init {l : Launch} {D : va_G} {cy : Nat → ClassId} {sz a : Nat} {ρ : mk_RR} {I : sw_I} {J : sw_J} (hm : mk_mom a) (hz : mk_Z a ρ I) : Met l yX3_init (Cond.code yX3_init cX3_init 1 none :: sw_T) rm_X3_init (sw_Pc D cy sz [.ref (sz + a)] (mk_G (a + 1) ρ) I J) (sw_Q D cy sz (mk_Q a (a + 4) ρ I J)) 3 30 (fun q => sz ≤ q) :=
  sw_met (by decide) (fun _ => rfl) (Nat.le_of_ble_eq_true rfl) rfl (t_X3_init hm hz)
