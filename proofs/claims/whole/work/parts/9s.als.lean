section SAS
variable {l : Launch} {D : va_G} {cy : Nat → ClassId} {sz : Nat} {own : String} {cc : ByteArray} {nL : Nat} {ret : Option FieldType} {ini : Bool} {R : Room} {cells slots : Nat} {I : sw_I} {J : sw_J} {pc : Nat} {lv lv' : List (Nat × Value)} {st st0 : List Value} {E : State → Prop} {Z : List Frame → Array Value → State → State → Prop} {ρ : mk_RR}
theorem al_dup {G : sw_G} {va : Value} (d : decode cc pc = .ok (.dup, 1)) (ha : va.category = 1) (k : AL E Z l D cy sz own cc nL ret ini R cells slots G I J  (pc + 1) lv (va :: va :: st)) : AL E Z l D cy sz own cc nL ret ini R cells slots G I J  pc lv (va :: st) := fun p e s m args below meth c H locs ls X hR hS hl hxt => lv_dup X.1 X.2.1 d ha (k p e s m args below meth c H locs ls X hR hS hl hxt)
theorem al_astore_n {G : sw_G} {n : Fin 4} {i : Nat} {x : Nat} (d : decode cc pc = .ok (.astore_n n, 1)) (hi : (n : Nat) = i) (hn : i < nL) (hv : (i, Value.ref x) :: lv.filter (fun q => !(q.1 == i) && !(q.1 + 1 == i && q.2.category == 2)) = lv') (k : AL E Z l D cy sz own cc nL ret ini R cells slots G I J  (pc + 1) lv' (st)) : AL E Z l D cy sz own cc nL ret ini R cells slots G I J  pc lv (.ref x :: st) := fun p e s m args below meth c H locs ls X hR hS hl hxt => lv_astore_n X.1 X.2.1 d hi hl hn hv (fun ls2 hl2 => k p e s m args below meth c H locs ls2 X hR hS hl2 hxt)
theorem al_newa {atype : ArrayType} {ty : FieldType} {n t0 N' : Nat} {x : Int32} {f : vp_A} {Lc : List Nat} {W9 : (Nat → Nat) × (Nat → Nat) × (Nat → Nat → Option Nat)} (hty : newarray.typeOf atype = ty) (harr : Cond.arrayClass ty ∈ sw_T) (ht : (sw_tys cy)[t0]? = some (cy t0, ty)) (hra : ∀ (U : State) (cA : ClassId), va_RA U cA ty → U.vm.findClass ("[" ++ ty.toString) = some cA)
    (hE : sw_E cy sz (some n, Lc, W9) I J n = .inl (cy t0, f)) (ha : vp_cell (cy t0) f = arrV (cy t0) N' (fun _ => defaultValue ty)) (hn : ¬ x < 0) (hN : x.toNatClampNeg = N') (hbytes : N' * componentBytes ty ≤ 536870912) (hcells : cells + 1 ≤ R.cells) (hslots : slots + N' ≤ R.slots) (d : decode cc pc = .ok (.newarray atype, 2))
    (k : AL E Z l D cy sz own cc nL ret ini R (cells + 1) (slots + N') (some (n + 1), Lc ++ [n], W9) I J (pc + 2) lv (.ref (sz + n) :: st)) : AL E Z l D cy sz own cc nL ret ini R cells slots (some n, Lc, W9) I J pc lv (.int x :: st) := by
  intro p e s m args below meth c H locs ls X hR hS hl hxt
  obtain ⟨hx, hb9, hml, hr, hlk, hini, hown, hts, hK, hsz, hEv⟩ := id X
  have hH : H.size = sz + n := hR.1 n rfl
  subst hty
  refine va_newaK hx hb9 (hts _ harr) rfl d rfl hn hN hbytes hcells hslots hH fun H1 cA e1 z1 o1 hAr hNm => ?_
  have ec : cA = cy t0 := Option.some.inj (hNm.symm.trans (hra s _ (hK.2 t0 _ ht).2))
  subst ec
  refine k p e s m args below meth c H1 locs ls X (hR.push z1 o1 ?_) (sw_S_push hS hH z1 o1) hl hxt
  rw [hE]
  show H1[sz + n]? = some (vp_cell _ _)
  rw [ha]; exact e1
theorem al_newo {n ci idx N : Nat} {C : String} {T : u_T} {Lc : List Nat} {W9 : (Nat → Nat) × (Nat → Nat) × (Nat → Nat → Option Nat)} (hc : vwCl[ci]? = some (C, T, N)) (hin : ∀ w ∈ u_ws C T N, w ∈ sw_T) (ty : Nat → FieldType) (hty : ∀ k, k < N → parseFieldDescriptor (T k).2.2.1 = some (ty k)) (hcl : Cond.classLink own idx C ∈ sw_T) (hinst : Cond.instantiable C N ∈ sw_T) (hini0 : Cond.initialized C ∈ sw_T)
    (hK9 : W9.1 n = ci) (h50 : ci < 50) (hN : sw_nf ci = N) (hfs : ∀ j, j < N → defaultValue (ty j) = vp_V (sw_fs sz ci N n W9.2.2 I) j) (hcells : cells + 1 ≤ R.cells) (hslots : slots + N ≤ R.slots) (d : decode cc pc = .ok (.new idx, 3))
    (k : AL E Z l D cy sz own cc nL ret ini R (cells + 1) (slots + N) (some (n + 1), Lc ++ [n], W9) I J (pc + 3) lv (.ref (sz + n) :: st)) : AL E Z l D cy sz own cc nL ret ini R cells slots (some n, Lc, W9) I J pc lv st := by
  intro p e s m args below meth c H locs ls X hR hS hl hxt
  obtain ⟨hx, hb9, hml, hr, hlk, hini, hown, hts, hK, hsz, hEv⟩ := id X
  have hH : H.size = sz + n := hR.1 n rfl
  have hKn := hK.1 ci _ hc
  refine W.newcK hx hb9 hown (hts _ hcl) (hts _ hinst) (hts _ hini0) rfl d hcells hslots hKn.2.1 hH fun H1 kC hkC e1 z1 o1 => ?_
  refine k p e s m args below meth c H1 locs ls X (hR.push z1 o1 ?_) (sw_S_push hS hH z1 o1) hl hxt
  rw [sw_E_obj (G := (some n, Lc, W9)) hK9 h50, hN]
  exact ⟨_, hc, (u_born ty hts hin hKn hkC e1 hty).to hfs⟩
theorem al_callI {G : sw_G} {y : MethodName} {bytes : ByteArray} {maxL idx n mc2 ms2 b : Nat} {rm : Room} {As : List Value} {Qc : Option Value → sw_G → sw_I → sw_J → Prop} (hV : sw_C9 y bytes maxL n)
    (hM : Met l y (Cond.code y bytes maxL none :: sw_T) rm (sw_Pc D cy sz (.ref (sz + b) :: As) G I J) (sw_Q D cy sz Qc) mc2 ms2 (fun q => sz ≤ q))
    (hlink : Cond.methodLink own idx y ∈ sw_T) (hn : As.length = n) (hst : st0 = As.reverse ++ .ref (sz + b) :: st) (hcat : (st.map fun v => v.category).sum ≤ 8)
    (hrm : rm.cells = mc2 ∧ rm.slots = ms2) (hro : rm.frames + 1 ≤ R.frames ∧ 8 + (maxL + 11) + rm.locals ≤ R.locals) (hf : cells + mc2 ≤ R.cells ∧ slots + ms2 ≤ R.slots) (d : decode cc pc = .ok (.invokespecial idx, 3))
    (kk : ∀ (r : Option Value) (G' : sw_G) (I' : sw_I) (J' : sw_J), Qc r G' I' J' → AL E Z l D cy sz own cc nL ret ini R (cells + mc2) (slots + ms2) G' I' J' (pc + 3) lv (r.toList ++ st)) : AL E Z l D cy sz own cc nL ret ini R cells slots G I J pc lv st0 := by
  intro p e s m args below meth c H locs ls X hR hS hl hxt
  obtain ⟨hx, hb9, hml, hr, hlk, hini, hown, hts, hK, hsz, hEv⟩ := id X
  obtain ⟨v1, v3, v4, v5, v6⟩ := hV
  have hB := callB_of (R := R) (own := own) (index := idx) n hts (sw_goodc v4) rfl hrm.1 hrm.2 (hts _ v3) (hts _ hlink) v5 hro
  refine sw_back (va_runI (As := As) (rest := st) (b := sz + b) ⟨hx, hb9, hml, hown, hts⟩ hM ⟨hB, v6, hts _ v1⟩ ⟨sw_blind, fun U hU hW => ⟨rfl, by rw [hU]; exact Nat.le_trans hsz hS.1, by rw [hU]; exact hR, va_K.moved hW.alike hK, hEv.to hW hS hU hsz⟩⟩ rfl hn hl.1 hst (lv_room (m := m) (pc := pc) (ls := ls) (rest := st0) hcat) d hf) hS (fun r G' I' J' H1 locs1 hq h1 h2 => ?_)
  exact kk r G' I' J' hq p e s m args below meth c H1 locs1 ls X h1 h2 hl hxt
theorem mal_newL {n N' : Nat} {x : Int32} (hK : mk_K n = 51) (hN : mk_N n = N') (hz : ∀ j, J n j = 0) (hx : ¬ x < 0) (hxn : x.toNatClampNeg = N') (hb : N' * 8 ≤ 536870912) (hc : cells + 1 ≤ R.cells) (hs : slots + N' ≤ R.slots) (d : decode cc pc = .ok (.newarray .long, 2))
    (k : AL E Z l D cy sz own cc nL ret ini R (cells + 1) (slots + N') (mk_G (n + 1) ρ) I J (pc + 2) lv (.ref (sz + n) :: st)) : AL E Z l D cy sz own cc nL ret ini R cells slots (mk_G n ρ) I J pc lv (.int x :: st) :=
  al_newa (t0 := 1) (ty := .long) (f := (N', .inr (.inl (J n)))) rfl wa_long rfl (fun _ _ h => h) (by rw [sw_E_longs (G := mk_G n ρ) hK]; show Sum.inl (cy 1, mk_N n, _) = _; rw [hN]) (by rw [vp_cell_l]; congr 1; funext j; rw [hz]; rfl) hx hxn hb hc hs d (by rw [← List.range_succ]; exact k)
theorem mal_newX {n ci idx N : Nat} {C : String} {T : u_T} (hc0 : vwCl[ci]? = some (C, T, N)) (hin : ∀ w ∈ u_ws C T N, w ∈ sw_T) (ty : Nat → FieldType) (hty : ∀ k, k < N → parseFieldDescriptor (T k).2.2.1 = some (ty k)) (hcl : Cond.classLink own idx C ∈ sw_T) (hinst : Cond.instantiable C N ∈ sw_T) (hini0 : Cond.initialized C ∈ sw_T)
    (hK : mk_K n = ci) (h50 : ci < 50) (hN : sw_nf ci = N) (hdf : ∀ j, j < N → defaultValue (ty j) = (if sw_isR ci j then Value.null else .int 0)) (hz : mk_Z n ρ I) (hc : cells + 1 ≤ R.cells) (hs : slots + N ≤ R.slots) (d : decode cc pc = .ok (.new idx, 3))
    (k : AL E Z l D cy sz own cc nL ret ini R (cells + 1) (slots + N) (mk_G (n + 1) ρ) I J (pc + 3) lv (.ref (sz + n) :: st)) : AL E Z l D cy sz own cc nL ret ini R cells slots (mk_G n ρ) I J pc lv st :=
  al_newo hc0 hin ty hty hcl hinst hini0 hK h50 hN (fun j hj => by
    unfold vp_V
    rw [List.getD_eq_getElem?_getD, sw_fs_get hj, hdf j hj]
    have q := hz n (Nat.le_refl _) j
    show _ = (if sw_isR ci j then va_rf (sw_o sz (ρ n j)) else .int (I n j))
    rw [q.1, q.2]
    rfl) hc hs d (by rw [← List.range_succ]; exact k)
theorem mal_kc {a e mc2 ms2 : Nat} {I0 : sw_I} (h : ∀ (ρ2 : mk_RR) (I2 : sw_I), mkP a e ρ ρ2 I0 I2 → AL E Z l D cy sz own cc nL ret ini R (cells + mc2) (slots + ms2) (mk_G e ρ2) I2 J (pc + 3) lv st) : ∀ (r : Option Value) (G' : sw_G) (I' : sw_I) (J' : sw_J), mk_Q a e ρ I0 J r G' I' J' → AL E Z l D cy sz own cc nL ret ini R (cells + mc2) (slots + ms2) G' I' J' (pc + 3) lv (r.toList ++ st) := by
  rintro r G' I' J' ⟨rfl, rfl, ρ2, rfl, hp⟩
  exact h ρ2 I' hp
end SAS
