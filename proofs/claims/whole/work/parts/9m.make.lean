/-! making: cells with exact numbers -/
section SMK
variable {l : Launch} {D : va_G} {cy : Nat → ClassId} {sz : Nat} {own : String} {cc : ByteArray} {nL : Nat} {ret : Option FieldType} {ini : Bool} {R : Room} {mc ms cells slots : Nat} {Q : Option Value → sw_G → sw_I → sw_J → Prop} {I : sw_I} {J : sw_J} {pc : Nat} {lv lv' : List (Nat × Value)} {st st0 : List Value}
theorem sw_ws_push {n : Nat} {u : Option Nat} {g1 : Option Nat} {Lc : List Nat} {W9 : (Nat → Nat) × (Nat → Nat) × (Nat → Nat → Option Nat)} : sw_ws cy sz (u, Lc ++ [n], W9) I J = sw_ws cy sz (g1, Lc, W9) I J ++ [(sz + n, sw_E cy sz (g1, Lc, W9) I J n)] := by
  unfold sw_ws
  rw [List.map_append]
  rfl
/-- a new cell behind all others -/
theorem sw_Rel.push {n : Nat} {Lc : List Nat} {W9 : (Nat → Nat) × (Nat → Nat) × (Nat → Nat → Option Nat)} {H H1 : Heap} (hR : sw_Rel D cy sz (some n, Lc, W9) I J H) (z1 : H1.size = sz + n + 1) (o1 : ∀ q : Nat, q < sz + n → H1[q]? = H[q]?) (he : va_at D vwCl (sz + n, sw_E cy sz (some n, Lc, W9) I J n) H1) : sw_Rel D cy sz (some (n + 1), Lc ++ [n], W9) I J H1 := by
  have hH : H.size = sz + n := hR.1 n rfl
  have hk : ∀ (k : Nat) (x : Nat × va_E), (sw_ws cy sz (some n, Lc, W9) I J)[k]? = some x → H1[x.1]? = H[x.1]? := fun k x hx => o1 x.1 (hH ▸ (hR.2.1 k x hx).lt)
  refine ⟨fun m hm => ?_, ?_, ?_⟩
  · cases hm; omega
  · rw [sw_ws_push (u := some (n + 1)) (g1 := some n)]
    refine (hR.2.1.kept hk).app (fun k x hx => ?_)
    have hz : k < 1 := (List.getElem?_eq_some_iff.mp hx).1
    rw [show k = 0 by omega] at hx
    cases hx
    exact he
  · rw [sw_ws_push (u := some (n + 1)) (g1 := some n)]
    exact hR.2.2.push hR.2.1 hH.symm (Nat.le_add_right _ _)
theorem sw_S_push {H H1 H0 : Heap} {locs : List Loc} {n : Nat} (hS : va_S (fun q => sz ≤ q) H0 H locs) (hH : H.size = sz + n) (z1 : H1.size = sz + n + 1) (o1 : ∀ q : Nat, q < sz + n → H1[q]? = H[q]?) : va_S (fun q => sz ≤ q) H0 H1 locs :=
  ⟨Nat.le_trans hS.1 (by omega), fun x h1 h2 => (o1 x (by have := hS.1; omega)).trans (hS.2.1 x h1 h2), hS.2.2⟩
theorem aw_newa {atype : ArrayType} {ty : FieldType} {n t0 N' : Nat} {x : Int32} {f : vp_A} {Lc : List Nat} {W9 : (Nat → Nat) × (Nat → Nat) × (Nat → Nat → Option Nat)} (hty : newarray.typeOf atype = ty) (harr : Cond.arrayClass ty ∈ sw_T) (ht : (sw_tys cy)[t0]? = some (cy t0, ty)) (hra : ∀ (U : State) (cA : ClassId), va_RA U cA ty → U.vm.findClass ("[" ++ ty.toString) = some cA)
    (hE : sw_E cy sz (some n, Lc, W9) I J n = .inl (cy t0, f)) (ha : vp_cell (cy t0) f = arrV (cy t0) N' (fun _ => defaultValue ty)) (hn : ¬ x < 0) (hN : x.toNatClampNeg = N') (hbytes : N' * componentBytes ty ≤ 536870912) (hcells : cells + 1 ≤ R.cells) (hslots : slots + N' ≤ R.slots) (d : decode cc pc = .ok (.newarray atype, 2))
    (k : AW l D cy sz own cc nL ret ini R mc ms Q (cells + 1) (slots + N') (some (n + 1), Lc ++ [n], W9) I J (pc + 2) lv (.ref (sz + n) :: st)) : AW l D cy sz own cc nL ret ini R mc ms Q cells slots (some n, Lc, W9) I J pc lv (.int x :: st) := by
  intro p e s m args below meth c H locs ls X hR hS hl
  obtain ⟨hx, hb9, hml, hr, hlk, hini, hown, hts, hK, hsz, hEv⟩ := id X
  have hH : H.size = sz + n := hR.1 n rfl
  subst hty
  refine va_newaK hx hb9 (hts _ harr) rfl d rfl hn hN hbytes hcells hslots hH fun H1 cA e1 z1 o1 hAr hNm => ?_
  have ec : cA = cy t0 := Option.some.inj (hNm.symm.trans (hra s _ (hK.2 t0 _ ht).2))
  subst ec
  refine k p e s m args below meth c H1 locs ls X (hR.push z1 o1 ?_) (sw_S_push hS hH z1 o1) hl
  rw [hE]
  show H1[sz + n]? = some (vp_cell _ _)
  rw [ha]; exact e1
theorem aw_newo {n ci idx N : Nat} {C : String} {T : u_T} {Lc : List Nat} {W9 : (Nat → Nat) × (Nat → Nat) × (Nat → Nat → Option Nat)} (hc : vwCl[ci]? = some (C, T, N)) (hin : ∀ w ∈ u_ws C T N, w ∈ sw_T) (ty : Nat → FieldType) (hty : ∀ k, k < N → parseFieldDescriptor (T k).2.2.1 = some (ty k)) (hcl : Cond.classLink own idx C ∈ sw_T) (hinst : Cond.instantiable C N ∈ sw_T) (hini0 : Cond.initialized C ∈ sw_T)
    (hK9 : W9.1 n = ci) (h50 : ci < 50) (hN : sw_nf ci = N) (hfs : ∀ j, j < N → defaultValue (ty j) = vp_V (sw_fs sz ci N n W9.2.2 I) j) (hcells : cells + 1 ≤ R.cells) (hslots : slots + N ≤ R.slots) (d : decode cc pc = .ok (.new idx, 3))
    (k : AW l D cy sz own cc nL ret ini R mc ms Q (cells + 1) (slots + N) (some (n + 1), Lc ++ [n], W9) I J (pc + 3) lv (.ref (sz + n) :: st)) : AW l D cy sz own cc nL ret ini R mc ms Q cells slots (some n, Lc, W9) I J pc lv st := by
  intro p e s m args below meth c H locs ls X hR hS hl
  obtain ⟨hx, hb9, hml, hr, hlk, hini, hown, hts, hK, hsz, hEv⟩ := id X
  have hH : H.size = sz + n := hR.1 n rfl
  have hKn := hK.1 ci _ hc
  refine W.newcK hx hb9 hown (hts _ hcl) (hts _ hinst) (hts _ hini0) rfl d hcells hslots hKn.2.1 hH fun H1 kC hkC e1 z1 o1 => ?_
  refine k p e s m args below meth c H1 locs ls X (hR.push z1 o1 ?_) (sw_S_push hS hH z1 o1) hl
  rw [sw_E_obj (G := (some n, Lc, W9)) hK9 h50, hN]
  exact ⟨_, hc, (u_born ty hts hin hKn hkC e1 hty).to hfs⟩
end SMK
