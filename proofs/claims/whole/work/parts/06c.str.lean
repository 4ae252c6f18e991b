section SWS
variable {l : Launch} {D : va_G} {cy : Nat → ClassId} {sz : Nat} {own : String} {cc : ByteArray} {nL : Nat} {ret : Option FieldType} {ini : Bool} {R : Room} {mc ms cells slots : Nat} {Q : Option Value → sw_G → sw_I → sw_J → Prop} {G : sw_G} {I : sw_I} {J : sw_J} {pc : Nat} {lv lv' : List (Nat × Value)} {st st0 : List Value}
theorem sw_evS {s : State} (h : sw_Ev cy sz s) : vk_S sw_sk.length sw_sl sw_sb (fun i => cy (10 + i)) (fun i => cy (100 + i)) (fun q => sz ≤ q) s s.heap := by
  obtain ⟨s0, a0, h1, h2, h3, h4, h5, h6, h7⟩ := h
  exact (h6.moved h4.alike).kept (fun a ha _ => h5 a (by rw [← h3]; exact ha))
theorem sw_evR {s : State} (h : sw_Ev cy sz s) {i : Nat} (hi : i < sw_sk.length) {tx : String} (hw : Cond.stringRef "LeastWishedModel" (sw_sk.getD i 0) tx ∈ lw_tbl) : vk_R "LeastWishedModel" (sw_sk.getD i 0) tx (cy (10 + i)) s := by
  obtain ⟨s0, a0, h1, h2, h3, h4, h5, h6, h7⟩ := h
  exact (vk_R.of (h2 _ hw) (h7 i hi)).warm h4
theorem sw_evZ {s : State} (h : sw_Ev cy sz s) {C n d : String} {z : Int32} (hl : Cond.laysStatic C n d ∈ lw_tbl) (hini : Cond.initialized C ∈ lw_tbl) (hv : Cond.eq (.static C n d) (.int z) ∈ flatC (Jvm.Cond.and given_1 narrow_1)) : va_Z C n d (.int z) (fun q => sz ≤ q) s s.heap := by
  obtain ⟨s0, a0, h1, h2, h3, h4, h5, h6, h7⟩ := h
  have hs := flat_of_before _ h1
  exact ((va_Zof (h2 _ hl) (h2 _ hini) (va_eqi (hs _ hv)) (fun a ha => by rw [h3] at ha; exact Nat.not_le.mpr ha)).moved h4.alike).kept (fun a ha _ => h5 a (by rw [← h3]; exact ha))
/-- a text is loaded -/
theorem aw_ldcS {i index : Nat} {tx : String} (hown : own = "LeastWishedModel") (hi : i < sw_sk.length) (hx : sw_sk.getD i 0 = index) (hw : Cond.stringRef "LeastWishedModel" (sw_sk.getD i 0) tx ∈ lw_tbl) (d : decode cc pc = .ok (.ldc index, 2))
    (kk : AW l D cy sz own cc nL ret ini R mc ms Q cells slots G I J (pc + 2) lv (.ref (cy (10 + i)) :: st)) : AW l D cy sz own cc nL ret ini R mc ms Q cells slots G I J pc lv st := by
  intro p e s m args below meth c H locs ls X hR hS hl
  obtain ⟨hx9, hb, hml, hr, hlk, hini, hown9, hts, hK, hsz, hEv⟩ := id X
  subst hown
  subst hx
  exact va_ldcS hx9 hb hown9 (sw_evR hEv hi hw) d (kk p e s m args below meth c H locs ls X hR hS hl)
theorem aw_ldcSW {i index : Nat} {tx : String} (hown : own = "LeastWishedModel") (hi : i < sw_sk.length) (hx : sw_sk.getD i 0 = index) (hw : Cond.stringRef "LeastWishedModel" (sw_sk.getD i 0) tx ∈ lw_tbl) (d : decode cc pc = .ok (.ldc_w index, 3))
    (kk : AW l D cy sz own cc nL ret ini R mc ms Q cells slots G I J (pc + 3) lv (.ref (cy (10 + i)) :: st)) : AW l D cy sz own cc nL ret ini R mc ms Q cells slots G I J pc lv st := by
  intro p e s m args below meth c H locs ls X hR hS hl
  obtain ⟨hx9, hb, hml, hr, hlk, hini, hown9, hts, hK, hsz, hEv⟩ := id X
  subst hown
  have hZ := sw_evR hEv hi hw
  rw [hx] at hZ
  intro T hT Y
  obtain ⟨t, a1, b1⟩ := kk p e s m args below meth c H locs ls X hR hS hl T hT Y
  obtain ⟨k, cf, i9, a', hk, hcf, hcp, -, hrr, hev'⟩ := Cond.stringRef_spec hown9 hZ.1
  cases hZ.2.symm.trans hev'
  obtain ⟨k', hk', he⟩ := Y.warmed.alike.2.2 _ _ hk
  have hr' : k'.resolved[index]? = some (some (.string (cy (10 + i)))) := by
    rcases Y.warmed.entry hk hk' index with h | ⟨h, -⟩
    · rw [h]; exact hrr
    · rw [hrr] at h; cases h
  refine ⟨t, ?_, b1⟩
  jvm_step Y.here [hx9, hb, d, ldc_w.wp_string (e := e) (s := T) (f := F0 m pc ls st) Y.here.top hk' (by rw [he]; exact hcf) hcp hr']
  exact a1
/-- a field of a text -/
theorem aw_sget {i idx : Nat} {n dd : String} {v : Value} (hv : ∀ s : State, sw_Ev cy sz s → va_OF "java/lang/String" n dd v (cy (10 + i)) (fun q => sz ≤ q) s s.heap) (hlink : Cond.fieldLink own idx "java/lang/String" n dd ∈ sw_T) (d : decode cc pc = .ok (.getfield idx, 3))
    (kk : AW l D cy sz own cc nL ret ini R mc ms Q cells slots G I J (pc + 3) lv (v :: st)) : AW l D cy sz own cc nL ret ini R mc ms Q cells slots G I J pc lv (.ref (cy (10 + i)) :: st) := by
  intro p e s m args below meth c H locs ls X hR hS hl
  obtain ⟨hx9, hb, hml, hr, hlk, hini, hown9, hts, hK, hsz, hEv⟩ := id X
  exact vk_getf hx9 hb (hv s hEv) hS hown9 (hts _ hlink) (fun _ h => h) d (kk p e s m args below meth c H locs ls X hR hS hl)
theorem aw_gets {C n dd : String} {v : Value} {idx : Nat} (hv : ∀ s : State, sw_Ev cy sz s → va_Z C n dd v (fun q => sz ≤ q) s s.heap) (hlink : Cond.fieldLink own idx C n dd ∈ sw_T) (d : decode cc pc = .ok (.getstatic idx, 3))
    (kk : AW l D cy sz own cc nL ret ini R mc ms Q cells slots G I J (pc + 3) lv (v :: st)) : AW l D cy sz own cc nL ret ini R mc ms Q cells slots G I J pc lv st := by
  intro p e s m args below meth c H locs ls X hR hS hl
  obtain ⟨hx9, hb, hml, hr, hlk, hini, hown9, hts, hK, hsz, hEv⟩ := id X
  exact va_gets hx9 hb (hv s hEv) hS hown9 (hts _ hlink) (fun _ h => h) d (kk p e s m args below meth c H locs ls X hR hS hl)
theorem aw_slen {i : Nat} (hi : i < sw_sk.length) (d : decode cc pc = .ok (.arraylength, 1))
    (kk : AW l D cy sz own cc nL ret ini R mc ms Q cells slots G I J (pc + 1) lv (.int (Int32.ofNat (sw_sl.getD i 0)) :: st)) : AW l D cy sz own cc nL ret ini R mc ms Q cells slots G I J pc lv (.ref (cy (100 + i)) :: st) := by
  intro p e s m args below meth c H locs ls X hR hS hl
  obtain ⟨hx9, hb, hml, hr, hlk, hini, hown9, hts, hK, hsz, hEv⟩ := id X
  exact va_tlen hx9 hb ((sw_evS hEv).1 i hi).2.2.2 hS rfl d (kk p e s m args below meth c H locs ls X hR hS hl)
theorem aw_sbld {i : Nat} {k : Int32} (hi : i < sw_sk.length) (hk : vp_in k (sw_sl.getD i 0)) (d : decode cc pc = .ok (.baload, 1))
    (kk : AW l D cy sz own cc nL ret ini R mc ms Q cells slots G I J (pc + 1) lv (.int ((sw_sb.getD i []).getD k.toNatClampNeg 0) :: st)) : AW l D cy sz own cc nL ret ini R mc ms Q cells slots G I J pc lv (.int k :: .ref (cy (100 + i)) :: st) := by
  intro p e s m args below meth c H locs ls X hR hS hl
  obtain ⟨hx9, hb, hml, hr, hlk, hini, hown9, hts, hK, hsz, hEv⟩ := id X
  exact va_tb hx9 hb ((sw_evS hEv).1 i hi).2.2.2 hS hk rfl d (kk p e s m args below meth c H locs ls X hR hS hl)
theorem sw_srecv {s : State} {H : Heap} {locs : List Loc} {i : Nat} (hEv : sw_Ev cy sz s) (hi : i < sw_sk.length) (hS : va_S (fun q => sz ≤ q) s.heap H locs) : ∃ cell : Cell, H[cy (10 + i)]? = some cell ∧ cell.vm.isStatics = false ∧ s.vm.findClass "java/lang/String" = some cell.cls := vk_recv (adK := fun i => cy (10 + i)) (i := i) (sw_evS hEv) hi hS
/-- a call on a text -/
theorem aw_callT {y : MethodName} {bytes : ByteArray} {maxL idx n i : Nat} {ret2 : Option FieldType} {rm : Room} {As : List Value} {Qc : Option Value → sw_G → sw_I → sw_J → Prop} (hV : sw_V y bytes maxL ret2 n) (hy : y.cls = "java/lang/String")
    (hM : Met l y (Cond.code y bytes maxL ret2 :: sw_T) rm (sw_Pc D cy sz (.ref (cy (10 + i)) :: As) G I J) (sw_Q D cy sz Qc) 0 0 (fun q => sz ≤ q))
    (hlink : Cond.methodLink own idx y ∈ sw_T) (hi : i < sw_sk.length) (hn : As.length = n) (hst : st0 = As.reverse ++ .ref (cy (10 + i)) :: st) (hcat : (st.map fun v => v.category).sum ≤ 8)
    (hrm : rm.cells = 0 ∧ rm.slots = 0) (hro : rm.frames + 1 ≤ R.frames ∧ 8 + (maxL + 11) + rm.locals ≤ R.locals) (hf : cells + 0 ≤ R.cells ∧ slots + 0 ≤ R.slots) (d : decode cc pc = .ok (.invokevirtual idx, 3))
    (kk : ∀ (r : Option Value) (G' : sw_G) (I' : sw_I) (J' : sw_J), Qc r G' I' J' → AW l D cy sz own cc nL ret ini R mc ms Q (cells + 0) (slots + 0) G' I' J' (pc + 3) lv (r.toList ++ st)) : AW l D cy sz own cc nL ret ini R mc ms Q cells slots G I J pc lv st0 := by
  intro p e s m args below meth c H locs ls X hR hS hl
  obtain ⟨hx, hb9, hml, hr, hlk, hini, hown, hts, hK, hsz, hEv⟩ := id X
  obtain ⟨v1, v2, v3, v4, v5⟩ := hV
  have hB := callB_of (R := R) (own := own) (index := idx) n hts (sw_goodc v4) rfl hrm.1 hrm.2 (hts _ v3) (hts _ hlink) v5 hro
  refine sw_back (va_runV (As := As) (rest := st) (b := cy (10 + i)) (C := y.cls) ⟨hx, hb9, hml, hown, hts⟩ hM ⟨hB, hts _ v1, hts _ v2⟩ ⟨sw_blind, by rw [hy]; exact sw_srecv hEv hi hS, fun U hU hW => ⟨rfl, by rw [hU]; exact Nat.le_trans hsz hS.1, by rw [hU]; exact hR, va_K.moved hW.alike hK, hEv.to hW hS hU hsz⟩⟩ rfl hn hl.1 hst (lv_room (m := m) (pc := pc) (ls := ls) (rest := st0) hcat) d hf) hS (fun r G' I' J' H1 locs1 hq h1 h2 => ?_)
  exact kk r G' I' J' hq p e s m args below meth c H1 locs1 ls X h1 h2 hl
theorem aw_i2c {x : Int32} (d : decode cc pc = .ok (.i2c, 1)) (kk : AW l D cy sz own cc nL ret ini R mc ms Q cells slots G I J (pc + 1) lv (.int (x.toUInt32 % 65536).toInt32 :: st)) : AW l D cy sz own cc nL ret ini R mc ms Q cells slots G I J pc lv (.int x :: st) := by
  intro p e s m args below meth c H locs ls X hR hS hl
  exact lv_i2c X.1 X.2.1 d rfl (kk p e s m args below meth c H locs ls X hR hS hl)
end SWS
