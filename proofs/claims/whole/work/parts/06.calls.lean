def sw_qi (G : sw_G) (Q : Int32 → sw_I → sw_J → Prop) : Option Value → sw_G → sw_I → sw_J → Prop := fun r G' I J => G' = G ∧ ∃ x : Int32, r = some (.int x) ∧ Q x I J
def sw_ql (G : sw_G) (Q : Int64 → sw_I → sw_J → Prop) : Option Value → sw_G → sw_I → sw_J → Prop := fun r G' I J => G' = G ∧ ∃ x : Int64, r = some (.long x) ∧ Q x I J
def sw_qv (G : sw_G) (Q : sw_I → sw_J → Prop) : Option Value → sw_G → sw_I → sw_J → Prop := fun r G' I J => G' = G ∧ r = none ∧ Q I J
def sw_D (y : MethodName) (n : Nat) : Prop := y.cls ≠ "java/lang/invoke/MethodHandle" ∧ y.cls ≠ "java/lang/invoke/VarHandle" ∧ (parseMethodDescriptor y.desc).map (fun d => d.parameters.length) = some n
/-- the words of a call of an instance method, of a static one -/
def sw_V (y : MethodName) (bytes : ByteArray) (maxL : Nat) (ret : Option FieldType) (n : Nat) : Prop := Cond.instanceMethod y ∈ sw_T ∧ Cond.selects y.cls y y ∈ sw_T ∧ Cond.initialized y.cls ∈ sw_T ∧ Cond.code y bytes maxL ret ∈ sw_T ∧ sw_D y n
def sw_S (y : MethodName) (bytes : ByteArray) (maxL : Nat) (ret : Option FieldType) (n : Nat) : Prop := Cond.static y ∈ sw_T ∧ Cond.initialized y.cls ∈ sw_T ∧ Cond.code y bytes maxL ret ∈ sw_T ∧ sw_D y n
theorem sw_goodc {w : Cond} (h : w ∈ sw_T) : GoodIn sw_T (w :: sw_T) := fun v hv => (List.mem_cons.mp hv).elim (fun e => e ▸ sw_good w h) (sw_good v)
theorem sw_blind {D : va_G} {cy : Nat → ClassId} {sz : Nat} {av : List Value} {G : sw_G} {I : sw_I} {J : sw_J} : FrameBlind (sw_Pc D cy sz av G I J) := fun a U g mk h => ⟨h.1, h.2.1, h.2.2.1, va_K.moved (u := U) (U := U.calling g mk a) (Vm.Alike.refl U.vm) h.2.2.2.1, h.2.2.2.2⟩
section SWC
variable {l : Launch} {D : va_G} {cy : Nat → ClassId} {sz : Nat} {own : String} {cc : ByteArray} {nL : Nat} {ret : Option FieldType} {ini : Bool} {R : Room} {mc ms cells slots : Nat} {Q : Option Value → sw_G → sw_I → sw_J → Prop} {G : sw_G} {I : sw_I} {J : sw_J} {pc : Nat} {lv lv' : List (Nat × Value)} {st st0 : List Value}
theorem aw_iret {v : Int32} (hr : ret = some .int) (d : decode cc pc = .ok (.ireturn, 1)) (hq : Q (some (.int v)) G I J) : AW l D cy sz own cc nL ret ini R cells slots Q cells slots G I J pc lv [.int v] := by
  subst hr
  intro p e s m args below meth c H locs ls X hR hS hl
  exact W.iret X.1 X.2.1 X.2.2.2.1 (fun t ht hW => ⟨⟨_, G, I, J, rfl, hq, by rw [ht]; exact hR, va_K.moved hW.alike X.2.2.2.2.2.2.2.2.1⟩, hS.F ht⟩) hS.2.2 d X.2.2.2.2.1
theorem aw_zret {v : Int32} {ty : FieldType} (hr : ret = some ty) (hv : narrow ty (.int v) = .int v) (d : decode cc pc = .ok (.ireturn, 1)) (hq : Q (some (.int v)) G I J) : AW l D cy sz own cc nL ret ini R cells slots Q cells slots G I J pc lv [.int v] := by
  subst hr
  intro p e s m args below meth c H locs ls X hR hS hl
  exact W.zret X.1 X.2.1 X.2.2.2.1 hv (fun t ht hW => ⟨⟨_, G, I, J, rfl, hq, by rw [ht]; exact hR, va_K.moved hW.alike X.2.2.2.2.2.2.2.2.1⟩, hS.F ht⟩) hS.2.2 d X.2.2.2.2.1
theorem aw_lret {v : Int64} (hr : ret = some .long) (d : decode cc pc = .ok (.lreturn, 1)) (hq : Q (some (.long v)) G I J) : AW l D cy sz own cc nL ret ini R cells slots Q cells slots G I J pc lv [.long v] := by
  subst hr
  intro p e s m args below meth c H locs ls X hR hS hl
  exact W.lret X.1 X.2.1 X.2.2.2.1 (fun t ht hW => ⟨⟨_, G, I, J, rfl, hq, by rw [ht]; exact hR, va_K.moved hW.alike X.2.2.2.2.2.2.2.2.1⟩, hS.F ht⟩) hS.2.2 d X.2.2.2.2.1
theorem aw_vret (hr : ret = none) (d : decode cc pc = .ok (.return_, 1)) (hq : Q none G I J) : AW l D cy sz own cc nL ret ini R cells slots Q cells slots G I J pc lv [] := by
  subst hr
  intro p e s m args below meth c H locs ls X hR hS hl
  exact W.vret X.1 X.2.1 X.2.2.2.1 (fun t ht hW => ⟨⟨_, G, I, J, rfl, hq, by rw [ht]; exact hR, va_K.moved hW.alike X.2.2.2.2.2.2.2.2.1⟩, hS.F ht⟩) hS.2.2 d X.2.2.2.2.1
theorem sw_met {y : MethodName} {av : List Value} (hy : plainName y.cls = true) (hini : ini = true → y.name = "<init>") (hlen : (lg_sl av).length ≤ nL) (hlv : lv_args 0 av = lv) (h : AW l D cy sz y.cls cc nL ret ini R mc ms Q 0 0 G I J 0 lv []) :
    Met l y (Cond.code y cc nL ret :: sw_T) R (sw_Pc D cy sz av G I J) (sw_Q D cy sz Q) mc ms (fun q => sz ≤ q) := by
  refine Met.ofW (cc := cc) (maxL := nL) (ret := ret) hy rfl ?_
  intro p e s m args below meth c s₁ B hml hv
  obtain ⟨rfl, hsz, hR, hK, hEv⟩ := hv
  have hts := atoms_spec (ws := Cond.code y cc nL ret :: sw_T) B.pre
  rw [lg_entry_eq]
  exact h p e s m _ below meth c s.heap [] _ ⟨B.exec, B.bytes, hml, B.returns, B.notSynchronized, fun hi => (name_of_methodNamed B.named B.method).1.trans (hini hi), findClass_of_methodNamed B.named, fun w hw => hts w (List.mem_cons_of_mem _ hw), hK, hsz, hEv⟩ hR va_S.rf (hlv ▸ lv_entry av hlen)
theorem sw_back {p : Program} {e : Env} {s : State} {m : MethodId} {args : Array Value} {below : List Frame} {meth : Method} {c : Code} {H : Heap} {locs : List Loc} {ls : Array Slot} {rest : List Value} {a : Array Value} {mc2 ms2 : Nat} {Qc : Option Value → sw_G → sw_I → sw_J → Prop} {Q9 : State → Prop}
    (hr : va_Run p l e R s m args below meth c H locs cells slots mc2 ms2 (F0 m pc ls st0) rest (sw_Q D cy sz Qc a) (fun q => sz ≤ q)) (hS : va_S (fun q => sz ≤ q) s.heap H locs)
    (kk : ∀ (r : Option Value) (G' : sw_G) (I' : sw_I) (J' : sw_J) (H1 : Heap) (locs1 : List Loc), Qc r G' I' J' → sw_Rel D cy sz G' I' J' H1 → va_S (fun q => sz ≤ q) s.heap H1 locs1 → W p l e R s m args below meth c H1 locs1 (cells + mc2) (slots + ms2) Q9 (F0 m (pc + 3) ls (r.toList ++ rest))) : W p l e R s m args below meth c H locs cells slots Q9 (F0 m pc ls st0) := by
  intro T hT X
  obtain ⟨v, st₀, t, T', L, h0, X', hL, e1, e2, ⟨⟨r, G', I', J', hv, hq, hR, hK⟩, hz, hk⟩, st⟩ := hr T hT X
  cases hv
  rw [h0] at hz hk
  obtain ⟨t2, a1, b1⟩ := kk _ G' I' J' T'.heap (locs ++ L) hq (by rw [e1]; exact hR)
    ⟨Nat.le_trans hS.1 (by rw [e1]; exact hz), fun q h1 h2 => by rw [e1, hk q (Nat.lt_of_lt_of_le h1 hS.1) h2]; exact hS.2.1 q h1 h2, fun q hq => by
      rcases List.mem_append.mp hq with h | h
      · exact hS.2.2 q h
      · exact hL q h⟩ T' rfl X'
  exact ⟨t2, st t2 a1, b1⟩
theorem sw_recv {s : State} {H : Heap} {ci b : Nat} {q : vw_C} (hK : va_K D vwCl (sw_tys cy) s) (hR : sw_Rel D cy sz G I J H) (hc : vwCl[ci]? = some q) (h50 : ci < 50) (hb : b ∈ G.2.1 ∧ G.2.2.1 b = ci) : ∃ cell : Cell, H[sz + b]? = some cell ∧ cell.vm.isStatics = false ∧ s.vm.findClass q.1 = some cell.cls := by
  obtain ⟨q0, hq⟩ := sw_at (cy := cy) (sz := sz) (I := I) (J := J) hb.1
  rw [sw_E_obj hb.2 h50] at hq
  exact va_recv hK hR.2.1 hc hq
theorem aw_callV {y : MethodName} {bytes : ByteArray} {maxL idx n mc2 ms2 b ci : Nat} {ret2 : Option FieldType} {rm : Room} {As : List Value} {T : u_T} {N : Nat} {Qc : Option Value → sw_G → sw_I → sw_J → Prop} (hV : sw_V y bytes maxL ret2 n)
    (hM : Met l y (Cond.code y bytes maxL ret2 :: sw_T) rm (sw_Pc D cy sz (.ref (sz + b) :: As) G I J) (sw_Q D cy sz Qc) mc2 ms2 (fun q => sz ≤ q))
    (hlink : Cond.methodLink own idx y ∈ sw_T) (hc : vwCl[ci]? = some (y.cls, T, N)) (h50 : ci < 50) (hb : b ∈ G.2.1 ∧ G.2.2.1 b = ci) (hn : As.length = n) (hst : st0 = As.reverse ++ .ref (sz + b) :: st) (hcat : (st.map fun v => v.category).sum ≤ 8)
    (hrm : rm.cells = mc2 ∧ rm.slots = ms2) (hro : rm.frames + 1 ≤ R.frames ∧ 8 + (maxL + 11) + rm.locals ≤ R.locals) (hf : cells + mc2 ≤ R.cells ∧ slots + ms2 ≤ R.slots) (d : decode cc pc = .ok (.invokevirtual idx, 3))
    (kk : ∀ (r : Option Value) (G' : sw_G) (I' : sw_I) (J' : sw_J), Qc r G' I' J' → AW l D cy sz own cc nL ret ini R mc ms Q (cells + mc2) (slots + ms2) G' I' J' (pc + 3) lv (r.toList ++ st)) : AW l D cy sz own cc nL ret ini R mc ms Q cells slots G I J pc lv st0 := by
  intro p e s m args below meth c H locs ls X hR hS hl
  obtain ⟨hx, hb9, hml, hr, hlk, hini, hown, hts, hK, hsz, hEv⟩ := id X
  obtain ⟨v1, v2, v3, v4, v5⟩ := hV
  have hB := callB_of (R := R) (own := own) (index := idx) n hts (sw_goodc v4) rfl hrm.1 hrm.2 (hts _ v3) (hts _ hlink) v5 hro
  refine sw_back (va_runV (As := As) (rest := st) (b := sz + b) (C := y.cls) ⟨hx, hb9, hml, hown, hts⟩ hM ⟨hB, hts _ v1, hts _ v2⟩ ⟨sw_blind, sw_recv hK hR hc h50 hb, fun U hU hW => ⟨rfl, by rw [hU]; exact Nat.le_trans hsz hS.1, by rw [hU]; exact hR, va_K.moved hW.alike hK, hEv.to hW hS hU hsz⟩⟩ rfl hn hl.1 hst (lv_room (m := m) (pc := pc) (ls := ls) (rest := st0) hcat) d hf) hS (fun r G' I' J' H1 locs1 hq h1 h2 => ?_)
  exact kk r G' I' J' hq p e s m args below meth c H1 locs1 ls X h1 h2 hl
theorem aw_callS {y : MethodName} {bytes : ByteArray} {maxL idx n mc2 ms2 : Nat} {ret2 : Option FieldType} {rm : Room} {As : List Value} {Qc : Option Value → sw_G → sw_I → sw_J → Prop} (hV : sw_S y bytes maxL ret2 n)
    (hM : Met l y (Cond.code y bytes maxL ret2 :: sw_T) rm (sw_Pc D cy sz As G I J) (sw_Q D cy sz Qc) mc2 ms2 (fun q => sz ≤ q))
    (hlink : Cond.methodLink own idx y ∈ sw_T) (hn : As.length = n) (hst : st0 = As.reverse ++ st) (hcat : (st.map fun v => v.category).sum ≤ 8)
    (hrm : rm.cells = mc2 ∧ rm.slots = ms2) (hro : rm.frames + 1 ≤ R.frames ∧ 8 + (maxL + 11) + rm.locals ≤ R.locals) (hf : cells + mc2 ≤ R.cells ∧ slots + ms2 ≤ R.slots) (d : decode cc pc = .ok (.invokestatic idx, 3))
    (kk : ∀ (r : Option Value) (G' : sw_G) (I' : sw_I) (J' : sw_J), Qc r G' I' J' → AW l D cy sz own cc nL ret ini R mc ms Q (cells + mc2) (slots + ms2) G' I' J' (pc + 3) lv (r.toList ++ st)) : AW l D cy sz own cc nL ret ini R mc ms Q cells slots G I J pc lv st0 := by
  intro p e s m args below meth c H locs ls X hR hS hl
  obtain ⟨hx, hb9, hml, hr, hlk, hini, hown, hts, hK, hsz, hEv⟩ := id X
  obtain ⟨v1, v3, v4, v5⟩ := hV
  have hB := callB_of (R := R) (own := own) (index := idx) n hts (sw_goodc v4) rfl hrm.1 hrm.2 (hts _ v3) (hts _ hlink) v5 hro
  refine sw_back (va_runS (As := As) (rest := st) ⟨hx, hb9, hml, hown, hts⟩ hM ⟨hB, hts _ v1⟩ ⟨sw_blind, fun U hU hW => ⟨rfl, by rw [hU]; exact Nat.le_trans hsz hS.1, by rw [hU]; exact hR, va_K.moved hW.alike hK, hEv.to hW hS hU hsz⟩⟩ rfl hn hl.1 hst (lv_room (m := m) (pc := pc) (ls := ls) (rest := st0) hcat) d hf) hS (fun r G' I' J' H1 locs1 hq h1 h2 => ?_)
  exact kk r G' I' J' hq p e s m args below meth c H1 locs1 ls X h1 h2 hl
theorem aw_callSN {y : MethodName} {host : String} {bytes : ByteArray} {maxL idx n mc2 ms2 : Nat} {ret2 : Option FieldType} {rm : Room} {As : List Value} {Qc : Option Value → sw_G → sw_I → sw_J → Prop} (hV : sw_S y bytes maxL ret2 n)
    (hM : Met l y (Cond.code y bytes maxL ret2 :: sw_T) rm (sw_Pc D cy sz As G I J) (sw_Q D cy sz Qc) mc2 ms2 (fun q => sz ≤ q))
    (hlink : Cond.methodLinkNest own idx y host ∈ lw_tbl) (hn : As.length = n) (hst : st0 = As.reverse ++ st) (hcat : (st.map fun v => v.category).sum ≤ 8)
    (hrm : rm.cells = mc2 ∧ rm.slots = ms2) (hro : rm.frames + 1 ≤ R.frames ∧ 8 + (maxL + 11) + rm.locals ≤ R.locals) (hf : cells + mc2 ≤ R.cells ∧ slots + ms2 ≤ R.slots) (d : decode cc pc = .ok (.invokestatic idx, 3))
    (kk : ∀ (r : Option Value) (G' : sw_G) (I' : sw_I) (J' : sw_J), Qc r G' I' J' → AW l D cy sz own cc nL ret ini R mc ms Q (cells + mc2) (slots + ms2) G' I' J' (pc + 3) lv (r.toList ++ st)) : AW l D cy sz own cc nL ret ini R mc ms Q cells slots G I J pc lv st0 := by
  intro p e s m args below meth c H locs ls X hR hS hl
  obtain ⟨hx, hb9, hml, hr, hlk, hini, hown, hts, hK, hsz, hEv⟩ := id X
  obtain ⟨v1, v3, v4, v5⟩ := hV
  have hNw : va_Nw (.methodLinkNest own idx y host) s := by
    obtain ⟨s0, a0, h1, h2, h3, h4, h5⟩ := id hEv
    exact va_Nw.warmM h4 (va_Nw.of rfl (h2 _ hlink))
  have hB := va_cnB (R := R) (own := own) (host := host) (index := idx) n hts (sw_goodc v4) rfl hrm.1 hrm.2 hNw (hts _ v3) v5 hro
  refine sw_back (va_runSN (As := As) (rest := st) ⟨hx, hb9, hml, hown, hts⟩ hM ⟨hB, hts _ v1, trivial⟩ ⟨sw_blind, fun U hU hW => ⟨rfl, by rw [hU]; exact Nat.le_trans hsz hS.1, by rw [hU]; exact hR, va_K.moved hW.alike hK, hEv.to hW hS hU hsz⟩⟩ rfl hn hl.1 hst (lv_room (m := m) (pc := pc) (ls := ls) (rest := st0) hcat) d hf) hS (fun r G' I' J' H1 locs1 hq h1 h2 => ?_)
  exact kk r G' I' J' hq p e s m args below meth c H1 locs1 ls X h1 h2 hl
/-- what comes back from a call that makes nothing -/
theorem aw_ki {Qk : Int32 → sw_I → sw_J → Prop} (h : ∀ x I' J', Qk x I' J' → AW l D cy sz own cc nL ret ini R mc ms Q cells slots G I' J' (pc + 3) lv (.int x :: st)) : ∀ (r : Option Value) (G' : sw_G) (I' : sw_I) (J' : sw_J), sw_qi G Qk r G' I' J' → AW l D cy sz own cc nL ret ini R mc ms Q (cells + 0) (slots + 0) G' I' J' (pc + 3) lv (r.toList ++ st) := by
  rintro r G' I' J' ⟨rfl, x, rfl, hq⟩
  exact h x I' J' hq
theorem aw_kl {Qk : Int64 → sw_I → sw_J → Prop} (h : ∀ x I' J', Qk x I' J' → AW l D cy sz own cc nL ret ini R mc ms Q cells slots G I' J' (pc + 3) lv (.long x :: st)) : ∀ (r : Option Value) (G' : sw_G) (I' : sw_I) (J' : sw_J), sw_ql G Qk r G' I' J' → AW l D cy sz own cc nL ret ini R mc ms Q (cells + 0) (slots + 0) G' I' J' (pc + 3) lv (r.toList ++ st) := by
  rintro r G' I' J' ⟨rfl, x, rfl, hq⟩
  exact h x I' J' hq
theorem aw_kv {Qk : sw_I → sw_J → Prop} (h : ∀ I' J', Qk I' J' → AW l D cy sz own cc nL ret ini R mc ms Q cells slots G I' J' (pc + 3) lv st) : ∀ (r : Option Value) (G' : sw_G) (I' : sw_I) (J' : sw_J), sw_qv G Qk r G' I' J' → AW l D cy sz own cc nL ret ini R mc ms Q (cells + 0) (slots + 0) G' I' J' (pc + 3) lv (r.toList ++ st) := by
  rintro r G' I' J' ⟨rfl, rfl, hq⟩
  exact h I' J' hq
end SWC
