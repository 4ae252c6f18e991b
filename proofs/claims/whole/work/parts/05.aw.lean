/-! the world: cells 0, 1, .. (at the addresses sz, sz + 1, ..); kinds below 50: objects of a class of vwCl; 50 ints, 51 longs, 52 booleans, 53 references -/
abbrev sw_G : Type := Option Nat × List Nat × (Nat → Nat) × (Nat → Nat) × (Nat → Nat → Option Nat)
abbrev sw_I : Type := Nat → Nat → Int32
abbrev sw_J : Type := Nat → Nat → Int64
def sw_up {α : Type} (I : Nat → Nat → α) (a k : Nat) (v : α) : Nat → Nat → α := fun x y => if x = a ∧ y = k then v else I x y
def sw_if (c A B : Prop) : Prop := (c → A) ∧ (¬ c → B)
def sw_o (sz : Nat) (r : Option Nat) : Option Nat := r.map (fun k => sz + k)
def sw_fs (sz : Nat) (ci N a : Nat) (R : Nat → Nat → Option Nat) (I : sw_I) : List Value := (List.range N).map (fun j => if sw_isR ci j then va_rf (sw_o sz (R a j)) else .int (I a j))
def sw_E (cy : Nat → ClassId) (sz : Nat) (G : sw_G) (I : sw_I) (J : sw_J) (a : Nat) : va_E :=
  if G.2.2.1 a < 50 then .inr (G.2.2.1 a, sw_fs sz (G.2.2.1 a) (sw_nf (G.2.2.1 a)) a G.2.2.2.2 I)
  else if G.2.2.1 a = 51 then .inl (cy 1, G.2.2.2.1 a, .inr (.inl (J a)))
  else if G.2.2.1 a = 53 then .inl (cy 3, G.2.2.2.1 a, .inr (.inr (.inr (.inr (fun j => sw_o sz (G.2.2.2.2 a j))))))
  else if G.2.2.1 a = 52 then .inl (cy 2, G.2.2.2.1 a, .inl (I a))
  else .inl (cy 0, G.2.2.2.1 a, .inl (I a))
def sw_ws (cy : Nat → ClassId) (sz : Nat) (G : sw_G) (I : sw_I) (J : sw_J) : va_W := G.2.1.map (fun k => (sz + k, sw_E cy sz G I J k))
/-- what the law began with, as seen from a later state: its premises, the old heap, the texts' addresses (cy 10, cy 11, ..) -/
def sw_Ev (cy : Nat → ClassId) (sz : Nat) (U : State) : Prop := ∃ (s0 : State) (a0 : Array Value), (Jvm.Cond.and given_1 narrow_1).before a0 s0 = true ∧ (∀ w ∈ lw_tbl, w.before a0 s0 = true) ∧ s0.heap.size = sz ∧ s0.WarmedH U.vm ∧ (∀ q : Nat, q < sz → U.heap[q]? = s0.heap[q]?) ∧ vk_S sw_sk.length sw_sl sw_sb (fun i => cy (10 + i)) (fun i => cy (100 + i)) (fun q => sz ≤ q) s0 s0.heap ∧ ∀ i, i < sw_sk.length → (Term.string "LeastWishedModel" (sw_sk.getD i 0)).eval a0 s0 none [] s0 = some (.ref (cy (10 + i)))
theorem sw_Ev.to {cy : Nat → ClassId} {sz : Nat} {s U : State} {H : Heap} {locs : List Loc} (h : sw_Ev cy sz s) (hW : s.WarmedH U.vm) (hS : va_S (fun q => sz ≤ q) s.heap H locs) (hU : U.heap = H) (hsz : sz ≤ s.heap.size) : sw_Ev cy sz U := by
  obtain ⟨s0, a0, h1, h2, h3, h4, h5, h6⟩ := h
  exact ⟨s0, a0, h1, h2, h3, State.WarmedH.trans h4 hW, fun q hq => by rw [hU, hS.2.1 q (Nat.lt_of_lt_of_le hq hsz) (Nat.not_le.mpr hq)]; exact h5 q hq, h6⟩
abbrev sw_tys (cy : Nat → ClassId) : List (ClassId × FieldType) := [(cy 0, .int), (cy 1, .long), (cy 2, .boolean), (cy 3, .object "LeastWished$Moment")]
def sw_Rel (D : va_G) (cy : Nat → ClassId) (sz : Nat) (G : sw_G) (I : sw_I) (J : sw_J) (H : Heap) : Prop := (∀ n : Nat, G.1 = some n → H.size = sz + n) ∧ va_P D vwCl (sw_ws cy sz G I J) H ∧ va_D (fun q => sz ≤ q) (sw_ws cy sz G I J)
def sw_Q (D : va_G) (cy : Nat → ClassId) (sz : Nat) (Q : Option Value → sw_G → sw_I → sw_J → Prop) : Array Value → State → Outcome → State → Prop := fun _ st oc t =>
  (∃ (r : Option Value) (G : sw_G) (I : sw_I) (J : sw_J), oc = .returned r ∧ Q r G I J ∧ sw_Rel D cy sz G I J t.heap ∧ va_K D vwCl (sw_tys cy) t) ∧ va_F (fun q => sz ≤ q) st t
def sw_Pc (D : va_G) (cy : Nat → ClassId) (sz : Nat) (av : List Value) (G : sw_G) (I : sw_I) (J : sw_J) : Array Value → State → Prop := va_Pc av (fun U => sz ≤ U.heap.size ∧ sw_Rel D cy sz G I J U.heap ∧ va_K D vwCl (sw_tys cy) U ∧ sw_Ev cy sz U)
def sw_C (D : va_G) (cy : Nat → ClassId) (sz : Nat) (own : String) (cc : ByteArray) (nL : Nat) (ret : Option FieldType) (ini : Bool) (p : Program) (s : State) (m : MethodId) (args : Array Value) (meth : Method) (c : Code) : Prop :=
  p.tables.exec = Jvm.exec ∧ c.code = cc ∧ c.maxLocals = nL ∧ meth.sig.returnType = ret ∧ meth.locks = false ∧ (ini = true → meth.name = "<init>") ∧ s.vm.findClass own = some m.cls ∧ (∀ w ∈ sw_T, w.before args s = true) ∧ va_K D vwCl (sw_tys cy) s ∧ sz ≤ s.heap.size ∧ sw_Ev cy sz s
/-- the machine in a method, over the world: from here it comes to an end with Q -/
def AW (l : Launch) (D : va_G) (cy : Nat → ClassId) (sz : Nat) (own : String) (cc : ByteArray) (nL : Nat) (ret : Option FieldType) (ini : Bool) (R : Room) (mc ms : Nat) (Q : Option Value → sw_G → sw_I → sw_J → Prop) (cells slots : Nat) (G : sw_G) (I : sw_I) (J : sw_J) (pc : Nat) (lv : List (Nat × Value)) (st : List Value) : Prop :=
  ∀ (p : Program) (e : Env) (s : State) (m : MethodId) (args : Array Value) (below : List Frame) (meth : Method) (c : Code) (H : Heap) (locs : List Loc) (ls : Array Slot),
    sw_C D cy sz own cc nL ret ini p s m args meth c → sw_Rel D cy sz G I J H → va_S (fun q => sz ≤ q) s.heap H locs → lv_has ls nL lv →
    W p l e R s m args below meth c H locs cells slots (MQ below (sw_Q D cy sz Q) args s mc ms (fun q => sz ≤ q)) (F0 m pc ls st)
theorem sw_up_same {α : Type} (I : Nat → Nat → α) (a k : Nat) (v : α) : sw_up I a k v a k = v := by simp [sw_up]
theorem sw_up_cell {α : Type} (I : Nat → Nat → α) {a b : Nat} (k j : Nat) (v : α) (h : b ≠ a) : sw_up I a k v b j = I b j := by simp [sw_up, h]
theorem sw_up_slot {α : Type} (I : Nat → Nat → α) (a b : Nat) {k j : Nat} (v : α) (h : j ≠ k) : sw_up I a k v b j = I b j := by simp [sw_up, h]
theorem sw_up_row {α : Type} (I : Nat → Nat → α) {a b : Nat} (k : Nat) (v : α) (h : b ≠ a) : sw_up I a k v b = I b := by funext j; exact sw_up_cell I k j v h
theorem sw_if_t {c A B : Prop} (h : c) : sw_if c A B = A := propext ⟨fun x => x.1 h, fun x => ⟨fun _ => x, fun n => absurd h n⟩⟩
theorem sw_if_f {c A B : Prop} (h : ¬ c) : sw_if c A B = B := propext ⟨fun x => x.2 h, fun x => ⟨fun y => absurd y h, fun _ => x⟩⟩
section SWL
variable {D : va_G} {cy : Nat → ClassId} {sz : Nat} {G : sw_G} {I : sw_I} {J : sw_J} {H : Heap}
theorem sw_at {a : Nat} (h : a ∈ G.2.1) : ∃ q0 : Nat, (sw_ws cy sz G I J)[q0]? = some (sz + a, sw_E cy sz G I J a) := by
  apply List.getElem?_of_mem
  exact List.mem_map.mpr ⟨a, h, rfl⟩
/-- a change of one cell -/
theorem sw_set {G' : sw_G} {I' : sw_I} {J' : sw_J} {a q0 : Nat} {e : va_E} (hL : G'.2.1 = G.2.1) (hD : va_D (fun q => sz ≤ q) (sw_ws cy sz G I J)) (hq : (sw_ws cy sz G I J)[q0]? = some (sz + a, sw_E cy sz G I J a)) (ha : sw_E cy sz G' I' J' a = e) (ho : ∀ b, b ≠ a → sw_E cy sz G' I' J' b = sw_E cy sz G I J b) :
    (sw_ws cy sz G I J).set q0 (sz + a, e) = sw_ws cy sz G' I' J' := by
  have hl := (List.getElem?_eq_some_iff.mp hq).1
  apply List.ext_getElem?
  intro i
  have hb : ∀ i : Nat, (sw_ws cy sz G' I' J')[i]? = (G.2.1[i]?).map (fun k => (sz + k, sw_E cy sz G' I' J' k)) := fun i => by rw [← hL]; exact List.getElem?_map
  have hc : ∀ i : Nat, (sw_ws cy sz G I J)[i]? = (G.2.1[i]?).map (fun k => (sz + k, sw_E cy sz G I J k)) := fun i => List.getElem?_map
  by_cases hi : i = q0
  · subst hi
    rw [List.getElem?_set_self hl, hb]
    rw [hc] at hq
    cases hk : G.2.1[i]? with
    | none => rw [hk] at hq; cases hq
    | some k =>
      rw [hk] at hq
      have h1 : sz + k = sz + a := congrArg Prod.fst (Option.some.inj hq)
      have h2 : k = a := by omega
      subst h2
      rw [← ha]; rfl
  · rw [List.getElem?_set_ne (Ne.symm hi), hb, hc]
    cases hk : G.2.1[i]? with
    | none => rfl
    | some k =>
      have hne : k ≠ a := by
        intro h
        subst h
        have h1 := hD.1 i q0 _ _ (by rw [hc, hk]; rfl) hq rfl
        exact hi h1
      show some (sz + k, sw_E cy sz G I J k) = some (sz + k, sw_E cy sz G' I' J' k)
      rw [ho k hne]
theorem sw_fs_get {ci N a k : Nat} {R : Nat → Nat → Option Nat} (hk : k < N) : (sw_fs sz ci N a R I)[k]? = some (if sw_isR ci k then va_rf (sw_o sz (R a k)) else .int (I a k)) := by
  simp [sw_fs, List.getElem?_map, hk]
theorem sw_fs_len {ci N a : Nat} {R : Nat → Nat → Option Nat} : (sw_fs sz ci N a R I).length = N := by simp [sw_fs]
theorem sw_fs_setI {ci N a k : Nat} {R : Nat → Nat → Option Nat} {v : Int32} (hr : sw_isR ci k = false) : sw_fs sz ci N a R (sw_up I a k v) = (sw_fs sz ci N a R I).set k (.int v) := by
  apply List.ext_getElem?
  intro i
  by_cases hi : i < N
  · rw [sw_fs_get hi]
    by_cases h : i = k
    · subst h
      rw [List.getElem?_set_self (by rw [sw_fs_len]; exact hi), hr]
      simp [sw_up_same]
    · rw [List.getElem?_set_ne (Ne.symm h), sw_fs_get hi, sw_up_slot I a a v h]
  · rw [List.getElem?_eq_none (by rw [sw_fs_len]; omega), List.getElem?_eq_none (by rw [List.length_set, sw_fs_len]; omega)]
theorem sw_fs_setR {ci N a k : Nat} {R : Nat → Nat → Option Nat} {v : Option Nat} (hr : sw_isR ci k = true) : sw_fs sz ci N a (sw_up R a k v) I = (sw_fs sz ci N a R I).set k (va_rf (sw_o sz v)) := by
  apply List.ext_getElem?
  intro i
  by_cases hi : i < N
  · rw [sw_fs_get hi]
    by_cases h : i = k
    · subst h
      rw [List.getElem?_set_self (by rw [sw_fs_len]; exact hi), hr]
      simp [sw_up_same]
    · rw [List.getElem?_set_ne (Ne.symm h), sw_fs_get hi, sw_up_slot R a a v h]
  · rw [List.getElem?_eq_none (by rw [sw_fs_len]; omega), List.getElem?_eq_none (by rw [List.length_set, sw_fs_len]; omega)]
theorem sw_fs_cong {ci N b : Nat} {R R' : Nat → Nat → Option Nat} {I' : sw_I} (h1 : R' b = R b) (h2 : I' b = I b) : sw_fs sz ci N b R' I' = sw_fs sz ci N b R I := by
  unfold sw_fs; rw [h1, h2]
theorem sw_E_cong {G' : sw_G} {I' : sw_I} {J' : sw_J} {b : Nat} (hk : G'.2.2.1 b = G.2.2.1 b) (hn : G'.2.2.2.1 b = G.2.2.2.1 b) (hr : G'.2.2.2.2 b = G.2.2.2.2 b) (hi : I' b = I b) (hj : J' b = J b) : sw_E cy sz G' I' J' b = sw_E cy sz G I J b := by
  unfold sw_E; rw [hk, hn, hr, hi, hj, sw_fs_cong hr hi]
theorem sw_E_obj {a ci : Nat} (hk : G.2.2.1 a = ci) (hc : ci < 50) : sw_E cy sz G I J a = .inr (ci, sw_fs sz ci (sw_nf ci) a G.2.2.2.2 I) := by
  subst hk; unfold sw_E; rw [if_pos hc]
theorem sw_E_ints {a : Nat} (hk : G.2.2.1 a = 50) : sw_E cy sz G I J a = .inl (cy 0, G.2.2.2.1 a, .inl (I a)) := by
  unfold sw_E; rw [hk]; simp
theorem sw_E_longs {a : Nat} (hk : G.2.2.1 a = 51) : sw_E cy sz G I J a = .inl (cy 1, G.2.2.2.1 a, .inr (.inl (J a))) := by
  unfold sw_E; rw [hk]; simp
theorem sw_E_bools {a : Nat} (hk : G.2.2.1 a = 52) : sw_E cy sz G I J a = .inl (cy 2, G.2.2.2.1 a, .inl (I a)) := by
  unfold sw_E; rw [hk]; simp
theorem sw_E_refs {a : Nat} (hk : G.2.2.1 a = 53) : sw_E cy sz G I J a = .inl (cy 3, G.2.2.2.1 a, .inr (.inr (.inr (.inr (fun j => sw_o sz (G.2.2.2.2 a j)))))) := by
  unfold sw_E; rw [hk]; simp
end SWL
section SWM
variable {l : Launch} {D : va_G} {cy : Nat → ClassId} {sz : Nat} {own : String} {cc : ByteArray} {nL : Nat} {ret : Option FieldType} {ini : Bool} {R : Room} {mc ms cells slots : Nat} {Q : Option Value → sw_G → sw_I → sw_J → Prop} {G : sw_G} {I : sw_I} {J : sw_J} {pc : Nat} {lv lv' : List (Nat × Value)} {st : List Value}
theorem aw_iconst {n : Int} {v : Int32} (d : decode cc pc = .ok (.iconst n, 1)) (hv : Int32.ofInt n = v) (k : AW l D cy sz own cc nL ret ini R mc ms Q cells slots G I J  (pc + 1) lv (.int v :: st)) : AW l D cy sz own cc nL ret ini R mc ms Q cells slots G I J  pc lv (st) := fun p e s m args below meth c H locs ls X hR hS hl => lv_iconst X.1 X.2.1 d hv (k p e s m args below meth c H locs ls X hR hS hl)
theorem aw_bipush {n : Int} {v : Int32} (d : decode cc pc = .ok (.bipush n, 2)) (hv : (Int8.ofInt n).toInt32 = v) (k : AW l D cy sz own cc nL ret ini R mc ms Q cells slots G I J  (pc + 2) lv (.int v :: st)) : AW l D cy sz own cc nL ret ini R mc ms Q cells slots G I J  pc lv (st) := fun p e s m args below meth c H locs ls X hR hS hl => lv_bipush X.1 X.2.1 d hv (k p e s m args below meth c H locs ls X hR hS hl)
theorem aw_sipush {n : Int} {v : Int32} (d : decode cc pc = .ok (.sipush n, 3)) (hv : (Int16.ofInt n).toInt32 = v) (k : AW l D cy sz own cc nL ret ini R mc ms Q cells slots G I J  (pc + 3) lv (.int v :: st)) : AW l D cy sz own cc nL ret ini R mc ms Q cells slots G I J  pc lv (st) := fun p e s m args below meth c H locs ls X hR hS hl => lv_sipush X.1 X.2.1 d hv (k p e s m args below meth c H locs ls X hR hS hl)
theorem aw_lconst {n : Fin 2} {v : Int64} (d : decode cc pc = .ok (.lconst n, 1)) (hv : Int64.ofNat (n : Nat) = v) (k : AW l D cy sz own cc nL ret ini R mc ms Q cells slots G I J  (pc + 1) lv (.long v :: st)) : AW l D cy sz own cc nL ret ini R mc ms Q cells slots G I J  pc lv (st) := fun p e s m args below meth c H locs ls X hR hS hl => lv_lconst X.1 X.2.1 d hv (k p e s m args below meth c H locs ls X hR hS hl)
theorem aw_ldc {index : Nat} {v : Int32} (d : decode cc pc = .ok (.ldc index, 2)) (hw : Cond.constant own index v ∈ sw_T) (k : AW l D cy sz own cc nL ret ini R mc ms Q cells slots G I J  (pc + 2) lv (.int v :: st)) : AW l D cy sz own cc nL ret ini R mc ms Q cells slots G I J  pc lv (st) := fun p e s m args below meth c H locs ls X hR hS hl => lv_ldc X.1 X.2.1 X.2.2.2.2.2.2.1 (X.2.2.2.2.2.2.2.1 _ hw) d (k p e s m args below meth c H locs ls X hR hS hl)
theorem aw_ldcw {index : Nat} {v : Int32} (d : decode cc pc = .ok (.ldc_w index, 3)) (hw : Cond.constant own index v ∈ sw_T) (k : AW l D cy sz own cc nL ret ini R mc ms Q cells slots G I J  (pc + 3) lv (.int v :: st)) : AW l D cy sz own cc nL ret ini R mc ms Q cells slots G I J  pc lv (st) := fun p e s m args below meth c H locs ls X hR hS hl => lv_ldcw X.1 X.2.1 X.2.2.2.2.2.2.1 (X.2.2.2.2.2.2.2.1 _ hw) d (k p e s m args below meth c H locs ls X hR hS hl)
theorem aw_ldc2 {index : Nat} {v : Int64} (d : decode cc pc = .ok (.ldc2_w index, 3)) (hw : Cond.constantLong own index v ∈ sw_T) (k : AW l D cy sz own cc nL ret ini R mc ms Q cells slots G I J  (pc + 3) lv (.long v :: st)) : AW l D cy sz own cc nL ret ini R mc ms Q cells slots G I J  pc lv (st) := fun p e s m args below meth c H locs ls X hR hS hl => lv_ldc2 X.1 X.2.1 X.2.2.2.2.2.2.1 (X.2.2.2.2.2.2.2.1 _ hw) d (k p e s m args below meth c H locs ls X hR hS hl)
theorem aw_iload_n (place : Nat) {n : Fin 4} {i : Nat} {x : Int32} (d : decode cc pc = .ok (.iload_n n, 1)) (hi : (n : Nat) = i) (hp : lv[place]? = some (i, .int x)) (k : AW l D cy sz own cc nL ret ini R mc ms Q cells slots G I J  (pc + 1) lv (.int x :: st)) : AW l D cy sz own cc nL ret ini R mc ms Q cells slots G I J  pc lv (st) := fun p e s m args below meth c H locs ls X hR hS hl => lv_iload_n X.1 X.2.1 d hi (lv_at hl place hp) (k p e s m args below meth c H locs ls X hR hS hl)
theorem aw_iload (place : Nat) {i : Nat} {x : Int32} (d : decode cc pc = .ok (.iload i, 2)) (hp : lv[place]? = some (i, .int x)) (k : AW l D cy sz own cc nL ret ini R mc ms Q cells slots G I J  (pc + 2) lv (.int x :: st)) : AW l D cy sz own cc nL ret ini R mc ms Q cells slots G I J  pc lv (st) := fun p e s m args below meth c H locs ls X hR hS hl => lv_iload X.1 X.2.1 d (lv_at hl place hp) (k p e s m args below meth c H locs ls X hR hS hl)
theorem aw_istore_n {n : Fin 4} {i : Nat} {x : Int32} (d : decode cc pc = .ok (.istore_n n, 1)) (hi : (n : Nat) = i) (hn : i < nL) (hv : (i, Value.int x) :: lv.filter (fun q => !(q.1 == i) && !(q.1 + 1 == i && q.2.category == 2)) = lv') (k : AW l D cy sz own cc nL ret ini R mc ms Q cells slots G I J  (pc + 1) lv' (st)) : AW l D cy sz own cc nL ret ini R mc ms Q cells slots G I J  pc lv (.int x :: st) := fun p e s m args below meth c H locs ls X hR hS hl => lv_istore_n X.1 X.2.1 d hi hl hn hv (fun ls2 hl2 => k p e s m args below meth c H locs ls2 X hR hS hl2)
theorem aw_istore {i : Nat} {x : Int32} (d : decode cc pc = .ok (.istore i, 2)) (hn : i < nL) (hv : (i, Value.int x) :: lv.filter (fun q => !(q.1 == i) && !(q.1 + 1 == i && q.2.category == 2)) = lv') (k : AW l D cy sz own cc nL ret ini R mc ms Q cells slots G I J  (pc + 2) lv' (st)) : AW l D cy sz own cc nL ret ini R mc ms Q cells slots G I J  pc lv (.int x :: st) := fun p e s m args below meth c H locs ls X hR hS hl => lv_istore X.1 X.2.1 d hl hn hv (fun ls2 hl2 => k p e s m args below meth c H locs ls2 X hR hS hl2)
theorem aw_lload_n (place : Nat) {n : Fin 4} {i : Nat} {x : Int64} (d : decode cc pc = .ok (.lload_n n, 1)) (hi : (n : Nat) = i) (hp : lv[place]? = some (i, .long x)) (k : AW l D cy sz own cc nL ret ini R mc ms Q cells slots G I J  (pc + 1) lv (.long x :: st)) : AW l D cy sz own cc nL ret ini R mc ms Q cells slots G I J  pc lv (st) := fun p e s m args below meth c H locs ls X hR hS hl => lv_lload_n X.1 X.2.1 d hi (lv_at hl place hp) (k p e s m args below meth c H locs ls X hR hS hl)
theorem aw_lload (place : Nat) {i : Nat} {x : Int64} (d : decode cc pc = .ok (.lload i, 2)) (hp : lv[place]? = some (i, .long x)) (k : AW l D cy sz own cc nL ret ini R mc ms Q cells slots G I J  (pc + 2) lv (.long x :: st)) : AW l D cy sz own cc nL ret ini R mc ms Q cells slots G I J  pc lv (st) := fun p e s m args below meth c H locs ls X hR hS hl => lv_lload X.1 X.2.1 d (lv_at hl place hp) (k p e s m args below meth c H locs ls X hR hS hl)
theorem aw_lstore_n {n : Fin 4} {i : Nat} {x : Int64} (d : decode cc pc = .ok (.lstore_n n, 1)) (hi : (n : Nat) = i) (hn : i + 1 < nL) (hv : (i, Value.long x) :: lv.filter (fun q => !(q.1 == i) && (!(q.1 == i + 1) && !(q.1 + 1 == i && q.2.category == 2))) = lv') (k : AW l D cy sz own cc nL ret ini R mc ms Q cells slots G I J  (pc + 1) lv' (st)) : AW l D cy sz own cc nL ret ini R mc ms Q cells slots G I J  pc lv (.long x :: st) := fun p e s m args below meth c H locs ls X hR hS hl => lv_lstore_n X.1 X.2.1 d hi hl hn hv (fun ls2 hl2 => k p e s m args below meth c H locs ls2 X hR hS hl2)
theorem aw_lstore {i : Nat} {x : Int64} (d : decode cc pc = .ok (.lstore i, 2)) (hn : i + 1 < nL) (hv : (i, Value.long x) :: lv.filter (fun q => !(q.1 == i) && (!(q.1 == i + 1) && !(q.1 + 1 == i && q.2.category == 2))) = lv') (k : AW l D cy sz own cc nL ret ini R mc ms Q cells slots G I J  (pc + 2) lv' (st)) : AW l D cy sz own cc nL ret ini R mc ms Q cells slots G I J  pc lv (.long x :: st) := fun p e s m args below meth c H locs ls X hR hS hl => lv_lstore X.1 X.2.1 d hl hn hv (fun ls2 hl2 => k p e s m args below meth c H locs ls2 X hR hS hl2)
theorem aw_aload_n (place : Nat) {n : Fin 4} {i : Nat} {x : Nat} (d : decode cc pc = .ok (.aload_n n, 1)) (hi : (n : Nat) = i) (hp : lv[place]? = some (i, .ref x)) (k : AW l D cy sz own cc nL ret ini R mc ms Q cells slots G I J  (pc + 1) lv (.ref x :: st)) : AW l D cy sz own cc nL ret ini R mc ms Q cells slots G I J  pc lv (st) := fun p e s m args below meth c H locs ls X hR hS hl => lv_aload_n X.1 X.2.1 d hi (lv_at hl place hp) (k p e s m args below meth c H locs ls X hR hS hl)
theorem aw_aload (place : Nat) {i : Nat} {x : Nat} (d : decode cc pc = .ok (.aload i, 2)) (hp : lv[place]? = some (i, .ref x)) (k : AW l D cy sz own cc nL ret ini R mc ms Q cells slots G I J  (pc + 2) lv (.ref x :: st)) : AW l D cy sz own cc nL ret ini R mc ms Q cells slots G I J  pc lv (st) := fun p e s m args below meth c H locs ls X hR hS hl => lv_aload X.1 X.2.1 d (lv_at hl place hp) (k p e s m args below meth c H locs ls X hR hS hl)
theorem aw_astore_n {n : Fin 4} {i : Nat} {x : Nat} (d : decode cc pc = .ok (.astore_n n, 1)) (hi : (n : Nat) = i) (hn : i < nL) (hv : (i, Value.ref x) :: lv.filter (fun q => !(q.1 == i) && !(q.1 + 1 == i && q.2.category == 2)) = lv') (k : AW l D cy sz own cc nL ret ini R mc ms Q cells slots G I J  (pc + 1) lv' (st)) : AW l D cy sz own cc nL ret ini R mc ms Q cells slots G I J  pc lv (.ref x :: st) := fun p e s m args below meth c H locs ls X hR hS hl => lv_astore_n X.1 X.2.1 d hi hl hn hv (fun ls2 hl2 => k p e s m args below meth c H locs ls2 X hR hS hl2)
theorem aw_astore {i : Nat} {x : Nat} (d : decode cc pc = .ok (.astore i, 2)) (hn : i < nL) (hv : (i, Value.ref x) :: lv.filter (fun q => !(q.1 == i) && !(q.1 + 1 == i && q.2.category == 2)) = lv') (k : AW l D cy sz own cc nL ret ini R mc ms Q cells slots G I J  (pc + 2) lv' (st)) : AW l D cy sz own cc nL ret ini R mc ms Q cells slots G I J  pc lv (.ref x :: st) := fun p e s m args below meth c H locs ls X hR hS hl => lv_astore X.1 X.2.1 d hl hn hv (fun ls2 hl2 => k p e s m args below meth c H locs ls2 X hR hS hl2)
theorem aw_iinc (place : Nat) {i : Nat} {n : Int} {x v : Int32} (d : decode cc pc = .ok (.iinc i n, 3)) (hp : lv[place]? = some (i, .int x)) (hv : x + Int32.ofInt n = v) (hn : i < nL) (hw : (i, Value.int v) :: lv.filter (fun q => !(q.1 == i) && !(q.1 + 1 == i && q.2.category == 2)) = lv') (k : AW l D cy sz own cc nL ret ini R mc ms Q cells slots G I J  (pc + 3) lv' (st)) : AW l D cy sz own cc nL ret ini R mc ms Q cells slots G I J  pc lv (st) := fun p e s m args below meth c H locs ls X hR hS hl => lv_iinc X.1 X.2.1 d hl hp hv hn hw (fun ls2 hl2 => k p e s m args below meth c H locs ls2 X hR hS hl2)
theorem aw_iadd {x y : Int32} (d : decode cc pc = .ok (.iadd, 1)) (k : AW l D cy sz own cc nL ret ini R mc ms Q cells slots G I J  (pc + 1) lv (.int (x + y) :: st)) : AW l D cy sz own cc nL ret ini R mc ms Q cells slots G I J  pc lv (.int y :: .int x :: st) := fun p e s m args below meth c H locs ls X hR hS hl => lv_iadd X.1 X.2.1 d (k p e s m args below meth c H locs ls X hR hS hl)
theorem aw_isub {x y : Int32} (d : decode cc pc = .ok (.isub, 1)) (k : AW l D cy sz own cc nL ret ini R mc ms Q cells slots G I J  (pc + 1) lv (.int (x - y) :: st)) : AW l D cy sz own cc nL ret ini R mc ms Q cells slots G I J  pc lv (.int y :: .int x :: st) := fun p e s m args below meth c H locs ls X hR hS hl => lv_isub X.1 X.2.1 d (k p e s m args below meth c H locs ls X hR hS hl)
theorem aw_imul {x y : Int32} (d : decode cc pc = .ok (.imul, 1)) (k : AW l D cy sz own cc nL ret ini R mc ms Q cells slots G I J  (pc + 1) lv (.int (x * y) :: st)) : AW l D cy sz own cc nL ret ini R mc ms Q cells slots G I J  pc lv (.int y :: .int x :: st) := fun p e s m args below meth c H locs ls X hR hS hl => lv_imul X.1 X.2.1 d (k p e s m args below meth c H locs ls X hR hS hl)
theorem aw_iand {x y : Int32} (d : decode cc pc = .ok (.iand, 1)) (k : AW l D cy sz own cc nL ret ini R mc ms Q cells slots G I J  (pc + 1) lv (.int (x &&& y) :: st)) : AW l D cy sz own cc nL ret ini R mc ms Q cells slots G I J  pc lv (.int y :: .int x :: st) := fun p e s m args below meth c H locs ls X hR hS hl => lv_iand X.1 X.2.1 d (k p e s m args below meth c H locs ls X hR hS hl)
theorem aw_ior {x y : Int32} (d : decode cc pc = .ok (.ior, 1)) (k : AW l D cy sz own cc nL ret ini R mc ms Q cells slots G I J  (pc + 1) lv (.int (x ||| y) :: st)) : AW l D cy sz own cc nL ret ini R mc ms Q cells slots G I J  pc lv (.int y :: .int x :: st) := fun p e s m args below meth c H locs ls X hR hS hl => lv_ior X.1 X.2.1 d (k p e s m args below meth c H locs ls X hR hS hl)
theorem aw_ixor {x y : Int32} (d : decode cc pc = .ok (.ixor, 1)) (k : AW l D cy sz own cc nL ret ini R mc ms Q cells slots G I J  (pc + 1) lv (.int (x ^^^ y) :: st)) : AW l D cy sz own cc nL ret ini R mc ms Q cells slots G I J  pc lv (.int y :: .int x :: st) := fun p e s m args below meth c H locs ls X hR hS hl => lv_ixor X.1 X.2.1 d (k p e s m args below meth c H locs ls X hR hS hl)
theorem aw_ishl {x y : Int32} (d : decode cc pc = .ok (.ishl, 1)) (k : AW l D cy sz own cc nL ret ini R mc ms Q cells slots G I J  (pc + 1) lv (.int (x <<< (y &&& 31)) :: st)) : AW l D cy sz own cc nL ret ini R mc ms Q cells slots G I J  pc lv (.int y :: .int x :: st) := fun p e s m args below meth c H locs ls X hR hS hl => lv_ishl X.1 X.2.1 d (k p e s m args below meth c H locs ls X hR hS hl)
theorem aw_ishr {x y : Int32} (d : decode cc pc = .ok (.ishr, 1)) (k : AW l D cy sz own cc nL ret ini R mc ms Q cells slots G I J  (pc + 1) lv (.int (x >>> (y &&& 31)) :: st)) : AW l D cy sz own cc nL ret ini R mc ms Q cells slots G I J  pc lv (.int y :: .int x :: st) := fun p e s m args below meth c H locs ls X hR hS hl => lv_ishr X.1 X.2.1 d (k p e s m args below meth c H locs ls X hR hS hl)
theorem aw_ladd {x y : Int64} (d : decode cc pc = .ok (.ladd, 1)) (k : AW l D cy sz own cc nL ret ini R mc ms Q cells slots G I J  (pc + 1) lv (.long (x + y) :: st)) : AW l D cy sz own cc nL ret ini R mc ms Q cells slots G I J  pc lv (.long y :: .long x :: st) := fun p e s m args below meth c H locs ls X hR hS hl => lv_ladd X.1 X.2.1 d (k p e s m args below meth c H locs ls X hR hS hl)
theorem aw_lsub {x y : Int64} (d : decode cc pc = .ok (.lsub, 1)) (k : AW l D cy sz own cc nL ret ini R mc ms Q cells slots G I J  (pc + 1) lv (.long (x - y) :: st)) : AW l D cy sz own cc nL ret ini R mc ms Q cells slots G I J  pc lv (.long y :: .long x :: st) := fun p e s m args below meth c H locs ls X hR hS hl => lv_lsub X.1 X.2.1 d (k p e s m args below meth c H locs ls X hR hS hl)
theorem aw_lmul {x y : Int64} (d : decode cc pc = .ok (.lmul, 1)) (k : AW l D cy sz own cc nL ret ini R mc ms Q cells slots G I J  (pc + 1) lv (.long (x * y) :: st)) : AW l D cy sz own cc nL ret ini R mc ms Q cells slots G I J  pc lv (.long y :: .long x :: st) := fun p e s m args below meth c H locs ls X hR hS hl => lv_lmul X.1 X.2.1 d (k p e s m args below meth c H locs ls X hR hS hl)
theorem aw_land {x y : Int64} (d : decode cc pc = .ok (.land, 1)) (k : AW l D cy sz own cc nL ret ini R mc ms Q cells slots G I J  (pc + 1) lv (.long (x &&& y) :: st)) : AW l D cy sz own cc nL ret ini R mc ms Q cells slots G I J  pc lv (.long y :: .long x :: st) := fun p e s m args below meth c H locs ls X hR hS hl => lv_land X.1 X.2.1 d (k p e s m args below meth c H locs ls X hR hS hl)
theorem aw_lor {x y : Int64} (d : decode cc pc = .ok (.lor, 1)) (k : AW l D cy sz own cc nL ret ini R mc ms Q cells slots G I J  (pc + 1) lv (.long (x ||| y) :: st)) : AW l D cy sz own cc nL ret ini R mc ms Q cells slots G I J  pc lv (.long y :: .long x :: st) := fun p e s m args below meth c H locs ls X hR hS hl => lv_lor X.1 X.2.1 d (k p e s m args below meth c H locs ls X hR hS hl)
theorem aw_lxor {x y : Int64} (d : decode cc pc = .ok (.lxor, 1)) (k : AW l D cy sz own cc nL ret ini R mc ms Q cells slots G I J  (pc + 1) lv (.long (x ^^^ y) :: st)) : AW l D cy sz own cc nL ret ini R mc ms Q cells slots G I J  pc lv (.long y :: .long x :: st) := fun p e s m args below meth c H locs ls X hR hS hl => lv_lxor X.1 X.2.1 d (k p e s m args below meth c H locs ls X hR hS hl)
theorem aw_idiv {x y : Int32} (d : decode cc pc = .ok (.idiv, 1)) (h0 : ¬ y = 0) (k : AW l D cy sz own cc nL ret ini R mc ms Q cells slots G I J  (pc + 1) lv (.int (x / y) :: st)) : AW l D cy sz own cc nL ret ini R mc ms Q cells slots G I J  pc lv (.int y :: .int x :: st) := fun p e s m args below meth c H locs ls X hR hS hl => lv_idiv X.1 X.2.1 d h0 (k p e s m args below meth c H locs ls X hR hS hl)
theorem aw_irem {x y : Int32} (d : decode cc pc = .ok (.irem, 1)) (h0 : ¬ y = 0) (k : AW l D cy sz own cc nL ret ini R mc ms Q cells slots G I J  (pc + 1) lv (.int (x - x / y * y) :: st)) : AW l D cy sz own cc nL ret ini R mc ms Q cells slots G I J  pc lv (.int y :: .int x :: st) := fun p e s m args below meth c H locs ls X hR hS hl => lv_irem X.1 X.2.1 d h0 (k p e s m args below meth c H locs ls X hR hS hl)
theorem aw_ldiv {x y : Int64} (d : decode cc pc = .ok (.ldiv, 1)) (h0 : ¬ y = 0) (k : AW l D cy sz own cc nL ret ini R mc ms Q cells slots G I J  (pc + 1) lv (.long (x / y) :: st)) : AW l D cy sz own cc nL ret ini R mc ms Q cells slots G I J  pc lv (.long y :: .long x :: st) := fun p e s m args below meth c H locs ls X hR hS hl => lv_ldiv X.1 X.2.1 d h0 (k p e s m args below meth c H locs ls X hR hS hl)
theorem aw_lrem {x y : Int64} (d : decode cc pc = .ok (.lrem, 1)) (h0 : ¬ y = 0) (k : AW l D cy sz own cc nL ret ini R mc ms Q cells slots G I J  (pc + 1) lv (.long (x - x / y * y) :: st)) : AW l D cy sz own cc nL ret ini R mc ms Q cells slots G I J  pc lv (.long y :: .long x :: st) := fun p e s m args below meth c H locs ls X hR hS hl => lv_lrem X.1 X.2.1 d h0 (k p e s m args below meth c H locs ls X hR hS hl)
theorem aw_ineg {x : Int32} (d : decode cc pc = .ok (.ineg, 1)) (k : AW l D cy sz own cc nL ret ini R mc ms Q cells slots G I J  (pc + 1) lv (.int (-x) :: st)) : AW l D cy sz own cc nL ret ini R mc ms Q cells slots G I J  pc lv (.int x :: st) := fun p e s m args below meth c H locs ls X hR hS hl => lv_ineg X.1 X.2.1 d (k p e s m args below meth c H locs ls X hR hS hl)
theorem aw_iushr {x y : Int32} (d : decode cc pc = .ok (.iushr, 1)) (k : AW l D cy sz own cc nL ret ini R mc ms Q cells slots G I J  (pc + 1) lv (.int (x.toUInt32 >>> (y.toUInt32 &&& Int32.toUInt32 31)).toInt32 :: st)) : AW l D cy sz own cc nL ret ini R mc ms Q cells slots G I J  pc lv (.int y :: .int x :: st) := fun p e s m args below meth c H locs ls X hR hS hl => lv_iushr X.1 X.2.1 d rfl (k p e s m args below meth c H locs ls X hR hS hl)
theorem aw_lushr {x : Int64} {y : Int32} (d : decode cc pc = .ok (.lushr, 1)) (k : AW l D cy sz own cc nL ret ini R mc ms Q cells slots G I J  (pc + 1) lv (.long (x.toUInt64 >>> (y.toInt64.toUInt64 &&& Int64.toUInt64 63)).toInt64 :: st)) : AW l D cy sz own cc nL ret ini R mc ms Q cells slots G I J  pc lv (.int y :: .long x :: st) := fun p e s m args below meth c H locs ls X hR hS hl => lv_lushr X.1 X.2.1 d rfl (k p e s m args below meth c H locs ls X hR hS hl)
theorem aw_lshl {x : Int64} {y : Int32} (d : decode cc pc = .ok (.lshl, 1)) (k : AW l D cy sz own cc nL ret ini R mc ms Q cells slots G I J  (pc + 1) lv (.long (x <<< (y.toInt64 &&& 63)) :: st)) : AW l D cy sz own cc nL ret ini R mc ms Q cells slots G I J  pc lv (.int y :: .long x :: st) := fun p e s m args below meth c H locs ls X hR hS hl => lv_lshl X.1 X.2.1 d rfl (k p e s m args below meth c H locs ls X hR hS hl)
theorem aw_lshr {x : Int64} {y : Int32} (d : decode cc pc = .ok (.lshr, 1)) (k : AW l D cy sz own cc nL ret ini R mc ms Q cells slots G I J  (pc + 1) lv (.long (x >>> (y.toInt64 &&& 63)) :: st)) : AW l D cy sz own cc nL ret ini R mc ms Q cells slots G I J  pc lv (.int y :: .long x :: st) := fun p e s m args below meth c H locs ls X hR hS hl => lv_lshr X.1 X.2.1 d rfl (k p e s m args below meth c H locs ls X hR hS hl)
theorem aw_i2l {x : Int32} (d : decode cc pc = .ok (.i2l, 1)) (k : AW l D cy sz own cc nL ret ini R mc ms Q cells slots G I J  (pc + 1) lv (.long x.toInt64 :: st)) : AW l D cy sz own cc nL ret ini R mc ms Q cells slots G I J  pc lv (.int x :: st) := fun p e s m args below meth c H locs ls X hR hS hl => lv_i2l X.1 X.2.1 d rfl (k p e s m args below meth c H locs ls X hR hS hl)
theorem aw_l2i {x : Int64} (d : decode cc pc = .ok (.l2i, 1)) (k : AW l D cy sz own cc nL ret ini R mc ms Q cells slots G I J  (pc + 1) lv (.int x.toInt32 :: st)) : AW l D cy sz own cc nL ret ini R mc ms Q cells slots G I J  pc lv (.long x :: st) := fun p e s m args below meth c H locs ls X hR hS hl => lv_l2i X.1 X.2.1 d rfl (k p e s m args below meth c H locs ls X hR hS hl)
theorem aw_i2b {x : Int32} (d : decode cc pc = .ok (.i2b, 1)) (k : AW l D cy sz own cc nL ret ini R mc ms Q cells slots G I J  (pc + 1) lv (.int x.toInt8.toInt32 :: st)) : AW l D cy sz own cc nL ret ini R mc ms Q cells slots G I J  pc lv (.int x :: st) := fun p e s m args below meth c H locs ls X hR hS hl => lv_i2b X.1 X.2.1 d rfl (k p e s m args below meth c H locs ls X hR hS hl)
theorem aw_i2s {x : Int32} (d : decode cc pc = .ok (.i2s, 1)) (k : AW l D cy sz own cc nL ret ini R mc ms Q cells slots G I J  (pc + 1) lv (.int x.toInt16.toInt32 :: st)) : AW l D cy sz own cc nL ret ini R mc ms Q cells slots G I J  pc lv (.int x :: st) := fun p e s m args below meth c H locs ls X hR hS hl => lv_i2s X.1 X.2.1 d rfl (k p e s m args below meth c H locs ls X hR hS hl)
theorem aw_lcmp {x y : Int64} (d : decode cc pc = .ok (.lcmp, 1)) (k : AW l D cy sz own cc nL ret ini R mc ms Q cells slots G I J  (pc + 1) lv (.int (lg_cmp x y) :: st)) : AW l D cy sz own cc nL ret ini R mc ms Q cells slots G I J  pc lv (.long y :: .long x :: st) := fun p e s m args below meth c H locs ls X hR hS hl => W.lcmp X.1 X.2.1 d (k p e s m args below meth c H locs ls X hR hS hl)
theorem aw_dup {va : Value} (d : decode cc pc = .ok (.dup, 1)) (ha : va.category = 1) (k : AW l D cy sz own cc nL ret ini R mc ms Q cells slots G I J  (pc + 1) lv (va :: va :: st)) : AW l D cy sz own cc nL ret ini R mc ms Q cells slots G I J  pc lv (va :: st) := fun p e s m args below meth c H locs ls X hR hS hl => lv_dup X.1 X.2.1 d ha (k p e s m args below meth c H locs ls X hR hS hl)
theorem aw_pop {va : Value} (d : decode cc pc = .ok (.pop, 1)) (ha : va.category = 1) (k : AW l D cy sz own cc nL ret ini R mc ms Q cells slots G I J  (pc + 1) lv (st)) : AW l D cy sz own cc nL ret ini R mc ms Q cells slots G I J  pc lv (va :: st) := fun p e s m args below meth c H locs ls X hR hS hl => lv_pop X.1 X.2.1 d ha (k p e s m args below meth c H locs ls X hR hS hl)
theorem aw_dup_x1 {va vb : Value} (d : decode cc pc = .ok (.dup_x1, 1)) (ha : va.category = 1) (hb : vb.category = 1) (k : AW l D cy sz own cc nL ret ini R mc ms Q cells slots G I J  (pc + 1) lv (va :: vb :: va :: st)) : AW l D cy sz own cc nL ret ini R mc ms Q cells slots G I J  pc lv (va :: vb :: st) := fun p e s m args below meth c H locs ls X hR hS hl => lv_dup_x1 X.1 X.2.1 d ha hb (k p e s m args below meth c H locs ls X hR hS hl)
theorem aw_dup2 {va vb : Value} (d : decode cc pc = .ok (.dup2, 1)) (ha : va.category = 1) (hb : vb.category = 1) (k : AW l D cy sz own cc nL ret ini R mc ms Q cells slots G I J  (pc + 1) lv (va :: vb :: va :: vb :: st)) : AW l D cy sz own cc nL ret ini R mc ms Q cells slots G I J  pc lv (va :: vb :: st) := fun p e s m args below meth c H locs ls X hR hS hl => lv_dup2_11 X.1 X.2.1 d ha hb (k p e s m args below meth c H locs ls X hR hS hl)
theorem aw_dup2L {va : Value} (d : decode cc pc = .ok (.dup2, 1)) (ha : va.category = 2) (k : AW l D cy sz own cc nL ret ini R mc ms Q cells slots G I J  (pc + 1) lv (va :: va :: st)) : AW l D cy sz own cc nL ret ini R mc ms Q cells slots G I J  pc lv (va :: st) := fun p e s m args below meth c H locs ls X hR hS hl => lv_dup2_2 X.1 X.2.1 d ha (k p e s m args below meth c H locs ls X hR hS hl)
theorem aw_goto {off : Int} (tgt : Nat) (d : decode cc pc = .ok (.goto off, 3)) (ht : (pc : Int) + off = (tgt : Int)) (k : AW l D cy sz own cc nL ret ini R mc ms Q cells slots G I J  tgt lv st) : AW l D cy sz own cc nL ret ini R mc ms Q cells slots G I J  pc lv st := fun p e s m args below meth c H locs ls X hR hS hl => lv_goto X.1 X.2.1 d ht (k p e s m args below meth c H locs ls X hR hS hl)
theorem aw_if_eq {x : Int32} {off : Int} (tgt : Nat) (d : decode cc pc = .ok (.ifCond .eq off, 3)) (ht : (pc : Int) + off = (tgt : Int)) (kt : x = 0 → AW l D cy sz own cc nL ret ini R mc ms Q cells slots G I J  tgt lv st) (kf : ¬ (x = 0) → AW l D cy sz own cc nL ret ini R mc ms Q cells slots G I J  (pc + 3) lv st) : AW l D cy sz own cc nL ret ini R mc ms Q cells slots G I J  pc lv (.int x :: st) := fun p e s m args below meth c H locs ls X hR hS hl => lv_if_eq X.1 X.2.1 d ht (fun q => kt (by first | exact q | exact fun z => q z) p e s m args below meth c H locs ls X hR hS hl) (fun q => kf (by first | exact q | exact fun z => z q) p e s m args below meth c H locs ls X hR hS hl)
theorem aw_if_ne {x : Int32} {off : Int} (tgt : Nat) (d : decode cc pc = .ok (.ifCond .ne off, 3)) (ht : (pc : Int) + off = (tgt : Int)) (kt : ¬ x = 0 → AW l D cy sz own cc nL ret ini R mc ms Q cells slots G I J  tgt lv st) (kf : ¬ (¬ x = 0) → AW l D cy sz own cc nL ret ini R mc ms Q cells slots G I J  (pc + 3) lv st) : AW l D cy sz own cc nL ret ini R mc ms Q cells slots G I J  pc lv (.int x :: st) := fun p e s m args below meth c H locs ls X hR hS hl => lv_if_ne X.1 X.2.1 d ht (fun q => kt (by first | exact q | exact fun z => q z) p e s m args below meth c H locs ls X hR hS hl) (fun q => kf (by first | exact q | exact fun z => z q) p e s m args below meth c H locs ls X hR hS hl)
theorem aw_if_lt {x : Int32} {off : Int} (tgt : Nat) (d : decode cc pc = .ok (.ifCond .lt off, 3)) (ht : (pc : Int) + off = (tgt : Int)) (kt : x < 0 → AW l D cy sz own cc nL ret ini R mc ms Q cells slots G I J  tgt lv st) (kf : ¬ (x < 0) → AW l D cy sz own cc nL ret ini R mc ms Q cells slots G I J  (pc + 3) lv st) : AW l D cy sz own cc nL ret ini R mc ms Q cells slots G I J  pc lv (.int x :: st) := fun p e s m args below meth c H locs ls X hR hS hl => lv_if_lt X.1 X.2.1 d ht (fun q => kt (by first | exact q | exact fun z => q z) p e s m args below meth c H locs ls X hR hS hl) (fun q => kf (by first | exact q | exact fun z => z q) p e s m args below meth c H locs ls X hR hS hl)
theorem aw_if_ge {x : Int32} {off : Int} (tgt : Nat) (d : decode cc pc = .ok (.ifCond .ge off, 3)) (ht : (pc : Int) + off = (tgt : Int)) (kt : 0 ≤ x → AW l D cy sz own cc nL ret ini R mc ms Q cells slots G I J  tgt lv st) (kf : ¬ (0 ≤ x) → AW l D cy sz own cc nL ret ini R mc ms Q cells slots G I J  (pc + 3) lv st) : AW l D cy sz own cc nL ret ini R mc ms Q cells slots G I J  pc lv (.int x :: st) := fun p e s m args below meth c H locs ls X hR hS hl => lv_if_ge X.1 X.2.1 d ht (fun q => kt (by first | exact q | exact fun z => q z) p e s m args below meth c H locs ls X hR hS hl) (fun q => kf (by first | exact q | exact fun z => z q) p e s m args below meth c H locs ls X hR hS hl)
theorem aw_if_gt {x : Int32} {off : Int} (tgt : Nat) (d : decode cc pc = .ok (.ifCond .gt off, 3)) (ht : (pc : Int) + off = (tgt : Int)) (kt : 0 < x → AW l D cy sz own cc nL ret ini R mc ms Q cells slots G I J  tgt lv st) (kf : ¬ (0 < x) → AW l D cy sz own cc nL ret ini R mc ms Q cells slots G I J  (pc + 3) lv st) : AW l D cy sz own cc nL ret ini R mc ms Q cells slots G I J  pc lv (.int x :: st) := fun p e s m args below meth c H locs ls X hR hS hl => lv_if_gt X.1 X.2.1 d ht (fun q => kt (by first | exact q | exact fun z => q z) p e s m args below meth c H locs ls X hR hS hl) (fun q => kf (by first | exact q | exact fun z => z q) p e s m args below meth c H locs ls X hR hS hl)
theorem aw_if_le {x : Int32} {off : Int} (tgt : Nat) (d : decode cc pc = .ok (.ifCond .le off, 3)) (ht : (pc : Int) + off = (tgt : Int)) (kt : x ≤ 0 → AW l D cy sz own cc nL ret ini R mc ms Q cells slots G I J  tgt lv st) (kf : ¬ (x ≤ 0) → AW l D cy sz own cc nL ret ini R mc ms Q cells slots G I J  (pc + 3) lv st) : AW l D cy sz own cc nL ret ini R mc ms Q cells slots G I J  pc lv (.int x :: st) := fun p e s m args below meth c H locs ls X hR hS hl => lv_if_le X.1 X.2.1 d ht (fun q => kt (by first | exact q | exact fun z => q z) p e s m args below meth c H locs ls X hR hS hl) (fun q => kf (by first | exact q | exact fun z => z q) p e s m args below meth c H locs ls X hR hS hl)
theorem aw_icmp_eq {x y : Int32} {off : Int} (tgt : Nat) (d : decode cc pc = .ok (.if_icmp .eq off, 3)) (ht : (pc : Int) + off = (tgt : Int)) (kt : x = y → AW l D cy sz own cc nL ret ini R mc ms Q cells slots G I J  tgt lv st) (kf : ¬ (x = y) → AW l D cy sz own cc nL ret ini R mc ms Q cells slots G I J  (pc + 3) lv st) : AW l D cy sz own cc nL ret ini R mc ms Q cells slots G I J  pc lv (.int y :: .int x :: st) := fun p e s m args below meth c H locs ls X hR hS hl => lv_icmp_eq X.1 X.2.1 d ht (fun q => kt (by first | exact q | exact fun z => q z) p e s m args below meth c H locs ls X hR hS hl) (fun q => kf (by first | exact q | exact fun z => z q) p e s m args below meth c H locs ls X hR hS hl)
theorem aw_icmp_ne {x y : Int32} {off : Int} (tgt : Nat) (d : decode cc pc = .ok (.if_icmp .ne off, 3)) (ht : (pc : Int) + off = (tgt : Int)) (kt : ¬ x = y → AW l D cy sz own cc nL ret ini R mc ms Q cells slots G I J  tgt lv st) (kf : ¬ (¬ x = y) → AW l D cy sz own cc nL ret ini R mc ms Q cells slots G I J  (pc + 3) lv st) : AW l D cy sz own cc nL ret ini R mc ms Q cells slots G I J  pc lv (.int y :: .int x :: st) := fun p e s m args below meth c H locs ls X hR hS hl => lv_icmp_ne X.1 X.2.1 d ht (fun q => kt (by first | exact q | exact fun z => q z) p e s m args below meth c H locs ls X hR hS hl) (fun q => kf (by first | exact q | exact fun z => z q) p e s m args below meth c H locs ls X hR hS hl)
theorem aw_icmp_lt {x y : Int32} {off : Int} (tgt : Nat) (d : decode cc pc = .ok (.if_icmp .lt off, 3)) (ht : (pc : Int) + off = (tgt : Int)) (kt : x < y → AW l D cy sz own cc nL ret ini R mc ms Q cells slots G I J  tgt lv st) (kf : ¬ (x < y) → AW l D cy sz own cc nL ret ini R mc ms Q cells slots G I J  (pc + 3) lv st) : AW l D cy sz own cc nL ret ini R mc ms Q cells slots G I J  pc lv (.int y :: .int x :: st) := fun p e s m args below meth c H locs ls X hR hS hl => lv_icmp_lt X.1 X.2.1 d ht (fun q => kt (by first | exact q | exact fun z => q z) p e s m args below meth c H locs ls X hR hS hl) (fun q => kf (by first | exact q | exact fun z => z q) p e s m args below meth c H locs ls X hR hS hl)
theorem aw_icmp_ge {x y : Int32} {off : Int} (tgt : Nat) (d : decode cc pc = .ok (.if_icmp .ge off, 3)) (ht : (pc : Int) + off = (tgt : Int)) (kt : y ≤ x → AW l D cy sz own cc nL ret ini R mc ms Q cells slots G I J  tgt lv st) (kf : ¬ (y ≤ x) → AW l D cy sz own cc nL ret ini R mc ms Q cells slots G I J  (pc + 3) lv st) : AW l D cy sz own cc nL ret ini R mc ms Q cells slots G I J  pc lv (.int y :: .int x :: st) := fun p e s m args below meth c H locs ls X hR hS hl => lv_icmp_ge X.1 X.2.1 d ht (fun q => kt (by first | exact q | exact fun z => q z) p e s m args below meth c H locs ls X hR hS hl) (fun q => kf (by first | exact q | exact fun z => z q) p e s m args below meth c H locs ls X hR hS hl)
theorem aw_icmp_gt {x y : Int32} {off : Int} (tgt : Nat) (d : decode cc pc = .ok (.if_icmp .gt off, 3)) (ht : (pc : Int) + off = (tgt : Int)) (kt : y < x → AW l D cy sz own cc nL ret ini R mc ms Q cells slots G I J  tgt lv st) (kf : ¬ (y < x) → AW l D cy sz own cc nL ret ini R mc ms Q cells slots G I J  (pc + 3) lv st) : AW l D cy sz own cc nL ret ini R mc ms Q cells slots G I J  pc lv (.int y :: .int x :: st) := fun p e s m args below meth c H locs ls X hR hS hl => lv_icmp_gt X.1 X.2.1 d ht (fun q => kt (by first | exact q | exact fun z => q z) p e s m args below meth c H locs ls X hR hS hl) (fun q => kf (by first | exact q | exact fun z => z q) p e s m args below meth c H locs ls X hR hS hl)
theorem aw_icmp_le {x y : Int32} {off : Int} (tgt : Nat) (d : decode cc pc = .ok (.if_icmp .le off, 3)) (ht : (pc : Int) + off = (tgt : Int)) (kt : x ≤ y → AW l D cy sz own cc nL ret ini R mc ms Q cells slots G I J  tgt lv st) (kf : ¬ (x ≤ y) → AW l D cy sz own cc nL ret ini R mc ms Q cells slots G I J  (pc + 3) lv st) : AW l D cy sz own cc nL ret ini R mc ms Q cells slots G I J  pc lv (.int y :: .int x :: st) := fun p e s m args below meth c H locs ls X hR hS hl => lv_icmp_le X.1 X.2.1 d ht (fun q => kt (by first | exact q | exact fun z => q z) p e s m args below meth c H locs ls X hR hS hl) (fun q => kf (by first | exact q | exact fun z => z q) p e s m args below meth c H locs ls X hR hS hl)
theorem aw_tableOut {dflt lo hi : Int} {offs : Array Int} {len : Nat} {x : Int32} (tgt : Nat) (d : decode cc pc = .ok (.tableswitch dflt lo hi offs, len)) (h : x.toInt < lo ∨ hi < x.toInt) (ht : (pc : Int) + dflt = (tgt : Int)) (k : AW l D cy sz own cc nL ret ini R mc ms Q cells slots G I J  tgt lv st) : AW l D cy sz own cc nL ret ini R mc ms Q cells slots G I J  pc lv (.int x :: st) := fun p e s m args below meth c H locs ls X hR hS hl => lv_tableOut X.1 X.2.1 d h ht (k p e s m args below meth c H locs ls X hR hS hl)
theorem aw_tableIn {dflt lo hi off : Int} {offs : Array Int} {len : Nat} {x : Int32} (tgt : Nat) (d : decode cc pc = .ok (.tableswitch dflt lo hi offs, len)) (h1 : ¬ x.toInt < lo) (h2 : ¬ hi < x.toInt) (ho : offs[(x.toInt - lo).toNat]? = some off) (ht : (pc : Int) + off = (tgt : Int)) (k : AW l D cy sz own cc nL ret ini R mc ms Q cells slots G I J  tgt lv st) : AW l D cy sz own cc nL ret ini R mc ms Q cells slots G I J  pc lv (.int x :: st) := fun p e s m args below meth c H locs ls X hR hS hl => lv_tableIn X.1 X.2.1 d h1 h2 ho ht (k p e s m args below meth c H locs ls X hR hS hl)
theorem aw_lookup {dflt off : Int} {ps : Array (Int × Int)} {len : Nat} {x : Int32} (tgt : Nat) (d : decode cc pc = .ok (.lookupswitch dflt ps, len)) (hp : (ps.toList.zip (ps.toList.drop 1)).all (fun (a, next) => a.1 < next.1) = true) (ho : Op.lookupswitch.offset ps.toList dflt x.toInt = off) (ht : (pc : Int) + off = (tgt : Int)) (k : AW l D cy sz own cc nL ret ini R mc ms Q cells slots G I J  tgt lv st) : AW l D cy sz own cc nL ret ini R mc ms Q cells slots G I J  pc lv (.int x :: st) := fun p e s m args below meth c H locs ls X hR hS hl => lv_lookup X.1 X.2.1 d hp ho ht (k p e s m args below meth c H locs ls X hR hS hl)
theorem aw_sub (ks : List Nat) (h : lv_pick lv ks = lv') (k : AW l D cy sz own cc nL ret ini R mc ms Q cells slots G I J  pc lv' st) : AW l D cy sz own cc nL ret ini R mc ms Q cells slots G I J  pc lv st := fun p e s m args below meth c H locs ls X hR hS hl => k p e s m args below meth c H locs ls X hR hS (lv_sub hl ks h)
theorem aw_widen (c2 s2 : Nat) (h1 : cells ≤ c2) (h2 : slots ≤ s2) (k : AW l D cy sz own cc nL ret ini R mc ms Q c2 s2 G I J pc lv st) : AW l D cy sz own cc nL ret ini R mc ms Q cells slots G I J  pc lv st := fun p e s m args below meth c H locs ls X hR hS hl => W.widen h1 h2 (k p e s m args below meth c H locs ls X hR hS hl)
theorem aw_get {a ci k idx N : Nat} {C : String} {T : u_T} {v : Value} (hc : vwCl[ci]? = some (C, T, N)) (hin : ∀ w ∈ u_ws C T N, w ∈ sw_T) (hk : k < N) (hN : sw_nf ci = N) (h50 : ci < 50) (hC : (T k).1 = C) (hv : (if sw_isR ci k then va_rf (sw_o sz (G.2.2.2.2 a k)) else .int (I a k)) = v)
    (hlink : Cond.fieldLink own idx C (T k).2.1 (T k).2.2.1 ∈ sw_T) (ha : a ∈ G.2.1 ∧ G.2.2.1 a = ci) (d : decode cc pc = .ok (.getfield idx, 3)) (kk : AW l D cy sz own cc nL ret ini R mc ms Q cells slots G I J  (pc + 3) lv (v :: st)) : AW l D cy sz own cc nL ret ini R mc ms Q cells slots G I J  pc lv (.ref (sz + a) :: st) := by
  intro p e s m args below meth c H locs ls X hR hS hl
  obtain ⟨q0, hq⟩ := sw_at (cy := cy) (sz := sz) (I := I) (J := J) ha.1
  rw [sw_E_obj ha.2 h50] at hq
  exact va_get X.1 X.2.1 X.2.2.2.2.2.2.2.1 hin X.2.2.2.2.2.2.1 X.2.2.2.2.2.2.2.2.1 hR.2.1 q0 hq hc k hk (X.2.2.2.2.2.2.2.1 _ hlink) (fun _ h => by rw [hC] at h; exact h) (by rw [sw_fs_get (by rw [hN]; exact hk)]; exact congrArg some hv) d (kk p e s m args below meth c H locs ls X hR hS hl)
theorem sw_Rel.of_set {G' : sw_G} {I' : sw_I} {J' : sw_J} {H H1 : Heap} {q0 a : Nat} {e : va_E} (hR : sw_Rel D cy sz G I J H) (hq : (sw_ws cy sz G I J)[q0]? = some (sz + a, sw_E cy sz G I J a)) (hn : G'.1 = G.1) (hL : G'.2.1 = G.2.1) (z : H1.size = H.size) (oq : ∀ q : Nat, q ≠ sz + a → H1[q]? = H[q]?)
    (ha : sw_E cy sz G' I' J' a = e) (ho : ∀ b, b ≠ a → sw_E cy sz G' I' J' b = sw_E cy sz G I J b) (he : va_at D vwCl (sz + a, e) H1) : sw_Rel D cy sz G' I' J' H1 := by
  have h1 := hR.2.1.set hR.2.2 hq he oq
  have h2 := hR.2.2.set (e := e) hq
  rw [sw_set hL hR.2.2 hq ha ho] at h1 h2
  exact ⟨fun n h9 => by rw [z]; exact hR.1 n (hn.symm.trans h9), h1, h2⟩
theorem sw_updV_fs {fs : List Value} {k : Nat} {v : Value} (h : k < fs.length) : ∀ j, updV (vp_V fs) k v j = vp_V (fs.set k v) j := fun j => vp_updV_set h v j
/-- a field of an object is written; the field isn't final -/
theorem aw_put0 {G2 : sw_G} {I2 : sw_I} {a ci k idx N : Nat} {C : String} {T : u_T} {v : Value} {ty : FieldType} (hc : vwCl[ci]? = some (C, T, N)) (hin : ∀ w ∈ u_ws C T N, w ∈ sw_T) (ty0 : Nat → FieldType) (hty : ∀ k, k < N → parseFieldDescriptor (T k).2.2.1 = some (ty0 k)) (hnm : ∀ a, a < N → ∀ b, b < N → a ≠ b → (T a).2.1 ≠ (T b).2.1)
    (hk : k < N) (hN : sw_nf ci = N) (h50 : ci < 50) (hC : (T k).1 = C) (hfin : (T k).2.2.2 = false) (hd : parseFieldDescriptor (T k).2.2.1 = some ty) (hn : narrow ty v = v) (hfit : fits ty v = true)
    (hlink : Cond.fieldLink own idx C (T k).2.1 (T k).2.2.1 ∈ sw_T) (ha : a ∈ G.2.1 ∧ G.2.2.1 a = ci) (d : decode cc pc = .ok (.putfield idx, 3))
    (hg1 : G2.1 = G.1) (hg2 : G2.2.1 = G.2.1) (hg3 : G2.2.2.1 = G.2.2.1) (hg4 : G2.2.2.2.1 = G.2.2.2.1) (hgr : ∀ b, b ≠ a → G2.2.2.2.2 b = G.2.2.2.2 b) (hgi : ∀ b, b ≠ a → I2 b = I b) (hf : sw_fs sz ci N a G2.2.2.2.2 I2 = (sw_fs sz ci N a G.2.2.2.2 I).set k v)
    (kk : AW l D cy sz own cc nL ret ini R mc ms Q cells slots G2 I2 J (pc + 3) lv st) : AW l D cy sz own cc nL ret ini R mc ms Q cells slots G I J pc lv (v :: .ref (sz + a) :: st) := by
  intro p e s m args below meth c H locs ls X hR hS hl
  obtain ⟨hx, hb, hml, hr, hlk, hini, hown, hts, hK, hsz, hEv⟩ := id X
  obtain ⟨q0, hq⟩ := sw_at (cy := cy) (sz := sz) (I := I) (J := J) ha.1
  have hP := hR.2.1 q0 _ hq
  rw [sw_E_obj ha.2 h50] at hP
  obtain ⟨r, h1, cell, q1, q2, q3, q4⟩ := hP
  have hr9 : r = (C, T, N) := Option.some.inj (h1.symm.trans hc)
  subst hr9
  have hap := va_apart (own := own) hts hin ty0 hty hnm hK hc
  obtain ⟨hSl, hfc, kC, hkC, hkind⟩ := hK.1 ci _ hc
  obtain ⟨cf, kf, fi, f, hi, hsl⟩ := hSl k hk
  have hlay := hts _ (hin _ (u_in_lay hk))
  unfold u_lay at hlay
  rw [if_neg (by rw [hfin]; decide)] at hlay
  have hst := (u_facts hfc hkC (u_lays hts hin hk) hi).1
  have h6 := u_store hfc hkC hkind hlay hi hd hn hfit
  refine W.putK hx hb (f := f) ⟨hown, hts _ hlink, ⟨_, _, _, by rw [hC] at hi; exact hi⟩, hst⟩ (by rw [q2]; exact h6) q1 q3 (by rw [hsl]; exact k2_hasslot (q4 k hk)) rfl rfl d fun H' e1 e2 e3 => ?_
  rw [hsl] at e1 ⊢
  refine kk p e s m args below meth c H' _ ls X (hR.of_set (e := .inr (ci, (sw_fs sz ci N a G.2.2.2.2 I).set k v)) hq hg1 hg2 e2 e3 ?_ (fun b hb9 => sw_E_cong (by rw [hg3]) (by rw [hg4]) (hgr b hb9) (hgi b hb9) rfl) ?_) (hS.put e2 e3 (Nat.le_add_right _ _)) hl
  · rw [sw_E_obj (by rw [hg3]; exact ha.2) h50, hN, hf]
  · rw [hN] at q4
    exact ⟨_, hc, t_OB.to (V := updV (vp_V (sw_fs sz ci N a G.2.2.2.2 I)) k v) ⟨_, e1, q2, q3, t_set q4 hap hk v⟩ (fun j _ => vp_updV_set (by rw [sw_fs_len]; exact hk) v j)⟩
theorem aw_putI {a ci k idx N : Nat} {C : String} {T : u_T} {v : Int32} {ty : FieldType} (hc : vwCl[ci]? = some (C, T, N)) (hin : ∀ w ∈ u_ws C T N, w ∈ sw_T) (ty0 : Nat → FieldType) (hty : ∀ k, k < N → parseFieldDescriptor (T k).2.2.1 = some (ty0 k)) (hnm : ∀ a, a < N → ∀ b, b < N → a ≠ b → (T a).2.1 ≠ (T b).2.1)
    (hk : k < N) (hN : sw_nf ci = N) (h50 : ci < 50) (hC : (T k).1 = C) (hfin : (T k).2.2.2 = false) (hd : parseFieldDescriptor (T k).2.2.1 = some ty) (hr : sw_isR ci k = false) (hn : narrow ty (.int v) = .int v) (hfit : fits ty (.int v) = true)
    (hlink : Cond.fieldLink own idx C (T k).2.1 (T k).2.2.1 ∈ sw_T) (ha : a ∈ G.2.1 ∧ G.2.2.1 a = ci) (d : decode cc pc = .ok (.putfield idx, 3))
    (kk : AW l D cy sz own cc nL ret ini R mc ms Q cells slots G (sw_up I a k v) J (pc + 3) lv st) : AW l D cy sz own cc nL ret ini R mc ms Q cells slots G I J pc lv (.int v :: .ref (sz + a) :: st) :=
  aw_put0 hc hin ty0 hty hnm hk hN h50 hC hfin hd hn hfit hlink ha d rfl rfl rfl rfl (fun _ _ => rfl) (fun b hb => sw_up_row I k v hb) (sw_fs_setI hr) kk
theorem aw_ild {a n : Nat} {i : Int32} (d : decode cc pc = .ok (.iaload, 1)) (ha : a ∈ G.2.1 ∧ G.2.2.1 a = 50) (hn : G.2.2.2.1 a = n) (hi : vp_in i n)
    (kk : AW l D cy sz own cc nL ret ini R mc ms Q cells slots G I J (pc + 1) lv (.int (I a i.toNatClampNeg) :: st)) : AW l D cy sz own cc nL ret ini R mc ms Q cells slots G I J pc lv (.int i :: .ref (sz + a) :: st) := by
  intro p e s m args below meth c H locs ls X hR hS hl
  obtain ⟨q0, hq⟩ := sw_at (cy := cy) (sz := sz) (I := I) (J := J) ha.1
  rw [sw_E_ints ha.2, hn] at hq
  exact va_iald X.1 X.2.1 X.2.2.2.2.2.2.2.2.1 hR.2.1 q0 0 hq rfl hi d (kk p e s m args below meth c H locs ls X hR hS hl)
theorem aw_zld {a n : Nat} {i : Int32} (d : decode cc pc = .ok (.baload, 1)) (ha : a ∈ G.2.1 ∧ G.2.2.1 a = 52) (hn : G.2.2.2.1 a = n) (hi : vp_in i n)
    (kk : AW l D cy sz own cc nL ret ini R mc ms Q cells slots G I J (pc + 1) lv (.int (I a i.toNatClampNeg) :: st)) : AW l D cy sz own cc nL ret ini R mc ms Q cells slots G I J pc lv (.int i :: .ref (sz + a) :: st) := by
  intro p e s m args below meth c H locs ls X hR hS hl
  obtain ⟨q0, hq⟩ := sw_at (cy := cy) (sz := sz) (I := I) (J := J) ha.1
  rw [sw_E_bools ha.2, hn] at hq
  exact va_zald X.1 X.2.1 X.2.2.2.2.2.2.2.2.1 hR.2.1 q0 2 hq rfl hi d (kk p e s m args below meth c H locs ls X hR hS hl)
theorem aw_lld {a n : Nat} {i : Int32} (d : decode cc pc = .ok (.laload, 1)) (ha : a ∈ G.2.1 ∧ G.2.2.1 a = 51) (hn : G.2.2.2.1 a = n) (hi : vp_in i n)
    (kk : AW l D cy sz own cc nL ret ini R mc ms Q cells slots G I J (pc + 1) lv (.long (J a i.toNatClampNeg) :: st)) : AW l D cy sz own cc nL ret ini R mc ms Q cells slots G I J pc lv (.int i :: .ref (sz + a) :: st) := by
  intro p e s m args below meth c H locs ls X hR hS hl
  obtain ⟨q0, hq⟩ := sw_at (cy := cy) (sz := sz) (I := I) (J := J) ha.1
  rw [sw_E_longs ha.2, hn] at hq
  exact va_lald X.1 X.2.1 X.2.2.2.2.2.2.2.2.1 hR.2.1 q0 1 hq rfl hi d (kk p e s m args below meth c H locs ls X hR hS hl)
theorem aw_ald {a n b : Nat} {i : Int32} (d : decode cc pc = .ok (.aaload, 1)) (ha : a ∈ G.2.1 ∧ G.2.2.1 a = 53) (hn : G.2.2.2.1 a = n) (hi : vp_in i n) (hb : G.2.2.2.2 a i.toNatClampNeg = some b)
    (kk : AW l D cy sz own cc nL ret ini R mc ms Q cells slots G I J (pc + 1) lv (.ref (sz + b) :: st)) : AW l D cy sz own cc nL ret ini R mc ms Q cells slots G I J pc lv (.int i :: .ref (sz + a) :: st) := by
  intro p e s m args below meth c H locs ls X hR hS hl
  obtain ⟨q0, hq⟩ := sw_at (cy := cy) (sz := sz) (I := I) (J := J) ha.1
  rw [sw_E_refs ha.2, hn] at hq
  refine va_aldq X.1 X.2.1 X.2.2.2.2.2.2.2.2.1 hR.2.1 q0 3 hq rfl hi d ?_
  have h9 : va_rf (sw_o sz (G.2.2.2.2 a i.toNatClampNeg)) = .ref (sz + b) := by rw [hb]; rfl
  rw [h9]
  exact kk p e s m args below meth c H locs ls X hR hS hl
theorem aw_alen {a n : Nat} (d : decode cc pc = .ok (.arraylength, 1)) (ha : a ∈ G.2.1 ∧ G.2.2.1 a = 50) (hn : G.2.2.2.1 a = n)
    (kk : AW l D cy sz own cc nL ret ini R mc ms Q cells slots G I J (pc + 1) lv (.int (Int32.ofNat n) :: st)) : AW l D cy sz own cc nL ret ini R mc ms Q cells slots G I J pc lv (.ref (sz + a) :: st) := by
  intro p e s m args below meth c H locs ls X hR hS hl
  obtain ⟨q0, hq⟩ := sw_at (cy := cy) (sz := sz) (I := I) (J := J) ha.1
  rw [sw_E_ints ha.2, hn] at hq
  exact va_alen X.1 X.2.1 X.2.2.2.2.2.2.2.2.1 hR.2.1 q0 0 hq rfl rfl d (kk p e s m args below meth c H locs ls X hR hS hl)
theorem aw_alenL {a n : Nat} (d : decode cc pc = .ok (.arraylength, 1)) (ha : a ∈ G.2.1 ∧ G.2.2.1 a = 51) (hn : G.2.2.2.1 a = n)
    (kk : AW l D cy sz own cc nL ret ini R mc ms Q cells slots G I J (pc + 1) lv (.int (Int32.ofNat n) :: st)) : AW l D cy sz own cc nL ret ini R mc ms Q cells slots G I J pc lv (.ref (sz + a) :: st) := by
  intro p e s m args below meth c H locs ls X hR hS hl
  obtain ⟨q0, hq⟩ := sw_at (cy := cy) (sz := sz) (I := I) (J := J) ha.1
  rw [sw_E_longs ha.2, hn] at hq
  exact va_alen X.1 X.2.1 X.2.2.2.2.2.2.2.2.1 hR.2.1 q0 1 hq rfl rfl d (kk p e s m args below meth c H locs ls X hR hS hl)
theorem sw_updI {I : sw_I} {a k : Nat} {x : Int32} : (fun j => Value.int (sw_up I a k x a j)) = updV (fun j => Value.int (I a j)) k (.int x) := by
  funext q
  by_cases hq : q = k
  · subst hq; simp [updV, sw_up]
  · simp [updV, sw_up, hq]
theorem sw_updJ {J : sw_J} {a k : Nat} {x : Int64} : (fun j => Value.long (sw_up J a k x a j)) = updV (fun j => Value.long (J a j)) k (.long x) := by
  funext q
  by_cases hq : q = k
  · subst hq; simp [updV, sw_up]
  · simp [updV, sw_up, hq]
theorem aw_ist {a n : Nat} {i x : Int32} (d : decode cc pc = .ok (.iastore, 1)) (ha : a ∈ G.2.1 ∧ G.2.2.1 a = 50) (hn : G.2.2.2.1 a = n) (hi : vp_in i n)
    (kk : AW l D cy sz own cc nL ret ini R mc ms Q cells slots G (sw_up I a i.toNatClampNeg x) J (pc + 1) lv st) : AW l D cy sz own cc nL ret ini R mc ms Q cells slots G I J pc lv (.int x :: .int i :: .ref (sz + a) :: st) := by
  intro p e s m args below meth c H locs ls X hR hS hl
  obtain ⟨q0, hq⟩ := sw_at (cy := cy) (sz := sz) (I := I) (J := J) ha.1
  have hP : H[sz + a]? = some (arrV (cy 0) n (fun j => .int (I a j))) := by
    have h1 := hR.2.1 q0 _ hq
    rw [sw_E_ints ha.2, hn] at h1
    exact h1
  refine W.iast X.1 X.2.1 hP ((X.2.2.2.2.2.2.2.2.1.2 0 _ rfl).1 n (fun j => .int (I a j))) (fun q => by cases q) (by rw [arrV_size]; exact hi) rfl rfl d fun H1 e1 z oq => ?_
  refine kk p e s m args below meth c H1 _ ls X (hR.of_set (e := .inl (cy 0, n, .inl (sw_up I a i.toNatClampNeg x a))) hq rfl rfl z oq (by rw [sw_E_ints ha.2, hn]) (fun b hb => sw_E_cong rfl rfl rfl (sw_up_row I _ x hb) rfl) ?_) (hS.put z oq (Nat.le_add_right _ _)) hl
  show H1[sz + a]? = some (vp_cell _ _)
  rw [e1, vp_cell_i, arrV_store, sw_updI]
theorem aw_lst {a n : Nat} {i : Int32} {x : Int64} (d : decode cc pc = .ok (.lastore, 1)) (ha : a ∈ G.2.1 ∧ G.2.2.1 a = 51) (hn : G.2.2.2.1 a = n) (hi : vp_in i n)
    (kk : AW l D cy sz own cc nL ret ini R mc ms Q cells slots G I (sw_up J a i.toNatClampNeg x) (pc + 1) lv st) : AW l D cy sz own cc nL ret ini R mc ms Q cells slots G I J pc lv (.long x :: .int i :: .ref (sz + a) :: st) := by
  intro p e s m args below meth c H locs ls X hR hS hl
  obtain ⟨q0, hq⟩ := sw_at (cy := cy) (sz := sz) (I := I) (J := J) ha.1
  have hP : H[sz + a]? = some (arrV (cy 1) n (fun j => .long (J a j))) := by
    have h1 := hR.2.1 q0 _ hq
    rw [sw_E_longs ha.2, hn] at h1
    exact h1
  refine W.last X.1 X.2.1 hP ((X.2.2.2.2.2.2.2.2.1.2 1 _ rfl).1 n (fun j => .long (J a j))) (fun q => by cases q) (by rw [arrV_size]; exact hi) rfl rfl d fun H1 e1 z oq => ?_
  refine kk p e s m args below meth c H1 _ ls X (hR.of_set (e := .inl (cy 1, n, .inr (.inl (sw_up J a i.toNatClampNeg x a)))) hq rfl rfl z oq (by rw [sw_E_longs ha.2, hn]) (fun b hb => sw_E_cong rfl rfl rfl rfl (sw_up_row J _ x hb)) ?_) (hS.put z oq (Nat.le_add_right _ _)) hl
  show H1[sz + a]? = some (vp_cell _ _)
  rw [e1, vp_cell_l, arrV_store, sw_updJ]
theorem aw_zst {a n : Nat} {i x : Int32} (d : decode cc pc = .ok (.bastore, 1)) (ha : a ∈ G.2.1 ∧ G.2.2.1 a = 52) (hn : G.2.2.2.1 a = n) (hi : vp_in i n) (hx01 : narrow .boolean (.int x) = .int x)
    (kk : AW l D cy sz own cc nL ret ini R mc ms Q cells slots G (sw_up I a i.toNatClampNeg x) J (pc + 1) lv st) : AW l D cy sz own cc nL ret ini R mc ms Q cells slots G I J pc lv (.int x :: .int i :: .ref (sz + a) :: st) := by
  intro p e s m args below meth c H locs ls X hR hS hl
  obtain ⟨q0, hq⟩ := sw_at (cy := cy) (sz := sz) (I := I) (J := J) ha.1
  have hP : H[sz + a]? = some (arrV (cy 2) n (fun j => .int (I a j))) := by
    have h1 := hR.2.1 q0 _ hq
    rw [sw_E_bools ha.2, hn] at h1
    exact h1
  refine W.zast X.1 X.2.1 hP ((X.2.2.2.2.2.2.2.2.1.2 2 _ rfl).1 n (fun j => .int (I a j))) (fun q => by cases q) (by rw [arrV_size]; exact hi) rfl rfl d fun H1 e1 z oq => ?_
  refine kk p e s m args below meth c H1 _ ls X (hR.of_set (e := .inl (cy 2, n, .inl (sw_up I a i.toNatClampNeg x a))) hq rfl rfl z oq (by rw [sw_E_bools ha.2, hn]) (fun b hb => sw_E_cong rfl rfl rfl (sw_up_row I _ x hb) rfl) ?_) (hS.put z oq (Nat.le_add_right _ _)) hl
  show H1[sz + a]? = some (vp_cell _ _)
  rw [e1, vp_cell_i, hx01, arrV_store, sw_updI]

def sw_cp (I : sw_I) (b0 b sp dp n : Nat) : sw_I := fun x y => if x = b then va_cpy (I b0) (I b) sp dp n y else I x y
def sw_cpok (sp dp n : Int32) (n0 n1 : Nat) : Prop := ¬ sp < 0 ∧ ¬ dp < 0 ∧ ¬ n < 0 ∧ sp.toNatClampNeg + n.toNatClampNeg ≤ n0 ∧ dp.toNatClampNeg + n.toNatClampNeg ≤ n1
theorem aw_copy {a0 a n0 n1 idx : Nat} {sp dp n : Int32} (hz : G.1 = none) (hlink : Cond.methodLink own idx arraycopyName ∈ sw_T) (hw : Cond.native arraycopyName ∈ sw_T ∧ Cond.static arraycopyName ∈ sw_T ∧ Cond.initialized "java/lang/System" ∈ sw_T) (ha0 : a0 ∈ G.2.1 ∧ G.2.2.1 a0 = 50) (hn0 : G.2.2.2.1 a0 = n0) (ha : a ∈ G.2.1 ∧ G.2.2.1 a = 50) (hn1 : G.2.2.2.1 a = n1) (hok : sw_cpok sp dp n n0 n1) (hfr : 1 ≤ R.frames) (hlo : (st.map fun v => v.category).sum + 18 ≤ R.locals) (d : decode cc pc = .ok (.invokestatic idx, 3))
    (kk : AW l D cy sz own cc nL ret ini R mc ms Q cells slots G (sw_cp I a0 a sp.toNatClampNeg dp.toNatClampNeg n.toNatClampNeg) J (pc + 3) lv st) : AW l D cy sz own cc nL ret ini R mc ms Q cells slots G I J pc lv (.int n :: .int dp :: .ref (sz + a) :: .int sp :: .ref (sz + a0) :: st) := by
  intro p e s m args below meth c H locs ls X hR hS hl
  obtain ⟨hx, hb, hml, hr, hlk, hini, hown, hts, hK, hsz, hEv⟩ := id X
  obtain ⟨q0, hq0⟩ := sw_at (cy := cy) (sz := sz) (I := I) (J := J) ha0.1
  obtain ⟨q1, hq1⟩ := sw_at (cy := cy) (sz := sz) (I := I) (J := J) ha.1
  have hq1' := hq1
  rw [sw_E_ints ha0.2, hn0] at hq0
  rw [sw_E_ints ha.2, hn1] at hq1
  obtain ⟨o1, o2, o3, o4, o5⟩ := hok
  have h7 : nativeFrameWords "java/lang/System" "arraycopy" 5 + 11 = 18 := by decide
  refine va_copyi hx hb (hml.trans hl.1.symm) hown (hts _ hlink) (hts _ hw.1) (hts _ hw.2.1) (hts _ hw.2.2) hK hR.2.1 hR.2.2 hS q0 q1 0 0 hq0 hq1 rfl rfl rfl o1 o2 o3 o4 o5 (fun _ _ => rfl) hfr (by rw [h7]; exact hlo) d (fun H1 locs1 hP hD hS1 => ?_)
  have he := sw_set (cy := cy) (sz := sz) (G := G) (G' := G) (I := I) (I' := sw_cp I a0 a sp.toNatClampNeg dp.toNatClampNeg n.toNatClampNeg) (J := J) (J' := J) (a := a) (q0 := q1) (e := .inl (cy 0, n1, .inl (va_cpy (I a0) (I a) sp.toNatClampNeg dp.toNatClampNeg n.toNatClampNeg))) rfl hR.2.2 hq1' (by rw [sw_E_ints ha.2, hn1]; unfold sw_cp; simp) (fun b hb9 => sw_E_cong rfl rfl rfl (by funext y; unfold sw_cp; rw [if_neg hb9]) rfl)
  rw [he] at hP hD
  exact kk p e s m args below meth c H1 locs1 ls X ⟨fun n h9 => (by rw [hz] at h9; cases h9), hP, hD⟩ hS1 hl
theorem aw_mabs {x : Int32} {idx : Nat} (hlink : Cond.methodLink own idx Lib.Math.abs.name ∈ sw_T) (hw : Cond.static Lib.Math.abs.name ∈ sw_T ∧ Cond.initialized "java/lang/Math" ∈ sw_T ∧ Cond.code Lib.Math.abs.name Lib.Math.abs.code 1 (some .int) ∈ sw_T) (hfr : 1 ≤ R.frames) (hlo : (st.map fun v => v.category).sum + 13 ≤ R.locals) (hc : cells ≤ R.cells ∧ slots ≤ R.slots) (d : decode cc pc = .ok (.invokestatic idx, 3))
    (kk : AW l D cy sz own cc nL ret ini R mc ms Q cells slots G I J (pc + 3) lv (.int (if 0 ≤ x then x else 0 - x) :: st)) : AW l D cy sz own cc nL ret ini R mc ms Q cells slots G I J pc lv (.int x :: st) := by
  intro p e s m args below meth c H locs ls X hR hS hl
  obtain ⟨hx, hb, hml, hr, hlk, hini, hown, hts, hK, hsz, hEv⟩ := id X
  exact va_mabs hx hb (hml.trans hl.1.symm) hown (hts _ hlink) (hts _ hw.1) (hts _ hw.2.1) (hts _ hw.2.2) hfr hlo hc.1 hc.2 d (kk p e s m args below meth c H locs ls X hR hS hl)
theorem aw_mmax {x y : Int32} {idx : Nat} (hlink : Cond.methodLink own idx Lib.Math.max.name ∈ sw_T) (hw : Cond.static Lib.Math.max.name ∈ sw_T ∧ Cond.initialized "java/lang/Math" ∈ sw_T ∧ Cond.code Lib.Math.max.name Lib.Math.max.code 2 (some .int) ∈ sw_T) (hfr : 1 ≤ R.frames) (hlo : (st.map fun v => v.category).sum + 13 ≤ R.locals) (hc : cells ≤ R.cells ∧ slots ≤ R.slots) (d : decode cc pc = .ok (.invokestatic idx, 3))
    (kk : AW l D cy sz own cc nL ret ini R mc ms Q cells slots G I J (pc + 3) lv (.int (if x < y then y else x) :: st)) : AW l D cy sz own cc nL ret ini R mc ms Q cells slots G I J pc lv (.int y :: .int x :: st) := by
  intro p e s m args below meth c H locs ls X hR hS hl
  obtain ⟨hx, hb, hml, hr, hlk, hini, hown, hts, hK, hsz, hEv⟩ := id X
  exact va_mmax hx hb (hml.trans hl.1.symm) hown (hts _ hlink) (hts _ hw.1) (hts _ hw.2.1) (hts _ hw.2.2) hfr hlo hc.1 hc.2 d (kk p e s m args below meth c H locs ls X hR hS hl)
theorem aw_mmin {x y : Int32} {idx : Nat} (hlink : Cond.methodLink own idx Lib.Math.min.name ∈ sw_T) (hw : Cond.static Lib.Math.min.name ∈ sw_T ∧ Cond.initialized "java/lang/Math" ∈ sw_T ∧ Cond.code Lib.Math.min.name Lib.Math.min.code 2 (some .int) ∈ sw_T) (hfr : 1 ≤ R.frames) (hlo : (st.map fun v => v.category).sum + 13 ≤ R.locals) (hc : cells ≤ R.cells ∧ slots ≤ R.slots) (d : decode cc pc = .ok (.invokestatic idx, 3))
    (kk : AW l D cy sz own cc nL ret ini R mc ms Q cells slots G I J (pc + 3) lv (.int (if y < x then y else x) :: st)) : AW l D cy sz own cc nL ret ini R mc ms Q cells slots G I J pc lv (.int y :: .int x :: st) := by
  intro p e s m args below meth c H locs ls X hR hS hl
  obtain ⟨hx, hb, hml, hr, hlk, hini, hown, hts, hK, hsz, hEv⟩ := id X
  exact va_mmin hx hb (hml.trans hl.1.symm) hown (hts _ hlink) (hts _ hw.1) (hts _ hw.2.1) (hts _ hw.2.2) hfr hlo hc.1 hc.2 d (kk p e s m args below meth c H locs ls X hR hS hl)

end SWM
