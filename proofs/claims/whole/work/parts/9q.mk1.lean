theorem mkS.ext {a n : Nat} {o o2 : mk_O} {R R' : mk_RR} {I I' : sw_I} (h : mkS a n o R R' I I') (he : ∀ k, o2.lookup k = o.lookup k) : mkS a n o2 R R' I I' :=
  ⟨h.1, fun k k1 k2 k3 => h.2.1 k k1 k2 (by rw [← he]; exact k3), fun k x hx => h.2.2.1 k x (by rw [← he]; exact hx), h.2.2.2⟩
theorem lookup_dup {c : Nat} {x y : List (Option Nat) × List Int32} {o : mk_O} (k : Nat) : List.lookup k ((c, x) :: o) = List.lookup k ((c, x) :: (c, y) :: o) := by
  rw [lookup_c, lookup_c, lookup_c]
  by_cases q : k = c
  · rw [if_pos q, if_pos q]
  · rw [if_neg q, if_neg q, if_neg q]
/-- the cell at the head of those under way -/
theorem mkS.putR1 {a n c k b : Nat} {o : mk_O} {rs : List (Option Nat)} {is : List Int32} {R R' R2 : mk_RR} {I I' : sw_I} (h : mkS a n ((c, rs, is) :: o) R R' I I') (hk : k < rs.length) (e : R2 = sw_up R' c k (some b)) : mkS a n ((c, rs.set k (some b), is) :: o) R R2 I I' := by
  rw [e]
  exact (h.putR (c := c) (k := k) (b := b) (x := (rs, is)) (by rw [lookup_c, if_pos rfl]) hk).ext lookup_dup
theorem mkS.putI1 {a n c k : Nat} {v : Int32} {o : mk_O} {rs : List (Option Nat)} {is : List Int32} {R R' : mk_RR} {I I' I2 : sw_I} (h : mkS a n ((c, rs, is) :: o) R R' I I') (hk : k < is.length) (e : I2 = sw_up I' c k v) : mkS a n ((c, rs, is.set k v) :: o) R R' I I2 := by
  rw [e]
  exact (h.putI (c := c) (k := k) (v := v) (x := (rs, is)) (by rw [lookup_c, if_pos rfl]) hk).ext lookup_dup
/-- two cells under way change places -/
theorem mkS.swap {a n c c2 : Nat} {o : mk_O} {x y : List (Option Nat) × List Int32} {R R' : mk_RR} {I I' : sw_I} (hc : c ≠ c2) (h : mkS a n ((c, x) :: (c2, y) :: o) R R' I I') : mkS a n ((c2, y) :: (c, x) :: o) R R' I I' :=
  h.ext (fun k => by
    rw [lookup_c, lookup_c, lookup_c, lookup_c]
    by_cases q : k = c
    · rw [if_neg (fun w => hc (q.symm.trans w)), if_pos q, if_pos q]
    · by_cases w : k = c2
      · rw [if_pos w, if_neg q, if_pos w]
      · rw [if_neg w, if_neg q, if_neg q, if_neg w])
/-- a cell under way is ready -/
theorem mkS.shut {a n c : Nat} {o : mk_O} {rs : List (Option Nat)} {is : List Int32} {R R' : mk_RR} {I I' : sw_I} (h : mkS a n ((c, rs, is) :: o) R R' I I') (ho : o.lookup c = none) (hr : ∀ j, rs.getD j none = mk_R c j) (hi : ∀ j, j < mk_N c → is.getD j 0 = mk_I c j) : mkS a n o R R' I I' := by
  refine ⟨h.1, fun k k1 k2 k3 => ?_, fun k x hx => h.2.2.1 k x ?_, h.2.2.2⟩
  · by_cases q : k = c
    · subst q
      obtain ⟨-, q2, q3⟩ := h.2.2.1 k (rs, is) (by rw [lookup_c, if_pos rfl])
      refine ⟨fun j => (q2 j).trans ?_, fun j hj => (q3 j).trans (hi j hj)⟩
      exact hr j
    · exact h.2.1 k k1 k2 (by rw [lookup_c, if_neg q]; exact k3)
  · rw [lookup_c]
    by_cases q : k = c
    · rw [q, ho] at hx; cases hx
    · rw [if_neg q]; exact hx
theorem mkS.fin {a e : Nat} {R R' : mk_RR} {I I' : sw_I} (h : mkS a e [] R R' I I') : mkP a e R R' I I' := h.done (fun k x hx => by cases hx)
section SM1
variable {l : Launch} {D : va_G} {cy : Nat → ClassId} {sz : Nat} {own : String} {cc : ByteArray} {nL : Nat} {ret : Option FieldType} {ini : Bool} {R : Room} {mc ms cells slots : Nat} {Q : Option Value → sw_G → sw_I → sw_J → Prop} {I : sw_I} {J : sw_J} {pc : Nat} {lv lv' : List (Nat × Value)} {st st0 : List Value} {ρ : mk_RR}
theorem mk_putF {n a b ci k idx N : Nat} {C : String} {T : u_T} {ty : FieldType} (hc : vwCl[ci]? = some (C, T, N)) (hin : ∀ w ∈ u_ws C T N, w ∈ sw_T) (ty0 : Nat → FieldType) (hty : ∀ k, k < N → parseFieldDescriptor (T k).2.2.1 = some (ty0 k)) (hnm : ∀ a, a < N → ∀ b, b < N → a ≠ b → (T a).2.1 ≠ (T b).2.1)
    (hk : k < N) (hN : sw_nf ci = N) (h50 : ci < 50) (hC : (T k).1 = C) (hfin : (T k).2.2.2 = true) (hi1 : ini = true) (hoC : own = C) (hd : parseFieldDescriptor (T k).2.2.1 = some ty) (hr9 : sw_isR ci k = true) (hn : ∀ q : Nat, narrow ty (.ref q) = .ref q) (hfit : ∀ q : Nat, fits ty (.ref q) = true)
    (hlink : Cond.fieldLink own idx C (T k).2.1 (T k).2.2.1 ∈ sw_T) (han : a < n) (hak : mk_K a = ci) (d : decode cc pc = .ok (.putfield idx, 3))
    (kk : ∀ ρ2 : mk_RR, ρ2 = sw_up ρ a k (some b) → AW l D cy sz own cc nL ret ini R mc ms Q cells slots (mk_G n ρ2) I J (pc + 3) lv st) : AW l D cy sz own cc nL ret ini R mc ms Q cells slots (mk_G n ρ) I J pc lv (.ref (sz + b) :: .ref (sz + a) :: st) :=
  aw_putF hc hin ty0 hty hnm hk hN h50 hC hfin hi1 hoC hd hr9 hn hfit hlink ⟨List.mem_range.mpr han, hak⟩ d (kk _ rfl)
theorem mk_putI {n a ci k idx N : Nat} {C : String} {T : u_T} {v : Int32} {ty : FieldType} (hc : vwCl[ci]? = some (C, T, N)) (hin : ∀ w ∈ u_ws C T N, w ∈ sw_T) (ty0 : Nat → FieldType) (hty : ∀ k, k < N → parseFieldDescriptor (T k).2.2.1 = some (ty0 k)) (hnm : ∀ a, a < N → ∀ b, b < N → a ≠ b → (T a).2.1 ≠ (T b).2.1)
    (hk : k < N) (hN : sw_nf ci = N) (h50 : ci < 50) (hC : (T k).1 = C) (hfin : (T k).2.2.2 = false) (hd : parseFieldDescriptor (T k).2.2.1 = some ty) (hr : sw_isR ci k = false) (hn : narrow ty (.int v) = .int v) (hfit : fits ty (.int v) = true)
    (hlink : Cond.fieldLink own idx C (T k).2.1 (T k).2.2.1 ∈ sw_T) (han : a < n) (hak : mk_K a = ci) (d : decode cc pc = .ok (.putfield idx, 3))
    (kk : ∀ I2 : sw_I, I2 = sw_up I a k v → AW l D cy sz own cc nL ret ini R mc ms Q cells slots (mk_G n ρ) I2 J (pc + 3) lv st) : AW l D cy sz own cc nL ret ini R mc ms Q cells slots (mk_G n ρ) I J pc lv (.int v :: .ref (sz + a) :: st) :=
  aw_putI hc hin ty0 hty hnm hk hN h50 hC hfin hd hr hn hfit hlink ⟨List.mem_range.mpr han, hak⟩ d (kk _ rfl)
/-- what comes back from a constructor -/
theorem mk_kc {a e mc2 ms2 : Nat} {I0 : sw_I} (h : ∀ (ρ2 : mk_RR) (I2 : sw_I), mkP a e ρ ρ2 I0 I2 → AW l D cy sz own cc nL ret ini R mc ms Q (cells + mc2) (slots + ms2) (mk_G e ρ2) I2 J (pc + 3) lv st) : ∀ (r : Option Value) (G' : sw_G) (I' : sw_I) (J' : sw_J), mk_Q a e ρ I0 J r G' I' J' → AW l D cy sz own cc nL ret ini R mc ms Q (cells + mc2) (slots + ms2) G' I' J' (pc + 3) lv (r.toList ++ st) := by
  rintro r G' I' J' ⟨rfl, rfl, ρ2, rfl, hp⟩
  exact h ρ2 I' hp
end SM1
