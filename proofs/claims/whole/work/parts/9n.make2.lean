section SMK2
variable {l : Launch} {D : va_G} {cy : Nat → ClassId} {sz : Nat} {own : String} {cc : ByteArray} {nL : Nat} {ret : Option FieldType} {ini : Bool} {R : Room} {mc ms cells slots : Nat} {Q : Option Value → sw_G → sw_I → sw_J → Prop} {G : sw_G} {I : sw_I} {J : sw_J} {pc : Nat} {lv lv' : List (Nat × Value)} {st st0 : List Value}
/-- a final field that holds a reference -/
theorem aw_putF {a b ci k idx N : Nat} {C : String} {T : u_T} {ty : FieldType} (hc : vwCl[ci]? = some (C, T, N)) (hin : ∀ w ∈ u_ws C T N, w ∈ sw_T) (ty0 : Nat → FieldType) (hty : ∀ k, k < N → parseFieldDescriptor (T k).2.2.1 = some (ty0 k)) (hnm : ∀ a, a < N → ∀ b, b < N → a ≠ b → (T a).2.1 ≠ (T b).2.1)
    (hk : k < N) (hN : sw_nf ci = N) (h50 : ci < 50) (hC : (T k).1 = C) (hfin : (T k).2.2.2 = true) (hi1 : ini = true) (hoC : own = C) (hd : parseFieldDescriptor (T k).2.2.1 = some ty) (hr9 : sw_isR ci k = true) (hn : ∀ q : Nat, narrow ty (.ref q) = .ref q) (hfit : ∀ q : Nat, fits ty (.ref q) = true)
    (hlink : Cond.fieldLink own idx C (T k).2.1 (T k).2.2.1 ∈ sw_T) (ha : a ∈ G.2.1 ∧ G.2.2.1 a = ci) (d : decode cc pc = .ok (.putfield idx, 3))
    (kk : AW l D cy sz own cc nL ret ini R mc ms Q cells slots (G.1, G.2.1, G.2.2.1, G.2.2.2.1, sw_up G.2.2.2.2 a k (some b)) I J (pc + 3) lv st) : AW l D cy sz own cc nL ret ini R mc ms Q cells slots G I J pc lv (.ref (sz + b) :: .ref (sz + a) :: st) := by
  intro p e s m args below meth c H locs ls X hR hS hl
  obtain ⟨hx, hb, hml, hr, hlk, hini, hown, hts, hK, hsz, hEv⟩ := id X
  obtain ⟨q0, hq⟩ := sw_at (cy := cy) (sz := sz) (I := I) (J := J) ha.1
  have hP := hR.2.1 q0 _ hq
  rw [sw_E_obj ha.2 h50] at hP
  obtain ⟨r, h1, cell, q1, q2, q3, q4⟩ := hP
  have hr9' : r = (C, T, N) := Option.some.inj (h1.symm.trans hc)
  subst hr9'
  have hap := va_apart (own := own) hts hin ty0 hty hnm hK hc
  obtain ⟨hSl, hfc, kC, hkC, hkind⟩ := hK.1 ci _ hc
  obtain ⟨cf, kf, fi, f, hi, hsl⟩ := hSl k hk
  have hlay := hts _ (hin _ (u_in_lay hk))
  unfold u_lay at hlay
  rw [if_pos hfin] at hlay
  have hst := (u_facts hfc hkC (u_lays hts hin hk) hi).1
  have hcf : m.cls = cf := by
    obtain ⟨_, _, c', _, _, _, -, -, hf', -, -, -, hown2, -⟩ := Cond.laysFinal_spec hlay
    have e1 : c' = cf := by have := hi.symm.trans hf'; simp at this; exact this.1.symm
    rw [hC, ← hoC] at hown2
    rw [← e1]; exact Option.some.inj (hown.symm.trans hown2)
  have h6 := u_fits hfc hkC hkind (Or.inr hlay) hi hd (hn (sz + b)) (hfit (sz + b))
  refine W.putFinK hx hb hown (hts _ hlink) (by rw [hC] at hi; exact hi) hst hcf (hini hi1) (by rw [q2]; exact h6) q1 q3 (by rw [hsl]; exact k2_hasslot (q4 k hk)) rfl rfl d fun H' e1 e2 e3 => ?_
  rw [hsl] at e1 ⊢
  refine kk p e s m args below meth c H' _ ls X (hR.of_set (e := .inr (ci, (sw_fs sz ci N a G.2.2.2.2 I).set k (.ref (sz + b)))) hq rfl rfl e2 e3 ?_ (fun b9 hb9 => sw_E_cong rfl rfl (sw_up_row _ _ _ hb9) rfl rfl) ?_) (hS.put e2 e3 (Nat.le_add_right _ _)) hl
  · rw [sw_E_obj (G := (G.1, G.2.1, G.2.2.1, G.2.2.2.1, sw_up G.2.2.2.2 a k (some b))) ha.2 h50, hN, sw_fs_setR hr9]; rfl
  · rw [hN] at q4
    exact ⟨_, hc, t_OB.to (V := updV (vp_V (sw_fs sz ci N a G.2.2.2.2 I)) k (.ref (sz + b))) ⟨_, e1, q2, q3, t_set q4 hap hk (.ref (sz + b))⟩ (fun j _ => vp_updV_set (by rw [sw_fs_len]; exact hk) (.ref (sz + b)) j)⟩
/-- the words of a constructor's call -/
def sw_C9 (y : MethodName) (bytes : ByteArray) (maxL n : Nat) : Prop := Cond.instanceMethod y ∈ sw_T ∧ Cond.initialized y.cls ∈ sw_T ∧ Cond.code y bytes maxL none ∈ sw_T ∧ sw_D y n ∧ y.name = "<init>"
theorem aw_callI {y : MethodName} {bytes : ByteArray} {maxL idx n mc2 ms2 b : Nat} {rm : Room} {As : List Value} {Qc : Option Value → sw_G → sw_I → sw_J → Prop} (hV : sw_C9 y bytes maxL n)
    (hM : Met l y (Cond.code y bytes maxL none :: sw_T) rm (sw_Pc D cy sz (.ref (sz + b) :: As) G I J) (sw_Q D cy sz Qc) mc2 ms2 (fun q => sz ≤ q))
    (hlink : Cond.methodLink own idx y ∈ sw_T) (hn : As.length = n) (hst : st0 = As.reverse ++ .ref (sz + b) :: st) (hcat : (st.map fun v => v.category).sum ≤ 8)
    (hrm : rm.cells = mc2 ∧ rm.slots = ms2) (hro : rm.frames + 1 ≤ R.frames ∧ 8 + (maxL + 11) + rm.locals ≤ R.locals) (hf : cells + mc2 ≤ R.cells ∧ slots + ms2 ≤ R.slots) (d : decode cc pc = .ok (.invokespecial idx, 3))
    (kk : ∀ (r : Option Value) (G' : sw_G) (I' : sw_I) (J' : sw_J), Qc r G' I' J' → AW l D cy sz own cc nL ret ini R mc ms Q (cells + mc2) (slots + ms2) G' I' J' (pc + 3) lv (r.toList ++ st)) : AW l D cy sz own cc nL ret ini R mc ms Q cells slots G I J pc lv st0 := by
  intro p e s m args below meth c H locs ls X hR hS hl
  obtain ⟨hx, hb9, hml, hr, hlk, hini, hown, hts, hK, hsz, hEv⟩ := id X
  obtain ⟨v1, v3, v4, v5, v6⟩ := hV
  have hB := callB_of (R := R) (own := own) (index := idx) n hts (sw_goodc v4) rfl hrm.1 hrm.2 (hts _ v3) (hts _ hlink) v5 hro
  refine sw_back (va_runI (As := As) (rest := st) (b := sz + b) ⟨hx, hb9, hml, hown, hts⟩ hM ⟨hB, v6, hts _ v1⟩ ⟨sw_blind, fun U hU hW => ⟨rfl, by rw [hU]; exact Nat.le_trans hsz hS.1, by rw [hU]; exact hR, va_K.moved hW.alike hK, hEv.to hW hS hU hsz⟩⟩ rfl hn hl.1 hst (lv_room (m := m) (pc := pc) (ls := ls) (rest := st0) hcat) d hf) hS (fun r G' I' J' H1 locs1 hq h1 h2 => ?_)
  exact kk r G' I' J' hq p e s m args below meth c H1 locs1 ls X h1 h2 hl
theorem aw_callIN {y : MethodName} {host : String} {bytes : ByteArray} {maxL idx n mc2 ms2 b : Nat} {rm : Room} {As : List Value} {Qc : Option Value → sw_G → sw_I → sw_J → Prop} (hV : sw_C9 y bytes maxL n)
    (hM : Met l y (Cond.code y bytes maxL none :: sw_T) rm (sw_Pc D cy sz (.ref (sz + b) :: As) G I J) (sw_Q D cy sz Qc) mc2 ms2 (fun q => sz ≤ q))
    (hlink : Cond.methodLinkNest own idx y host ∈ lw_tbl) (hn : As.length = n) (hst : st0 = As.reverse ++ .ref (sz + b) :: st) (hcat : (st.map fun v => v.category).sum ≤ 8)
    (hrm : rm.cells = mc2 ∧ rm.slots = ms2) (hro : rm.frames + 1 ≤ R.frames ∧ 8 + (maxL + 11) + rm.locals ≤ R.locals) (hf : cells + mc2 ≤ R.cells ∧ slots + ms2 ≤ R.slots) (d : decode cc pc = .ok (.invokespecial idx, 3))
    (kk : ∀ (r : Option Value) (G' : sw_G) (I' : sw_I) (J' : sw_J), Qc r G' I' J' → AW l D cy sz own cc nL ret ini R mc ms Q (cells + mc2) (slots + ms2) G' I' J' (pc + 3) lv (r.toList ++ st)) : AW l D cy sz own cc nL ret ini R mc ms Q cells slots G I J pc lv st0 := by
  intro p e s m args below meth c H locs ls X hR hS hl
  obtain ⟨hx, hb9, hml, hr, hlk, hini, hown, hts, hK, hsz, hEv⟩ := id X
  obtain ⟨v1, v3, v4, v5, v6⟩ := hV
  have hNw : va_Nw (.methodLinkNest own idx y host) s := by
    obtain ⟨s0, a0, h1, h2, h3, h4, h5⟩ := id hEv
    exact va_Nw.warmM h4 (va_Nw.of rfl (h2 _ hlink))
  have hB := va_cnB (R := R) (own := own) (host := host) (index := idx) n hts (sw_goodc v4) rfl hrm.1 hrm.2 hNw (hts _ v3) v5 hro
  refine sw_back (va_runIN (As := As) (rest := st) (b := sz + b) ⟨hx, hb9, hml, hown, hts⟩ hM ⟨hB, v6, hts _ v1⟩ ⟨sw_blind, fun U hU hW => ⟨rfl, by rw [hU]; exact Nat.le_trans hsz hS.1, by rw [hU]; exact hR, va_K.moved hW.alike hK, hEv.to hW hS hU hsz⟩⟩ rfl hn hl.1 hst (lv_room (m := m) (pc := pc) (ls := ls) (rest := st0) hcat) d hf) hS (fun r G' I' J' H1 locs1 hq h1 h2 => ?_)
  exact kk r G' I' J' hq p e s m args below meth c H1 locs1 ls X h1 h2 hl
/-- a new array of Moments -/
theorem aw_newq {n N' idx : Nat} {x : Int32} {Lc : List Nat} {W9 : (Nat → Nat) × (Nat → Nat) × (Nat → Nat → Option Nat)} (hclink : Cond.classLink own idx "LeastWished$Moment" ∈ sw_T) (hov : Cond.arrayOver (.object "LeastWished$Moment") ∈ lw_tbl)
    (hK9 : W9.1 n = 53) (hN9 : W9.2.1 n = N') (hR9 : ∀ j, W9.2.2 n j = none) (hn : ¬ x < 0) (hN : x.toNatClampNeg = N') (hbytes : N' * 4 ≤ 536870912) (hcells : cells + 1 ≤ R.cells) (hslots : slots + N' ≤ R.slots) (d : decode cc pc = .ok (.anewarray idx, 3))
    (k : AW l D cy sz own cc nL ret ini R mc ms Q (cells + 1) (slots + N') (some (n + 1), Lc ++ [n], W9) I J (pc + 3) lv (.ref (sz + n) :: st)) : AW l D cy sz own cc nL ret ini R mc ms Q cells slots (some n, Lc, W9) I J pc lv (.int x :: st) := by
  intro p e s m args below meth c H locs ls X hR hS hl
  obtain ⟨hx, hb9, hml, hr, hlk, hini, hown, hts, hK, hsz, hEv⟩ := id X
  have hH : H.size = sz + n := hR.1 n rfl
  have hAO : va_AO "LeastWished$Moment" s := by
    obtain ⟨s0, a0, h1, h2, h3, h4, h5⟩ := id hEv
    exact va_AO.moved h4.alike (va_AO.of (h2 _ hov))
  subst hN
  refine W.anew hx hb9 hown (hts _ hclink) (va_AO.use hAO) rfl d rfl hn hbytes hcells hslots fun cA kA comp f1 f2 f3 f4 => ?_
  obtain ⟨kA2, comp2, g1, g2, g3, g4⟩ := (hK.2 3 (cy 3, .object "LeastWished$Moment") rfl).2
  have ec : cA = cy 3 := Option.some.inj (f1.symm.trans g4)
  generalize hH1 : H.push ({ cls := cA, slots := Array.replicate x.toNatClampNeg .null, vm := .none } : Cell) = H1
  have z1 : H1.size = sz + n + 1 := by rw [← hH1, Array.size_push, hH]
  have e1 : H1[sz + n]? = some (arrV cA x.toNatClampNeg (fun _ => .null)) := by rw [← hH1, ← hH, Array.getElem?_push_size, ← arrV_new]
  have o1 : ∀ q : Nat, q < sz + n → H1[q]? = H[q]? := fun q hq => by rw [← hH1, Array.getElem?_push, if_neg (Nat.ne_of_lt (hH ▸ hq))]
  rw [hH]
  refine k p e s m args below meth c H1 locs ls X (hR.push z1 o1 ?_) (sw_S_push hS hH z1 o1) hl
  rw [sw_E_refs (G := (some n, Lc, W9)) hK9]
  show H1[sz + n]? = some (vp_cell _ _)
  rw [vp_cell_q, e1, ec]
  have eN : (some n, Lc, W9).2.2.2.1 n = x.toNatClampNeg := hN9
  rw [eN]
  congr 2
  funext j
  show Value.null = va_rf (sw_o sz (W9.2.2 n j))
  rw [hR9]; rfl
/-- a Moment is put into an array -/
theorem aw_astq {a b n idx : Nat} {i : Int32} (d : decode cc pc = .ok (.aastore, 1)) (ha : a ∈ G.2.1 ∧ G.2.2.1 a = 53) (hn : G.2.2.2.1 a = n) (hb : b ∈ G.2.1 ∧ G.2.2.1 b = 3) (hin : vp_in i n)
    (kk : AW l D cy sz own cc nL ret ini R mc ms Q cells slots (G.1, G.2.1, G.2.2.1, G.2.2.2.1, sw_up G.2.2.2.2 a i.toNatClampNeg (some b)) I J (pc + 1) lv st) : AW l D cy sz own cc nL ret ini R mc ms Q cells slots G I J pc lv (.ref (sz + b) :: .int i :: .ref (sz + a) :: st) := by
  intro p e s m args below meth c H locs ls X hR hS hl
  obtain ⟨hx, hb9, hml, hr, hlk, hini, hown, hts, hK, hsz, hEv⟩ := id X
  obtain ⟨q0, hq⟩ := sw_at (cy := cy) (sz := sz) (I := I) (J := J) ha.1
  obtain ⟨q1, hq1⟩ := sw_at (cy := cy) (sz := sz) (I := I) (J := J) hb.1
  have hqa := hq
  rw [sw_E_refs ha.2, hn] at hqa
  have hqb := hq1
  rw [sw_E_obj hb.2 (by decide)] at hqb
  have hlt : i.toNatClampNeg < n := Nat.not_le.mp fun q => hin (Or.inr q)
  have h0 : ¬ i < 0 := fun q => hin (Or.inl q)
  have hPa := hR.2.1 q0 _ hqa
  obtain ⟨r', hr', cellV, g1, g2, g3, -⟩ := hR.2.1 q1 _ hqb
  have hc3 : vwCl[3]? = some ("LeastWished$Moment", TX3, 6) := rfl
  have hcls := (hK.1 3 _ hc3).2
  obtain ⟨kA, comp, k1, k2, k3, -⟩ := (hK.2 3 (cy 3, .object "LeastWished$Moment") rfl).2
  have hcomp : comp = D.1 3 := Option.some.inj (k3.symm.trans hcls.1)
  subst hcomp
  obtain ⟨kC, hkC, -⟩ := hcls.2
  refine W.aast hx hb9 hPa (fun q h => by cases h) (fun h => by cases h) k1 k2 rfl hkC ⟨h0, by show _ < (arrV _ _ _).slots.size; rw [arrV_size]; exact hlt⟩ g1 (fun q h => by rw [g3] at h; cases h) (by rw [g2]; exact hkC) (by rw [g2]; exact va_assign hcls) rfl rfl d fun H1 e z oq => ?_
  refine kk p _ s m args below meth c H1 _ ls X (hR.of_set (e := .inl (cy 3, n, .inr (.inr (.inr (.inr (fun j => sw_o sz (sw_up G.2.2.2.2 a i.toNatClampNeg (some b) a j))))))) hq rfl rfl z oq ?_ (fun b9 hb9 => sw_E_cong rfl rfl (sw_up_row _ _ _ hb9) rfl rfl) ?_) (hS.put z oq (Nat.le_add_right _ _)) hl
  · rw [sw_E_refs (G := (G.1, G.2.1, G.2.2.1, G.2.2.2.1, sw_up G.2.2.2.2 a i.toNatClampNeg (some b))) ha.2]
    show Sum.inl (cy 3, G.2.2.2.1 a, _) = _
    rw [hn]
  · show H1[sz + a]? = some (vp_cell _ _)
    rw [e]
    rw [vp_cell_q, vp_cell_q, arrV_store]
    congr 2
    funext q
    by_cases hq : q = i.toNatClampNeg
    · subst hq
      simp [updV, sw_up, va_rf, sw_o]
    · simp [updV, sw_up, hq]
end SMK2
