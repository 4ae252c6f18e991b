set_option maxRecDepth 20000 in
theorem lc_0 {b L C S k : Nat} {xs : Nat → Int32} {Z : List Frame → Array Value → State → State → Prop} {l : Launch} {D : va_G} {cy : Nat → ClassId} {sz : Nat} {G : sw_G} {I : sw_I} {J : sw_J} (hl : l.stackTraces = false) (hG : sw_lay G) (ho : sw_la G 174 1) (hk : 5 * k + 5 ≤ L) (hL : L ≤ 2560) (hC : C + 1 ≤ 601024) (hS : S + 6 ≤ 7293034) (hw : wW k I J) (nx : lw_N b L xs Z l D cy sz G C S k) : LL b L xs Z l D cy sz G C S I J 236 (lw_lv b sz k) [] := by
  refine al_aload_n 3 dL_law_236 rfl rfl ?_
  refine al_aload_n 4 dL_law_237 rfl rfl ?_
  refine al_iload 0 dL_law_238 rfl ?_
  refine al_iconst (v := 1) dL_law_240 (by decide) ?_
  refine al_iadd dL_law_241 ?_
  refine al_sld dL_law_242 (lw_in (j := 1) rfl hk hL (by decide)) ?_
  have h0 : wp_X9_sign (xs (nI (5 * k) + 1).toNatClampNeg) I J (fun r I1 J1 => wp_X10_sign (xs (nI (5 * k) + 1).toNatClampNeg) I1 J1 (fun r2 I2 J2 => r = r2 ∧ wW (k + 1) I2 J2)) := p_sign hw (fun v I2 J2 w _ => ⟨rfl, (wW_succ w)⟩)
  refine al_callV wv_X9_sign (M_X9_sign hG h0) ml_L_30 rfl (by decide) (lk0 hG) rfl rfl (Nat.le_of_ble_eq_true rfl) ⟨rfl, rfl⟩ ⟨Nat.le_of_ble_eq_true rfl, Nat.le_of_ble_eq_true rfl⟩ ⟨by show _ ≤ 601024; omega, by show _ ≤ 7293034; omega⟩ dL_law_243 (al_ki fun r I1 J1 h1 => ?_)
  refine al_aload_n 2 dL_law_246 rfl rfl ?_
  refine al_aload_n 4 dL_law_247 rfl rfl ?_
  refine al_iload 0 dL_law_248 rfl ?_
  refine al_iconst (v := 1) dL_law_250 (by decide) ?_
  refine al_iadd dL_law_251 ?_
  refine al_sld dL_law_252 (lw_in (j := 1) rfl hk hL (by decide)) ?_
  refine al_callV wv_X10_sign (M_X10_sign hG h1) ml_L_33 rfl (by decide) (lk140 hG) rfl rfl (Nat.le_of_ble_eq_true rfl) ⟨rfl, rfl⟩ ⟨Nat.le_of_ble_eq_true rfl, Nat.le_of_ble_eq_true rfl⟩ ⟨by show _ ≤ 601024; omega, by show _ ≤ 7293034; omega⟩ dL_law_253 (al_ki fun r2 I2 J2 h2 => ?_)
  refine al_jeq 1473 dL_law_256 (by decide) (fun _ => ?_) (fun c => absurd h2.1 c)
  exact al_widen (C + 1) (S + 6) (by omega) (by omega) (nx I2 J2 h2.2)
set_option maxRecDepth 20000 in
theorem lc_1 {b L C S k : Nat} {xs : Nat → Int32} {Z : List Frame → Array Value → State → State → Prop} {l : Launch} {D : va_G} {cy : Nat → ClassId} {sz : Nat} {G : sw_G} {I : sw_I} {J : sw_J} (hl : l.stackTraces = false) (hG : sw_lay G) (ho : sw_la G 174 1) (hk : 5 * k + 5 ≤ L) (hL : L ≤ 2560) (hC : C + 1 ≤ 601024) (hS : S + 6 ≤ 7293034) (hw : wW k I J) (nx : lw_N b L xs Z l D cy sz G C S k) : LL b L xs Z l D cy sz G C S I J 261 (lw_lv b sz k) [] := by
  refine al_aload_n 3 dL_law_261 rfl rfl ?_
  refine al_aload_n 4 dL_law_262 rfl rfl ?_
  refine al_iload 0 dL_law_263 rfl ?_
  refine al_iconst (v := 1) dL_law_265 (by decide) ?_
  refine al_iadd dL_law_266 ?_
  refine al_sld dL_law_267 (lw_in (j := 1) rfl hk hL (by decide)) ?_
  have h0 : wp_X9_end (xs (nI (5 * k) + 1).toNatClampNeg) I J (fun r I1 J1 => wp_X10_end (xs (nI (5 * k) + 1).toNatClampNeg) I1 J1 (fun r2 I2 J2 => r = r2 ∧ wW (k + 1) I2 J2)) := p_end hw (fun v I2 J2 w _ => ⟨rfl, (wW_succ w)⟩)
  refine al_callV wv_X9_end (M_X9_end hG h0) ml_L_34 rfl (by decide) (lk0 hG) rfl rfl (Nat.le_of_ble_eq_true rfl) ⟨rfl, rfl⟩ ⟨Nat.le_of_ble_eq_true rfl, Nat.le_of_ble_eq_true rfl⟩ ⟨by show _ ≤ 601024; omega, by show _ ≤ 7293034; omega⟩ dL_law_268 (al_ki fun r I1 J1 h1 => ?_)
  refine al_aload_n 2 dL_law_271 rfl rfl ?_
  refine al_aload_n 4 dL_law_272 rfl rfl ?_
  refine al_iload 0 dL_law_273 rfl ?_
  refine al_iconst (v := 1) dL_law_275 (by decide) ?_
  refine al_iadd dL_law_276 ?_
  refine al_sld dL_law_277 (lw_in (j := 1) rfl hk hL (by decide)) ?_
  refine al_callV wv_X10_end (M_X10_end hG h1) ml_L_38 rfl (by decide) (lk140 hG) rfl rfl (Nat.le_of_ble_eq_true rfl) ⟨rfl, rfl⟩ ⟨Nat.le_of_ble_eq_true rfl, Nat.le_of_ble_eq_true rfl⟩ ⟨by show _ ≤ 601024; omega, by show _ ≤ 7293034; omega⟩ dL_law_278 (al_ki fun r2 I2 J2 h2 => ?_)
  refine al_jeq 1473 dL_law_281 (by decide) (fun _ => ?_) (fun c => absurd h2.1 c)
  exact al_widen (C + 1) (S + 6) (by omega) (by omega) (nx I2 J2 h2.2)
set_option maxRecDepth 20000 in
theorem lc_2 {b L C S k : Nat} {xs : Nat → Int32} {Z : List Frame → Array Value → State → State → Prop} {l : Launch} {D : va_G} {cy : Nat → ClassId} {sz : Nat} {G : sw_G} {I : sw_I} {J : sw_J} (hl : l.stackTraces = false) (hG : sw_lay G) (ho : sw_la G 174 1) (hk : 5 * k + 5 ≤ L) (hL : L ≤ 2560) (hC : C + 1 ≤ 601024) (hS : S + 6 ≤ 7293034) (hw : wW k I J) (nx : lw_N b L xs Z l D cy sz G C S k) : LL b L xs Z l D cy sz G C S I J 286 (lw_lv b sz k) [] := by
  refine al_aload_n 3 dL_law_286 rfl rfl ?_
  refine al_aload_n 4 dL_law_287 rfl rfl ?_
  refine al_iload 0 dL_law_288 rfl ?_
  refine al_iconst (v := 1) dL_law_290 (by decide) ?_
  refine al_iadd dL_law_291 ?_
  refine al_sld dL_law_292 (lw_in (j := 1) rfl hk hL (by decide)) ?_
  have h0 : wp_X9_floors (xs (nI (5 * k) + 1).toNatClampNeg) I J (fun r I1 J1 => wp_X10_floors (xs (nI (5 * k) + 1).toNatClampNeg) I1 J1 (fun r2 I2 J2 => r = r2 ∧ wW (k + 1) I2 J2)) := p_floors hw (fun v I2 J2 w _ => ⟨rfl, w⟩)
  refine al_callV wv_X9_floors (M_X9_floors hG h0) ml_L_39 rfl (by decide) (lk0 hG) rfl rfl (Nat.le_of_ble_eq_true rfl) ⟨rfl, rfl⟩ ⟨Nat.le_of_ble_eq_true rfl, Nat.le_of_ble_eq_true rfl⟩ ⟨by show _ ≤ 601024; omega, by show _ ≤ 7293034; omega⟩ dL_law_293 (al_ki fun r I1 J1 h1 => ?_)
  refine al_aload_n 2 dL_law_296 rfl rfl ?_
  refine al_aload_n 4 dL_law_297 rfl rfl ?_
  refine al_iload 0 dL_law_298 rfl ?_
  refine al_iconst (v := 1) dL_law_300 (by decide) ?_
  refine al_iadd dL_law_301 ?_
  refine al_sld dL_law_302 (lw_in (j := 1) rfl hk hL (by decide)) ?_
  refine al_callV wv_X10_floors (M_X10_floors hG h1) ml_L_42 rfl (by decide) (lk140 hG) rfl rfl (Nat.le_of_ble_eq_true rfl) ⟨rfl, rfl⟩ ⟨Nat.le_of_ble_eq_true rfl, Nat.le_of_ble_eq_true rfl⟩ ⟨by show _ ≤ 601024; omega, by show _ ≤ 7293034; omega⟩ dL_law_303 (al_ki fun r2 I2 J2 h2 => ?_)
  refine al_jeq 1473 dL_law_306 (by decide) (fun _ => ?_) (fun c => absurd h2.1 c)
  exact al_widen (C + 1) (S + 6) (by omega) (by omega) (nx I2 J2 h2.2)
set_option maxRecDepth 20000 in
theorem lc_3 {b L C S k : Nat} {xs : Nat → Int32} {Z : List Frame → Array Value → State → State → Prop} {l : Launch} {D : va_G} {cy : Nat → ClassId} {sz : Nat} {G : sw_G} {I : sw_I} {J : sw_J} (hl : l.stackTraces = false) (hG : sw_lay G) (ho : sw_la G 174 1) (hk : 5 * k + 5 ≤ L) (hL : L ≤ 2560) (hC : C + 1 ≤ 601024) (hS : S + 6 ≤ 7293034) (hw : wW k I J) (nx : lw_N b L xs Z l D cy sz G C S k) : LL b L xs Z l D cy sz G C S I J 311 (lw_lv b sz k) [] := by
  refine al_aload_n 3 dL_law_311 rfl rfl ?_
  have h0 : wp_X9_house  I J (fun r I1 J1 => wp_X10_house  I1 J1 (fun r2 I2 J2 => r = r2 ∧ wW (k + 1) I2 J2)) := p_house hw (fun v I2 J2 w _ => ⟨rfl, w⟩)
  refine al_callV wv_X9_house (M_X9_house hG h0) ml_L_43 rfl (by decide) (lk0 hG) rfl rfl (Nat.le_of_ble_eq_true rfl) ⟨rfl, rfl⟩ ⟨Nat.le_of_ble_eq_true rfl, Nat.le_of_ble_eq_true rfl⟩ ⟨by show _ ≤ 601024; omega, by show _ ≤ 7293034; omega⟩ dL_law_312 (al_ki fun r I1 J1 h1 => ?_)
  refine al_aload_n 2 dL_law_315 rfl rfl ?_
  refine al_callV wv_X10_house (M_X10_house hG h1) ml_L_47 rfl (by decide) (lk140 hG) rfl rfl (Nat.le_of_ble_eq_true rfl) ⟨rfl, rfl⟩ ⟨Nat.le_of_ble_eq_true rfl, Nat.le_of_ble_eq_true rfl⟩ ⟨by show _ ≤ 601024; omega, by show _ ≤ 7293034; omega⟩ dL_law_316 (al_ki fun r2 I2 J2 h2 => ?_)
  refine al_jeq 1473 dL_law_319 (by decide) (fun _ => ?_) (fun c => absurd h2.1 c)
  exact al_widen (C + 1) (S + 6) (by omega) (by omega) (nx I2 J2 h2.2)
set_option maxRecDepth 20000 in
theorem lc_4 {b L C S k : Nat} {xs : Nat → Int32} {Z : List Frame → Array Value → State → State → Prop} {l : Launch} {D : va_G} {cy : Nat → ClassId} {sz : Nat} {G : sw_G} {I : sw_I} {J : sw_J} (hl : l.stackTraces = false) (hG : sw_lay G) (ho : sw_la G 174 1) (hk : 5 * k + 5 ≤ L) (hL : L ≤ 2560) (hC : C + 1 ≤ 601024) (hS : S + 6 ≤ 7293034) (hw : wW k I J) (nx : lw_N b L xs Z l D cy sz G C S k) : LL b L xs Z l D cy sz G C S I J 324 (lw_lv b sz k) [] := by
  refine al_aload_n 3 dL_law_324 rfl rfl ?_
  have h0 : wp_X9_law  I J (fun r I1 J1 => wp_X10_law  I1 J1 (fun r2 I2 J2 => r = r2 ∧ wW (k + 1) I2 J2)) := p_law hw (fun v I2 J2 w _ => ⟨rfl, (wW_succ w)⟩)
  refine al_callV wv_X9_law (M_X9_law hG h0) ml_L_48 rfl (by decide) (lk0 hG) rfl rfl (Nat.le_of_ble_eq_true rfl) ⟨rfl, rfl⟩ ⟨Nat.le_of_ble_eq_true rfl, Nat.le_of_ble_eq_true rfl⟩ ⟨by show _ ≤ 601024; omega, by show _ ≤ 7293034; omega⟩ dL_law_325 (al_ki fun r I1 J1 h1 => ?_)
  refine al_aload_n 2 dL_law_328 rfl rfl ?_
  refine al_callV wv_X10_law (M_X10_law hG h1) ml_L_51 rfl (by decide) (lk140 hG) rfl rfl (Nat.le_of_ble_eq_true rfl) ⟨rfl, rfl⟩ ⟨Nat.le_of_ble_eq_true rfl, Nat.le_of_ble_eq_true rfl⟩ ⟨by show _ ≤ 601024; omega, by show _ ≤ 7293034; omega⟩ dL_law_329 (al_ki fun r2 I2 J2 h2 => ?_)
  refine al_jeq 1473 dL_law_332 (by decide) (fun _ => ?_) (fun c => absurd h2.1 c)
  exact al_widen (C + 1) (S + 6) (by omega) (by omega) (nx I2 J2 h2.2)
set_option maxRecDepth 20000 in
theorem lc_5 {b L C S k : Nat} {xs : Nat → Int32} {Z : List Frame → Array Value → State → State → Prop} {l : Launch} {D : va_G} {cy : Nat → ClassId} {sz : Nat} {G : sw_G} {I : sw_I} {J : sw_J} (hl : l.stackTraces = false) (hG : sw_lay G) (ho : sw_la G 174 1) (hk : 5 * k + 5 ≤ L) (hL : L ≤ 2560) (hC : C + 1 ≤ 601024) (hS : S + 6 ≤ 7293034) (hw : wW k I J) (nx : lw_N b L xs Z l D cy sz G C S k) : LL b L xs Z l D cy sz G C S I J 337 (lw_lv b sz k) [] := by
  refine al_aload_n 3 dL_law_337 rfl rfl ?_
  refine al_aload_n 4 dL_law_338 rfl rfl ?_
  refine al_iload 0 dL_law_339 rfl ?_
  refine al_iconst (v := 1) dL_law_341 (by decide) ?_
  refine al_iadd dL_law_342 ?_
  refine al_sld dL_law_343 (lw_in (j := 1) rfl hk hL (by decide)) ?_
  refine al_aload_n 4 dL_law_344 rfl rfl ?_
  refine al_iload 0 dL_law_345 rfl ?_
  refine al_iconst (v := 2) dL_law_347 (by decide) ?_
  refine al_iadd dL_law_348 ?_
  refine al_sld dL_law_349 (lw_in (j := 2) rfl hk hL (by decide)) ?_
  refine al_aload_n 1 dL_law_350 rfl rfl ?_
  have h0 := p_of (o := 174) (x1 := xs (nI (5 * k) + 1).toNatClampNeg) (x2 := xs (nI (5 * k) + 2).toNatClampNeg) (Q := fun r r2 I2 J2 => wW (k + 1) I2 J2 ∧ I2 140 0 = r ∧ (r = 0 → J2 174 0 = r2.toInt64)) (by decide) (by decide) hw (fun v v2 I2 J2 w e1 e2 => ⟨wW_succ w, e1, e2⟩)
  refine al_callSW wv_L_of (M_L_of hl hG ho h0) ml_L_52 rfl rfl (Nat.le_of_ble_eq_true rfl) ⟨rfl, rfl⟩ ⟨Nat.le_of_ble_eq_true rfl, Nat.le_of_ble_eq_true rfl⟩ ⟨by show _ ≤ 601024; omega, by show _ ≤ 7293034; omega⟩ dL_law_351 (fun r9 G9 I1 J1 hq => ?_)
  obtain ⟨eG, r, er, h1⟩ := hq
  rw [eG, er]
  refine al_istore (lv' := [(5, .int r)] ++ lw_lv b sz k) dL_law_354 (by decide) rfl ?_
  refine al_aload_n 3 dL_law_356 rfl rfl ?_
  refine al_aload_n 5 dL_law_357 rfl rfl ?_
  refine al_iload 1 dL_law_358 rfl ?_
  refine al_iconst (v := 1) dL_law_360 (by decide) ?_
  refine al_iadd dL_law_361 ?_
  refine al_sld dL_law_362 (lw_in (j := 1) rfl hk hL (by decide)) ?_
  refine al_aload_n 5 dL_law_363 rfl rfl ?_
  refine al_iload 1 dL_law_364 rfl ?_
  refine al_iconst (v := 2) dL_law_366 (by decide) ?_
  refine al_iadd dL_law_367 ?_
  refine al_sld dL_law_368 (lw_in (j := 2) rfl hk hL (by decide)) ?_
  refine al_callV wv_X10_of (M_X10_of hG h1) ml_L_57 rfl (by decide) (lk140 hG) rfl rfl (Nat.le_of_ble_eq_true rfl) ⟨rfl, rfl⟩ ⟨Nat.le_of_ble_eq_true rfl, Nat.le_of_ble_eq_true rfl⟩ ⟨by show _ ≤ 601024; omega, by show _ ≤ 7293034; omega⟩ dL_law_369 (al_ki fun r2 I2 J2 h2 => ?_)
  refine al_istore (lv' := [(6, .int r2), (5, .int r)] ++ lw_lv b sz k) dL_law_372 (by decide) rfl ?_
  refine al_aload_n 4 dL_law_374 rfl rfl ?_
  refine al_callV wv_X10_thrown (M_X10_thrown hG (show wp_X10_thrown I2 J2 (fun r3 I3 J3 => r3 = I2 140 0 ∧ I3 = I2 ∧ J3 = J2) from ⟨rfl, rfl, rfl⟩)) ml_L_58 rfl (by decide) (lk140 hG) rfl rfl (Nat.le_of_ble_eq_true rfl) ⟨rfl, rfl⟩ ⟨Nat.le_of_ble_eq_true rfl, Nat.le_of_ble_eq_true rfl⟩ ⟨by show _ ≤ 601024; omega, by show _ ≤ 7293034; omega⟩ dL_law_375 (al_ki fun r3 I3 J3 h3 => ?_)
  obtain ⟨e3, e4, e5⟩ := h3
  rw [e4, e5]
  refine al_iload 1 dL_law_378 rfl ?_
  refine al_jeq 385 dL_law_380 (by decide) (fun _ => ?_) (fun c => absurd (e3.trans h2.2.1) c)
  refine al_iload 1 dL_law_385 rfl ?_
  have fin : LL b L xs Z l D cy sz G (C + 1) (S + 6) I2 J2 402 ([(6, .int r2), (5, .int r)] ++ lw_lv b sz k) [] := by
    refine al_goto 1473 dL_law_402 (by decide) ?_
    exact al_sub [2, 3, 4, 5, 6] rfl (nx I2 J2 h2.1)
  refine al_zne 402 dL_law_387 (by decide) (fun _ => fin) (fun c0 => ?_)
  refine al_aload_n 3 dL_law_390 rfl rfl ?_
  refine al_iconst (v := 0) dL_law_391 (by decide) ?_
  refine al_lld dL_law_392 ho.1 ho.2 (by unfold vp_in; decide) ?_
  refine al_iload 0 dL_law_393 rfl ?_
  refine al_i2l dL_law_395 ?_
  refine al_lcmp dL_law_396 ?_
  refine al_zeq 402 dL_law_397 (by decide) (fun _ => fin) (fun c => absurd ((lg_cmp_eq _ _).mpr (h2.2.2 c0)) c)
set_option maxRecDepth 20000 in
theorem lc_6 {b L C S k : Nat} {xs : Nat → Int32} {Z : List Frame → Array Value → State → State → Prop} {l : Launch} {D : va_G} {cy : Nat → ClassId} {sz : Nat} {G : sw_G} {I : sw_I} {J : sw_J} (hl : l.stackTraces = false) (hG : sw_lay G) (ho : sw_la G 174 1) (hk : 5 * k + 5 ≤ L) (hL : L ≤ 2560) (hC : C + 1 ≤ 601024) (hS : S + 6 ≤ 7293034) (hw : wW k I J) (nx : lw_N b L xs Z l D cy sz G C S k) : LL b L xs Z l D cy sz G C S I J 405 (lw_lv b sz k) [] := by
  refine al_aload_n 3 dL_law_405 rfl rfl ?_
  refine al_aload_n 4 dL_law_406 rfl rfl ?_
  refine al_iload 0 dL_law_407 rfl ?_
  refine al_iconst (v := 1) dL_law_409 (by decide) ?_
  refine al_iadd dL_law_410 ?_
  refine al_sld dL_law_411 (lw_in (j := 1) rfl hk hL (by decide)) ?_
  refine al_aload_n 4 dL_law_412 rfl rfl ?_
  refine al_iload 0 dL_law_413 rfl ?_
  refine al_iconst (v := 2) dL_law_415 (by decide) ?_
  refine al_iadd dL_law_416 ?_
  refine al_sld dL_law_417 (lw_in (j := 2) rfl hk hL (by decide)) ?_
  refine al_aload_n 4 dL_law_418 rfl rfl ?_
  refine al_iload 0 dL_law_419 rfl ?_
  refine al_iconst (v := 3) dL_law_421 (by decide) ?_
  refine al_iadd dL_law_422 ?_
  refine al_sld dL_law_423 (lw_in (j := 3) rfl hk hL (by decide)) ?_
  have h0 : wp_X9_set (xs (nI (5 * k) + 1).toNatClampNeg) (xs (nI (5 * k) + 2).toNatClampNeg) (xs (nI (5 * k) + 3).toNatClampNeg) I J (fun r I1 J1 => wp_X10_set (xs (nI (5 * k) + 1).toNatClampNeg) (xs (nI (5 * k) + 2).toNatClampNeg) (xs (nI (5 * k) + 3).toNatClampNeg) I1 J1 (fun r2 I2 J2 => r = r2 ∧ wW (k + 1) I2 J2)) := p_set hw (fun v I2 J2 w _ => ⟨rfl, (wW_succ w)⟩)
  refine al_callV wv_X9_set (M_X9_set hG h0) ml_L_61 rfl (by decide) (lk0 hG) rfl rfl (Nat.le_of_ble_eq_true rfl) ⟨rfl, rfl⟩ ⟨Nat.le_of_ble_eq_true rfl, Nat.le_of_ble_eq_true rfl⟩ ⟨by show _ ≤ 601024; omega, by show _ ≤ 7293034; omega⟩ dL_law_424 (al_ki fun r I1 J1 h1 => ?_)
  refine al_aload_n 2 dL_law_427 rfl rfl ?_
  refine al_aload_n 4 dL_law_428 rfl rfl ?_
  refine al_iload 0 dL_law_429 rfl ?_
  refine al_iconst (v := 1) dL_law_431 (by decide) ?_
  refine al_iadd dL_law_432 ?_
  refine al_sld dL_law_433 (lw_in (j := 1) rfl hk hL (by decide)) ?_
  refine al_aload_n 4 dL_law_434 rfl rfl ?_
  refine al_iload 0 dL_law_435 rfl ?_
  refine al_iconst (v := 2) dL_law_437 (by decide) ?_
  refine al_iadd dL_law_438 ?_
  refine al_sld dL_law_439 (lw_in (j := 2) rfl hk hL (by decide)) ?_
  refine al_aload_n 4 dL_law_440 rfl rfl ?_
  refine al_iload 0 dL_law_441 rfl ?_
  refine al_iconst (v := 3) dL_law_443 (by decide) ?_
  refine al_iadd dL_law_444 ?_
  refine al_sld dL_law_445 (lw_in (j := 3) rfl hk hL (by decide)) ?_
  refine al_callV wv_X10_set (M_X10_set hG h1) ml_L_65 rfl (by decide) (lk140 hG) rfl rfl (Nat.le_of_ble_eq_true rfl) ⟨rfl, rfl⟩ ⟨Nat.le_of_ble_eq_true rfl, Nat.le_of_ble_eq_true rfl⟩ ⟨by show _ ≤ 601024; omega, by show _ ≤ 7293034; omega⟩ dL_law_446 (al_ki fun r2 I2 J2 h2 => ?_)
  refine al_jeq 1473 dL_law_449 (by decide) (fun _ => ?_) (fun c => absurd h2.1 c)
  exact al_widen (C + 1) (S + 6) (by omega) (by omega) (nx I2 J2 h2.2)
set_option maxRecDepth 20000 in
theorem lc_7 {b L C S k : Nat} {xs : Nat → Int32} {Z : List Frame → Array Value → State → State → Prop} {l : Launch} {D : va_G} {cy : Nat → ClassId} {sz : Nat} {G : sw_G} {I : sw_I} {J : sw_J} (hl : l.stackTraces = false) (hG : sw_lay G) (ho : sw_la G 174 1) (hk : 5 * k + 5 ≤ L) (hL : L ≤ 2560) (hC : C + 1 ≤ 601024) (hS : S + 6 ≤ 7293034) (hw : wW k I J) (nx : lw_N b L xs Z l D cy sz G C S k) : LL b L xs Z l D cy sz G C S I J 454 (lw_lv b sz k) [] := by
  refine al_aload_n 3 dL_law_454 rfl rfl ?_
  refine al_aload_n 4 dL_law_455 rfl rfl ?_
  refine al_iload 0 dL_law_456 rfl ?_
  refine al_iconst (v := 1) dL_law_458 (by decide) ?_
  refine al_iadd dL_law_459 ?_
  refine al_sld dL_law_460 (lw_in (j := 1) rfl hk hL (by decide)) ?_
  refine al_aload_n 4 dL_law_461 rfl rfl ?_
  refine al_iload 0 dL_law_462 rfl ?_
  refine al_iconst (v := 2) dL_law_464 (by decide) ?_
  refine al_iadd dL_law_465 ?_
  refine al_sld dL_law_466 (lw_in (j := 2) rfl hk hL (by decide)) ?_
  refine al_aload_n 4 dL_law_467 rfl rfl ?_
  refine al_iload 0 dL_law_468 rfl ?_
  refine al_iconst (v := 3) dL_law_470 (by decide) ?_
  refine al_iadd dL_law_471 ?_
  refine al_sld dL_law_472 (lw_in (j := 3) rfl hk hL (by decide)) ?_
  refine al_aload_n 4 dL_law_473 rfl rfl ?_
  refine al_iload 0 dL_law_474 rfl ?_
  refine al_iconst (v := 4) dL_law_476 (by decide) ?_
  refine al_iadd dL_law_477 ?_
  refine al_sld dL_law_478 (lw_in (j := 4) rfl hk hL (by decide)) ?_
  have h0 : wp_X9_sheet (xs (nI (5 * k) + 1).toNatClampNeg) (xs (nI (5 * k) + 2).toNatClampNeg) (xs (nI (5 * k) + 3).toNatClampNeg) (xs (nI (5 * k) + 4).toNatClampNeg) I J (fun r I1 J1 => wp_X10_sheet (xs (nI (5 * k) + 1).toNatClampNeg) (xs (nI (5 * k) + 2).toNatClampNeg) (xs (nI (5 * k) + 3).toNatClampNeg) (xs (nI (5 * k) + 4).toNatClampNeg) I1 J1 (fun r2 I2 J2 => r = r2 ∧ wW (k + 1) I2 J2)) := p_sheet hw (fun v I2 J2 w _ => ⟨rfl, (wW_succ w)⟩)
  refine al_callV wv_X9_sheet (M_X9_sheet hG h0) ml_L_66 rfl (by decide) (lk0 hG) rfl rfl (Nat.le_of_ble_eq_true rfl) ⟨rfl, rfl⟩ ⟨Nat.le_of_ble_eq_true rfl, Nat.le_of_ble_eq_true rfl⟩ ⟨by show _ ≤ 601024; omega, by show _ ≤ 7293034; omega⟩ dL_law_479 (al_ki fun r I1 J1 h1 => ?_)
  refine al_aload_n 2 dL_law_482 rfl rfl ?_
  refine al_aload_n 4 dL_law_483 rfl rfl ?_
  refine al_iload 0 dL_law_484 rfl ?_
  refine al_iconst (v := 1) dL_law_486 (by decide) ?_
  refine al_iadd dL_law_487 ?_
  refine al_sld dL_law_488 (lw_in (j := 1) rfl hk hL (by decide)) ?_
  refine al_aload_n 4 dL_law_489 rfl rfl ?_
  refine al_iload 0 dL_law_490 rfl ?_
  refine al_iconst (v := 2) dL_law_492 (by decide) ?_
  refine al_iadd dL_law_493 ?_
  refine al_sld dL_law_494 (lw_in (j := 2) rfl hk hL (by decide)) ?_
  refine al_aload_n 4 dL_law_495 rfl rfl ?_
  refine al_iload 0 dL_law_496 rfl ?_
  refine al_iconst (v := 3) dL_law_498 (by decide) ?_
  refine al_iadd dL_law_499 ?_
  refine al_sld dL_law_500 (lw_in (j := 3) rfl hk hL (by decide)) ?_
  refine al_aload_n 4 dL_law_501 rfl rfl ?_
  refine al_iload 0 dL_law_502 rfl ?_
  refine al_iconst (v := 4) dL_law_504 (by decide) ?_
  refine al_iadd dL_law_505 ?_
  refine al_sld dL_law_506 (lw_in (j := 4) rfl hk hL (by decide)) ?_
  refine al_callV wv_X10_sheet (M_X10_sheet hG h1) ml_L_70 rfl (by decide) (lk140 hG) rfl rfl (Nat.le_of_ble_eq_true rfl) ⟨rfl, rfl⟩ ⟨Nat.le_of_ble_eq_true rfl, Nat.le_of_ble_eq_true rfl⟩ ⟨by show _ ≤ 601024; omega, by show _ ≤ 7293034; omega⟩ dL_law_507 (al_ki fun r2 I2 J2 h2 => ?_)
  refine al_jeq 1473 dL_law_510 (by decide) (fun _ => ?_) (fun c => absurd h2.1 c)
  exact al_widen (C + 1) (S + 6) (by omega) (by omega) (nx I2 J2 h2.2)
set_option maxRecDepth 20000 in
theorem lc_8 {b L C S k : Nat} {xs : Nat → Int32} {Z : List Frame → Array Value → State → State → Prop} {l : Launch} {D : va_G} {cy : Nat → ClassId} {sz : Nat} {G : sw_G} {I : sw_I} {J : sw_J} (hl : l.stackTraces = false) (hG : sw_lay G) (ho : sw_la G 174 1) (hk : 5 * k + 5 ≤ L) (hL : L ≤ 2560) (hC : C + 1 ≤ 601024) (hS : S + 6 ≤ 7293034) (hw : wW k I J) (nx : lw_N b L xs Z l D cy sz G C S k) : LL b L xs Z l D cy sz G C S I J 515 (lw_lv b sz k) [] := by
  refine al_aload_n 3 dL_law_515 rfl rfl ?_
  refine al_aload_n 4 dL_law_516 rfl rfl ?_
  refine al_iload 0 dL_law_517 rfl ?_
  refine al_iconst (v := 1) dL_law_519 (by decide) ?_
  refine al_iadd dL_law_520 ?_
  refine al_sld dL_law_521 (lw_in (j := 1) rfl hk hL (by decide)) ?_
  have h0 : wp_X9_dog (xs (nI (5 * k) + 1).toNatClampNeg) I J (fun r I1 J1 => wp_X10_dog (xs (nI (5 * k) + 1).toNatClampNeg) I1 J1 (fun r2 I2 J2 => r = r2 ∧ wW (k + 1) I2 J2)) := p_dog hw (fun v I2 J2 w _ => ⟨rfl, (wW_succ w)⟩)
  refine al_callV wv_X9_dog (M_X9_dog hG h0) ml_L_71 rfl (by decide) (lk0 hG) rfl rfl (Nat.le_of_ble_eq_true rfl) ⟨rfl, rfl⟩ ⟨Nat.le_of_ble_eq_true rfl, Nat.le_of_ble_eq_true rfl⟩ ⟨by show _ ≤ 601024; omega, by show _ ≤ 7293034; omega⟩ dL_law_522 (al_ki fun r I1 J1 h1 => ?_)
  refine al_aload_n 2 dL_law_525 rfl rfl ?_
  refine al_aload_n 4 dL_law_526 rfl rfl ?_
  refine al_iload 0 dL_law_527 rfl ?_
  refine al_iconst (v := 1) dL_law_529 (by decide) ?_
  refine al_iadd dL_law_530 ?_
  refine al_sld dL_law_531 (lw_in (j := 1) rfl hk hL (by decide)) ?_
  refine al_callV wv_X10_dog (M_X10_dog hG h1) ml_L_74 rfl (by decide) (lk140 hG) rfl rfl (Nat.le_of_ble_eq_true rfl) ⟨rfl, rfl⟩ ⟨Nat.le_of_ble_eq_true rfl, Nat.le_of_ble_eq_true rfl⟩ ⟨by show _ ≤ 601024; omega, by show _ ≤ 7293034; omega⟩ dL_law_532 (al_ki fun r2 I2 J2 h2 => ?_)
  refine al_jeq 1473 dL_law_535 (by decide) (fun _ => ?_) (fun c => absurd h2.1 c)
  exact al_widen (C + 1) (S + 6) (by omega) (by omega) (nx I2 J2 h2.2)
set_option maxRecDepth 20000 in
theorem lc_9 {b L C S k : Nat} {xs : Nat → Int32} {Z : List Frame → Array Value → State → State → Prop} {l : Launch} {D : va_G} {cy : Nat → ClassId} {sz : Nat} {G : sw_G} {I : sw_I} {J : sw_J} (hl : l.stackTraces = false) (hG : sw_lay G) (ho : sw_la G 174 1) (hk : 5 * k + 5 ≤ L) (hL : L ≤ 2560) (hC : C + 1 ≤ 601024) (hS : S + 6 ≤ 7293034) (hw : wW k I J) (nx : lw_N b L xs Z l D cy sz G C S k) : LL b L xs Z l D cy sz G C S I J 540 (lw_lv b sz k) [] := by
  refine al_aload_n 3 dL_law_540 rfl rfl ?_
  refine al_aload_n 4 dL_law_541 rfl rfl ?_
  refine al_iload 0 dL_law_542 rfl ?_
  refine al_iconst (v := 1) dL_law_544 (by decide) ?_
  refine al_iadd dL_law_545 ?_
  refine al_sld dL_law_546 (lw_in (j := 1) rfl hk hL (by decide)) ?_
  refine al_aload_n 4 dL_law_547 rfl rfl ?_
  refine al_iload 0 dL_law_548 rfl ?_
  refine al_iconst (v := 2) dL_law_550 (by decide) ?_
  refine al_iadd dL_law_551 ?_
  refine al_sld dL_law_552 (lw_in (j := 2) rfl hk hL (by decide)) ?_
  have h0 : wp_X9_crowd (xs (nI (5 * k) + 1).toNatClampNeg) (xs (nI (5 * k) + 2).toNatClampNeg) I J (fun r I1 J1 => wp_X10_crowd (xs (nI (5 * k) + 1).toNatClampNeg) (xs (nI (5 * k) + 2).toNatClampNeg) I1 J1 (fun r2 I2 J2 => r = r2 ∧ wW (k + 1) I2 J2)) := p_crowd hw (fun v I2 J2 w _ => ⟨rfl, w⟩)
  refine al_callV wv_X9_crowd (M_X9_crowd hG h0) ml_L_75 rfl (by decide) (lk0 hG) rfl rfl (Nat.le_of_ble_eq_true rfl) ⟨rfl, rfl⟩ ⟨Nat.le_of_ble_eq_true rfl, Nat.le_of_ble_eq_true rfl⟩ ⟨by show _ ≤ 601024; omega, by show _ ≤ 7293034; omega⟩ dL_law_553 (al_ki fun r I1 J1 h1 => ?_)
  refine al_aload_n 2 dL_law_556 rfl rfl ?_
  refine al_aload_n 4 dL_law_557 rfl rfl ?_
  refine al_iload 0 dL_law_558 rfl ?_
  refine al_iconst (v := 1) dL_law_560 (by decide) ?_
  refine al_iadd dL_law_561 ?_
  refine al_sld dL_law_562 (lw_in (j := 1) rfl hk hL (by decide)) ?_
  refine al_aload_n 4 dL_law_563 rfl rfl ?_
  refine al_iload 0 dL_law_564 rfl ?_
  refine al_iconst (v := 2) dL_law_566 (by decide) ?_
  refine al_iadd dL_law_567 ?_
  refine al_sld dL_law_568 (lw_in (j := 2) rfl hk hL (by decide)) ?_
  refine al_callV wv_X10_crowd (M_X10_crowd hG h1) ml_L_78 rfl (by decide) (lk140 hG) rfl rfl (Nat.le_of_ble_eq_true rfl) ⟨rfl, rfl⟩ ⟨Nat.le_of_ble_eq_true rfl, Nat.le_of_ble_eq_true rfl⟩ ⟨by show _ ≤ 601024; omega, by show _ ≤ 7293034; omega⟩ dL_law_569 (al_ki fun r2 I2 J2 h2 => ?_)
  refine al_jeq 1473 dL_law_572 (by decide) (fun _ => ?_) (fun c => absurd h2.1 c)
  exact al_widen (C + 1) (S + 6) (by omega) (by omega) (nx I2 J2 h2.2)
set_option maxRecDepth 20000 in
theorem lc_10 {b L C S k : Nat} {xs : Nat → Int32} {Z : List Frame → Array Value → State → State → Prop} {l : Launch} {D : va_G} {cy : Nat → ClassId} {sz : Nat} {G : sw_G} {I : sw_I} {J : sw_J} (hl : l.stackTraces = false) (hG : sw_lay G) (ho : sw_la G 174 1) (hk : 5 * k + 5 ≤ L) (hL : L ≤ 2560) (hC : C + 1 ≤ 601024) (hS : S + 6 ≤ 7293034) (hw : wW k I J) (nx : lw_N b L xs Z l D cy sz G C S k) : LL b L xs Z l D cy sz G C S I J 577 (lw_lv b sz k) [] := by
  refine al_aload_n 3 dL_law_577 rfl rfl ?_
  refine al_aload_n 4 dL_law_578 rfl rfl ?_
  refine al_iload 0 dL_law_579 rfl ?_
  refine al_iconst (v := 1) dL_law_581 (by decide) ?_
  refine al_iadd dL_law_582 ?_
  refine al_sld dL_law_583 (lw_in (j := 1) rfl hk hL (by decide)) ?_
  have h0 : wp_X9_enter (xs (nI (5 * k) + 1).toNatClampNeg) I J (fun r I1 J1 => wp_X10_enter (xs (nI (5 * k) + 1).toNatClampNeg) I1 J1 (fun r2 I2 J2 => r = r2 ∧ wW (k + 1) I2 J2)) := p_enter hw (fun v I2 J2 w _ => ⟨rfl, (wW_succ w)⟩)
  refine al_callV wv_X9_enter (M_X9_enter hG h0) ml_L_79 rfl (by decide) (lk0 hG) rfl rfl (Nat.le_of_ble_eq_true rfl) ⟨rfl, rfl⟩ ⟨Nat.le_of_ble_eq_true rfl, Nat.le_of_ble_eq_true rfl⟩ ⟨by show _ ≤ 601024; omega, by show _ ≤ 7293034; omega⟩ dL_law_584 (al_ki fun r I1 J1 h1 => ?_)
  refine al_aload_n 2 dL_law_587 rfl rfl ?_
  refine al_aload_n 4 dL_law_588 rfl rfl ?_
  refine al_iload 0 dL_law_589 rfl ?_
  refine al_iconst (v := 1) dL_law_591 (by decide) ?_
  refine al_iadd dL_law_592 ?_
  refine al_sld dL_law_593 (lw_in (j := 1) rfl hk hL (by decide)) ?_
  refine al_callV wv_X10_enter (M_X10_enter hG h1) ml_L_82 rfl (by decide) (lk140 hG) rfl rfl (Nat.le_of_ble_eq_true rfl) ⟨rfl, rfl⟩ ⟨Nat.le_of_ble_eq_true rfl, Nat.le_of_ble_eq_true rfl⟩ ⟨by show _ ≤ 601024; omega, by show _ ≤ 7293034; omega⟩ dL_law_594 (al_ki fun r2 I2 J2 h2 => ?_)
  refine al_jeq 1473 dL_law_597 (by decide) (fun _ => ?_) (fun c => absurd h2.1 c)
  exact al_widen (C + 1) (S + 6) (by omega) (by omega) (nx I2 J2 h2.2)
set_option maxRecDepth 20000 in
theorem lc_11 {b L C S k : Nat} {xs : Nat → Int32} {Z : List Frame → Array Value → State → State → Prop} {l : Launch} {D : va_G} {cy : Nat → ClassId} {sz : Nat} {G : sw_G} {I : sw_I} {J : sw_J} (hl : l.stackTraces = false) (hG : sw_lay G) (ho : sw_la G 174 1) (hk : 5 * k + 5 ≤ L) (hL : L ≤ 2560) (hC : C + 1 ≤ 601024) (hS : S + 6 ≤ 7293034) (hw : wW k I J) (nx : lw_N b L xs Z l D cy sz G C S k) : LL b L xs Z l D cy sz G C S I J 602 (lw_lv b sz k) [] := by
  refine al_aload_n 3 dL_law_602 rfl rfl ?_
  refine al_aload_n 4 dL_law_603 rfl rfl ?_
  refine al_iload 0 dL_law_604 rfl ?_
  refine al_iconst (v := 1) dL_law_606 (by decide) ?_
  refine al_iadd dL_law_607 ?_
  refine al_sld dL_law_608 (lw_in (j := 1) rfl hk hL (by decide)) ?_
  have h0 : wp_X9_leave (xs (nI (5 * k) + 1).toNatClampNeg) I J (fun r I1 J1 => wp_X10_leave (xs (nI (5 * k) + 1).toNatClampNeg) I1 J1 (fun r2 I2 J2 => r = r2 ∧ wW (k + 1) I2 J2)) := p_leave hw (fun v I2 J2 w _ => ⟨rfl, (wW_succ w)⟩)
  refine al_callV wv_X9_leave (M_X9_leave hG h0) ml_L_83 rfl (by decide) (lk0 hG) rfl rfl (Nat.le_of_ble_eq_true rfl) ⟨rfl, rfl⟩ ⟨Nat.le_of_ble_eq_true rfl, Nat.le_of_ble_eq_true rfl⟩ ⟨by show _ ≤ 601024; omega, by show _ ≤ 7293034; omega⟩ dL_law_609 (al_ki fun r I1 J1 h1 => ?_)
  refine al_aload_n 2 dL_law_612 rfl rfl ?_
  refine al_aload_n 4 dL_law_613 rfl rfl ?_
  refine al_iload 0 dL_law_614 rfl ?_
  refine al_iconst (v := 1) dL_law_616 (by decide) ?_
  refine al_iadd dL_law_617 ?_
  refine al_sld dL_law_618 (lw_in (j := 1) rfl hk hL (by decide)) ?_
  refine al_callV wv_X10_leave (M_X10_leave hG h1) ml_L_86 rfl (by decide) (lk140 hG) rfl rfl (Nat.le_of_ble_eq_true rfl) ⟨rfl, rfl⟩ ⟨Nat.le_of_ble_eq_true rfl, Nat.le_of_ble_eq_true rfl⟩ ⟨by show _ ≤ 601024; omega, by show _ ≤ 7293034; omega⟩ dL_law_619 (al_ki fun r2 I2 J2 h2 => ?_)
  refine al_jeq 1473 dL_law_622 (by decide) (fun _ => ?_) (fun c => absurd h2.1 c)
  exact al_widen (C + 1) (S + 6) (by omega) (by omega) (nx I2 J2 h2.2)
set_option maxRecDepth 20000 in
theorem lc_12 {b L C S k : Nat} {xs : Nat → Int32} {Z : List Frame → Array Value → State → State → Prop} {l : Launch} {D : va_G} {cy : Nat → ClassId} {sz : Nat} {G : sw_G} {I : sw_I} {J : sw_J} (hl : l.stackTraces = false) (hG : sw_lay G) (ho : sw_la G 174 1) (hk : 5 * k + 5 ≤ L) (hL : L ≤ 2560) (hC : C + 1 ≤ 601024) (hS : S + 6 ≤ 7293034) (hw : wW k I J) (nx : lw_N b L xs Z l D cy sz G C S k) : LL b L xs Z l D cy sz G C S I J 627 (lw_lv b sz k) [] := by
  refine al_aload_n 3 dL_law_627 rfl rfl ?_
  have h0 : wp_X9_ride  I J (fun r I1 J1 => wp_X10_ride  I1 J1 (fun r2 I2 J2 => r = r2 ∧ wW (k + 1) I2 J2)) := p_ride hw (fun v I2 J2 w _ => ⟨rfl, w⟩)
  refine al_callV wv_X9_ride (M_X9_ride hG h0) ml_L_87 rfl (by decide) (lk0 hG) rfl rfl (Nat.le_of_ble_eq_true rfl) ⟨rfl, rfl⟩ ⟨Nat.le_of_ble_eq_true rfl, Nat.le_of_ble_eq_true rfl⟩ ⟨by show _ ≤ 601024; omega, by show _ ≤ 7293034; omega⟩ dL_law_628 (al_ki fun r I1 J1 h1 => ?_)
  refine al_aload_n 2 dL_law_631 rfl rfl ?_
  refine al_callV wv_X10_ride (M_X10_ride hG h1) ml_L_90 rfl (by decide) (lk140 hG) rfl rfl (Nat.le_of_ble_eq_true rfl) ⟨rfl, rfl⟩ ⟨Nat.le_of_ble_eq_true rfl, Nat.le_of_ble_eq_true rfl⟩ ⟨by show _ ≤ 601024; omega, by show _ ≤ 7293034; omega⟩ dL_law_632 (al_ki fun r2 I2 J2 h2 => ?_)
  refine al_jeq 1473 dL_law_635 (by decide) (fun _ => ?_) (fun c => absurd h2.1 c)
  exact al_widen (C + 1) (S + 6) (by omega) (by omega) (nx I2 J2 h2.2)
set_option maxRecDepth 20000 in
theorem lc_13 {b L C S k : Nat} {xs : Nat → Int32} {Z : List Frame → Array Value → State → State → Prop} {l : Launch} {D : va_G} {cy : Nat → ClassId} {sz : Nat} {G : sw_G} {I : sw_I} {J : sw_J} (hl : l.stackTraces = false) (hG : sw_lay G) (ho : sw_la G 174 1) (hk : 5 * k + 5 ≤ L) (hL : L ≤ 2560) (hC : C + 1 ≤ 601024) (hS : S + 6 ≤ 7293034) (hw : wW k I J) (nx : lw_N b L xs Z l D cy sz G C S k) : LL b L xs Z l D cy sz G C S I J 640 (lw_lv b sz k) [] := by
  refine al_aload_n 3 dL_law_640 rfl rfl ?_
  refine al_aload_n 4 dL_law_641 rfl rfl ?_
  refine al_iload 0 dL_law_642 rfl ?_
  refine al_iconst (v := 1) dL_law_644 (by decide) ?_
  refine al_iadd dL_law_645 ?_
  refine al_sld dL_law_646 (lw_in (j := 1) rfl hk hL (by decide)) ?_
  have h0 : wp_X9_rides (xs (nI (5 * k) + 1).toNatClampNeg) I J (fun r I1 J1 => wp_X10_rides (xs (nI (5 * k) + 1).toNatClampNeg) I1 J1 (fun r2 I2 J2 => r = r2 ∧ wW (k + 1) I2 J2)) := p_rides hw (fun v I2 J2 w _ => ⟨rfl, w⟩)
  refine al_callV wv_X9_rides (M_X9_rides hG h0) ml_L_91 rfl (by decide) (lk0 hG) rfl rfl (Nat.le_of_ble_eq_true rfl) ⟨rfl, rfl⟩ ⟨Nat.le_of_ble_eq_true rfl, Nat.le_of_ble_eq_true rfl⟩ ⟨by show _ ≤ 601024; omega, by show _ ≤ 7293034; omega⟩ dL_law_647 (al_ki fun r I1 J1 h1 => ?_)
  refine al_aload_n 2 dL_law_650 rfl rfl ?_
  refine al_aload_n 4 dL_law_651 rfl rfl ?_
  refine al_iload 0 dL_law_652 rfl ?_
  refine al_iconst (v := 1) dL_law_654 (by decide) ?_
  refine al_iadd dL_law_655 ?_
  refine al_sld dL_law_656 (lw_in (j := 1) rfl hk hL (by decide)) ?_
  refine al_callV wv_X10_rides (M_X10_rides hG h1) ml_L_94 rfl (by decide) (lk140 hG) rfl rfl (Nat.le_of_ble_eq_true rfl) ⟨rfl, rfl⟩ ⟨Nat.le_of_ble_eq_true rfl, Nat.le_of_ble_eq_true rfl⟩ ⟨by show _ ≤ 601024; omega, by show _ ≤ 7293034; omega⟩ dL_law_657 (al_ki fun r2 I2 J2 h2 => ?_)
  refine al_jeq 1473 dL_law_660 (by decide) (fun _ => ?_) (fun c => absurd h2.1 c)
  exact al_widen (C + 1) (S + 6) (by omega) (by omega) (nx I2 J2 h2.2)
set_option maxRecDepth 20000 in
theorem lc_14 {b L C S k : Nat} {xs : Nat → Int32} {Z : List Frame → Array Value → State → State → Prop} {l : Launch} {D : va_G} {cy : Nat → ClassId} {sz : Nat} {G : sw_G} {I : sw_I} {J : sw_J} (hl : l.stackTraces = false) (hG : sw_lay G) (ho : sw_la G 174 1) (hk : 5 * k + 5 ≤ L) (hL : L ≤ 2560) (hC : C + 1 ≤ 601024) (hS : S + 6 ≤ 7293034) (hw : wW k I J) (nx : lw_N b L xs Z l D cy sz G C S k) : LL b L xs Z l D cy sz G C S I J 665 (lw_lv b sz k) [] := by
  refine al_aload_n 3 dL_law_665 rfl rfl ?_
  have h0 : wp_X9_day  I J (fun r I1 J1 => wp_X10_day  I1 J1 (fun r2 I2 J2 => r = r2 ∧ wW (k + 1) I2 J2)) := p_day hw (fun v I2 J2 w _ => ⟨rfl, w⟩)
  refine al_callV wv_X9_day (M_X9_day hG h0) ml_L_95 rfl (by decide) (lk0 hG) rfl rfl (Nat.le_of_ble_eq_true rfl) ⟨rfl, rfl⟩ ⟨Nat.le_of_ble_eq_true rfl, Nat.le_of_ble_eq_true rfl⟩ ⟨by show _ ≤ 601024; omega, by show _ ≤ 7293034; omega⟩ dL_law_666 (al_ki fun r I1 J1 h1 => ?_)
  refine al_aload_n 2 dL_law_669 rfl rfl ?_
  refine al_callV wv_X10_day (M_X10_day hG h1) ml_L_98 rfl (by decide) (lk140 hG) rfl rfl (Nat.le_of_ble_eq_true rfl) ⟨rfl, rfl⟩ ⟨Nat.le_of_ble_eq_true rfl, Nat.le_of_ble_eq_true rfl⟩ ⟨by show _ ≤ 601024; omega, by show _ ≤ 7293034; omega⟩ dL_law_670 (al_ki fun r2 I2 J2 h2 => ?_)
  refine al_jeq 1473 dL_law_673 (by decide) (fun _ => ?_) (fun c => absurd h2.1 c)
  exact al_widen (C + 1) (S + 6) (by omega) (by omega) (nx I2 J2 h2.2)
set_option maxRecDepth 20000 in
theorem lc_15 {b L C S k : Nat} {xs : Nat → Int32} {Z : List Frame → Array Value → State → State → Prop} {l : Launch} {D : va_G} {cy : Nat → ClassId} {sz : Nat} {G : sw_G} {I : sw_I} {J : sw_J} (hl : l.stackTraces = false) (hG : sw_lay G) (ho : sw_la G 174 1) (hk : 5 * k + 5 ≤ L) (hL : L ≤ 2560) (hC : C + 1 ≤ 601024) (hS : S + 6 ≤ 7293034) (hw : wW k I J) (nx : lw_N b L xs Z l D cy sz G C S k) : LL b L xs Z l D cy sz G C S I J 678 (lw_lv b sz k) [] := by
  refine al_aload_n 3 dL_law_678 rfl rfl ?_
  have h0 : wp_X9_undo  I J (fun r I1 J1 => wp_X10_undo  I1 J1 (fun r2 I2 J2 => r = r2 ∧ wW (k + 1) I2 J2)) := p_undo hw (fun v I2 J2 w _ => ⟨rfl, (wW_succ w)⟩)
  refine al_callV wv_X9_undo (M_X9_undo hG h0) ml_L_99 rfl (by decide) (lk0 hG) rfl rfl (Nat.le_of_ble_eq_true rfl) ⟨rfl, rfl⟩ ⟨Nat.le_of_ble_eq_true rfl, Nat.le_of_ble_eq_true rfl⟩ ⟨by show _ ≤ 601024; omega, by show _ ≤ 7293034; omega⟩ dL_law_679 (al_ki fun r I1 J1 h1 => ?_)
  refine al_aload_n 2 dL_law_682 rfl rfl ?_
  refine al_callV wv_X10_undo (M_X10_undo hG h1) ml_L_102 rfl (by decide) (lk140 hG) rfl rfl (Nat.le_of_ble_eq_true rfl) ⟨rfl, rfl⟩ ⟨Nat.le_of_ble_eq_true rfl, Nat.le_of_ble_eq_true rfl⟩ ⟨by show _ ≤ 601024; omega, by show _ ≤ 7293034; omega⟩ dL_law_683 (al_ki fun r2 I2 J2 h2 => ?_)
  refine al_jeq 1473 dL_law_686 (by decide) (fun _ => ?_) (fun c => absurd h2.1 c)
  exact al_widen (C + 1) (S + 6) (by omega) (by omega) (nx I2 J2 h2.2)
set_option maxRecDepth 20000 in
theorem lc_16 {b L C S k : Nat} {xs : Nat → Int32} {Z : List Frame → Array Value → State → State → Prop} {l : Launch} {D : va_G} {cy : Nat → ClassId} {sz : Nat} {G : sw_G} {I : sw_I} {J : sw_J} (hl : l.stackTraces = false) (hG : sw_lay G) (ho : sw_la G 174 1) (hk : 5 * k + 5 ≤ L) (hL : L ≤ 2560) (hC : C + 1 ≤ 601024) (hS : S + 6 ≤ 7293034) (hw : wW k I J) (nx : lw_N b L xs Z l D cy sz G C S k) : LL b L xs Z l D cy sz G C S I J 691 (lw_lv b sz k) [] := by
  refine al_aload_n 3 dL_law_691 rfl rfl ?_
  have h0 : wp_X9_stop  I J (fun r I1 J1 => wp_X10_stop  I1 J1 (fun r2 I2 J2 => r = r2 ∧ wW (k + 1) I2 J2)) := p_stop hw (fun v I2 J2 w _ => ⟨rfl, (wW_succ w)⟩)
  refine al_callV wv_X9_stop (M_X9_stop hG h0) ml_L_103 rfl (by decide) (lk0 hG) rfl rfl (Nat.le_of_ble_eq_true rfl) ⟨rfl, rfl⟩ ⟨Nat.le_of_ble_eq_true rfl, Nat.le_of_ble_eq_true rfl⟩ ⟨by show _ ≤ 601024; omega, by show _ ≤ 7293034; omega⟩ dL_law_692 (al_ki fun r I1 J1 h1 => ?_)
  refine al_aload_n 2 dL_law_695 rfl rfl ?_
  refine al_callV wv_X10_stop (M_X10_stop hG h1) ml_L_106 rfl (by decide) (lk140 hG) rfl rfl (Nat.le_of_ble_eq_true rfl) ⟨rfl, rfl⟩ ⟨Nat.le_of_ble_eq_true rfl, Nat.le_of_ble_eq_true rfl⟩ ⟨by show _ ≤ 601024; omega, by show _ ≤ 7293034; omega⟩ dL_law_696 (al_ki fun r2 I2 J2 h2 => ?_)
  refine al_jeq 1473 dL_law_699 (by decide) (fun _ => ?_) (fun c => absurd h2.1 c)
  exact al_widen (C + 1) (S + 6) (by omega) (by omega) (nx I2 J2 h2.2)
set_option maxRecDepth 20000 in
theorem lc_17 {b L C S k : Nat} {xs : Nat → Int32} {Z : List Frame → Array Value → State → State → Prop} {l : Launch} {D : va_G} {cy : Nat → ClassId} {sz : Nat} {G : sw_G} {I : sw_I} {J : sw_J} (hl : l.stackTraces = false) (hG : sw_lay G) (ho : sw_la G 174 1) (hk : 5 * k + 5 ≤ L) (hL : L ≤ 2560) (hC : C + 1 ≤ 601024) (hS : S + 6 ≤ 7293034) (hw : wW k I J) (nx : lw_N b L xs Z l D cy sz G C S k) : LL b L xs Z l D cy sz G C S I J 704 (lw_lv b sz k) [] := by
  refine al_aload_n 3 dL_law_704 rfl rfl ?_
  refine al_aload_n 4 dL_law_705 rfl rfl ?_
  refine al_iload 0 dL_law_706 rfl ?_
  refine al_iconst (v := 1) dL_law_708 (by decide) ?_
  refine al_iadd dL_law_709 ?_
  refine al_sld dL_law_710 (lw_in (j := 1) rfl hk hL (by decide)) ?_
  have h0 : wp_X9_goes (xs (nI (5 * k) + 1).toNatClampNeg) I J (fun r I1 J1 => wp_X10_goes (xs (nI (5 * k) + 1).toNatClampNeg) I1 J1 (fun r2 I2 J2 => r = r2 ∧ wW (k + 1) I2 J2)) := p_goes hw (fun v I2 J2 w _ => ⟨rfl, (wW_succ w)⟩)
  refine al_callV wv_X9_goes (M_X9_goes hG h0) ml_L_107 rfl (by decide) (lk0 hG) rfl rfl (Nat.le_of_ble_eq_true rfl) ⟨rfl, rfl⟩ ⟨Nat.le_of_ble_eq_true rfl, Nat.le_of_ble_eq_true rfl⟩ ⟨by show _ ≤ 601024; omega, by show _ ≤ 7293034; omega⟩ dL_law_711 (al_ki fun r I1 J1 h1 => ?_)
  refine al_aload_n 2 dL_law_714 rfl rfl ?_
  refine al_aload_n 4 dL_law_715 rfl rfl ?_
  refine al_iload 0 dL_law_716 rfl ?_
  refine al_iconst (v := 1) dL_law_718 (by decide) ?_
  refine al_iadd dL_law_719 ?_
  refine al_sld dL_law_720 (lw_in (j := 1) rfl hk hL (by decide)) ?_
  refine al_callV wv_X10_goes (M_X10_goes hG h1) ml_L_110 rfl (by decide) (lk140 hG) rfl rfl (Nat.le_of_ble_eq_true rfl) ⟨rfl, rfl⟩ ⟨Nat.le_of_ble_eq_true rfl, Nat.le_of_ble_eq_true rfl⟩ ⟨by show _ ≤ 601024; omega, by show _ ≤ 7293034; omega⟩ dL_law_721 (al_ki fun r2 I2 J2 h2 => ?_)
  refine al_jeq 1473 dL_law_724 (by decide) (fun _ => ?_) (fun c => absurd h2.1 c)
  exact al_widen (C + 1) (S + 6) (by omega) (by omega) (nx I2 J2 h2.2)
set_option maxRecDepth 20000 in
theorem lc_18 {b L C S k : Nat} {xs : Nat → Int32} {Z : List Frame → Array Value → State → State → Prop} {l : Launch} {D : va_G} {cy : Nat → ClassId} {sz : Nat} {G : sw_G} {I : sw_I} {J : sw_J} (hl : l.stackTraces = false) (hG : sw_lay G) (ho : sw_la G 174 1) (hk : 5 * k + 5 ≤ L) (hL : L ≤ 2560) (hC : C + 1 ≤ 601024) (hS : S + 6 ≤ 7293034) (hw : wW k I J) (nx : lw_N b L xs Z l D cy sz G C S k) : LL b L xs Z l D cy sz G C S I J 729 (lw_lv b sz k) [] := by
  refine al_aload_n 3 dL_law_729 rfl rfl ?_
  refine al_aload_n 4 dL_law_730 rfl rfl ?_
  refine al_iload 0 dL_law_731 rfl ?_
  refine al_iconst (v := 1) dL_law_733 (by decide) ?_
  refine al_iadd dL_law_734 ?_
  refine al_sld dL_law_735 (lw_in (j := 1) rfl hk hL (by decide)) ?_
  refine al_aload_n 1 dL_law_736 rfl rfl ?_
  have h0 := p_worthOf (o := 174) (x1 := xs (nI (5 * k) + 1).toNatClampNeg) (Q := fun r r2 I2 J2 => wW (k + 1) I2 J2 ∧ I2 140 0 = r ∧ (r = 0 → J2 174 0 = r2.toInt64)) (by decide) (by decide) hw (fun v v2 I2 J2 w e1 e2 => ⟨wW_succ w, e1, e2⟩)
  refine al_callSW wv_L_worthOf (M_L_worthOf hl hG ho h0) ml_L_111 rfl rfl (Nat.le_of_ble_eq_true rfl) ⟨rfl, rfl⟩ ⟨Nat.le_of_ble_eq_true rfl, Nat.le_of_ble_eq_true rfl⟩ ⟨by show _ ≤ 601024; omega, by show _ ≤ 7293034; omega⟩ dL_law_737 (fun r9 G9 I1 J1 hq => ?_)
  obtain ⟨eG, r, er, h1⟩ := hq
  rw [eG, er]
  refine al_istore (lv' := [(5, .int r)] ++ lw_lv b sz k) dL_law_740 (by decide) rfl ?_
  refine al_aload_n 3 dL_law_742 rfl rfl ?_
  refine al_aload_n 5 dL_law_743 rfl rfl ?_
  refine al_iload 1 dL_law_744 rfl ?_
  refine al_iconst (v := 1) dL_law_746 (by decide) ?_
  refine al_iadd dL_law_747 ?_
  refine al_sld dL_law_748 (lw_in (j := 1) rfl hk hL (by decide)) ?_
  refine al_callV wv_X10_worthOf (M_X10_worthOf hG h1) ml_L_114 rfl (by decide) (lk140 hG) rfl rfl (Nat.le_of_ble_eq_true rfl) ⟨rfl, rfl⟩ ⟨Nat.le_of_ble_eq_true rfl, Nat.le_of_ble_eq_true rfl⟩ ⟨by show _ ≤ 601024; omega, by show _ ≤ 7293034; omega⟩ dL_law_749 (al_ki fun r2 I2 J2 h2 => ?_)
  refine al_istore (lv' := [(6, .int r2), (5, .int r)] ++ lw_lv b sz k) dL_law_752 (by decide) rfl ?_
  refine al_aload_n 4 dL_law_754 rfl rfl ?_
  refine al_callV wv_X10_thrown (M_X10_thrown hG (show wp_X10_thrown I2 J2 (fun r3 I3 J3 => r3 = I2 140 0 ∧ I3 = I2 ∧ J3 = J2) from ⟨rfl, rfl, rfl⟩)) ml_L_58 rfl (by decide) (lk140 hG) rfl rfl (Nat.le_of_ble_eq_true rfl) ⟨rfl, rfl⟩ ⟨Nat.le_of_ble_eq_true rfl, Nat.le_of_ble_eq_true rfl⟩ ⟨by show _ ≤ 601024; omega, by show _ ≤ 7293034; omega⟩ dL_law_755 (al_ki fun r3 I3 J3 h3 => ?_)
  obtain ⟨e3, e4, e5⟩ := h3
  rw [e4, e5]
  refine al_iload 1 dL_law_758 rfl ?_
  refine al_jeq 765 dL_law_760 (by decide) (fun _ => ?_) (fun c => absurd (e3.trans h2.2.1) c)
  refine al_iload 1 dL_law_765 rfl ?_
  have fin : LL b L xs Z l D cy sz G (C + 1) (S + 6) I2 J2 782 ([(6, .int r2), (5, .int r)] ++ lw_lv b sz k) [] := by
    refine al_goto 1473 dL_law_782 (by decide) ?_
    exact al_sub [2, 3, 4, 5, 6] rfl (nx I2 J2 h2.1)
  refine al_zne 782 dL_law_767 (by decide) (fun _ => fin) (fun c0 => ?_)
  refine al_aload_n 3 dL_law_770 rfl rfl ?_
  refine al_iconst (v := 0) dL_law_771 (by decide) ?_
  refine al_lld dL_law_772 ho.1 ho.2 (by unfold vp_in; decide) ?_
  refine al_iload 0 dL_law_773 rfl ?_
  refine al_i2l dL_law_775 ?_
  refine al_lcmp dL_law_776 ?_
  refine al_zeq 782 dL_law_777 (by decide) (fun _ => fin) (fun c => absurd ((lg_cmp_eq _ _).mpr (h2.2.2 c0)) c)
set_option maxRecDepth 20000 in
theorem lc_19 {b L C S k : Nat} {xs : Nat → Int32} {Z : List Frame → Array Value → State → State → Prop} {l : Launch} {D : va_G} {cy : Nat → ClassId} {sz : Nat} {G : sw_G} {I : sw_I} {J : sw_J} (hl : l.stackTraces = false) (hG : sw_lay G) (ho : sw_la G 174 1) (hk : 5 * k + 5 ≤ L) (hL : L ≤ 2560) (hC : C + 1 ≤ 601024) (hS : S + 6 ≤ 7293034) (hw : wW k I J) (nx : lw_N b L xs Z l D cy sz G C S k) : LL b L xs Z l D cy sz G C S I J 785 (lw_lv b sz k) [] := by
  refine al_aload_n 3 dL_law_785 rfl rfl ?_
  have h0 : wp_X9_can  I J (fun r I1 J1 => wp_X10_can  I1 J1 (fun r2 I2 J2 => r = r2 ∧ wW (k + 1) I2 J2)) := p_can hw (fun v I2 J2 w _ => ⟨rfl, (wW_succ w)⟩)
  refine al_callV wv_X9_can (M_X9_can hG h0) ml_L_115 rfl (by decide) (lk0 hG) rfl rfl (Nat.le_of_ble_eq_true rfl) ⟨rfl, rfl⟩ ⟨Nat.le_of_ble_eq_true rfl, Nat.le_of_ble_eq_true rfl⟩ ⟨by show _ ≤ 601024; omega, by show _ ≤ 7293034; omega⟩ dL_law_786 (al_ki fun r I1 J1 h1 => ?_)
  refine al_aload_n 2 dL_law_789 rfl rfl ?_
  refine al_callV wv_X10_can (M_X10_can hG h1) ml_L_118 rfl (by decide) (lk140 hG) rfl rfl (Nat.le_of_ble_eq_true rfl) ⟨rfl, rfl⟩ ⟨Nat.le_of_ble_eq_true rfl, Nat.le_of_ble_eq_true rfl⟩ ⟨by show _ ≤ 601024; omega, by show _ ≤ 7293034; omega⟩ dL_law_790 (al_ki fun r2 I2 J2 h2 => ?_)
  refine al_jeq 1473 dL_law_793 (by decide) (fun _ => ?_) (fun c => absurd h2.1 c)
  exact al_widen (C + 1) (S + 6) (by omega) (by omega) (nx I2 J2 h2.2)
set_option maxRecDepth 20000 in
theorem lc_20 {b L C S k : Nat} {xs : Nat → Int32} {Z : List Frame → Array Value → State → State → Prop} {l : Launch} {D : va_G} {cy : Nat → ClassId} {sz : Nat} {G : sw_G} {I : sw_I} {J : sw_J} (hl : l.stackTraces = false) (hG : sw_lay G) (ho : sw_la G 174 1) (hk : 5 * k + 5 ≤ L) (hL : L ≤ 2560) (hC : C + 1 ≤ 601024) (hS : S + 6 ≤ 7293034) (hw : wW k I J) (nx : lw_N b L xs Z l D cy sz G C S k) : LL b L xs Z l D cy sz G C S I J 798 (lw_lv b sz k) [] := by
  refine al_aload_n 3 dL_law_798 rfl rfl ?_
  refine al_aload_n 4 dL_law_799 rfl rfl ?_
  refine al_iload 0 dL_law_800 rfl ?_
  refine al_iconst (v := 1) dL_law_802 (by decide) ?_
  refine al_iadd dL_law_803 ?_
  refine al_sld dL_law_804 (lw_in (j := 1) rfl hk hL (by decide)) ?_
  have h0 : wp_X9_along (xs (nI (5 * k) + 1).toNatClampNeg) I J (fun r I1 J1 => wp_X10_along (xs (nI (5 * k) + 1).toNatClampNeg) I1 J1 (fun r2 I2 J2 => r = r2 ∧ wW (k + 1) I2 J2)) := p_along hw (fun v I2 J2 w _ => ⟨rfl, (wW_succ w)⟩)
  refine al_callV wv_X9_along (M_X9_along hG h0) ml_L_119 rfl (by decide) (lk0 hG) rfl rfl (Nat.le_of_ble_eq_true rfl) ⟨rfl, rfl⟩ ⟨Nat.le_of_ble_eq_true rfl, Nat.le_of_ble_eq_true rfl⟩ ⟨by show _ ≤ 601024; omega, by show _ ≤ 7293034; omega⟩ dL_law_805 (al_ki fun r I1 J1 h1 => ?_)
  refine al_aload_n 2 dL_law_808 rfl rfl ?_
  refine al_aload_n 4 dL_law_809 rfl rfl ?_
  refine al_iload 0 dL_law_810 rfl ?_
  refine al_iconst (v := 1) dL_law_812 (by decide) ?_
  refine al_iadd dL_law_813 ?_
  refine al_sld dL_law_814 (lw_in (j := 1) rfl hk hL (by decide)) ?_
  refine al_callV wv_X10_along (M_X10_along hG h1) ml_L_122 rfl (by decide) (lk140 hG) rfl rfl (Nat.le_of_ble_eq_true rfl) ⟨rfl, rfl⟩ ⟨Nat.le_of_ble_eq_true rfl, Nat.le_of_ble_eq_true rfl⟩ ⟨by show _ ≤ 601024; omega, by show _ ≤ 7293034; omega⟩ dL_law_815 (al_ki fun r2 I2 J2 h2 => ?_)
  refine al_jeq 1473 dL_law_818 (by decide) (fun _ => ?_) (fun c => absurd h2.1 c)
  exact al_widen (C + 1) (S + 6) (by omega) (by omega) (nx I2 J2 h2.2)
set_option maxRecDepth 20000 in
theorem lc_21 {b L C S k : Nat} {xs : Nat → Int32} {Z : List Frame → Array Value → State → State → Prop} {l : Launch} {D : va_G} {cy : Nat → ClassId} {sz : Nat} {G : sw_G} {I : sw_I} {J : sw_J} (hl : l.stackTraces = false) (hG : sw_lay G) (ho : sw_la G 174 1) (hk : 5 * k + 5 ≤ L) (hL : L ≤ 2560) (hC : C + 1 ≤ 601024) (hS : S + 6 ≤ 7293034) (hw : wW k I J) (nx : lw_N b L xs Z l D cy sz G C S k) : LL b L xs Z l D cy sz G C S I J 823 (lw_lv b sz k) [] := by
  refine al_aload_n 3 dL_law_823 rfl rfl ?_
  refine al_aload_n 4 dL_law_824 rfl rfl ?_
  refine al_iload 0 dL_law_825 rfl ?_
  refine al_iconst (v := 1) dL_law_827 (by decide) ?_
  refine al_iadd dL_law_828 ?_
  refine al_sld dL_law_829 (lw_in (j := 1) rfl hk hL (by decide)) ?_
  have h0 : wp_X9_without (xs (nI (5 * k) + 1).toNatClampNeg) I J (fun r I1 J1 => wp_X10_without (xs (nI (5 * k) + 1).toNatClampNeg) I1 J1 (fun r2 I2 J2 => r = r2 ∧ wW (k + 1) I2 J2)) := p_without hw (fun v I2 J2 w _ => ⟨rfl, (wW_succ w)⟩)
  refine al_callV wv_X9_without (M_X9_without hG h0) ml_L_123 rfl (by decide) (lk0 hG) rfl rfl (Nat.le_of_ble_eq_true rfl) ⟨rfl, rfl⟩ ⟨Nat.le_of_ble_eq_true rfl, Nat.le_of_ble_eq_true rfl⟩ ⟨by show _ ≤ 601024; omega, by show _ ≤ 7293034; omega⟩ dL_law_830 (al_ki fun r I1 J1 h1 => ?_)
  refine al_aload_n 2 dL_law_833 rfl rfl ?_
  refine al_aload_n 4 dL_law_834 rfl rfl ?_
  refine al_iload 0 dL_law_835 rfl ?_
  refine al_iconst (v := 1) dL_law_837 (by decide) ?_
  refine al_iadd dL_law_838 ?_
  refine al_sld dL_law_839 (lw_in (j := 1) rfl hk hL (by decide)) ?_
  refine al_callV wv_X10_without (M_X10_without hG h1) ml_L_126 rfl (by decide) (lk140 hG) rfl rfl (Nat.le_of_ble_eq_true rfl) ⟨rfl, rfl⟩ ⟨Nat.le_of_ble_eq_true rfl, Nat.le_of_ble_eq_true rfl⟩ ⟨by show _ ≤ 601024; omega, by show _ ≤ 7293034; omega⟩ dL_law_840 (al_ki fun r2 I2 J2 h2 => ?_)
  refine al_jeq 1473 dL_law_843 (by decide) (fun _ => ?_) (fun c => absurd h2.1 c)
  exact al_widen (C + 1) (S + 6) (by omega) (by omega) (nx I2 J2 h2.2)
set_option maxRecDepth 20000 in
theorem lc_22 {b L C S k : Nat} {xs : Nat → Int32} {Z : List Frame → Array Value → State → State → Prop} {l : Launch} {D : va_G} {cy : Nat → ClassId} {sz : Nat} {G : sw_G} {I : sw_I} {J : sw_J} (hl : l.stackTraces = false) (hG : sw_lay G) (ho : sw_la G 174 1) (hk : 5 * k + 5 ≤ L) (hL : L ≤ 2560) (hC : C + 1 ≤ 601024) (hS : S + 6 ≤ 7293034) (hw : wW k I J) (nx : lw_N b L xs Z l D cy sz G C S k) : LL b L xs Z l D cy sz G C S I J 848 (lw_lv b sz k) [] := by
  refine al_aload_n 3 dL_law_848 rfl rfl ?_
  refine al_aload_n 4 dL_law_849 rfl rfl ?_
  refine al_iload 0 dL_law_850 rfl ?_
  refine al_iconst (v := 1) dL_law_852 (by decide) ?_
  refine al_iadd dL_law_853 ?_
  refine al_sld dL_law_854 (lw_in (j := 1) rfl hk hL (by decide)) ?_
  have h0 : wp_X9_advise (xs (nI (5 * k) + 1).toNatClampNeg) I J (fun r I1 J1 => wp_X10_advise (xs (nI (5 * k) + 1).toNatClampNeg) I1 J1 (fun r2 I2 J2 => r = r2 ∧ wW (k + 1) I2 J2)) := p_advise hw (fun v I2 J2 w _ => ⟨rfl, (wW_succ w)⟩)
  refine al_callV wv_X9_advise (M_X9_advise hG h0) ml_L_127 rfl (by decide) (lk0 hG) rfl rfl (Nat.le_of_ble_eq_true rfl) ⟨rfl, rfl⟩ ⟨Nat.le_of_ble_eq_true rfl, Nat.le_of_ble_eq_true rfl⟩ ⟨by show _ ≤ 601024; omega, by show _ ≤ 7293034; omega⟩ dL_law_855 (al_ki fun r I1 J1 h1 => ?_)
  refine al_aload_n 2 dL_law_858 rfl rfl ?_
  refine al_aload_n 4 dL_law_859 rfl rfl ?_
  refine al_iload 0 dL_law_860 rfl ?_
  refine al_iconst (v := 1) dL_law_862 (by decide) ?_
  refine al_iadd dL_law_863 ?_
  refine al_sld dL_law_864 (lw_in (j := 1) rfl hk hL (by decide)) ?_
  refine al_callV wv_X10_advise (M_X10_advise hG h1) ml_L_130 rfl (by decide) (lk140 hG) rfl rfl (Nat.le_of_ble_eq_true rfl) ⟨rfl, rfl⟩ ⟨Nat.le_of_ble_eq_true rfl, Nat.le_of_ble_eq_true rfl⟩ ⟨by show _ ≤ 601024; omega, by show _ ≤ 7293034; omega⟩ dL_law_865 (al_ki fun r2 I2 J2 h2 => ?_)
  refine al_jeq 1473 dL_law_868 (by decide) (fun _ => ?_) (fun c => absurd h2.1 c)
  exact al_widen (C + 1) (S + 6) (by omega) (by omega) (nx I2 J2 h2.2)
set_option maxRecDepth 20000 in
theorem lc_23 {b L C S k : Nat} {xs : Nat → Int32} {Z : List Frame → Array Value → State → State → Prop} {l : Launch} {D : va_G} {cy : Nat → ClassId} {sz : Nat} {G : sw_G} {I : sw_I} {J : sw_J} (hl : l.stackTraces = false) (hG : sw_lay G) (ho : sw_la G 174 1) (hk : 5 * k + 5 ≤ L) (hL : L ≤ 2560) (hC : C + 1 ≤ 601024) (hS : S + 6 ≤ 7293034) (hw : wW k I J) (nx : lw_N b L xs Z l D cy sz G C S k) : LL b L xs Z l D cy sz G C S I J 873 (lw_lv b sz k) [] := by
  refine al_aload_n 3 dL_law_873 rfl rfl ?_
  refine al_aload_n 4 dL_law_874 rfl rfl ?_
  refine al_iload 0 dL_law_875 rfl ?_
  refine al_iconst (v := 1) dL_law_877 (by decide) ?_
  refine al_iadd dL_law_878 ?_
  refine al_sld dL_law_879 (lw_in (j := 1) rfl hk hL (by decide)) ?_
  have h0 : wp_X9_rests (xs (nI (5 * k) + 1).toNatClampNeg) I J (fun r I1 J1 => wp_X10_rests (xs (nI (5 * k) + 1).toNatClampNeg) I1 J1 (fun r2 I2 J2 => r = r2 ∧ wW (k + 1) I2 J2)) := p_rests hw (fun v I2 J2 w _ => ⟨rfl, (wW_succ w)⟩)
  refine al_callV wv_X9_rests (M_X9_rests hG h0) ml_L_131 rfl (by decide) (lk0 hG) rfl rfl (Nat.le_of_ble_eq_true rfl) ⟨rfl, rfl⟩ ⟨Nat.le_of_ble_eq_true rfl, Nat.le_of_ble_eq_true rfl⟩ ⟨by show _ ≤ 601024; omega, by show _ ≤ 7293034; omega⟩ dL_law_880 (al_ki fun r I1 J1 h1 => ?_)
  refine al_aload_n 2 dL_law_883 rfl rfl ?_
  refine al_aload_n 4 dL_law_884 rfl rfl ?_
  refine al_iload 0 dL_law_885 rfl ?_
  refine al_iconst (v := 1) dL_law_887 (by decide) ?_
  refine al_iadd dL_law_888 ?_
  refine al_sld dL_law_889 (lw_in (j := 1) rfl hk hL (by decide)) ?_
  refine al_callV wv_X10_rests (M_X10_rests hG h1) ml_L_134 rfl (by decide) (lk140 hG) rfl rfl (Nat.le_of_ble_eq_true rfl) ⟨rfl, rfl⟩ ⟨Nat.le_of_ble_eq_true rfl, Nat.le_of_ble_eq_true rfl⟩ ⟨by show _ ≤ 601024; omega, by show _ ≤ 7293034; omega⟩ dL_law_890 (al_ki fun r2 I2 J2 h2 => ?_)
  refine al_jeq 1473 dL_law_893 (by decide) (fun _ => ?_) (fun c => absurd h2.1 c)
  exact al_widen (C + 1) (S + 6) (by omega) (by omega) (nx I2 J2 h2.2)
set_option maxRecDepth 20000 in
theorem lc_24 {b L C S k : Nat} {xs : Nat → Int32} {Z : List Frame → Array Value → State → State → Prop} {l : Launch} {D : va_G} {cy : Nat → ClassId} {sz : Nat} {G : sw_G} {I : sw_I} {J : sw_J} (hl : l.stackTraces = false) (hG : sw_lay G) (ho : sw_la G 174 1) (hk : 5 * k + 5 ≤ L) (hL : L ≤ 2560) (hC : C + 1 ≤ 601024) (hS : S + 6 ≤ 7293034) (hw : wW k I J) (nx : lw_N b L xs Z l D cy sz G C S k) : LL b L xs Z l D cy sz G C S I J 898 (lw_lv b sz k) [] := by
  refine al_aload_n 3 dL_law_898 rfl rfl ?_
  refine al_aload_n 4 dL_law_899 rfl rfl ?_
  refine al_iload 0 dL_law_900 rfl ?_
  refine al_iconst (v := 1) dL_law_902 (by decide) ?_
  refine al_iadd dL_law_903 ?_
  refine al_sld dL_law_904 (lw_in (j := 1) rfl hk hL (by decide)) ?_
  have h0 : wp_X9_then (xs (nI (5 * k) + 1).toNatClampNeg) I J (fun r I1 J1 => wp_X10_then (xs (nI (5 * k) + 1).toNatClampNeg) I1 J1 (fun r2 I2 J2 => r = r2 ∧ wW (k + 1) I2 J2)) := p_then hw (fun v I2 J2 w _ => ⟨rfl, (wW_succ w)⟩)
  refine al_callV wv_X9_then (M_X9_then hG h0) ml_L_135 rfl (by decide) (lk0 hG) rfl rfl (Nat.le_of_ble_eq_true rfl) ⟨rfl, rfl⟩ ⟨Nat.le_of_ble_eq_true rfl, Nat.le_of_ble_eq_true rfl⟩ ⟨by show _ ≤ 601024; omega, by show _ ≤ 7293034; omega⟩ dL_law_905 (al_ki fun r I1 J1 h1 => ?_)
  refine al_aload_n 2 dL_law_908 rfl rfl ?_
  refine al_aload_n 4 dL_law_909 rfl rfl ?_
  refine al_iload 0 dL_law_910 rfl ?_
  refine al_iconst (v := 1) dL_law_912 (by decide) ?_
  refine al_iadd dL_law_913 ?_
  refine al_sld dL_law_914 (lw_in (j := 1) rfl hk hL (by decide)) ?_
  refine al_callV wv_X10_then (M_X10_then hG h1) ml_L_138 rfl (by decide) (lk140 hG) rfl rfl (Nat.le_of_ble_eq_true rfl) ⟨rfl, rfl⟩ ⟨Nat.le_of_ble_eq_true rfl, Nat.le_of_ble_eq_true rfl⟩ ⟨by show _ ≤ 601024; omega, by show _ ≤ 7293034; omega⟩ dL_law_915 (al_ki fun r2 I2 J2 h2 => ?_)
  refine al_jeq 1473 dL_law_918 (by decide) (fun _ => ?_) (fun c => absurd h2.1 c)
  exact al_widen (C + 1) (S + 6) (by omega) (by omega) (nx I2 J2 h2.2)
set_option maxRecDepth 20000 in
theorem lc_25 {b L C S k : Nat} {xs : Nat → Int32} {Z : List Frame → Array Value → State → State → Prop} {l : Launch} {D : va_G} {cy : Nat → ClassId} {sz : Nat} {G : sw_G} {I : sw_I} {J : sw_J} (hl : l.stackTraces = false) (hG : sw_lay G) (ho : sw_la G 174 1) (hk : 5 * k + 5 ≤ L) (hL : L ≤ 2560) (hC : C + 1 ≤ 601024) (hS : S + 6 ≤ 7293034) (hw : wW k I J) (nx : lw_N b L xs Z l D cy sz G C S k) : LL b L xs Z l D cy sz G C S I J 923 (lw_lv b sz k) [] := by
  refine al_aload_n 3 dL_law_923 rfl rfl ?_
  refine al_aload_n 4 dL_law_924 rfl rfl ?_
  refine al_iload 0 dL_law_925 rfl ?_
  refine al_iconst (v := 1) dL_law_927 (by decide) ?_
  refine al_iadd dL_law_928 ?_
  refine al_sld dL_law_929 (lw_in (j := 1) rfl hk hL (by decide)) ?_
  have h0 : wp_X9_since (xs (nI (5 * k) + 1).toNatClampNeg) I J (fun r I1 J1 => wp_X10_since (xs (nI (5 * k) + 1).toNatClampNeg) I1 J1 (fun r2 I2 J2 => r = r2 ∧ wW (k + 1) I2 J2)) := p_since (hc := by omega) hw (fun v I2 J2 w _ => ⟨rfl, (wW_succ w)⟩)
  refine al_callV wv_X9_since (M_X9_since hG h0) ml_L_139 rfl (by decide) (lk0 hG) rfl rfl (Nat.le_of_ble_eq_true rfl) ⟨rfl, rfl⟩ ⟨Nat.le_of_ble_eq_true rfl, Nat.le_of_ble_eq_true rfl⟩ ⟨by show _ ≤ 601024; omega, by show _ ≤ 7293034; omega⟩ dL_law_930 (al_ki fun r I1 J1 h1 => ?_)
  refine al_aload_n 2 dL_law_933 rfl rfl ?_
  refine al_aload_n 4 dL_law_934 rfl rfl ?_
  refine al_iload 0 dL_law_935 rfl ?_
  refine al_iconst (v := 1) dL_law_937 (by decide) ?_
  refine al_iadd dL_law_938 ?_
  refine al_sld dL_law_939 (lw_in (j := 1) rfl hk hL (by decide)) ?_
  refine al_callV wv_X10_since (M_X10_since hG h1) ml_L_142 rfl (by decide) (lk140 hG) rfl rfl (Nat.le_of_ble_eq_true rfl) ⟨rfl, rfl⟩ ⟨Nat.le_of_ble_eq_true rfl, Nat.le_of_ble_eq_true rfl⟩ ⟨by show _ ≤ 601024; omega, by show _ ≤ 7293034; omega⟩ dL_law_940 (al_ki fun r2 I2 J2 h2 => ?_)
  refine al_jeq 1473 dL_law_943 (by decide) (fun _ => ?_) (fun c => absurd h2.1 c)
  exact al_widen (C + 1) (S + 6) (by omega) (by omega) (nx I2 J2 h2.2)
set_option maxRecDepth 20000 in
theorem lc_26 {b L C S k : Nat} {xs : Nat → Int32} {Z : List Frame → Array Value → State → State → Prop} {l : Launch} {D : va_G} {cy : Nat → ClassId} {sz : Nat} {G : sw_G} {I : sw_I} {J : sw_J} (hl : l.stackTraces = false) (hG : sw_lay G) (ho : sw_la G 174 1) (hk : 5 * k + 5 ≤ L) (hL : L ≤ 2560) (hC : C + 1 ≤ 601024) (hS : S + 6 ≤ 7293034) (hw : wW k I J) (nx : lw_N b L xs Z l D cy sz G C S k) : LL b L xs Z l D cy sz G C S I J 948 (lw_lv b sz k) [] := by
  refine al_aload_n 3 dL_law_948 rfl rfl ?_
  refine al_aload_n 4 dL_law_949 rfl rfl ?_
  refine al_iload 0 dL_law_950 rfl ?_
  refine al_iconst (v := 1) dL_law_952 (by decide) ?_
  refine al_iadd dL_law_953 ?_
  refine al_sld dL_law_954 (lw_in (j := 1) rfl hk hL (by decide)) ?_
  refine al_aload_n 4 dL_law_955 rfl rfl ?_
  refine al_iload 0 dL_law_956 rfl ?_
  refine al_iconst (v := 2) dL_law_958 (by decide) ?_
  refine al_iadd dL_law_959 ?_
  refine al_sld dL_law_960 (lw_in (j := 2) rfl hk hL (by decide)) ?_
  refine al_aload_n 1 dL_law_961 rfl rfl ?_
  have h0 := p_ballast (o := 174) (x1 := xs (nI (5 * k) + 1).toNatClampNeg) (x2 := xs (nI (5 * k) + 2).toNatClampNeg) (Q := fun r r2 I2 J2 => wW (k + 1) I2 J2 ∧ I2 140 0 = r ∧ (r = 0 → J2 174 0 = r2.toInt64)) (by decide) (by decide) hw (fun v v2 I2 J2 w e1 e2 => ⟨wW_succ w, e1, e2⟩)
  refine al_callSW wv_L_ballast (M_L_ballast hl hG ho h0) ml_L_143 rfl rfl (Nat.le_of_ble_eq_true rfl) ⟨rfl, rfl⟩ ⟨Nat.le_of_ble_eq_true rfl, Nat.le_of_ble_eq_true rfl⟩ ⟨by show _ ≤ 601024; omega, by show _ ≤ 7293034; omega⟩ dL_law_962 (fun r9 G9 I1 J1 hq => ?_)
  obtain ⟨eG, r, er, h1⟩ := hq
  rw [eG, er]
  refine al_istore (lv' := [(5, .int r)] ++ lw_lv b sz k) dL_law_965 (by decide) rfl ?_
  refine al_aload_n 3 dL_law_967 rfl rfl ?_
  refine al_aload_n 5 dL_law_968 rfl rfl ?_
  refine al_iload 1 dL_law_969 rfl ?_
  refine al_iconst (v := 1) dL_law_971 (by decide) ?_
  refine al_iadd dL_law_972 ?_
  refine al_sld dL_law_973 (lw_in (j := 1) rfl hk hL (by decide)) ?_
  refine al_aload_n 5 dL_law_974 rfl rfl ?_
  refine al_iload 1 dL_law_975 rfl ?_
  refine al_iconst (v := 2) dL_law_977 (by decide) ?_
  refine al_iadd dL_law_978 ?_
  refine al_sld dL_law_979 (lw_in (j := 2) rfl hk hL (by decide)) ?_
  refine al_callV wv_X10_ballast (M_X10_ballast hG h1) ml_L_145 rfl (by decide) (lk140 hG) rfl rfl (Nat.le_of_ble_eq_true rfl) ⟨rfl, rfl⟩ ⟨Nat.le_of_ble_eq_true rfl, Nat.le_of_ble_eq_true rfl⟩ ⟨by show _ ≤ 601024; omega, by show _ ≤ 7293034; omega⟩ dL_law_980 (al_ki fun r2 I2 J2 h2 => ?_)
  refine al_istore (lv' := [(6, .int r2), (5, .int r)] ++ lw_lv b sz k) dL_law_983 (by decide) rfl ?_
  refine al_aload_n 4 dL_law_985 rfl rfl ?_
  refine al_callV wv_X10_thrown (M_X10_thrown hG (show wp_X10_thrown I2 J2 (fun r3 I3 J3 => r3 = I2 140 0 ∧ I3 = I2 ∧ J3 = J2) from ⟨rfl, rfl, rfl⟩)) ml_L_58 rfl (by decide) (lk140 hG) rfl rfl (Nat.le_of_ble_eq_true rfl) ⟨rfl, rfl⟩ ⟨Nat.le_of_ble_eq_true rfl, Nat.le_of_ble_eq_true rfl⟩ ⟨by show _ ≤ 601024; omega, by show _ ≤ 7293034; omega⟩ dL_law_986 (al_ki fun r3 I3 J3 h3 => ?_)
  obtain ⟨e3, e4, e5⟩ := h3
  rw [e4, e5]
  refine al_iload 1 dL_law_989 rfl ?_
  refine al_jeq 996 dL_law_991 (by decide) (fun _ => ?_) (fun c => absurd (e3.trans h2.2.1) c)
  refine al_iload 1 dL_law_996 rfl ?_
  have fin : LL b L xs Z l D cy sz G (C + 1) (S + 6) I2 J2 1013 ([(6, .int r2), (5, .int r)] ++ lw_lv b sz k) [] := by
    refine al_goto 1473 dL_law_1013 (by decide) ?_
    exact al_sub [2, 3, 4, 5, 6] rfl (nx I2 J2 h2.1)
  refine al_zne 1013 dL_law_998 (by decide) (fun _ => fin) (fun c0 => ?_)
  refine al_aload_n 3 dL_law_1001 rfl rfl ?_
  refine al_iconst (v := 0) dL_law_1002 (by decide) ?_
  refine al_lld dL_law_1003 ho.1 ho.2 (by unfold vp_in; decide) ?_
  refine al_iload 0 dL_law_1004 rfl ?_
  refine al_i2l dL_law_1006 ?_
  refine al_lcmp dL_law_1007 ?_
  refine al_zeq 1013 dL_law_1008 (by decide) (fun _ => fin) (fun c => absurd ((lg_cmp_eq _ _).mpr (h2.2.2 c0)) c)
set_option maxRecDepth 20000 in
theorem lc_27 {b L C S k : Nat} {xs : Nat → Int32} {Z : List Frame → Array Value → State → State → Prop} {l : Launch} {D : va_G} {cy : Nat → ClassId} {sz : Nat} {G : sw_G} {I : sw_I} {J : sw_J} (hl : l.stackTraces = false) (hG : sw_lay G) (ho : sw_la G 174 1) (hk : 5 * k + 5 ≤ L) (hL : L ≤ 2560) (hC : C + 1 ≤ 601024) (hS : S + 6 ≤ 7293034) (hw : wW k I J) (nx : lw_N b L xs Z l D cy sz G C S k) : LL b L xs Z l D cy sz G C S I J 1016 (lw_lv b sz k) [] := by
  refine al_aload_n 3 dL_law_1016 rfl rfl ?_
  refine al_aload_n 4 dL_law_1017 rfl rfl ?_
  refine al_iload 0 dL_law_1018 rfl ?_
  refine al_iconst (v := 1) dL_law_1020 (by decide) ?_
  refine al_iadd dL_law_1021 ?_
  refine al_sld dL_law_1022 (lw_in (j := 1) rfl hk hL (by decide)) ?_
  have h0 : wp_X9_hinders (xs (nI (5 * k) + 1).toNatClampNeg) I J (fun r I1 J1 => wp_X10_hinders (xs (nI (5 * k) + 1).toNatClampNeg) I1 J1 (fun r2 I2 J2 => r = r2 ∧ wW (k + 1) I2 J2)) := p_hinders hw (fun v I2 J2 w _ => ⟨rfl, (wW_succ w)⟩)
  refine al_callV wv_X9_hinders (M_X9_hinders hG h0) ml_L_146 rfl (by decide) (lk0 hG) rfl rfl (Nat.le_of_ble_eq_true rfl) ⟨rfl, rfl⟩ ⟨Nat.le_of_ble_eq_true rfl, Nat.le_of_ble_eq_true rfl⟩ ⟨by show _ ≤ 601024; omega, by show _ ≤ 7293034; omega⟩ dL_law_1023 (al_ki fun r I1 J1 h1 => ?_)
  refine al_aload_n 2 dL_law_1026 rfl rfl ?_
  refine al_aload_n 4 dL_law_1027 rfl rfl ?_
  refine al_iload 0 dL_law_1028 rfl ?_
  refine al_iconst (v := 1) dL_law_1030 (by decide) ?_
  refine al_iadd dL_law_1031 ?_
  refine al_sld dL_law_1032 (lw_in (j := 1) rfl hk hL (by decide)) ?_
  refine al_callV wv_X10_hinders (M_X10_hinders hG h1) ml_L_149 rfl (by decide) (lk140 hG) rfl rfl (Nat.le_of_ble_eq_true rfl) ⟨rfl, rfl⟩ ⟨Nat.le_of_ble_eq_true rfl, Nat.le_of_ble_eq_true rfl⟩ ⟨by show _ ≤ 601024; omega, by show _ ≤ 7293034; omega⟩ dL_law_1033 (al_ki fun r2 I2 J2 h2 => ?_)
  refine al_jeq 1473 dL_law_1036 (by decide) (fun _ => ?_) (fun c => absurd h2.1 c)
  exact al_widen (C + 1) (S + 6) (by omega) (by omega) (nx I2 J2 h2.2)
set_option maxRecDepth 20000 in
theorem lc_28 {b L C S k : Nat} {xs : Nat → Int32} {Z : List Frame → Array Value → State → State → Prop} {l : Launch} {D : va_G} {cy : Nat → ClassId} {sz : Nat} {G : sw_G} {I : sw_I} {J : sw_J} (hl : l.stackTraces = false) (hG : sw_lay G) (ho : sw_la G 174 1) (hk : 5 * k + 5 ≤ L) (hL : L ≤ 2560) (hC : C + 1 ≤ 601024) (hS : S + 6 ≤ 7293034) (hw : wW k I J) (nx : lw_N b L xs Z l D cy sz G C S k) : LL b L xs Z l D cy sz G C S I J 1041 (lw_lv b sz k) [] := by
  refine al_aload_n 3 dL_law_1041 rfl rfl ?_
  have h0 : wp_X9_all  I J (fun r I1 J1 => wp_X10_all  I1 J1 (fun r2 I2 J2 => r = r2 ∧ wW (k + 1) I2 J2)) := p_all (hc := by omega) hw (fun v I2 J2 w _ => ⟨rfl, (wW_succ w)⟩)
  refine al_callV wv_X9_all (M_X9_all hG h0) ml_L_150 rfl (by decide) (lk0 hG) rfl rfl (Nat.le_of_ble_eq_true rfl) ⟨rfl, rfl⟩ ⟨Nat.le_of_ble_eq_true rfl, Nat.le_of_ble_eq_true rfl⟩ ⟨by show _ ≤ 601024; omega, by show _ ≤ 7293034; omega⟩ dL_law_1042 (al_ki fun r I1 J1 h1 => ?_)
  refine al_aload_n 2 dL_law_1045 rfl rfl ?_
  refine al_callV wv_X10_all (M_X10_all hG h1) ml_L_153 rfl (by decide) (lk140 hG) rfl rfl (Nat.le_of_ble_eq_true rfl) ⟨rfl, rfl⟩ ⟨Nat.le_of_ble_eq_true rfl, Nat.le_of_ble_eq_true rfl⟩ ⟨by show _ ≤ 601024; omega, by show _ ≤ 7293034; omega⟩ dL_law_1046 (al_ki fun r2 I2 J2 h2 => ?_)
  refine al_jeq 1473 dL_law_1049 (by decide) (fun _ => ?_) (fun c => absurd h2.1 c)
  exact al_widen (C + 1) (S + 6) (by omega) (by omega) (nx I2 J2 h2.2)
set_option maxRecDepth 20000 in
theorem lc_29 {b L C S k : Nat} {xs : Nat → Int32} {Z : List Frame → Array Value → State → State → Prop} {l : Launch} {D : va_G} {cy : Nat → ClassId} {sz : Nat} {G : sw_G} {I : sw_I} {J : sw_J} (hl : l.stackTraces = false) (hG : sw_lay G) (ho : sw_la G 174 1) (hk : 5 * k + 5 ≤ L) (hL : L ≤ 2560) (hC : C + 1 ≤ 601024) (hS : S + 6 ≤ 7293034) (hw : wW k I J) (nx : lw_N b L xs Z l D cy sz G C S k) : LL b L xs Z l D cy sz G C S I J 1054 (lw_lv b sz k) [] := by
  refine al_aload_n 3 dL_law_1054 rfl rfl ?_
  refine al_aload_n 4 dL_law_1055 rfl rfl ?_
  refine al_iload 0 dL_law_1056 rfl ?_
  refine al_iconst (v := 1) dL_law_1058 (by decide) ?_
  refine al_iadd dL_law_1059 ?_
  refine al_sld dL_law_1060 (lw_in (j := 1) rfl hk hL (by decide)) ?_
  have h0 : wp_X9_one (xs (nI (5 * k) + 1).toNatClampNeg) I J (fun r I1 J1 => wp_X10_one (xs (nI (5 * k) + 1).toNatClampNeg) I1 J1 (fun r2 I2 J2 => r = r2 ∧ wW (k + 1) I2 J2)) := p_one (hc := by omega) hw (fun v I2 J2 w _ => ⟨rfl, (wW_succ w)⟩)
  refine al_callV wv_X9_one (M_X9_one hG h0) ml_L_154 rfl (by decide) (lk0 hG) rfl rfl (Nat.le_of_ble_eq_true rfl) ⟨rfl, rfl⟩ ⟨Nat.le_of_ble_eq_true rfl, Nat.le_of_ble_eq_true rfl⟩ ⟨by show _ ≤ 601024; omega, by show _ ≤ 7293034; omega⟩ dL_law_1061 (al_ki fun r I1 J1 h1 => ?_)
  refine al_aload_n 2 dL_law_1064 rfl rfl ?_
  refine al_aload_n 4 dL_law_1065 rfl rfl ?_
  refine al_iload 0 dL_law_1066 rfl ?_
  refine al_iconst (v := 1) dL_law_1068 (by decide) ?_
  refine al_iadd dL_law_1069 ?_
  refine al_sld dL_law_1070 (lw_in (j := 1) rfl hk hL (by decide)) ?_
  refine al_callV wv_X10_one (M_X10_one hG h1) ml_L_157 rfl (by decide) (lk140 hG) rfl rfl (Nat.le_of_ble_eq_true rfl) ⟨rfl, rfl⟩ ⟨Nat.le_of_ble_eq_true rfl, Nat.le_of_ble_eq_true rfl⟩ ⟨by show _ ≤ 601024; omega, by show _ ≤ 7293034; omega⟩ dL_law_1071 (al_ki fun r2 I2 J2 h2 => ?_)
  refine al_jeq 1473 dL_law_1074 (by decide) (fun _ => ?_) (fun c => absurd h2.1 c)
  exact al_widen (C + 1) (S + 6) (by omega) (by omega) (nx I2 J2 h2.2)
set_option maxRecDepth 20000 in
theorem lc_30 {b L C S k : Nat} {xs : Nat → Int32} {Z : List Frame → Array Value → State → State → Prop} {l : Launch} {D : va_G} {cy : Nat → ClassId} {sz : Nat} {G : sw_G} {I : sw_I} {J : sw_J} (hl : l.stackTraces = false) (hG : sw_lay G) (ho : sw_la G 174 1) (hk : 5 * k + 5 ≤ L) (hL : L ≤ 2560) (hC : C + 1 ≤ 601024) (hS : S + 6 ≤ 7293034) (hw : wW k I J) (nx : lw_N b L xs Z l D cy sz G C S k) : LL b L xs Z l D cy sz G C S I J 1079 (lw_lv b sz k) [] := by
  refine al_aload_n 3 dL_law_1079 rfl rfl ?_
  refine al_aload_n 4 dL_law_1080 rfl rfl ?_
  refine al_iload 0 dL_law_1081 rfl ?_
  refine al_iconst (v := 1) dL_law_1083 (by decide) ?_
  refine al_iadd dL_law_1084 ?_
  refine al_sld dL_law_1085 (lw_in (j := 1) rfl hk hL (by decide)) ?_
  refine al_aload_n 4 dL_law_1086 rfl rfl ?_
  refine al_iload 0 dL_law_1087 rfl ?_
  refine al_iconst (v := 2) dL_law_1089 (by decide) ?_
  refine al_iadd dL_law_1090 ?_
  refine al_sld dL_law_1091 (lw_in (j := 2) rfl hk hL (by decide)) ?_
  have h0 : wp_X9_gather (xs (nI (5 * k) + 1).toNatClampNeg) (xs (nI (5 * k) + 2).toNatClampNeg) I J (fun r I1 J1 => wp_X10_gather (xs (nI (5 * k) + 1).toNatClampNeg) (xs (nI (5 * k) + 2).toNatClampNeg) I1 J1 (fun r2 I2 J2 => r = r2 ∧ wW (k + 1) I2 J2)) := p_gather (hc := by omega) hw (fun v I2 J2 w _ => ⟨rfl, (wW_succ w)⟩)
  refine al_callV wv_X9_gather (M_X9_gather hG h0) ml_L_158 rfl (by decide) (lk0 hG) rfl rfl (Nat.le_of_ble_eq_true rfl) ⟨rfl, rfl⟩ ⟨Nat.le_of_ble_eq_true rfl, Nat.le_of_ble_eq_true rfl⟩ ⟨by show _ ≤ 601024; omega, by show _ ≤ 7293034; omega⟩ dL_law_1092 (al_ki fun r I1 J1 h1 => ?_)
  refine al_aload_n 2 dL_law_1095 rfl rfl ?_
  refine al_aload_n 4 dL_law_1096 rfl rfl ?_
  refine al_iload 0 dL_law_1097 rfl ?_
  refine al_iconst (v := 1) dL_law_1099 (by decide) ?_
  refine al_iadd dL_law_1100 ?_
  refine al_sld dL_law_1101 (lw_in (j := 1) rfl hk hL (by decide)) ?_
  refine al_aload_n 4 dL_law_1102 rfl rfl ?_
  refine al_iload 0 dL_law_1103 rfl ?_
  refine al_iconst (v := 2) dL_law_1105 (by decide) ?_
  refine al_iadd dL_law_1106 ?_
  refine al_sld dL_law_1107 (lw_in (j := 2) rfl hk hL (by decide)) ?_
  refine al_callV wv_X10_gather (M_X10_gather hG h1) ml_L_161 rfl (by decide) (lk140 hG) rfl rfl (Nat.le_of_ble_eq_true rfl) ⟨rfl, rfl⟩ ⟨Nat.le_of_ble_eq_true rfl, Nat.le_of_ble_eq_true rfl⟩ ⟨by show _ ≤ 601024; omega, by show _ ≤ 7293034; omega⟩ dL_law_1108 (al_ki fun r2 I2 J2 h2 => ?_)
  refine al_jeq 1473 dL_law_1111 (by decide) (fun _ => ?_) (fun c => absurd h2.1 c)
  exact al_widen (C + 1) (S + 6) (by omega) (by omega) (nx I2 J2 h2.2)
set_option maxRecDepth 20000 in
theorem lc_31 {b L C S k : Nat} {xs : Nat → Int32} {Z : List Frame → Array Value → State → State → Prop} {l : Launch} {D : va_G} {cy : Nat → ClassId} {sz : Nat} {G : sw_G} {I : sw_I} {J : sw_J} (hl : l.stackTraces = false) (hG : sw_lay G) (ho : sw_la G 174 1) (hk : 5 * k + 5 ≤ L) (hL : L ≤ 2560) (hC : C + 1 ≤ 601024) (hS : S + 6 ≤ 7293034) (hw : wW k I J) (nx : lw_N b L xs Z l D cy sz G C S k) : LL b L xs Z l D cy sz G C S I J 1116 (lw_lv b sz k) [] := by
  refine al_aload_n 3 dL_law_1116 rfl rfl ?_
  refine al_aload_n 4 dL_law_1117 rfl rfl ?_
  refine al_iload 0 dL_law_1118 rfl ?_
  refine al_iconst (v := 1) dL_law_1120 (by decide) ?_
  refine al_iadd dL_law_1121 ?_
  refine al_sld dL_law_1122 (lw_in (j := 1) rfl hk hL (by decide)) ?_
  have h0 : wp_X9_states (xs (nI (5 * k) + 1).toNatClampNeg) I J (fun r I1 J1 => wp_X10_states (xs (nI (5 * k) + 1).toNatClampNeg) I1 J1 (fun r2 I2 J2 => r = r2 ∧ wW (k + 1) I2 J2)) := p_states (hc := by omega) hw (fun v I2 J2 w _ => ⟨rfl, (wW_succ w)⟩)
  refine al_callV wv_X9_states (M_X9_states hG h0) ml_L_162 rfl (by decide) (lk0 hG) rfl rfl (Nat.le_of_ble_eq_true rfl) ⟨rfl, rfl⟩ ⟨Nat.le_of_ble_eq_true rfl, Nat.le_of_ble_eq_true rfl⟩ ⟨by show _ ≤ 601024; omega, by show _ ≤ 7293034; omega⟩ dL_law_1123 (al_ki fun r I1 J1 h1 => ?_)
  refine al_aload_n 2 dL_law_1126 rfl rfl ?_
  refine al_aload_n 4 dL_law_1127 rfl rfl ?_
  refine al_iload 0 dL_law_1128 rfl ?_
  refine al_iconst (v := 1) dL_law_1130 (by decide) ?_
  refine al_iadd dL_law_1131 ?_
  refine al_sld dL_law_1132 (lw_in (j := 1) rfl hk hL (by decide)) ?_
  refine al_callV wv_X10_states (M_X10_states hG h1) ml_L_165 rfl (by decide) (lk140 hG) rfl rfl (Nat.le_of_ble_eq_true rfl) ⟨rfl, rfl⟩ ⟨Nat.le_of_ble_eq_true rfl, Nat.le_of_ble_eq_true rfl⟩ ⟨by show _ ≤ 601024; omega, by show _ ≤ 7293034; omega⟩ dL_law_1133 (al_ki fun r2 I2 J2 h2 => ?_)
  refine al_jeq 1473 dL_law_1136 (by decide) (fun _ => ?_) (fun c => absurd h2.1 c)
  exact al_widen (C + 1) (S + 6) (by omega) (by omega) (nx I2 J2 h2.2)
set_option maxRecDepth 20000 in
theorem lc_32 {b L C S k : Nat} {xs : Nat → Int32} {Z : List Frame → Array Value → State → State → Prop} {l : Launch} {D : va_G} {cy : Nat → ClassId} {sz : Nat} {G : sw_G} {I : sw_I} {J : sw_J} (hl : l.stackTraces = false) (hG : sw_lay G) (ho : sw_la G 174 1) (hk : 5 * k + 5 ≤ L) (hL : L ≤ 2560) (hC : C + 1 ≤ 601024) (hS : S + 6 ≤ 7293034) (hw : wW k I J) (nx : lw_N b L xs Z l D cy sz G C S k) : LL b L xs Z l D cy sz G C S I J 1141 (lw_lv b sz k) [] := by
  refine al_aload_n 3 dL_law_1141 rfl rfl ?_
  have h0 : wp_X9_stuck  I J (fun r I1 J1 => wp_X10_stuck  I1 J1 (fun r2 I2 J2 => r = r2 ∧ wW (k + 1) I2 J2)) := p_stuck (hc := by omega) hw (fun v I2 J2 w _ => ⟨rfl, (wW_succ w)⟩)
  refine al_callV wv_X9_stuck (M_X9_stuck hG h0) ml_L_166 rfl (by decide) (lk0 hG) rfl rfl (Nat.le_of_ble_eq_true rfl) ⟨rfl, rfl⟩ ⟨Nat.le_of_ble_eq_true rfl, Nat.le_of_ble_eq_true rfl⟩ ⟨by show _ ≤ 601024; omega, by show _ ≤ 7293034; omega⟩ dL_law_1142 (al_ki fun r I1 J1 h1 => ?_)
  refine al_aload_n 2 dL_law_1145 rfl rfl ?_
  refine al_callV wv_X10_stuck (M_X10_stuck hG h1) ml_L_169 rfl (by decide) (lk140 hG) rfl rfl (Nat.le_of_ble_eq_true rfl) ⟨rfl, rfl⟩ ⟨Nat.le_of_ble_eq_true rfl, Nat.le_of_ble_eq_true rfl⟩ ⟨by show _ ≤ 601024; omega, by show _ ≤ 7293034; omega⟩ dL_law_1146 (al_ki fun r2 I2 J2 h2 => ?_)
  refine al_jeq 1473 dL_law_1149 (by decide) (fun _ => ?_) (fun c => absurd h2.1 c)
  exact al_widen (C + 1) (S + 6) (by omega) (by omega) (nx I2 J2 h2.2)
set_option maxRecDepth 20000 in
theorem lc_33 {b L C S k : Nat} {xs : Nat → Int32} {Z : List Frame → Array Value → State → State → Prop} {l : Launch} {D : va_G} {cy : Nat → ClassId} {sz : Nat} {G : sw_G} {I : sw_I} {J : sw_J} (hl : l.stackTraces = false) (hG : sw_lay G) (ho : sw_la G 174 1) (hk : 5 * k + 5 ≤ L) (hL : L ≤ 2560) (hC : C + 1 ≤ 601024) (hS : S + 6 ≤ 7293034) (hw : wW k I J) (nx : lw_N b L xs Z l D cy sz G C S k) : LL b L xs Z l D cy sz G C S I J 1154 (lw_lv b sz k) [] := by
  refine al_aload_n 3 dL_law_1154 rfl rfl ?_
  refine al_aload_n 4 dL_law_1155 rfl rfl ?_
  refine al_iload 0 dL_law_1156 rfl ?_
  refine al_iconst (v := 1) dL_law_1158 (by decide) ?_
  refine al_iadd dL_law_1159 ?_
  refine al_sld dL_law_1160 (lw_in (j := 1) rfl hk hL (by decide)) ?_
  refine al_aload_n 4 dL_law_1161 rfl rfl ?_
  refine al_iload 0 dL_law_1162 rfl ?_
  refine al_iconst (v := 2) dL_law_1164 (by decide) ?_
  refine al_iadd dL_law_1165 ?_
  refine al_sld dL_law_1166 (lw_in (j := 2) rfl hk hL (by decide)) ?_
  refine al_aload_n 4 dL_law_1167 rfl rfl ?_
  refine al_iload 0 dL_law_1168 rfl ?_
  refine al_iconst (v := 3) dL_law_1170 (by decide) ?_
  refine al_iadd dL_law_1171 ?_
  refine al_sld dL_law_1172 (lw_in (j := 3) rfl hk hL (by decide)) ?_
  have h0 : wp_X9_saw (xs (nI (5 * k) + 1).toNatClampNeg) (xs (nI (5 * k) + 2).toNatClampNeg) (xs (nI (5 * k) + 3).toNatClampNeg) I J (fun r I1 J1 => wp_X10_saw (xs (nI (5 * k) + 1).toNatClampNeg) (xs (nI (5 * k) + 2).toNatClampNeg) (xs (nI (5 * k) + 3).toNatClampNeg) I1 J1 (fun r2 I2 J2 => r = r2 ∧ wW (k + 1) I2 J2)) := p_saw hw (fun v I2 J2 w _ => ⟨rfl, (wW_succ w)⟩)
  refine al_callV wv_X9_saw (M_X9_saw hG h0) ml_L_170 rfl (by decide) (lk0 hG) rfl rfl (Nat.le_of_ble_eq_true rfl) ⟨rfl, rfl⟩ ⟨Nat.le_of_ble_eq_true rfl, Nat.le_of_ble_eq_true rfl⟩ ⟨by show _ ≤ 601024; omega, by show _ ≤ 7293034; omega⟩ dL_law_1173 (al_ki fun r I1 J1 h1 => ?_)
  refine al_aload_n 2 dL_law_1176 rfl rfl ?_
  refine al_aload_n 4 dL_law_1177 rfl rfl ?_
  refine al_iload 0 dL_law_1178 rfl ?_
  refine al_iconst (v := 1) dL_law_1180 (by decide) ?_
  refine al_iadd dL_law_1181 ?_
  refine al_sld dL_law_1182 (lw_in (j := 1) rfl hk hL (by decide)) ?_
  refine al_aload_n 4 dL_law_1183 rfl rfl ?_
  refine al_iload 0 dL_law_1184 rfl ?_
  refine al_iconst (v := 2) dL_law_1186 (by decide) ?_
  refine al_iadd dL_law_1187 ?_
  refine al_sld dL_law_1188 (lw_in (j := 2) rfl hk hL (by decide)) ?_
  refine al_aload_n 4 dL_law_1189 rfl rfl ?_
  refine al_iload 0 dL_law_1190 rfl ?_
  refine al_iconst (v := 3) dL_law_1192 (by decide) ?_
  refine al_iadd dL_law_1193 ?_
  refine al_sld dL_law_1194 (lw_in (j := 3) rfl hk hL (by decide)) ?_
  refine al_callV wv_X10_saw (M_X10_saw hG h1) ml_L_174 rfl (by decide) (lk140 hG) rfl rfl (Nat.le_of_ble_eq_true rfl) ⟨rfl, rfl⟩ ⟨Nat.le_of_ble_eq_true rfl, Nat.le_of_ble_eq_true rfl⟩ ⟨by show _ ≤ 601024; omega, by show _ ≤ 7293034; omega⟩ dL_law_1195 (al_ki fun r2 I2 J2 h2 => ?_)
  refine al_jeq 1473 dL_law_1198 (by decide) (fun _ => ?_) (fun c => absurd h2.1 c)
  exact al_widen (C + 1) (S + 6) (by omega) (by omega) (nx I2 J2 h2.2)
set_option maxRecDepth 20000 in
theorem lc_34 {b L C S k : Nat} {xs : Nat → Int32} {Z : List Frame → Array Value → State → State → Prop} {l : Launch} {D : va_G} {cy : Nat → ClassId} {sz : Nat} {G : sw_G} {I : sw_I} {J : sw_J} (hl : l.stackTraces = false) (hG : sw_lay G) (ho : sw_la G 174 1) (hk : 5 * k + 5 ≤ L) (hL : L ≤ 2560) (hC : C + 1 ≤ 601024) (hS : S + 6 ≤ 7293034) (hw : wW k I J) (nx : lw_N b L xs Z l D cy sz G C S k) : LL b L xs Z l D cy sz G C S I J 1203 (lw_lv b sz k) [] := by
  refine al_aload_n 3 dL_law_1203 rfl rfl ?_
  have h0 : wp_X9_forget  I J (fun r I1 J1 => wp_X10_forget  I1 J1 (fun r2 I2 J2 => r = r2 ∧ wW (k + 1) I2 J2)) := p_forget hw (fun v I2 J2 w _ => ⟨rfl, (wW_succ w)⟩)
  refine al_callV wv_X9_forget (M_X9_forget hG h0) ml_L_175 rfl (by decide) (lk0 hG) rfl rfl (Nat.le_of_ble_eq_true rfl) ⟨rfl, rfl⟩ ⟨Nat.le_of_ble_eq_true rfl, Nat.le_of_ble_eq_true rfl⟩ ⟨by show _ ≤ 601024; omega, by show _ ≤ 7293034; omega⟩ dL_law_1204 (al_ki fun r I1 J1 h1 => ?_)
  refine al_aload_n 2 dL_law_1207 rfl rfl ?_
  refine al_callV wv_X10_forget (M_X10_forget hG h1) ml_L_178 rfl (by decide) (lk140 hG) rfl rfl (Nat.le_of_ble_eq_true rfl) ⟨rfl, rfl⟩ ⟨Nat.le_of_ble_eq_true rfl, Nat.le_of_ble_eq_true rfl⟩ ⟨by show _ ≤ 601024; omega, by show _ ≤ 7293034; omega⟩ dL_law_1208 (al_ki fun r2 I2 J2 h2 => ?_)
  refine al_jeq 1473 dL_law_1211 (by decide) (fun _ => ?_) (fun c => absurd h2.1 c)
  exact al_widen (C + 1) (S + 6) (by omega) (by omega) (nx I2 J2 h2.2)
set_option maxRecDepth 20000 in
theorem lc_35 {b L C S k : Nat} {xs : Nat → Int32} {Z : List Frame → Array Value → State → State → Prop} {l : Launch} {D : va_G} {cy : Nat → ClassId} {sz : Nat} {G : sw_G} {I : sw_I} {J : sw_J} (hl : l.stackTraces = false) (hG : sw_lay G) (ho : sw_la G 174 1) (hk : 5 * k + 5 ≤ L) (hL : L ≤ 2560) (hC : C + 1 ≤ 601024) (hS : S + 6 ≤ 7293034) (hw : wW k I J) (nx : lw_N b L xs Z l D cy sz G C S k) : LL b L xs Z l D cy sz G C S I J 1216 (lw_lv b sz k) [] := by
  refine al_aload_n 3 dL_law_1216 rfl rfl ?_
  have h0 : wp_X9_believed  I J (fun r I1 J1 => wp_X10_believed  I1 J1 (fun r2 I2 J2 => r = r2 ∧ wW (k + 1) I2 J2)) := p_believed hw (fun v I2 J2 w _ => ⟨rfl, (wW_succ w)⟩)
  refine al_callV wv_X9_believed (M_X9_believed hG h0) ml_L_179 rfl (by decide) (lk0 hG) rfl rfl (Nat.le_of_ble_eq_true rfl) ⟨rfl, rfl⟩ ⟨Nat.le_of_ble_eq_true rfl, Nat.le_of_ble_eq_true rfl⟩ ⟨by show _ ≤ 601024; omega, by show _ ≤ 7293034; omega⟩ dL_law_1217 (al_ki fun r I1 J1 h1 => ?_)
  refine al_aload_n 2 dL_law_1220 rfl rfl ?_
  refine al_callV wv_X10_believed (M_X10_believed hG h1) ml_L_182 rfl (by decide) (lk140 hG) rfl rfl (Nat.le_of_ble_eq_true rfl) ⟨rfl, rfl⟩ ⟨Nat.le_of_ble_eq_true rfl, Nat.le_of_ble_eq_true rfl⟩ ⟨by show _ ≤ 601024; omega, by show _ ≤ 7293034; omega⟩ dL_law_1221 (al_ki fun r2 I2 J2 h2 => ?_)
  refine al_jeq 1473 dL_law_1224 (by decide) (fun _ => ?_) (fun c => absurd h2.1 c)
  exact al_widen (C + 1) (S + 6) (by omega) (by omega) (nx I2 J2 h2.2)
set_option maxRecDepth 20000 in
theorem lc_36 {b L C S k : Nat} {xs : Nat → Int32} {Z : List Frame → Array Value → State → State → Prop} {l : Launch} {D : va_G} {cy : Nat → ClassId} {sz : Nat} {G : sw_G} {I : sw_I} {J : sw_J} (hl : l.stackTraces = false) (hG : sw_lay G) (ho : sw_la G 174 1) (hk : 5 * k + 5 ≤ L) (hL : L ≤ 2560) (hC : C + 1 ≤ 601024) (hS : S + 6 ≤ 7293034) (hw : wW k I J) (nx : lw_N b L xs Z l D cy sz G C S k) : LL b L xs Z l D cy sz G C S I J 1229 (lw_lv b sz k) [] := by
  refine al_aload_n 3 dL_law_1229 rfl rfl ?_
  refine al_aload_n 4 dL_law_1230 rfl rfl ?_
  refine al_iload 0 dL_law_1231 rfl ?_
  refine al_iconst (v := 1) dL_law_1233 (by decide) ?_
  refine al_iadd dL_law_1234 ?_
  refine al_sld dL_law_1235 (lw_in (j := 1) rfl hk hL (by decide)) ?_
  have h0 : wp_X9_fits (xs (nI (5 * k) + 1).toNatClampNeg) I J (fun r I1 J1 => wp_X10_fits (xs (nI (5 * k) + 1).toNatClampNeg) I1 J1 (fun r2 I2 J2 => r = r2 ∧ wW (k + 1) I2 J2)) := p_fits hw (fun v I2 J2 w _ => ⟨rfl, (wW_succ w)⟩)
  refine al_callV wv_X9_fits (M_X9_fits hG h0) ml_L_183 rfl (by decide) (lk0 hG) rfl rfl (Nat.le_of_ble_eq_true rfl) ⟨rfl, rfl⟩ ⟨Nat.le_of_ble_eq_true rfl, Nat.le_of_ble_eq_true rfl⟩ ⟨by show _ ≤ 601024; omega, by show _ ≤ 7293034; omega⟩ dL_law_1236 (al_ki fun r I1 J1 h1 => ?_)
  refine al_aload_n 2 dL_law_1239 rfl rfl ?_
  refine al_aload_n 4 dL_law_1240 rfl rfl ?_
  refine al_iload 0 dL_law_1241 rfl ?_
  refine al_iconst (v := 1) dL_law_1243 (by decide) ?_
  refine al_iadd dL_law_1244 ?_
  refine al_sld dL_law_1245 (lw_in (j := 1) rfl hk hL (by decide)) ?_
  refine al_callV wv_X10_fits (M_X10_fits hG h1) ml_L_186 rfl (by decide) (lk140 hG) rfl rfl (Nat.le_of_ble_eq_true rfl) ⟨rfl, rfl⟩ ⟨Nat.le_of_ble_eq_true rfl, Nat.le_of_ble_eq_true rfl⟩ ⟨by show _ ≤ 601024; omega, by show _ ≤ 7293034; omega⟩ dL_law_1246 (al_ki fun r2 I2 J2 h2 => ?_)
  refine al_jeq 1473 dL_law_1249 (by decide) (fun _ => ?_) (fun c => absurd h2.1 c)
  exact al_widen (C + 1) (S + 6) (by omega) (by omega) (nx I2 J2 h2.2)
set_option maxRecDepth 20000 in
theorem lc_37 {b L C S k : Nat} {xs : Nat → Int32} {Z : List Frame → Array Value → State → State → Prop} {l : Launch} {D : va_G} {cy : Nat → ClassId} {sz : Nat} {G : sw_G} {I : sw_I} {J : sw_J} (hl : l.stackTraces = false) (hG : sw_lay G) (ho : sw_la G 174 1) (hk : 5 * k + 5 ≤ L) (hL : L ≤ 2560) (hC : C + 1 ≤ 601024) (hS : S + 6 ≤ 7293034) (hw : wW k I J) (nx : lw_N b L xs Z l D cy sz G C S k) : LL b L xs Z l D cy sz G C S I J 1254 (lw_lv b sz k) [] := by
  refine al_aload_n 3 dL_law_1254 rfl rfl ?_
  have h0 : wp_X9_lies  I J (fun r I1 J1 => wp_X10_lies  I1 J1 (fun r2 I2 J2 => r = r2 ∧ wW (k + 1) I2 J2)) := p_lies hw (fun v I2 J2 w _ => ⟨rfl, (wW_succ w)⟩)
  refine al_callV wv_X9_lies (M_X9_lies hG h0) ml_L_187 rfl (by decide) (lk0 hG) rfl rfl (Nat.le_of_ble_eq_true rfl) ⟨rfl, rfl⟩ ⟨Nat.le_of_ble_eq_true rfl, Nat.le_of_ble_eq_true rfl⟩ ⟨by show _ ≤ 601024; omega, by show _ ≤ 7293034; omega⟩ dL_law_1255 (al_ki fun r I1 J1 h1 => ?_)
  refine al_aload_n 2 dL_law_1258 rfl rfl ?_
  refine al_callV wv_X10_lies (M_X10_lies hG h1) ml_L_190 rfl (by decide) (lk140 hG) rfl rfl (Nat.le_of_ble_eq_true rfl) ⟨rfl, rfl⟩ ⟨Nat.le_of_ble_eq_true rfl, Nat.le_of_ble_eq_true rfl⟩ ⟨by show _ ≤ 601024; omega, by show _ ≤ 7293034; omega⟩ dL_law_1259 (al_ki fun r2 I2 J2 h2 => ?_)
  refine al_jeq 1473 dL_law_1262 (by decide) (fun _ => ?_) (fun c => absurd h2.1 c)
  exact al_widen (C + 1) (S + 6) (by omega) (by omega) (nx I2 J2 h2.2)
set_option maxRecDepth 20000 in
theorem lc_38 {b L C S k : Nat} {xs : Nat → Int32} {Z : List Frame → Array Value → State → State → Prop} {l : Launch} {D : va_G} {cy : Nat → ClassId} {sz : Nat} {G : sw_G} {I : sw_I} {J : sw_J} (hl : l.stackTraces = false) (hG : sw_lay G) (ho : sw_la G 174 1) (hk : 5 * k + 5 ≤ L) (hL : L ≤ 2560) (hC : C + 1 ≤ 601024) (hS : S + 6 ≤ 7293034) (hw : wW k I J) (nx : lw_N b L xs Z l D cy sz G C S k) : LL b L xs Z l D cy sz G C S I J 1267 (lw_lv b sz k) [] := by
  refine al_aload_n 3 dL_law_1267 rfl rfl ?_
  refine al_aload_n 4 dL_law_1268 rfl rfl ?_
  refine al_iload 0 dL_law_1269 rfl ?_
  refine al_iconst (v := 1) dL_law_1271 (by decide) ?_
  refine al_iadd dL_law_1272 ?_
  refine al_sld dL_law_1273 (lw_in (j := 1) rfl hk hL (by decide)) ?_
  have h0 : wp_X9_truly (xs (nI (5 * k) + 1).toNatClampNeg) I J (fun r I1 J1 => wp_X10_truly (xs (nI (5 * k) + 1).toNatClampNeg) I1 J1 (fun r2 I2 J2 => r = r2 ∧ wW (k + 1) I2 J2)) := p_truly hw (fun v I2 J2 w _ => ⟨rfl, (wW_succ w)⟩)
  refine al_callV wv_X9_truly (M_X9_truly hG h0) ml_L_191 rfl (by decide) (lk0 hG) rfl rfl (Nat.le_of_ble_eq_true rfl) ⟨rfl, rfl⟩ ⟨Nat.le_of_ble_eq_true rfl, Nat.le_of_ble_eq_true rfl⟩ ⟨by show _ ≤ 601024; omega, by show _ ≤ 7293034; omega⟩ dL_law_1274 (al_ki fun r I1 J1 h1 => ?_)
  refine al_aload_n 2 dL_law_1277 rfl rfl ?_
  refine al_aload_n 4 dL_law_1278 rfl rfl ?_
  refine al_iload 0 dL_law_1279 rfl ?_
  refine al_iconst (v := 1) dL_law_1281 (by decide) ?_
  refine al_iadd dL_law_1282 ?_
  refine al_sld dL_law_1283 (lw_in (j := 1) rfl hk hL (by decide)) ?_
  refine al_callV wv_X10_truly (M_X10_truly hG h1) ml_L_194 rfl (by decide) (lk140 hG) rfl rfl (Nat.le_of_ble_eq_true rfl) ⟨rfl, rfl⟩ ⟨Nat.le_of_ble_eq_true rfl, Nat.le_of_ble_eq_true rfl⟩ ⟨by show _ ≤ 601024; omega, by show _ ≤ 7293034; omega⟩ dL_law_1284 (al_ki fun r2 I2 J2 h2 => ?_)
  refine al_jeq 1473 dL_law_1287 (by decide) (fun _ => ?_) (fun c => absurd h2.1 c)
  exact al_widen (C + 1) (S + 6) (by omega) (by omega) (nx I2 J2 h2.2)
set_option maxRecDepth 20000 in
theorem lc_39 {b L C S k : Nat} {xs : Nat → Int32} {Z : List Frame → Array Value → State → State → Prop} {l : Launch} {D : va_G} {cy : Nat → ClassId} {sz : Nat} {G : sw_G} {I : sw_I} {J : sw_J} (hl : l.stackTraces = false) (hG : sw_lay G) (ho : sw_la G 174 1) (hk : 5 * k + 5 ≤ L) (hL : L ≤ 2560) (hC : C + 1 ≤ 601024) (hS : S + 6 ≤ 7293034) (hw : wW k I J) (nx : lw_N b L xs Z l D cy sz G C S k) : LL b L xs Z l D cy sz G C S I J 1292 (lw_lv b sz k) [] := by
  refine al_aload_n 3 dL_law_1292 rfl rfl ?_
  refine al_aload_n 4 dL_law_1293 rfl rfl ?_
  refine al_iload 0 dL_law_1294 rfl ?_
  refine al_iconst (v := 1) dL_law_1296 (by decide) ?_
  refine al_iadd dL_law_1297 ?_
  refine al_sld dL_law_1298 (lw_in (j := 1) rfl hk hL (by decide)) ?_
  have h0 : wp_X9_odds (xs (nI (5 * k) + 1).toNatClampNeg) I J (fun r I1 J1 => wp_X10_odds (xs (nI (5 * k) + 1).toNatClampNeg) I1 J1 (fun r2 I2 J2 => r = r2 ∧ wW (k + 1) I2 J2)) := p_odds hw (fun v I2 J2 w _ => ⟨rfl, (wW_succ w)⟩)
  refine al_callV wv_X9_odds (M_X9_odds hG h0) ml_L_195 rfl (by decide) (lk0 hG) rfl rfl (Nat.le_of_ble_eq_true rfl) ⟨rfl, rfl⟩ ⟨Nat.le_of_ble_eq_true rfl, Nat.le_of_ble_eq_true rfl⟩ ⟨by show _ ≤ 601024; omega, by show _ ≤ 7293034; omega⟩ dL_law_1299 (al_ki fun r I1 J1 h1 => ?_)
  refine al_aload_n 2 dL_law_1302 rfl rfl ?_
  refine al_aload_n 4 dL_law_1303 rfl rfl ?_
  refine al_iload 0 dL_law_1304 rfl ?_
  refine al_iconst (v := 1) dL_law_1306 (by decide) ?_
  refine al_iadd dL_law_1307 ?_
  refine al_sld dL_law_1308 (lw_in (j := 1) rfl hk hL (by decide)) ?_
  refine al_callV wv_X10_odds (M_X10_odds hG h1) ml_L_198 rfl (by decide) (lk140 hG) rfl rfl (Nat.le_of_ble_eq_true rfl) ⟨rfl, rfl⟩ ⟨Nat.le_of_ble_eq_true rfl, Nat.le_of_ble_eq_true rfl⟩ ⟨by show _ ≤ 601024; omega, by show _ ≤ 7293034; omega⟩ dL_law_1309 (al_ki fun r2 I2 J2 h2 => ?_)
  refine al_jeq 1473 dL_law_1312 (by decide) (fun _ => ?_) (fun c => absurd h2.1 c)
  exact al_widen (C + 1) (S + 6) (by omega) (by omega) (nx I2 J2 h2.2)
set_option maxRecDepth 20000 in
theorem lc_40 {b L C S k : Nat} {xs : Nat → Int32} {Z : List Frame → Array Value → State → State → Prop} {l : Launch} {D : va_G} {cy : Nat → ClassId} {sz : Nat} {G : sw_G} {I : sw_I} {J : sw_J} (hl : l.stackTraces = false) (hG : sw_lay G) (ho : sw_la G 174 1) (hk : 5 * k + 5 ≤ L) (hL : L ≤ 2560) (hC : C + 1 ≤ 601024) (hS : S + 6 ≤ 7293034) (hw : wW k I J) (nx : lw_N b L xs Z l D cy sz G C S k) : LL b L xs Z l D cy sz G C S I J 1317 (lw_lv b sz k) [] := by
  refine al_aload_n 3 dL_law_1317 rfl rfl ?_
  have h0 : wp_X9_likely  I J (fun r I1 J1 => wp_X10_likely  I1 J1 (fun r2 I2 J2 => r = r2 ∧ wW (k + 1) I2 J2)) := p_likely hw (fun v I2 J2 w _ => ⟨rfl, (wW_succ w)⟩)
  refine al_callV wv_X9_likely (M_X9_likely hG h0) ml_L_199 rfl (by decide) (lk0 hG) rfl rfl (Nat.le_of_ble_eq_true rfl) ⟨rfl, rfl⟩ ⟨Nat.le_of_ble_eq_true rfl, Nat.le_of_ble_eq_true rfl⟩ ⟨by show _ ≤ 601024; omega, by show _ ≤ 7293034; omega⟩ dL_law_1318 (al_ki fun r I1 J1 h1 => ?_)
  refine al_aload_n 2 dL_law_1321 rfl rfl ?_
  refine al_callV wv_X10_likely (M_X10_likely hG h1) ml_L_202 rfl (by decide) (lk140 hG) rfl rfl (Nat.le_of_ble_eq_true rfl) ⟨rfl, rfl⟩ ⟨Nat.le_of_ble_eq_true rfl, Nat.le_of_ble_eq_true rfl⟩ ⟨by show _ ≤ 601024; omega, by show _ ≤ 7293034; omega⟩ dL_law_1322 (al_ki fun r2 I2 J2 h2 => ?_)
  refine al_jeq 1473 dL_law_1325 (by decide) (fun _ => ?_) (fun c => absurd h2.1 c)
  exact al_widen (C + 1) (S + 6) (by omega) (by omega) (nx I2 J2 h2.2)
set_option maxRecDepth 20000 in
theorem lc_41 {b L C S k : Nat} {xs : Nat → Int32} {Z : List Frame → Array Value → State → State → Prop} {l : Launch} {D : va_G} {cy : Nat → ClassId} {sz : Nat} {G : sw_G} {I : sw_I} {J : sw_J} (hl : l.stackTraces = false) (hG : sw_lay G) (ho : sw_la G 174 1) (hk : 5 * k + 5 ≤ L) (hL : L ≤ 2560) (hC : C + 1 ≤ 601024) (hS : S + 6 ≤ 7293034) (hw : wW k I J) (nx : lw_N b L xs Z l D cy sz G C S k) : LL b L xs Z l D cy sz G C S I J 1330 (lw_lv b sz k) [] := by
  refine al_aload_n 3 dL_law_1330 rfl rfl ?_
  have h0 : wp_X9_split  I J (fun r I1 J1 => wp_X10_split  I1 J1 (fun r2 I2 J2 => r = r2 ∧ wW (k + 1) I2 J2)) := p_split hw (fun v I2 J2 w _ => ⟨rfl, (wW_succ w)⟩)
  refine al_callV wv_X9_split (M_X9_split hG h0) ml_L_203 rfl (by decide) (lk0 hG) rfl rfl (Nat.le_of_ble_eq_true rfl) ⟨rfl, rfl⟩ ⟨Nat.le_of_ble_eq_true rfl, Nat.le_of_ble_eq_true rfl⟩ ⟨by show _ ≤ 601024; omega, by show _ ≤ 7293034; omega⟩ dL_law_1331 (al_ki fun r I1 J1 h1 => ?_)
  refine al_aload_n 2 dL_law_1334 rfl rfl ?_
  refine al_callV wv_X10_split (M_X10_split hG h1) ml_L_206 rfl (by decide) (lk140 hG) rfl rfl (Nat.le_of_ble_eq_true rfl) ⟨rfl, rfl⟩ ⟨Nat.le_of_ble_eq_true rfl, Nat.le_of_ble_eq_true rfl⟩ ⟨by show _ ≤ 601024; omega, by show _ ≤ 7293034; omega⟩ dL_law_1335 (al_ki fun r2 I2 J2 h2 => ?_)
  refine al_jeq 1473 dL_law_1338 (by decide) (fun _ => ?_) (fun c => absurd h2.1 c)
  exact al_widen (C + 1) (S + 6) (by omega) (by omega) (nx I2 J2 h2.2)
set_option maxRecDepth 20000 in
theorem lc_42 {b L C S k : Nat} {xs : Nat → Int32} {Z : List Frame → Array Value → State → State → Prop} {l : Launch} {D : va_G} {cy : Nat → ClassId} {sz : Nat} {G : sw_G} {I : sw_I} {J : sw_J} (hl : l.stackTraces = false) (hG : sw_lay G) (ho : sw_la G 174 1) (hk : 5 * k + 5 ≤ L) (hL : L ≤ 2560) (hC : C + 1 ≤ 601024) (hS : S + 6 ≤ 7293034) (hw : wW k I J) (nx : lw_N b L xs Z l D cy sz G C S k) : LL b L xs Z l D cy sz G C S I J 1343 (lw_lv b sz k) [] := by
  refine al_aload_n 3 dL_law_1343 rfl rfl ?_
  refine al_aload_n 4 dL_law_1344 rfl rfl ?_
  refine al_iload 0 dL_law_1345 rfl ?_
  refine al_iconst (v := 1) dL_law_1347 (by decide) ?_
  refine al_iadd dL_law_1348 ?_
  refine al_sld dL_law_1349 (lw_in (j := 1) rfl hk hL (by decide)) ?_
  have h0 : wp_X9_keep (xs (nI (5 * k) + 1).toNatClampNeg) I J (fun r I1 J1 => wp_X10_keep (xs (nI (5 * k) + 1).toNatClampNeg) I1 J1 (fun r2 I2 J2 => r = r2 ∧ wW (k + 1) I2 J2)) := p_keep hw (fun v I2 J2 w _ => ⟨rfl, (wW_succ w)⟩)
  refine al_callV wv_X9_keep (M_X9_keep hG h0) ml_L_207 rfl (by decide) (lk0 hG) rfl rfl (Nat.le_of_ble_eq_true rfl) ⟨rfl, rfl⟩ ⟨Nat.le_of_ble_eq_true rfl, Nat.le_of_ble_eq_true rfl⟩ ⟨by show _ ≤ 601024; omega, by show _ ≤ 7293034; omega⟩ dL_law_1350 (al_ki fun r I1 J1 h1 => ?_)
  refine al_aload_n 2 dL_law_1353 rfl rfl ?_
  refine al_aload_n 4 dL_law_1354 rfl rfl ?_
  refine al_iload 0 dL_law_1355 rfl ?_
  refine al_iconst (v := 1) dL_law_1357 (by decide) ?_
  refine al_iadd dL_law_1358 ?_
  refine al_sld dL_law_1359 (lw_in (j := 1) rfl hk hL (by decide)) ?_
  refine al_callV wv_X10_keep (M_X10_keep hG h1) ml_L_210 rfl (by decide) (lk140 hG) rfl rfl (Nat.le_of_ble_eq_true rfl) ⟨rfl, rfl⟩ ⟨Nat.le_of_ble_eq_true rfl, Nat.le_of_ble_eq_true rfl⟩ ⟨by show _ ≤ 601024; omega, by show _ ≤ 7293034; omega⟩ dL_law_1360 (al_ki fun r2 I2 J2 h2 => ?_)
  refine al_jeq 1473 dL_law_1363 (by decide) (fun _ => ?_) (fun c => absurd h2.1 c)
  exact al_widen (C + 1) (S + 6) (by omega) (by omega) (nx I2 J2 h2.2)
set_option maxRecDepth 20000 in
theorem lc_43 {b L C S k : Nat} {xs : Nat → Int32} {Z : List Frame → Array Value → State → State → Prop} {l : Launch} {D : va_G} {cy : Nat → ClassId} {sz : Nat} {G : sw_G} {I : sw_I} {J : sw_J} (hl : l.stackTraces = false) (hG : sw_lay G) (ho : sw_la G 174 1) (hk : 5 * k + 5 ≤ L) (hL : L ≤ 2560) (hC : C + 1 ≤ 601024) (hS : S + 6 ≤ 7293034) (hw : wW k I J) (nx : lw_N b L xs Z l D cy sz G C S k) : LL b L xs Z l D cy sz G C S I J 1368 (lw_lv b sz k) [] := by
  refine al_aload_n 3 dL_law_1368 rfl rfl ?_
  refine al_aload_n 4 dL_law_1369 rfl rfl ?_
  refine al_iload 0 dL_law_1370 rfl ?_
  refine al_iconst (v := 1) dL_law_1372 (by decide) ?_
  refine al_iadd dL_law_1373 ?_
  refine al_sld dL_law_1374 (lw_in (j := 1) rfl hk hL (by decide)) ?_
  have h0 : wp_X9_again (xs (nI (5 * k) + 1).toNatClampNeg) I J (fun r I1 J1 => wp_X10_again (xs (nI (5 * k) + 1).toNatClampNeg) I1 J1 (fun r2 I2 J2 => r = r2 ∧ wW (k + 1) I2 J2)) := p_again (by omega) hw (fun v I2 J2 w _ => ⟨rfl, (wW_succ w)⟩)
  refine al_callV wv_X9_again (M_X9_again hG h0) ml_L_211 rfl (by decide) (lk0 hG) rfl rfl (Nat.le_of_ble_eq_true rfl) ⟨rfl, rfl⟩ ⟨Nat.le_of_ble_eq_true rfl, Nat.le_of_ble_eq_true rfl⟩ ⟨by show _ ≤ 601024; omega, by show _ ≤ 7293034; omega⟩ dL_law_1375 (al_ki fun r I1 J1 h1 => ?_)
  refine al_aload_n 2 dL_law_1378 rfl rfl ?_
  refine al_aload_n 4 dL_law_1379 rfl rfl ?_
  refine al_iload 0 dL_law_1380 rfl ?_
  refine al_iconst (v := 1) dL_law_1382 (by decide) ?_
  refine al_iadd dL_law_1383 ?_
  refine al_sld dL_law_1384 (lw_in (j := 1) rfl hk hL (by decide)) ?_
  refine al_callV wv_X10_again (M_X10_again hG h1) ml_L_214 rfl (by decide) (lk140 hG) rfl rfl (Nat.le_of_ble_eq_true rfl) ⟨rfl, rfl⟩ ⟨Nat.le_of_ble_eq_true rfl, Nat.le_of_ble_eq_true rfl⟩ ⟨by show _ ≤ 601024; omega, by show _ ≤ 7293034; omega⟩ dL_law_1385 (al_ki fun r2 I2 J2 h2 => ?_)
  refine al_jeq 1473 dL_law_1388 (by decide) (fun _ => ?_) (fun c => absurd h2.1 c)
  exact al_widen (C + 1) (S + 6) (by omega) (by omega) (nx I2 J2 h2.2)
set_option maxRecDepth 20000 in
theorem lc_44 {b L C S k : Nat} {xs : Nat → Int32} {Z : List Frame → Array Value → State → State → Prop} {l : Launch} {D : va_G} {cy : Nat → ClassId} {sz : Nat} {G : sw_G} {I : sw_I} {J : sw_J} (hl : l.stackTraces = false) (hG : sw_lay G) (ho : sw_la G 174 1) (hk : 5 * k + 5 ≤ L) (hL : L ≤ 2560) (hC : C + 1 ≤ 601024) (hS : S + 6 ≤ 7293034) (hw : wW k I J) (nx : lw_N b L xs Z l D cy sz G C S k) : LL b L xs Z l D cy sz G C S I J 1393 (lw_lv b sz k) [] := by
  refine al_aload_n 3 dL_law_1393 rfl rfl ?_
  refine al_aload_n 4 dL_law_1394 rfl rfl ?_
  refine al_iload 0 dL_law_1395 rfl ?_
  refine al_iconst (v := 1) dL_law_1397 (by decide) ?_
  refine al_iadd dL_law_1398 ?_
  refine al_sld dL_law_1399 (lw_in (j := 1) rfl hk hL (by decide)) ?_
  have h0 : wp_X9_count (xs (nI (5 * k) + 1).toNatClampNeg) I J (fun r I1 J1 => wp_X10_count (xs (nI (5 * k) + 1).toNatClampNeg) I1 J1 (fun r2 I2 J2 => r = r2 ∧ wW (k + 1) I2 J2)) := p_count hw (fun v I2 J2 w _ => ⟨rfl, (wW_succ w)⟩)
  refine al_callV wv_X9_count (M_X9_count hG h0) ml_L_215 rfl (by decide) (lk0 hG) rfl rfl (Nat.le_of_ble_eq_true rfl) ⟨rfl, rfl⟩ ⟨Nat.le_of_ble_eq_true rfl, Nat.le_of_ble_eq_true rfl⟩ ⟨by show _ ≤ 601024; omega, by show _ ≤ 7293034; omega⟩ dL_law_1400 (al_ki fun r I1 J1 h1 => ?_)
  refine al_aload_n 2 dL_law_1403 rfl rfl ?_
  refine al_aload_n 4 dL_law_1404 rfl rfl ?_
  refine al_iload 0 dL_law_1405 rfl ?_
  refine al_iconst (v := 1) dL_law_1407 (by decide) ?_
  refine al_iadd dL_law_1408 ?_
  refine al_sld dL_law_1409 (lw_in (j := 1) rfl hk hL (by decide)) ?_
  refine al_callV wv_X10_count (M_X10_count hG h1) ml_L_218 rfl (by decide) (lk140 hG) rfl rfl (Nat.le_of_ble_eq_true rfl) ⟨rfl, rfl⟩ ⟨Nat.le_of_ble_eq_true rfl, Nat.le_of_ble_eq_true rfl⟩ ⟨by show _ ≤ 601024; omega, by show _ ≤ 7293034; omega⟩ dL_law_1410 (al_ki fun r2 I2 J2 h2 => ?_)
  refine al_jeq 1473 dL_law_1413 (by decide) (fun _ => ?_) (fun c => absurd h2.1 c)
  exact al_widen (C + 1) (S + 6) (by omega) (by omega) (nx I2 J2 h2.2)
set_option maxRecDepth 20000 in
theorem lc_45 {b L C S k : Nat} {xs : Nat → Int32} {Z : List Frame → Array Value → State → State → Prop} {l : Launch} {D : va_G} {cy : Nat → ClassId} {sz : Nat} {G : sw_G} {I : sw_I} {J : sw_J} (hl : l.stackTraces = false) (hG : sw_lay G) (ho : sw_la G 174 1) (hk : 5 * k + 5 ≤ L) (hL : L ≤ 2560) (hC : C + 1 ≤ 601024) (hS : S + 6 ≤ 7293034) (hw : wW k I J) (nx : lw_N b L xs Z l D cy sz G C S k) : LL b L xs Z l D cy sz G C S I J 1418 (lw_lv b sz k) [] := by
  refine al_aload_n 3 dL_law_1418 rfl rfl ?_
  refine al_aload_n 4 dL_law_1419 rfl rfl ?_
  refine al_iload 0 dL_law_1420 rfl ?_
  refine al_iconst (v := 1) dL_law_1422 (by decide) ?_
  refine al_iadd dL_law_1423 ?_
  refine al_sld dL_law_1424 (lw_in (j := 1) rfl hk hL (by decide)) ?_
  refine al_aload_n 1 dL_law_1425 rfl rfl ?_
  have h0 := p_row (o := 174) (x1 := xs (nI (5 * k) + 1).toNatClampNeg) (Q := fun r r2 I2 J2 => wW (k + 1) I2 J2 ∧ I2 140 0 = r ∧ (r = 0 → J2 174 0 = r2)) (by decide) (by decide) hw (fun v v2 I2 J2 w e1 e2 => ⟨wW_succ w, e1, e2⟩)
  refine al_callSW wv_L_row (M_L_row hl hG ho h0) ml_L_219 rfl rfl (Nat.le_of_ble_eq_true rfl) ⟨rfl, rfl⟩ ⟨Nat.le_of_ble_eq_true rfl, Nat.le_of_ble_eq_true rfl⟩ ⟨by show _ ≤ 601024; omega, by show _ ≤ 7293034; omega⟩ dL_law_1426 (fun r9 G9 I1 J1 hq => ?_)
  obtain ⟨eG, r, er, h1⟩ := hq
  rw [eG, er]
  refine al_istore (lv' := [(5, .int r)] ++ lw_lv b sz k) dL_law_1429 (by decide) rfl ?_
  refine al_aload_n 3 dL_law_1431 rfl rfl ?_
  refine al_aload_n 5 dL_law_1432 rfl rfl ?_
  refine al_iload 1 dL_law_1433 rfl ?_
  refine al_iconst (v := 1) dL_law_1435 (by decide) ?_
  refine al_iadd dL_law_1436 ?_
  refine al_sld dL_law_1437 (lw_in (j := 1) rfl hk hL (by decide)) ?_
  refine al_callV wv_X10_row (M_X10_row hG h1) ml_L_221 rfl (by decide) (lk140 hG) rfl rfl (Nat.le_of_ble_eq_true rfl) ⟨rfl, rfl⟩ ⟨Nat.le_of_ble_eq_true rfl, Nat.le_of_ble_eq_true rfl⟩ ⟨by show _ ≤ 601024; omega, by show _ ≤ 7293034; omega⟩ dL_law_1438 (al_kl fun r2 I2 J2 h2 => ?_)
  refine al_lstore (lv' := [(6, .long r2), (5, .int r)] ++ lw_lv b sz k) dL_law_1441 (by decide) rfl ?_
  refine al_aload_n 4 dL_law_1443 rfl rfl ?_
  refine al_callV wv_X10_thrown (M_X10_thrown hG (show wp_X10_thrown I2 J2 (fun r3 I3 J3 => r3 = I2 140 0 ∧ I3 = I2 ∧ J3 = J2) from ⟨rfl, rfl, rfl⟩)) ml_L_58 rfl (by decide) (lk140 hG) rfl rfl (Nat.le_of_ble_eq_true rfl) ⟨rfl, rfl⟩ ⟨Nat.le_of_ble_eq_true rfl, Nat.le_of_ble_eq_true rfl⟩ ⟨by show _ ≤ 601024; omega, by show _ ≤ 7293034; omega⟩ dL_law_1444 (al_ki fun r3 I3 J3 h3 => ?_)
  obtain ⟨e3, e4, e5⟩ := h3
  rw [e4, e5]
  refine al_iload 1 dL_law_1447 rfl ?_
  refine al_jeq 1454 dL_law_1449 (by decide) (fun _ => ?_) (fun c => absurd (e3.trans h2.2.1) c)
  refine al_iload 1 dL_law_1454 rfl ?_
  have fin : LL b L xs Z l D cy sz G (C + 1) (S + 6) I2 J2 1470 ([(6, .long r2), (5, .int r)] ++ lw_lv b sz k) [] := by
    refine al_goto 1473 dL_law_1470 (by decide) ?_
    exact al_sub [2, 3, 4, 5, 6] rfl (nx I2 J2 h2.1)
  refine al_zne 1470 dL_law_1456 (by decide) (fun _ => fin) (fun c0 => ?_)
  refine al_aload_n 3 dL_law_1459 rfl rfl ?_
  refine al_iconst (v := 0) dL_law_1460 (by decide) ?_
  refine al_lld dL_law_1461 ho.1 ho.2 (by unfold vp_in; decide) ?_
  refine al_lload 0 dL_law_1462 rfl ?_
  refine al_lcmp dL_law_1464 ?_
  refine al_zeq 1470 dL_law_1465 (by decide) (fun _ => fin) (fun c => absurd ((lg_cmp_eq _ _).mpr (h2.2.2 c0)) c)
