/-- the law's whole body, but for what it starts from and how it ends -/
theorem lw_all {b L : Nat} {xs : Nat → Int32} {Z : List Frame → Array Value → State → State → Prop} {l : Launch} {D : va_G} {cy : Nat → ClassId} {sz : Nat} {ρ : mk_RR} {I : sw_I} {J : sw_J} (hl : l.stackTraces = false) (hL : L ≤ 2560) (hJ : ∀ k j, J k j = 0) (hz : mk_Z 0 ρ I)
    (hend : ∀ (G : sw_G) (C2 S2 : Nat) (I : sw_I) (J : sw_J) (lv : List (Nat × Value)), C2 ≤ 601024 → S2 ≤ 7293034 → LL b L xs Z l D cy sz G C2 S2 I J 1480 lv [.int 1]) : LL b L xs Z l D cy sz (mk_G 0 ρ) 0 0 I J 0 [(0, .ref b)] [] := by
  refine lw_make hJ hz (fun ρ2 I2 h2 z2 => ?_)
  have hG : sw_lay (none, List.range 175, mk_K, mk_N, ρ2) := by
    refine ⟨rfl, fun k hk => ⟨List.mem_range.mpr hk, rfl, rfl, fun j => ?_⟩⟩
    show ρ2 k j = mk_R k j
    by_cases c : k < 174
    · exact (h2 k c).1 j
    · have e : k = 174 := by omega
      subst e
      exact (z2 174 (Nat.le_refl _) j).1
  exact lw_loop (C := 175) (S := 44473) hl hG ⟨⟨List.mem_range.mpr (by decide), rfl⟩, rfl⟩ hL (by decide) (by decide) (hend _) 513 0 I2 J rfl (Nat.zero_le _) (wW_ini (fun c hc => (h2 c hc).2))
