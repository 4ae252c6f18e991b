/-! law: both read the same -/
def dpS (D : Nat) (c : Int32) : Nat := if c < 0 then (if nmP (-c) then D + 1 else if c = -126 then D else D - 1) else D + 1
def dpO (D : Nat) (c : Int32) : Prop := c < 0 → ¬ nmP (-c) → (c = -126 → 1 ≤ D) ∧ (¬ c = -126 → 2 ≤ D)
def dpL : List Int32 → Nat → Nat
  | [], D => D
  | c :: C, D => dpL C (dpS D c)
def dpG : List Int32 → Nat → Prop
  | [], _ => True
  | c :: C, D => dpO D c ∧ dpG C (dpS D c)
theorem dpL_app : ∀ (A B : List Int32) (D : Nat), dpL (A ++ B) D = dpL B (dpL A D)
  | [], _, _ => rfl
  | c :: A, B, D => dpL_app A B (dpS D c)
theorem dpG_app : ∀ (A B : List Int32) (D : Nat), dpG A D → dpG B (dpL A D) → dpG (A ++ B) D
  | [], _, _, _, h => h
  | c :: A, B, D, h, h2 => ⟨h.1, dpG_app A B (dpS D c) h.2 h2⟩
def gdC (C : List Int32) : Prop := ∀ D, dpG C D ∧ dpL C D = D + 1
def glC (C : List Int32) : Prop := ∀ D, dpG C (D + 1) ∧ dpL C (D + 1) = D + 1
def vlC (C : List Int32) : Prop := ∀ c, c ∈ C → (¬ c < 0 → c < 1000) ∧ (c < 0 → nmP (-c) ∨ c = -126 ∨ opP (-c))
theorem gd_num {v : Nat} (hv : v < 1000) : gdC [nI v] ∧ vlC [nI v] := by
  have h0 : ¬ nI v < 0 := nI_pos (by omega)
  refine ⟨fun D => ⟨⟨fun q => absurd q h0, trivial⟩, ?_⟩, fun c hc => ?_⟩
  · show dpS D (nI v) = D + 1
    unfold dpS; rw [if_neg h0]
  · have e : c = nI v := by simpa using hc
    rw [e]
    exact ⟨fun _ => nI_lt (b := 1000) hv (by decide), fun q => absurd q h0⟩
theorem nm_cd : ∀ c, c < 256 → nmN c = true → cdO c < 0 ∧ nmP (-(cdO c)) ∧ (decide ((-114 : Int32) ∈ [cdO c]) = decide (c = 114)) := by decide +kernel
theorem gd_nam {c : Nat} (hc : c < 256) (hn : nmN c = true) : gdC [cdO c] ∧ vlC [cdO c] := by
  obtain ⟨h1, h2, -⟩ := nm_cd c hc hn
  refine ⟨fun D => ⟨⟨fun _ q => absurd h2 q, trivial⟩, ?_⟩, fun x hx => ?_⟩
  · show dpS D (cdO c) = D + 1
    unfold dpS; rw [if_pos h1, if_pos h2]
  · have e : x = cdO c := by simpa using hx
    rw [e]; exact ⟨fun q => absurd h1 q, fun _ => Or.inl h2⟩
theorem gd_neg {C : List Int32} (h : gdC C ∧ vlC C) : gdC (C ++ [-126]) ∧ vlC (C ++ [-126]) := by
  refine ⟨fun D => ?_, fun c hc => ?_⟩
  · obtain ⟨a, b⟩ := h.1 D
    refine ⟨dpG_app C _ D a ⟨fun _ _ => ⟨fun _ => by omega, fun q => absurd rfl q⟩, trivial⟩, ?_⟩
    rw [dpL_app, b]; rfl
  · rcases List.mem_append.mp hc with q | q
    · exact h.2 c q
    · have e : c = -126 := by simpa using q
      rw [e]; exact ⟨fun q => absurd (by decide) q, fun _ => Or.inr (Or.inl rfl)⟩
theorem op_cd : ∀ c, c < 256 → (arN c = true ∨ cpN c = true) → cdO c < 0 ∧ ¬ nmP (-(cdO c)) ∧ ¬ cdO c = -126 ∧ opP (-(cdO c)) := by
  intro c hc h
  have h2 : c = 43 ∨ c = 45 ∨ c = 42 ∨ c = 47 ∨ c = 60 ∨ c = 62 ∨ c = 61 := by
    rcases h with q | q
    · have := of_decide_eq_true q; omega
    · have := of_decide_eq_true q; omega
  rcases h2 with e | e | e | e | e | e | e <;> rw [e] <;> exact ⟨by decide, by decide, by decide, by decide⟩
theorem gl_op {C C3 : List Int32} {c : Nat} (hc : c < 256) (hn : arN c = true ∨ cpN c = true) (h : gdC C ∧ vlC C) (h3 : glC C3 ∧ vlC C3) : glC (C ++ [cdO c] ++ C3) ∧ vlC (C ++ [cdO c] ++ C3) := by
  obtain ⟨o1, o2, o3, o4⟩ := op_cd c hc hn
  refine ⟨fun D => ?_, fun x hx => ?_⟩
  · obtain ⟨a, b⟩ := h.1 (D + 1)
    have e1 : dpL (C ++ [cdO c]) (D + 1) = D + 1 := by
      rw [dpL_app, b]
      show dpS (D + 1 + 1) (cdO c) = D + 1
      unfold dpS; rw [if_pos o1, if_neg o2, if_neg o3]; rfl
    have g1 : dpG (C ++ [cdO c]) (D + 1) := dpG_app C _ _ a ⟨fun _ _ => ⟨fun q => absurd q o3, fun _ => by omega⟩, trivial⟩
    obtain ⟨a3, b3⟩ := h3.1 D
    refine ⟨dpG_app _ C3 _ g1 (by rw [e1]; exact a3), ?_⟩
    rw [dpL_app, e1, b3]
  · rcases List.mem_append.mp hx with q | q
    · rcases List.mem_append.mp q with q | q
      · exact h.2 x q
      · have e : x = cdO c := by simpa using q
        rw [e]; exact ⟨fun q => absurd o1 q, fun _ => Or.inr (Or.inr o4)⟩
    · exact h3.2 x q
theorem gl_nil : glC [] ∧ vlC [] := ⟨fun D => ⟨trivial, rfl⟩, fun c hc => absurd hc (by simp)⟩
theorem gd_gl {C C2 : List Int32} (h : gdC C ∧ vlC C) (h2 : glC C2 ∧ vlC C2) : gdC (C ++ C2) ∧ vlC (C ++ C2) := by
  refine ⟨fun D => ?_, fun x hx => ?_⟩
  · obtain ⟨a, b⟩ := h.1 D
    obtain ⟨a2, b2⟩ := h2.1 D
    exact ⟨dpG_app C C2 D a (by rw [b]; exact a2), by rw [dpL_app, b, b2]⟩
  · rcases List.mem_append.mp hx with q | q
    · exact h.2 x q
    · exact h2.2 x q
def hasR (C : List Int32) : Bool := decide ((-114 : Int32) ∈ C)
theorem hasR_app (A B : List Int32) : hasR (A ++ B) = (hasR A || hasR B) := by
  unfold hasR; rw [← Bool.decide_or]; exact decide_eq_decide.mpr List.mem_append
theorem hasR_nil : hasR [] = false := rfl
theorem hasR_op {c : Nat} (hc : c < 256) (hn : arN c = true ∨ cpN c = true) : hasR [cdO c] = false := by
  have := op_cd c hc hn
  refine decide_eq_false (fun q => ?_)
  have e : (-114 : Int32) = cdO c := by simpa using q
  rw [← e] at this
  exact this.2.1 (by decide)
theorem hasR_num (v : Nat) (hv : v < 1000) : hasR [nI v] = false := by
  refine decide_eq_false (fun q => ?_)
  have e : (-114 : Int32) = nI v := by simpa using q
  exact nI_pos (n := v) (by omega) (by rw [← e]; decide)
def edF (U : Nat → Nat) (to r o p : Nat) (c : Int32) (g : Nat) : Prop := p < to → (dgN (U p) = true → g = 0 ∨ g = 3) ∧ (r ≤ 2 → ¬ (U p = 42 ∨ U p = 47)) ∧ (r ≤ 1 → ¬ (U p = 43 ∨ U p = 45)) ∧ (r = 0 → cpN (U p) = true → inB c o = true)
def FL (T : Nat → Int32) (U : Nat → Nat) (t to r o p q : Nat) (ok : Bool) : Prop := ∀ (I : sw_I) (J : sw_J) (Q : Int32 → sw_I → sw_J → Prop) (c : Int32), I 1 1 = nI t → I 2 = T → (r = 0 → inB c o = false) → (ok = false → Q (nI q) I J) → (ok = true → ∀ c2 g, g ≤ 3 → edF U to r o q c2 g → (∀ i, i < o → inB c2 i = inB c i) → (0 < r → inB c2 o = inB c o) → wl_X2_flawOf_33 Q (to - q + 1) (nI to) 0 (nI o) c2 (nI g) (nI q) I J) → wl_X2_flawOf_33 Q (to - p + 1) (nI to) 1 (nI o) c 0 (nI p) I J
def TK (T : Nat → Int32) (t r p q : Nat) (C : List Int32) : Prop := ∀ (I : sw_I) (J : sw_J) (Q : sw_I → sw_J → Prop) (K : List Int32) (S : List Nat) (a : Bool), I 1 1 = nI t → I 2 = T → syS I K S a → K.length + S.length ≤ p → (∀ x, x ∈ S → x < 256) → (r ≤ 2 → topL S (r + 1)) → (∀ I2 K1 P, eqx tkC I I2 → K1 ++ rvC P = K ++ C → (∀ x, x ∈ P → r + 1 ≤ sgN x ∧ x < 256) → K1.length + (S ++ P).length ≤ q → syS I2 K1 (S ++ P) (a || hasR C) → wl_X2_take_19 Q (t - q + 1) 0 (nI q) I2 J) → wl_X2_take_19 Q (t - p + 1) 1 (nI p) I J
def RF (wp : sw_I → sw_J → (Int32 → sw_I → sw_J → Prop) → Prop) (T : Nat → Int32) (to o p q : Nat) (ok : Bool) (C : List Int32) : Prop := ∀ (I : sw_I) (J : sw_J) (Q : Int32 → sw_I → sw_J → Prop) (K : List Int32), tpS I T p to → I 140 15 = nI o → rfS I K → K.length ≤ p → (∀ I2 k, eqm [151] rlF I I2 → tpS I2 T q to → I2 140 24 = nI k → k + p ≤ q + K.length → (ok = true → I2 140 15 = nI o ∧ rfS I2 (K ++ C)) → Q (bI ok) I2 J) → wp I J Q
def PK (T : Nat → Int32) (U : Nat → Nat) (t to r o p : Nat) (wp : sw_I → sw_J → (Int32 → sw_I → sw_J → Prop) → Prop) : Prop := ∃ ok q C, p ≤ q ∧ q ≤ to ∧ (ok = true → p + C.length ≤ q ∧ p < q ∧ (gdC C ∧ vlC C) ∧ (t = to → TK T t r p q C)) ∧ FL T U t to r o p q ok ∧ RF wp T to o p q ok C
section LG
variable {T : Nat → Int32} {U : Nat → Nat} {t to : Nat}
/-- a number: its first sign is read -/
theorem num_r {o : Nat} (hto : to ≤ 40) (hle : to ≤ t) (ht : t ≤ 80) (hU : txU T U t) (ho : o ≤ 4) {C1 : sw_I → sw_J → (Int32 → sw_I → sw_J → Prop) → Prop} {C2 : Int32 → sw_I → sw_J → (Int32 → sw_I → sw_J → Prop) → Prop} :
    ∀ e j v p, j + e = 3 → 1 ≤ j → v < 10 ^ j → p ≤ to → ∃ q w, p ≤ q ∧ q ≤ to ∧ w < 1000 ∧
      (∀ (I : sw_I) (J : sw_J) (Q : Int32 → sw_I → sw_J → Prop) (c : Int32), I 1 1 = nI t → I 2 = T → (∀ g, g ≤ 3 → edF U to 3 o q c g → wl_X2_flawOf_33 Q (to - q + 1) (nI to) 0 (nI o) c (nI g) (nI q) I J) → wl_X2_flawOf_33 Q (to - p + 1) (nI to) 0 (nI o) c (nI j) (nI p) I J) ∧
      (t = to → ∀ (I : sw_I) (J : sw_J) (Q : sw_I → sw_J → Prop) (K : List Int32) (W : List Nat) (a : Bool), K.length < 40 → I 1 1 = nI t → I 2 = T → syS I (K ++ [nI v]) W a → (∀ I2, eqx tkC I I2 → syS I2 (K ++ [nI w]) W a → wl_X2_take_19 Q (t - q + 1) 0 (nI q) I2 J) → wl_X2_take_19 Q (t - p + 1) 0 (nI p) I J) ∧
      (∀ (I : sw_I) (J : sw_J) (Q : Int32 → sw_I → sw_J → Prop), tpS I T p to → (∀ I2, eqm [] [13] I I2 → tpS I2 T q to → wp_X10_codes (nI w) I2 J (fun I3 J3 => Q 1 I3 J3)) → wl_X10_readsThing_34 C1 C2 Q (e + 1) (nI v) (nI j) I J) := by
  intro e
  induction e with
  | zero =>
    intro j v p hj h1 hv hp
    have hj3 : j = 3 := by omega
    refine ⟨p, v, Nat.le_refl _, hp, by rw [hj3] at hv; omega, fun I J Q c hs hT h => h j (by omega) (fun _ => ⟨fun _ => Or.inr hj3, fun q => by omega, fun q => by omega, fun q => by omega⟩), fun _ I J Q K W a hK hs hT h hk => hk I eqx.rf h, fun I J Q hs h => ?_⟩
    show wb_X10_readsThing_34 _ _ _ Q _ _ I J
    unfold wb_X10_readsThing_34 wB_X10_readsThing_80
    rw [hj3, sw_if_f (by decide)]
    exact h I eqm.rf hs
  | succ e ih =>
    intro j v p hj h1 hv hp
    by_cases cd : p < to ∧ dgN (U p) = true
    · obtain ⟨cp, cd⟩ := cd
      have hd2 := of_decide_eq_true cd
      obtain ⟨q, w, b1, b2, b3, b4, b5, b6⟩ := ih (j + 1) (10 * v + (U p - 48)) (p + 1) (by omega) (by omega) (by rw [Nat.pow_succ]; omega) (by omega)
      refine ⟨q, w, by omega, b2, b3, fun I J Q c hs hT h => ?_, fun htt I J Q K W a hK hs hT h hk => ?_, fun I J Q hs h => ?_⟩
      · rw [show to - p + 1 = (to - (p + 1) + 1) + 1 by omega]
        have n1 : arN (U p) = false := decide_eq_false (by omega)
        have n2 : cpN (U p) = false := decide_eq_false (by omega)
        refine flw_n ht hto hle hU cp ho (by omega) hs hT (fun q => by rw [n1] at q; cases q) (fun q => by rw [n2] at q; cases q) (fun q => by rw [n2] at q; cases q) (fun q => by omega) (fun _ _ => b4 I J Q c hs hT h) (fun _ q => by omega) (fun _ _ _ q => by rw [cd] at q; cases q)
      · rw [show t - p + 1 = (t - (p + 1) + 1) + 1 by omega]
        refine tk_dig2 (by omega) hU (by omega) cd hK hs hT h (fun I2 x2 s2 => ?_)
        obtain ⟨hs2, hT2⟩ := txt_of x2 hs hT
        exact b5 htt I2 J Q K W a hK hs2 hT2 s2 (fun I3 x3 s3 => hk I3 (x2.tr x3) s3)
      · obtain ⟨a1, a2, a3, a4, a5⟩ := id hs
        have hu := hU p (by omega)
        show wb_X10_readsThing_34 _ _ _ Q _ _ I J
        unfold wb_X10_readsThing_34
        rw [sw_if_t (show nI j < (3 : Int32) from nI_lt (b := 3) (by omega) (by decide))]
        refine s_isDigit hs (fun hno => ?_) (fun d1 d2 d3 => ?_)
        · exfalso
          refine hno ⟨cp, fun z => ?_, fun z => ?_⟩
          · rw [hu.1] at z; have := (nI_ltJ (a := U p) (b := 48) (by omega) (by omega)).mp z; omega
          · rw [hu.1] at z; have := (nI_ltJ (a := 57) (b := U p) (by omega) (by omega)).mp z; omega
        · rw [sw_if_f (by decide), show I 140 13 = nI p from a1, nI_clamp (by omega), (a5 p cp).1, hu.1]
          refine ⟨vp0 (by omega) (by decide), fun y hy I9 e9 y11 hy11 => ?_⟩
          have ey : y = nI (10 * v + (U p - 48)) := by
            rw [hy, show (10 : Int32) = nI 10 from rfl, nI_mul, nI_add, show nI (10 * v + U p) - (48 : Int32) = nI (10 * v + U p - 48) from nI_sub (b := 48) (by omega)]
            congr 1; omega
          rw [nI_1] at e9 hy11
          rw [ey, hy11]
          have q9 : eqm [] [13] I I9 := by rw [e9]; exact eqm.rf.upF (by decide) _
          exact b6 I9 J Q (tpS_of hs q9 (by decide) (by decide) (by rw [e9]; exact sw_up_same _ _ _ _) (by omega)) (fun I2 q2 s2 => h I2 (q9.tr q2) s2)
    · refine ⟨p, v, Nat.le_refl _, hp, ?_, fun I J Q c hs hT h => h j (by omega) (fun hq => ⟨fun q => absurd ⟨hq, q⟩ cd, fun q => by omega, fun q => by omega, fun q => by omega⟩), fun _ I J Q K W a hK hs hT h hk => hk I eqx.rf h, fun I J Q hs h => ?_⟩
      · have : 10 ^ j ≤ 10 ^ 3 := Nat.pow_le_pow_right (by decide) (by omega)
        omega
      · show wb_X10_readsThing_34 _ _ _ Q _ _ I J
        unfold wb_X10_readsThing_34 wB_X10_readsThing_80
        rw [sw_if_t (show nI j < (3 : Int32) from nI_lt (b := 3) (by omega) (by decide))]
        refine s_isDigit hs (fun _ => ?_) (fun d1 d2 d3 => ?_)
        · rw [sw_if_t rfl]; exact h I eqm.rf hs
        · exfalso
          have hu := hU p (by omega)
          rw [hu.1] at d2 d3
          refine cd ⟨d1, decide_eq_true ⟨?_, ?_⟩⟩
          · rcases Nat.lt_or_ge (U p) 48 with z | z
            · exact absurd ((nI_ltJ (a := U p) (b := 48) (by omega) (by omega)).mpr z) d2
            · exact z
          · rcases Nat.lt_or_ge 57 (U p) with z | z
            · exact absurd ((nI_ltJ (a := 57) (b := U p) (by omega) (by omega)).mpr z) d3
            · exact z
theorem ch0 : ∀ k, k < 7 → ∃ c, c < 256 ∧ sw_ch 0 k = nI c ∧ nmN c = true ∧ (1000 : Int32) + nI k = encF (cdO c) := fun k hk => by
  rcases (by omega : k = 0 ∨ k = 1 ∨ k = 2 ∨ k = 3 ∨ k = 4 ∨ k = 5 ∨ k = 6) with e | e | e | e | e | e | e <;> rw [e]
  · exact ⟨102, by decide, by decide, by decide, by decide⟩
  · exact ⟨119, by decide, by decide, by decide, by decide⟩
  · exact ⟨100, by decide, by decide, by decide, by decide⟩
  · exact ⟨115, by decide, by decide, by decide, by decide⟩
  · exact ⟨110, by decide, by decide, by decide, by decide⟩
  · exact ⟨114, by decide, by decide, by decide, by decide⟩
  · exact ⟨108, by decide, by decide, by decide, by decide⟩
theorem ch0_all : ∀ c, c < 256 → nmN c = true → ∃ k, k < 7 ∧ nI c = sw_ch 0 k := by
  intro c hc h
  have h2 := of_decide_eq_true h
  rcases h2 with e | e | e | e | e | e | e <;> rw [e]
  · exact ⟨0, by decide, by decide⟩
  · exact ⟨1, by decide, by decide⟩
  · exact ⟨2, by decide, by decide⟩
  · exact ⟨3, by decide, by decide⟩
  · exact ⟨4, by decide, by decide⟩
  · exact ⟨5, by decide, by decide⟩
  · exact ⟨6, by decide, by decide⟩
/-- a thing that is none -/
theorem pk_bad {o p : Nat} (hto : to ≤ 40) (htm : to = min t 40) (ht : t ≤ 80) (hU : txU T U t) (ho : o ≤ 4) (hp : p ≤ to) {C1 : sw_I → sw_J → (Int32 → sw_I → sw_J → Prop) → Prop} {C2 : Int32 → sw_I → sw_J → (Int32 → sw_I → sw_J → Prop) → Prop} (hno : p < to → ¬ U p = 45 ∧ dgN (U p) = false ∧ nmN (U p) = false ∧ ¬ (U p = 40 ∧ o < 4)) : PK T U t to 3 o p (wpb_X10_readsThing C1 C2) := by
  refine ⟨false, p, [], Nat.le_refl _, hp, (fun q => by cases q), ?_, ?_⟩
  · intro I J Q c hs hT _ h0 _
    by_cases cp : p < to
    · obtain ⟨n1, n2, n3, n4⟩ := hno cp
      rw [show to - p + 1 = (to - p - 1 + 1) + 1 by omega]
      exact flw_w ht hto (by omega) hU cp ho hs hT (fun a b => absurd ⟨a, b⟩ n4) (fun q => by rw [n2] at q; cases q) (fun q => by rw [n3] at q; cases q) (fun q => absurd q n1) (fun _ _ _ _ => h0 rfl)
    · have e : p = to := by omega
      rw [e] at h0 ⊢
      exact flw_e (wt := true) ht htm ho hs (fun _ => h0 rfl) (fun q => by cases q)
  · intro I J Q K hs hn hr hK h
    have fin : ∀ I2, eqm [] [13] I I2 → tpS I2 T p to → Q 0 I2 J := fun I2 q2 s2 => h I2 K.length (q2.mono (by decide) (by decide)) s2 (by rw [q2.2 _ (by decide)]; exact hr.1) (by omega) (fun q => by cases q)
    unfold wpb_X10_readsThing
    refine s_takes hs (fun _ I2 q2 s2 => ?_) (fun cp ec => ?_)
    · rw [sw_if_t rfl]
      refine s_isDigit s2 (fun _ => ?_) (fun d1 d2 d3 => ?_)
      · rw [sw_if_t rfl]
        refine s_among (i := 0) (len := 7) rfl (by decide) s2 (fun _ => ?_) (fun k hk cp ec _ => ?_)
        · rw [sw_if_t (by decide), show I2 140 15 = nI o by rw [q2.2 _ (by decide)]; exact hn]
          by_cases c4 : o = 4
          · rw [sw_if_t (by rw [c4]; rfl)]; exact fin I2 q2 s2
          · rw [sw_if_f (show ¬ nI o = (4 : Int32) from fun z => c4 ((nI_eq (b := 4) (by omega) (by omega)).mp z))]
            refine s_takes s2 (fun _ I3 q3 s3 => ?_) (fun cp ec => ?_)
            · rw [sw_if_t rfl]; exact fin I3 (q2.tr q3) s3
            · exfalso
              have hu := hU p (by omega)
              rw [hu.1] at ec
              exact (hno cp).2.2.2 ⟨(nI_eq (b := 40) (by omega) (by omega)).mp ec, by omega⟩
        · exfalso
          obtain ⟨c, c1, c2, c3, -⟩ := ch0 k hk
          have hu := hU p (by omega)
          rw [hu.1, c2] at ec
          have := (nI_eq (by omega) (by omega)).mp ec
          have n3 := (hno cp).2.2.1
          rw [this, c3] at n3; cases n3
      · exfalso
        have hu := hU p (by omega)
        rw [hu.1] at d2 d3
        have n2 := of_decide_eq_false (hno d1).2.1
        refine n2 ⟨?_, ?_⟩
        · rcases Nat.lt_or_ge (U p) 48 with z | z
          · exact absurd ((nI_ltJ (a := U p) (b := 48) (by omega) (by omega)).mpr z) d2
          · exact z
        · rcases Nat.lt_or_ge 57 (U p) with z | z
          · exact absurd ((nI_ltJ (a := 57) (b := U p) (by omega) (by omega)).mpr z) d3
          · exact z
    · exfalso
      have hu := hU p (by omega)
      rw [hu.1] at ec
      exact (hno cp).1 ((nI_eq (b := 45) (by omega) (by omega)).mp ec)
/-- a number -/
theorem pk_num {o p : Nat} (hto : to ≤ 40) (hle : to ≤ t) (ht : t ≤ 80) (hU : txU T U t) (ho : o ≤ 4) (hp : p < to) {C1 : sw_I → sw_J → (Int32 → sw_I → sw_J → Prop) → Prop} {C2 : Int32 → sw_I → sw_J → (Int32 → sw_I → sw_J → Prop) → Prop} (hd : dgN (U p) = true) : PK T U t to 3 o p (wpb_X10_readsThing C1 C2) := by
  have hd2 := of_decide_eq_true hd
  have hu := hU p (by omega)
  obtain ⟨q, w, b1, b2, b3, b4, b5, b6⟩ := num_r (T := T) (U := U) (t := t) (to := to) (o := o) hto hle ht hU ho (C1 := C1) (C2 := C2) 2 1 (U p - 48) (p + 1) (by omega) (by omega) (by omega) (by omega)
  refine ⟨true, q, [nI w], by omega, b2, fun _ => ⟨by show p + 1 ≤ q; omega, by omega, gd_num b3, fun htt => ?_⟩, ?_, ?_⟩
  · intro I J Q K S a hs hT h hl h6 _ hk
    rw [show t - p + 1 = (t - (p + 1) + 1) + 1 by omega]
    refine tk_dig (by omega) hU (by omega) hd (by omega) hs hT h (fun I2 x2 s2 => ?_)
    obtain ⟨hs2, hT2⟩ := txt_of x2 hs hT
    refine b5 htt I2 J Q K S a (by omega) hs2 hT2 s2 (fun I3 x3 s3 => hk I3 (K ++ [nI w]) [] (x2.tr x3) ?_ (fun x hx => absurd hx (by simp)) ?_ ?_)
    · show K ++ [nI w] ++ [] = _; rw [List.append_nil]
    · simp only [List.length_append, List.length_cons, List.length_nil]; omega
    · rw [hasR_num w b3, Bool.or_false, List.append_nil]; exact s3
  · intro I J Q c hs hT _ _ h1
    rw [show to - p + 1 = (to - (p + 1) + 1) + 1 by omega]
    have n1 : nmN (U p) = false := decide_eq_false (by omega)
    exact flw_w ht hto hle hU hp ho hs hT (fun q => by omega) (fun _ => b4 I J Q c hs hT (fun g hg hed => h1 rfl c g hg hed (fun _ _ => rfl) (fun _ => rfl))) (fun q => by rw [n1] at q; cases q) (fun q => by omega) (fun _ q => by rw [hd] at q; cases q)
  · intro I J Q K hs hn hr hK h
    obtain ⟨a1, a2, a3, a4, a5⟩ := id hs
    unfold wpb_X10_readsThing
    refine s_takes hs (fun _ I2 q2 s2 => ?_) (fun cp ec => ?_)
    · rw [sw_if_t rfl]
      refine s_isDigit s2 (fun hno => ?_) (fun _ _ _ => ?_)
      · exfalso
        refine hno ⟨hp, fun z => ?_, fun z => ?_⟩
        · rw [hu.1] at z; have := (nI_ltJ (a := U p) (b := 48) (by omega) (by omega)).mp z; omega
        · rw [hu.1] at z; have := (nI_ltJ (a := 57) (b := U p) (by omega) (by omega)).mp z; omega
      · rw [sw_if_f (by decide)]
        refine ⟨4, ?_⟩
        obtain ⟨e1, e2, e3, e4, e5⟩ := id s2
        show wb_X10_readsThing_34 _ _ _ Q _ _ I2 J
        unfold wb_X10_readsThing_34
        rw [sw_if_t (by decide)]
        refine s_isDigit s2 (fun hno => ?_) (fun _ _ _ => ?_)
        · exfalso
          refine hno ⟨hp, fun z => ?_, fun z => ?_⟩
          · rw [hu.1] at z; have := (nI_ltJ (a := U p) (b := 48) (by omega) (by omega)).mp z; omega
          · rw [hu.1] at z; have := (nI_ltJ (a := 57) (b := U p) (by omega) (by omega)).mp z; omega
        · rw [sw_if_f (by decide), show I2 140 13 = nI p from e1, nI_clamp (by omega), (e5 p hp).1, hu.1]
          refine ⟨vp0 (by omega) (by decide), fun y hy I9 e9 y11 hy11 => ?_⟩
          have ey : y = nI (U p - 48) := by
            rw [hy, show (10 : Int32) * 0 = 0 by decide, Int32.zero_add]; exact nI_sub (b := 48) (by omega)
          rw [nI_1] at e9
          rw [ey, hy11]
          have q9 : eqm [] [13] I2 I9 := by rw [e9]; exact eqm.rf.upF (by decide) _
          show wl_X10_readsThing_34 C1 C2 Q (2 + 1) (nI (U p - 48)) (nI 1) I9 J
          refine b6 I9 J Q (tpS_of s2 q9 (by decide) (by decide) (by rw [e9]; exact sw_up_same _ _ _ _) (by omega)) (fun I3 q3 s3 => ?_)
          have q13 : eqm [] [13] I I3 := (q2.tr q9).tr q3
          refine s_codes (c := nI w) (K := K) (by omega) (enc_num (nI_pos (by omega)) (nI_lt (b := 1000) b3 (by decide))).1.symm (rfS_of hr q13 (by decide) (by decide)) (fun I4 q4 r4 => ?_)
          refine h I4 (K.length + 1) ((q13.mono (by decide) (by decide)).tr (q4.mono (by decide) (by decide))) (tpS_of s3 q4 (by decide) (by decide) (by rw [q4.2 _ (by decide)]; exact s3.1) b2) ?_ (by omega) (fun _ => ⟨?_, r4⟩)
          · have := r4.1; rw [List.length_append] at this; exact this
          · rw [q4.2 _ (by decide), q13.2 _ (by decide)]; exact hn
    · exfalso
      rw [hu.1] at ec
      have := (nI_eq (b := 45) (by omega) (by omega)).mp ec; omega
/-- a name -/
theorem pk_nam {o p : Nat} (hto : to ≤ 40) (hle : to ≤ t) (ht : t ≤ 80) (hU : txU T U t) (ho : o ≤ 4) (hp : p < to) {C1 : sw_I → sw_J → (Int32 → sw_I → sw_J → Prop) → Prop} {C2 : Int32 → sw_I → sw_J → (Int32 → sw_I → sw_J → Prop) → Prop} (hn : nmN (U p) = true) : PK T U t to 3 o p (wpb_X10_readsThing C1 C2) := by
  have hn2 := of_decide_eq_true hn
  have hu := hU p (by omega)
  have hd : dgN (U p) = false := decide_eq_false (by omega)
  refine ⟨true, p + 1, [cdO (U p)], by omega, by omega, fun _ => ⟨Nat.le_refl _, by omega, gd_nam hu.2 hn, fun htt => ?_⟩, ?_, ?_⟩
  · intro I J Q K S a hs hT h hl h6 _ hk
    rw [show t - p + 1 = (t - (p + 1) + 1) + 1 by omega]
    refine tk_nam (by omega) hU (by omega) hn (by omega) hs hT h (fun I2 x2 s2 => hk I2 (K ++ [cdO (U p)]) [] x2 ?_ (fun x hx => absurd hx (by simp)) ?_ ?_)
    · show K ++ [cdO (U p)] ++ [] = _; rw [List.append_nil]
    · simp only [List.length_append, List.length_cons, List.length_nil]; omega
    · rw [List.append_nil, show hasR [cdO (U p)] = decide (U p = 114) from (nm_cd _ hu.2 hn).2.2]; exact s2
  · intro I J Q c hs hT _ _ h1
    rw [show to - p + 1 = (to - (p + 1) + 1) + 1 by omega]
    exact flw_w ht hto hle hU hp ho hs hT (fun q => by omega) (fun q => by rw [hd] at q; cases q) (fun _ => h1 rfl c 0 (by omega) (fun _ => ⟨fun _ => Or.inl rfl, fun q => by omega, fun q => by omega, fun q => by omega⟩) (fun _ _ => rfl) (fun _ => rfl)) (fun q => by omega) (fun _ _ q => by rw [hn] at q; cases q)
  · intro I J Q K hs hnn hr hK h
    unfold wpb_X10_readsThing
    refine s_takes hs (fun _ I2 q2 s2 => ?_) (fun cp ec => ?_)
    · rw [sw_if_t rfl]
      refine s_isDigit s2 (fun _ => ?_) (fun d1 d2 d3 => ?_)
      · rw [sw_if_t rfl]
        refine s_among (i := 0) (len := 7) rfl (by decide) s2 (fun hno => ?_) (fun k hk cp ec _ => ?_)
        · exfalso
          obtain ⟨k, hk, ek⟩ := ch0_all (U p) hu.2 hn
          exact hno hp k hk (by rw [hu.1]; exact ek)
        · obtain ⟨c, c1, c2, c3, c4⟩ := ch0 k hk
          rw [hu.1, c2] at ec
          have ecc := (nI_eq (by omega) (by omega)).mp ec
          rw [sw_if_f (nI_pos (by omega))]
          intro I3 e3
          rw [show I2 140 13 = nI p from s2.1, nI_1] at e3
          have q3 : eqm [] [13] I2 I3 := by rw [e3]; exact eqm.rf.upF (by decide) _
          have q13 : eqm [] [13] I I3 := q2.tr q3
          have s3 : tpS I3 T (p + 1) to := tpS_of s2 q3 (by decide) (by decide) (by rw [e3]; exact sw_up_same _ _ _ _) (by omega)
          refine s_codes (c := cdO (U p)) (K := K) (by omega) (by rw [c4, ecc]) (rfS_of hr q13 (by decide) (by decide)) (fun I4 q4 r4 => ?_)
          refine h I4 (K.length + 1) ((q13.mono (by decide) (by decide)).tr (q4.mono (by decide) (by decide))) (tpS_of s3 q4 (by decide) (by decide) (by rw [q4.2 _ (by decide)]; exact s3.1) (by omega)) ?_ (by omega) (fun _ => ⟨?_, r4⟩)
          · have := r4.1; rw [List.length_append] at this; exact this
          · rw [q4.2 _ (by decide), q13.2 _ (by decide)]; exact hnn
      · exfalso
        rw [hu.1] at d2 d3
        have : ¬ (48 ≤ U p ∧ U p ≤ 57) := of_decide_eq_false hd
        refine this ⟨?_, ?_⟩
        · rcases Nat.lt_or_ge (U p) 48 with z | z
          · exact absurd ((nI_ltJ (a := U p) (b := 48) (by omega) (by omega)).mpr z) d2
          · exact z
        · rcases Nat.lt_or_ge 57 (U p) with z | z
          · exact absurd ((nI_ltJ (a := 57) (b := U p) (by omega) (by omega)).mpr z) d3
          · exact z
    · exfalso
      rw [hu.1] at ec
      have := (nI_eq (b := 45) (by omega) (by omega)).mp ec; omega
end LG
