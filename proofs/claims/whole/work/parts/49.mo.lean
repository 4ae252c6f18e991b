/-! a moment by itself; stops and rides of it; rows told -/
abbrev Mo : Type := (Nat → Int32) × (Nat → Int32) × (Nat → Int32) × Int32 × Int32 × Int32
abbrev Wd : Type := (Nat → Int32) × Nat × (Nat → Int32) × Nat × Nat × Int32
abbrev wn (w : Wd) : Nat := w.2.2.2.1
abbrev wf (w : Wd) : Nat := w.2.2.2.2.1
abbrev oI (μ : Mo) : Int32 := μ.2.2.2.1
abbrev oL (μ : Mo) : Int32 := μ.2.2.2.2.1
abbrev oR (μ : Mo) : Int32 := μ.2.2.2.2.2
def stM (w : Wd) (μ : Mo) (s : Int32) : Int32 := nsF w.1 w.2.1 μ.1 μ.2.1 (wn w) (wf w) w.2.2.2.2.2 s (oL μ) (oR μ)
def cmM (w : Wd) (μ : Mo) : Int32 := cmF w.2.2.1 (oI μ) (stM w μ (oI μ)) (wn w)
def rdM (w : Wd) (μ : Mo) : Mo := (plF w.2.2.1 μ.1 (oI μ) (stM w μ (oI μ)) (wn w), μ.2.1, rdF μ.2.2.1 (oI μ) (wn w), oI μ &&& (cmM w μ ^^^ (-1)), stM w μ (oI μ), oR μ + 1)
def moE (I : sw_I) (a : Nat) (μ : Mo) : Prop := (∀ i, i < 10 → I (a + 1) i = μ.1 i ∧ I (a + 2) i = μ.2.1 i ∧ I (a + 3) i = μ.2.2.1 i) ∧ I a 3 = oI μ ∧ I a 4 = oL μ ∧ I a 5 = oR μ
def moC (I : sw_I) (a : Nat) : Mo := (I (a + 1), I (a + 2), I (a + 3), I a 3, I a 4, I a 5)
theorem moE_C (I : sw_I) (a : Nat) : moE I a (moC I a) := ⟨fun _ _ => ⟨rfl, rfl, rfl⟩, rfl, rfl, rfl⟩
def relM (w : Wd) (μ : Mo) (row : Nat → Int32) : Prop := relF μ.1 μ.2.1 μ.2.2.1 (oI μ) (oL μ) (oR μ) row (wn w) (wf w) ∧ valF μ.1 μ.2.1 (oI μ) (oL μ) (wn w) (wf w)
def isW (I : sw_I) (w : Wd) : Prop := hsR I (wn w) (wf w) ∧ lR I w.2.1 ∧ I 7 = w.1 ∧ I 4 = w.2.2.1 ∧ I 140 5 = w.2.2.2.2.2
abbrev wdO (I : sw_I) (m n fl : Nat) : Wd := (I 7, m, I 4, n, fl, I 140 5)
theorem isW_O {I : sw_I} {m n fl : Nat} (h1 : hsR I n fl) (h2 : lR I m) : isW I (wdO I m n fl) := ⟨h1, h2, rfl, rfl, rfl⟩
theorem isW_of {I I2 : sw_I} {w : Wd} {C F : List Nat} (e : eqm C F I I2) (hc : ∀ c, c ∈ hsC ++ lC → c ∉ C) (hf : ∀ k, k ∈ hsF ++ lF → k ∉ F) (h : isW I w) : isW I2 w := by
  obtain ⟨h1, h2, h3, h4, h5⟩ := h
  refine ⟨hs_of e (fun c q => hc c (List.mem_append_left _ q)) (fun k q => hf k (List.mem_append_left _ q)) h1, l_of e (fun c q => hc c (List.mem_append_right _ q)) (fun k q => hf k (List.mem_append_right _ q)) h2, ?_, ?_, ?_⟩
  · rw [e.1 _ (hc _ (by decide)) (by decide)]; exact h3
  · rw [e.1 _ (hc _ (by decide)) (by decide)]; exact h4
  · rw [e.2 _ (hf _ (by decide))]; exact h5
theorem nsF_cong {cd pl pl2 wi wi2 : Nat → Int32} {m n fl : Nat} {dog s lift rides : Int32} (h : ∀ i, i < n → pl i = pl2 i ∧ wi i = wi2 i) : nsF cd m pl wi n fl dog s lift rides = nsF cd m pl2 wi2 n fl dog s lift rides := by
  have e : woF cd m pl wi n s lift rides = woF cd m pl2 wi2 n s lift rides := by
    unfold woF
    have e1 : (fun f => ct (fun i => inB s i && decide (wi i = nI f)) n) = (fun f => ct (fun i => inB s i && decide (wi2 i = nI f)) n) := by
      funext f; exact ct_cong (fun i hi => by rw [(h i hi).2])
    have e2 : (fun f => ct (fun i => !inB s i && decide (pl i = nI f)) n) = (fun f => ct (fun i => !inB s i && decide (pl2 i = nI f)) n) := by
      funext f; exact ct_cong (fun i hi => by rw [(h i hi).1])
    rw [e1, e2]
  unfold nsF
  rw [e]
theorem c_stopM {I : sw_I} {J : sw_J} {a : Nat} {w : Wd} {μ : Mo} {s : Int32} (ha : a ∈ momL) {Q : Int32 → sw_I → sw_J → Prop} (hW : isW I w) (hE : moE I a μ) (h : ∀ I2, eqx nsC I I2 → Q (stM w μ s) I2 J) : wp_X1_nextStop a s I J Q := by
  obtain ⟨h1, h2, h3, h4, h5⟩ := hW
  refine c_stop ha h1 h2 (fun I2 e2 => ?_)
  have e : stW I a (wn w) (wf w) w.2.1 s = stM w μ s := by
    unfold stW stM
    rw [h3, h5, hE.2.2.1, hE.2.2.2]
    exact nsF_cong (fun i hi => by have := h1.2.2.1; exact ⟨(hE.1 i (by omega)).1, (hE.1 i (by omega)).2.1⟩)
  rw [e]; exact h I2 e2
abbrev rdC (a : Nat) : List Nat := a :: (a + 1) :: (a + 3) :: nsC
theorem c_rideM {I : sw_I} {J : sw_J} {a : Nat} {w : Wd} {μ : Mo} (ha : a ∈ momL) {Q : Int32 → sw_I → sw_J → Prop} (hW : isW I w) (hE : moE I a μ) (h : ∀ I2, eqx (rdC a) I I2 → moE I2 a (rdM w μ) → Q (cmM w μ) I2 J) : wp_X1_carry a I J Q := by
  obtain ⟨h1, h2, h3, h4, h5⟩ := hW
  have hn := h1.2.2.1
  obtain ⟨hna, hba⟩ := mom_ap a ha
  have e : stW I a (wn w) (wf w) w.2.1 (I a 3) = stM w μ (oI μ) := by
    unfold stW stM
    rw [h3, h5, hE.2.1, hE.2.2.1, hE.2.2.2]
    exact nsF_cong (fun i hi => ⟨(hE.1 i (by omega)).1, (hE.1 i (by omega)).2.1⟩)
  refine c_ride ha h1 h2 (fun I2 r2 => ?_)
  rw [e] at r2 ⊢
  rw [hE.2.1, h4]
  obtain ⟨r1, r3, r4, r5, r6, r7⟩ := r2
  rw [hE.2.1, h4] at r3 r5
  rw [hE.2.1] at r4
  refine h I2 (fun c hc => ?_) ⟨fun i hi => ⟨?_, ?_, ?_⟩, r5, r6, by rw [r7, hE.2.2.2]; rfl⟩
  · simp only [List.mem_cons, not_or] at hc
    exact r1 c (by simpa using hc.2.2.2) hc.1 hc.2.1 hc.2.2.1
  · rw [r3]; unfold rdM plF; show _ = ite _ _ _; rw [(hE.1 i hi).1]
  · rw [r1 (a + 2) hna.2.2.1 (by omega) (by omega) (by omega)]; exact (hE.1 i hi).2.1
  · rw [r4]; unfold rdM rdF; show _ = ite _ _ _; rw [(hE.1 i hi).2.2]
theorem m_stopM {I : sw_I} {J : sw_J} {b : Nat} {w : Wd} {μ : Mo} {s : Int32} (hb : b ∉ mnsC) (hbm : b ≠ 140) {Q : Int32 → sw_I → sw_J → Prop} (hW : isW I w) (hR : relM w μ (I b)) (h : ∀ I2, eqm mnsC maF I I2 → Q (stM w μ s) I2 J) : wp_X10_stopOf b 33 s I J Q := by
  obtain ⟨h1, h2, h3, h4, h5⟩ := hW
  refine m_stopG hb hbm h1 h2 hR.1 hR.2 (fun I2 e2 => ?_)
  rw [h3, h5]; exact h I2 e2
theorem stM_rng {I : sw_I} {w : Wd} (hW : isW I w) (μ : Mo) (s : Int32) : ∃ j, j < wf w ∧ stM w μ s = nI j ∧ ¬ nI j = oL μ := by
  obtain ⟨h1, h2, h3, h4, h5⟩ := hW
  unfold stM
  exact nsF_rng h1.1 h1.2.1 (by rw [← h5]; exact h1.2.2.2.2.2.2.2.2.1)
theorem m_rideM {I : sw_I} {J : sw_J} {b : Nat} {w : Wd} {μ : Mo} {s : Int32} (hb : b ∉ mnsC) (hbm : b ≠ 140) (hbh : b ≠ 142) (hs : s = oI μ) {Q : Int32 → sw_I → sw_J → Prop} (hW : isW I w) (hR : relM w μ (I b)) (h : ∀ I2, eqm (b :: mnsC) maF I I2 → relM w (rdM w μ) (I2 b) → Q (cmM w μ) I2 J) : wp_X10_travels b 33 s I J Q := by
  obtain ⟨j, hj, ej, -⟩ := stM_rng hW μ (oI μ)
  obtain ⟨h1, h2, h3, h4, h5⟩ := hW
  have hn := h1.2.2.1
  refine m_rideG hb hbm hbh h1 h2 hR.1 hR.2 (fun I2 r2 => ?_)
  have e : nsF (I 7) w.2.1 μ.1 μ.2.1 (wn w) (wf w) (I 140 5) s (oL μ) (oR μ) = stM w μ (oI μ) := by unfold stM; rw [h3, h5, hs]
  rw [e] at r2 ⊢
  rw [h4, hs]
  obtain ⟨m1, m2, m3⟩ := r2
  refine h I2 ⟨fun c hc hcm => ?_, m2⟩ ?_
  · simp only [List.mem_cons, not_or] at hc
    exact m1 c (by simpa using hc.2) hc.1 hcm
  · have hhm : ∀ i, i < wn w → w.2.2.1 i = I 142 i := fun i hi => by rw [← h4]; exact (h1.2.2.2.2.2.2.2.2.2.1 i hi).1
    rw [m3, ← mrF_home hhm, ← cmF_home hhm, hs]
    exact ⟨relF_ride hn hR.1 ⟨j, hj, ej⟩, valF_ride hn hR.2 ⟨j, hj, ej⟩⟩
theorem moE_copy {I I2 : sw_I} {a b : Nat} {μ : Mo} (hc : copyOK a b I I2) (h : moE I b μ) : moE I2 a μ := by
  obtain ⟨-, c2, c3, c4, c5⟩ := hc
  refine ⟨fun i hi => ?_, by rw [c3]; exact h.2.1, by rw [c4]; exact h.2.2.1, by rw [c5]; exact h.2.2.2⟩
  rw [(c2 i hi).1, (c2 i hi).2.1, (c2 i hi).2.2]; exact h.1 i hi
theorem moE_cong {I I2 : sw_I} {a : Nat} {μ : Mo} (hc : ∀ c, a ≤ c → c < a + 4 → I2 c = I c) (h : moE I a μ) : moE I2 a μ := by
  unfold moE
  rw [hc a (by omega) (by omega), hc (a + 1) (by omega) (by omega), hc (a + 2) (by omega) (by omega), hc (a + 3) (by omega) (by omega)]
  exact h
theorem relM_cong {w : Wd} {μ : Mo} {row row2 : Nat → Int32} (hn : wn w ≤ 10) (hr : ∀ j, j < 33 → row2 j = row j) (h : relM w μ row) : relM w μ row2 := by
  obtain ⟨⟨h1, h2, h3, h4⟩, h5⟩ := h
  refine ⟨⟨fun i hi => ?_, ?_, ?_, ?_⟩, h5⟩
  · rw [hr i (by omega), hr (10 + i) (by omega), hr (20 + i) (by omega)]; exact h1 i hi
  · rw [hr 30 (by omega)]; exact h2
  · rw [hr 31 (by omega)]; exact h3
  · rw [hr 32 (by omega)]; exact h4
theorem momR_of {I : sw_I} {a : Nat} {w : Wd} {μ : Mo} {row : Nat → Int32} (hn : wn w ≤ 10) (hE : moE I a μ) (hR : relM w μ row) : momR I a (wn w) (wf w) row := by
  obtain ⟨⟨h1, h2, h3, h4⟩, g1, g2, g3, g4⟩ := hR
  obtain ⟨e1, e2, e3, e4⟩ := hE
  unfold momR
  rw [e2, e3, e4]
  refine ⟨⟨fun i hi => ?_, h2, h3, h4⟩, fun i hi => ?_, fun i hi hi2 => ?_, g3, fun i hi hb => ?_⟩
  · rw [(e1 i (by omega)).1, (e1 i (by omega)).2.1, (e1 i (by omega)).2.2]; exact h1 i hi
  · rw [(e1 i (by omega)).1, (e1 i (by omega)).2.1]; exact g1 i hi
  · rw [(e1 i hi2).1]; exact g2 i hi hi2
  · obtain ⟨q1, q2⟩ := g4 i hi hb
    refine ⟨q1, ?_⟩
    rw [(e1 i (by omega)).1]; exact q2
theorem s_puts_loop {b0 b1 : Nat} (hne : b0 ≠ b1) {I : sw_I} {J : sw_J} {Q : sw_I → sw_J → Prop} (h : ∀ I2, eqx [b1] I I2 → (∀ j, j < 33 → I2 b1 j = I b0 j) → Q I2 J) :
    ∀ (d k : Nat) (I2 : sw_I), k + d = 33 → eqx [b1] I I2 → (∀ j, j < k → I2 b1 j = I b0 j) → wl_X10_puts_2 b0 33 b1 33 Q (d + 1) (nI k) I2 J := by
  intro d
  induction d with
  | zero =>
    intro k I2 hk h1 h2
    obtain rfl : k = 33 := by omega
    show wb_X10_puts_2 _ _ _ _ _ Q _ I2 J
    unfold wb_X10_puts_2
    rw [sw_if_f (show ¬ nI 33 < (33 : Int32) by decide)]
    exact h I2 h1 h2
  | succ d ih =>
    intro k I2 hk h1 h2
    show wb_X10_puts_2 _ _ _ _ _ Q _ I2 J
    unfold wb_X10_puts_2
    rw [sw_if_t (show nI k < (33 : Int32) from nI_lt (b := 33) (by omega) (by decide)), nI_clamp (by omega)]
    refine ⟨vp0 (by omega) (by decide), vp0 (by omega) (by decide), fun I3 e3 y hy => ?_⟩
    rw [hy, nI_1]
    refine ih (k + 1) I3 (by omega) (by rw [e3]; exact h1.up (by simp) _ _) (fun j hj => ?_)
    rw [e3, sw_up_rowf, h1.at (by simpa using hne)]
    show (if j = k then _ else I2 b1 j) = _
    by_cases c : j = k
    · rw [if_pos c, c]
    · rw [if_neg c]; exact h2 j (by omega)
theorem s_X10_puts {b0 b1 : Nat} (hne : b0 ≠ b1) {I : sw_I} {J : sw_J} {Q : sw_I → sw_J → Prop} (h : ∀ I2, eqx [b1] I I2 → (∀ j, j < 33 → I2 b1 j = I b0 j) → Q I2 J) : wp_X10_puts b0 33 b1 33 I J Q :=
  ⟨34, s_puts_loop hne h 33 0 I (by omega) eqx.rf (fun j hj => by omega)⟩
/-! rows told -/
def eqj (S : List Nat) (J J2 : sw_J) : Prop := ∀ a, a ∉ S → J2 a = J a
theorem eqj.rf {S : List Nat} {J : sw_J} : eqj S J J := fun _ _ => rfl
theorem eqj.tr {S : List Nat} {J J2 J3 : sw_J} (h : eqj S J J2) (h2 : eqj S J2 J3) : eqj S J J3 := fun a ha => (h2 a ha).trans (h a ha)
theorem eqj.mono {S S2 : List Nat} {J J2 : sw_J} (h : eqj S J J2) (hs : ∀ a, a ∈ S → a ∈ S2) : eqj S2 J J2 := fun a ha => h a (fun q => ha (hs a q))
theorem eqj.up {S : List Nat} {J J2 : sw_J} (h : eqj S J J2) {c : Nat} (hc : c ∈ S) (k : Nat) (v : Int64) : eqj S J (sw_up J2 c k v) := fun a ha => by
  rw [sw_up_row J2 k v (fun q : a = c => ha (by rw [q]; exact hc))]; exact h a ha
def tlC (I : sw_I) (J : sw_J) (L : List Int64) : Prop := I 0 10 = nI L.length ∧ ∀ i, i < L.length → J 118 i = L.getD i 0
def tlM (I : sw_I) (J : sw_J) (L : List Int64) : Prop := I 140 1 = nI L.length ∧ ∀ i, i < L.length → J 141 i = L.getD i 0
theorem getD_app {L : List Int64} {v : Int64} {i : Nat} (h : i < L.length) : (L ++ [v]).getD i 0 = L.getD i 0 := by
  simp [List.getD, List.getElem?_append_left h]
theorem getD_end {L : List Int64} {v : Int64} : (L ++ [v]).getD L.length 0 = v := by simp [List.getD]
theorem t_clear {I : sw_I} {J : sw_J} {Q : sw_I → sw_J → Prop} (h : ∀ I2, eqx [0] I I2 → tlC I2 J [] → Q I2 J) : wp_X9_clearRow I J Q := by
  intro I1 e1
  exact h I1 (by rw [e1]; exact eqx.rf.up (by decide) _ _) ⟨by rw [e1, sw_up_same]; rfl, fun i hi => absurd hi (Nat.not_lt_zero i)⟩
theorem t_tell {I : sw_I} {J : sw_J} {L : List Int64} {v : Int64} {Q : sw_I → sw_J → Prop} (hL : L.length < 12) (ht : tlC I J L) (h : ∀ I2 J2, eqx [0] I I2 → eqj [118] J J2 → tlC I2 J2 (L ++ [v]) → Q I2 J2) : wp_X9_tell v I J Q := by
  refine s_X9_tell hL ht.1 (h _ _ (eqx.rf.up (by decide) _ _) (eqj.rf.up (by decide) _ _) ⟨?_, fun i hi => ?_⟩)
  · rw [sw_up_same, List.length_append]; rfl
  · rw [List.length_append] at hi
    by_cases c : i = L.length
    · rw [c, sw_up_same, getD_end]
    · have c2 : i < L.length := by simp at hi; omega
      rw [sw_up_slot _ _ _ _ c, getD_app c2]; exact ht.2 i c2
theorem t_enters {I : sw_I} {J : sw_J} {L : List Int64} {v : Int64} {Q : sw_I → sw_J → Prop} (hL : L.length < 24) (ht : tlM I J L) (h : ∀ I2 J2, eqm [] [1] I I2 → eqj [141] J J2 → tlM I2 J2 (L ++ [v]) → Q I2 J2) : wp_X10_enters v I J Q := by
  refine s_X10_enters hL ht.1 (h _ _ (eqm.rf.upF (by decide) _) (eqj.rf.up (by decide) _ _) ⟨?_, fun i hi => ?_⟩)
  · rw [sw_up_same, List.length_append]; rfl
  · rw [List.length_append] at hi
    by_cases c : i = L.length
    · rw [c, sw_up_same, getD_end]
    · have c2 : i < L.length := by simp at hi; omega
      rw [sw_up_slot _ _ _ _ c, getD_app c2]; exact ht.2 i c2
theorem tlM_0 {I I2 : sw_I} {J : sw_J} (e : I2 = sw_up I 140 1 0) : tlM I2 J [] := ⟨by rw [e, sw_up_same]; rfl, fun i hi => absurd hi (Nat.not_lt_zero i)⟩
theorem tlC_of {I I2 : sw_I} {J J2 : sw_J} {L : List Int64} (h : tlC I J L) (e : I2 0 = I 0) (ej : J2 118 = J 118) : tlC I2 J2 L := by
  unfold tlC; rw [e, ej]; exact h
theorem tlM_of {I I2 : sw_I} {J J2 : sw_J} {L : List Int64} (h : tlM I J L) (e : I2 140 1 = I 140 1) (ej : J2 141 = J 141) : tlM I2 J2 L := by
  unfold tlM; rw [e, ej]; exact h
theorem rwR_of {I : sw_I} {J : sw_J} {L : List Int64} (hL : L.length ≤ 12) (h1 : tlC I J L) (h2 : tlM I J L) : rwR I J L.length := ⟨hL, h1.1, h2.1, fun i hi => by rw [h1.2 i hi, h2.2 i hi]⟩
/-- the relation behind a call that changes nothing but the row told -/
theorem told_fin {c : Nat} {I I2 : sw_I} {J J2 : sw_J} {n fl m q p r t s z : Nat} {L : List Int64} (hw : wR c I J n fl m q p r t s z) (e : eqm (0 :: scrC) (1 :: scrF) I I2) (hL : L.length ≤ 12) (h1 : tlC I2 J2 L) (h2 : tlM I2 J2 L) : wW c I2 J2 := by
  obtain ⟨g0, g1, g2, g3, g4, g5, g6, g7, g8⟩ := hw
  have hn := g1.2.2.1
  exact ⟨n, fl, m, q, p, _, t, s, z, ⟨g0.1, rb_of e (by decide) g0.2⟩, hs_of e (by decide) (by decide) g1, l_of e (by decide) (by decide) g2, now_of e (by decide) hn g3, past_of e (by decide) (by decide) hn g4, rwR_of hL h1 h2, tx_of e (by decide) (by decide) g6, sn_of e (by decide) (by decide) g7, kp_of e (by decide) (by decide) hn g8⟩
