/-! the law's start: the texts, and all that the body asks of the machine -/
abbrev ws_tm (i : Nat) : Term := Term.string "LeastWishedModel" (sw_sk.getD i 0)
theorem ws_t0 : ∀ i : Nat, i < sw_sk.length → Cond.exactly (ws_tm i) "java/lang/String" ∈ flatC (Jvm.Cond.and given_1 narrow_1) := by decide +kernel
theorem ws_t1 : ∀ i : Nat, i < sw_sk.length → Cond.eq (.field (ws_tm i) "java/lang/String" "coder" "B") (.int 0) ∈ flatC (Jvm.Cond.and given_1 narrow_1) := by decide +kernel
theorem ws_t2 : ∀ i : Nat, i < sw_sk.length → Cond.arrayOf (.field (ws_tm i) "java/lang/String" "value" "[B") .byte ∈ flatC (Jvm.Cond.and given_1 narrow_1) := by decide +kernel
theorem ws_t3 : ∀ i : Nat, i < sw_sk.length → Cond.eq (.length (.field (ws_tm i) "java/lang/String" "value" "[B")) (.int (Int32.ofNat (sw_sl.getD i 0))) ∈ flatC (Jvm.Cond.and given_1 narrow_1) := by decide +kernel
theorem ws_t4 : ∀ i : Nat, i < sw_sk.length → ∀ j : Nat, j < sw_sl.getD i 0 → Cond.eq (.elem (.field (ws_tm i) "java/lang/String" "value" "[B") (.int (Int32.ofNat j))) (.int ((sw_sb.getD i []).getD j 0)) ∈ flatC (Jvm.Cond.and given_1 narrow_1) := by decide +kernel
theorem ws_t5 : ∀ i : Nat, i < sw_sk.length → ∀ j : Nat, j < sw_sk.length → i ≠ j → (Cond.not (Cond.eq (ws_tm i) (ws_tm j)) ∈ flatC (Jvm.Cond.and given_1 narrow_1) ∨ Cond.not (Cond.eq (ws_tm j) (ws_tm i)) ∈ flatC (Jvm.Cond.and given_1 narrow_1)) := by decide +kernel
theorem ws_t6 : ∀ i : Nat, i < sw_sk.length → sw_sl.getD i 0 < 2 ^ 31 := by decide +kernel
theorem ws_str {args : Array Value} {s : State} {A : Nat → Prop} (h : (Jvm.Cond.and given_1 narrow_1).before args s = true) (hA : ∀ a : Nat, a < s.heap.size → ¬ A a) :
    ∃ adK adV : Nat → Nat, vk_S sw_sk.length sw_sl sw_sb adK adV A s s.heap ∧ ∀ i : Nat, i < sw_sk.length → (ws_tm i).eval args s none [] s = some (.ref (adK i)) := by
  have hs := flat_of_before _ h
  exact vk_Sof (tm := ws_tm) ws_t6 (fun i hi => hs _ (ws_t0 i hi)) (fun i hi => hs _ (ws_t1 i hi)) (fun i hi => hs _ (ws_t2 i hi)) (fun i hi => hs _ (ws_t3 i hi)) (fun i hi j hj => hs _ (ws_t4 i hi j hj)) (fun i j hi hj hij => (ws_t5 i hi j hj hij).imp (hs _) (hs _)) hA
theorem ws_vk {N : Nat} {len : List Nat} {byt : List (List Int32)} {adK adV adK2 adV2 : Nat → Nat} {A : Nat → Prop} {U : State} {H : Heap} (h : vk_S N len byt adK adV A U H) (hK : ∀ i : Nat, i < N → adK2 i = adK i) (hV : ∀ i : Nat, i < N → adV2 i = adV i) : vk_S N len byt adK2 adV2 A U H := by
  refine ⟨fun i hi => ?_, fun i j hi hj e => h.2 i j hi hj ?_⟩
  · rw [hK i hi, hV i hi]
    exact h.1 i hi
  · rw [← hK i hi, ← hK j hj]
    exact e
def ws_cy (c0 c1 c2 c3 : Nat) (adK adV : Nat → Nat) (k : Nat) : Nat := if k = 0 then c0 else if k = 1 then c1 else if k = 2 then c2 else if k = 3 then c3 else if k < 100 then adK (k - 10) else adV (k - 100)
theorem ws_cyK {c0 c1 c2 c3 : Nat} {adK adV : Nat → Nat} {i : Nat} (h : i < 90) : ws_cy c0 c1 c2 c3 adK adV (10 + i) = adK i := by
  have e : 10 + i - 10 = i := by omega
  unfold ws_cy
  rw [if_neg (by omega), if_neg (by omega), if_neg (by omega), if_neg (by omega), if_pos (by omega), e]
theorem ws_cyV {c0 c1 c2 c3 : Nat} {adK adV : Nat → Nat} (i : Nat) : ws_cy c0 c1 c2 c3 adK adV (100 + i) = adV i := by
  have e : 100 + i - 100 = i := by omega
  unfold ws_cy
  rw [if_neg (by omega), if_neg (by omega), if_neg (by omega), if_neg (by omega), if_neg (by omega), e]
theorem ws_n : sw_sk.length ≤ 90 := by decide +kernel
/-- the classes and array classes, and the texts, of the start -/
theorem ws_all {args : Array Value} {s : State} (h : (Jvm.Cond.and given_1 narrow_1).before args s = true) (hts : ∀ w ∈ lw_tbl, w.before args s = true) : ∃ (D : va_G) (cy : Nat → ClassId), va_K D vwCl (sw_tys cy) s ∧ sw_Ev cy s.heap.size s := by
  have hT : ∀ w ∈ sw_T, w.before args s = true := fun w hw => hts w (List.mem_filter.mp hw).1
  obtain ⟨D, hD⟩ := ws_D hT
  obtain ⟨c0, h0⟩ := ws_arr (hT _ wa_int) (fun cA q => q)
  obtain ⟨c1, h1⟩ := ws_arr (hT _ wa_long) (fun cA q => q)
  obtain ⟨c2, h2⟩ := ws_arr (hT _ wa_bool) (fun cA q => q)
  obtain ⟨c3, h3⟩ := ws_arrq (hts _ w_over)
  obtain ⟨adK, adV, hS, hE⟩ := ws_str (A := fun q => s.heap.size ≤ q) h (fun a ha hh => Nat.not_le.mpr ha hh)
  have e0 : ws_cy c0 c1 c2 c3 adK adV 0 = c0 := rfl
  have e1 : ws_cy c0 c1 c2 c3 adK adV 1 = c1 := rfl
  have e2 : ws_cy c0 c1 c2 c3 adK adV 2 = c2 := rfl
  have e3 : ws_cy c0 c1 c2 c3 adK adV 3 = c3 := rfl
  have eK : ∀ i : Nat, i < sw_sk.length → ws_cy c0 c1 c2 c3 adK adV (10 + i) = adK i := fun i hi => ws_cyK (Nat.lt_of_lt_of_le hi ws_n)
  refine ⟨D, ws_cy c0 c1 c2 c3 adK adV, ⟨hD, fun k q hk => ?_⟩, s, args, h, hts, rfl, State.WarmedH.refl s, fun q _ => rfl, ws_vk hS eK (fun i _ => ws_cyV i), fun i hi => ?_⟩
  · match k, hk with
    | 0, hk =>
      have e := Option.some.inj hk
      subst e
      show ArrOfT s (ws_cy c0 c1 c2 c3 adK adV 0) .int ∧ va_RA s (ws_cy c0 c1 c2 c3 adK adV 0) .int
      rw [e0]; exact h0
    | 1, hk =>
      have e := Option.some.inj hk
      subst e
      show ArrOfT s (ws_cy c0 c1 c2 c3 adK adV 1) .long ∧ va_RA s (ws_cy c0 c1 c2 c3 adK adV 1) .long
      rw [e1]; exact h1
    | 2, hk =>
      have e := Option.some.inj hk
      subst e
      show ArrOfT s (ws_cy c0 c1 c2 c3 adK adV 2) .boolean ∧ va_RA s (ws_cy c0 c1 c2 c3 adK adV 2) .boolean
      rw [e2]; exact h2
    | 3, hk =>
      have e := Option.some.inj hk
      subst e
      show ArrOfT s (ws_cy c0 c1 c2 c3 adK adV 3) (.object "LeastWished$Moment") ∧ va_RA s (ws_cy c0 c1 c2 c3 adK adV 3) (.object "LeastWished$Moment")
      rw [e3]; exact h3
    | k + 4, hk => cases hk
  · rw [eK i hi]
    exact hE i hi
