abbrev rm_J3_checkIndex_8e157 : Room := { frames := 0, cells := 0, slots := 0, locals := 0 }
abbrev rm_J0_checkIndex_df160 : Room := { frames := 1, cells := 0, slots := 0, locals := 22 }
abbrev rm_J1_charAt_3b067 : Room := { frames := 2, cells := 0, slots := 0, locals := 43 }
abbrev rm_J0_isLatin1_aae02 : Room := { frames := 0, cells := 0, slots := 0, locals := 0 }
abbrev rm_J0_coder_7d493 : Room := { frames := 0, cells := 0, slots := 0, locals := 0 }
abbrev rm_J0_charAt_5068e : Room := { frames := 3, cells := 0, slots := 0, locals := 64 }
abbrev rm_J0_length_8abf5 : Room := { frames := 1, cells := 0, slots := 0, locals := 20 }
/-- the char at k of the text i -/
def sw_ch (i k : Nat) : Int32 := (((sw_sb.getD i []).getD k 0 &&& 255).toUInt32 % 65536).toInt32
theorem sw_ch_nar : ∀ i, i < sw_sk.length → ∀ k, k < sw_sl.getD i 0 → narrow .char (.int (sw_ch i k)) = .int (sw_ch i k) := by decide +kernel
theorem sw_sl_lt : ∀ i, i < sw_sk.length → sw_sl.getD i 0 < 2 ^ 31 := by decide +kernel
section STM
variable {l : Launch} {D : va_G} {cy : Nat → ClassId} {sz : Nat} {G : sw_G} {I : sw_I} {J : sw_J}
theorem M_J3_checkIndex {x0 x1 : Int32} {v : Value} (hv : v = .null ∨ ∃ t, v = .ref t) {Q : Int32 → sw_I → sw_J → Prop} (h1 : ¬ x0 < 0) (h2 : x0 < x1) (h : Q x0 I J) : Met l yJ3_checkIndex_8e157 (Cond.code yJ3_checkIndex_8e157 cJ3_checkIndex_8e157 3 (some .int) :: sw_T) rm_J3_checkIndex_8e157 (sw_Pc D cy sz [.int x0, .int x1, v] G I J) (sw_Q D cy sz (sw_qi G Q)) 0 0 (fun q => sz ≤ q) := by
  refine sw_met (ini := false) (by decide) (fun q => by cases q) (by rcases hv with rfl | ⟨t, rfl⟩ <;> exact Nat.le_of_ble_eq_true rfl) rfl ?_
  refine aw_sub (lv' := [(0, .int x0), (1, .int x1)]) [0, 1] rfl ?_
  refine aw_iload_n 0 dJ3_checkIndex_8e157_0 rfl rfl ?_
  refine aw_zlt 9 dJ3_checkIndex_8e157_1 (by decide) (fun c => absurd c h1) (fun c => ?_)
  refine aw_iload_n 0 dJ3_checkIndex_8e157_4 rfl rfl ?_
  refine aw_iload_n 1 dJ3_checkIndex_8e157_5 rfl rfl ?_
  refine aw_jlt 16 dJ3_checkIndex_8e157_6 (by decide) (fun c => ?_) (fun c => absurd h2 c)
  refine aw_iload_n 0 dJ3_checkIndex_8e157_16 rfl rfl ?_
  exact aw_iret rfl dJ3_checkIndex_8e157_17 ⟨rfl, _, rfl, h⟩
theorem M_J0_checkIndex {x0 x1 : Int32} {Q : sw_I → sw_J → Prop} (h1 : ¬ x0 < 0) (h2 : x0 < x1) (h : Q I J) : Met l yJ0_checkIndex_df160 (Cond.code yJ0_checkIndex_df160 cJ0_checkIndex_df160 2 none :: sw_T) rm_J0_checkIndex_df160 (sw_Pc D cy sz [.int x0, .int x1] G I J) (sw_Q D cy sz (sw_qv G Q)) 0 0 (fun q => sz ≤ q) := by
  refine sw_met (ini := false) (lv := [(0, .int x0), (1, .int x1)]) (by decide) (fun q => by cases q) (Nat.le_of_ble_eq_true rfl) rfl ?_
  refine aw_iload_n 0 dJ0_checkIndex_df160_0 rfl rfl ?_
  refine aw_iload_n 1 dJ0_checkIndex_df160_1 rfl rfl ?_
  have key : ∀ v : Value, (v = .null ∨ ∃ t, v = .ref t) → AW l D cy sz RJ0 cJ0_checkIndex_df160 2 none false rm_J0_checkIndex_df160 0 0 (sw_qv G Q) 0 0 G I J 5 [(0, .int x0), (1, .int x1)] [v, .int x1, .int x0] := by
    intro v hv
    refine aw_callS wv_J3_checkIndex_8e157 (M_J3_checkIndex (Q := fun _ I2 J2 => Q I2 J2) hv h1 h2 h) ml_J0_1059 rfl rfl (Nat.le_of_ble_eq_true rfl) ⟨rfl, rfl⟩ ⟨Nat.le_of_ble_eq_true rfl, Nat.le_of_ble_eq_true rfl⟩ ⟨Nat.le_refl _, Nat.le_refl _⟩ dJ0_checkIndex_df160_5 (aw_ki fun r I2 J2 h => ?_)
    refine aw_pop dJ0_checkIndex_df160_8 rfl ?_
    exact aw_vret rfl dJ0_checkIndex_df160_9 ⟨rfl, rfl, h⟩
  intro p e s m args below meth c H locs ls X hR hS hl
  obtain ⟨hx9, hb, hml, hr, hlk, hini, hown9, hts, hK, hsz, hEv⟩ := id X
  rcases sw_fmZ hEv with hz | ⟨t, hz⟩
  · exact va_gets hx9 hb hz hS hown9 (hts _ fl_J0_1053) (fun _ h => h) dJ0_checkIndex_df160_2 (key .null (Or.inl rfl) p e s m args below meth c H locs ls X hR hS hl)
  · exact va_gets hx9 hb hz hS hown9 (hts _ fl_J0_1053) (fun _ h => h) dJ0_checkIndex_df160_2 (key (.ref t) (Or.inr ⟨t, rfl⟩) p e s m args below meth c H locs ls X hR hS hl)
theorem M_J1_charAt {i k : Nat} {Q : Int32 → sw_I → sw_J → Prop} (hi : i < sw_sk.length) (hk : k < sw_sl.getD i 0) (h : Q (sw_ch i k) I J) : Met l yJ1_charAt_3b067 (Cond.code yJ1_charAt_3b067 cJ1_charAt_3b067 2 (some .char) :: sw_T) rm_J1_charAt_3b067 (sw_Pc D cy sz [.ref (cy (100 + i)), .int (nI k)] G I J) (sw_Q D cy sz (sw_qi G Q)) 0 0 (fun q => sz ≤ q) := by
  have hL := sw_sl_lt i hi
  refine sw_met (ini := false) (lv := [(0, .ref (cy (100 + i))), (1, .int (nI k))]) (by decide) (fun q => by cases q) (Nat.le_of_ble_eq_true rfl) rfl ?_
  refine aw_iload_n 1 dJ1_charAt_3b067_0 rfl rfl ?_
  refine aw_aload_n 0 dJ1_charAt_3b067_1 rfl rfl ?_
  refine aw_slen hi dJ1_charAt_3b067_2 ?_
  refine aw_callS wv_J0_checkIndex_df160 (M_J0_checkIndex (Q := fun I2 J2 => Q (sw_ch i k) I2 J2) (nI_pos (by omega)) (nI_lt hk hL) h) ml_J1_9 rfl rfl (Nat.le_of_ble_eq_true rfl) ⟨rfl, rfl⟩ ⟨Nat.le_of_ble_eq_true rfl, Nat.le_of_ble_eq_true rfl⟩ ⟨Nat.le_refl _, Nat.le_refl _⟩ dJ1_charAt_3b067_3 (aw_kv fun I2 J2 h => ?_)
  refine aw_aload_n 0 dJ1_charAt_3b067_6 rfl rfl ?_
  refine aw_iload_n 1 dJ1_charAt_3b067_7 rfl rfl ?_
  refine aw_sbld hi (vp_in_nI hk hL) dJ1_charAt_3b067_8 ?_
  refine aw_sipush (v := 255) dJ1_charAt_3b067_9 (by decide) ?_
  refine aw_iand dJ1_charAt_3b067_12 ?_
  refine aw_i2c dJ1_charAt_3b067_13 ?_
  rw [nI_clamp (by omega)]
  exact aw_zret rfl (sw_ch_nar i hi k hk) dJ1_charAt_3b067_14 ⟨rfl, _, rfl, h⟩
theorem M_J0_isLatin1 {i : Nat} {Q : Int32 → sw_I → sw_J → Prop} (hi : i < sw_sk.length) (h : Q 1 I J) : Met l yJ0_isLatin1_aae02 (Cond.code yJ0_isLatin1_aae02 cJ0_isLatin1_aae02 1 (some .boolean) :: sw_T) rm_J0_isLatin1_aae02 (sw_Pc D cy sz [.ref (cy (10 + i))] G I J) (sw_Q D cy sz (sw_qi G Q)) 0 0 (fun q => sz ≤ q) := by
  refine sw_met (ini := false) (lv := [(0, .ref (cy (10 + i)))]) (by decide) (fun q => by cases q) (Nat.le_of_ble_eq_true rfl) rfl ?_
  refine aw_gets sw_csZ fl_J0_38 dJ0_isLatin1_aae02_0 ?_
  refine aw_zeq 17 dJ0_isLatin1_aae02_3 (by decide) (fun c => absurd c (by decide)) (fun c => ?_)
  refine aw_aload_n 0 dJ0_isLatin1_aae02_6 rfl rfl ?_
  refine aw_sget (v := .int 0) (fun s hs => ((sw_evS hs).1 i hi).2.1) fl_J0_15 dJ0_isLatin1_aae02_7 ?_
  refine aw_zne 17 dJ0_isLatin1_aae02_10 (by decide) (fun c => absurd rfl c) (fun c => ?_)
  refine aw_iconst (v := 1) dJ0_isLatin1_aae02_13 (by decide) ?_
  refine aw_goto 18 dJ0_isLatin1_aae02_14 (by decide) ?_
  exact aw_zret rfl rfl dJ0_isLatin1_aae02_18 ⟨rfl, _, rfl, h⟩
theorem M_J0_coder {i : Nat} {Q : Int32 → sw_I → sw_J → Prop} (hi : i < sw_sk.length) (h : Q 0 I J) : Met l yJ0_coder_7d493 (Cond.code yJ0_coder_7d493 cJ0_coder_7d493 1 (some .byte) :: sw_T) rm_J0_coder_7d493 (sw_Pc D cy sz [.ref (cy (10 + i))] G I J) (sw_Q D cy sz (sw_qi G Q)) 0 0 (fun q => sz ≤ q) := by
  refine sw_met (ini := false) (lv := [(0, .ref (cy (10 + i)))]) (by decide) (fun q => by cases q) (Nat.le_of_ble_eq_true rfl) rfl ?_
  refine aw_gets sw_csZ fl_J0_38 dJ0_coder_7d493_0 ?_
  refine aw_zeq 13 dJ0_coder_7d493_3 (by decide) (fun c => absurd c (by decide)) (fun c => ?_)
  refine aw_aload_n 0 dJ0_coder_7d493_6 rfl rfl ?_
  refine aw_sget (v := .int 0) (fun s hs => ((sw_evS hs).1 i hi).2.1) fl_J0_15 dJ0_coder_7d493_7 ?_
  refine aw_goto 14 dJ0_coder_7d493_10 (by decide) ?_
  exact aw_zret rfl rfl dJ0_coder_7d493_14 ⟨rfl, _, rfl, h⟩
theorem M_J0_length {i : Nat} {Q : Int32 → sw_I → sw_J → Prop} (hi : i < sw_sk.length) (h : Q (nI (sw_sl.getD i 0)) I J) : Met l yJ0_length_8abf5 (Cond.code yJ0_length_8abf5 cJ0_length_8abf5 1 (some .int) :: sw_T) rm_J0_length_8abf5 (sw_Pc D cy sz [.ref (cy (10 + i))] G I J) (sw_Q D cy sz (sw_qi G Q)) 0 0 (fun q => sz ≤ q) := by
  refine sw_met (ini := false) (lv := [(0, .ref (cy (10 + i)))]) (by decide) (fun q => by cases q) (Nat.le_of_ble_eq_true rfl) rfl ?_
  refine aw_aload_n 0 dJ0_length_8abf5_0 rfl rfl ?_
  refine aw_sget (v := .ref (cy (100 + i))) (fun s hs => ((sw_evS hs).1 i hi).2.2.1) fl_J0_9 dJ0_length_8abf5_1 ?_
  refine aw_slen hi dJ0_length_8abf5_4 ?_
  refine aw_aload_n 0 dJ0_length_8abf5_5 rfl rfl ?_
  refine aw_callT wv_J0_coder_7d493 rfl (M_J0_coder (Q := fun r I2 J2 => r = 0 ∧ Q (nI (sw_sl.getD i 0)) I2 J2) hi ⟨rfl, h⟩) ml_J0_335 hi rfl rfl (Nat.le_of_ble_eq_true rfl) ⟨rfl, rfl⟩ ⟨Nat.le_of_ble_eq_true rfl, Nat.le_of_ble_eq_true rfl⟩ ⟨Nat.le_refl _, Nat.le_refl _⟩ dJ0_length_8abf5_6 (aw_ki fun r I2 J2 h => ?_)
  obtain ⟨rfl, h⟩ := h
  refine aw_ishr dJ0_length_8abf5_9 ?_
  rw [sb_shr0]
  exact aw_iret rfl dJ0_length_8abf5_10 ⟨rfl, _, rfl, h⟩
theorem M_J0_charAt {i k : Nat} {Q : Int32 → sw_I → sw_J → Prop} (hi : i < sw_sk.length) (hk : k < sw_sl.getD i 0) (h : Q (sw_ch i k) I J) : Met l yJ0_charAt_5068e (Cond.code yJ0_charAt_5068e cJ0_charAt_5068e 2 (some .char) :: sw_T) rm_J0_charAt_5068e (sw_Pc D cy sz [.ref (cy (10 + i)), .int (nI k)] G I J) (sw_Q D cy sz (sw_qi G Q)) 0 0 (fun q => sz ≤ q) := by
  refine sw_met (ini := false) (lv := [(0, .ref (cy (10 + i))), (1, .int (nI k))]) (by decide) (fun q => by cases q) (Nat.le_of_ble_eq_true rfl) rfl ?_
  refine aw_aload_n 0 dJ0_charAt_5068e_0 rfl rfl ?_
  refine aw_callT wv_J0_isLatin1_aae02 rfl (M_J0_isLatin1 (Q := fun r I2 J2 => r = 1 ∧ Q (sw_ch i k) I2 J2) hi ⟨rfl, h⟩) ml_J0_492 hi rfl rfl (Nat.le_of_ble_eq_true rfl) ⟨rfl, rfl⟩ ⟨Nat.le_of_ble_eq_true rfl, Nat.le_of_ble_eq_true rfl⟩ ⟨Nat.le_refl _, Nat.le_refl _⟩ dJ0_charAt_5068e_1 (aw_ki fun r I2 J2 h => ?_)
  obtain ⟨rfl, h⟩ := h
  refine aw_zeq 16 dJ0_charAt_5068e_4 (by decide) (fun c => absurd c (by decide)) (fun c => ?_)
  refine aw_aload_n 0 dJ0_charAt_5068e_7 rfl rfl ?_
  refine aw_sget (v := .ref (cy (100 + i))) (fun s hs => ((sw_evS hs).1 i hi).2.2.1) fl_J0_9 dJ0_charAt_5068e_8 ?_
  refine aw_iload_n 1 dJ0_charAt_5068e_11 rfl rfl ?_
  refine aw_callS wv_J1_charAt_3b067 (M_J1_charAt (Q := fun r I2 J2 => r = sw_ch i k ∧ Q r I2 J2) hi hk ⟨rfl, h⟩) ml_J0_495 rfl rfl (Nat.le_of_ble_eq_true rfl) ⟨rfl, rfl⟩ ⟨Nat.le_of_ble_eq_true rfl, Nat.le_of_ble_eq_true rfl⟩ ⟨Nat.le_refl _, Nat.le_refl _⟩ dJ0_charAt_5068e_12 (aw_ki fun r I2 J2 h => ?_)
  obtain ⟨rfl, h⟩ := h
  exact aw_zret rfl (sw_ch_nar i hi k hk) dJ0_charAt_5068e_15 ⟨rfl, _, rfl, h⟩
end STM
