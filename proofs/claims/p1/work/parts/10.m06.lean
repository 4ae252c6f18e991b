-- X10_does
abbrev rm_X10_does : Room := { frames := 6, cells := 0, slots := 0, locals := 140 }
def wB_X10_does_282  (K73 : Int32 → Int32 → sw_I → sw_J → Prop) (Q : Int32 → sw_I → sw_J → Prop) (x1 : Int32) (x2 : Int32) (I : sw_I) (J : sw_J) : Prop :=
  ∀ y_1 : Int32, y_1 = x2 + 1 → K73 x1 y_1 I J
def wB_X10_does_271  (K73 : Int32 → Int32 → sw_I → sw_J → Prop) (Q : Int32 → sw_I → sw_J → Prop) (x1 : Int32) (x2 : Int32) (s1 : Int32) (s2 : Int32) (I : sw_I) (J : sw_J) : Prop :=
  vp_in s1 33 ∧ ∀ I_2 : sw_I, I_2 = sw_up I 135 s1.toNatClampNeg s2 → ∀ I_4 : sw_I, I_4 = sw_up I_2 131 39 ((I_2 131 39) + (1 : Int32)) → wB_X10_does_282  K73 Q x1 x2 I_4 J
def wB_X10_does_234  (K73 : Int32 → Int32 → sw_I → sw_J → Prop) (Q : Int32 → sw_I → sw_J → Prop) (x1 : Int32) (x2 : Int32) (s1 : Int32) (s2 : Int32) (I : sw_I) (J : sw_J) : Prop :=
  vp_in s1 33 ∧ ∀ I_2 : sw_I, I_2 = sw_up I 135 s1.toNatClampNeg s2 → vp_in x1 60 ∧ sw_if ((I_2 147 x1.toNatClampNeg) = (2 : Int32)) (vp_in x1 60 ∧ wB_X10_does_271  K73 Q x1 x2 ((10 : Int32) + x2) (I_2 149 x1.toNatClampNeg) I_2 J) (vp_in ((10 : Int32) + x2) 33 ∧ wB_X10_does_271  K73 Q x1 x2 ((10 : Int32) + x2) (I_2 135 ((10 : Int32) + x2).toNatClampNeg) I_2 J)
def wB_X10_does_165  (K73 : Int32 → Int32 → sw_I → sw_J → Prop) (Q : Int32 → sw_I → sw_J → Prop) (x1 : Int32) (x2 : Int32) (s0 : Int32) (I : sw_I) (J : sw_J) : Prop :=
  sw_if (s0 = 0) (Q 0 I J) (vp_in x1 60 ∧ sw_if ((I 147 x1.toNatClampNeg) = 0) (wB_X10_does_234  K73 Q x1 x2 30 ((I 135 (30 : Int32).toNatClampNeg) ||| ((1 : Int32) <<< (x2 &&& 31))) I J) (vp_in x1 60 ∧ sw_if ((I 147 x1.toNatClampNeg) = (1 : Int32)) (wB_X10_does_234  K73 Q x1 x2 30 ((I 135 (30 : Int32).toNatClampNeg) &&& (((1 : Int32) <<< (x2 &&& 31)) ^^^ (-1 : Int32))) I J) (wB_X10_does_234  K73 Q x1 x2 30 (I 135 (30 : Int32).toNatClampNeg) I J)))
def wB_X10_does_164  (K73 : Int32 → Int32 → sw_I → sw_J → Prop) (Q : Int32 → sw_I → sw_J → Prop) (x1 : Int32) (x2 : Int32) (I : sw_I) (J : sw_J) : Prop :=
  wB_X10_does_165  K73 Q x1 x2 0 I J
def wB_X10_does_160  (K73 : Int32 → Int32 → sw_I → sw_J → Prop) (Q : Int32 → sw_I → sw_J → Prop) (x1 : Int32) (x2 : Int32) (I : sw_I) (J : sw_J) : Prop :=
  wB_X10_does_165  K73 Q x1 x2 1 I J
def wb_X10_does_73  (K73 : Int32 → Int32 → sw_I → sw_J → Prop) (Q : Int32 → sw_I → sw_J → Prop) (x1 : Int32) (x2 : Int32) (I : sw_I) (J : sw_J) : Prop :=
  sw_if (x2 < (10 : Int32)) (vp_in x1 60 ∧ wp_X10_has (I 148 x1.toNatClampNeg) x2 I J (fun r_3 I_4 J_5 => sw_if (r_3 = 0) (wB_X10_does_282  K73 Q x1 x2 I_4 J_5) (vp_in x1 60 ∧ sw_if ((I_4 147 x1.toNatClampNeg) = 0) (wp_X10_canEnter x2 I_4 J_5 (fun r_25 I_26 J_27 => wB_X10_does_165  K73 Q x1 x2 r_25 I_26 J_27)) (vp_in x1 60 ∧ sw_if ((I_4 147 x1.toNatClampNeg) = (1 : Int32)) (wp_X10_canLeave x2 I_4 J_5 (fun r_22 I_23 J_24 => wB_X10_does_165  K73 Q x1 x2 r_22 I_23 J_24)) (wp_X10_isRider x2 I_4 J_5 (fun r_11 I_12 J_13 => sw_if (r_11 = 0) (wB_X10_does_164  K73 Q x1 x2 I_12 J_13) (vp_in x1 60 ∧ sw_if ((I_12 149 x1.toNatClampNeg) < 0) (wB_X10_does_160  K73 Q x1 x2 I_12 J_13) (vp_in x1 60 ∧ wp_X10_isFloor (I_12 149 x1.toNatClampNeg) I_12 J_13 (fun r_18 I_19 J_20 => sw_if (r_18 = 0) (wB_X10_does_164  K73 Q x1 x2 I_19 J_20) (wB_X10_does_160  K73 Q x1 x2 I_19 J_20)))))))))) (Q 1 I J)
def wl_X10_does_73   (Q : Int32 → sw_I → sw_J → Prop) : Nat → Int32 → Int32 → sw_I → sw_J → Prop
  | 0 => fun _ _ _ _ => False
  | n + 1 => fun x1 x2 I J => wb_X10_does_73  (wl_X10_does_73   Q n) Q x1 x2 I J
def wb_X10_does_12  (K12 : Int32 → Int32 → sw_I → sw_J → Prop) (Q : Int32 → sw_I → sw_J → Prop) (x1 : Int32) (x2 : Int32) (I : sw_I) (J : sw_J) : Prop :=
  vp_in x1 60 ∧ sw_if (x2 < (I 150 x1.toNatClampNeg)) (wp_X10_travels 135 33 (I 135 (30 : Int32).toNatClampNeg) I J (fun r_9 I_10 J_11 => ∀ y_12 : Int32, y_12 = x2 + 1 → K12 x1 y_12 I_10 J_11)) (vp_in x1 60 ∧ ∀ I_4 : sw_I, I_4 = sw_up I 131 40 ((I 131 40) + (I 150 x1.toNatClampNeg)) → ∀ I_6 : sw_I, I_6 = sw_up I_4 131 39 ((I_4 131 39) + (1 : Int32)) → Q 1 I_6 J)
def wl_X10_does_12   (Q : Int32 → sw_I → sw_J → Prop) : Nat → Int32 → Int32 → sw_I → sw_J → Prop
  | 0 => fun _ _ _ _ => False
  | n + 1 => fun x1 x2 I J => wb_X10_does_12  (wl_X10_does_12   Q n) Q x1 x2 I J
def wp_X10_does (x1 : Int32) (I : sw_I) (J : sw_J) (Q : Int32 → sw_I → sw_J → Prop) : Prop :=
  vp_in x1 60 ∧ sw_if ((I 147 x1.toNatClampNeg) = (3 : Int32)) (∃ n_4 : Nat, wl_X10_does_12   Q n_4 x1 0 I J) (∃ n_3 : Nat, wl_X10_does_73   Q n_3 x1 0 I J)
set_option maxRecDepth 20000 in
theorem t_X10_does_282 {l : Launch} {D : va_G} {cy : Nat → ClassId} {sz : Nat} {G : sw_G} (hG : sw_lay G)   {Q : Int32 → sw_I → sw_J → Prop} {K73 : Int32 → Int32 → sw_I → sw_J → Prop} (hK73 : ∀ (x1 : Int32) (x2 : Int32) (I : sw_I) (J : sw_J), K73 x1 x2 I J → AW l D cy sz RX10 cX10_does 4 (some .boolean) false rm_X10_does 0 0 (sw_qi G Q) 0 0 G I J 73 [(0, .ref (sz + 131)), (1, .int x1), (2, .int x2)] []) {x1 : Int32} {x2 : Int32} {I : sw_I} {J : sw_J} (h : wB_X10_does_282  K73 Q x1 x2 I J) : AW l D cy sz RX10 cX10_does 4 (some .boolean) false rm_X10_does 0 0 (sw_qi G Q) 0 0 G I J 282 [(0, .ref (sz + 131)), (1, .int x1), (2, .int x2)] [] := by
  unfold wB_X10_does_282 at h
  obtain ⟨y_1, e_2⟩ : ∃ q : Int32, q = x2 + 1 := ⟨_, rfl⟩
  have h := h y_1 e_2
  refine aw_iinc (lv' := [(2, .int y_1), (0, .ref (sz + 131)), (1, .int x1)]) 2 dX10_does_282 rfl (by rw [e_2]; rfl) (by decide) rfl ?_
  refine aw_goto 73 dX10_does_285 (by decide) ?_
  refine aw_sub [1, 2, 0] rfl ?_
  exact hK73 x1 y_1 I J h
set_option maxRecDepth 20000 in
theorem t_X10_does_271 {l : Launch} {D : va_G} {cy : Nat → ClassId} {sz : Nat} {G : sw_G} (hG : sw_lay G)   {Q : Int32 → sw_I → sw_J → Prop} {K73 : Int32 → Int32 → sw_I → sw_J → Prop} (hK73 : ∀ (x1 : Int32) (x2 : Int32) (I : sw_I) (J : sw_J), K73 x1 x2 I J → AW l D cy sz RX10 cX10_does 4 (some .boolean) false rm_X10_does 0 0 (sw_qi G Q) 0 0 G I J 73 [(0, .ref (sz + 131)), (1, .int x1), (2, .int x2)] []) {x1 : Int32} {x2 : Int32} {s1 : Int32} {s2 : Int32} {I : sw_I} {J : sw_J} (h : wB_X10_does_271  K73 Q x1 x2 s1 s2 I J) : AW l D cy sz RX10 cX10_does 4 (some .boolean) false rm_X10_does 0 0 (sw_qi G Q) 0 0 G I J 271 [(0, .ref (sz + 131)), (1, .int x1), (2, .int x2)] [.int s2, .int s1, .ref (sz + 135)] := by
  unfold wB_X10_does_271 at h
  obtain ⟨hi_1, h⟩ := h
  refine aw_ist dX10_does_271 (lk135 hG) (ln135 hG) hi_1 (aw_nameI fun I_2 e_3 => ?_)
  have h := h I_2 e_3
  refine aw_aload_n 0 dX10_does_272 rfl rfl ?_
  refine aw_dup dX10_does_273 rfl ?_
  refine gf_X10_39 fl_X10_286 (lk131 hG) dX10_does_274 ?_
  refine aw_iconst (v := 1) dX10_does_277 (by decide) ?_
  refine aw_iadd dX10_does_278 ?_
  refine pf_X10_39 fl_X10_286 (lk131 hG) dX10_does_279 (aw_nameI fun I_4 e_5 => ?_)
  have h := h I_4 e_5
  refine aw_sub [0, 1, 2] rfl ?_
  exact t_X10_does_282 hG  hK73 h
set_option maxRecDepth 20000 in
theorem t_X10_does_234 {l : Launch} {D : va_G} {cy : Nat → ClassId} {sz : Nat} {G : sw_G} (hG : sw_lay G)   {Q : Int32 → sw_I → sw_J → Prop} {K73 : Int32 → Int32 → sw_I → sw_J → Prop} (hK73 : ∀ (x1 : Int32) (x2 : Int32) (I : sw_I) (J : sw_J), K73 x1 x2 I J → AW l D cy sz RX10 cX10_does 4 (some .boolean) false rm_X10_does 0 0 (sw_qi G Q) 0 0 G I J 73 [(0, .ref (sz + 131)), (1, .int x1), (2, .int x2)] []) {x1 : Int32} {x2 : Int32} {s1 : Int32} {s2 : Int32} {I : sw_I} {J : sw_J} (h : wB_X10_does_234  K73 Q x1 x2 s1 s2 I J) : AW l D cy sz RX10 cX10_does 4 (some .boolean) false rm_X10_does 0 0 (sw_qi G Q) 0 0 G I J 234 [(0, .ref (sz + 131)), (1, .int x1), (2, .int x2)] [.int s2, .int s1, .ref (sz + 135)] := by
  unfold wB_X10_does_234 at h
  obtain ⟨hi_1, h⟩ := h
  refine aw_ist dX10_does_234 (lk135 hG) (ln135 hG) hi_1 (aw_nameI fun I_2 e_3 => ?_)
  have h := h I_2 e_3
  refine aw_aload_n 0 dX10_does_235 rfl rfl ?_
  refine gf_X10_9 fl_X10_79 (lk131 hG) (lr131_9 hG) dX10_does_236 ?_
  refine aw_bipush (v := 10) dX10_does_239 (by decide) ?_
  refine aw_iload_n 2 dX10_does_241 rfl rfl ?_
  refine aw_iadd dX10_does_242 ?_
  refine aw_aload_n 0 dX10_does_243 rfl rfl ?_
  refine gf_X10_34 fl_X10_268 (lk131 hG) (lr131_34 hG) dX10_does_244 ?_
  refine aw_iload_n 1 dX10_does_247 rfl rfl ?_
  obtain ⟨hi_4, h⟩ := h
  refine aw_ild dX10_does_248 (lk147 hG) (ln147 hG) hi_4 ?_
  refine aw_iconst (v := 2) dX10_does_249 (by decide) ?_
  refine aw_jne 262 dX10_does_250 (by decide) (fun c_5 => ?_) (fun c_5 => ?_)
  · have h := sw_if.f h c_5
    refine aw_aload_n 0 dX10_does_262 rfl rfl ?_
    refine gf_X10_9 fl_X10_79 (lk131 hG) (lr131_9 hG) dX10_does_263 ?_
    refine aw_bipush (v := 10) dX10_does_266 (by decide) ?_
    refine aw_iload_n 2 dX10_does_268 rfl rfl ?_
    refine aw_iadd dX10_does_269 ?_
    obtain ⟨hi_6, h⟩ := h
    refine aw_ild dX10_does_270 (lk135 hG) (ln135 hG) hi_6 ?_
    refine aw_sub [0, 1, 2] rfl ?_
    exact t_X10_does_271 hG  hK73 h
  · have h := sw_if.t h c_5
    refine aw_aload_n 0 dX10_does_253 rfl rfl ?_
    refine gf_X10_36 fl_X10_280 (lk131 hG) (lr131_36 hG) dX10_does_254 ?_
    refine aw_iload_n 1 dX10_does_257 rfl rfl ?_
    obtain ⟨hi_7, h⟩ := h
    refine aw_ild dX10_does_258 (lk149 hG) (ln149 hG) hi_7 ?_
    refine aw_goto 271 dX10_does_259 (by decide) ?_
    refine aw_sub [0, 1, 2] rfl ?_
    exact t_X10_does_271 hG  hK73 h
set_option maxRecDepth 20000 in
theorem t_X10_does_165 {l : Launch} {D : va_G} {cy : Nat → ClassId} {sz : Nat} {G : sw_G} (hG : sw_lay G)   {Q : Int32 → sw_I → sw_J → Prop} {K73 : Int32 → Int32 → sw_I → sw_J → Prop} (hK73 : ∀ (x1 : Int32) (x2 : Int32) (I : sw_I) (J : sw_J), K73 x1 x2 I J → AW l D cy sz RX10 cX10_does 4 (some .boolean) false rm_X10_does 0 0 (sw_qi G Q) 0 0 G I J 73 [(0, .ref (sz + 131)), (1, .int x1), (2, .int x2)] []) {x1 : Int32} {x2 : Int32} {s0 : Int32} {I : sw_I} {J : sw_J} (h : wB_X10_does_165  K73 Q x1 x2 s0 I J) : AW l D cy sz RX10 cX10_does 4 (some .boolean) false rm_X10_does 0 0 (sw_qi G Q) 0 0 G I J 165 [(0, .ref (sz + 131)), (1, .int x1), (2, .int x2)] [.int s0] := by
  unfold wB_X10_does_165 at h
  refine aw_istore_n (lv' := [(3, .int s0), (0, .ref (sz + 131)), (1, .int x1), (2, .int x2)]) dX10_does_165 rfl (by decide) rfl ?_
  refine aw_iload_n 0 dX10_does_166 rfl rfl ?_
  refine aw_zne 172 dX10_does_167 (by decide) (fun c_1 => ?_) (fun c_1 => ?_)
  · have h := sw_if.f h c_1
    refine aw_aload_n 1 dX10_does_172 rfl rfl ?_
    refine gf_X10_9 fl_X10_79 (lk131 hG) (lr131_9 hG) dX10_does_173 ?_
    refine aw_bipush (v := 30) dX10_does_176 (by decide) ?_
    refine aw_aload_n 1 dX10_does_178 rfl rfl ?_
    refine gf_X10_34 fl_X10_268 (lk131 hG) (lr131_34 hG) dX10_does_179 ?_
    refine aw_iload_n 2 dX10_does_182 rfl rfl ?_
    obtain ⟨hi_2, h⟩ := h
    refine aw_ild dX10_does_183 (lk147 hG) (ln147 hG) hi_2 ?_
    refine aw_zne 201 dX10_does_184 (by decide) (fun c_3 => ?_) (fun c_3 => ?_)
    · have h := sw_if.f h c_3
      refine aw_aload_n 1 dX10_does_201 rfl rfl ?_
      refine gf_X10_34 fl_X10_268 (lk131 hG) (lr131_34 hG) dX10_does_202 ?_
      refine aw_iload_n 2 dX10_does_205 rfl rfl ?_
      obtain ⟨hi_4, h⟩ := h
      refine aw_ild dX10_does_206 (lk147 hG) (ln147 hG) hi_4 ?_
      refine aw_iconst (v := 1) dX10_does_207 (by decide) ?_
      refine aw_jne 227 dX10_does_208 (by decide) (fun c_5 => ?_) (fun c_5 => ?_)
      · have h := sw_if.f h c_5
        refine aw_aload_n 1 dX10_does_227 rfl rfl ?_
        refine gf_X10_9 fl_X10_79 (lk131 hG) (lr131_9 hG) dX10_does_228 ?_
        refine aw_bipush (v := 30) dX10_does_231 (by decide) ?_
        refine aw_ild dX10_does_233 (lk135 hG) (ln135 hG) (by unfold vp_in; decide) ?_
        refine aw_sub [1, 2, 3] rfl ?_
        exact t_X10_does_234 hG  hK73 h
      · have h := sw_if.t h c_5
        refine aw_aload_n 1 dX10_does_211 rfl rfl ?_
        refine gf_X10_9 fl_X10_79 (lk131 hG) (lr131_9 hG) dX10_does_212 ?_
        refine aw_bipush (v := 30) dX10_does_215 (by decide) ?_
        refine aw_ild dX10_does_217 (lk135 hG) (ln135 hG) (by unfold vp_in; decide) ?_
        refine aw_iconst (v := 1) dX10_does_218 (by decide) ?_
        refine aw_iload_n 3 dX10_does_219 rfl rfl ?_
        refine aw_ishl dX10_does_220 ?_
        refine aw_iconst (v := (-1)) dX10_does_221 (by decide) ?_
        refine aw_ixor dX10_does_222 ?_
        refine aw_iand dX10_does_223 ?_
        refine aw_goto 234 dX10_does_224 (by decide) ?_
        refine aw_sub [1, 2, 3] rfl ?_
        exact t_X10_does_234 hG  hK73 h
    · have h := sw_if.t h c_3
      refine aw_aload_n 1 dX10_does_187 rfl rfl ?_
      refine gf_X10_9 fl_X10_79 (lk131 hG) (lr131_9 hG) dX10_does_188 ?_
      refine aw_bipush (v := 30) dX10_does_191 (by decide) ?_
      refine aw_ild dX10_does_193 (lk135 hG) (ln135 hG) (by unfold vp_in; decide) ?_
      refine aw_iconst (v := 1) dX10_does_194 (by decide) ?_
      refine aw_iload_n 3 dX10_does_195 rfl rfl ?_
      refine aw_ishl dX10_does_196 ?_
      refine aw_ior dX10_does_197 ?_
      refine aw_goto 234 dX10_does_198 (by decide) ?_
      refine aw_sub [1, 2, 3] rfl ?_
      exact t_X10_does_234 hG  hK73 h
  · have h := sw_if.t h c_1
    refine aw_iconst (v := 0) dX10_does_170 (by decide) ?_
    exact aw_zret rfl rfl dX10_does_171 ⟨rfl, _, rfl, h⟩
set_option maxRecDepth 20000 in
theorem t_X10_does_164 {l : Launch} {D : va_G} {cy : Nat → ClassId} {sz : Nat} {G : sw_G} (hG : sw_lay G)   {Q : Int32 → sw_I → sw_J → Prop} {K73 : Int32 → Int32 → sw_I → sw_J → Prop} (hK73 : ∀ (x1 : Int32) (x2 : Int32) (I : sw_I) (J : sw_J), K73 x1 x2 I J → AW l D cy sz RX10 cX10_does 4 (some .boolean) false rm_X10_does 0 0 (sw_qi G Q) 0 0 G I J 73 [(0, .ref (sz + 131)), (1, .int x1), (2, .int x2)] []) {x1 : Int32} {x2 : Int32} {I : sw_I} {J : sw_J} (h : wB_X10_does_164  K73 Q x1 x2 I J) : AW l D cy sz RX10 cX10_does 4 (some .boolean) false rm_X10_does 0 0 (sw_qi G Q) 0 0 G I J 164 [(0, .ref (sz + 131)), (1, .int x1), (2, .int x2)] [] := by
  unfold wB_X10_does_164 at h
  refine aw_iconst (v := 0) dX10_does_164 (by decide) ?_
  refine aw_sub [0, 1, 2] rfl ?_
  exact t_X10_does_165 hG  hK73 h
set_option maxRecDepth 20000 in
theorem t_X10_does_160 {l : Launch} {D : va_G} {cy : Nat → ClassId} {sz : Nat} {G : sw_G} (hG : sw_lay G)   {Q : Int32 → sw_I → sw_J → Prop} {K73 : Int32 → Int32 → sw_I → sw_J → Prop} (hK73 : ∀ (x1 : Int32) (x2 : Int32) (I : sw_I) (J : sw_J), K73 x1 x2 I J → AW l D cy sz RX10 cX10_does 4 (some .boolean) false rm_X10_does 0 0 (sw_qi G Q) 0 0 G I J 73 [(0, .ref (sz + 131)), (1, .int x1), (2, .int x2)] []) {x1 : Int32} {x2 : Int32} {I : sw_I} {J : sw_J} (h : wB_X10_does_160  K73 Q x1 x2 I J) : AW l D cy sz RX10 cX10_does 4 (some .boolean) false rm_X10_does 0 0 (sw_qi G Q) 0 0 G I J 160 [(0, .ref (sz + 131)), (1, .int x1), (2, .int x2)] [] := by
  unfold wB_X10_does_160 at h
  refine aw_iconst (v := 1) dX10_does_160 (by decide) ?_
  refine aw_goto 165 dX10_does_161 (by decide) ?_
  refine aw_sub [0, 1, 2] rfl ?_
  exact t_X10_does_165 hG  hK73 h
set_option maxRecDepth 20000 in
theorem tb_X10_does_73 {l : Launch} {D : va_G} {cy : Nat → ClassId} {sz : Nat} {G : sw_G} (hG : sw_lay G)   {Q : Int32 → sw_I → sw_J → Prop} {K73 : Int32 → Int32 → sw_I → sw_J → Prop} (hK73 : ∀ (x1 : Int32) (x2 : Int32) (I : sw_I) (J : sw_J), K73 x1 x2 I J → AW l D cy sz RX10 cX10_does 4 (some .boolean) false rm_X10_does 0 0 (sw_qi G Q) 0 0 G I J 73 [(0, .ref (sz + 131)), (1, .int x1), (2, .int x2)] []) {x1 : Int32} {x2 : Int32} {I : sw_I} {J : sw_J} (h : wb_X10_does_73  K73 Q x1 x2 I J) : AW l D cy sz RX10 cX10_does 4 (some .boolean) false rm_X10_does 0 0 (sw_qi G Q) 0 0 G I J 73 [(0, .ref (sz + 131)), (1, .int x1), (2, .int x2)] [] := by
  unfold wb_X10_does_73 at h
  refine aw_iload_n 2 dX10_does_73 rfl rfl ?_
  refine aw_bipush (v := 10) dX10_does_74 (by decide) ?_
  refine aw_jge 288 dX10_does_76 (by decide) (fun c_1 => ?_) (fun c_1 => ?_)
  · have h := sw_if.f h c_1
    refine aw_iconst (v := 1) dX10_does_288 (by decide) ?_
    exact aw_zret rfl rfl dX10_does_289 ⟨rfl, _, rfl, h⟩
  · have h := sw_if.t h c_1
    refine aw_aload_n 0 dX10_does_79 rfl rfl ?_
    refine gf_X10_35 fl_X10_277 (lk131 hG) (lr131_35 hG) dX10_does_80 ?_
    refine aw_iload_n 1 dX10_does_83 rfl rfl ?_
    obtain ⟨hi_2, h⟩ := h
    refine aw_ild dX10_does_84 (lk148 hG) (ln148 hG) hi_2 ?_
    refine aw_iload_n 2 dX10_does_85 rfl rfl ?_
    refine aw_callS wv_X10_has (M_X10_has trivial  h) ml_X10_195 rfl rfl (Nat.le_of_ble_eq_true rfl) ⟨rfl, rfl⟩ ⟨Nat.le_of_ble_eq_true rfl, Nat.le_of_ble_eq_true rfl⟩ ⟨Nat.le_refl _, Nat.le_refl _⟩ dX10_does_86 (aw_ki fun r_3 I_4 J_5 h => ?_)
    refine aw_zne 95 dX10_does_89 (by decide) (fun c_6 => ?_) (fun c_6 => ?_)
    · have h := sw_if.f h c_6
      refine aw_aload_n 0 dX10_does_95 rfl rfl ?_
      refine gf_X10_34 fl_X10_268 (lk131 hG) (lr131_34 hG) dX10_does_96 ?_
      refine aw_iload_n 1 dX10_does_99 rfl rfl ?_
      obtain ⟨hi_7, h⟩ := h
      refine aw_ild dX10_does_100 (lk147 hG) (ln147 hG) hi_7 ?_
      refine aw_zne 112 dX10_does_101 (by decide) (fun c_8 => ?_) (fun c_8 => ?_)
      · have h := sw_if.f h c_8
        refine aw_aload_n 0 dX10_does_112 rfl rfl ?_
        refine gf_X10_34 fl_X10_268 (lk131 hG) (lr131_34 hG) dX10_does_113 ?_
        refine aw_iload_n 1 dX10_does_116 rfl rfl ?_
        obtain ⟨hi_9, h⟩ := h
        refine aw_ild dX10_does_117 (lk147 hG) (ln147 hG) hi_9 ?_
        refine aw_iconst (v := 1) dX10_does_118 (by decide) ?_
        refine aw_jne 130 dX10_does_119 (by decide) (fun c_10 => ?_) (fun c_10 => ?_)
        · have h := sw_if.f h c_10
          refine aw_aload_n 0 dX10_does_130 rfl rfl ?_
          refine aw_iload_n 2 dX10_does_131 rfl rfl ?_
          refine aw_callV wv_X10_isRider (M_X10_isRider hG  h) ml_X10_226 rfl (by decide) (lk131 hG) rfl rfl (Nat.le_of_ble_eq_true rfl) ⟨rfl, rfl⟩ ⟨Nat.le_of_ble_eq_true rfl, Nat.le_of_ble_eq_true rfl⟩ ⟨Nat.le_refl _, Nat.le_refl _⟩ dX10_does_132 (aw_ki fun r_11 I_12 J_13 h => ?_)
          refine aw_zeq 164 dX10_does_135 (by decide) (fun c_14 => ?_) (fun c_14 => ?_)
          · have h := sw_if.t h c_14
            refine aw_sub [0, 1, 2] rfl ?_
            exact t_X10_does_164 hG  hK73 h
          · have h := sw_if.f h c_14
            refine aw_aload_n 0 dX10_does_138 rfl rfl ?_
            refine gf_X10_36 fl_X10_280 (lk131 hG) (lr131_36 hG) dX10_does_139 ?_
            refine aw_iload_n 1 dX10_does_142 rfl rfl ?_
            obtain ⟨hi_15, h⟩ := h
            refine aw_ild dX10_does_143 (lk149 hG) (ln149 hG) hi_15 ?_
            refine aw_zlt 160 dX10_does_144 (by decide) (fun c_16 => ?_) (fun c_16 => ?_)
            · have h := sw_if.t h c_16
              refine aw_sub [0, 1, 2] rfl ?_
              exact t_X10_does_160 hG  hK73 h
            · have h := sw_if.f h c_16
              refine aw_aload_n 0 dX10_does_147 rfl rfl ?_
              refine aw_aload_n 0 dX10_does_148 rfl rfl ?_
              refine gf_X10_36 fl_X10_280 (lk131 hG) (lr131_36 hG) dX10_does_149 ?_
              refine aw_iload_n 1 dX10_does_152 rfl rfl ?_
              obtain ⟨hi_17, h⟩ := h
              refine aw_ild dX10_does_153 (lk149 hG) (ln149 hG) hi_17 ?_
              refine aw_callV wv_X10_isFloor (M_X10_isFloor hG  h) ml_X10_95 rfl (by decide) (lk131 hG) rfl rfl (Nat.le_of_ble_eq_true rfl) ⟨rfl, rfl⟩ ⟨Nat.le_of_ble_eq_true rfl, Nat.le_of_ble_eq_true rfl⟩ ⟨Nat.le_refl _, Nat.le_refl _⟩ dX10_does_154 (aw_ki fun r_18 I_19 J_20 h => ?_)
              refine aw_zeq 164 dX10_does_157 (by decide) (fun c_21 => ?_) (fun c_21 => ?_)
              · have h := sw_if.t h c_21
                refine aw_sub [0, 1, 2] rfl ?_
                exact t_X10_does_164 hG  hK73 h
              · have h := sw_if.f h c_21
                refine aw_sub [0, 1, 2] rfl ?_
                exact t_X10_does_160 hG  hK73 h
        · have h := sw_if.t h c_10
          refine aw_aload_n 0 dX10_does_122 rfl rfl ?_
          refine aw_iload_n 2 dX10_does_123 rfl rfl ?_
          refine aw_callV wv_X10_canLeave (M_X10_canLeave hG  h) ml_X10_258 rfl (by decide) (lk131 hG) rfl rfl (Nat.le_of_ble_eq_true rfl) ⟨rfl, rfl⟩ ⟨Nat.le_of_ble_eq_true rfl, Nat.le_of_ble_eq_true rfl⟩ ⟨Nat.le_refl _, Nat.le_refl _⟩ dX10_does_124 (aw_ki fun r_22 I_23 J_24 h => ?_)
          refine aw_goto 165 dX10_does_127 (by decide) ?_
          refine aw_sub [0, 1, 2] rfl ?_
          exact t_X10_does_165 hG  hK73 h
      · have h := sw_if.t h c_8
        refine aw_aload_n 0 dX10_does_104 rfl rfl ?_
        refine aw_iload_n 2 dX10_does_105 rfl rfl ?_
        refine aw_callV wv_X10_canEnter (M_X10_canEnter hG  h) ml_X10_248 rfl (by decide) (lk131 hG) rfl rfl (Nat.le_of_ble_eq_true rfl) ⟨rfl, rfl⟩ ⟨Nat.le_of_ble_eq_true rfl, Nat.le_of_ble_eq_true rfl⟩ ⟨Nat.le_refl _, Nat.le_refl _⟩ dX10_does_106 (aw_ki fun r_25 I_26 J_27 h => ?_)
        refine aw_goto 165 dX10_does_109 (by decide) ?_
        refine aw_sub [0, 1, 2] rfl ?_
        exact t_X10_does_165 hG  hK73 h
    · have h := sw_if.t h c_6
      refine aw_goto 282 dX10_does_92 (by decide) ?_
      refine aw_sub [0, 1, 2] rfl ?_
      exact t_X10_does_282 hG  hK73 h
set_option maxRecDepth 20000 in
theorem tl_X10_does_73 {l : Launch} {D : va_G} {cy : Nat → ClassId} {sz : Nat} {G : sw_G} (hG : sw_lay G)   {Q : Int32 → sw_I → sw_J → Prop} : ∀ (n : Nat) (x1 : Int32) (x2 : Int32) (I : sw_I) (J : sw_J), wl_X10_does_73   Q n x1 x2 I J → AW l D cy sz RX10 cX10_does 4 (some .boolean) false rm_X10_does 0 0 (sw_qi G Q) 0 0 G I J 73 [(0, .ref (sz + 131)), (1, .int x1), (2, .int x2)] [] := by
  intro n
  induction n with
  | zero => intro x1 x2 I J h; exact False.elim h
  | succ n ih => intro x1 x2 I J h; exact tb_X10_does_73 hG  ih h
set_option maxRecDepth 20000 in
theorem tb_X10_does_12 {l : Launch} {D : va_G} {cy : Nat → ClassId} {sz : Nat} {G : sw_G} (hG : sw_lay G)   {Q : Int32 → sw_I → sw_J → Prop} {K12 : Int32 → Int32 → sw_I → sw_J → Prop} (hK12 : ∀ (x1 : Int32) (x2 : Int32) (I : sw_I) (J : sw_J), K12 x1 x2 I J → AW l D cy sz RX10 cX10_does 4 (some .boolean) false rm_X10_does 0 0 (sw_qi G Q) 0 0 G I J 12 [(0, .ref (sz + 131)), (1, .int x1), (2, .int x2)] []) {x1 : Int32} {x2 : Int32} {I : sw_I} {J : sw_J} (h : wb_X10_does_12  K12 Q x1 x2 I J) : AW l D cy sz RX10 cX10_does 4 (some .boolean) false rm_X10_does 0 0 (sw_qi G Q) 0 0 G I J 12 [(0, .ref (sz + 131)), (1, .int x1), (2, .int x2)] [] := by
  unfold wb_X10_does_12 at h
  refine aw_iload_n 2 dX10_does_12 rfl rfl ?_
  refine aw_aload_n 0 dX10_does_13 rfl rfl ?_
  refine gf_X10_37 fl_X10_274 (lk131 hG) (lr131_37 hG) dX10_does_14 ?_
  refine aw_iload_n 1 dX10_does_17 rfl rfl ?_
  obtain ⟨hi_1, h⟩ := h
  refine aw_ild dX10_does_18 (lk150 hG) (ln150 hG) hi_1 ?_
  refine aw_jge 44 dX10_does_19 (by decide) (fun c_2 => ?_) (fun c_2 => ?_)
  · have h := sw_if.f h c_2
    refine aw_aload_n 0 dX10_does_44 rfl rfl ?_
    refine aw_dup dX10_does_45 rfl ?_
    refine gf_X10_40 fl_X10_283 (lk131 hG) dX10_does_46 ?_
    refine aw_aload_n 0 dX10_does_49 rfl rfl ?_
    refine gf_X10_37 fl_X10_274 (lk131 hG) (lr131_37 hG) dX10_does_50 ?_
    refine aw_iload_n 1 dX10_does_53 rfl rfl ?_
    obtain ⟨hi_3, h⟩ := h
    refine aw_ild dX10_does_54 (lk150 hG) (ln150 hG) hi_3 ?_
    refine aw_iadd dX10_does_55 ?_
    refine pf_X10_40 fl_X10_283 (lk131 hG) dX10_does_56 (aw_nameI fun I_4 e_5 => ?_)
    have h := h I_4 e_5
    refine aw_aload_n 0 dX10_does_59 rfl rfl ?_
    refine aw_dup dX10_does_60 rfl ?_
    refine gf_X10_39 fl_X10_286 (lk131 hG) dX10_does_61 ?_
    refine aw_iconst (v := 1) dX10_does_64 (by decide) ?_
    refine aw_iadd dX10_does_65 ?_
    refine pf_X10_39 fl_X10_286 (lk131 hG) dX10_does_66 (aw_nameI fun I_6 e_7 => ?_)
    have h := h I_6 e_7
    refine aw_iconst (v := 1) dX10_does_69 (by decide) ?_
    exact aw_zret rfl rfl dX10_does_70 ⟨rfl, _, rfl, h⟩
  · have h := sw_if.t h c_2
    refine aw_aload_n 0 dX10_does_22 rfl rfl ?_
    refine aw_aload_n 0 dX10_does_23 rfl rfl ?_
    refine gf_X10_9 fl_X10_79 (lk131 hG) (lr131_9 hG) dX10_does_24 ?_
    refine aw_aload_n 0 dX10_does_27 rfl rfl ?_
    refine gf_X10_9 fl_X10_79 (lk131 hG) (lr131_9 hG) dX10_does_28 ?_
    refine aw_bipush (v := 30) dX10_does_31 (by decide) ?_
    refine aw_ild dX10_does_33 (lk135 hG) (ln135 hG) (by unfold vp_in; decide) ?_
    refine aw_callV wv_X10_travels (M_X10_travels hG ⟨(lk135 hG), (ln135 hG)⟩ h) ml_X10_261 rfl (by decide) (lk131 hG) rfl rfl (Nat.le_of_ble_eq_true rfl) ⟨rfl, rfl⟩ ⟨Nat.le_of_ble_eq_true rfl, Nat.le_of_ble_eq_true rfl⟩ ⟨Nat.le_refl _, Nat.le_refl _⟩ dX10_does_34 (aw_ki fun r_9 I_10 J_11 h => ?_)
    refine aw_pop dX10_does_37 rfl ?_
    obtain ⟨y_12, e_13⟩ : ∃ q : Int32, q = x2 + 1 := ⟨_, rfl⟩
    have h := h y_12 e_13
    refine aw_iinc (lv' := [(2, .int y_12), (0, .ref (sz + 131)), (1, .int x1)]) 2 dX10_does_38 rfl (by rw [e_13]; rfl) (by decide) rfl ?_
    refine aw_goto 12 dX10_does_41 (by decide) ?_
    refine aw_sub [1, 2, 0] rfl ?_
    exact hK12 x1 y_12 I_10 J_11 h
set_option maxRecDepth 20000 in
theorem tl_X10_does_12 {l : Launch} {D : va_G} {cy : Nat → ClassId} {sz : Nat} {G : sw_G} (hG : sw_lay G)   {Q : Int32 → sw_I → sw_J → Prop} : ∀ (n : Nat) (x1 : Int32) (x2 : Int32) (I : sw_I) (J : sw_J), wl_X10_does_12   Q n x1 x2 I J → AW l D cy sz RX10 cX10_does 4 (some .boolean) false rm_X10_does 0 0 (sw_qi G Q) 0 0 G I J 12 [(0, .ref (sz + 131)), (1, .int x1), (2, .int x2)] [] := by
  intro n
  induction n with
  | zero => intro x1 x2 I J h; exact False.elim h
  | succ n ih => intro x1 x2 I J h; exact tb_X10_does_12 hG  ih h
set_option maxRecDepth 20000 in
theorem t_X10_does {l : Launch} {D : va_G} {cy : Nat → ClassId} {sz : Nat} {G : sw_G} (hG : sw_lay G)   {Q : Int32 → sw_I → sw_J → Prop} {x1 : Int32} {I : sw_I} {J : sw_J} (h : wp_X10_does x1 I J Q) : AW l D cy sz RX10 cX10_does 4 (some .boolean) false rm_X10_does 0 0 (sw_qi G Q) 0 0 G I J 0 [(0, .ref (sz + 131)), (1, .int x1)] [] := by
  unfold wp_X10_does at h
  refine aw_aload_n 0 dX10_does_0 rfl rfl ?_
  refine gf_X10_34 fl_X10_268 (lk131 hG) (lr131_34 hG) dX10_does_1 ?_
  refine aw_iload_n 1 dX10_does_4 rfl rfl ?_
  obtain ⟨hi_1, h⟩ := h
  refine aw_ild dX10_does_5 (lk147 hG) (ln147 hG) hi_1 ?_
  refine aw_iconst (v := 3) dX10_does_6 (by decide) ?_
  refine aw_jne 71 dX10_does_7 (by decide) (fun c_2 => ?_) (fun c_2 => ?_)
  · have h := sw_if.f h c_2
    refine aw_iconst (v := 0) dX10_does_71 (by decide) ?_
    refine aw_istore_n (lv' := [(2, .int 0), (0, .ref (sz + 131)), (1, .int x1)]) dX10_does_72 rfl (by decide) rfl ?_
    refine aw_sub [1, 2, 0] rfl ?_
    obtain ⟨n_3, h⟩ := h
    exact tl_X10_does_73 hG   n_3 x1 0 I J h
  · have h := sw_if.t h c_2
    refine aw_iconst (v := 0) dX10_does_10 (by decide) ?_
    refine aw_istore_n (lv' := [(2, .int 0), (0, .ref (sz + 131)), (1, .int x1)]) dX10_does_11 rfl (by decide) rfl ?_
    refine aw_sub [1, 2, 0] rfl ?_
    obtain ⟨n_4, h⟩ := h
    exact tl_X10_does_12 hG   n_4 x1 0 I J h
theorem M_X10_does {l : Launch} {D : va_G} {cy : Nat → ClassId} {sz : Nat} {G : sw_G} (hG : sw_lay G)   {Q : Int32 → sw_I → sw_J → Prop} {x1 : Int32} {I : sw_I} {J : sw_J} (h : wp_X10_does x1 I J Q) : Met l yX10_does (Cond.code yX10_does cX10_does 4 (some .boolean) :: sw_T) rm_X10_does (sw_Pc D cy sz [.ref (sz + 131), .int x1] G I J) (sw_Q D cy sz (sw_qi G Q)) 0 0 (fun q => sz ≤ q) :=
  sw_met (by decide) (fun q => by cases q) (Nat.le_of_ble_eq_true rfl) rfl (t_X10_does hG  h)
-- X10_day
abbrev rm_X10_day : Room := { frames := 7, cells := 0, slots := 0, locals := 163 }
def wB_X10_day_159   (Q : Int32 → sw_I → sw_J → Prop) (x5 : Int32) (s1 : Int32) (I : sw_I) (J : sw_J) : Prop :=
  wp_X10_flag s1 I J (fun r_1 I_2 J_3 => wp_X10_enters r_1.toInt64 I_2 J_3 (fun I_5 J_6 => Q x5 I_5 J_6))
def wB_X10_day_130   (Q : Int32 → sw_I → sw_J → Prop) (x5 : Int32) (I : sw_I) (J : sw_J) : Prop :=
  ∀ I_1 : sw_I, I_1 = sw_up I 131 1 (0 : Int32) → wp_X10_enters ((I_1 131 40).toInt64) I_1 J (fun I_4 J_5 => sw_if (x5 < (I_4 131 38)) (wB_X10_day_159   Q x5 1 I_4 J_5) (wB_X10_day_159   Q x5 0 I_4 J_5))
def wB_X10_day_119   (Q : Int32 → sw_I → sw_J → Prop) (x5 : Int32) (I : sw_I) (J : sw_J) : Prop :=
  sw_if (0 < (I 131 39)) (wp_X10_adds  I J (fun I_3 J_4 => wB_X10_day_130   Q x5 I_3 J_4)) (wB_X10_day_130   Q x5 I J)
def wb_X10_day_95  (K95 : Int32 → sw_I → sw_J → Prop) (Q : Int32 → sw_I → sw_J → Prop) (x5 : Int32) (I : sw_I) (J : sw_J) : Prop :=
  sw_if (x5 < (I 131 38)) (wp_X10_does x5 I J (fun r_2 I_3 J_4 => sw_if (r_2 = 0) (wB_X10_day_119   Q x5 I_3 J_4) (∀ y_6 : Int32, y_6 = x5 + 1 → K95 y_6 I_3 J_4))) (wB_X10_day_119   Q x5 I J)
def wl_X10_day_95   (Q : Int32 → sw_I → sw_J → Prop) : Nat → Int32 → sw_I → sw_J → Prop
  | 0 => fun _ _ _ => False
  | n + 1 => fun x5 I J => wb_X10_day_95  (wl_X10_day_95   Q n) Q x5 I J
def wB_X10_day_56  (K29 : Int32 → Int32 → Int32 → sw_I → sw_J → Prop) (Q : Int32 → sw_I → sw_J → Prop) (x1 : Int32) (x2 : Int32) (s0 : Int32) (I : sw_I) (J : sw_J) : Prop :=
  K29 x1 x2 s0 I J
def wB_X10_day_55  (K29 : Int32 → Int32 → Int32 → sw_I → sw_J → Prop) (Q : Int32 → sw_I → sw_J → Prop) (x1 : Int32) (x2 : Int32) (I : sw_I) (J : sw_J) : Prop :=
  wB_X10_day_56  K29 Q x1 x2 0 I J
def wb_X10_day_29  (K29 : Int32 → Int32 → Int32 → sw_I → sw_J → Prop) (Q : Int32 → sw_I → sw_J → Prop) (x1 : Int32) (x2 : Int32) (x3 : Int32) (I : sw_I) (J : sw_J) : Prop :=
  sw_if (x3 = 0) (wp_X10_faultOf x1 60 x2 I J (fun r_2 I_3 J_4 => sw_if (r_2 < 0) (Q r_2 I_3 J_4) (wp_X10_putsBy  I_3 J_4 (fun I_7 J_8 => ∀ I_9 : sw_I, I_9 = sw_up I_7 131 39 (0 : Int32) → ∀ I_11 : sw_I, I_11 = sw_up I_9 131 40 (0 : Int32) → ∃ n_13 : Nat, wl_X10_day_95   Q n_13 0 I_11 J_8)))) (wp_X10_readsAct  I J (fun r_14 I_15 J_16 => sw_if (r_14 = 0) (wB_X10_day_55  K29 Q x1 r_14 I_15 J_16) (wp_X10_takes 59 I_15 J_16 (fun r_18 I_19 J_20 => sw_if (r_18 = 0) (wB_X10_day_55  K29 Q x1 r_14 I_19 J_20) (wB_X10_day_56  K29 Q x1 r_14 1 I_19 J_20)))))
def wl_X10_day_29   (Q : Int32 → sw_I → sw_J → Prop) : Nat → Int32 → Int32 → Int32 → sw_I → sw_J → Prop
  | 0 => fun _ _ _ _ _ => False
  | n + 1 => fun x1 x2 x3 I J => wb_X10_day_29  (wl_X10_day_29   Q n) Q x1 x2 x3 I J
def wB_X10_day_28   (Q : Int32 → sw_I → sw_J → Prop) (x1 : Int32) (x2 : Int32) (s0 : Int32) (I : sw_I) (J : sw_J) : Prop :=
  ∃ n_1 : Nat, wl_X10_day_29   Q n_1 x1 x2 s0 I J
def wp_X10_day  (I : sw_I) (J : sw_J) (Q : Int32 → sw_I → sw_J → Prop) : Prop :=
  ∀ I_1 : sw_I, I_1 = sw_up I 131 0 (0 : Int32) → wp_X10_begins 60 I_1 J (fun r_3 I_4 J_5 => ∀ I_6 : sw_I, I_6 = sw_up I_4 131 38 (0 : Int32) → sw_if (0 < r_3) (wB_X10_day_28   Q r_3 1 1 I_6 J_5) (wB_X10_day_28   Q r_3 1 0 I_6 J_5))
set_option maxRecDepth 20000 in
theorem t_X10_day_159 {l : Launch} {D : va_G} {cy : Nat → ClassId} {sz : Nat} {G : sw_G} (hG : sw_lay G)   {Q : Int32 → sw_I → sw_J → Prop} {x5 : Int32} {s1 : Int32} {I : sw_I} {J : sw_J} (h : wB_X10_day_159   Q x5 s1 I J) : AW l D cy sz RX10 cX10_day 6 (some .int) false rm_X10_day 0 0 (sw_qi G Q) 0 0 G I J 159 [(5, .int x5)] [.int s1, .ref (sz + 131)] := by
  unfold wB_X10_day_159 at h
  refine aw_callS wv_X10_flag (M_X10_flag trivial  h) ml_X10_54 rfl rfl (Nat.le_of_ble_eq_true rfl) ⟨rfl, rfl⟩ ⟨Nat.le_of_ble_eq_true rfl, Nat.le_of_ble_eq_true rfl⟩ ⟨Nat.le_refl _, Nat.le_refl _⟩ dX10_day_159 (aw_ki fun r_1 I_2 J_3 h => ?_)
  refine aw_i2l dX10_day_162 ?_
  refine aw_callV wv_X10_enters (M_X10_enters hG  h) ml_X10_18 rfl (by decide) (lk131 hG) rfl rfl (Nat.le_of_ble_eq_true rfl) ⟨rfl, rfl⟩ ⟨Nat.le_of_ble_eq_true rfl, Nat.le_of_ble_eq_true rfl⟩ ⟨Nat.le_refl _, Nat.le_refl _⟩ dX10_day_163 (aw_kv fun I_5 J_6 h => ?_)
  refine aw_iload 0 dX10_day_166 rfl ?_
  exact aw_iret rfl dX10_day_168 ⟨rfl, _, rfl, h⟩
set_option maxRecDepth 20000 in
theorem t_X10_day_130 {l : Launch} {D : va_G} {cy : Nat → ClassId} {sz : Nat} {G : sw_G} (hG : sw_lay G)   {Q : Int32 → sw_I → sw_J → Prop} {x5 : Int32} {I : sw_I} {J : sw_J} (h : wB_X10_day_130   Q x5 I J) : AW l D cy sz RX10 cX10_day 6 (some .int) false rm_X10_day 0 0 (sw_qi G Q) 0 0 G I J 130 [(0, .ref (sz + 131)), (5, .int x5)] [] := by
  unfold wB_X10_day_130 at h
  refine aw_aload_n 0 dX10_day_130 rfl rfl ?_
  refine aw_iconst (v := 0) dX10_day_131 (by decide) ?_
  refine pf_X10_1 fl_X10_15 (lk131 hG) dX10_day_132 (aw_nameI fun I_1 e_2 => ?_)
  have h := h I_1 e_2
  refine aw_aload_n 0 dX10_day_135 rfl rfl ?_
  refine aw_aload_n 0 dX10_day_136 rfl rfl ?_
  refine gf_X10_40 fl_X10_283 (lk131 hG) dX10_day_137 ?_
  refine aw_i2l dX10_day_140 ?_
  refine aw_callV wv_X10_enters (M_X10_enters hG  h) ml_X10_18 rfl (by decide) (lk131 hG) rfl rfl (Nat.le_of_ble_eq_true rfl) ⟨rfl, rfl⟩ ⟨Nat.le_of_ble_eq_true rfl, Nat.le_of_ble_eq_true rfl⟩ ⟨Nat.le_refl _, Nat.le_refl _⟩ dX10_day_141 (aw_kv fun I_4 J_5 h => ?_)
  refine aw_aload_n 0 dX10_day_144 rfl rfl ?_
  refine aw_iload 1 dX10_day_145 rfl ?_
  refine aw_aload_n 0 dX10_day_147 rfl rfl ?_
  refine gf_X10_38 fl_X10_271 (lk131 hG) dX10_day_148 ?_
  refine aw_jge 158 dX10_day_151 (by decide) (fun c_6 => ?_) (fun c_6 => ?_)
  · have h := sw_if.f h c_6
    refine aw_iconst (v := 0) dX10_day_158 (by decide) ?_
    refine aw_sub [1] rfl ?_
    exact t_X10_day_159 hG   h
  · have h := sw_if.t h c_6
    refine aw_iconst (v := 1) dX10_day_154 (by decide) ?_
    refine aw_goto 159 dX10_day_155 (by decide) ?_
    refine aw_sub [1] rfl ?_
    exact t_X10_day_159 hG   h
set_option maxRecDepth 20000 in
theorem t_X10_day_119 {l : Launch} {D : va_G} {cy : Nat → ClassId} {sz : Nat} {G : sw_G} (hG : sw_lay G)   {Q : Int32 → sw_I → sw_J → Prop} {x5 : Int32} {I : sw_I} {J : sw_J} (h : wB_X10_day_119   Q x5 I J) : AW l D cy sz RX10 cX10_day 6 (some .int) false rm_X10_day 0 0 (sw_qi G Q) 0 0 G I J 119 [(0, .ref (sz + 131)), (5, .int x5)] [] := by
  unfold wB_X10_day_119 at h
  refine aw_aload_n 0 dX10_day_119 rfl rfl ?_
  refine gf_X10_39 fl_X10_286 (lk131 hG) dX10_day_120 ?_
  refine aw_zle 130 dX10_day_123 (by decide) (fun c_1 => ?_) (fun c_1 => ?_)
  · have h := sw_if.f h c_1
    refine aw_sub [0, 1] rfl ?_
    exact t_X10_day_130 hG   h
  · have h := sw_if.t h c_1
    refine aw_aload_n 0 dX10_day_126 rfl rfl ?_
    refine aw_callV wv_X10_adds (M_X10_adds hG  h) ml_X10_255 rfl (by decide) (lk131 hG) rfl rfl (Nat.le_of_ble_eq_true rfl) ⟨rfl, rfl⟩ ⟨Nat.le_of_ble_eq_true rfl, Nat.le_of_ble_eq_true rfl⟩ ⟨Nat.le_refl _, Nat.le_refl _⟩ dX10_day_127 (aw_kv fun I_3 J_4 h => ?_)
    refine aw_sub [0, 1] rfl ?_
    exact t_X10_day_130 hG   h
set_option maxRecDepth 20000 in
theorem tb_X10_day_95 {l : Launch} {D : va_G} {cy : Nat → ClassId} {sz : Nat} {G : sw_G} (hG : sw_lay G)   {Q : Int32 → sw_I → sw_J → Prop} {K95 : Int32 → sw_I → sw_J → Prop} (hK95 : ∀ (x5 : Int32) (I : sw_I) (J : sw_J), K95 x5 I J → AW l D cy sz RX10 cX10_day 6 (some .int) false rm_X10_day 0 0 (sw_qi G Q) 0 0 G I J 95 [(0, .ref (sz + 131)), (5, .int x5)] []) {x5 : Int32} {I : sw_I} {J : sw_J} (h : wb_X10_day_95  K95 Q x5 I J) : AW l D cy sz RX10 cX10_day 6 (some .int) false rm_X10_day 0 0 (sw_qi G Q) 0 0 G I J 95 [(0, .ref (sz + 131)), (5, .int x5)] [] := by
  unfold wb_X10_day_95 at h
  refine aw_iload 1 dX10_day_95 rfl ?_
  refine aw_aload_n 0 dX10_day_97 rfl rfl ?_
  refine gf_X10_38 fl_X10_271 (lk131 hG) dX10_day_98 ?_
  refine aw_jge 119 dX10_day_101 (by decide) (fun c_1 => ?_) (fun c_1 => ?_)
  · have h := sw_if.f h c_1
    refine aw_sub [0, 1] rfl ?_
    exact t_X10_day_119 hG   h
  · have h := sw_if.t h c_1
    refine aw_aload_n 0 dX10_day_104 rfl rfl ?_
    refine aw_iload 1 dX10_day_105 rfl ?_
    refine aw_callV wv_X10_does (M_X10_does hG  h) ml_X10_292 rfl (by decide) (lk131 hG) rfl rfl (Nat.le_of_ble_eq_true rfl) ⟨rfl, rfl⟩ ⟨Nat.le_of_ble_eq_true rfl, Nat.le_of_ble_eq_true rfl⟩ ⟨Nat.le_refl _, Nat.le_refl _⟩ dX10_day_107 (aw_ki fun r_2 I_3 J_4 h => ?_)
    refine aw_zeq 119 dX10_day_110 (by decide) (fun c_5 => ?_) (fun c_5 => ?_)
    · have h := sw_if.t h c_5
      refine aw_sub [0, 1] rfl ?_
      exact t_X10_day_119 hG   h
    · have h := sw_if.f h c_5
      obtain ⟨y_6, e_7⟩ : ∃ q : Int32, q = x5 + 1 := ⟨_, rfl⟩
      have h := h y_6 e_7
      refine aw_iinc (lv' := [(5, .int y_6), (0, .ref (sz + 131))]) 1 dX10_day_113 rfl (by rw [e_7]; rfl) (by decide) rfl ?_
      refine aw_goto 95 dX10_day_116 (by decide) ?_
      refine aw_sub [1, 0] rfl ?_
      exact hK95 y_6 I_3 J_4 h
set_option maxRecDepth 20000 in
theorem tl_X10_day_95 {l : Launch} {D : va_G} {cy : Nat → ClassId} {sz : Nat} {G : sw_G} (hG : sw_lay G)   {Q : Int32 → sw_I → sw_J → Prop} : ∀ (n : Nat) (x5 : Int32) (I : sw_I) (J : sw_J), wl_X10_day_95   Q n x5 I J → AW l D cy sz RX10 cX10_day 6 (some .int) false rm_X10_day 0 0 (sw_qi G Q) 0 0 G I J 95 [(0, .ref (sz + 131)), (5, .int x5)] [] := by
  intro n
  induction n with
  | zero => intro x5 I J h; exact False.elim h
  | succ n ih => intro x5 I J h; exact tb_X10_day_95 hG  ih h
set_option maxRecDepth 20000 in
theorem t_X10_day_56 {l : Launch} {D : va_G} {cy : Nat → ClassId} {sz : Nat} {G : sw_G} (hG : sw_lay G)   {Q : Int32 → sw_I → sw_J → Prop} {K29 : Int32 → Int32 → Int32 → sw_I → sw_J → Prop} (hK29 : ∀ (x1 : Int32) (x2 : Int32) (x3 : Int32) (I : sw_I) (J : sw_J), K29 x1 x2 x3 I J → AW l D cy sz RX10 cX10_day 6 (some .int) false rm_X10_day 0 0 (sw_qi G Q) 0 0 G I J 29 [(0, .ref (sz + 131)), (1, .int x1), (2, .int x2), (3, .int x3)] []) {x1 : Int32} {x2 : Int32} {s0 : Int32} {I : sw_I} {J : sw_J} (h : wB_X10_day_56  K29 Q x1 x2 s0 I J) : AW l D cy sz RX10 cX10_day 6 (some .int) false rm_X10_day 0 0 (sw_qi G Q) 0 0 G I J 56 [(0, .ref (sz + 131)), (1, .int x1), (2, .int x2)] [.int s0] := by
  unfold wB_X10_day_56 at h
  refine aw_istore_n (lv' := [(3, .int s0), (0, .ref (sz + 131)), (1, .int x1), (2, .int x2)]) dX10_day_56 rfl (by decide) rfl ?_
  refine aw_goto 29 dX10_day_57 (by decide) ?_
  refine aw_sub [1, 2, 3, 0] rfl ?_
  exact hK29 x1 x2 s0 I J h
set_option maxRecDepth 20000 in
theorem t_X10_day_55 {l : Launch} {D : va_G} {cy : Nat → ClassId} {sz : Nat} {G : sw_G} (hG : sw_lay G)   {Q : Int32 → sw_I → sw_J → Prop} {K29 : Int32 → Int32 → Int32 → sw_I → sw_J → Prop} (hK29 : ∀ (x1 : Int32) (x2 : Int32) (x3 : Int32) (I : sw_I) (J : sw_J), K29 x1 x2 x3 I J → AW l D cy sz RX10 cX10_day 6 (some .int) false rm_X10_day 0 0 (sw_qi G Q) 0 0 G I J 29 [(0, .ref (sz + 131)), (1, .int x1), (2, .int x2), (3, .int x3)] []) {x1 : Int32} {x2 : Int32} {I : sw_I} {J : sw_J} (h : wB_X10_day_55  K29 Q x1 x2 I J) : AW l D cy sz RX10 cX10_day 6 (some .int) false rm_X10_day 0 0 (sw_qi G Q) 0 0 G I J 55 [(0, .ref (sz + 131)), (1, .int x1), (2, .int x2)] [] := by
  unfold wB_X10_day_55 at h
  refine aw_iconst (v := 0) dX10_day_55 (by decide) ?_
  refine aw_sub [0, 1, 2] rfl ?_
  exact t_X10_day_56 hG  hK29 h
set_option maxRecDepth 20000 in
theorem tb_X10_day_29 {l : Launch} {D : va_G} {cy : Nat → ClassId} {sz : Nat} {G : sw_G} (hG : sw_lay G)   {Q : Int32 → sw_I → sw_J → Prop} {K29 : Int32 → Int32 → Int32 → sw_I → sw_J → Prop} (hK29 : ∀ (x1 : Int32) (x2 : Int32) (x3 : Int32) (I : sw_I) (J : sw_J), K29 x1 x2 x3 I J → AW l D cy sz RX10 cX10_day 6 (some .int) false rm_X10_day 0 0 (sw_qi G Q) 0 0 G I J 29 [(0, .ref (sz + 131)), (1, .int x1), (2, .int x2), (3, .int x3)] []) {x1 : Int32} {x2 : Int32} {x3 : Int32} {I : sw_I} {J : sw_J} (h : wb_X10_day_29  K29 Q x1 x2 x3 I J) : AW l D cy sz RX10 cX10_day 6 (some .int) false rm_X10_day 0 0 (sw_qi G Q) 0 0 G I J 29 [(0, .ref (sz + 131)), (1, .int x1), (2, .int x2), (3, .int x3)] [] := by
  unfold wb_X10_day_29 at h
  refine aw_iload_n 3 dX10_day_29 rfl rfl ?_
  refine aw_zeq 60 dX10_day_30 (by decide) (fun c_1 => ?_) (fun c_1 => ?_)
  · have h := sw_if.t h c_1
    refine aw_aload_n 0 dX10_day_60 rfl rfl ?_
    refine aw_iload_n 1 dX10_day_61 rfl rfl ?_
    refine aw_bipush (v := 60) dX10_day_62 (by decide) ?_
    refine aw_iload_n 2 dX10_day_64 rfl rfl ?_
    refine aw_callV wv_X10_faultOf (M_X10_faultOf hG  h) ml_X10_127 rfl (by decide) (lk131 hG) rfl rfl (Nat.le_of_ble_eq_true rfl) ⟨rfl, rfl⟩ ⟨Nat.le_of_ble_eq_true rfl, Nat.le_of_ble_eq_true rfl⟩ ⟨Nat.le_refl _, Nat.le_refl _⟩ dX10_day_65 (aw_ki fun r_2 I_3 J_4 h => ?_)
    refine aw_istore (lv' := [(4, .int r_2), (0, .ref (sz + 131)), (1, .int x1), (2, .int x2), (3, .int x3)]) dX10_day_68 (by decide) rfl ?_
    refine aw_iload 0 dX10_day_70 rfl ?_
    refine aw_zge 78 dX10_day_72 (by decide) (fun c_5 => ?_) (fun c_5 => ?_)
    · have h := sw_if.f h c_5
      refine aw_aload_n 1 dX10_day_78 rfl rfl ?_
      refine aw_callV wv_X10_putsBy (M_X10_putsBy hG  h) ml_X10_251 rfl (by decide) (lk131 hG) rfl rfl (Nat.le_of_ble_eq_true rfl) ⟨rfl, rfl⟩ ⟨Nat.le_of_ble_eq_true rfl, Nat.le_of_ble_eq_true rfl⟩ ⟨Nat.le_refl _, Nat.le_refl _⟩ dX10_day_79 (aw_kv fun I_7 J_8 h => ?_)
      refine aw_aload_n 1 dX10_day_82 rfl rfl ?_
      refine aw_iconst (v := 0) dX10_day_83 (by decide) ?_
      refine pf_X10_39 fl_X10_286 (lk131 hG) dX10_day_84 (aw_nameI fun I_9 e_10 => ?_)
      have h := h I_9 e_10
      refine aw_aload_n 1 dX10_day_87 rfl rfl ?_
      refine aw_iconst (v := 0) dX10_day_88 (by decide) ?_
      refine pf_X10_40 fl_X10_283 (lk131 hG) dX10_day_89 (aw_nameI fun I_11 e_12 => ?_)
      have h := h I_11 e_12
      refine aw_iconst (v := 0) dX10_day_92 (by decide) ?_
      refine aw_istore (lv' := [(5, .int 0), (4, .int r_2), (0, .ref (sz + 131)), (1, .int x1), (2, .int x2), (3, .int x3)]) dX10_day_93 (by decide) rfl ?_
      refine aw_sub [2, 0] rfl ?_
      obtain ⟨n_13, h⟩ := h
      exact tl_X10_day_95 hG   n_13 0 I_11 J_8 h
    · have h := sw_if.t h c_5
      refine aw_iload 0 dX10_day_75 rfl ?_
      exact aw_iret rfl dX10_day_77 ⟨rfl, _, rfl, h⟩
  · have h := sw_if.f h c_1
    refine aw_aload_n 0 dX10_day_33 rfl rfl ?_
    refine aw_callV wv_X10_readsAct (M_X10_readsAct hG  h) ml_X10_289 rfl (by decide) (lk131 hG) rfl rfl (Nat.le_of_ble_eq_true rfl) ⟨rfl, rfl⟩ ⟨Nat.le_of_ble_eq_true rfl, Nat.le_of_ble_eq_true rfl⟩ ⟨Nat.le_refl _, Nat.le_refl _⟩ dX10_day_34 (aw_ki fun r_14 I_15 J_16 h => ?_)
    refine aw_istore_n (lv' := [(2, .int r_14), (0, .ref (sz + 131)), (1, .int x1), (3, .int x3)]) dX10_day_37 rfl (by decide) rfl ?_
    refine aw_iload_n 0 dX10_day_38 rfl rfl ?_
    refine aw_zeq 55 dX10_day_39 (by decide) (fun c_17 => ?_) (fun c_17 => ?_)
    · have h := sw_if.t h c_17
      refine aw_sub [1, 2, 0] rfl ?_
      exact t_X10_day_55 hG  hK29 h
    · have h := sw_if.f h c_17
      refine aw_aload_n 1 dX10_day_42 rfl rfl ?_
      refine aw_bipush (v := 59) dX10_day_43 (by decide) ?_
      refine aw_callV wv_X10_takes (M_X10_takes hG  h) ml_X10_108 rfl (by decide) (lk131 hG) rfl rfl (Nat.le_of_ble_eq_true rfl) ⟨rfl, rfl⟩ ⟨Nat.le_of_ble_eq_true rfl, Nat.le_of_ble_eq_true rfl⟩ ⟨Nat.le_refl _, Nat.le_refl _⟩ dX10_day_45 (aw_ki fun r_18 I_19 J_20 h => ?_)
      refine aw_zeq 55 dX10_day_48 (by decide) (fun c_21 => ?_) (fun c_21 => ?_)
      · have h := sw_if.t h c_21
        refine aw_sub [1, 2, 0] rfl ?_
        exact t_X10_day_55 hG  hK29 h
      · have h := sw_if.f h c_21
        refine aw_iconst (v := 1) dX10_day_51 (by decide) ?_
        refine aw_goto 56 dX10_day_52 (by decide) ?_
        refine aw_sub [1, 2, 0] rfl ?_
        exact t_X10_day_56 hG  hK29 h
set_option maxRecDepth 20000 in
theorem tl_X10_day_29 {l : Launch} {D : va_G} {cy : Nat → ClassId} {sz : Nat} {G : sw_G} (hG : sw_lay G)   {Q : Int32 → sw_I → sw_J → Prop} : ∀ (n : Nat) (x1 : Int32) (x2 : Int32) (x3 : Int32) (I : sw_I) (J : sw_J), wl_X10_day_29   Q n x1 x2 x3 I J → AW l D cy sz RX10 cX10_day 6 (some .int) false rm_X10_day 0 0 (sw_qi G Q) 0 0 G I J 29 [(0, .ref (sz + 131)), (1, .int x1), (2, .int x2), (3, .int x3)] [] := by
  intro n
  induction n with
  | zero => intro x1 x2 x3 I J h; exact False.elim h
  | succ n ih => intro x1 x2 x3 I J h; exact tb_X10_day_29 hG  ih h
set_option maxRecDepth 20000 in
theorem t_X10_day_28 {l : Launch} {D : va_G} {cy : Nat → ClassId} {sz : Nat} {G : sw_G} (hG : sw_lay G)   {Q : Int32 → sw_I → sw_J → Prop} {x1 : Int32} {x2 : Int32} {s0 : Int32} {I : sw_I} {J : sw_J} (h : wB_X10_day_28   Q x1 x2 s0 I J) : AW l D cy sz RX10 cX10_day 6 (some .int) false rm_X10_day 0 0 (sw_qi G Q) 0 0 G I J 28 [(0, .ref (sz + 131)), (1, .int x1), (2, .int x2)] [.int s0] := by
  unfold wB_X10_day_28 at h
  refine aw_istore_n (lv' := [(3, .int s0), (0, .ref (sz + 131)), (1, .int x1), (2, .int x2)]) dX10_day_28 rfl (by decide) rfl ?_
  refine aw_sub [1, 2, 3, 0] rfl ?_
  obtain ⟨n_1, h⟩ := h
  exact tl_X10_day_29 hG   n_1 x1 x2 s0 I J h
set_option maxRecDepth 20000 in
theorem t_X10_day {l : Launch} {D : va_G} {cy : Nat → ClassId} {sz : Nat} {G : sw_G} (hG : sw_lay G)   {Q : Int32 → sw_I → sw_J → Prop}  {I : sw_I} {J : sw_J} (h : wp_X10_day  I J Q) : AW l D cy sz RX10 cX10_day 6 (some .int) false rm_X10_day 0 0 (sw_qi G Q) 0 0 G I J 0 [(0, .ref (sz + 131))] [] := by
  unfold wp_X10_day at h
  refine aw_aload_n 0 dX10_day_0 rfl rfl ?_
  refine aw_iconst (v := 0) dX10_day_1 (by decide) ?_
  refine pf_X10_0 fl_X10_3 (lk131 hG) dX10_day_2 (aw_nameI fun I_1 e_2 => ?_)
  have h := h I_1 e_2
  refine aw_aload_n 0 dX10_day_5 rfl rfl ?_
  refine aw_bipush (v := 60) dX10_day_6 (by decide) ?_
  refine aw_callV wv_X10_begins (M_X10_begins hG  h) ml_X10_120 rfl (by decide) (lk131 hG) rfl rfl (Nat.le_of_ble_eq_true rfl) ⟨rfl, rfl⟩ ⟨Nat.le_of_ble_eq_true rfl, Nat.le_of_ble_eq_true rfl⟩ ⟨Nat.le_refl _, Nat.le_refl _⟩ dX10_day_8 (aw_ki fun r_3 I_4 J_5 h => ?_)
  refine aw_istore_n (lv' := [(1, .int r_3), (0, .ref (sz + 131))]) dX10_day_11 rfl (by decide) rfl ?_
  refine aw_aload_n 1 dX10_day_12 rfl rfl ?_
  refine aw_iconst (v := 0) dX10_day_13 (by decide) ?_
  refine pf_X10_38 fl_X10_271 (lk131 hG) dX10_day_14 (aw_nameI fun I_6 e_7 => ?_)
  have h := h I_6 e_7
  refine aw_iconst (v := 1) dX10_day_17 (by decide) ?_
  refine aw_istore_n (lv' := [(2, .int 1), (1, .int r_3), (0, .ref (sz + 131))]) dX10_day_18 rfl (by decide) rfl ?_
  refine aw_iload_n 1 dX10_day_19 rfl rfl ?_
  refine aw_zle 27 dX10_day_20 (by decide) (fun c_8 => ?_) (fun c_8 => ?_)
  · have h := sw_if.f h c_8
    refine aw_iconst (v := 0) dX10_day_27 (by decide) ?_
    refine aw_sub [2, 1, 0] rfl ?_
    exact t_X10_day_28 hG   h
  · have h := sw_if.t h c_8
    refine aw_iconst (v := 1) dX10_day_23 (by decide) ?_
    refine aw_goto 28 dX10_day_24 (by decide) ?_
    refine aw_sub [2, 1, 0] rfl ?_
    exact t_X10_day_28 hG   h
theorem M_X10_day {l : Launch} {D : va_G} {cy : Nat → ClassId} {sz : Nat} {G : sw_G} (hG : sw_lay G)   {Q : Int32 → sw_I → sw_J → Prop}  {I : sw_I} {J : sw_J} (h : wp_X10_day  I J Q) : Met l yX10_day (Cond.code yX10_day cX10_day 6 (some .int) :: sw_T) rm_X10_day (sw_Pc D cy sz [.ref (sz + 131)] G I J) (sw_Q D cy sz (sw_qi G Q)) 0 0 (fun q => sz ≤ q) :=
  sw_met (by decide) (fun q => by cases q) (Nat.le_of_ble_eq_true rfl) rfl (t_X10_day hG  h)
-- X10_stop
abbrev rm_X10_stop : Room := { frames := 5, cells := 0, slots := 0, locals := 115 }
def wp_X10_stop  (I : sw_I) (J : sw_J) (Q : Int32 → sw_I → sw_J → Prop) : Prop :=
  ∀ I_1 : sw_I, I_1 = sw_up I 131 0 (0 : Int32) → wp_X10_stopOf 135 33 (I_1 135 (30 : Int32).toNatClampNeg) I_1 J (fun r_4 I_5 J_6 => Q r_4 I_5 J_6)
set_option maxRecDepth 20000 in
theorem t_X10_stop {l : Launch} {D : va_G} {cy : Nat → ClassId} {sz : Nat} {G : sw_G} (hG : sw_lay G)   {Q : Int32 → sw_I → sw_J → Prop}  {I : sw_I} {J : sw_J} (h : wp_X10_stop  I J Q) : AW l D cy sz RX10 cX10_stop 1 (some .int) false rm_X10_stop 0 0 (sw_qi G Q) 0 0 G I J 0 [(0, .ref (sz + 131))] [] := by
  unfold wp_X10_stop at h
  refine aw_aload_n 0 dX10_stop_0 rfl rfl ?_
  refine aw_iconst (v := 0) dX10_stop_1 (by decide) ?_
  refine pf_X10_0 fl_X10_3 (lk131 hG) dX10_stop_2 (aw_nameI fun I_1 e_2 => ?_)
  have h := h I_1 e_2
  refine aw_aload_n 0 dX10_stop_5 rfl rfl ?_
  refine aw_aload_n 0 dX10_stop_6 rfl rfl ?_
  refine gf_X10_9 fl_X10_79 (lk131 hG) (lr131_9 hG) dX10_stop_7 ?_
  refine aw_aload_n 0 dX10_stop_10 rfl rfl ?_
  refine gf_X10_9 fl_X10_79 (lk131 hG) (lr131_9 hG) dX10_stop_11 ?_
  refine aw_bipush (v := 30) dX10_stop_14 (by decide) ?_
  refine aw_ild dX10_stop_16 (lk135 hG) (ln135 hG) (by unfold vp_in; decide) ?_
  refine aw_callV wv_X10_stopOf (M_X10_stopOf hG ⟨(lk135 hG), (ln135 hG)⟩ h) ml_X10_222 rfl (by decide) (lk131 hG) rfl rfl (Nat.le_of_ble_eq_true rfl) ⟨rfl, rfl⟩ ⟨Nat.le_of_ble_eq_true rfl, Nat.le_of_ble_eq_true rfl⟩ ⟨Nat.le_refl _, Nat.le_refl _⟩ dX10_stop_17 (aw_ki fun r_4 I_5 J_6 h => ?_)
  exact aw_iret rfl dX10_stop_20 ⟨rfl, _, rfl, h⟩
theorem M_X10_stop {l : Launch} {D : va_G} {cy : Nat → ClassId} {sz : Nat} {G : sw_G} (hG : sw_lay G)   {Q : Int32 → sw_I → sw_J → Prop}  {I : sw_I} {J : sw_J} (h : wp_X10_stop  I J Q) : Met l yX10_stop (Cond.code yX10_stop cX10_stop 1 (some .int) :: sw_T) rm_X10_stop (sw_Pc D cy sz [.ref (sz + 131)] G I J) (sw_Q D cy sz (sw_qi G Q)) 0 0 (fun q => sz ≤ q) :=
  sw_met (by decide) (fun q => by cases q) (Nat.le_of_ble_eq_true rfl) rfl (t_X10_stop hG  h)
-- X10_goes
abbrev rm_X10_goes : Room := { frames := 5, cells := 0, slots := 0, locals := 115 }
def wb_X10_goes_40  (K40 : Int32 → Int32 → sw_I → sw_J → Prop) (Q : Int32 → sw_I → sw_J → Prop) (x2 : Int32) (x3 : Int32) (I : sw_I) (J : sw_J) : Prop :=
  sw_if (x3 < (I 131 3)) (wp_X10_lawFor x3 I J (fun r_2 I_3 J_4 => wp_X10_enters r_2.toInt64 I_3 J_4 (fun I_6 J_7 => ∀ y_8 : Int32, y_8 = x3 + 1 → K40 x2 y_8 I_6 J_7))) (Q x2 I J)
def wl_X10_goes_40   (Q : Int32 → sw_I → sw_J → Prop) : Nat → Int32 → Int32 → sw_I → sw_J → Prop
  | 0 => fun _ _ _ _ => False
  | n + 1 => fun x2 x3 I J => wb_X10_goes_40  (wl_X10_goes_40   Q n) Q x2 x3 I J
def wp_X10_goes (x1 : Int32) (I : sw_I) (J : sw_J) (Q : Int32 → sw_I → sw_J → Prop) : Prop :=
  ∀ I_1 : sw_I, I_1 = sw_up I 131 0 (0 : Int32) → wp_X10_there 135 33 I_1 J (fun r_3 I_4 J_5 => sw_if ((x1 &&& (r_3 ^^^ (-1 : Int32))) = 0) (wp_X10_stopOf 135 33 x1 I_4 J_5 (fun r_7 I_8 J_9 => ∀ I_10 : sw_I, I_10 = sw_up I_8 131 1 (0 : Int32) → ∃ n_12 : Nat, wl_X10_goes_40   Q n_12 r_7 0 I_10 J_9)) (Q (-2 : Int32) I_4 J_5))
set_option maxRecDepth 20000 in
theorem tb_X10_goes_40 {l : Launch} {D : va_G} {cy : Nat → ClassId} {sz : Nat} {G : sw_G} (hG : sw_lay G)   {Q : Int32 → sw_I → sw_J → Prop} {K40 : Int32 → Int32 → sw_I → sw_J → Prop} (hK40 : ∀ (x2 : Int32) (x3 : Int32) (I : sw_I) (J : sw_J), K40 x2 x3 I J → AW l D cy sz RX10 cX10_goes 4 (some .int) false rm_X10_goes 0 0 (sw_qi G Q) 0 0 G I J 40 [(0, .ref (sz + 131)), (2, .int x2), (3, .int x3)] []) {x2 : Int32} {x3 : Int32} {I : sw_I} {J : sw_J} (h : wb_X10_goes_40  K40 Q x2 x3 I J) : AW l D cy sz RX10 cX10_goes 4 (some .int) false rm_X10_goes 0 0 (sw_qi G Q) 0 0 G I J 40 [(0, .ref (sz + 131)), (2, .int x2), (3, .int x3)] [] := by
  unfold wb_X10_goes_40 at h
  refine aw_iload_n 2 dX10_goes_40 rfl rfl ?_
  refine aw_aload_n 0 dX10_goes_41 rfl rfl ?_
  refine gf_X10_3 fl_X10_22 (lk131 hG) dX10_goes_42 ?_
  refine aw_jge 64 dX10_goes_45 (by decide) (fun c_1 => ?_) (fun c_1 => ?_)
  · have h := sw_if.f h c_1
    refine aw_iload_n 1 dX10_goes_64 rfl rfl ?_
    exact aw_iret rfl dX10_goes_65 ⟨rfl, _, rfl, h⟩
  · have h := sw_if.t h c_1
    refine aw_aload_n 0 dX10_goes_48 rfl rfl ?_
    refine aw_aload_n 0 dX10_goes_49 rfl rfl ?_
    refine aw_iload_n 2 dX10_goes_50 rfl rfl ?_
    refine aw_callV wv_X10_lawFor (M_X10_lawFor hG  h) ml_X10_212 rfl (by decide) (lk131 hG) rfl rfl (Nat.le_of_ble_eq_true rfl) ⟨rfl, rfl⟩ ⟨Nat.le_of_ble_eq_true rfl, Nat.le_of_ble_eq_true rfl⟩ ⟨Nat.le_refl _, Nat.le_refl _⟩ dX10_goes_51 (aw_ki fun r_2 I_3 J_4 h => ?_)
    refine aw_i2l dX10_goes_54 ?_
    refine aw_callV wv_X10_enters (M_X10_enters hG  h) ml_X10_18 rfl (by decide) (lk131 hG) rfl rfl (Nat.le_of_ble_eq_true rfl) ⟨rfl, rfl⟩ ⟨Nat.le_of_ble_eq_true rfl, Nat.le_of_ble_eq_true rfl⟩ ⟨Nat.le_refl _, Nat.le_refl _⟩ dX10_goes_55 (aw_kv fun I_6 J_7 h => ?_)
    obtain ⟨y_8, e_9⟩ : ∃ q : Int32, q = x3 + 1 := ⟨_, rfl⟩
    have h := h y_8 e_9
    refine aw_iinc (lv' := [(3, .int y_8), (0, .ref (sz + 131)), (2, .int x2)]) 2 dX10_goes_58 rfl (by rw [e_9]; rfl) (by decide) rfl ?_
    refine aw_goto 40 dX10_goes_61 (by decide) ?_
    refine aw_sub [1, 2, 0] rfl ?_
    exact hK40 x2 y_8 I_6 J_7 h
set_option maxRecDepth 20000 in
theorem tl_X10_goes_40 {l : Launch} {D : va_G} {cy : Nat → ClassId} {sz : Nat} {G : sw_G} (hG : sw_lay G)   {Q : Int32 → sw_I → sw_J → Prop} : ∀ (n : Nat) (x2 : Int32) (x3 : Int32) (I : sw_I) (J : sw_J), wl_X10_goes_40   Q n x2 x3 I J → AW l D cy sz RX10 cX10_goes 4 (some .int) false rm_X10_goes 0 0 (sw_qi G Q) 0 0 G I J 40 [(0, .ref (sz + 131)), (2, .int x2), (3, .int x3)] [] := by
  intro n
  induction n with
  | zero => intro x2 x3 I J h; exact False.elim h
  | succ n ih => intro x2 x3 I J h; exact tb_X10_goes_40 hG  ih h
set_option maxRecDepth 20000 in
theorem t_X10_goes {l : Launch} {D : va_G} {cy : Nat → ClassId} {sz : Nat} {G : sw_G} (hG : sw_lay G)   {Q : Int32 → sw_I → sw_J → Prop} {x1 : Int32} {I : sw_I} {J : sw_J} (h : wp_X10_goes x1 I J Q) : AW l D cy sz RX10 cX10_goes 4 (some .int) false rm_X10_goes 0 0 (sw_qi G Q) 0 0 G I J 0 [(0, .ref (sz + 131)), (1, .int x1)] [] := by
  unfold wp_X10_goes at h
  refine aw_aload_n 0 dX10_goes_0 rfl rfl ?_
  refine aw_iconst (v := 0) dX10_goes_1 (by decide) ?_
  refine pf_X10_0 fl_X10_3 (lk131 hG) dX10_goes_2 (aw_nameI fun I_1 e_2 => ?_)
  have h := h I_1 e_2
  refine aw_iload_n 1 dX10_goes_5 rfl rfl ?_
  refine aw_aload_n 0 dX10_goes_6 rfl rfl ?_
  refine aw_aload_n 0 dX10_goes_7 rfl rfl ?_
  refine gf_X10_9 fl_X10_79 (lk131 hG) (lr131_9 hG) dX10_goes_8 ?_
  refine aw_callV wv_X10_there (M_X10_there hG ⟨(lk135 hG), (ln135 hG)⟩ h) ml_X10_295 rfl (by decide) (lk131 hG) rfl rfl (Nat.le_of_ble_eq_true rfl) ⟨rfl, rfl⟩ ⟨Nat.le_of_ble_eq_true rfl, Nat.le_of_ble_eq_true rfl⟩ ⟨Nat.le_refl _, Nat.le_refl _⟩ dX10_goes_11 (aw_ki fun r_3 I_4 J_5 h => ?_)
  refine aw_iconst (v := (-1)) dX10_goes_14 (by decide) ?_
  refine aw_ixor dX10_goes_15 ?_
  refine aw_iand dX10_goes_16 ?_
  refine aw_zeq 23 dX10_goes_17 (by decide) (fun c_6 => ?_) (fun c_6 => ?_)
  · have h := sw_if.t h c_6
    refine aw_aload_n 0 dX10_goes_23 rfl rfl ?_
    refine aw_aload_n 0 dX10_goes_24 rfl rfl ?_
    refine gf_X10_9 fl_X10_79 (lk131 hG) (lr131_9 hG) dX10_goes_25 ?_
    refine aw_iload_n 1 dX10_goes_28 rfl rfl ?_
    refine aw_callV wv_X10_stopOf (M_X10_stopOf hG ⟨(lk135 hG), (ln135 hG)⟩ h) ml_X10_222 rfl (by decide) (lk131 hG) rfl rfl (Nat.le_of_ble_eq_true rfl) ⟨rfl, rfl⟩ ⟨Nat.le_of_ble_eq_true rfl, Nat.le_of_ble_eq_true rfl⟩ ⟨Nat.le_refl _, Nat.le_refl _⟩ dX10_goes_29 (aw_ki fun r_7 I_8 J_9 h => ?_)
    refine aw_istore_n (lv' := [(2, .int r_7), (0, .ref (sz + 131)), (1, .int x1)]) dX10_goes_32 rfl (by decide) rfl ?_
    refine aw_aload_n 1 dX10_goes_33 rfl rfl ?_
    refine aw_iconst (v := 0) dX10_goes_34 (by decide) ?_
    refine pf_X10_1 fl_X10_15 (lk131 hG) dX10_goes_35 (aw_nameI fun I_10 e_11 => ?_)
    have h := h I_10 e_11
    refine aw_iconst (v := 0) dX10_goes_38 (by decide) ?_
    refine aw_istore_n (lv' := [(3, .int 0), (2, .int r_7), (0, .ref (sz + 131)), (1, .int x1)]) dX10_goes_39 rfl (by decide) rfl ?_
    refine aw_sub [2, 1, 0] rfl ?_
    obtain ⟨n_12, h⟩ := h
    exact tl_X10_goes_40 hG   n_12 r_7 0 I_10 J_9 h
  · have h := sw_if.f h c_6
    refine aw_bipush (v := (-2)) dX10_goes_20 (by decide) ?_
    exact aw_iret rfl dX10_goes_22 ⟨rfl, _, rfl, h⟩
theorem M_X10_goes {l : Launch} {D : va_G} {cy : Nat → ClassId} {sz : Nat} {G : sw_G} (hG : sw_lay G)   {Q : Int32 → sw_I → sw_J → Prop} {x1 : Int32} {I : sw_I} {J : sw_J} (h : wp_X10_goes x1 I J Q) : Met l yX10_goes (Cond.code yX10_goes cX10_goes 4 (some .int) :: sw_T) rm_X10_goes (sw_Pc D cy sz [.ref (sz + 131), .int x1] G I J) (sw_Q D cy sz (sw_qi G Q)) 0 0 (fun q => sz ≤ q) :=
  sw_met (by decide) (fun q => by cases q) (Nat.le_of_ble_eq_true rfl) rfl (t_X10_goes hG  h)
-- X10_worthOf
abbrev rm_X10_worthOf : Room := { frames := 3, cells := 0, slots := 0, locals := 67 }
def wp_X10_worthOf (x1 : Int32) (I : sw_I) (J : sw_J) (Q : Int32 → sw_I → sw_J → Prop) : Prop :=
  ∀ I_1 : sw_I, I_1 = sw_up I 131 0 (0 : Int32) → wp_X10_isFloor x1 I_1 J (fun r_3 I_4 J_5 => sw_if (r_3 = 0) (wp_X10_refuse  I_4 J_5 (fun r_14 I_15 J_16 => Q r_14 I_15 J_16)) (wp_X10_looks 135 33 (I_4 135 (30 : Int32).toNatClampNeg) I_4 J_5 (fun I_9 J_10 => wp_X10_lawFor x1 I_9 J_10 (fun r_11 I_12 J_13 => Q r_11 I_12 J_13))))
set_option maxRecDepth 20000 in
theorem t_X10_worthOf {l : Launch} {D : va_G} {cy : Nat → ClassId} {sz : Nat} {G : sw_G} (hG : sw_lay G)   {Q : Int32 → sw_I → sw_J → Prop} {x1 : Int32} {I : sw_I} {J : sw_J} (h : wp_X10_worthOf x1 I J Q) : AW l D cy sz RX10 cX10_worthOf 2 (some .int) false rm_X10_worthOf 0 0 (sw_qi G Q) 0 0 G I J 0 [(0, .ref (sz + 131)), (1, .int x1)] [] := by
  unfold wp_X10_worthOf at h
  refine aw_aload_n 0 dX10_worthOf_0 rfl rfl ?_
  refine aw_iconst (v := 0) dX10_worthOf_1 (by decide) ?_
  refine pf_X10_0 fl_X10_3 (lk131 hG) dX10_worthOf_2 (aw_nameI fun I_1 e_2 => ?_)
  have h := h I_1 e_2
  refine aw_aload_n 0 dX10_worthOf_5 rfl rfl ?_
  refine aw_iload_n 1 dX10_worthOf_6 rfl rfl ?_
  refine aw_callV wv_X10_isFloor (M_X10_isFloor hG  h) ml_X10_95 rfl (by decide) (lk131 hG) rfl rfl (Nat.le_of_ble_eq_true rfl) ⟨rfl, rfl⟩ ⟨Nat.le_of_ble_eq_true rfl, Nat.le_of_ble_eq_true rfl⟩ ⟨Nat.le_refl _, Nat.le_refl _⟩ dX10_worthOf_7 (aw_ki fun r_3 I_4 J_5 h => ?_)
  refine aw_zne 18 dX10_worthOf_10 (by decide) (fun c_6 => ?_) (fun c_6 => ?_)
  · have h := sw_if.f h c_6
    refine aw_aload_n 0 dX10_worthOf_18 rfl rfl ?_
    refine aw_aload_n 0 dX10_worthOf_19 rfl rfl ?_
    refine gf_X10_9 fl_X10_79 (lk131 hG) (lr131_9 hG) dX10_worthOf_20 ?_
    refine aw_aload_n 0 dX10_worthOf_23 rfl rfl ?_
    refine gf_X10_9 fl_X10_79 (lk131 hG) (lr131_9 hG) dX10_worthOf_24 ?_
    refine aw_bipush (v := 30) dX10_worthOf_27 (by decide) ?_
    refine aw_ild dX10_worthOf_29 (lk135 hG) (ln135 hG) (by unfold vp_in; decide) ?_
    refine aw_callV wv_X10_looks (M_X10_looks hG ⟨(lk135 hG), (ln135 hG)⟩ h) ml_X10_215 rfl (by decide) (lk131 hG) rfl rfl (Nat.le_of_ble_eq_true rfl) ⟨rfl, rfl⟩ ⟨Nat.le_of_ble_eq_true rfl, Nat.le_of_ble_eq_true rfl⟩ ⟨Nat.le_refl _, Nat.le_refl _⟩ dX10_worthOf_30 (aw_kv fun I_9 J_10 h => ?_)
    refine aw_aload_n 0 dX10_worthOf_33 rfl rfl ?_
    refine aw_iload_n 1 dX10_worthOf_34 rfl rfl ?_
    refine aw_callV wv_X10_lawFor (M_X10_lawFor hG  h) ml_X10_212 rfl (by decide) (lk131 hG) rfl rfl (Nat.le_of_ble_eq_true rfl) ⟨rfl, rfl⟩ ⟨Nat.le_of_ble_eq_true rfl, Nat.le_of_ble_eq_true rfl⟩ ⟨Nat.le_refl _, Nat.le_refl _⟩ dX10_worthOf_35 (aw_ki fun r_11 I_12 J_13 h => ?_)
    exact aw_iret rfl dX10_worthOf_38 ⟨rfl, _, rfl, h⟩
  · have h := sw_if.t h c_6
    refine aw_aload_n 0 dX10_worthOf_13 rfl rfl ?_
    refine aw_callV wv_X10_refuse (M_X10_refuse hG  h) ml_X10_231 rfl (by decide) (lk131 hG) rfl rfl (Nat.le_of_ble_eq_true rfl) ⟨rfl, rfl⟩ ⟨Nat.le_of_ble_eq_true rfl, Nat.le_of_ble_eq_true rfl⟩ ⟨Nat.le_refl _, Nat.le_refl _⟩ dX10_worthOf_14 (aw_ki fun r_14 I_15 J_16 h => ?_)
    exact aw_iret rfl dX10_worthOf_17 ⟨rfl, _, rfl, h⟩
theorem M_X10_worthOf {l : Launch} {D : va_G} {cy : Nat → ClassId} {sz : Nat} {G : sw_G} (hG : sw_lay G)   {Q : Int32 → sw_I → sw_J → Prop} {x1 : Int32} {I : sw_I} {J : sw_J} (h : wp_X10_worthOf x1 I J Q) : Met l yX10_worthOf (Cond.code yX10_worthOf cX10_worthOf 2 (some .int) :: sw_T) rm_X10_worthOf (sw_Pc D cy sz [.ref (sz + 131), .int x1] G I J) (sw_Q D cy sz (sw_qi G Q)) 0 0 (fun q => sz ≤ q) :=
  sw_met (by decide) (fun q => by cases q) (Nat.le_of_ble_eq_true rfl) rfl (t_X10_worthOf hG  h)
-- X10_can
abbrev rm_X10_can : Room := { frames := 5, cells := 0, slots := 0, locals := 115 }
def wB_X10_can_124  (K88 : Int32 → Int32 → sw_I → sw_J → Prop) (Q : Int32 → sw_I → sw_J → Prop) (x3 : Int32) (s0 : Int32) (s1 : Int32) (I : sw_I) (J : sw_J) : Prop :=
  ∀ y_1 : Int32, y_1 = s0 ||| s1 → ∀ y_3 : Int32, y_3 = x3 + 1 → K88 y_1 y_3 I J
def wb_X10_can_88  (K88 : Int32 → Int32 → sw_I → sw_J → Prop) (Q : Int32 → sw_I → sw_J → Prop) (x2 : Int32) (x3 : Int32) (I : sw_I) (J : sw_J) : Prop :=
  sw_if (x3 < (I 131 3)) (vp_in x3 9 ∧ wp_X10_enters ((I 151 x3.toNatClampNeg).toInt64) I J (fun I_4 J_5 => vp_in x3 9 ∧ sw_if (0 < (I_4 151 x3.toNatClampNeg)) (wB_X10_can_124  K88 Q x3 x2 ((1 : Int32) <<< (x3 &&& 31)) I_4 J_5) (wB_X10_can_124  K88 Q x3 x2 0 I_4 J_5))) (Q x2 I J)
def wl_X10_can_88   (Q : Int32 → sw_I → sw_J → Prop) : Nat → Int32 → Int32 → sw_I → sw_J → Prop
  | 0 => fun _ _ _ _ => False
  | n + 1 => fun x2 x3 I J => wb_X10_can_88  (wl_X10_can_88   Q n) Q x2 x3 I J
def wB_X10_can_73  (K37 : Int32 → Int32 → sw_I → sw_J → Prop) (Q : Int32 → sw_I → sw_J → Prop) (x1 : Int32) (x2 : Int32) (I : sw_I) (J : sw_J) : Prop :=
  ∀ y_1 : Int32, y_1 = x2 + 1 → K37 x1 y_1 I J
def wb_X10_can_37  (K37 : Int32 → Int32 → sw_I → sw_J → Prop) (Q : Int32 → sw_I → sw_J → Prop) (x1 : Int32) (x2 : Int32) (I : sw_I) (J : sw_J) : Prop :=
  sw_if (x2 < ((1 : Int32) <<< ((I 131 4) &&& 31))) (sw_if ((x2 &&& (x1 ^^^ (-1 : Int32))) = 0) (wp_X10_stopOf 135 33 x2 I J (fun r_6 I_7 J_8 => vp_in r_6 9 ∧ vp_in r_6 9 ∧ ∀ I_11 : sw_I, I_11 = sw_up I_7 151 r_6.toNatClampNeg ((I_7 151 r_6.toNatClampNeg) + (1 : Int32)) → wB_X10_can_73  K37 Q x1 x2 I_11 J_8)) (wB_X10_can_73  K37 Q x1 x2 I J)) (∀ I_2 : sw_I, I_2 = sw_up I 131 1 (0 : Int32) → ∃ n_4 : Nat, wl_X10_can_88   Q n_4 0 0 I_2 J)
def wl_X10_can_37   (Q : Int32 → sw_I → sw_J → Prop) : Nat → Int32 → Int32 → sw_I → sw_J → Prop
  | 0 => fun _ _ _ _ => False
  | n + 1 => fun x1 x2 I J => wb_X10_can_37  (wl_X10_can_37   Q n) Q x1 x2 I J
def wb_X10_can_7  (K7 : Int32 → sw_I → sw_J → Prop) (Q : Int32 → sw_I → sw_J → Prop) (x1 : Int32) (I : sw_I) (J : sw_J) : Prop :=
  sw_if (x1 < (9 : Int32)) (vp_in x1 9 ∧ ∀ I_7 : sw_I, I_7 = sw_up I 151 x1.toNatClampNeg (0 : Int32) → ∀ y_9 : Int32, y_9 = x1 + 1 → K7 y_9 I_7 J) (wp_X10_there 135 33 I J (fun r_2 I_3 J_4 => ∃ n_5 : Nat, wl_X10_can_37   Q n_5 r_2 0 I_3 J_4))
def wl_X10_can_7   (Q : Int32 → sw_I → sw_J → Prop) : Nat → Int32 → sw_I → sw_J → Prop
  | 0 => fun _ _ _ => False
  | n + 1 => fun x1 I J => wb_X10_can_7  (wl_X10_can_7   Q n) Q x1 I J
def wp_X10_can  (I : sw_I) (J : sw_J) (Q : Int32 → sw_I → sw_J → Prop) : Prop :=
  ∀ I_1 : sw_I, I_1 = sw_up I 131 0 (0 : Int32) → ∃ n_3 : Nat, wl_X10_can_7   Q n_3 0 I_1 J
set_option maxRecDepth 20000 in
theorem t_X10_can_124 {l : Launch} {D : va_G} {cy : Nat → ClassId} {sz : Nat} {G : sw_G} (hG : sw_lay G)   {Q : Int32 → sw_I → sw_J → Prop} {K88 : Int32 → Int32 → sw_I → sw_J → Prop} (hK88 : ∀ (x2 : Int32) (x3 : Int32) (I : sw_I) (J : sw_J), K88 x2 x3 I J → AW l D cy sz RX10 cX10_can 4 (some .int) false rm_X10_can 0 0 (sw_qi G Q) 0 0 G I J 88 [(0, .ref (sz + 131)), (2, .int x2), (3, .int x3)] []) {x3 : Int32} {s0 : Int32} {s1 : Int32} {I : sw_I} {J : sw_J} (h : wB_X10_can_124  K88 Q x3 s0 s1 I J) : AW l D cy sz RX10 cX10_can 4 (some .int) false rm_X10_can 0 0 (sw_qi G Q) 0 0 G I J 124 [(0, .ref (sz + 131)), (3, .int x3)] [.int s1, .int s0] := by
  unfold wB_X10_can_124 at h
  refine aw_ior dX10_can_124 ?_
  refine aw_topi (fun y_1 e_2 => ?_)
  have h := h y_1 e_2
  refine aw_istore_n (lv' := [(2, .int y_1), (0, .ref (sz + 131)), (3, .int x3)]) dX10_can_125 rfl (by decide) rfl ?_
  obtain ⟨y_3, e_4⟩ : ∃ q : Int32, q = x3 + 1 := ⟨_, rfl⟩
  have h := h y_3 e_4
  refine aw_iinc (lv' := [(3, .int y_3), (2, .int y_1), (0, .ref (sz + 131))]) 2 dX10_can_126 rfl (by rw [e_4]; rfl) (by decide) rfl ?_
  refine aw_goto 88 dX10_can_129 (by decide) ?_
  refine aw_sub [2, 1, 0] rfl ?_
  exact hK88 y_1 y_3 I J h
set_option maxRecDepth 20000 in
theorem tb_X10_can_88 {l : Launch} {D : va_G} {cy : Nat → ClassId} {sz : Nat} {G : sw_G} (hG : sw_lay G)   {Q : Int32 → sw_I → sw_J → Prop} {K88 : Int32 → Int32 → sw_I → sw_J → Prop} (hK88 : ∀ (x2 : Int32) (x3 : Int32) (I : sw_I) (J : sw_J), K88 x2 x3 I J → AW l D cy sz RX10 cX10_can 4 (some .int) false rm_X10_can 0 0 (sw_qi G Q) 0 0 G I J 88 [(0, .ref (sz + 131)), (2, .int x2), (3, .int x3)] []) {x2 : Int32} {x3 : Int32} {I : sw_I} {J : sw_J} (h : wb_X10_can_88  K88 Q x2 x3 I J) : AW l D cy sz RX10 cX10_can 4 (some .int) false rm_X10_can 0 0 (sw_qi G Q) 0 0 G I J 88 [(0, .ref (sz + 131)), (2, .int x2), (3, .int x3)] [] := by
  unfold wb_X10_can_88 at h
  refine aw_iload_n 2 dX10_can_88 rfl rfl ?_
  refine aw_aload_n 0 dX10_can_89 rfl rfl ?_
  refine gf_X10_3 fl_X10_22 (lk131 hG) dX10_can_90 ?_
  refine aw_jge 132 dX10_can_93 (by decide) (fun c_1 => ?_) (fun c_1 => ?_)
  · have h := sw_if.f h c_1
    refine aw_iload_n 1 dX10_can_132 rfl rfl ?_
    exact aw_iret rfl dX10_can_133 ⟨rfl, _, rfl, h⟩
  · have h := sw_if.t h c_1
    refine aw_aload_n 0 dX10_can_96 rfl rfl ?_
    refine aw_aload_n 0 dX10_can_97 rfl rfl ?_
    refine gf_X10_41 fl_X10_299 (lk131 hG) (lr131_41 hG) dX10_can_98 ?_
    refine aw_iload_n 2 dX10_can_101 rfl rfl ?_
    obtain ⟨hi_2, h⟩ := h
    refine aw_ild dX10_can_102 (lk151 hG) (ln151 hG) hi_2 ?_
    refine aw_i2l dX10_can_103 ?_
    refine aw_callV wv_X10_enters (M_X10_enters hG  h) ml_X10_18 rfl (by decide) (lk131 hG) rfl rfl (Nat.le_of_ble_eq_true rfl) ⟨rfl, rfl⟩ ⟨Nat.le_of_ble_eq_true rfl, Nat.le_of_ble_eq_true rfl⟩ ⟨Nat.le_refl _, Nat.le_refl _⟩ dX10_can_104 (aw_kv fun I_4 J_5 h => ?_)
    refine aw_iload_n 1 dX10_can_107 rfl rfl ?_
    refine aw_aload_n 0 dX10_can_108 rfl rfl ?_
    refine gf_X10_41 fl_X10_299 (lk131 hG) (lr131_41 hG) dX10_can_109 ?_
    refine aw_iload_n 2 dX10_can_112 rfl rfl ?_
    obtain ⟨hi_6, h⟩ := h
    refine aw_ild dX10_can_113 (lk151 hG) (ln151 hG) hi_6 ?_
    refine aw_zle 123 dX10_can_114 (by decide) (fun c_7 => ?_) (fun c_7 => ?_)
    · have h := sw_if.f h c_7
      refine aw_iconst (v := 0) dX10_can_123 (by decide) ?_
      refine aw_sub [0, 2] rfl ?_
      exact t_X10_can_124 hG  hK88 h
    · have h := sw_if.t h c_7
      refine aw_iconst (v := 1) dX10_can_117 (by decide) ?_
      refine aw_iload_n 2 dX10_can_118 rfl rfl ?_
      refine aw_ishl dX10_can_119 ?_
      refine aw_goto 124 dX10_can_120 (by decide) ?_
      refine aw_sub [0, 2] rfl ?_
      exact t_X10_can_124 hG  hK88 h
set_option maxRecDepth 20000 in
theorem tl_X10_can_88 {l : Launch} {D : va_G} {cy : Nat → ClassId} {sz : Nat} {G : sw_G} (hG : sw_lay G)   {Q : Int32 → sw_I → sw_J → Prop} : ∀ (n : Nat) (x2 : Int32) (x3 : Int32) (I : sw_I) (J : sw_J), wl_X10_can_88   Q n x2 x3 I J → AW l D cy sz RX10 cX10_can 4 (some .int) false rm_X10_can 0 0 (sw_qi G Q) 0 0 G I J 88 [(0, .ref (sz + 131)), (2, .int x2), (3, .int x3)] [] := by
  intro n
  induction n with
  | zero => intro x2 x3 I J h; exact False.elim h
  | succ n ih => intro x2 x3 I J h; exact tb_X10_can_88 hG  ih h
set_option maxRecDepth 20000 in
theorem t_X10_can_73 {l : Launch} {D : va_G} {cy : Nat → ClassId} {sz : Nat} {G : sw_G} (hG : sw_lay G)   {Q : Int32 → sw_I → sw_J → Prop} {K37 : Int32 → Int32 → sw_I → sw_J → Prop} (hK37 : ∀ (x1 : Int32) (x2 : Int32) (I : sw_I) (J : sw_J), K37 x1 x2 I J → AW l D cy sz RX10 cX10_can 4 (some .int) false rm_X10_can 0 0 (sw_qi G Q) 0 0 G I J 37 [(0, .ref (sz + 131)), (1, .int x1), (2, .int x2)] []) {x1 : Int32} {x2 : Int32} {I : sw_I} {J : sw_J} (h : wB_X10_can_73  K37 Q x1 x2 I J) : AW l D cy sz RX10 cX10_can 4 (some .int) false rm_X10_can 0 0 (sw_qi G Q) 0 0 G I J 73 [(0, .ref (sz + 131)), (1, .int x1), (2, .int x2)] [] := by
  unfold wB_X10_can_73 at h
  obtain ⟨y_1, e_2⟩ : ∃ q : Int32, q = x2 + 1 := ⟨_, rfl⟩
  have h := h y_1 e_2
  refine aw_iinc (lv' := [(2, .int y_1), (0, .ref (sz + 131)), (1, .int x1)]) 2 dX10_can_73 rfl (by rw [e_2]; rfl) (by decide) rfl ?_
  refine aw_goto 37 dX10_can_76 (by decide) ?_
  refine aw_sub [1, 2, 0] rfl ?_
  exact hK37 x1 y_1 I J h
set_option maxRecDepth 20000 in
theorem tb_X10_can_37 {l : Launch} {D : va_G} {cy : Nat → ClassId} {sz : Nat} {G : sw_G} (hG : sw_lay G)   {Q : Int32 → sw_I → sw_J → Prop} {K37 : Int32 → Int32 → sw_I → sw_J → Prop} (hK37 : ∀ (x1 : Int32) (x2 : Int32) (I : sw_I) (J : sw_J), K37 x1 x2 I J → AW l D cy sz RX10 cX10_can 4 (some .int) false rm_X10_can 0 0 (sw_qi G Q) 0 0 G I J 37 [(0, .ref (sz + 131)), (1, .int x1), (2, .int x2)] []) {x1 : Int32} {x2 : Int32} {I : sw_I} {J : sw_J} (h : wb_X10_can_37  K37 Q x1 x2 I J) : AW l D cy sz RX10 cX10_can 4 (some .int) false rm_X10_can 0 0 (sw_qi G Q) 0 0 G I J 37 [(0, .ref (sz + 131)), (1, .int x1), (2, .int x2)] [] := by
  unfold wb_X10_can_37 at h
  refine aw_iload_n 2 dX10_can_37 rfl rfl ?_
  refine aw_iconst (v := 1) dX10_can_38 (by decide) ?_
  refine aw_aload_n 0 dX10_can_39 rfl rfl ?_
  refine gf_X10_4 fl_X10_29 (lk131 hG) dX10_can_40 ?_
  refine aw_ishl dX10_can_43 ?_
  refine aw_jge 79 dX10_can_44 (by decide) (fun c_1 => ?_) (fun c_1 => ?_)
  · have h := sw_if.f h c_1
    refine aw_iconst (v := 0) dX10_can_79 (by decide) ?_
    refine aw_istore_n (lv' := [(2, .int 0), (0, .ref (sz + 131)), (1, .int x1)]) dX10_can_80 rfl (by decide) rfl ?_
    refine aw_aload_n 1 dX10_can_81 rfl rfl ?_
    refine aw_iconst (v := 0) dX10_can_82 (by decide) ?_
    refine pf_X10_1 fl_X10_15 (lk131 hG) dX10_can_83 (aw_nameI fun I_2 e_3 => ?_)
    have h := h I_2 e_3
    refine aw_iconst (v := 0) dX10_can_86 (by decide) ?_
    refine aw_istore_n (lv' := [(3, .int 0), (2, .int 0), (0, .ref (sz + 131)), (1, .int x1)]) dX10_can_87 rfl (by decide) rfl ?_
    refine aw_sub [2, 1, 0] rfl ?_
    obtain ⟨n_4, h⟩ := h
    exact tl_X10_can_88 hG   n_4 0 0 I_2 J h
  · have h := sw_if.t h c_1
    refine aw_iload_n 2 dX10_can_47 rfl rfl ?_
    refine aw_iload_n 1 dX10_can_48 rfl rfl ?_
    refine aw_iconst (v := (-1)) dX10_can_49 (by decide) ?_
    refine aw_ixor dX10_can_50 ?_
    refine aw_iand dX10_can_51 ?_
    refine aw_zne 73 dX10_can_52 (by decide) (fun c_5 => ?_) (fun c_5 => ?_)
    · have h := sw_if.f h c_5
      refine aw_sub [0, 1, 2] rfl ?_
      exact t_X10_can_73 hG  hK37 h
    · have h := sw_if.t h c_5
      refine aw_aload_n 0 dX10_can_55 rfl rfl ?_
      refine gf_X10_41 fl_X10_299 (lk131 hG) (lr131_41 hG) dX10_can_56 ?_
      refine aw_aload_n 0 dX10_can_59 rfl rfl ?_
      refine aw_aload_n 0 dX10_can_60 rfl rfl ?_
      refine gf_X10_9 fl_X10_79 (lk131 hG) (lr131_9 hG) dX10_can_61 ?_
      refine aw_iload_n 2 dX10_can_64 rfl rfl ?_
      refine aw_callV wv_X10_stopOf (M_X10_stopOf hG ⟨(lk135 hG), (ln135 hG)⟩ h) ml_X10_222 rfl (by decide) (lk131 hG) rfl rfl (Nat.le_of_ble_eq_true rfl) ⟨rfl, rfl⟩ ⟨Nat.le_of_ble_eq_true rfl, Nat.le_of_ble_eq_true rfl⟩ ⟨Nat.le_refl _, Nat.le_refl _⟩ dX10_can_65 (aw_ki fun r_6 I_7 J_8 h => ?_)
      refine aw_dup2 dX10_can_68 rfl rfl ?_
      obtain ⟨hi_9, h⟩ := h
      refine aw_ild dX10_can_69 (lk151 hG) (ln151 hG) hi_9 ?_
      refine aw_iconst (v := 1) dX10_can_70 (by decide) ?_
      refine aw_iadd dX10_can_71 ?_
      obtain ⟨hi_10, h⟩ := h
      refine aw_ist dX10_can_72 (lk151 hG) (ln151 hG) hi_10 (aw_nameI fun I_11 e_12 => ?_)
      have h := h I_11 e_12
      refine aw_sub [0, 1, 2] rfl ?_
      exact t_X10_can_73 hG  hK37 h
set_option maxRecDepth 20000 in
theorem tl_X10_can_37 {l : Launch} {D : va_G} {cy : Nat → ClassId} {sz : Nat} {G : sw_G} (hG : sw_lay G)   {Q : Int32 → sw_I → sw_J → Prop} : ∀ (n : Nat) (x1 : Int32) (x2 : Int32) (I : sw_I) (J : sw_J), wl_X10_can_37   Q n x1 x2 I J → AW l D cy sz RX10 cX10_can 4 (some .int) false rm_X10_can 0 0 (sw_qi G Q) 0 0 G I J 37 [(0, .ref (sz + 131)), (1, .int x1), (2, .int x2)] [] := by
  intro n
  induction n with
  | zero => intro x1 x2 I J h; exact False.elim h
  | succ n ih => intro x1 x2 I J h; exact tb_X10_can_37 hG  ih h
set_option maxRecDepth 20000 in
theorem tb_X10_can_7 {l : Launch} {D : va_G} {cy : Nat → ClassId} {sz : Nat} {G : sw_G} (hG : sw_lay G)   {Q : Int32 → sw_I → sw_J → Prop} {K7 : Int32 → sw_I → sw_J → Prop} (hK7 : ∀ (x1 : Int32) (I : sw_I) (J : sw_J), K7 x1 I J → AW l D cy sz RX10 cX10_can 4 (some .int) false rm_X10_can 0 0 (sw_qi G Q) 0 0 G I J 7 [(0, .ref (sz + 131)), (1, .int x1)] []) {x1 : Int32} {I : sw_I} {J : sw_J} (h : wb_X10_can_7  K7 Q x1 I J) : AW l D cy sz RX10 cX10_can 4 (some .int) false rm_X10_can 0 0 (sw_qi G Q) 0 0 G I J 7 [(0, .ref (sz + 131)), (1, .int x1)] [] := by
  unfold wb_X10_can_7 at h
  refine aw_iload_n 1 dX10_can_7 rfl rfl ?_
  refine aw_bipush (v := 9) dX10_can_8 (by decide) ?_
  refine aw_jge 26 dX10_can_10 (by decide) (fun c_1 => ?_) (fun c_1 => ?_)
  · have h := sw_if.f h c_1
    refine aw_aload_n 0 dX10_can_26 rfl rfl ?_
    refine aw_aload_n 0 dX10_can_27 rfl rfl ?_
    refine gf_X10_9 fl_X10_79 (lk131 hG) (lr131_9 hG) dX10_can_28 ?_
    refine aw_callV wv_X10_there (M_X10_there hG ⟨(lk135 hG), (ln135 hG)⟩ h) ml_X10_295 rfl (by decide) (lk131 hG) rfl rfl (Nat.le_of_ble_eq_true rfl) ⟨rfl, rfl⟩ ⟨Nat.le_of_ble_eq_true rfl, Nat.le_of_ble_eq_true rfl⟩ ⟨Nat.le_refl _, Nat.le_refl _⟩ dX10_can_31 (aw_ki fun r_2 I_3 J_4 h => ?_)
    refine aw_istore_n (lv' := [(1, .int r_2), (0, .ref (sz + 131))]) dX10_can_34 rfl (by decide) rfl ?_
    refine aw_iconst (v := 0) dX10_can_35 (by decide) ?_
    refine aw_istore_n (lv' := [(2, .int 0), (1, .int r_2), (0, .ref (sz + 131))]) dX10_can_36 rfl (by decide) rfl ?_
    refine aw_sub [2, 1, 0] rfl ?_
    obtain ⟨n_5, h⟩ := h
    exact tl_X10_can_37 hG   n_5 r_2 0 I_3 J_4 h
  · have h := sw_if.t h c_1
    refine aw_aload_n 0 dX10_can_13 rfl rfl ?_
    refine gf_X10_41 fl_X10_299 (lk131 hG) (lr131_41 hG) dX10_can_14 ?_
    refine aw_iload_n 1 dX10_can_17 rfl rfl ?_
    refine aw_iconst (v := 0) dX10_can_18 (by decide) ?_
    obtain ⟨hi_6, h⟩ := h
    refine aw_ist dX10_can_19 (lk151 hG) (ln151 hG) hi_6 (aw_nameI fun I_7 e_8 => ?_)
    have h := h I_7 e_8
    obtain ⟨y_9, e_10⟩ : ∃ q : Int32, q = x1 + 1 := ⟨_, rfl⟩
    have h := h y_9 e_10
    refine aw_iinc (lv' := [(1, .int y_9), (0, .ref (sz + 131))]) 1 dX10_can_20 rfl (by rw [e_10]; rfl) (by decide) rfl ?_
    refine aw_goto 7 dX10_can_23 (by decide) ?_
    refine aw_sub [1, 0] rfl ?_
    exact hK7 y_9 I_7 J h
set_option maxRecDepth 20000 in
theorem tl_X10_can_7 {l : Launch} {D : va_G} {cy : Nat → ClassId} {sz : Nat} {G : sw_G} (hG : sw_lay G)   {Q : Int32 → sw_I → sw_J → Prop} : ∀ (n : Nat) (x1 : Int32) (I : sw_I) (J : sw_J), wl_X10_can_7   Q n x1 I J → AW l D cy sz RX10 cX10_can 4 (some .int) false rm_X10_can 0 0 (sw_qi G Q) 0 0 G I J 7 [(0, .ref (sz + 131)), (1, .int x1)] [] := by
  intro n
  induction n with
  | zero => intro x1 I J h; exact False.elim h
  | succ n ih => intro x1 I J h; exact tb_X10_can_7 hG  ih h
set_option maxRecDepth 20000 in
theorem t_X10_can {l : Launch} {D : va_G} {cy : Nat → ClassId} {sz : Nat} {G : sw_G} (hG : sw_lay G)   {Q : Int32 → sw_I → sw_J → Prop}  {I : sw_I} {J : sw_J} (h : wp_X10_can  I J Q) : AW l D cy sz RX10 cX10_can 4 (some .int) false rm_X10_can 0 0 (sw_qi G Q) 0 0 G I J 0 [(0, .ref (sz + 131))] [] := by
  unfold wp_X10_can at h
  refine aw_aload_n 0 dX10_can_0 rfl rfl ?_
  refine aw_iconst (v := 0) dX10_can_1 (by decide) ?_
  refine pf_X10_0 fl_X10_3 (lk131 hG) dX10_can_2 (aw_nameI fun I_1 e_2 => ?_)
  have h := h I_1 e_2
  refine aw_iconst (v := 0) dX10_can_5 (by decide) ?_
  refine aw_istore_n (lv' := [(1, .int 0), (0, .ref (sz + 131))]) dX10_can_6 rfl (by decide) rfl ?_
  refine aw_sub [1, 0] rfl ?_
  obtain ⟨n_3, h⟩ := h
  exact tl_X10_can_7 hG   n_3 0 I_1 J h
theorem M_X10_can {l : Launch} {D : va_G} {cy : Nat → ClassId} {sz : Nat} {G : sw_G} (hG : sw_lay G)   {Q : Int32 → sw_I → sw_J → Prop}  {I : sw_I} {J : sw_J} (h : wp_X10_can  I J Q) : Met l yX10_can (Cond.code yX10_can cX10_can 4 (some .int) :: sw_T) rm_X10_can (sw_Pc D cy sz [.ref (sz + 131)] G I J) (sw_Q D cy sz (sw_qi G Q)) 0 0 (fun q => sz ≤ q) :=
  sw_met (by decide) (fun q => by cases q) (Nat.le_of_ble_eq_true rfl) rfl (t_X10_can hG  h)
-- X10_fewestOf
abbrev rm_X10_fewestOf : Room := { frames := 5, cells := 0, slots := 0, locals := 115 }
def wB_X10_fewestOf_81  (K5 : Int32 → Int32 → Int32 → Int32 → sw_I → sw_J → Prop) (Q : Int32 → sw_I → sw_J → Prop) (x1 : Int32) (x2 : Int32) (x4 : Int32) (s0 : Int32) (I : sw_I) (J : sw_J) : Prop :=
  ∀ y_1 : Int32, y_1 = x4 + 1 → K5 x1 x2 s0 y_1 I J
def wB_X10_fewestOf_80  (K5 : Int32 → Int32 → Int32 → Int32 → sw_I → sw_J → Prop) (Q : Int32 → sw_I → sw_J → Prop) (x1 : Int32) (x2 : Int32) (x3 : Int32) (x4 : Int32) (I : sw_I) (J : sw_J) : Prop :=
  wB_X10_fewestOf_81  K5 Q x1 x2 x4 x3 I J
def wB_X10_fewestOf_46  (K5 : Int32 → Int32 → Int32 → Int32 → sw_I → sw_J → Prop) (Q : Int32 → sw_I → sw_J → Prop) (x1 : Int32) (x2 : Int32) (x3 : Int32) (x4 : Int32) (s0 : Int32) (I : sw_I) (J : sw_J) : Prop :=
  sw_if (s0 = 0) (wB_X10_fewestOf_80  K5 Q x1 x2 x3 x4 I J) (wp_X10_stopOf 135 33 ((I 135 (30 : Int32).toNatClampNeg) ^^^ x4) I J (fun r_3 I_4 J_5 => sw_if (r_3 = x2) (wB_X10_fewestOf_81  K5 Q x1 x2 x4 x4 I_4 J_5) (wB_X10_fewestOf_80  K5 Q x1 x2 x3 x4 I_4 J_5)))
def wB_X10_fewestOf_45  (K5 : Int32 → Int32 → Int32 → Int32 → sw_I → sw_J → Prop) (Q : Int32 → sw_I → sw_J → Prop) (x1 : Int32) (x2 : Int32) (x3 : Int32) (x4 : Int32) (I : sw_I) (J : sw_J) : Prop :=
  wB_X10_fewestOf_46  K5 Q x1 x2 x3 x4 0 I J
def wB_X10_fewestOf_41  (K5 : Int32 → Int32 → Int32 → Int32 → sw_I → sw_J → Prop) (Q : Int32 → sw_I → sw_J → Prop) (x1 : Int32) (x2 : Int32) (x3 : Int32) (x4 : Int32) (I : sw_I) (J : sw_J) : Prop :=
  wB_X10_fewestOf_46  K5 Q x1 x2 x3 x4 1 I J
def wb_X10_fewestOf_5  (K5 : Int32 → Int32 → Int32 → Int32 → sw_I → sw_J → Prop) (Q : Int32 → sw_I → sw_J → Prop) (x1 : Int32) (x2 : Int32) (x3 : Int32) (x4 : Int32) (I : sw_I) (J : sw_J) : Prop :=
  sw_if (x4 < ((1 : Int32) <<< ((I 131 4) &&& 31))) (sw_if ((x4 &&& (x1 ^^^ (-1 : Int32))) = 0) (sw_if (x3 < 0) (wB_X10_fewestOf_41  K5 Q x1 x2 x3 x4 I J) (wp_J6_bitCount_0f7a4 x4 I J (fun r_13 I_14 J_15 => wp_J6_bitCount_0f7a4 x3 I_14 J_15 (fun r_16 I_17 J_18 => sw_if (r_13 < r_16) (wB_X10_fewestOf_41  K5 Q x1 x2 x3 x4 I_17 J_18) (wB_X10_fewestOf_45  K5 Q x1 x2 x3 x4 I_17 J_18))))) (wB_X10_fewestOf_45  K5 Q x1 x2 x3 x4 I J)) (sw_if (x3 < 0) (Q (-2 : Int32) I J) (∀ I_3 : sw_I, I_3 = sw_up I 131 1 (0 : Int32) → wp_X10_enters x3.toInt64 I_3 J (fun I_6 J_7 => wp_J6_bitCount_0f7a4 x3 I_6 J_7 (fun r_8 I_9 J_10 => Q r_8 I_9 J_10))))
def wl_X10_fewestOf_5   (Q : Int32 → sw_I → sw_J → Prop) : Nat → Int32 → Int32 → Int32 → Int32 → sw_I → sw_J → Prop
  | 0 => fun _ _ _ _ _ _ => False
  | n + 1 => fun x1 x2 x3 x4 I J => wb_X10_fewestOf_5  (wl_X10_fewestOf_5   Q n) Q x1 x2 x3 x4 I J
def wp_X10_fewestOf (x1 : Int32) (x2 : Int32) (I : sw_I) (J : sw_J) (Q : Int32 → sw_I → sw_J → Prop) : Prop :=
  ∃ n_1 : Nat, wl_X10_fewestOf_5   Q n_1 x1 x2 (-1) 0 I J
set_option maxRecDepth 20000 in
theorem t_X10_fewestOf_81 {l : Launch} {D : va_G} {cy : Nat → ClassId} {sz : Nat} {G : sw_G} (hG : sw_lay G)   {Q : Int32 → sw_I → sw_J → Prop} {K5 : Int32 → Int32 → Int32 → Int32 → sw_I → sw_J → Prop} (hK5 : ∀ (x1 : Int32) (x2 : Int32) (x3 : Int32) (x4 : Int32) (I : sw_I) (J : sw_J), K5 x1 x2 x3 x4 I J → AW l D cy sz RX10 cX10_fewestOf 6 (some .int) false rm_X10_fewestOf 0 0 (sw_qi G Q) 0 0 G I J 5 [(0, .ref (sz + 131)), (1, .int x1), (2, .int x2), (3, .int x3), (4, .int x4)] []) {x1 : Int32} {x2 : Int32} {x4 : Int32} {s0 : Int32} {I : sw_I} {J : sw_J} (h : wB_X10_fewestOf_81  K5 Q x1 x2 x4 s0 I J) : AW l D cy sz RX10 cX10_fewestOf 6 (some .int) false rm_X10_fewestOf 0 0 (sw_qi G Q) 0 0 G I J 81 [(0, .ref (sz + 131)), (1, .int x1), (2, .int x2), (4, .int x4)] [.int s0] := by
  unfold wB_X10_fewestOf_81 at h
  refine aw_istore_n (lv' := [(3, .int s0), (0, .ref (sz + 131)), (1, .int x1), (2, .int x2), (4, .int x4)]) dX10_fewestOf_81 rfl (by decide) rfl ?_
  obtain ⟨y_1, e_2⟩ : ∃ q : Int32, q = x4 + 1 := ⟨_, rfl⟩
  have h := h y_1 e_2
  refine aw_iinc (lv' := [(4, .int y_1), (3, .int s0), (0, .ref (sz + 131)), (1, .int x1), (2, .int x2)]) 4 dX10_fewestOf_82 rfl (by rw [e_2]; rfl) (by decide) rfl ?_
  refine aw_goto 5 dX10_fewestOf_85 (by decide) ?_
  refine aw_sub [2, 3, 4, 1, 0] rfl ?_
  exact hK5 x1 x2 s0 y_1 I J h
set_option maxRecDepth 20000 in
theorem t_X10_fewestOf_80 {l : Launch} {D : va_G} {cy : Nat → ClassId} {sz : Nat} {G : sw_G} (hG : sw_lay G)   {Q : Int32 → sw_I → sw_J → Prop} {K5 : Int32 → Int32 → Int32 → Int32 → sw_I → sw_J → Prop} (hK5 : ∀ (x1 : Int32) (x2 : Int32) (x3 : Int32) (x4 : Int32) (I : sw_I) (J : sw_J), K5 x1 x2 x3 x4 I J → AW l D cy sz RX10 cX10_fewestOf 6 (some .int) false rm_X10_fewestOf 0 0 (sw_qi G Q) 0 0 G I J 5 [(0, .ref (sz + 131)), (1, .int x1), (2, .int x2), (3, .int x3), (4, .int x4)] []) {x1 : Int32} {x2 : Int32} {x3 : Int32} {x4 : Int32} {I : sw_I} {J : sw_J} (h : wB_X10_fewestOf_80  K5 Q x1 x2 x3 x4 I J) : AW l D cy sz RX10 cX10_fewestOf 6 (some .int) false rm_X10_fewestOf 0 0 (sw_qi G Q) 0 0 G I J 80 [(0, .ref (sz + 131)), (1, .int x1), (2, .int x2), (3, .int x3), (4, .int x4)] [] := by
  unfold wB_X10_fewestOf_80 at h
  refine aw_iload_n 3 dX10_fewestOf_80 rfl rfl ?_
  refine aw_sub [0, 1, 2, 4] rfl ?_
  exact t_X10_fewestOf_81 hG  hK5 h
set_option maxRecDepth 20000 in
theorem t_X10_fewestOf_46 {l : Launch} {D : va_G} {cy : Nat → ClassId} {sz : Nat} {G : sw_G} (hG : sw_lay G)   {Q : Int32 → sw_I → sw_J → Prop} {K5 : Int32 → Int32 → Int32 → Int32 → sw_I → sw_J → Prop} (hK5 : ∀ (x1 : Int32) (x2 : Int32) (x3 : Int32) (x4 : Int32) (I : sw_I) (J : sw_J), K5 x1 x2 x3 x4 I J → AW l D cy sz RX10 cX10_fewestOf 6 (some .int) false rm_X10_fewestOf 0 0 (sw_qi G Q) 0 0 G I J 5 [(0, .ref (sz + 131)), (1, .int x1), (2, .int x2), (3, .int x3), (4, .int x4)] []) {x1 : Int32} {x2 : Int32} {x3 : Int32} {x4 : Int32} {s0 : Int32} {I : sw_I} {J : sw_J} (h : wB_X10_fewestOf_46  K5 Q x1 x2 x3 x4 s0 I J) : AW l D cy sz RX10 cX10_fewestOf 6 (some .int) false rm_X10_fewestOf 0 0 (sw_qi G Q) 0 0 G I J 46 [(0, .ref (sz + 131)), (1, .int x1), (2, .int x2), (3, .int x3), (4, .int x4)] [.int s0] := by
  unfold wB_X10_fewestOf_46 at h
  refine aw_istore (lv' := [(5, .int s0), (0, .ref (sz + 131)), (1, .int x1), (2, .int x2), (3, .int x3), (4, .int x4)]) dX10_fewestOf_46 (by decide) rfl ?_
  refine aw_iload 0 dX10_fewestOf_48 rfl ?_
  refine aw_zeq 80 dX10_fewestOf_50 (by decide) (fun c_1 => ?_) (fun c_1 => ?_)
  · have h := sw_if.t h c_1
    refine aw_sub [1, 2, 3, 4, 5] rfl ?_
    exact t_X10_fewestOf_80 hG  hK5 h
  · have h := sw_if.f h c_1
    refine aw_aload_n 1 dX10_fewestOf_53 rfl rfl ?_
    refine aw_aload_n 1 dX10_fewestOf_54 rfl rfl ?_
    refine gf_X10_9 fl_X10_79 (lk131 hG) (lr131_9 hG) dX10_fewestOf_55 ?_
    refine aw_aload_n 1 dX10_fewestOf_58 rfl rfl ?_
    refine gf_X10_9 fl_X10_79 (lk131 hG) (lr131_9 hG) dX10_fewestOf_59 ?_
    refine aw_bipush (v := 30) dX10_fewestOf_62 (by decide) ?_
    refine aw_ild dX10_fewestOf_64 (lk135 hG) (ln135 hG) (by unfold vp_in; decide) ?_
    refine aw_iload 5 dX10_fewestOf_65 rfl ?_
    refine aw_ixor dX10_fewestOf_67 ?_
    refine aw_callV wv_X10_stopOf (M_X10_stopOf hG ⟨(lk135 hG), (ln135 hG)⟩ h) ml_X10_222 rfl (by decide) (lk131 hG) rfl rfl (Nat.le_of_ble_eq_true rfl) ⟨rfl, rfl⟩ ⟨Nat.le_of_ble_eq_true rfl, Nat.le_of_ble_eq_true rfl⟩ ⟨Nat.le_refl _, Nat.le_refl _⟩ dX10_fewestOf_68 (aw_ki fun r_3 I_4 J_5 h => ?_)
    refine aw_iload_n 3 dX10_fewestOf_71 rfl rfl ?_
    refine aw_jne 80 dX10_fewestOf_72 (by decide) (fun c_6 => ?_) (fun c_6 => ?_)
    · have h := sw_if.f h c_6
      refine aw_sub [1, 2, 3, 4, 5] rfl ?_
      exact t_X10_fewestOf_80 hG  hK5 h
    · have h := sw_if.t h c_6
      refine aw_iload 5 dX10_fewestOf_75 rfl ?_
      refine aw_goto 81 dX10_fewestOf_77 (by decide) ?_
      refine aw_sub [1, 2, 3, 5] rfl ?_
      exact t_X10_fewestOf_81 hG  hK5 h
set_option maxRecDepth 20000 in
theorem t_X10_fewestOf_45 {l : Launch} {D : va_G} {cy : Nat → ClassId} {sz : Nat} {G : sw_G} (hG : sw_lay G)   {Q : Int32 → sw_I → sw_J → Prop} {K5 : Int32 → Int32 → Int32 → Int32 → sw_I → sw_J → Prop} (hK5 : ∀ (x1 : Int32) (x2 : Int32) (x3 : Int32) (x4 : Int32) (I : sw_I) (J : sw_J), K5 x1 x2 x3 x4 I J → AW l D cy sz RX10 cX10_fewestOf 6 (some .int) false rm_X10_fewestOf 0 0 (sw_qi G Q) 0 0 G I J 5 [(0, .ref (sz + 131)), (1, .int x1), (2, .int x2), (3, .int x3), (4, .int x4)] []) {x1 : Int32} {x2 : Int32} {x3 : Int32} {x4 : Int32} {I : sw_I} {J : sw_J} (h : wB_X10_fewestOf_45  K5 Q x1 x2 x3 x4 I J) : AW l D cy sz RX10 cX10_fewestOf 6 (some .int) false rm_X10_fewestOf 0 0 (sw_qi G Q) 0 0 G I J 45 [(0, .ref (sz + 131)), (1, .int x1), (2, .int x2), (3, .int x3), (4, .int x4)] [] := by
  unfold wB_X10_fewestOf_45 at h
  refine aw_iconst (v := 0) dX10_fewestOf_45 (by decide) ?_
  refine aw_sub [0, 1, 2, 3, 4] rfl ?_
  exact t_X10_fewestOf_46 hG  hK5 h
set_option maxRecDepth 20000 in
theorem t_X10_fewestOf_41 {l : Launch} {D : va_G} {cy : Nat → ClassId} {sz : Nat} {G : sw_G} (hG : sw_lay G)   {Q : Int32 → sw_I → sw_J → Prop} {K5 : Int32 → Int32 → Int32 → Int32 → sw_I → sw_J → Prop} (hK5 : ∀ (x1 : Int32) (x2 : Int32) (x3 : Int32) (x4 : Int32) (I : sw_I) (J : sw_J), K5 x1 x2 x3 x4 I J → AW l D cy sz RX10 cX10_fewestOf 6 (some .int) false rm_X10_fewestOf 0 0 (sw_qi G Q) 0 0 G I J 5 [(0, .ref (sz + 131)), (1, .int x1), (2, .int x2), (3, .int x3), (4, .int x4)] []) {x1 : Int32} {x2 : Int32} {x3 : Int32} {x4 : Int32} {I : sw_I} {J : sw_J} (h : wB_X10_fewestOf_41  K5 Q x1 x2 x3 x4 I J) : AW l D cy sz RX10 cX10_fewestOf 6 (some .int) false rm_X10_fewestOf 0 0 (sw_qi G Q) 0 0 G I J 41 [(0, .ref (sz + 131)), (1, .int x1), (2, .int x2), (3, .int x3), (4, .int x4)] [] := by
  unfold wB_X10_fewestOf_41 at h
  refine aw_iconst (v := 1) dX10_fewestOf_41 (by decide) ?_
  refine aw_goto 46 dX10_fewestOf_42 (by decide) ?_
  refine aw_sub [0, 1, 2, 3, 4] rfl ?_
  exact t_X10_fewestOf_46 hG  hK5 h
set_option maxRecDepth 20000 in
theorem tb_X10_fewestOf_5 {l : Launch} {D : va_G} {cy : Nat → ClassId} {sz : Nat} {G : sw_G} (hG : sw_lay G)   {Q : Int32 → sw_I → sw_J → Prop} {K5 : Int32 → Int32 → Int32 → Int32 → sw_I → sw_J → Prop} (hK5 : ∀ (x1 : Int32) (x2 : Int32) (x3 : Int32) (x4 : Int32) (I : sw_I) (J : sw_J), K5 x1 x2 x3 x4 I J → AW l D cy sz RX10 cX10_fewestOf 6 (some .int) false rm_X10_fewestOf 0 0 (sw_qi G Q) 0 0 G I J 5 [(0, .ref (sz + 131)), (1, .int x1), (2, .int x2), (3, .int x3), (4, .int x4)] []) {x1 : Int32} {x2 : Int32} {x3 : Int32} {x4 : Int32} {I : sw_I} {J : sw_J} (h : wb_X10_fewestOf_5  K5 Q x1 x2 x3 x4 I J) : AW l D cy sz RX10 cX10_fewestOf 6 (some .int) false rm_X10_fewestOf 0 0 (sw_qi G Q) 0 0 G I J 5 [(0, .ref (sz + 131)), (1, .int x1), (2, .int x2), (3, .int x3), (4, .int x4)] [] := by
  unfold wb_X10_fewestOf_5 at h
  refine aw_iload 4 dX10_fewestOf_5 rfl ?_
  refine aw_iconst (v := 1) dX10_fewestOf_7 (by decide) ?_
  refine aw_aload_n 0 dX10_fewestOf_8 rfl rfl ?_
  refine gf_X10_4 fl_X10_29 (lk131 hG) dX10_fewestOf_9 ?_
  refine aw_ishl dX10_fewestOf_12 ?_
  refine aw_jge 88 dX10_fewestOf_13 (by decide) (fun c_1 => ?_) (fun c_1 => ?_)
  · have h := sw_if.f h c_1
    refine aw_iload_n 3 dX10_fewestOf_88 rfl rfl ?_
    refine aw_zge 95 dX10_fewestOf_89 (by decide) (fun c_2 => ?_) (fun c_2 => ?_)
    · have h := sw_if.f h c_2
      refine aw_aload_n 0 dX10_fewestOf_95 rfl rfl ?_
      refine aw_iconst (v := 0) dX10_fewestOf_96 (by decide) ?_
      refine pf_X10_1 fl_X10_15 (lk131 hG) dX10_fewestOf_97 (aw_nameI fun I_3 e_4 => ?_)
      have h := h I_3 e_4
      refine aw_aload_n 0 dX10_fewestOf_100 rfl rfl ?_
      refine aw_iload_n 3 dX10_fewestOf_101 rfl rfl ?_
      refine aw_i2l dX10_fewestOf_102 ?_
      refine aw_callV wv_X10_enters (M_X10_enters hG  h) ml_X10_18 rfl (by decide) (lk131 hG) rfl rfl (Nat.le_of_ble_eq_true rfl) ⟨rfl, rfl⟩ ⟨Nat.le_of_ble_eq_true rfl, Nat.le_of_ble_eq_true rfl⟩ ⟨Nat.le_refl _, Nat.le_refl _⟩ dX10_fewestOf_103 (aw_kv fun I_6 J_7 h => ?_)
      refine aw_iload_n 3 dX10_fewestOf_106 rfl rfl ?_
      refine aw_callS wv_J6_bitCount_0f7a4 (M_J6_bitCount_0f7a4 trivial  h) ml_X10_175 rfl rfl (Nat.le_of_ble_eq_true rfl) ⟨rfl, rfl⟩ ⟨Nat.le_of_ble_eq_true rfl, Nat.le_of_ble_eq_true rfl⟩ ⟨Nat.le_refl _, Nat.le_refl _⟩ dX10_fewestOf_107 (aw_ki fun r_8 I_9 J_10 h => ?_)
      exact aw_iret rfl dX10_fewestOf_110 ⟨rfl, _, rfl, h⟩
    · have h := sw_if.t h c_2
      refine aw_bipush (v := (-2)) dX10_fewestOf_92 (by decide) ?_
      exact aw_iret rfl dX10_fewestOf_94 ⟨rfl, _, rfl, h⟩
  · have h := sw_if.t h c_1
    refine aw_iload 4 dX10_fewestOf_16 rfl ?_
    refine aw_iload_n 1 dX10_fewestOf_18 rfl rfl ?_
    refine aw_iconst (v := (-1)) dX10_fewestOf_19 (by decide) ?_
    refine aw_ixor dX10_fewestOf_20 ?_
    refine aw_iand dX10_fewestOf_21 ?_
    refine aw_zne 45 dX10_fewestOf_22 (by decide) (fun c_11 => ?_) (fun c_11 => ?_)
    · have h := sw_if.f h c_11
      refine aw_sub [0, 1, 2, 3, 4] rfl ?_
      exact t_X10_fewestOf_45 hG  hK5 h
    · have h := sw_if.t h c_11
      refine aw_iload_n 3 dX10_fewestOf_25 rfl rfl ?_
      refine aw_zlt 41 dX10_fewestOf_26 (by decide) (fun c_12 => ?_) (fun c_12 => ?_)
      · have h := sw_if.t h c_12
        refine aw_sub [0, 1, 2, 3, 4] rfl ?_
        exact t_X10_fewestOf_41 hG  hK5 h
      · have h := sw_if.f h c_12
        refine aw_iload 4 dX10_fewestOf_29 rfl ?_
        refine aw_callS wv_J6_bitCount_0f7a4 (M_J6_bitCount_0f7a4 trivial  h) ml_X10_175 rfl rfl (Nat.le_of_ble_eq_true rfl) ⟨rfl, rfl⟩ ⟨Nat.le_of_ble_eq_true rfl, Nat.le_of_ble_eq_true rfl⟩ ⟨Nat.le_refl _, Nat.le_refl _⟩ dX10_fewestOf_31 (aw_ki fun r_13 I_14 J_15 h => ?_)
        refine aw_iload_n 3 dX10_fewestOf_34 rfl rfl ?_
        refine aw_callS wv_J6_bitCount_0f7a4 (M_J6_bitCount_0f7a4 trivial  h) ml_X10_175 rfl rfl (Nat.le_of_ble_eq_true rfl) ⟨rfl, rfl⟩ ⟨Nat.le_of_ble_eq_true rfl, Nat.le_of_ble_eq_true rfl⟩ ⟨Nat.le_refl _, Nat.le_refl _⟩ dX10_fewestOf_35 (aw_ki fun r_16 I_17 J_18 h => ?_)
        refine aw_jge 45 dX10_fewestOf_38 (by decide) (fun c_19 => ?_) (fun c_19 => ?_)
        · have h := sw_if.f h c_19
          refine aw_sub [0, 1, 2, 3, 4] rfl ?_
          exact t_X10_fewestOf_45 hG  hK5 h
        · have h := sw_if.t h c_19
          refine aw_sub [0, 1, 2, 3, 4] rfl ?_
          exact t_X10_fewestOf_41 hG  hK5 h
set_option maxRecDepth 20000 in
theorem tl_X10_fewestOf_5 {l : Launch} {D : va_G} {cy : Nat → ClassId} {sz : Nat} {G : sw_G} (hG : sw_lay G)   {Q : Int32 → sw_I → sw_J → Prop} : ∀ (n : Nat) (x1 : Int32) (x2 : Int32) (x3 : Int32) (x4 : Int32) (I : sw_I) (J : sw_J), wl_X10_fewestOf_5   Q n x1 x2 x3 x4 I J → AW l D cy sz RX10 cX10_fewestOf 6 (some .int) false rm_X10_fewestOf 0 0 (sw_qi G Q) 0 0 G I J 5 [(0, .ref (sz + 131)), (1, .int x1), (2, .int x2), (3, .int x3), (4, .int x4)] [] := by
  intro n
  induction n with
  | zero => intro x1 x2 x3 x4 I J h; exact False.elim h
  | succ n ih => intro x1 x2 x3 x4 I J h; exact tb_X10_fewestOf_5 hG  ih h
set_option maxRecDepth 20000 in
theorem t_X10_fewestOf {l : Launch} {D : va_G} {cy : Nat → ClassId} {sz : Nat} {G : sw_G} (hG : sw_lay G)   {Q : Int32 → sw_I → sw_J → Prop} {x1 : Int32} {x2 : Int32} {I : sw_I} {J : sw_J} (h : wp_X10_fewestOf x1 x2 I J Q) : AW l D cy sz RX10 cX10_fewestOf 6 (some .int) false rm_X10_fewestOf 0 0 (sw_qi G Q) 0 0 G I J 0 [(0, .ref (sz + 131)), (1, .int x1), (2, .int x2)] [] := by
  unfold wp_X10_fewestOf at h
  refine aw_iconst (v := (-1)) dX10_fewestOf_0 (by decide) ?_
  refine aw_istore_n (lv' := [(3, .int (-1)), (0, .ref (sz + 131)), (1, .int x1), (2, .int x2)]) dX10_fewestOf_1 rfl (by decide) rfl ?_
  refine aw_iconst (v := 0) dX10_fewestOf_2 (by decide) ?_
  refine aw_istore (lv' := [(4, .int 0), (3, .int (-1)), (0, .ref (sz + 131)), (1, .int x1), (2, .int x2)]) dX10_fewestOf_3 (by decide) rfl ?_
  refine aw_sub [2, 3, 4, 1, 0] rfl ?_
  obtain ⟨n_1, h⟩ := h
  exact tl_X10_fewestOf_5 hG   n_1 x1 x2 (-1) 0 I J h
theorem M_X10_fewestOf {l : Launch} {D : va_G} {cy : Nat → ClassId} {sz : Nat} {G : sw_G} (hG : sw_lay G)   {Q : Int32 → sw_I → sw_J → Prop} {x1 : Int32} {x2 : Int32} {I : sw_I} {J : sw_J} (h : wp_X10_fewestOf x1 x2 I J Q) : Met l yX10_fewestOf (Cond.code yX10_fewestOf cX10_fewestOf 6 (some .int) :: sw_T) rm_X10_fewestOf (sw_Pc D cy sz [.ref (sz + 131), .int x1, .int x2] G I J) (sw_Q D cy sz (sw_qi G Q)) 0 0 (fun q => sz ≤ q) :=
  sw_met (by decide) (fun q => by cases q) (Nat.le_of_ble_eq_true rfl) rfl (t_X10_fewestOf hG  h)
-- X10_along
abbrev rm_X10_along : Room := { frames := 6, cells := 0, slots := 0, locals := 140 }
def wp_X10_along (x1 : Int32) (I : sw_I) (J : sw_J) (Q : Int32 → sw_I → sw_J → Prop) : Prop :=
  ∀ I_1 : sw_I, I_1 = sw_up I 131 0 (0 : Int32) → wp_X10_isFloor x1 I_1 J (fun r_3 I_4 J_5 => sw_if (r_3 = 0) (Q (-1 : Int32) I_4 J_5) (wp_X10_there 135 33 I_4 J_5 (fun r_7 I_8 J_9 => wp_X10_fewestOf (r_7 &&& ((I_8 135 (30 : Int32).toNatClampNeg) ^^^ (-1 : Int32))) x1 I_8 J_9 (fun r_11 I_12 J_13 => Q r_11 I_12 J_13))))
set_option maxRecDepth 20000 in
theorem t_X10_along {l : Launch} {D : va_G} {cy : Nat → ClassId} {sz : Nat} {G : sw_G} (hG : sw_lay G)   {Q : Int32 → sw_I → sw_J → Prop} {x1 : Int32} {I : sw_I} {J : sw_J} (h : wp_X10_along x1 I J Q) : AW l D cy sz RX10 cX10_along 2 (some .int) false rm_X10_along 0 0 (sw_qi G Q) 0 0 G I J 0 [(0, .ref (sz + 131)), (1, .int x1)] [] := by
  unfold wp_X10_along at h
  refine aw_aload_n 0 dX10_along_0 rfl rfl ?_
  refine aw_iconst (v := 0) dX10_along_1 (by decide) ?_
  refine pf_X10_0 fl_X10_3 (lk131 hG) dX10_along_2 (aw_nameI fun I_1 e_2 => ?_)
  have h := h I_1 e_2
  refine aw_aload_n 0 dX10_along_5 rfl rfl ?_
  refine aw_iload_n 1 dX10_along_6 rfl rfl ?_
  refine aw_callV wv_X10_isFloor (M_X10_isFloor hG  h) ml_X10_95 rfl (by decide) (lk131 hG) rfl rfl (Nat.le_of_ble_eq_true rfl) ⟨rfl, rfl⟩ ⟨Nat.le_of_ble_eq_true rfl, Nat.le_of_ble_eq_true rfl⟩ ⟨Nat.le_refl _, Nat.le_refl _⟩ dX10_along_7 (aw_ki fun r_3 I_4 J_5 h => ?_)
  refine aw_zeq 39 dX10_along_10 (by decide) (fun c_6 => ?_) (fun c_6 => ?_)
  · have h := sw_if.t h c_6
    refine aw_iconst (v := (-1)) dX10_along_39 (by decide) ?_
    exact aw_iret rfl dX10_along_40 ⟨rfl, _, rfl, h⟩
  · have h := sw_if.f h c_6
    refine aw_aload_n 0 dX10_along_13 rfl rfl ?_
    refine aw_aload_n 0 dX10_along_14 rfl rfl ?_
    refine aw_aload_n 0 dX10_along_15 rfl rfl ?_
    refine gf_X10_9 fl_X10_79 (lk131 hG) (lr131_9 hG) dX10_along_16 ?_
    refine aw_callV wv_X10_there (M_X10_there hG ⟨(lk135 hG), (ln135 hG)⟩ h) ml_X10_295 rfl (by decide) (lk131 hG) rfl rfl (Nat.le_of_ble_eq_true rfl) ⟨rfl, rfl⟩ ⟨Nat.le_of_ble_eq_true rfl, Nat.le_of_ble_eq_true rfl⟩ ⟨Nat.le_refl _, Nat.le_refl _⟩ dX10_along_19 (aw_ki fun r_7 I_8 J_9 h => ?_)
    refine aw_aload_n 0 dX10_along_22 rfl rfl ?_
    refine gf_X10_9 fl_X10_79 (lk131 hG) (lr131_9 hG) dX10_along_23 ?_
    refine aw_bipush (v := 30) dX10_along_26 (by decide) ?_
    refine aw_ild dX10_along_28 (lk135 hG) (ln135 hG) (by unfold vp_in; decide) ?_
    refine aw_iconst (v := (-1)) dX10_along_29 (by decide) ?_
    refine aw_ixor dX10_along_30 ?_
    refine aw_iand dX10_along_31 ?_
    refine aw_iload_n 1 dX10_along_32 rfl rfl ?_
    refine aw_callV wv_X10_fewestOf (M_X10_fewestOf hG  h) ml_X10_302 rfl (by decide) (lk131 hG) rfl rfl (Nat.le_of_ble_eq_true rfl) ⟨rfl, rfl⟩ ⟨Nat.le_of_ble_eq_true rfl, Nat.le_of_ble_eq_true rfl⟩ ⟨Nat.le_refl _, Nat.le_refl _⟩ dX10_along_33 (aw_ki fun r_11 I_12 J_13 h => ?_)
    refine aw_goto 40 dX10_along_36 (by decide) ?_
    exact aw_iret rfl dX10_along_40 ⟨rfl, _, rfl, h⟩
theorem M_X10_along {l : Launch} {D : va_G} {cy : Nat → ClassId} {sz : Nat} {G : sw_G} (hG : sw_lay G)   {Q : Int32 → sw_I → sw_J → Prop} {x1 : Int32} {I : sw_I} {J : sw_J} (h : wp_X10_along x1 I J Q) : Met l yX10_along (Cond.code yX10_along cX10_along 2 (some .int) :: sw_T) rm_X10_along (sw_Pc D cy sz [.ref (sz + 131), .int x1] G I J) (sw_Q D cy sz (sw_qi G Q)) 0 0 (fun q => sz ≤ q) :=
  sw_met (by decide) (fun q => by cases q) (Nat.le_of_ble_eq_true rfl) rfl (t_X10_along hG  h)
-- X10_without
abbrev rm_X10_without : Room := { frames := 6, cells := 0, slots := 0, locals := 140 }
def wp_X10_without (x1 : Int32) (I : sw_I) (J : sw_J) (Q : Int32 → sw_I → sw_J → Prop) : Prop :=
  ∀ I_1 : sw_I, I_1 = sw_up I 131 0 (0 : Int32) → wp_X10_isFloor x1 I_1 J (fun r_3 I_4 J_5 => sw_if (r_3 = 0) (Q (-1 : Int32) I_4 J_5) (wp_X10_fewestOf (I_4 135 (30 : Int32).toNatClampNeg) x1 I_4 J_5 (fun r_8 I_9 J_10 => Q r_8 I_9 J_10)))
set_option maxRecDepth 20000 in
theorem t_X10_without {l : Launch} {D : va_G} {cy : Nat → ClassId} {sz : Nat} {G : sw_G} (hG : sw_lay G)   {Q : Int32 → sw_I → sw_J → Prop} {x1 : Int32} {I : sw_I} {J : sw_J} (h : wp_X10_without x1 I J Q) : AW l D cy sz RX10 cX10_without 2 (some .int) false rm_X10_without 0 0 (sw_qi G Q) 0 0 G I J 0 [(0, .ref (sz + 131)), (1, .int x1)] [] := by
  unfold wp_X10_without at h
  refine aw_aload_n 0 dX10_without_0 rfl rfl ?_
  refine aw_iconst (v := 0) dX10_without_1 (by decide) ?_
  refine pf_X10_0 fl_X10_3 (lk131 hG) dX10_without_2 (aw_nameI fun I_1 e_2 => ?_)
  have h := h I_1 e_2
  refine aw_aload_n 0 dX10_without_5 rfl rfl ?_
  refine aw_iload_n 1 dX10_without_6 rfl rfl ?_
  refine aw_callV wv_X10_isFloor (M_X10_isFloor hG  h) ml_X10_95 rfl (by decide) (lk131 hG) rfl rfl (Nat.le_of_ble_eq_true rfl) ⟨rfl, rfl⟩ ⟨Nat.le_of_ble_eq_true rfl, Nat.le_of_ble_eq_true rfl⟩ ⟨Nat.le_refl _, Nat.le_refl _⟩ dX10_without_7 (aw_ki fun r_3 I_4 J_5 h => ?_)
  refine aw_zeq 28 dX10_without_10 (by decide) (fun c_6 => ?_) (fun c_6 => ?_)
  · have h := sw_if.t h c_6
    refine aw_iconst (v := (-1)) dX10_without_28 (by decide) ?_
    exact aw_iret rfl dX10_without_29 ⟨rfl, _, rfl, h⟩
  · have h := sw_if.f h c_6
    refine aw_aload_n 0 dX10_without_13 rfl rfl ?_
    refine aw_aload_n 0 dX10_without_14 rfl rfl ?_
    refine gf_X10_9 fl_X10_79 (lk131 hG) (lr131_9 hG) dX10_without_15 ?_
    refine aw_bipush (v := 30) dX10_without_18 (by decide) ?_
    refine aw_ild dX10_without_20 (lk135 hG) (ln135 hG) (by unfold vp_in; decide) ?_
    refine aw_iload_n 1 dX10_without_21 rfl rfl ?_
    refine aw_callV wv_X10_fewestOf (M_X10_fewestOf hG  h) ml_X10_302 rfl (by decide) (lk131 hG) rfl rfl (Nat.le_of_ble_eq_true rfl) ⟨rfl, rfl⟩ ⟨Nat.le_of_ble_eq_true rfl, Nat.le_of_ble_eq_true rfl⟩ ⟨Nat.le_refl _, Nat.le_refl _⟩ dX10_without_22 (aw_ki fun r_8 I_9 J_10 h => ?_)
    refine aw_goto 29 dX10_without_25 (by decide) ?_
    exact aw_iret rfl dX10_without_29 ⟨rfl, _, rfl, h⟩
theorem M_X10_without {l : Launch} {D : va_G} {cy : Nat → ClassId} {sz : Nat} {G : sw_G} (hG : sw_lay G)   {Q : Int32 → sw_I → sw_J → Prop} {x1 : Int32} {I : sw_I} {J : sw_J} (h : wp_X10_without x1 I J Q) : Met l yX10_without (Cond.code yX10_without cX10_without 2 (some .int) :: sw_T) rm_X10_without (sw_Pc D cy sz [.ref (sz + 131), .int x1] G I J) (sw_Q D cy sz (sw_qi G Q)) 0 0 (fun q => sz ≤ q) :=
  sw_met (by decide) (fun q => by cases q) (Nat.le_of_ble_eq_true rfl) rfl (t_X10_without hG  h)
-- X10_bestWish
abbrev rm_X10_bestWish : Room := { frames := 5, cells := 0, slots := 0, locals := 115 }
def wB_X10_bestWish_90 (b1 : Nat) (n1 : Nat) (K36 : Int32 → Int32 → Int32 → Int32 → sw_I → sw_J → Prop) (Q : Int32 → sw_I → sw_J → Prop) (x2 : Int32) (x3 : Int32) (x5 : Int32) (x6 : Int32) (s0 : Int32) (I : sw_I) (J : sw_J) : Prop :=
  ∀ I_1 : sw_I, I_1 = sw_up I 131 42 (if x6 < (I 131 42) then x6 else (I 131 42)) → ∀ y_3 : Int32, y_3 = x5 + 1 → K36 x2 x3 s0 y_3 I_1 J
def wb_X10_bestWish_36 (b1 : Nat) (n1 : Nat) (K36 : Int32 → Int32 → Int32 → Int32 → sw_I → sw_J → Prop) (Q : Int32 → sw_I → sw_J → Prop) (x2 : Int32) (x3 : Int32) (x4 : Int32) (x5 : Int32) (I : sw_I) (J : sw_J) : Prop :=
  sw_if (x5 < (I 131 3)) (vp_in ((10 : Int32) + x2) n1 ∧ ∀ I_6 : sw_I, I_6 = sw_up I b1 ((10 : Int32) + x2).toNatClampNeg x5 → vp_in (30 : Int32) n1 ∧ wp_X10_stopOf b1 n1 (I_6 b1 (30 : Int32).toNatClampNeg) I_6 J (fun r_9 I_10 J_11 => vp_in x2 10 ∧ ∀ y_13 : Int32, y_13 = (if 0 ≤ (r_9 - (I_10 133 x2.toNatClampNeg)) then (r_9 - (I_10 133 x2.toNatClampNeg)) else 0 - (r_9 - (I_10 133 x2.toNatClampNeg))) → sw_if (y_13 < (I_10 131 42)) (wB_X10_bestWish_90 b1 n1 K36 Q x2 x3 x5 y_13 x5 I_10 J_11) (wB_X10_bestWish_90 b1 n1 K36 Q x2 x3 x5 y_13 x4 I_10 J_11))) (vp_in ((10 : Int32) + x2) n1 ∧ ∀ I_3 : sw_I, I_3 = sw_up I b1 ((10 : Int32) + x2).toNatClampNeg x3 → Q x4 I_3 J)
def wl_X10_bestWish_36 (b1 : Nat) (n1 : Nat)  (Q : Int32 → sw_I → sw_J → Prop) : Nat → Int32 → Int32 → Int32 → Int32 → sw_I → sw_J → Prop
  | 0 => fun _ _ _ _ _ _ => False
  | n + 1 => fun x2 x3 x4 x5 I J => wb_X10_bestWish_36 b1 n1 (wl_X10_bestWish_36 b1 n1  Q n) Q x2 x3 x4 x5 I J
def wp_X10_bestWish (b1 : Nat) (n1 : Nat) (x2 : Int32) (I : sw_I) (J : sw_J) (Q : Int32 → sw_I → sw_J → Prop) : Prop :=
  vp_in ((10 : Int32) + x2) n1 ∧ ∀ y_2 : Int32, y_2 = (I b1 ((10 : Int32) + x2).toNatClampNeg) → vp_in (30 : Int32) n1 ∧ wp_X10_stopOf b1 n1 (I b1 (30 : Int32).toNatClampNeg) I J (fun r_5 I_6 J_7 => vp_in x2 10 ∧ ∀ I_9 : sw_I, I_9 = sw_up I_6 131 42 (if 0 ≤ (r_5 - (I_6 133 x2.toNatClampNeg)) then (r_5 - (I_6 133 x2.toNatClampNeg)) else 0 - (r_5 - (I_6 133 x2.toNatClampNeg))) → ∃ n_11 : Nat, wl_X10_bestWish_36 b1 n1  Q n_11 x2 y_2 y_2 (-1) I_9 J_7)
set_option maxRecDepth 20000 in
theorem t_X10_bestWish_90 {l : Launch} {D : va_G} {cy : Nat → ClassId} {sz : Nat} {G : sw_G} (hG : sw_lay G) {b1 : Nat} {n1 : Nat} (hb1 : sw_ia G b1 n1) {Q : Int32 → sw_I → sw_J → Prop} {K36 : Int32 → Int32 → Int32 → Int32 → sw_I → sw_J → Prop} (hK36 : ∀ (x2 : Int32) (x3 : Int32) (x4 : Int32) (x5 : Int32) (I : sw_I) (J : sw_J), K36 x2 x3 x4 x5 I J → AW l D cy sz RX10 cX10_bestWish 7 (some .int) false rm_X10_bestWish 0 0 (sw_qi G Q) 0 0 G I J 36 [(0, .ref (sz + 131)), (1, .ref (sz + b1)), (2, .int x2), (3, .int x3), (4, .int x4), (5, .int x5)] []) {x2 : Int32} {x3 : Int32} {x5 : Int32} {x6 : Int32} {s0 : Int32} {I : sw_I} {J : sw_J} (h : wB_X10_bestWish_90 b1 n1 K36 Q x2 x3 x5 x6 s0 I J) : AW l D cy sz RX10 cX10_bestWish 7 (some .int) false rm_X10_bestWish 0 0 (sw_qi G Q) 0 0 G I J 90 [(0, .ref (sz + 131)), (1, .ref (sz + b1)), (2, .int x2), (3, .int x3), (5, .int x5), (6, .int x6)] [.int s0] := by
  unfold wB_X10_bestWish_90 at h
  refine aw_istore (lv' := [(4, .int s0), (0, .ref (sz + 131)), (1, .ref (sz + b1)), (2, .int x2), (3, .int x3), (5, .int x5), (6, .int x6)]) dX10_bestWish_90 (by decide) rfl ?_
  refine aw_aload_n 1 dX10_bestWish_92 rfl rfl ?_
  refine aw_aload_n 1 dX10_bestWish_93 rfl rfl ?_
  refine gf_X10_42 fl_X10_305 (lk131 hG) dX10_bestWish_94 ?_
  refine aw_iload 6 dX10_bestWish_97 rfl ?_
  refine aw_mmin mm_X10_45 wm_min (Nat.le_of_ble_eq_true rfl) (Nat.le_of_ble_eq_true rfl) ⟨Nat.le_refl _, Nat.le_refl _⟩ dX10_bestWish_99 ?_
  refine pf_X10_42 fl_X10_305 (lk131 hG) dX10_bestWish_102 (aw_nameI fun I_1 e_2 => ?_)
  have h := h I_1 e_2
  obtain ⟨y_3, e_4⟩ : ∃ q : Int32, q = x5 + 1 := ⟨_, rfl⟩
  have h := h y_3 e_4
  refine aw_iinc (lv' := [(5, .int y_3), (4, .int s0), (0, .ref (sz + 131)), (1, .ref (sz + b1)), (2, .int x2), (3, .int x3), (6, .int x6)]) 5 dX10_bestWish_105 rfl (by rw [e_4]; rfl) (by decide) rfl ?_
  refine aw_goto 36 dX10_bestWish_108 (by decide) ?_
  refine aw_sub [2, 3, 4, 5, 1, 0] rfl ?_
  exact hK36 x2 x3 s0 y_3 I_1 J h
set_option maxRecDepth 20000 in
theorem tb_X10_bestWish_36 {l : Launch} {D : va_G} {cy : Nat → ClassId} {sz : Nat} {G : sw_G} (hG : sw_lay G) {b1 : Nat} {n1 : Nat} (hb1 : sw_ia G b1 n1) {Q : Int32 → sw_I → sw_J → Prop} {K36 : Int32 → Int32 → Int32 → Int32 → sw_I → sw_J → Prop} (hK36 : ∀ (x2 : Int32) (x3 : Int32) (x4 : Int32) (x5 : Int32) (I : sw_I) (J : sw_J), K36 x2 x3 x4 x5 I J → AW l D cy sz RX10 cX10_bestWish 7 (some .int) false rm_X10_bestWish 0 0 (sw_qi G Q) 0 0 G I J 36 [(0, .ref (sz + 131)), (1, .ref (sz + b1)), (2, .int x2), (3, .int x3), (4, .int x4), (5, .int x5)] []) {x2 : Int32} {x3 : Int32} {x4 : Int32} {x5 : Int32} {I : sw_I} {J : sw_J} (h : wb_X10_bestWish_36 b1 n1 K36 Q x2 x3 x4 x5 I J) : AW l D cy sz RX10 cX10_bestWish 7 (some .int) false rm_X10_bestWish 0 0 (sw_qi G Q) 0 0 G I J 36 [(0, .ref (sz + 131)), (1, .ref (sz + b1)), (2, .int x2), (3, .int x3), (4, .int x4), (5, .int x5)] [] := by
  unfold wb_X10_bestWish_36 at h
  refine aw_iload 5 dX10_bestWish_36 rfl ?_
  refine aw_aload_n 0 dX10_bestWish_38 rfl rfl ?_
  refine gf_X10_3 fl_X10_22 (lk131 hG) dX10_bestWish_39 ?_
  refine aw_jge 111 dX10_bestWish_42 (by decide) (fun c_1 => ?_) (fun c_1 => ?_)
  · have h := sw_if.f h c_1
    refine aw_aload_n 1 dX10_bestWish_111 rfl rfl ?_
    refine aw_bipush (v := 10) dX10_bestWish_112 (by decide) ?_
    refine aw_iload_n 2 dX10_bestWish_114 rfl rfl ?_
    refine aw_iadd dX10_bestWish_115 ?_
    refine aw_iload_n 3 dX10_bestWish_116 rfl rfl ?_
    obtain ⟨hi_2, h⟩ := h
    refine aw_ist dX10_bestWish_117 hb1.1 hb1.2 hi_2 (aw_nameI fun I_3 e_4 => ?_)
    have h := h I_3 e_4
    refine aw_iload 4 dX10_bestWish_118 rfl ?_
    exact aw_iret rfl dX10_bestWish_120 ⟨rfl, _, rfl, h⟩
  · have h := sw_if.t h c_1
    refine aw_aload_n 1 dX10_bestWish_45 rfl rfl ?_
    refine aw_bipush (v := 10) dX10_bestWish_46 (by decide) ?_
    refine aw_iload_n 2 dX10_bestWish_48 rfl rfl ?_
    refine aw_iadd dX10_bestWish_49 ?_
    refine aw_iload 5 dX10_bestWish_50 rfl ?_
    obtain ⟨hi_5, h⟩ := h
    refine aw_ist dX10_bestWish_52 hb1.1 hb1.2 hi_5 (aw_nameI fun I_6 e_7 => ?_)
    have h := h I_6 e_7
    refine aw_aload_n 0 dX10_bestWish_53 rfl rfl ?_
    refine aw_aload_n 1 dX10_bestWish_54 rfl rfl ?_
    refine aw_aload_n 1 dX10_bestWish_55 rfl rfl ?_
    refine aw_bipush (v := 30) dX10_bestWish_56 (by decide) ?_
    obtain ⟨hi_8, h⟩ := h
    refine aw_ild dX10_bestWish_58 hb1.1 hb1.2 hi_8 ?_
    refine aw_callV wv_X10_stopOf (M_X10_stopOf hG ⟨hb1.1, hb1.2⟩ h) ml_X10_222 rfl (by decide) (lk131 hG) rfl rfl (Nat.le_of_ble_eq_true rfl) ⟨rfl, rfl⟩ ⟨Nat.le_of_ble_eq_true rfl, Nat.le_of_ble_eq_true rfl⟩ ⟨Nat.le_refl _, Nat.le_refl _⟩ dX10_bestWish_59 (aw_ki fun r_9 I_10 J_11 h => ?_)
    refine aw_aload_n 0 dX10_bestWish_62 rfl rfl ?_
    refine gf_X10_7 fl_X10_135 (lk131 hG) (lr131_7 hG) dX10_bestWish_63 ?_
    refine aw_iload_n 2 dX10_bestWish_66 rfl rfl ?_
    obtain ⟨hi_12, h⟩ := h
    refine aw_ild dX10_bestWish_67 (lk133 hG) (ln133 hG) hi_12 ?_
    refine aw_isub dX10_bestWish_68 ?_
    refine aw_mabs mm_X10_199 wm_abs (Nat.le_of_ble_eq_true rfl) (Nat.le_of_ble_eq_true rfl) ⟨Nat.le_refl _, Nat.le_refl _⟩ dX10_bestWish_69 ?_
    refine aw_topi (fun y_13 e_14 => ?_)
    have h := h y_13 e_14
    refine aw_istore (lv' := [(6, .int y_13), (0, .ref (sz + 131)), (1, .ref (sz + b1)), (2, .int x2), (3, .int x3), (4, .int x4), (5, .int x5)]) dX10_bestWish_72 (by decide) rfl ?_
    refine aw_iload 0 dX10_bestWish_74 rfl ?_
    refine aw_aload_n 1 dX10_bestWish_76 rfl rfl ?_
    refine gf_X10_42 fl_X10_305 (lk131 hG) dX10_bestWish_77 ?_
    refine aw_jge 88 dX10_bestWish_80 (by decide) (fun c_15 => ?_) (fun c_15 => ?_)
    · have h := sw_if.f h c_15
      refine aw_iload 5 dX10_bestWish_88 rfl ?_
      refine aw_sub [1, 2, 3, 4, 6, 0] rfl ?_
      exact t_X10_bestWish_90 hG hb1 hK36 h
    · have h := sw_if.t h c_15
      refine aw_iload 6 dX10_bestWish_83 rfl ?_
      refine aw_goto 90 dX10_bestWish_85 (by decide) ?_
      refine aw_sub [1, 2, 3, 4, 6, 0] rfl ?_
      exact t_X10_bestWish_90 hG hb1 hK36 h
set_option maxRecDepth 20000 in
theorem tl_X10_bestWish_36 {l : Launch} {D : va_G} {cy : Nat → ClassId} {sz : Nat} {G : sw_G} (hG : sw_lay G) {b1 : Nat} {n1 : Nat} (hb1 : sw_ia G b1 n1) {Q : Int32 → sw_I → sw_J → Prop} : ∀ (n : Nat) (x2 : Int32) (x3 : Int32) (x4 : Int32) (x5 : Int32) (I : sw_I) (J : sw_J), wl_X10_bestWish_36 b1 n1  Q n x2 x3 x4 x5 I J → AW l D cy sz RX10 cX10_bestWish 7 (some .int) false rm_X10_bestWish 0 0 (sw_qi G Q) 0 0 G I J 36 [(0, .ref (sz + 131)), (1, .ref (sz + b1)), (2, .int x2), (3, .int x3), (4, .int x4), (5, .int x5)] [] := by
  intro n
  induction n with
  | zero => intro x2 x3 x4 x5 I J h; exact False.elim h
  | succ n ih => intro x2 x3 x4 x5 I J h; exact tb_X10_bestWish_36 hG hb1 ih h
set_option maxRecDepth 20000 in
theorem t_X10_bestWish {l : Launch} {D : va_G} {cy : Nat → ClassId} {sz : Nat} {G : sw_G} (hG : sw_lay G) {b1 : Nat} {n1 : Nat} (hb1 : sw_ia G b1 n1) {Q : Int32 → sw_I → sw_J → Prop} {x2 : Int32} {I : sw_I} {J : sw_J} (h : wp_X10_bestWish b1 n1 x2 I J Q) : AW l D cy sz RX10 cX10_bestWish 7 (some .int) false rm_X10_bestWish 0 0 (sw_qi G Q) 0 0 G I J 0 [(0, .ref (sz + 131)), (1, .ref (sz + b1)), (2, .int x2)] [] := by
  unfold wp_X10_bestWish at h
  refine aw_aload_n 1 dX10_bestWish_0 rfl rfl ?_
  refine aw_bipush (v := 10) dX10_bestWish_1 (by decide) ?_
  refine aw_iload_n 2 dX10_bestWish_3 rfl rfl ?_
  refine aw_iadd dX10_bestWish_4 ?_
  obtain ⟨hi_1, h⟩ := h
  refine aw_ild dX10_bestWish_5 hb1.1 hb1.2 hi_1 ?_
  refine aw_topi (fun y_2 e_3 => ?_)
  have h := h y_2 e_3
  refine aw_istore_n (lv' := [(3, .int y_2), (0, .ref (sz + 131)), (1, .ref (sz + b1)), (2, .int x2)]) dX10_bestWish_6 rfl (by decide) rfl ?_
  refine aw_iload_n 0 dX10_bestWish_7 rfl rfl ?_
  refine aw_istore (lv' := [(4, .int y_2), (3, .int y_2), (0, .ref (sz + 131)), (1, .ref (sz + b1)), (2, .int x2)]) dX10_bestWish_8 (by decide) rfl ?_
  refine aw_aload_n 2 dX10_bestWish_10 rfl rfl ?_
  refine aw_aload_n 2 dX10_bestWish_11 rfl rfl ?_
  refine aw_aload_n 3 dX10_bestWish_12 rfl rfl ?_
  refine aw_aload_n 3 dX10_bestWish_13 rfl rfl ?_
  refine aw_bipush (v := 30) dX10_bestWish_14 (by decide) ?_
  obtain ⟨hi_4, h⟩ := h
  refine aw_ild dX10_bestWish_16 hb1.1 hb1.2 hi_4 ?_
  refine aw_callV wv_X10_stopOf (M_X10_stopOf hG ⟨hb1.1, hb1.2⟩ h) ml_X10_222 rfl (by decide) (lk131 hG) rfl rfl (Nat.le_of_ble_eq_true rfl) ⟨rfl, rfl⟩ ⟨Nat.le_of_ble_eq_true rfl, Nat.le_of_ble_eq_true rfl⟩ ⟨Nat.le_refl _, Nat.le_refl _⟩ dX10_bestWish_17 (aw_ki fun r_5 I_6 J_7 h => ?_)
  refine aw_aload_n 2 dX10_bestWish_20 rfl rfl ?_
  refine gf_X10_7 fl_X10_135 (lk131 hG) (lr131_7 hG) dX10_bestWish_21 ?_
  refine aw_iload_n 4 dX10_bestWish_24 rfl rfl ?_
  obtain ⟨hi_8, h⟩ := h
  refine aw_ild dX10_bestWish_25 (lk133 hG) (ln133 hG) hi_8 ?_
  refine aw_isub dX10_bestWish_26 ?_
  refine aw_mabs mm_X10_199 wm_abs (Nat.le_of_ble_eq_true rfl) (Nat.le_of_ble_eq_true rfl) ⟨Nat.le_refl _, Nat.le_refl _⟩ dX10_bestWish_27 ?_
  refine pf_X10_42 fl_X10_305 (lk131 hG) dX10_bestWish_30 (aw_nameI fun I_9 e_10 => ?_)
  have h := h I_9 e_10
  refine aw_iconst (v := (-1)) dX10_bestWish_33 (by decide) ?_
  refine aw_istore (lv' := [(5, .int (-1)), (4, .int y_2), (3, .int y_2), (0, .ref (sz + 131)), (1, .ref (sz + b1)), (2, .int x2)]) dX10_bestWish_34 (by decide) rfl ?_
  refine aw_sub [3, 4, 5, 2, 1, 0] rfl ?_
  obtain ⟨n_11, h⟩ := h
  exact tl_X10_bestWish_36 hG hb1  n_11 x2 y_2 y_2 (-1) I_9 J_7 h
theorem M_X10_bestWish {l : Launch} {D : va_G} {cy : Nat → ClassId} {sz : Nat} {G : sw_G} (hG : sw_lay G) {b1 : Nat} {n1 : Nat} (hb1 : sw_ia G b1 n1) {Q : Int32 → sw_I → sw_J → Prop} {x2 : Int32} {I : sw_I} {J : sw_J} (h : wp_X10_bestWish b1 n1 x2 I J Q) : Met l yX10_bestWish (Cond.code yX10_bestWish cX10_bestWish 7 (some .int) :: sw_T) rm_X10_bestWish (sw_Pc D cy sz [.ref (sz + 131), .ref (sz + b1), .int x2] G I J) (sw_Q D cy sz (sw_qi G Q)) 0 0 (fun q => sz ≤ q) :=
  sw_met (by decide) (fun q => by cases q) (Nat.le_of_ble_eq_true rfl) rfl (t_X10_bestWish hG hb1 h)
-- X10_advise
abbrev rm_X10_advise : Room := { frames := 6, cells := 0, slots := 0, locals := 141 }
def wp_X10_advise (x1 : Int32) (I : sw_I) (J : sw_J) (Q : Int32 → sw_I → sw_J → Prop) : Prop :=
  ∀ I_1 : sw_I, I_1 = sw_up I 131 0 (0 : Int32) → wp_X10_canLeave x1 I_1 J (fun r_3 I_4 J_5 => sw_if (r_3 = 0) (Q (-2 : Int32) I_4 J_5) (wp_X10_bestWish 135 33 x1 I_4 J_5 (fun r_7 I_8 J_9 => ∀ I_10 : sw_I, I_10 = sw_up I_8 131 1 (0 : Int32) → wp_X10_enters ((I_10 131 42).toInt64) I_10 J_9 (fun I_13 J_14 => Q r_7 I_13 J_14))))
set_option maxRecDepth 20000 in
theorem t_X10_advise {l : Launch} {D : va_G} {cy : Nat → ClassId} {sz : Nat} {G : sw_G} (hG : sw_lay G)   {Q : Int32 → sw_I → sw_J → Prop} {x1 : Int32} {I : sw_I} {J : sw_J} (h : wp_X10_advise x1 I J Q) : AW l D cy sz RX10 cX10_advise 3 (some .int) false rm_X10_advise 0 0 (sw_qi G Q) 0 0 G I J 0 [(0, .ref (sz + 131)), (1, .int x1)] [] := by
  unfold wp_X10_advise at h
  refine aw_aload_n 0 dX10_advise_0 rfl rfl ?_
  refine aw_iconst (v := 0) dX10_advise_1 (by decide) ?_
  refine pf_X10_0 fl_X10_3 (lk131 hG) dX10_advise_2 (aw_nameI fun I_1 e_2 => ?_)
  have h := h I_1 e_2
  refine aw_aload_n 0 dX10_advise_5 rfl rfl ?_
  refine aw_iload_n 1 dX10_advise_6 rfl rfl ?_
  refine aw_callV wv_X10_canLeave (M_X10_canLeave hG  h) ml_X10_258 rfl (by decide) (lk131 hG) rfl rfl (Nat.le_of_ble_eq_true rfl) ⟨rfl, rfl⟩ ⟨Nat.le_of_ble_eq_true rfl, Nat.le_of_ble_eq_true rfl⟩ ⟨Nat.le_refl _, Nat.le_refl _⟩ dX10_advise_7 (aw_ki fun r_3 I_4 J_5 h => ?_)
  refine aw_zne 16 dX10_advise_10 (by decide) (fun c_6 => ?_) (fun c_6 => ?_)
  · have h := sw_if.f h c_6
    refine aw_aload_n 0 dX10_advise_16 rfl rfl ?_
    refine aw_aload_n 0 dX10_advise_17 rfl rfl ?_
    refine gf_X10_9 fl_X10_79 (lk131 hG) (lr131_9 hG) dX10_advise_18 ?_
    refine aw_iload_n 1 dX10_advise_21 rfl rfl ?_
    refine aw_callV wv_X10_bestWish (M_X10_bestWish hG ⟨(lk135 hG), (ln135 hG)⟩ h) ml_X10_308 rfl (by decide) (lk131 hG) rfl rfl (Nat.le_of_ble_eq_true rfl) ⟨rfl, rfl⟩ ⟨Nat.le_of_ble_eq_true rfl, Nat.le_of_ble_eq_true rfl⟩ ⟨Nat.le_refl _, Nat.le_refl _⟩ dX10_advise_22 (aw_ki fun r_7 I_8 J_9 h => ?_)
    refine aw_istore_n (lv' := [(2, .int r_7), (0, .ref (sz + 131)), (1, .int x1)]) dX10_advise_25 rfl (by decide) rfl ?_
    refine aw_aload_n 1 dX10_advise_26 rfl rfl ?_
    refine aw_iconst (v := 0) dX10_advise_27 (by decide) ?_
    refine pf_X10_1 fl_X10_15 (lk131 hG) dX10_advise_28 (aw_nameI fun I_10 e_11 => ?_)
    have h := h I_10 e_11
    refine aw_aload_n 1 dX10_advise_31 rfl rfl ?_
    refine aw_aload_n 1 dX10_advise_32 rfl rfl ?_
    refine gf_X10_42 fl_X10_305 (lk131 hG) dX10_advise_33 ?_
    refine aw_i2l dX10_advise_36 ?_
    refine aw_callV wv_X10_enters (M_X10_enters hG  h) ml_X10_18 rfl (by decide) (lk131 hG) rfl rfl (Nat.le_of_ble_eq_true rfl) ⟨rfl, rfl⟩ ⟨Nat.le_of_ble_eq_true rfl, Nat.le_of_ble_eq_true rfl⟩ ⟨Nat.le_refl _, Nat.le_refl _⟩ dX10_advise_37 (aw_kv fun I_13 J_14 h => ?_)
    refine aw_iload_n 0 dX10_advise_40 rfl rfl ?_
    exact aw_iret rfl dX10_advise_41 ⟨rfl, _, rfl, h⟩
  · have h := sw_if.t h c_6
    refine aw_bipush (v := (-2)) dX10_advise_13 (by decide) ?_
    exact aw_iret rfl dX10_advise_15 ⟨rfl, _, rfl, h⟩
theorem M_X10_advise {l : Launch} {D : va_G} {cy : Nat → ClassId} {sz : Nat} {G : sw_G} (hG : sw_lay G)   {Q : Int32 → sw_I → sw_J → Prop} {x1 : Int32} {I : sw_I} {J : sw_J} (h : wp_X10_advise x1 I J Q) : Met l yX10_advise (Cond.code yX10_advise cX10_advise 3 (some .int) :: sw_T) rm_X10_advise (sw_Pc D cy sz [.ref (sz + 131), .int x1] G I J) (sw_Q D cy sz (sw_qi G Q)) 0 0 (fun q => sz ≤ q) :=
  sw_met (by decide) (fun q => by cases q) (Nat.le_of_ble_eq_true rfl) rfl (t_X10_advise hG  h)
-- X10_rests
abbrev rm_X10_rests : Room := { frames := 6, cells := 0, slots := 0, locals := 141 }
def wb_X10_rests_170  (K170 : Int32 → Int32 → sw_I → sw_J → Prop) (Q : Int32 → sw_I → sw_J → Prop) (x2 : Int32) (x4 : Int32) (I : sw_I) (J : sw_J) : Prop :=
  sw_if (x4 < (I 131 4)) (vp_in ((10 : Int32) + x4) 33 ∧ wp_X10_enters ((I 136 ((10 : Int32) + x4).toNatClampNeg).toInt64) I J (fun I_4 J_5 => ∀ y_6 : Int32, y_6 = x4 + 1 → K170 x2 y_6 I_4 J_5)) (Q x2 I J)
def wl_X10_rests_170   (Q : Int32 → sw_I → sw_J → Prop) : Nat → Int32 → Int32 → sw_I → sw_J → Prop
  | 0 => fun _ _ _ _ => False
  | n + 1 => fun x2 x4 I J => wb_X10_rests_170  (wl_X10_rests_170   Q n) Q x2 x4 I J
def wB_X10_rests_133   (Q : Int32 → sw_I → sw_J → Prop) (x2 : Int32) (x3 : Int32) (I : sw_I) (J : sw_J) : Prop :=
  ∀ I_1 : sw_I, I_1 = sw_up I 131 1 (0 : Int32) → wp_X10_flag x3 I_1 J (fun r_3 I_4 J_5 => wp_X10_enters r_3.toInt64 I_4 J_5 (fun I_7 J_8 => wp_X10_stopOf 136 33 (I_7 136 (30 : Int32).toNatClampNeg) I_7 J_8 (fun r_10 I_11 J_12 => wp_X10_enters r_10.toInt64 I_11 J_12 (fun I_14 J_15 => ∃ n_16 : Nat, wl_X10_rests_170   Q n_16 x2 0 I_14 J_15))))
def wB_X10_rests_121  (K48 : Int32 → Int32 → Int32 → Int32 → sw_I → sw_J → Prop) (Q : Int32 → sw_I → sw_J → Prop) (x1 : Int32) (x2 : Int32) (x3 : Int32) (x4 : Int32) (I : sw_I) (J : sw_J) : Prop :=
  ∀ y_1 : Int32, y_1 = x4 + 1 → K48 x1 x2 x3 y_1 I J
def wB_X10_rests_108  (K48 : Int32 → Int32 → Int32 → Int32 → sw_I → sw_J → Prop) (Q : Int32 → sw_I → sw_J → Prop) (x1 : Int32) (x2 : Int32) (x4 : Int32) (x5 : Int32) (s0 : Int32) (I : sw_I) (J : sw_J) : Prop :=
  vp_in ((10 : Int32) + x4) 33 ∧ ∀ I_2 : sw_I, I_2 = sw_up I 136 ((10 : Int32) + x4).toNatClampNeg x5 → wB_X10_rests_121  K48 Q x1 x2 s0 x4 I_2 J
def wB_X10_rests_107  (K48 : Int32 → Int32 → Int32 → Int32 → sw_I → sw_J → Prop) (Q : Int32 → sw_I → sw_J → Prop) (x1 : Int32) (x2 : Int32) (x4 : Int32) (x5 : Int32) (I : sw_I) (J : sw_J) : Prop :=
  wB_X10_rests_108  K48 Q x1 x2 x4 x5 0 I J
def wb_X10_rests_48  (K34 : Int32 → Int32 → Int32 → sw_I → sw_J → Prop) (K48 : Int32 → Int32 → Int32 → Int32 → sw_I → sw_J → Prop) (Q : Int32 → sw_I → sw_J → Prop) (x1 : Int32) (x2 : Int32) (x3 : Int32) (x4 : Int32) (I : sw_I) (J : sw_J) : Prop :=
  sw_if (x4 < (I 131 4)) (wp_X10_has (I 136 (30 : Int32).toNatClampNeg) x4 I J (fun r_5 I_6 J_7 => sw_if (r_5 = 0) (wB_X10_rests_121  K48 Q x1 x2 x3 x4 I_6 J_7) (wp_X10_bestWish 136 33 x4 I_6 J_7 (fun r_9 I_10 J_11 => sw_if (x3 = 0) (wB_X10_rests_107  K48 Q x1 x2 x4 r_9 I_10 J_11) (vp_in ((10 : Int32) + x4) 33 ∧ sw_if (r_9 = (I_10 136 ((10 : Int32) + x4).toNatClampNeg)) (wB_X10_rests_108  K48 Q x1 x2 x4 r_9 1 I_10 J_11) (wB_X10_rests_107  K48 Q x1 x2 x4 r_9 I_10 J_11)))))) (∀ y_2 : Int32, y_2 = x2 + 1 → K34 x1 y_2 x3 I J)
def wl_X10_rests_48  (K34 : Int32 → Int32 → Int32 → sw_I → sw_J → Prop) (Q : Int32 → sw_I → sw_J → Prop) : Nat → Int32 → Int32 → Int32 → Int32 → sw_I → sw_J → Prop
  | 0 => fun _ _ _ _ _ _ => False
  | n + 1 => fun x1 x2 x3 x4 I J => wb_X10_rests_48  K34 (wl_X10_rests_48  K34 Q n) Q x1 x2 x3 x4 I J
def wb_X10_rests_34  (K34 : Int32 → Int32 → Int32 → sw_I → sw_J → Prop) (Q : Int32 → sw_I → sw_J → Prop) (x1 : Int32) (x2 : Int32) (x3 : Int32) (I : sw_I) (J : sw_J) : Prop :=
  sw_if (x2 < x1) (sw_if (x3 = 0) (∃ n_3 : Nat, wl_X10_rests_48  K34 Q n_3 x1 x2 1 0 I J) (wB_X10_rests_133   Q x2 x3 I J)) (wB_X10_rests_133   Q x2 x3 I J)
def wl_X10_rests_34   (Q : Int32 → sw_I → sw_J → Prop) : Nat → Int32 → Int32 → Int32 → sw_I → sw_J → Prop
  | 0 => fun _ _ _ _ _ => False
  | n + 1 => fun x1 x2 x3 I J => wb_X10_rests_34  (wl_X10_rests_34   Q n) Q x1 x2 x3 I J
def wp_X10_rests (x1 : Int32) (I : sw_I) (J : sw_J) (Q : Int32 → sw_I → sw_J → Prop) : Prop :=
  ∀ I_1 : sw_I, I_1 = sw_up I 131 0 (0 : Int32) → wp_X10_in x1.toInt64 0 30 I_1 J (fun r_3 I_4 J_5 => sw_if (r_3 = 0) (Q (-1 : Int32) I_4 J_5) (wp_X10_puts 135 33 136 33 I_4 J_5 (fun I_8 J_9 => ∃ n_10 : Nat, wl_X10_rests_34   Q n_10 x1 0 0 I_8 J_9)))
set_option maxRecDepth 20000 in
theorem tb_X10_rests_170 {l : Launch} {D : va_G} {cy : Nat → ClassId} {sz : Nat} {G : sw_G} (hG : sw_lay G)   {Q : Int32 → sw_I → sw_J → Prop} {K170 : Int32 → Int32 → sw_I → sw_J → Prop} (hK170 : ∀ (x2 : Int32) (x4 : Int32) (I : sw_I) (J : sw_J), K170 x2 x4 I J → AW l D cy sz RX10 cX10_rests 6 (some .int) false rm_X10_rests 0 0 (sw_qi G Q) 0 0 G I J 170 [(0, .ref (sz + 131)), (2, .int x2), (4, .int x4)] []) {x2 : Int32} {x4 : Int32} {I : sw_I} {J : sw_J} (h : wb_X10_rests_170  K170 Q x2 x4 I J) : AW l D cy sz RX10 cX10_rests 6 (some .int) false rm_X10_rests 0 0 (sw_qi G Q) 0 0 G I J 170 [(0, .ref (sz + 131)), (2, .int x2), (4, .int x4)] [] := by
  unfold wb_X10_rests_170 at h
  refine aw_iload 2 dX10_rests_170 rfl ?_
  refine aw_aload_n 0 dX10_rests_172 rfl rfl ?_
  refine gf_X10_4 fl_X10_29 (lk131 hG) dX10_rests_173 ?_
  refine aw_jge 200 dX10_rests_176 (by decide) (fun c_1 => ?_) (fun c_1 => ?_)
  · have h := sw_if.f h c_1
    refine aw_iload_n 1 dX10_rests_200 rfl rfl ?_
    exact aw_iret rfl dX10_rests_201 ⟨rfl, _, rfl, h⟩
  · have h := sw_if.t h c_1
    refine aw_aload_n 0 dX10_rests_179 rfl rfl ?_
    refine aw_aload_n 0 dX10_rests_180 rfl rfl ?_
    refine gf_X10_10 fl_X10_313 (lk131 hG) (lr131_10 hG) dX10_rests_181 ?_
    refine aw_bipush (v := 10) dX10_rests_184 (by decide) ?_
    refine aw_iload 2 dX10_rests_186 rfl ?_
    refine aw_iadd dX10_rests_188 ?_
    obtain ⟨hi_2, h⟩ := h
    refine aw_ild dX10_rests_189 (lk136 hG) (ln136 hG) hi_2 ?_
    refine aw_i2l dX10_rests_190 ?_
    refine aw_callV wv_X10_enters (M_X10_enters hG  h) ml_X10_18 rfl (by decide) (lk131 hG) rfl rfl (Nat.le_of_ble_eq_true rfl) ⟨rfl, rfl⟩ ⟨Nat.le_of_ble_eq_true rfl, Nat.le_of_ble_eq_true rfl⟩ ⟨Nat.le_refl _, Nat.le_refl _⟩ dX10_rests_191 (aw_kv fun I_4 J_5 h => ?_)
    obtain ⟨y_6, e_7⟩ : ∃ q : Int32, q = x4 + 1 := ⟨_, rfl⟩
    have h := h y_6 e_7
    refine aw_iinc (lv' := [(4, .int y_6), (0, .ref (sz + 131)), (2, .int x2)]) 2 dX10_rests_194 rfl (by rw [e_7]; rfl) (by decide) rfl ?_
    refine aw_goto 170 dX10_rests_197 (by decide) ?_
    refine aw_sub [1, 2, 0] rfl ?_
    exact hK170 x2 y_6 I_4 J_5 h
set_option maxRecDepth 20000 in
theorem tl_X10_rests_170 {l : Launch} {D : va_G} {cy : Nat → ClassId} {sz : Nat} {G : sw_G} (hG : sw_lay G)   {Q : Int32 → sw_I → sw_J → Prop} : ∀ (n : Nat) (x2 : Int32) (x4 : Int32) (I : sw_I) (J : sw_J), wl_X10_rests_170   Q n x2 x4 I J → AW l D cy sz RX10 cX10_rests 6 (some .int) false rm_X10_rests 0 0 (sw_qi G Q) 0 0 G I J 170 [(0, .ref (sz + 131)), (2, .int x2), (4, .int x4)] [] := by
  intro n
  induction n with
  | zero => intro x2 x4 I J h; exact False.elim h
  | succ n ih => intro x2 x4 I J h; exact tb_X10_rests_170 hG  ih h
set_option maxRecDepth 20000 in
theorem t_X10_rests_133 {l : Launch} {D : va_G} {cy : Nat → ClassId} {sz : Nat} {G : sw_G} (hG : sw_lay G)   {Q : Int32 → sw_I → sw_J → Prop} {x2 : Int32} {x3 : Int32} {I : sw_I} {J : sw_J} (h : wB_X10_rests_133   Q x2 x3 I J) : AW l D cy sz RX10 cX10_rests 6 (some .int) false rm_X10_rests 0 0 (sw_qi G Q) 0 0 G I J 133 [(0, .ref (sz + 131)), (2, .int x2), (3, .int x3)] [] := by
  unfold wB_X10_rests_133 at h
  refine aw_aload_n 0 dX10_rests_133 rfl rfl ?_
  refine aw_iconst (v := 0) dX10_rests_134 (by decide) ?_
  refine pf_X10_1 fl_X10_15 (lk131 hG) dX10_rests_135 (aw_nameI fun I_1 e_2 => ?_)
  have h := h I_1 e_2
  refine aw_aload_n 0 dX10_rests_138 rfl rfl ?_
  refine aw_iload_n 2 dX10_rests_139 rfl rfl ?_
  refine aw_callS wv_X10_flag (M_X10_flag trivial  h) ml_X10_54 rfl rfl (Nat.le_of_ble_eq_true rfl) ⟨rfl, rfl⟩ ⟨Nat.le_of_ble_eq_true rfl, Nat.le_of_ble_eq_true rfl⟩ ⟨Nat.le_refl _, Nat.le_refl _⟩ dX10_rests_140 (aw_ki fun r_3 I_4 J_5 h => ?_)
  refine aw_i2l dX10_rests_143 ?_
  refine aw_callV wv_X10_enters (M_X10_enters hG  h) ml_X10_18 rfl (by decide) (lk131 hG) rfl rfl (Nat.le_of_ble_eq_true rfl) ⟨rfl, rfl⟩ ⟨Nat.le_of_ble_eq_true rfl, Nat.le_of_ble_eq_true rfl⟩ ⟨Nat.le_refl _, Nat.le_refl _⟩ dX10_rests_144 (aw_kv fun I_7 J_8 h => ?_)
  refine aw_aload_n 0 dX10_rests_147 rfl rfl ?_
  refine aw_aload_n 0 dX10_rests_148 rfl rfl ?_
  refine aw_aload_n 0 dX10_rests_149 rfl rfl ?_
  refine gf_X10_10 fl_X10_313 (lk131 hG) (lr131_10 hG) dX10_rests_150 ?_
  refine aw_aload_n 0 dX10_rests_153 rfl rfl ?_
  refine gf_X10_10 fl_X10_313 (lk131 hG) (lr131_10 hG) dX10_rests_154 ?_
  refine aw_bipush (v := 30) dX10_rests_157 (by decide) ?_
  refine aw_ild dX10_rests_159 (lk136 hG) (ln136 hG) (by unfold vp_in; decide) ?_
  refine aw_callV wv_X10_stopOf (M_X10_stopOf hG ⟨(lk136 hG), (ln136 hG)⟩ h) ml_X10_222 rfl (by decide) (lk131 hG) rfl rfl (Nat.le_of_ble_eq_true rfl) ⟨rfl, rfl⟩ ⟨Nat.le_of_ble_eq_true rfl, Nat.le_of_ble_eq_true rfl⟩ ⟨Nat.le_refl _, Nat.le_refl _⟩ dX10_rests_160 (aw_ki fun r_10 I_11 J_12 h => ?_)
  refine aw_i2l dX10_rests_163 ?_
  refine aw_callV wv_X10_enters (M_X10_enters hG  h) ml_X10_18 rfl (by decide) (lk131 hG) rfl rfl (Nat.le_of_ble_eq_true rfl) ⟨rfl, rfl⟩ ⟨Nat.le_of_ble_eq_true rfl, Nat.le_of_ble_eq_true rfl⟩ ⟨Nat.le_refl _, Nat.le_refl _⟩ dX10_rests_164 (aw_kv fun I_14 J_15 h => ?_)
  refine aw_iconst (v := 0) dX10_rests_167 (by decide) ?_
  refine aw_istore (lv' := [(4, .int 0), (0, .ref (sz + 131)), (2, .int x2), (3, .int x3)]) dX10_rests_168 (by decide) rfl ?_
  refine aw_sub [1, 2, 0] rfl ?_
  obtain ⟨n_16, h⟩ := h
  exact tl_X10_rests_170 hG   n_16 x2 0 I_14 J_15 h
set_option maxRecDepth 20000 in
theorem t_X10_rests_121 {l : Launch} {D : va_G} {cy : Nat → ClassId} {sz : Nat} {G : sw_G} (hG : sw_lay G)   {Q : Int32 → sw_I → sw_J → Prop} {K48 : Int32 → Int32 → Int32 → Int32 → sw_I → sw_J → Prop} (hK48 : ∀ (x1 : Int32) (x2 : Int32) (x3 : Int32) (x4 : Int32) (I : sw_I) (J : sw_J), K48 x1 x2 x3 x4 I J → AW l D cy sz RX10 cX10_rests 6 (some .int) false rm_X10_rests 0 0 (sw_qi G Q) 0 0 G I J 48 [(0, .ref (sz + 131)), (1, .int x1), (2, .int x2), (3, .int x3), (4, .int x4)] []) {x1 : Int32} {x2 : Int32} {x3 : Int32} {x4 : Int32} {I : sw_I} {J : sw_J} (h : wB_X10_rests_121  K48 Q x1 x2 x3 x4 I J) : AW l D cy sz RX10 cX10_rests 6 (some .int) false rm_X10_rests 0 0 (sw_qi G Q) 0 0 G I J 121 [(0, .ref (sz + 131)), (1, .int x1), (2, .int x2), (3, .int x3), (4, .int x4)] [] := by
  unfold wB_X10_rests_121 at h
  obtain ⟨y_1, e_2⟩ : ∃ q : Int32, q = x4 + 1 := ⟨_, rfl⟩
  have h := h y_1 e_2
  refine aw_iinc (lv' := [(4, .int y_1), (0, .ref (sz + 131)), (1, .int x1), (2, .int x2), (3, .int x3)]) 4 dX10_rests_121 rfl (by rw [e_2]; rfl) (by decide) rfl ?_
  refine aw_goto 48 dX10_rests_124 (by decide) ?_
  refine aw_sub [1, 2, 3, 4, 0] rfl ?_
  exact hK48 x1 x2 x3 y_1 I J h
set_option maxRecDepth 20000 in
theorem t_X10_rests_108 {l : Launch} {D : va_G} {cy : Nat → ClassId} {sz : Nat} {G : sw_G} (hG : sw_lay G)   {Q : Int32 → sw_I → sw_J → Prop} {K48 : Int32 → Int32 → Int32 → Int32 → sw_I → sw_J → Prop} (hK48 : ∀ (x1 : Int32) (x2 : Int32) (x3 : Int32) (x4 : Int32) (I : sw_I) (J : sw_J), K48 x1 x2 x3 x4 I J → AW l D cy sz RX10 cX10_rests 6 (some .int) false rm_X10_rests 0 0 (sw_qi G Q) 0 0 G I J 48 [(0, .ref (sz + 131)), (1, .int x1), (2, .int x2), (3, .int x3), (4, .int x4)] []) {x1 : Int32} {x2 : Int32} {x4 : Int32} {x5 : Int32} {s0 : Int32} {I : sw_I} {J : sw_J} (h : wB_X10_rests_108  K48 Q x1 x2 x4 x5 s0 I J) : AW l D cy sz RX10 cX10_rests 6 (some .int) false rm_X10_rests 0 0 (sw_qi G Q) 0 0 G I J 108 [(0, .ref (sz + 131)), (1, .int x1), (2, .int x2), (4, .int x4), (5, .int x5)] [.int s0] := by
  unfold wB_X10_rests_108 at h
  refine aw_istore_n (lv' := [(3, .int s0), (0, .ref (sz + 131)), (1, .int x1), (2, .int x2), (4, .int x4), (5, .int x5)]) dX10_rests_108 rfl (by decide) rfl ?_
  refine aw_aload_n 1 dX10_rests_109 rfl rfl ?_
  refine gf_X10_10 fl_X10_313 (lk131 hG) (lr131_10 hG) dX10_rests_110 ?_
  refine aw_bipush (v := 10) dX10_rests_113 (by decide) ?_
  refine aw_iload 4 dX10_rests_115 rfl ?_
  refine aw_iadd dX10_rests_117 ?_
  refine aw_iload 5 dX10_rests_118 rfl ?_
  obtain ⟨hi_1, h⟩ := h
  refine aw_ist dX10_rests_120 (lk136 hG) (ln136 hG) hi_1 (aw_nameI fun I_2 e_3 => ?_)
  have h := h I_2 e_3
  refine aw_sub [1, 2, 3, 0, 4] rfl ?_
  exact t_X10_rests_121 hG  hK48 h
set_option maxRecDepth 20000 in
theorem t_X10_rests_107 {l : Launch} {D : va_G} {cy : Nat → ClassId} {sz : Nat} {G : sw_G} (hG : sw_lay G)   {Q : Int32 → sw_I → sw_J → Prop} {K48 : Int32 → Int32 → Int32 → Int32 → sw_I → sw_J → Prop} (hK48 : ∀ (x1 : Int32) (x2 : Int32) (x3 : Int32) (x4 : Int32) (I : sw_I) (J : sw_J), K48 x1 x2 x3 x4 I J → AW l D cy sz RX10 cX10_rests 6 (some .int) false rm_X10_rests 0 0 (sw_qi G Q) 0 0 G I J 48 [(0, .ref (sz + 131)), (1, .int x1), (2, .int x2), (3, .int x3), (4, .int x4)] []) {x1 : Int32} {x2 : Int32} {x4 : Int32} {x5 : Int32} {I : sw_I} {J : sw_J} (h : wB_X10_rests_107  K48 Q x1 x2 x4 x5 I J) : AW l D cy sz RX10 cX10_rests 6 (some .int) false rm_X10_rests 0 0 (sw_qi G Q) 0 0 G I J 107 [(0, .ref (sz + 131)), (1, .int x1), (2, .int x2), (4, .int x4), (5, .int x5)] [] := by
  unfold wB_X10_rests_107 at h
  refine aw_iconst (v := 0) dX10_rests_107 (by decide) ?_
  refine aw_sub [0, 1, 2, 3, 4] rfl ?_
  exact t_X10_rests_108 hG  hK48 h
set_option maxRecDepth 20000 in
theorem tb_X10_rests_48 {l : Launch} {D : va_G} {cy : Nat → ClassId} {sz : Nat} {G : sw_G} (hG : sw_lay G)   {Q : Int32 → sw_I → sw_J → Prop} {K34 : Int32 → Int32 → Int32 → sw_I → sw_J → Prop} (hK34 : ∀ (x1 : Int32) (x2 : Int32) (x3 : Int32) (I : sw_I) (J : sw_J), K34 x1 x2 x3 I J → AW l D cy sz RX10 cX10_rests 6 (some .int) false rm_X10_rests 0 0 (sw_qi G Q) 0 0 G I J 34 [(0, .ref (sz + 131)), (1, .int x1), (2, .int x2), (3, .int x3)] []) {K48 : Int32 → Int32 → Int32 → Int32 → sw_I → sw_J → Prop} (hK48 : ∀ (x1 : Int32) (x2 : Int32) (x3 : Int32) (x4 : Int32) (I : sw_I) (J : sw_J), K48 x1 x2 x3 x4 I J → AW l D cy sz RX10 cX10_rests 6 (some .int) false rm_X10_rests 0 0 (sw_qi G Q) 0 0 G I J 48 [(0, .ref (sz + 131)), (1, .int x1), (2, .int x2), (3, .int x3), (4, .int x4)] []) {x1 : Int32} {x2 : Int32} {x3 : Int32} {x4 : Int32} {I : sw_I} {J : sw_J} (h : wb_X10_rests_48  K34 K48 Q x1 x2 x3 x4 I J) : AW l D cy sz RX10 cX10_rests 6 (some .int) false rm_X10_rests 0 0 (sw_qi G Q) 0 0 G I J 48 [(0, .ref (sz + 131)), (1, .int x1), (2, .int x2), (3, .int x3), (4, .int x4)] [] := by
  unfold wb_X10_rests_48 at h
  refine aw_iload 4 dX10_rests_48 rfl ?_
  refine aw_aload_n 0 dX10_rests_50 rfl rfl ?_
  refine gf_X10_4 fl_X10_29 (lk131 hG) dX10_rests_51 ?_
  refine aw_jge 127 dX10_rests_54 (by decide) (fun c_1 => ?_) (fun c_1 => ?_)
  · have h := sw_if.f h c_1
    obtain ⟨y_2, e_3⟩ : ∃ q : Int32, q = x2 + 1 := ⟨_, rfl⟩
    have h := h y_2 e_3
    refine aw_iinc (lv' := [(2, .int y_2), (0, .ref (sz + 131)), (1, .int x1), (3, .int x3), (4, .int x4)]) 2 dX10_rests_127 rfl (by rw [e_3]; rfl) (by decide) rfl ?_
    refine aw_goto 34 dX10_rests_130 (by decide) ?_
    refine aw_sub [1, 2, 0, 3] rfl ?_
    exact hK34 x1 y_2 x3 I J h
  · have h := sw_if.t h c_1
    refine aw_aload_n 0 dX10_rests_57 rfl rfl ?_
    refine gf_X10_10 fl_X10_313 (lk131 hG) (lr131_10 hG) dX10_rests_58 ?_
    refine aw_bipush (v := 30) dX10_rests_61 (by decide) ?_
    refine aw_ild dX10_rests_63 (lk136 hG) (ln136 hG) (by unfold vp_in; decide) ?_
    refine aw_iload 4 dX10_rests_64 rfl ?_
    refine aw_callS wv_X10_has (M_X10_has trivial  h) ml_X10_195 rfl rfl (Nat.le_of_ble_eq_true rfl) ⟨rfl, rfl⟩ ⟨Nat.le_of_ble_eq_true rfl, Nat.le_of_ble_eq_true rfl⟩ ⟨Nat.le_refl _, Nat.le_refl _⟩ dX10_rests_66 (aw_ki fun r_5 I_6 J_7 h => ?_)
    refine aw_zeq 121 dX10_rests_69 (by decide) (fun c_8 => ?_) (fun c_8 => ?_)
    · have h := sw_if.t h c_8
      refine aw_sub [0, 1, 2, 3, 4] rfl ?_
      exact t_X10_rests_121 hG  hK48 h
    · have h := sw_if.f h c_8
      refine aw_aload_n 0 dX10_rests_72 rfl rfl ?_
      refine aw_aload_n 0 dX10_rests_73 rfl rfl ?_
      refine gf_X10_10 fl_X10_313 (lk131 hG) (lr131_10 hG) dX10_rests_74 ?_
      refine aw_iload 4 dX10_rests_77 rfl ?_
      refine aw_callV wv_X10_bestWish (M_X10_bestWish hG ⟨(lk136 hG), (ln136 hG)⟩ h) ml_X10_308 rfl (by decide) (lk131 hG) rfl rfl (Nat.le_of_ble_eq_true rfl) ⟨rfl, rfl⟩ ⟨Nat.le_of_ble_eq_true rfl, Nat.le_of_ble_eq_true rfl⟩ ⟨Nat.le_refl _, Nat.le_refl _⟩ dX10_rests_79 (aw_ki fun r_9 I_10 J_11 h => ?_)
      refine aw_istore (lv' := [(5, .int r_9), (0, .ref (sz + 131)), (1, .int x1), (2, .int x2), (3, .int x3), (4, .int x4)]) dX10_rests_82 (by decide) rfl ?_
      refine aw_iload_n 4 dX10_rests_84 rfl rfl ?_
      refine aw_zeq 107 dX10_rests_85 (by decide) (fun c_12 => ?_) (fun c_12 => ?_)
      · have h := sw_if.t h c_12
        refine aw_sub [1, 2, 3, 5, 0] rfl ?_
        exact t_X10_rests_107 hG  hK48 h
      · have h := sw_if.f h c_12
        refine aw_iload 0 dX10_rests_88 rfl ?_
        refine aw_aload_n 1 dX10_rests_90 rfl rfl ?_
        refine gf_X10_10 fl_X10_313 (lk131 hG) (lr131_10 hG) dX10_rests_91 ?_
        refine aw_bipush (v := 10) dX10_rests_94 (by decide) ?_
        refine aw_iload 5 dX10_rests_96 rfl ?_
        refine aw_iadd dX10_rests_98 ?_
        obtain ⟨hi_13, h⟩ := h
        refine aw_ild dX10_rests_99 (lk136 hG) (ln136 hG) hi_13 ?_
        refine aw_jne 107 dX10_rests_100 (by decide) (fun c_14 => ?_) (fun c_14 => ?_)
        · have h := sw_if.f h c_14
          refine aw_sub [1, 2, 3, 5, 0] rfl ?_
          exact t_X10_rests_107 hG  hK48 h
        · have h := sw_if.t h c_14
          refine aw_iconst (v := 1) dX10_rests_103 (by decide) ?_
          refine aw_goto 108 dX10_rests_104 (by decide) ?_
          refine aw_sub [1, 2, 3, 5, 0] rfl ?_
          exact t_X10_rests_108 hG  hK48 h
set_option maxRecDepth 20000 in
theorem tl_X10_rests_48 {l : Launch} {D : va_G} {cy : Nat → ClassId} {sz : Nat} {G : sw_G} (hG : sw_lay G)   {Q : Int32 → sw_I → sw_J → Prop} {K34 : Int32 → Int32 → Int32 → sw_I → sw_J → Prop} (hK34 : ∀ (x1 : Int32) (x2 : Int32) (x3 : Int32) (I : sw_I) (J : sw_J), K34 x1 x2 x3 I J → AW l D cy sz RX10 cX10_rests 6 (some .int) false rm_X10_rests 0 0 (sw_qi G Q) 0 0 G I J 34 [(0, .ref (sz + 131)), (1, .int x1), (2, .int x2), (3, .int x3)] []) : ∀ (n : Nat) (x1 : Int32) (x2 : Int32) (x3 : Int32) (x4 : Int32) (I : sw_I) (J : sw_J), wl_X10_rests_48  K34 Q n x1 x2 x3 x4 I J → AW l D cy sz RX10 cX10_rests 6 (some .int) false rm_X10_rests 0 0 (sw_qi G Q) 0 0 G I J 48 [(0, .ref (sz + 131)), (1, .int x1), (2, .int x2), (3, .int x3), (4, .int x4)] [] := by
  intro n
  induction n with
  | zero => intro x1 x2 x3 x4 I J h; exact False.elim h
  | succ n ih => intro x1 x2 x3 x4 I J h; exact tb_X10_rests_48 hG  hK34 ih h
set_option maxRecDepth 20000 in
theorem tb_X10_rests_34 {l : Launch} {D : va_G} {cy : Nat → ClassId} {sz : Nat} {G : sw_G} (hG : sw_lay G)   {Q : Int32 → sw_I → sw_J → Prop} {K34 : Int32 → Int32 → Int32 → sw_I → sw_J → Prop} (hK34 : ∀ (x1 : Int32) (x2 : Int32) (x3 : Int32) (I : sw_I) (J : sw_J), K34 x1 x2 x3 I J → AW l D cy sz RX10 cX10_rests 6 (some .int) false rm_X10_rests 0 0 (sw_qi G Q) 0 0 G I J 34 [(0, .ref (sz + 131)), (1, .int x1), (2, .int x2), (3, .int x3)] []) {x1 : Int32} {x2 : Int32} {x3 : Int32} {I : sw_I} {J : sw_J} (h : wb_X10_rests_34  K34 Q x1 x2 x3 I J) : AW l D cy sz RX10 cX10_rests 6 (some .int) false rm_X10_rests 0 0 (sw_qi G Q) 0 0 G I J 34 [(0, .ref (sz + 131)), (1, .int x1), (2, .int x2), (3, .int x3)] [] := by
  unfold wb_X10_rests_34 at h
  refine aw_iload_n 2 dX10_rests_34 rfl rfl ?_
  refine aw_iload_n 1 dX10_rests_35 rfl rfl ?_
  refine aw_jge 133 dX10_rests_36 (by decide) (fun c_1 => ?_) (fun c_1 => ?_)
  · have h := sw_if.f h c_1
    refine aw_sub [0, 2, 3] rfl ?_
    exact t_X10_rests_133 hG   h
  · have h := sw_if.t h c_1
    refine aw_iload_n 3 dX10_rests_39 rfl rfl ?_
    refine aw_zne 133 dX10_rests_40 (by decide) (fun c_2 => ?_) (fun c_2 => ?_)
    · have h := sw_if.f h c_2
      refine aw_sub [0, 2, 3] rfl ?_
      exact t_X10_rests_133 hG   h
    · have h := sw_if.t h c_2
      refine aw_iconst (v := 1) dX10_rests_43 (by decide) ?_
      refine aw_istore_n (lv' := [(3, .int 1), (0, .ref (sz + 131)), (1, .int x1), (2, .int x2)]) dX10_rests_44 rfl (by decide) rfl ?_
      refine aw_iconst (v := 0) dX10_rests_45 (by decide) ?_
      refine aw_istore (lv' := [(4, .int 0), (3, .int 1), (0, .ref (sz + 131)), (1, .int x1), (2, .int x2)]) dX10_rests_46 (by decide) rfl ?_
      refine aw_sub [2, 3, 4, 1, 0] rfl ?_
      obtain ⟨n_3, h⟩ := h
      exact tl_X10_rests_48 hG  hK34 n_3 x1 x2 1 0 I J h
set_option maxRecDepth 20000 in
theorem tl_X10_rests_34 {l : Launch} {D : va_G} {cy : Nat → ClassId} {sz : Nat} {G : sw_G} (hG : sw_lay G)   {Q : Int32 → sw_I → sw_J → Prop} : ∀ (n : Nat) (x1 : Int32) (x2 : Int32) (x3 : Int32) (I : sw_I) (J : sw_J), wl_X10_rests_34   Q n x1 x2 x3 I J → AW l D cy sz RX10 cX10_rests 6 (some .int) false rm_X10_rests 0 0 (sw_qi G Q) 0 0 G I J 34 [(0, .ref (sz + 131)), (1, .int x1), (2, .int x2), (3, .int x3)] [] := by
  intro n
  induction n with
  | zero => intro x1 x2 x3 I J h; exact False.elim h
  | succ n ih => intro x1 x2 x3 I J h; exact tb_X10_rests_34 hG  ih h
set_option maxRecDepth 20000 in
theorem t_X10_rests {l : Launch} {D : va_G} {cy : Nat → ClassId} {sz : Nat} {G : sw_G} (hG : sw_lay G)   {Q : Int32 → sw_I → sw_J → Prop} {x1 : Int32} {I : sw_I} {J : sw_J} (h : wp_X10_rests x1 I J Q) : AW l D cy sz RX10 cX10_rests 6 (some .int) false rm_X10_rests 0 0 (sw_qi G Q) 0 0 G I J 0 [(0, .ref (sz + 131)), (1, .int x1)] [] := by
  unfold wp_X10_rests at h
  refine aw_aload_n 0 dX10_rests_0 rfl rfl ?_
  refine aw_iconst (v := 0) dX10_rests_1 (by decide) ?_
  refine pf_X10_0 fl_X10_3 (lk131 hG) dX10_rests_2 (aw_nameI fun I_1 e_2 => ?_)
  have h := h I_1 e_2
  refine aw_iload_n 1 dX10_rests_5 rfl rfl ?_
  refine aw_i2l dX10_rests_6 ?_
  refine aw_lconst (v := 0) dX10_rests_7 (by decide) ?_
  refine aw_ldc2 (v := 30) dX10_rests_8 k_X10_311 ?_
  refine aw_callS wv_X10_in (M_X10_in trivial  h) ml_X10_25 rfl rfl (Nat.le_of_ble_eq_true rfl) ⟨rfl, rfl⟩ ⟨Nat.le_of_ble_eq_true rfl, Nat.le_of_ble_eq_true rfl⟩ ⟨Nat.le_refl _, Nat.le_refl _⟩ dX10_rests_11 (aw_ki fun r_3 I_4 J_5 h => ?_)
  refine aw_zne 19 dX10_rests_14 (by decide) (fun c_6 => ?_) (fun c_6 => ?_)
  · have h := sw_if.f h c_6
    refine aw_aload_n 0 dX10_rests_19 rfl rfl ?_
    refine gf_X10_9 fl_X10_79 (lk131 hG) (lr131_9 hG) dX10_rests_20 ?_
    refine aw_aload_n 0 dX10_rests_23 rfl rfl ?_
    refine gf_X10_10 fl_X10_313 (lk131 hG) (lr131_10 hG) dX10_rests_24 ?_
    refine aw_callS wv_X10_puts (M_X10_puts trivial ⟨(lk135 hG), (ln135 hG)⟩ ⟨(lk136 hG), (ln136 hG)⟩ h) ml_X10_316 rfl rfl (Nat.le_of_ble_eq_true rfl) ⟨rfl, rfl⟩ ⟨Nat.le_of_ble_eq_true rfl, Nat.le_of_ble_eq_true rfl⟩ ⟨Nat.le_refl _, Nat.le_refl _⟩ dX10_rests_27 (aw_kv fun I_8 J_9 h => ?_)
    refine aw_iconst (v := 0) dX10_rests_30 (by decide) ?_
    refine aw_istore_n (lv' := [(2, .int 0), (0, .ref (sz + 131)), (1, .int x1)]) dX10_rests_31 rfl (by decide) rfl ?_
    refine aw_iconst (v := 0) dX10_rests_32 (by decide) ?_
    refine aw_istore_n (lv' := [(3, .int 0), (2, .int 0), (0, .ref (sz + 131)), (1, .int x1)]) dX10_rests_33 rfl (by decide) rfl ?_
    refine aw_sub [2, 3, 1, 0] rfl ?_
    obtain ⟨n_10, h⟩ := h
    exact tl_X10_rests_34 hG   n_10 x1 0 0 I_8 J_9 h
  · have h := sw_if.t h c_6
    refine aw_iconst (v := (-1)) dX10_rests_17 (by decide) ?_
    exact aw_iret rfl dX10_rests_18 ⟨rfl, _, rfl, h⟩
theorem M_X10_rests {l : Launch} {D : va_G} {cy : Nat → ClassId} {sz : Nat} {G : sw_G} (hG : sw_lay G)   {Q : Int32 → sw_I → sw_J → Prop} {x1 : Int32} {I : sw_I} {J : sw_J} (h : wp_X10_rests x1 I J Q) : Met l yX10_rests (Cond.code yX10_rests cX10_rests 6 (some .int) :: sw_T) rm_X10_rests (sw_Pc D cy sz [.ref (sz + 131), .int x1] G I J) (sw_Q D cy sz (sw_qi G Q)) 0 0 (fun q => sz ≤ q) :=
  sw_met (by decide) (fun q => by cases q) (Nat.le_of_ble_eq_true rfl) rfl (t_X10_rests hG  h)
-- X10_then
abbrev rm_X10_then : Room := { frames := 6, cells := 0, slots := 0, locals := 140 }
def wb_X10_then_39  (K39 : Int32 → Int32 → Int32 → sw_I → sw_J → Prop) (Q : Int32 → sw_I → sw_J → Prop) (x1 : Int32) (x2 : Int32) (x3 : Int32) (I : sw_I) (J : sw_J) : Prop :=
  sw_if (x3 < x1) (wp_X10_travels 136 33 (I 136 (30 : Int32).toNatClampNeg) I J (fun r_3 I_4 J_5 => wp_J6_bitCount_0f7a4 r_3 I_4 J_5 (fun r_6 I_7 J_8 => ∀ y_9 : Int32, y_9 = x2 + r_6 → wp_X10_enters ((I_7 136 (31 : Int32).toNatClampNeg).toInt64) I_7 J_8 (fun I_13 J_14 => ∀ y_15 : Int32, y_15 = x3 + 1 → K39 x1 y_9 y_15 I_13 J_14)))) (Q x2 I J)
def wl_X10_then_39   (Q : Int32 → sw_I → sw_J → Prop) : Nat → Int32 → Int32 → Int32 → sw_I → sw_J → Prop
  | 0 => fun _ _ _ _ _ => False
  | n + 1 => fun x1 x2 x3 I J => wb_X10_then_39  (wl_X10_then_39   Q n) Q x1 x2 x3 I J
def wp_X10_then (x1 : Int32) (I : sw_I) (J : sw_J) (Q : Int32 → sw_I → sw_J → Prop) : Prop :=
  ∀ I_1 : sw_I, I_1 = sw_up I 131 0 (0 : Int32) → wp_X10_in x1.toInt64 0 12 I_1 J (fun r_3 I_4 J_5 => sw_if (r_3 = 0) (Q (-1 : Int32) I_4 J_5) (wp_X10_puts 135 33 136 33 I_4 J_5 (fun I_8 J_9 => ∀ I_10 : sw_I, I_10 = sw_up I_8 131 1 (0 : Int32) → ∃ n_12 : Nat, wl_X10_then_39   Q n_12 x1 0 0 I_10 J_9)))
set_option maxRecDepth 20000 in
theorem tb_X10_then_39 {l : Launch} {D : va_G} {cy : Nat → ClassId} {sz : Nat} {G : sw_G} (hG : sw_lay G)   {Q : Int32 → sw_I → sw_J → Prop} {K39 : Int32 → Int32 → Int32 → sw_I → sw_J → Prop} (hK39 : ∀ (x1 : Int32) (x2 : Int32) (x3 : Int32) (I : sw_I) (J : sw_J), K39 x1 x2 x3 I J → AW l D cy sz RX10 cX10_then 4 (some .int) false rm_X10_then 0 0 (sw_qi G Q) 0 0 G I J 39 [(0, .ref (sz + 131)), (1, .int x1), (2, .int x2), (3, .int x3)] []) {x1 : Int32} {x2 : Int32} {x3 : Int32} {I : sw_I} {J : sw_J} (h : wb_X10_then_39  K39 Q x1 x2 x3 I J) : AW l D cy sz RX10 cX10_then 4 (some .int) false rm_X10_then 0 0 (sw_qi G Q) 0 0 G I J 39 [(0, .ref (sz + 131)), (1, .int x1), (2, .int x2), (3, .int x3)] [] := by
  unfold wb_X10_then_39 at h
  refine aw_iload_n 3 dX10_then_39 rfl rfl ?_
  refine aw_iload_n 1 dX10_then_40 rfl rfl ?_
  refine aw_jge 83 dX10_then_41 (by decide) (fun c_1 => ?_) (fun c_1 => ?_)
  · have h := sw_if.f h c_1
    refine aw_iload_n 2 dX10_then_83 rfl rfl ?_
    exact aw_iret rfl dX10_then_84 ⟨rfl, _, rfl, h⟩
  · have h := sw_if.t h c_1
    refine aw_iload_n 2 dX10_then_44 rfl rfl ?_
    refine aw_aload_n 0 dX10_then_45 rfl rfl ?_
    refine aw_aload_n 0 dX10_then_46 rfl rfl ?_
    refine gf_X10_10 fl_X10_313 (lk131 hG) (lr131_10 hG) dX10_then_47 ?_
    refine aw_aload_n 0 dX10_then_50 rfl rfl ?_
    refine gf_X10_10 fl_X10_313 (lk131 hG) (lr131_10 hG) dX10_then_51 ?_
    refine aw_bipush (v := 30) dX10_then_54 (by decide) ?_
    refine aw_ild dX10_then_56 (lk136 hG) (ln136 hG) (by unfold vp_in; decide) ?_
    refine aw_callV wv_X10_travels (M_X10_travels hG ⟨(lk136 hG), (ln136 hG)⟩ h) ml_X10_261 rfl (by decide) (lk131 hG) rfl rfl (Nat.le_of_ble_eq_true rfl) ⟨rfl, rfl⟩ ⟨Nat.le_of_ble_eq_true rfl, Nat.le_of_ble_eq_true rfl⟩ ⟨Nat.le_refl _, Nat.le_refl _⟩ dX10_then_57 (aw_ki fun r_3 I_4 J_5 h => ?_)
    refine aw_callS wv_J6_bitCount_0f7a4 (M_J6_bitCount_0f7a4 trivial  h) ml_X10_175 rfl rfl (Nat.le_of_ble_eq_true rfl) ⟨rfl, rfl⟩ ⟨Nat.le_of_ble_eq_true rfl, Nat.le_of_ble_eq_true rfl⟩ ⟨Nat.le_refl _, Nat.le_refl _⟩ dX10_then_60 (aw_ki fun r_6 I_7 J_8 h => ?_)
    refine aw_iadd dX10_then_63 ?_
    refine aw_topi (fun y_9 e_10 => ?_)
    have h := h y_9 e_10
    refine aw_istore_n (lv' := [(2, .int y_9), (0, .ref (sz + 131)), (1, .int x1), (3, .int x3)]) dX10_then_64 rfl (by decide) rfl ?_
    refine aw_aload_n 1 dX10_then_65 rfl rfl ?_
    refine aw_aload_n 1 dX10_then_66 rfl rfl ?_
    refine gf_X10_10 fl_X10_313 (lk131 hG) (lr131_10 hG) dX10_then_67 ?_
    refine aw_bipush (v := 31) dX10_then_70 (by decide) ?_
    refine aw_ild dX10_then_72 (lk136 hG) (ln136 hG) (by unfold vp_in; decide) ?_
    refine aw_i2l dX10_then_73 ?_
    refine aw_callV wv_X10_enters (M_X10_enters hG  h) ml_X10_18 rfl (by decide) (lk131 hG) rfl rfl (Nat.le_of_ble_eq_true rfl) ⟨rfl, rfl⟩ ⟨Nat.le_of_ble_eq_true rfl, Nat.le_of_ble_eq_true rfl⟩ ⟨Nat.le_refl _, Nat.le_refl _⟩ dX10_then_74 (aw_kv fun I_13 J_14 h => ?_)
    obtain ⟨y_15, e_16⟩ : ∃ q : Int32, q = x3 + 1 := ⟨_, rfl⟩
    have h := h y_15 e_16
    refine aw_iinc (lv' := [(3, .int y_15), (2, .int y_9), (0, .ref (sz + 131)), (1, .int x1)]) 3 dX10_then_77 rfl (by rw [e_16]; rfl) (by decide) rfl ?_
    refine aw_goto 39 dX10_then_80 (by decide) ?_
    refine aw_sub [2, 3, 1, 0] rfl ?_
    exact hK39 x1 y_9 y_15 I_13 J_14 h
set_option maxRecDepth 20000 in
theorem tl_X10_then_39 {l : Launch} {D : va_G} {cy : Nat → ClassId} {sz : Nat} {G : sw_G} (hG : sw_lay G)   {Q : Int32 → sw_I → sw_J → Prop} : ∀ (n : Nat) (x1 : Int32) (x2 : Int32) (x3 : Int32) (I : sw_I) (J : sw_J), wl_X10_then_39   Q n x1 x2 x3 I J → AW l D cy sz RX10 cX10_then 4 (some .int) false rm_X10_then 0 0 (sw_qi G Q) 0 0 G I J 39 [(0, .ref (sz + 131)), (1, .int x1), (2, .int x2), (3, .int x3)] [] := by
  intro n
  induction n with
  | zero => intro x1 x2 x3 I J h; exact False.elim h
  | succ n ih => intro x1 x2 x3 I J h; exact tb_X10_then_39 hG  ih h
set_option maxRecDepth 20000 in
theorem t_X10_then {l : Launch} {D : va_G} {cy : Nat → ClassId} {sz : Nat} {G : sw_G} (hG : sw_lay G)   {Q : Int32 → sw_I → sw_J → Prop} {x1 : Int32} {I : sw_I} {J : sw_J} (h : wp_X10_then x1 I J Q) : AW l D cy sz RX10 cX10_then 4 (some .int) false rm_X10_then 0 0 (sw_qi G Q) 0 0 G I J 0 [(0, .ref (sz + 131)), (1, .int x1)] [] := by
  unfold wp_X10_then at h
  refine aw_aload_n 0 dX10_then_0 rfl rfl ?_
  refine aw_iconst (v := 0) dX10_then_1 (by decide) ?_
  refine pf_X10_0 fl_X10_3 (lk131 hG) dX10_then_2 (aw_nameI fun I_1 e_2 => ?_)
  have h := h I_1 e_2
  refine aw_iload_n 1 dX10_then_5 rfl rfl ?_
  refine aw_i2l dX10_then_6 ?_
  refine aw_lconst (v := 0) dX10_then_7 (by decide) ?_
  refine aw_ldc2 (v := 12) dX10_then_8 k_X10_320 ?_
  refine aw_callS wv_X10_in (M_X10_in trivial  h) ml_X10_25 rfl rfl (Nat.le_of_ble_eq_true rfl) ⟨rfl, rfl⟩ ⟨Nat.le_of_ble_eq_true rfl, Nat.le_of_ble_eq_true rfl⟩ ⟨Nat.le_refl _, Nat.le_refl _⟩ dX10_then_11 (aw_ki fun r_3 I_4 J_5 h => ?_)
  refine aw_zne 19 dX10_then_14 (by decide) (fun c_6 => ?_) (fun c_6 => ?_)
  · have h := sw_if.f h c_6
    refine aw_aload_n 0 dX10_then_19 rfl rfl ?_
    refine gf_X10_9 fl_X10_79 (lk131 hG) (lr131_9 hG) dX10_then_20 ?_
    refine aw_aload_n 0 dX10_then_23 rfl rfl ?_
    refine gf_X10_10 fl_X10_313 (lk131 hG) (lr131_10 hG) dX10_then_24 ?_
    refine aw_callS wv_X10_puts (M_X10_puts trivial ⟨(lk135 hG), (ln135 hG)⟩ ⟨(lk136 hG), (ln136 hG)⟩ h) ml_X10_316 rfl rfl (Nat.le_of_ble_eq_true rfl) ⟨rfl, rfl⟩ ⟨Nat.le_of_ble_eq_true rfl, Nat.le_of_ble_eq_true rfl⟩ ⟨Nat.le_refl _, Nat.le_refl _⟩ dX10_then_27 (aw_kv fun I_8 J_9 h => ?_)
    refine aw_iconst (v := 0) dX10_then_30 (by decide) ?_
    refine aw_istore_n (lv' := [(2, .int 0), (0, .ref (sz + 131)), (1, .int x1)]) dX10_then_31 rfl (by decide) rfl ?_
    refine aw_aload_n 1 dX10_then_32 rfl rfl ?_
    refine aw_iconst (v := 0) dX10_then_33 (by decide) ?_
    refine pf_X10_1 fl_X10_15 (lk131 hG) dX10_then_34 (aw_nameI fun I_10 e_11 => ?_)
    have h := h I_10 e_11
    refine aw_iconst (v := 0) dX10_then_37 (by decide) ?_
    refine aw_istore_n (lv' := [(3, .int 0), (2, .int 0), (0, .ref (sz + 131)), (1, .int x1)]) dX10_then_38 rfl (by decide) rfl ?_
    refine aw_sub [2, 3, 1, 0] rfl ?_
    obtain ⟨n_12, h⟩ := h
    exact tl_X10_then_39 hG   n_12 x1 0 0 I_10 J_9 h
  · have h := sw_if.t h c_6
    refine aw_iconst (v := (-1)) dX10_then_17 (by decide) ?_
    exact aw_iret rfl dX10_then_18 ⟨rfl, _, rfl, h⟩
theorem M_X10_then {l : Launch} {D : va_G} {cy : Nat → ClassId} {sz : Nat} {G : sw_G} (hG : sw_lay G)   {Q : Int32 → sw_I → sw_J → Prop} {x1 : Int32} {I : sw_I} {J : sw_J} (h : wp_X10_then x1 I J Q) : Met l yX10_then (Cond.code yX10_then cX10_then 4 (some .int) :: sw_T) rm_X10_then (sw_Pc D cy sz [.ref (sz + 131), .int x1] G I J) (sw_Q D cy sz (sw_qi G Q)) 0 0 (fun q => sz ≤ q) :=
  sw_met (by decide) (fun q => by cases q) (Nat.le_of_ble_eq_true rfl) rfl (t_X10_then hG  h)
-- X10_since
abbrev rm_X10_since : Room := { frames := 6, cells := 0, slots := 0, locals := 140 }
def wb_X10_since_38  (K38 : Int32 → Int32 → sw_I → sw_J → Prop) (Q : Int32 → sw_I → sw_J → Prop) (x1 : Int32) (x2 : Int32) (I : sw_I) (J : sw_J) : Prop :=
  sw_if ((693 : Int32) < x2) (Q (-2 : Int32) I J) (wp_X10_travels 136 33 (I 136 (30 : Int32).toNatClampNeg) I J (fun r_3 I_4 J_5 => wp_X10_has r_3 x1 I_4 J_5 (fun r_6 I_7 J_8 => sw_if (r_6 = 0) (∀ y_10 : Int32, y_10 = x2 + 1 → K38 x1 y_10 I_7 J_8) (Q x2 I_7 J_8))))
def wl_X10_since_38   (Q : Int32 → sw_I → sw_J → Prop) : Nat → Int32 → Int32 → sw_I → sw_J → Prop
  | 0 => fun _ _ _ _ => False
  | n + 1 => fun x1 x2 I J => wb_X10_since_38  (wl_X10_since_38   Q n) Q x1 x2 I J
def wp_X10_since (x1 : Int32) (I : sw_I) (J : sw_J) (Q : Int32 → sw_I → sw_J → Prop) : Prop :=
  ∀ I_1 : sw_I, I_1 = sw_up I 131 0 (0 : Int32) → wp_X10_canLeave x1 I_1 J (fun r_3 I_4 J_5 => sw_if (r_3 = 0) (Q (-1 : Int32) I_4 J_5) (wp_X10_countsRides  I_4 J_5 (fun r_7 I_8 J_9 => sw_if (r_7 = 0) (wp_X10_puts 135 33 136 33 I_8 J_9 (fun I_12 J_13 => ∃ n_14 : Nat, wl_X10_since_38   Q n_14 x1 1 I_12 J_13)) (Q (-4 : Int32) I_8 J_9))))
set_option maxRecDepth 20000 in
theorem tb_X10_since_38 {l : Launch} {D : va_G} {cy : Nat → ClassId} {sz : Nat} {G : sw_G} (hG : sw_lay G)   {Q : Int32 → sw_I → sw_J → Prop} {K38 : Int32 → Int32 → sw_I → sw_J → Prop} (hK38 : ∀ (x1 : Int32) (x2 : Int32) (I : sw_I) (J : sw_J), K38 x1 x2 I J → AW l D cy sz RX10 cX10_since 3 (some .int) false rm_X10_since 0 0 (sw_qi G Q) 0 0 G I J 38 [(0, .ref (sz + 131)), (1, .int x1), (2, .int x2)] []) {x1 : Int32} {x2 : Int32} {I : sw_I} {J : sw_J} (h : wb_X10_since_38  K38 Q x1 x2 I J) : AW l D cy sz RX10 cX10_since 3 (some .int) false rm_X10_since 0 0 (sw_qi G Q) 0 0 G I J 38 [(0, .ref (sz + 131)), (1, .int x1), (2, .int x2)] [] := by
  unfold wb_X10_since_38 at h
  refine aw_iload_n 2 dX10_since_38 rfl rfl ?_
  refine aw_sipush (v := 693) dX10_since_39 (by decide) ?_
  refine aw_jgt 75 dX10_since_42 (by decide) (fun c_1 => ?_) (fun c_1 => ?_)
  · have h := sw_if.t h c_1
    refine aw_bipush (v := (-2)) dX10_since_75 (by decide) ?_
    exact aw_iret rfl dX10_since_77 ⟨rfl, _, rfl, h⟩
  · have h := sw_if.f h c_1
    refine aw_aload_n 0 dX10_since_45 rfl rfl ?_
    refine aw_aload_n 0 dX10_since_46 rfl rfl ?_
    refine gf_X10_10 fl_X10_313 (lk131 hG) (lr131_10 hG) dX10_since_47 ?_
    refine aw_aload_n 0 dX10_since_50 rfl rfl ?_
    refine gf_X10_10 fl_X10_313 (lk131 hG) (lr131_10 hG) dX10_since_51 ?_
    refine aw_bipush (v := 30) dX10_since_54 (by decide) ?_
    refine aw_ild dX10_since_56 (lk136 hG) (ln136 hG) (by unfold vp_in; decide) ?_
    refine aw_callV wv_X10_travels (M_X10_travels hG ⟨(lk136 hG), (ln136 hG)⟩ h) ml_X10_261 rfl (by decide) (lk131 hG) rfl rfl (Nat.le_of_ble_eq_true rfl) ⟨rfl, rfl⟩ ⟨Nat.le_of_ble_eq_true rfl, Nat.le_of_ble_eq_true rfl⟩ ⟨Nat.le_refl _, Nat.le_refl _⟩ dX10_since_57 (aw_ki fun r_3 I_4 J_5 h => ?_)
    refine aw_iload_n 1 dX10_since_60 rfl rfl ?_
    refine aw_callS wv_X10_has (M_X10_has trivial  h) ml_X10_195 rfl rfl (Nat.le_of_ble_eq_true rfl) ⟨rfl, rfl⟩ ⟨Nat.le_of_ble_eq_true rfl, Nat.le_of_ble_eq_true rfl⟩ ⟨Nat.le_refl _, Nat.le_refl _⟩ dX10_since_61 (aw_ki fun r_6 I_7 J_8 h => ?_)
    refine aw_zeq 69 dX10_since_64 (by decide) (fun c_9 => ?_) (fun c_9 => ?_)
    · have h := sw_if.t h c_9
      obtain ⟨y_10, e_11⟩ : ∃ q : Int32, q = x2 + 1 := ⟨_, rfl⟩
      have h := h y_10 e_11
      refine aw_iinc (lv' := [(2, .int y_10), (0, .ref (sz + 131)), (1, .int x1)]) 2 dX10_since_69 rfl (by rw [e_11]; rfl) (by decide) rfl ?_
      refine aw_goto 38 dX10_since_72 (by decide) ?_
      refine aw_sub [1, 2, 0] rfl ?_
      exact hK38 x1 y_10 I_7 J_8 h
    · have h := sw_if.f h c_9
      refine aw_iload_n 2 dX10_since_67 rfl rfl ?_
      exact aw_iret rfl dX10_since_68 ⟨rfl, _, rfl, h⟩
set_option maxRecDepth 20000 in
theorem tl_X10_since_38 {l : Launch} {D : va_G} {cy : Nat → ClassId} {sz : Nat} {G : sw_G} (hG : sw_lay G)   {Q : Int32 → sw_I → sw_J → Prop} : ∀ (n : Nat) (x1 : Int32) (x2 : Int32) (I : sw_I) (J : sw_J), wl_X10_since_38   Q n x1 x2 I J → AW l D cy sz RX10 cX10_since 3 (some .int) false rm_X10_since 0 0 (sw_qi G Q) 0 0 G I J 38 [(0, .ref (sz + 131)), (1, .int x1), (2, .int x2)] [] := by
  intro n
  induction n with
  | zero => intro x1 x2 I J h; exact False.elim h
  | succ n ih => intro x1 x2 I J h; exact tb_X10_since_38 hG  ih h
set_option maxRecDepth 20000 in
theorem t_X10_since {l : Launch} {D : va_G} {cy : Nat → ClassId} {sz : Nat} {G : sw_G} (hG : sw_lay G)   {Q : Int32 → sw_I → sw_J → Prop} {x1 : Int32} {I : sw_I} {J : sw_J} (h : wp_X10_since x1 I J Q) : AW l D cy sz RX10 cX10_since 3 (some .int) false rm_X10_since 0 0 (sw_qi G Q) 0 0 G I J 0 [(0, .ref (sz + 131)), (1, .int x1)] [] := by
  unfold wp_X10_since at h
  refine aw_aload_n 0 dX10_since_0 rfl rfl ?_
  refine aw_iconst (v := 0) dX10_since_1 (by decide) ?_
  refine pf_X10_0 fl_X10_3 (lk131 hG) dX10_since_2 (aw_nameI fun I_1 e_2 => ?_)
  have h := h I_1 e_2
  refine aw_aload_n 0 dX10_since_5 rfl rfl ?_
  refine aw_iload_n 1 dX10_since_6 rfl rfl ?_
  refine aw_callV wv_X10_canLeave (M_X10_canLeave hG  h) ml_X10_258 rfl (by decide) (lk131 hG) rfl rfl (Nat.le_of_ble_eq_true rfl) ⟨rfl, rfl⟩ ⟨Nat.le_of_ble_eq_true rfl, Nat.le_of_ble_eq_true rfl⟩ ⟨Nat.le_refl _, Nat.le_refl _⟩ dX10_since_7 (aw_ki fun r_3 I_4 J_5 h => ?_)
  refine aw_zne 15 dX10_since_10 (by decide) (fun c_6 => ?_) (fun c_6 => ?_)
  · have h := sw_if.f h c_6
    refine aw_aload_n 0 dX10_since_15 rfl rfl ?_
    refine aw_callV wv_X10_countsRides (M_X10_countsRides hG  h) ml_X10_322 rfl (by decide) (lk131 hG) rfl rfl (Nat.le_of_ble_eq_true rfl) ⟨rfl, rfl⟩ ⟨Nat.le_of_ble_eq_true rfl, Nat.le_of_ble_eq_true rfl⟩ ⟨Nat.le_refl _, Nat.le_refl _⟩ dX10_since_16 (aw_ki fun r_7 I_8 J_9 h => ?_)
    refine aw_zeq 25 dX10_since_19 (by decide) (fun c_10 => ?_) (fun c_10 => ?_)
    · have h := sw_if.t h c_10
      refine aw_aload_n 0 dX10_since_25 rfl rfl ?_
      refine gf_X10_9 fl_X10_79 (lk131 hG) (lr131_9 hG) dX10_since_26 ?_
      refine aw_aload_n 0 dX10_since_29 rfl rfl ?_
      refine gf_X10_10 fl_X10_313 (lk131 hG) (lr131_10 hG) dX10_since_30 ?_
      refine aw_callS wv_X10_puts (M_X10_puts trivial ⟨(lk135 hG), (ln135 hG)⟩ ⟨(lk136 hG), (ln136 hG)⟩ h) ml_X10_316 rfl rfl (Nat.le_of_ble_eq_true rfl) ⟨rfl, rfl⟩ ⟨Nat.le_of_ble_eq_true rfl, Nat.le_of_ble_eq_true rfl⟩ ⟨Nat.le_refl _, Nat.le_refl _⟩ dX10_since_33 (aw_kv fun I_12 J_13 h => ?_)
      refine aw_iconst (v := 1) dX10_since_36 (by decide) ?_
      refine aw_istore_n (lv' := [(2, .int 1), (0, .ref (sz + 131)), (1, .int x1)]) dX10_since_37 rfl (by decide) rfl ?_
      refine aw_sub [1, 2, 0] rfl ?_
      obtain ⟨n_14, h⟩ := h
      exact tl_X10_since_38 hG   n_14 x1 1 I_12 J_13 h
    · have h := sw_if.f h c_10
      refine aw_bipush (v := (-4)) dX10_since_22 (by decide) ?_
      exact aw_iret rfl dX10_since_24 ⟨rfl, _, rfl, h⟩
  · have h := sw_if.t h c_6
    refine aw_iconst (v := (-1)) dX10_since_13 (by decide) ?_
    exact aw_iret rfl dX10_since_14 ⟨rfl, _, rfl, h⟩
theorem M_X10_since {l : Launch} {D : va_G} {cy : Nat → ClassId} {sz : Nat} {G : sw_G} (hG : sw_lay G)   {Q : Int32 → sw_I → sw_J → Prop} {x1 : Int32} {I : sw_I} {J : sw_J} (h : wp_X10_since x1 I J Q) : Met l yX10_since (Cond.code yX10_since cX10_since 3 (some .int) :: sw_T) rm_X10_since (sw_Pc D cy sz [.ref (sz + 131), .int x1] G I J) (sw_Q D cy sz (sw_qi G Q)) 0 0 (fun q => sz ≤ q) :=
  sw_met (by decide) (fun q => by cases q) (Nat.le_of_ble_eq_true rfl) rfl (t_X10_since hG  h)
-- X10_comeHome
abbrev rm_X10_comeHome : Room := { frames := 6, cells := 0, slots := 0, locals := 140 }
def wb_X10_comeHome_24  (K24 : Int32 → Int32 → Int32 → sw_I → sw_J → Prop) (Q : Int32 → sw_I → sw_J → Prop) (x2 : Int32) (x3 : Int32) (x4 : Int32) (I : sw_I) (J : sw_J) : Prop :=
  sw_if (x4 < x2) (wp_X10_travels 136 33 (I 136 (30 : Int32).toNatClampNeg) I J (fun r_3 I_4 J_5 => ∀ y_6 : Int32, y_6 = x3 ||| r_3 → ∀ y_8 : Int32, y_8 = x4 + 1 → K24 x2 y_6 y_8 I_4 J_5)) (Q x3 I J)
def wl_X10_comeHome_24   (Q : Int32 → sw_I → sw_J → Prop) : Nat → Int32 → Int32 → Int32 → sw_I → sw_J → Prop
  | 0 => fun _ _ _ _ _ => False
  | n + 1 => fun x2 x3 x4 I J => wb_X10_comeHome_24  (wl_X10_comeHome_24   Q n) Q x2 x3 x4 I J
def wp_X10_comeHome (x1 : Int32) (x2 : Int32) (I : sw_I) (J : sw_J) (Q : Int32 → sw_I → sw_J → Prop) : Prop :=
  wp_X10_puts 135 33 136 33 I J (fun I_2 J_3 => ∀ I_5 : sw_I, I_5 = sw_up I_2 136 (30 : Int32).toNatClampNeg x1 → ∃ n_7 : Nat, wl_X10_comeHome_24   Q n_7 x2 0 0 I_5 J_3)
set_option maxRecDepth 20000 in
theorem tb_X10_comeHome_24 {l : Launch} {D : va_G} {cy : Nat → ClassId} {sz : Nat} {G : sw_G} (hG : sw_lay G)   {Q : Int32 → sw_I → sw_J → Prop} {K24 : Int32 → Int32 → Int32 → sw_I → sw_J → Prop} (hK24 : ∀ (x2 : Int32) (x3 : Int32) (x4 : Int32) (I : sw_I) (J : sw_J), K24 x2 x3 x4 I J → AW l D cy sz RX10 cX10_comeHome 5 (some .int) false rm_X10_comeHome 0 0 (sw_qi G Q) 0 0 G I J 24 [(0, .ref (sz + 131)), (2, .int x2), (3, .int x3), (4, .int x4)] []) {x2 : Int32} {x3 : Int32} {x4 : Int32} {I : sw_I} {J : sw_J} (h : wb_X10_comeHome_24  K24 Q x2 x3 x4 I J) : AW l D cy sz RX10 cX10_comeHome 5 (some .int) false rm_X10_comeHome 0 0 (sw_qi G Q) 0 0 G I J 24 [(0, .ref (sz + 131)), (2, .int x2), (3, .int x3), (4, .int x4)] [] := by
  unfold wb_X10_comeHome_24 at h
  refine aw_iload 3 dX10_comeHome_24 rfl ?_
  refine aw_iload_n 1 dX10_comeHome_26 rfl rfl ?_
  refine aw_jge 54 dX10_comeHome_27 (by decide) (fun c_1 => ?_) (fun c_1 => ?_)
  · have h := sw_if.f h c_1
    refine aw_iload_n 2 dX10_comeHome_54 rfl rfl ?_
    exact aw_iret rfl dX10_comeHome_55 ⟨rfl, _, rfl, h⟩
  · have h := sw_if.t h c_1
    refine aw_iload_n 2 dX10_comeHome_30 rfl rfl ?_
    refine aw_aload_n 0 dX10_comeHome_31 rfl rfl ?_
    refine aw_aload_n 0 dX10_comeHome_32 rfl rfl ?_
    refine gf_X10_10 fl_X10_313 (lk131 hG) (lr131_10 hG) dX10_comeHome_33 ?_
    refine aw_aload_n 0 dX10_comeHome_36 rfl rfl ?_
    refine gf_X10_10 fl_X10_313 (lk131 hG) (lr131_10 hG) dX10_comeHome_37 ?_
    refine aw_bipush (v := 30) dX10_comeHome_40 (by decide) ?_
    refine aw_ild dX10_comeHome_42 (lk136 hG) (ln136 hG) (by unfold vp_in; decide) ?_
    refine aw_callV wv_X10_travels (M_X10_travels hG ⟨(lk136 hG), (ln136 hG)⟩ h) ml_X10_261 rfl (by decide) (lk131 hG) rfl rfl (Nat.le_of_ble_eq_true rfl) ⟨rfl, rfl⟩ ⟨Nat.le_of_ble_eq_true rfl, Nat.le_of_ble_eq_true rfl⟩ ⟨Nat.le_refl _, Nat.le_refl _⟩ dX10_comeHome_43 (aw_ki fun r_3 I_4 J_5 h => ?_)
    refine aw_ior dX10_comeHome_46 ?_
    refine aw_topi (fun y_6 e_7 => ?_)
    have h := h y_6 e_7
    refine aw_istore_n (lv' := [(3, .int y_6), (0, .ref (sz + 131)), (2, .int x2), (4, .int x4)]) dX10_comeHome_47 rfl (by decide) rfl ?_
    obtain ⟨y_8, e_9⟩ : ∃ q : Int32, q = x4 + 1 := ⟨_, rfl⟩
    have h := h y_8 e_9
    refine aw_iinc (lv' := [(4, .int y_8), (3, .int y_6), (0, .ref (sz + 131)), (2, .int x2)]) 3 dX10_comeHome_48 rfl (by rw [e_9]; rfl) (by decide) rfl ?_
    refine aw_goto 24 dX10_comeHome_51 (by decide) ?_
    refine aw_sub [2, 3, 1, 0] rfl ?_
    exact hK24 x2 y_6 y_8 I_4 J_5 h
set_option maxRecDepth 20000 in
theorem tl_X10_comeHome_24 {l : Launch} {D : va_G} {cy : Nat → ClassId} {sz : Nat} {G : sw_G} (hG : sw_lay G)   {Q : Int32 → sw_I → sw_J → Prop} : ∀ (n : Nat) (x2 : Int32) (x3 : Int32) (x4 : Int32) (I : sw_I) (J : sw_J), wl_X10_comeHome_24   Q n x2 x3 x4 I J → AW l D cy sz RX10 cX10_comeHome 5 (some .int) false rm_X10_comeHome 0 0 (sw_qi G Q) 0 0 G I J 24 [(0, .ref (sz + 131)), (2, .int x2), (3, .int x3), (4, .int x4)] [] := by
  intro n
  induction n with
  | zero => intro x2 x3 x4 I J h; exact False.elim h
  | succ n ih => intro x2 x3 x4 I J h; exact tb_X10_comeHome_24 hG  ih h
set_option maxRecDepth 20000 in
theorem t_X10_comeHome {l : Launch} {D : va_G} {cy : Nat → ClassId} {sz : Nat} {G : sw_G} (hG : sw_lay G)   {Q : Int32 → sw_I → sw_J → Prop} {x1 : Int32} {x2 : Int32} {I : sw_I} {J : sw_J} (h : wp_X10_comeHome x1 x2 I J Q) : AW l D cy sz RX10 cX10_comeHome 5 (some .int) false rm_X10_comeHome 0 0 (sw_qi G Q) 0 0 G I J 0 [(0, .ref (sz + 131)), (1, .int x1), (2, .int x2)] [] := by
  unfold wp_X10_comeHome at h
  refine aw_aload_n 0 dX10_comeHome_0 rfl rfl ?_
  refine gf_X10_9 fl_X10_79 (lk131 hG) (lr131_9 hG) dX10_comeHome_1 ?_
  refine aw_aload_n 0 dX10_comeHome_4 rfl rfl ?_
  refine gf_X10_10 fl_X10_313 (lk131 hG) (lr131_10 hG) dX10_comeHome_5 ?_
  refine aw_callS wv_X10_puts (M_X10_puts trivial ⟨(lk135 hG), (ln135 hG)⟩ ⟨(lk136 hG), (ln136 hG)⟩ h) ml_X10_316 rfl rfl (Nat.le_of_ble_eq_true rfl) ⟨rfl, rfl⟩ ⟨Nat.le_of_ble_eq_true rfl, Nat.le_of_ble_eq_true rfl⟩ ⟨Nat.le_refl _, Nat.le_refl _⟩ dX10_comeHome_8 (aw_kv fun I_2 J_3 h => ?_)
  refine aw_aload_n 0 dX10_comeHome_11 rfl rfl ?_
  refine gf_X10_10 fl_X10_313 (lk131 hG) (lr131_10 hG) dX10_comeHome_12 ?_
  refine aw_bipush (v := 30) dX10_comeHome_15 (by decide) ?_
  refine aw_iload_n 1 dX10_comeHome_17 rfl rfl ?_
  refine aw_ist dX10_comeHome_18 (lk136 hG) (ln136 hG) (by unfold vp_in; decide) (aw_nameI fun I_5 e_6 => ?_)
  have h := h I_5 e_6
  refine aw_iconst (v := 0) dX10_comeHome_19 (by decide) ?_
  refine aw_istore_n (lv' := [(3, .int 0), (0, .ref (sz + 131)), (1, .int x1), (2, .int x2)]) dX10_comeHome_20 rfl (by decide) rfl ?_
  refine aw_iconst (v := 0) dX10_comeHome_21 (by decide) ?_
  refine aw_istore (lv' := [(4, .int 0), (3, .int 0), (0, .ref (sz + 131)), (1, .int x1), (2, .int x2)]) dX10_comeHome_22 (by decide) rfl ?_
  refine aw_sub [2, 4, 1, 0] rfl ?_
  obtain ⟨n_7, h⟩ := h
  exact tl_X10_comeHome_24 hG   n_7 x2 0 0 I_5 J_3 h
theorem M_X10_comeHome {l : Launch} {D : va_G} {cy : Nat → ClassId} {sz : Nat} {G : sw_G} (hG : sw_lay G)   {Q : Int32 → sw_I → sw_J → Prop} {x1 : Int32} {x2 : Int32} {I : sw_I} {J : sw_J} (h : wp_X10_comeHome x1 x2 I J Q) : Met l yX10_comeHome (Cond.code yX10_comeHome cX10_comeHome 5 (some .int) :: sw_T) rm_X10_comeHome (sw_Pc D cy sz [.ref (sz + 131), .int x1, .int x2] G I J) (sw_Q D cy sz (sw_qi G Q)) 0 0 (fun q => sz ≤ q) :=
  sw_met (by decide) (fun q => by cases q) (Nat.le_of_ble_eq_true rfl) rfl (t_X10_comeHome hG  h)
