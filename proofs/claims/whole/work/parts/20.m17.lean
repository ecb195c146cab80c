/-! ===== PRINTED (wip/whole/gen/gen.py): the machine meets each definition: X6.likely, X6.pass, X6.person ===== -/
set_option maxHeartbeats 4000000 in
set_option maxRecDepth 100000 in
theorem m_X6_likely_b199_s {p : Program} {l : Launch} {e : Env} {s : State} {m : MethodId} {args : Array Value} {below : List Frame} {meth : Method} {c : Code} {E : z_E} (C : z_Cx p E s m args meth c cX6_likely 10 wsX6_likely RX6 (some .int)) (hM : z_mod E) (X : z_X) (K : Int32 → z_G → Prop) (L199 : z_G → Int32 → Int32 → Int32 → Int32 → Int32 → Prop) (k199 : ∀ (h : z_G) (x3 : Int32) (x4 : Int32) (x5 : Int32) (x7 : Int32) (x8 : Int32), L199 h x3 x4 x5 x7 x8 → ∀ {H : Heap} {locs : List Loc}, z_P E (z_up X 19 h) H → va_S (z_A E) s.heap H locs → ∀ (ls : Array Slot), lv_has ls 10 [(3, .int x3), (4, .int x4), (5, .int x5), (7, .int x7), (8, .int x8)] → W p l e rX6_likely s m args below meth c H locs 0 0 (MQ below (va_Qi (fun r X' => ∃ h', X' = z_up X 19 h' ∧ K r h') (fun u t => z_P E u t.heap) (z_A E)) args s 0 0 (z_A E)) (F0 m 199 ls [])) (h : z_G) (x3 : Int32) (x4 : Int32) (x5 : Int32) (x7 : Int32) (x8 : Int32) (hw : v_X6_likely_b199_s K L199 h x3 x4 x5 x7 x8) {H : Heap} {locs : List Loc} (hP : z_P E (z_up X 19 h) H) (hS : va_S (z_A E) s.heap H locs) {ls : Array Slot} (hl : lv_has ls 10 [(3, .int x3), (4, .int x4), (5, .int x5), (7, .int x7), (8, .int x8)]) : W p l e rX6_likely s m args below meth c H locs 0 0 (MQ below (va_Qi (fun r X' => ∃ h', X' = z_up X 19 h' ∧ K r h') (fun u t => z_P E u t.heap) (z_A E)) args s 0 0 (z_A E)) (F0 m 199 ls []) := by
  obtain ⟨hx, hb, hml, hr, hlocks, hown, hts, hK, hE⟩ := id C
  have hfX6 : ∀ w ∈ u_ws RX6 TX6 15, w ∈ wsX6_likely := by decide +kernel
  unfold v_X6_likely_b199_s at hw
  refine lv_iload hx hb dX6_likely_199 (lv_at hl 4 rfl) ?_
  refine lv_if_eq (tgt := 222) hx hb dX6_likely_201 (by decide) (fun c12 => ?_) (fun c12 => ?_)
  · replace hw := hw.1 c12
    refine lv_iload_n hx hb dX6_likely_222 rfl (lv_at hl 0 rfl) ?_
    refine lv_if_ne (tgt := 234) hx hb dX6_likely_223 (by decide) (fun c13 => ?_) (fun c13 => ?_)
    · replace hw := hw.1 c13
      refine lv_iload hx hb dX6_likely_234 (lv_at hl 2 rfl) ?_
      refine lv_iload hx hb dX6_likely_236 (lv_at hl 3 rfl) ?_
      obtain ⟨n14, hw⟩ := hw
      refine lv_idiv hx hb dX6_likely_238 n14 ?_
      exact z_reti C hP hS ⟨_, rfl, hw⟩ dX6_likely_239
    · replace hw := hw.2 c13
      refine lv_iload hx hb dX6_likely_226 (lv_at hl 1 rfl) ?_
      refine lv_iload hx hb dX6_likely_228 (lv_at hl 3 rfl) ?_
      obtain ⟨n15, hw⟩ := hw
      refine lv_idiv hx hb dX6_likely_230 n15 ?_
      refine lv_goto (tgt := 239) hx hb dX6_likely_231 (by decide) ?_
      exact z_reti C hP hS ⟨_, rfl, hw⟩ dX6_likely_239
  · replace hw := hw.2 c12
    refine lv_iload hx hb dX6_likely_204 (lv_at hl 3 rfl) ?_
    refine lv_iload hx hb dX6_likely_206 (lv_at hl 4 rfl) ?_
    obtain ⟨n16, hw⟩ := hw
    refine lv_irem hx hb dX6_likely_208 n16 ?_
    refine lv_topi (fun y17 ey17 => ?_)
    replace hw := hw y17 ey17
    refine lv_istore (lv' := [(9, .int y17), (3, .int x3), (4, .int x4), (5, .int x5), (7, .int x7), (8, .int x8)]) hx hb dX6_likely_209 hl (by decide) rfl (fun ls hl => ?_)
    refine lv_iload hx hb dX6_likely_211 (lv_at hl 5 rfl) ?_
    refine lv_istore (lv' := [(7, .int x8), (9, .int y17), (3, .int x3), (4, .int x4), (5, .int x5), (8, .int x8)]) hx hb dX6_likely_213 hl (by decide) rfl (fun ls hl => ?_)
    refine lv_iload hx hb dX6_likely_215 (lv_at hl 1 rfl) ?_
    refine lv_istore (lv' := [(8, .int y17), (7, .int x8), (9, .int y17), (3, .int x3), (4, .int x4), (5, .int x5)]) hx hb dX6_likely_217 hl (by decide) rfl (fun ls hl => ?_)
    refine lv_goto (tgt := 199) hx hb dX6_likely_219 (by decide) ?_
    exact k199 h x3 x4 x5 x8 y17 hw hP hS _ (lv_sub hl [3, 4, 5, 1, 0] rfl)
theorem m_X6_likely_b199 {p : Program} {l : Launch} {e : Env} {s : State} {m : MethodId} {args : Array Value} {below : List Frame} {meth : Method} {c : Code} {E : z_E} (C : z_Cx p E s m args meth c cX6_likely 10 wsX6_likely RX6 (some .int)) (hM : z_mod E) (X : z_X) (K : Int32 → z_G → Prop) (h : z_G) (x3 : Int32) (x4 : Int32) (x5 : Int32) (x7 : Int32) (x8 : Int32) (hw : v_X6_likely_b199 K h x3 x4 x5 x7 x8) {H : Heap} {locs : List Loc} (hP : z_P E (z_up X 19 h) H) (hS : va_S (z_A E) s.heap H locs) {ls : Array Slot} (hl : lv_has ls 10 [(3, .int x3), (4, .int x4), (5, .int x5), (7, .int x7), (8, .int x8)]) : W p l e rX6_likely s m args below meth c H locs 0 0 (MQ below (va_Qi (fun r X' => ∃ h', X' = z_up X 19 h' ∧ K r h') (fun u t => z_P E u t.heap) (z_A E)) args s 0 0 (z_A E)) (F0 m 199 ls []) := by
  obtain ⟨n, hw⟩ := hw
  revert hw hP hS hl
  revert h x3 x4 x5 x7 x8 H locs ls
  induction n with
  | zero => intro h x3 x4 x5 x7 x8 H locs ls hP hS hl hw; exact hw.elim
  | succ n ih =>
    intro h x3 x4 x5 x7 x8 H locs ls hP hS hl hw
    exact m_X6_likely_b199_s C hM X K (fun h x3 x4 x5 x7 x8 => z_fp (σ := z_G × Int32 × Int32 × Int32 × Int32 × Int32) (fun Lp q => v_X6_likely_b199_s K (fun h x3 x4 x5 x7 x8 => Lp (h, x3, x4, x5, x7, x8)) q.1 q.2.1 q.2.2.1 q.2.2.2.1 q.2.2.2.2.1 q.2.2.2.2.2) n (h, x3, x4, x5, x7, x8)) (fun h x3 x4 x5 x7 x8 h9 H locs hP hS ls hl => ih h x3 x4 x5 x7 x8 hP hS hl h9) h x3 x4 x5 x7 x8 hw hP hS hl
set_option maxHeartbeats 4000000 in
set_option maxRecDepth 100000 in
theorem m_X6_likely_b157 {p : Program} {l : Launch} {e : Env} {s : State} {m : MethodId} {args : Array Value} {below : List Frame} {meth : Method} {c : Code} {E : z_E} (C : z_Cx p E s m args meth c cX6_likely 10 wsX6_likely RX6 (some .int)) (hM : z_mod E) (X : z_X) (K : Int32 → z_G → Prop) (L62 : z_G → Int32 → Int32 → Int32 → Int32 → Int32 → Int32 → Prop) (k62 : ∀ (h : z_G) (x1 : Int32) (x3 : Int32) (x4 : Int32) (x5 : Int32) (x6 : Int32) (x7 : Int32), L62 h x1 x3 x4 x5 x6 x7 → ∀ {H : Heap} {locs : List Loc}, z_P E (z_up X 19 h) H → va_S (z_A E) s.heap H locs → ∀ (ls : Array Slot), lv_has ls 10 [(0, .ref (z_a E 19 0)), (1, .int x1), (3, .int x3), (4, .int x4), (5, .int x5), (6, .int x6), (7, .int x7)] → W p l e rX6_likely s m args below meth c H locs 0 0 (MQ below (va_Qi (fun r X' => ∃ h', X' = z_up X 19 h' ∧ K r h') (fun u t => z_P E u t.heap) (z_A E)) args s 0 0 (z_A E)) (F0 m 62 ls [])) (h : z_G) (x1 : Int32) (x3 : Int32) (x5 : Int32) (x6 : Int32) (x7 : Int32) (x9 : Int32) (t0 : Int32) (t1 : Int32) (hw : v_X6_likely_b157 K L62 h x1 x3 x5 x6 x7 x9 t0 t1) {H : Heap} {locs : List Loc} (hP : z_P E (z_up X 19 h) H) (hS : va_S (z_A E) s.heap H locs) {ls : Array Slot} (hl : lv_has ls 10 [(0, .ref (z_a E 19 0)), (1, .int x1), (3, .int x3), (5, .int x5), (6, .int x6), (7, .int x7), (9, .int x9)]) : W p l e rX6_likely s m args below meth c H locs 0 0 (MQ below (va_Qi (fun r X' => ∃ h', X' = z_up X 19 h' ∧ K r h') (fun u t => z_P E u t.heap) (z_A E)) args s 0 0 (z_A E)) (F0 m 157 ls [.int t1, .int t0]) := by
  obtain ⟨hx, hb, hml, hr, hlocks, hown, hts, hK, hE⟩ := id C
  have hfX6 : ∀ w ∈ u_ws RX6 TX6 15, w ∈ wsX6_likely := by decide +kernel
  unfold v_X6_likely_b157 at hw
  refine lv_imul hx hb dX6_likely_157 ?_
  refine lv_topi (fun y23 ey23 => ?_)
  replace hw := hw y23 ey23
  refine lv_istore (lv' := [(4, .int y23), (0, .ref (z_a E 19 0)), (1, .int x1), (3, .int x3), (5, .int x5), (6, .int x6), (7, .int x7), (9, .int x9)]) hx hb dX6_likely_158 hl (by decide) rfl (fun ls hl => ?_)
  refine lv_iload hx hb dX6_likely_160 (lv_at hl 4 rfl) ?_
  refine lv_iload hx hb dX6_likely_162 (lv_at hl 7 rfl) ?_
  refine lv_if_le (tgt := 181) hx hb dX6_likely_164 (by decide) (fun c24 => ?_) (fun c24 => ?_)
  · replace hw := hw.1 c24
    refine lv_iconst (v := (1 : Int32)) hx hb dX6_likely_181 (by decide) ?_
    refine lv_imul hx hb dX6_likely_182 ?_
    refine lv_topi (fun y25 ey25 => ?_)
    replace hw := hw y25 ey25
    refine lv_istore (lv' := [(5, .int y25), (4, .int y23), (0, .ref (z_a E 19 0)), (1, .int x1), (3, .int x3), (6, .int x6), (7, .int x7), (9, .int x9)]) hx hb dX6_likely_183 hl (by decide) rfl (fun ls hl => ?_)
    obtain ⟨y26, ey26⟩ : ∃ z : Int32, z = x7 + (1 : Int32) := ⟨_, rfl⟩
    replace hw := hw y26 ey26
    refine lv_iinc (v := y26) (lv' := [(7, .int y26), (5, .int y25), (4, .int y23), (0, .ref (z_a E 19 0)), (1, .int x1), (3, .int x3), (6, .int x6), (9, .int x9)]) hx hb dX6_likely_185 hl (k := 6) rfl (by rw [ey26]; rfl) (by decide) rfl (fun ls hl => ?_)
    refine lv_goto (tgt := 62) hx hb dX6_likely_188 (by decide) ?_
    exact k62 h x1 x3 y23 y25 x6 y26 hw hP hS _ (lv_sub hl [3, 4, 5, 2, 1, 6, 0] rfl)
  · replace hw := hw.2 c24
    refine lv_aload_n hx hb dX6_likely_167 rfl (lv_at hl 1 rfl) ?_
    refine z_getr (C := RX6) (T := TX6) (N := 15) (ref := "GauntletHallModel") (o := 19) (d := 0) hx hb hts hfX6 hown hK hP (hM (19, 0) (List.mem_of_getElem? (i := 0) rfl)) z_l_19_0 rfl 5 (by decide) (hts (.fieldLink RX6 22 "GauntletHallModel" "now" "[I") (by decide +kernel)) rfl rfl dX6_likely_168 ?_
    refine lv_iconst (v := (4 : Int32)) hx hb dX6_likely_171 (by decide) ?_
    refine lv_iload_n hx hb dX6_likely_172 rfl (lv_at hl 2 rfl) ?_
    refine lv_iadd hx hb dX6_likely_173 ?_
    obtain ⟨i27, hw⟩ := hw
    refine z_iald (o := 19) (d := 5) hx hb hK hP (hM (19, 5) (List.mem_of_getElem? (i := 5) rfl)) z_l_19_5 i27 (z_up_val X 19 h 5 (z_n ((4 : Int32) + x1))) dX6_likely_174 ?_
    refine lv_iload hx hb dX6_likely_175 (lv_at hl 7 rfl) ?_
    refine lv_iadd hx hb dX6_likely_177 ?_
    refine lv_goto (tgt := 182) hx hb dX6_likely_178 (by decide) ?_
    refine lv_imul hx hb dX6_likely_182 ?_
    refine lv_topi (fun y28 ey28 => ?_)
    replace hw := hw y28 ey28
    refine lv_istore (lv' := [(5, .int y28), (4, .int y23), (0, .ref (z_a E 19 0)), (1, .int x1), (3, .int x3), (6, .int x6), (7, .int x7), (9, .int x9)]) hx hb dX6_likely_183 hl (by decide) rfl (fun ls hl => ?_)
    obtain ⟨y29, ey29⟩ : ∃ z : Int32, z = x7 + (1 : Int32) := ⟨_, rfl⟩
    replace hw := hw y29 ey29
    refine lv_iinc (v := y29) (lv' := [(7, .int y29), (5, .int y28), (4, .int y23), (0, .ref (z_a E 19 0)), (1, .int x1), (3, .int x3), (6, .int x6), (9, .int x9)]) hx hb dX6_likely_185 hl (k := 6) rfl (by rw [ey29]; rfl) (by decide) rfl (fun ls hl => ?_)
    refine lv_goto (tgt := 62) hx hb dX6_likely_188 (by decide) ?_
    exact k62 h x1 x3 y23 y28 x6 y29 hw hP hS _ (lv_sub hl [3, 4, 5, 2, 1, 6, 0] rfl)
set_option maxHeartbeats 4000000 in
set_option maxRecDepth 100000 in
theorem m_X6_likely_b135 {p : Program} {l : Launch} {e : Env} {s : State} {m : MethodId} {args : Array Value} {below : List Frame} {meth : Method} {c : Code} {E : z_E} (C : z_Cx p E s m args meth c cX6_likely 10 wsX6_likely RX6 (some .int)) (hM : z_mod E) (X : z_X) (K : Int32 → z_G → Prop) (L62 : z_G → Int32 → Int32 → Int32 → Int32 → Int32 → Int32 → Prop) (k62 : ∀ (h : z_G) (x1 : Int32) (x3 : Int32) (x4 : Int32) (x5 : Int32) (x6 : Int32) (x7 : Int32), L62 h x1 x3 x4 x5 x6 x7 → ∀ {H : Heap} {locs : List Loc}, z_P E (z_up X 19 h) H → va_S (z_A E) s.heap H locs → ∀ (ls : Array Slot), lv_has ls 10 [(0, .ref (z_a E 19 0)), (1, .int x1), (3, .int x3), (4, .int x4), (5, .int x5), (6, .int x6), (7, .int x7)] → W p l e rX6_likely s m args below meth c H locs 0 0 (MQ below (va_Qi (fun r X' => ∃ h', X' = z_up X 19 h' ∧ K r h') (fun u t => z_P E u t.heap) (z_A E)) args s 0 0 (z_A E)) (F0 m 62 ls [])) (h : z_G) (x1 : Int32) (x3 : Int32) (x4 : Int32) (x5 : Int32) (x7 : Int32) (x9 : Int32) (t0 : Int32) (t1 : Int32) (hw : v_X6_likely_b135 K L62 h x1 x3 x4 x5 x7 x9 t0 t1) {H : Heap} {locs : List Loc} (hP : z_P E (z_up X 19 h) H) (hS : va_S (z_A E) s.heap H locs) {ls : Array Slot} (hl : lv_has ls 10 [(0, .ref (z_a E 19 0)), (1, .int x1), (3, .int x3), (4, .int x4), (5, .int x5), (7, .int x7), (9, .int x9)]) : W p l e rX6_likely s m args below meth c H locs 0 0 (MQ below (va_Qi (fun r X' => ∃ h', X' = z_up X 19 h' ∧ K r h') (fun u t => z_P E u t.heap) (z_A E)) args s 0 0 (z_A E)) (F0 m 135 ls [.int t1, .int t0]) := by
  obtain ⟨hx, hb, hml, hr, hlocks, hown, hts, hK, hE⟩ := id C
  have hfX6 : ∀ w ∈ u_ws RX6 TX6 15, w ∈ wsX6_likely := by decide +kernel
  unfold v_X6_likely_b135 at hw
  refine lv_isub hx hb dX6_likely_135 ?_
  refine lv_topi (fun y21 ey21 => ?_)
  replace hw := hw y21 ey21
  refine lv_istore (lv' := [(6, .int y21), (0, .ref (z_a E 19 0)), (1, .int x1), (3, .int x3), (4, .int x4), (5, .int x5), (7, .int x7), (9, .int x9)]) hx hb dX6_likely_136 hl (by decide) rfl (fun ls hl => ?_)
  refine lv_iload hx hb dX6_likely_138 (lv_at hl 4 rfl) ?_
  refine lv_iload hx hb dX6_likely_140 (lv_at hl 7 rfl) ?_
  refine lv_if_le (tgt := 156) hx hb dX6_likely_142 (by decide) (fun c22 => ?_) (fun c22 => ?_)
  · replace hw := hw.1 c22
    refine lv_iconst (v := (1 : Int32)) hx hb dX6_likely_156 (by decide) ?_
    exact m_X6_likely_b157 C hM X K L62 k62 h x1 x3 x5 y21 x7 x9 x4 (1 : Int32) hw hP hS (lv_sub hl [1, 2, 3, 5, 0, 6, 7] rfl)
  · replace hw := hw.2 c22
    refine lv_aload_n hx hb dX6_likely_145 rfl (lv_at hl 1 rfl) ?_
    refine z_getr (C := RX6) (T := TX6) (N := 15) (ref := "GauntletHallModel") (o := 19) (d := 0) hx hb hts hfX6 hown hK hP (hM (19, 0) (List.mem_of_getElem? (i := 0) rfl)) z_l_19_0 rfl 5 (by decide) (hts (.fieldLink RX6 22 "GauntletHallModel" "now" "[I") (by decide +kernel)) rfl rfl dX6_likely_146 ?_
    refine lv_iconst (v := (4 : Int32)) hx hb dX6_likely_149 (by decide) ?_
    refine lv_iload_n hx hb dX6_likely_150 rfl (lv_at hl 2 rfl) ?_
    refine lv_iadd hx hb dX6_likely_151 ?_
    obtain ⟨i30, hw⟩ := hw
    refine z_iald (o := 19) (d := 5) hx hb hK hP (hM (19, 5) (List.mem_of_getElem? (i := 5) rfl)) z_l_19_5 i30 (z_up_val X 19 h 5 (z_n ((4 : Int32) + x1))) dX6_likely_152 ?_
    refine lv_goto (tgt := 157) hx hb dX6_likely_153 (by decide) ?_
    exact m_X6_likely_b157 C hM X K L62 k62 h x1 x3 x5 y21 x7 x9 x4 (h 5 (z_n ((4 : Int32) + x1))) hw hP hS (lv_sub hl [1, 2, 3, 5, 0, 6, 7] rfl)
set_option maxHeartbeats 4000000 in
set_option maxRecDepth 100000 in
theorem m_X6_likely_b121 {p : Program} {l : Launch} {e : Env} {s : State} {m : MethodId} {args : Array Value} {below : List Frame} {meth : Method} {c : Code} {E : z_E} (C : z_Cx p E s m args meth c cX6_likely 10 wsX6_likely RX6 (some .int)) (hM : z_mod E) (X : z_X) (K : Int32 → z_G → Prop) (L62 : z_G → Int32 → Int32 → Int32 → Int32 → Int32 → Int32 → Prop) (k62 : ∀ (h : z_G) (x1 : Int32) (x3 : Int32) (x4 : Int32) (x5 : Int32) (x6 : Int32) (x7 : Int32), L62 h x1 x3 x4 x5 x6 x7 → ∀ {H : Heap} {locs : List Loc}, z_P E (z_up X 19 h) H → va_S (z_A E) s.heap H locs → ∀ (ls : Array Slot), lv_has ls 10 [(0, .ref (z_a E 19 0)), (1, .int x1), (3, .int x3), (4, .int x4), (5, .int x5), (6, .int x6), (7, .int x7)] → W p l e rX6_likely s m args below meth c H locs 0 0 (MQ below (va_Qi (fun r X' => ∃ h', X' = z_up X 19 h' ∧ K r h') (fun u t => z_P E u t.heap) (z_A E)) args s 0 0 (z_A E)) (F0 m 62 ls [])) (h : z_G) (x1 : Int32) (x3 : Int32) (x4 : Int32) (x5 : Int32) (x6 : Int32) (x7 : Int32) (x8 : Int32) (t0 : Int32) (hw : v_X6_likely_b121 K L62 h x1 x3 x4 x5 x6 x7 x8 t0) {H : Heap} {locs : List Loc} (hP : z_P E (z_up X 19 h) H) (hS : va_S (z_A E) s.heap H locs) {ls : Array Slot} (hl : lv_has ls 10 [(0, .ref (z_a E 19 0)), (1, .int x1), (3, .int x3), (4, .int x4), (5, .int x5), (6, .int x6), (7, .int x7), (8, .int x8)]) : W p l e rX6_likely s m args below meth c H locs 0 0 (MQ below (va_Qi (fun r X' => ∃ h', X' = z_up X 19 h' ∧ K r h') (fun u t => z_P E u t.heap) (z_A E)) args s 0 0 (z_A E)) (F0 m 121 ls [.int t0]) := by
  obtain ⟨hx, hb, hml, hr, hlocks, hown, hts, hK, hE⟩ := id C
  have hfX6 : ∀ w ∈ u_ws RX6 TX6 15, w ∈ wsX6_likely := by decide +kernel
  unfold v_X6_likely_b121 at hw
  refine lv_istore (lv' := [(9, .int t0), (0, .ref (z_a E 19 0)), (1, .int x1), (3, .int x3), (4, .int x4), (5, .int x5), (6, .int x6), (7, .int x7), (8, .int x8)]) hx hb dX6_likely_121 hl (by decide) rfl (fun ls hl => ?_)
  refine lv_iload hx hb dX6_likely_123 (lv_at hl 6 rfl) ?_
  refine lv_iload hx hb dX6_likely_125 (lv_at hl 8 rfl) ?_
  refine lv_if_eq (tgt := 134) hx hb dX6_likely_127 (by decide) (fun c20 => ?_) (fun c20 => ?_)
  · replace hw := hw.1 c20
    refine lv_iconst (v := (0 : Int32)) hx hb dX6_likely_134 (by decide) ?_
    exact m_X6_likely_b135 C hM X K L62 k62 h x1 x3 x4 x5 x7 t0 x6 (0 : Int32) hw hP hS (lv_sub hl [1, 2, 3, 4, 5, 7, 0] rfl)
  · replace hw := hw.2 c20
    refine lv_iconst (v := (1 : Int32)) hx hb dX6_likely_130 (by decide) ?_
    refine lv_goto (tgt := 135) hx hb dX6_likely_131 (by decide) ?_
    exact m_X6_likely_b135 C hM X K L62 k62 h x1 x3 x4 x5 x7 t0 x6 (1 : Int32) hw hP hS (lv_sub hl [1, 2, 3, 4, 5, 7, 0] rfl)
set_option maxHeartbeats 4000000 in
set_option maxRecDepth 100000 in
theorem m_X6_likely_b93 {p : Program} {l : Launch} {e : Env} {s : State} {m : MethodId} {args : Array Value} {below : List Frame} {meth : Method} {c : Code} {E : z_E} (C : z_Cx p E s m args meth c cX6_likely 10 wsX6_likely RX6 (some .int)) (hM : z_mod E) (X : z_X) (K : Int32 → z_G → Prop) (L62 : z_G → Int32 → Int32 → Int32 → Int32 → Int32 → Int32 → Prop) (k62 : ∀ (h : z_G) (x1 : Int32) (x3 : Int32) (x4 : Int32) (x5 : Int32) (x6 : Int32) (x7 : Int32), L62 h x1 x3 x4 x5 x6 x7 → ∀ {H : Heap} {locs : List Loc}, z_P E (z_up X 19 h) H → va_S (z_A E) s.heap H locs → ∀ (ls : Array Slot), lv_has ls 10 [(0, .ref (z_a E 19 0)), (1, .int x1), (3, .int x3), (4, .int x4), (5, .int x5), (6, .int x6), (7, .int x7)] → W p l e rX6_likely s m args below meth c H locs 0 0 (MQ below (va_Qi (fun r X' => ∃ h', X' = z_up X 19 h' ∧ K r h') (fun u t => z_P E u t.heap) (z_A E)) args s 0 0 (z_A E)) (F0 m 62 ls [])) (h : z_G) (x1 : Int32) (x3 : Int32) (x4 : Int32) (x5 : Int32) (x6 : Int32) (x7 : Int32) (t0 : Int32) (hw : v_X6_likely_b93 K L62 h x1 x3 x4 x5 x6 x7 t0) {H : Heap} {locs : List Loc} (hP : z_P E (z_up X 19 h) H) (hS : va_S (z_A E) s.heap H locs) {ls : Array Slot} (hl : lv_has ls 10 [(0, .ref (z_a E 19 0)), (1, .int x1), (3, .int x3), (4, .int x4), (5, .int x5), (6, .int x6), (7, .int x7)]) : W p l e rX6_likely s m args below meth c H locs 0 0 (MQ below (va_Qi (fun r X' => ∃ h', X' = z_up X 19 h' ∧ K r h') (fun u t => z_P E u t.heap) (z_A E)) args s 0 0 (z_A E)) (F0 m 93 ls [.int t0]) := by
  obtain ⟨hx, hb, hml, hr, hlocks, hown, hts, hK, hE⟩ := id C
  have hfX6 : ∀ w ∈ u_ws RX6 TX6 15, w ∈ wsX6_likely := by decide +kernel
  unfold v_X6_likely_b93 at hw
  refine lv_istore (lv' := [(8, .int t0), (0, .ref (z_a E 19 0)), (1, .int x1), (3, .int x3), (4, .int x4), (5, .int x5), (6, .int x6), (7, .int x7)]) hx hb dX6_likely_93 hl (by decide) rfl (fun ls hl => ?_)
  refine lv_iload hx hb dX6_likely_95 (lv_at hl 0 rfl) ?_
  refine lv_if_eq (tgt := 120) hx hb dX6_likely_97 (by decide) (fun c19 => ?_) (fun c19 => ?_)
  · replace hw := hw.1 c19
    refine lv_iconst (v := (0 : Int32)) hx hb dX6_likely_120 (by decide) ?_
    exact m_X6_likely_b121 C hM X K L62 k62 h x1 x3 x4 x5 x6 x7 t0 (0 : Int32) hw hP hS (lv_sub hl [1, 2, 3, 4, 5, 6, 7, 0] rfl)
  · replace hw := hw.2 c19
    refine lv_aload_n hx hb dX6_likely_100 rfl (lv_at hl 1 rfl) ?_
    refine z_getr (C := RX6) (T := TX6) (N := 15) (ref := "GauntletHallModel") (o := 19) (d := 0) hx hb hts hfX6 hown hK hP (hM (19, 0) (List.mem_of_getElem? (i := 0) rfl)) z_l_19_0 rfl 5 (by decide) (hts (.fieldLink RX6 22 "GauntletHallModel" "now" "[I") (by decide +kernel)) rfl rfl dX6_likely_101 ?_
    refine lv_iconst (v := (4 : Int32)) hx hb dX6_likely_104 (by decide) ?_
    refine lv_aload_n hx hb dX6_likely_105 rfl (lv_at hl 1 rfl) ?_
    refine z_getr (C := RX6) (T := TX6) (N := 15) (ref := "GauntletHallModel") (o := 19) (d := 0) hx hb hts hfX6 hown hK hP (hM (19, 0) (List.mem_of_getElem? (i := 0) rfl)) z_l_19_0 rfl 5 (by decide) (hts (.fieldLink RX6 22 "GauntletHallModel" "now" "[I") (by decide +kernel)) rfl rfl dX6_likely_106 ?_
    refine lv_bipush (v := (26 : Int32)) hx hb dX6_likely_109 (by decide) ?_
    refine lv_iload hx hb dX6_likely_111 (lv_at hl 7 rfl) ?_
    refine lv_iadd hx hb dX6_likely_113 ?_
    obtain ⟨i31, hw⟩ := hw
    refine z_iald (o := 19) (d := 5) hx hb hK hP (hM (19, 5) (List.mem_of_getElem? (i := 5) rfl)) z_l_19_5 i31 (z_up_val X 19 h 5 (z_n ((26 : Int32) + x7))) dX6_likely_114 ?_
    refine lv_iadd hx hb dX6_likely_115 ?_
    obtain ⟨i32, hw⟩ := hw
    refine z_iald (o := 19) (d := 5) hx hb hK hP (hM (19, 5) (List.mem_of_getElem? (i := 5) rfl)) z_l_19_5 i32 (z_up_val X 19 h 5 (z_n ((4 : Int32) + (h 5 (z_n ((26 : Int32) + x7)))))) dX6_likely_116 ?_
    refine lv_goto (tgt := 121) hx hb dX6_likely_117 (by decide) ?_
    exact m_X6_likely_b121 C hM X K L62 k62 h x1 x3 x4 x5 x6 x7 t0 (h 5 (z_n ((4 : Int32) + (h 5 (z_n ((26 : Int32) + x7)))))) hw hP hS (lv_sub hl [1, 2, 3, 4, 5, 6, 7, 0] rfl)
set_option maxHeartbeats 4000000 in
set_option maxRecDepth 100000 in
theorem m_X6_likely_b92 {p : Program} {l : Launch} {e : Env} {s : State} {m : MethodId} {args : Array Value} {below : List Frame} {meth : Method} {c : Code} {E : z_E} (C : z_Cx p E s m args meth c cX6_likely 10 wsX6_likely RX6 (some .int)) (hM : z_mod E) (X : z_X) (K : Int32 → z_G → Prop) (L62 : z_G → Int32 → Int32 → Int32 → Int32 → Int32 → Int32 → Prop) (k62 : ∀ (h : z_G) (x1 : Int32) (x3 : Int32) (x4 : Int32) (x5 : Int32) (x6 : Int32) (x7 : Int32), L62 h x1 x3 x4 x5 x6 x7 → ∀ {H : Heap} {locs : List Loc}, z_P E (z_up X 19 h) H → va_S (z_A E) s.heap H locs → ∀ (ls : Array Slot), lv_has ls 10 [(0, .ref (z_a E 19 0)), (1, .int x1), (3, .int x3), (4, .int x4), (5, .int x5), (6, .int x6), (7, .int x7)] → W p l e rX6_likely s m args below meth c H locs 0 0 (MQ below (va_Qi (fun r X' => ∃ h', X' = z_up X 19 h' ∧ K r h') (fun u t => z_P E u t.heap) (z_A E)) args s 0 0 (z_A E)) (F0 m 62 ls [])) (h : z_G) (x1 : Int32) (x3 : Int32) (x4 : Int32) (x5 : Int32) (x6 : Int32) (x7 : Int32) (hw : v_X6_likely_b92 K L62 h x1 x3 x4 x5 x6 x7) {H : Heap} {locs : List Loc} (hP : z_P E (z_up X 19 h) H) (hS : va_S (z_A E) s.heap H locs) {ls : Array Slot} (hl : lv_has ls 10 [(0, .ref (z_a E 19 0)), (1, .int x1), (3, .int x3), (4, .int x4), (5, .int x5), (6, .int x6), (7, .int x7)]) : W p l e rX6_likely s m args below meth c H locs 0 0 (MQ below (va_Qi (fun r X' => ∃ h', X' = z_up X 19 h' ∧ K r h') (fun u t => z_P E u t.heap) (z_A E)) args s 0 0 (z_A E)) (F0 m 92 ls []) := by
  obtain ⟨hx, hb, hml, hr, hlocks, hown, hts, hK, hE⟩ := id C
  have hfX6 : ∀ w ∈ u_ws RX6 TX6 15, w ∈ wsX6_likely := by decide +kernel
  unfold v_X6_likely_b92 at hw
  refine lv_iconst (v := (0 : Int32)) hx hb dX6_likely_92 (by decide) ?_
  exact m_X6_likely_b93 C hM X K L62 k62 h x1 x3 x4 x5 x6 x7 (0 : Int32) hw hP hS (lv_sub hl [0, 1, 2, 3, 4, 5, 6] rfl)
set_option maxHeartbeats 4000000 in
set_option maxRecDepth 100000 in
theorem m_X6_likely_b62_s {p : Program} {l : Launch} {e : Env} {s : State} {m : MethodId} {args : Array Value} {below : List Frame} {meth : Method} {c : Code} {E : z_E} (C : z_Cx p E s m args meth c cX6_likely 10 wsX6_likely RX6 (some .int)) (hM : z_mod E) (X : z_X) (K : Int32 → z_G → Prop) (L62 : z_G → Int32 → Int32 → Int32 → Int32 → Int32 → Int32 → Prop) (k62 : ∀ (h : z_G) (x1 : Int32) (x3 : Int32) (x4 : Int32) (x5 : Int32) (x6 : Int32) (x7 : Int32), L62 h x1 x3 x4 x5 x6 x7 → ∀ {H : Heap} {locs : List Loc}, z_P E (z_up X 19 h) H → va_S (z_A E) s.heap H locs → ∀ (ls : Array Slot), lv_has ls 10 [(0, .ref (z_a E 19 0)), (1, .int x1), (3, .int x3), (4, .int x4), (5, .int x5), (6, .int x6), (7, .int x7)] → W p l e rX6_likely s m args below meth c H locs 0 0 (MQ below (va_Qi (fun r X' => ∃ h', X' = z_up X 19 h' ∧ K r h') (fun u t => z_P E u t.heap) (z_A E)) args s 0 0 (z_A E)) (F0 m 62 ls [])) (h : z_G) (x1 : Int32) (x3 : Int32) (x4 : Int32) (x5 : Int32) (x6 : Int32) (x7 : Int32) (hw : v_X6_likely_b62_s K L62 h x1 x3 x4 x5 x6 x7) {H : Heap} {locs : List Loc} (hP : z_P E (z_up X 19 h) H) (hS : va_S (z_A E) s.heap H locs) {ls : Array Slot} (hl : lv_has ls 10 [(0, .ref (z_a E 19 0)), (1, .int x1), (3, .int x3), (4, .int x4), (5, .int x5), (6, .int x6), (7, .int x7)]) : W p l e rX6_likely s m args below meth c H locs 0 0 (MQ below (va_Qi (fun r X' => ∃ h', X' = z_up X 19 h' ∧ K r h') (fun u t => z_P E u t.heap) (z_A E)) args s 0 0 (z_A E)) (F0 m 62 ls []) := by
  obtain ⟨hx, hb, hml, hr, hlocks, hown, hts, hK, hE⟩ := id C
  have hfX6 : ∀ w ∈ u_ws RX6 TX6 15, w ∈ wsX6_likely := by decide +kernel
  unfold v_X6_likely_b62_s at hw
  refine lv_iload hx hb dX6_likely_62 (lv_at hl 6 rfl) ?_
  refine lv_aload_n hx hb dX6_likely_64 rfl (lv_at hl 0 rfl) ?_
  refine z_getr (C := RX6) (T := TX6) (N := 15) (ref := "GauntletHallModel") (o := 19) (d := 0) hx hb hts hfX6 hown hK hP (hM (19, 0) (List.mem_of_getElem? (i := 0) rfl)) z_l_19_0 rfl 5 (by decide) (hts (.fieldLink RX6 22 "GauntletHallModel" "now" "[I") (by decide +kernel)) rfl rfl dX6_likely_65 ?_
  refine lv_iconst (v := (2 : Int32)) hx hb dX6_likely_68 (by decide) ?_
  obtain ⟨i10, hw⟩ := hw
  refine z_iald (o := 19) (d := 5) hx hb hK hP (hM (19, 5) (List.mem_of_getElem? (i := 5) rfl)) z_l_19_5 i10 (z_up_val X 19 h 5 (z_n (2 : Int32))) dX6_likely_69 ?_
  refine lv_icmp_ge (tgt := 191) hx hb dX6_likely_70 (by decide) (fun c11 => ?_) (fun c11 => ?_)
  · replace hw := hw.1 c11
    refine lv_iload hx hb dX6_likely_191 (lv_at hl 3 rfl) ?_
    refine lv_istore (lv' := [(7, .int x4), (0, .ref (z_a E 19 0)), (1, .int x1), (3, .int x3), (4, .int x4), (5, .int x5), (6, .int x6)]) hx hb dX6_likely_193 hl (by decide) rfl (fun ls hl => ?_)
    refine lv_iload hx hb dX6_likely_195 (lv_at hl 5 rfl) ?_
    refine lv_istore (lv' := [(8, .int x5), (7, .int x4), (0, .ref (z_a E 19 0)), (1, .int x1), (3, .int x3), (4, .int x4), (5, .int x5), (6, .int x6)]) hx hb dX6_likely_197 hl (by decide) rfl (fun ls hl => ?_)
    exact m_X6_likely_b199 C hM X K h x3 x4 x5 x4 x5 hw hP hS (lv_sub hl [4, 5, 6, 1, 0] rfl)
  · replace hw := hw.2 c11
    refine lv_iload hx hb dX6_likely_73 (lv_at hl 5 rfl) ?_
    refine lv_if_le (tgt := 92) hx hb dX6_likely_75 (by decide) (fun c18 => ?_) (fun c18 => ?_)
    · replace hw := hw.1 c18
      exact m_X6_likely_b92 C hM X K L62 k62 h x1 x3 x4 x5 x6 x7 hw hP hS (lv_sub hl [0, 1, 2, 3, 4, 5, 6] rfl)
    · replace hw := hw.2 c18
      refine lv_aload_n hx hb dX6_likely_78 rfl (lv_at hl 0 rfl) ?_
      refine lv_iload hx hb dX6_likely_79 (lv_at hl 6 rfl) ?_
      refine lv_iload_n hx hb dX6_likely_81 rfl (lv_at hl 1 rfl) ?_
      refine z_vi (C := RX6) (T := TX6) (N := 15) (o := 19) (rest := []) ⟨hx, hb, hml, hown, hts⟩ (m_X6_isFit l hE hM X h x7 x1 _ hw) (cwV 2 hts gX6_likely_X6_isFit rfl rfl rfl (by decide +kernel) ⟨Nat.le_of_ble_eq_true rfl, Nat.le_of_ble_eq_true rfl⟩) hK hP hS (hM (19, 0) (List.mem_of_getElem? (i := 0) rfl)) z_l_19_0 rfl rfl hl.1 rfl (Nat.le_of_ble_eq_true rfl) dX6_likely_82 ⟨Nat.zero_le _, Nat.zero_le _⟩ (fun r33 u H locs hk hP hS => ?_)
      obtain ⟨eu, hw⟩ := hk
      rw [eu] at hP
      refine lv_if_eq (tgt := 92) hx hb dX6_likely_85 (by decide) (fun c34 => ?_) (fun c34 => ?_)
      · replace hw := hw.1 c34
        exact m_X6_likely_b92 C hM X K L62 k62 h x1 x3 x4 x5 x6 x7 hw hP hS (lv_sub hl [0, 1, 2, 3, 4, 5, 6] rfl)
      · replace hw := hw.2 c34
        refine lv_iconst (v := (1 : Int32)) hx hb dX6_likely_88 (by decide) ?_
        refine lv_goto (tgt := 93) hx hb dX6_likely_89 (by decide) ?_
        exact m_X6_likely_b93 C hM X K L62 k62 h x1 x3 x4 x5 x6 x7 (1 : Int32) hw hP hS (lv_sub hl [0, 1, 2, 3, 4, 5, 6] rfl)
theorem m_X6_likely_b62 {p : Program} {l : Launch} {e : Env} {s : State} {m : MethodId} {args : Array Value} {below : List Frame} {meth : Method} {c : Code} {E : z_E} (C : z_Cx p E s m args meth c cX6_likely 10 wsX6_likely RX6 (some .int)) (hM : z_mod E) (X : z_X) (K : Int32 → z_G → Prop) (h : z_G) (x1 : Int32) (x3 : Int32) (x4 : Int32) (x5 : Int32) (x6 : Int32) (x7 : Int32) (hw : v_X6_likely_b62 K h x1 x3 x4 x5 x6 x7) {H : Heap} {locs : List Loc} (hP : z_P E (z_up X 19 h) H) (hS : va_S (z_A E) s.heap H locs) {ls : Array Slot} (hl : lv_has ls 10 [(0, .ref (z_a E 19 0)), (1, .int x1), (3, .int x3), (4, .int x4), (5, .int x5), (6, .int x6), (7, .int x7)]) : W p l e rX6_likely s m args below meth c H locs 0 0 (MQ below (va_Qi (fun r X' => ∃ h', X' = z_up X 19 h' ∧ K r h') (fun u t => z_P E u t.heap) (z_A E)) args s 0 0 (z_A E)) (F0 m 62 ls []) := by
  obtain ⟨n, hw⟩ := hw
  revert hw hP hS hl
  revert h x1 x3 x4 x5 x6 x7 H locs ls
  induction n with
  | zero => intro h x1 x3 x4 x5 x6 x7 H locs ls hP hS hl hw; exact hw.elim
  | succ n ih =>
    intro h x1 x3 x4 x5 x6 x7 H locs ls hP hS hl hw
    exact m_X6_likely_b62_s C hM X K (fun h x1 x3 x4 x5 x6 x7 => z_fp (σ := z_G × Int32 × Int32 × Int32 × Int32 × Int32 × Int32) (fun Lp q => v_X6_likely_b62_s K (fun h x1 x3 x4 x5 x6 x7 => Lp (h, x1, x3, x4, x5, x6, x7)) q.1 q.2.1 q.2.2.1 q.2.2.2.1 q.2.2.2.2.1 q.2.2.2.2.2.1 q.2.2.2.2.2.2) n (h, x1, x3, x4, x5, x6, x7)) (fun h x1 x3 x4 x5 x6 x7 h9 H locs hP hS ls hl => ih h x1 x3 x4 x5 x6 x7 hP hS hl h9) h x1 x3 x4 x5 x6 x7 hw hP hS hl
set_option maxHeartbeats 4000000 in
set_option maxRecDepth 100000 in
theorem m_X6_likely (l : Launch) {E : z_E} (hE : z_ok E) (hM : z_mod E) (X : z_X) (h : z_G) (x1 : Int32) (x2 : Int32) (x3 : Int32) (K : Int32 → z_G → Prop) (hw : v_X6_likely h x1 x2 x3 K) : z_CI l E yX6_likely wsX6_likely rX6_likely [.ref (z_a E 19 0), .int x1, .int x2, .int x3] (z_up X 19 h) (fun r X' => ∃ h', X' = z_up X 19 h' ∧ K r h') := by
  refine z_start (cc := cX6_likely) (maxL := 10) (ret := (some .int)) hE (by decide) rfl (Nat.le_of_ble_eq_true rfl) ?_
  intro p e s m below meth c C hP hS ls hl
  have C : z_Cx p E s m _ meth c cX6_likely 10 wsX6_likely RX6 (some .int) := C
  obtain ⟨hx, hb, hml, hr, hlocks, hown, hts, hK, hE⟩ := id C
  have hl : lv_has ls 10 [(0, .ref (z_a E 19 0)), (1, .int x1), (2, .int x2), (3, .int x3)] := hl
  have hfX6 : ∀ w ∈ u_ws RX6 TX6 15, w ∈ wsX6_likely := by decide +kernel
  unfold v_X6_likely at hw
  refine lv_aload_n hx hb dX6_likely_0 rfl (lv_at hl 0 rfl) ?_
  refine lv_iload_n hx hb dX6_likely_1 rfl (lv_at hl 1 rfl) ?_
  refine z_vi (C := RX6) (T := TX6) (N := 15) (o := 19) (rest := []) ⟨hx, hb, hml, hown, hts⟩ (m_X6_isPerson l hE hM X h x1 _ hw) (cwV 1 hts gX6_likely_X6_isPerson rfl rfl rfl (by decide +kernel) ⟨Nat.le_of_ble_eq_true rfl, Nat.le_of_ble_eq_true rfl⟩) hK hP hS (hM (19, 0) (List.mem_of_getElem? (i := 0) rfl)) z_l_19_0 rfl rfl hl.1 rfl (Nat.le_of_ble_eq_true rfl) dX6_likely_2 ⟨Nat.zero_le _, Nat.zero_le _⟩ (fun r1 u H locs hk hP hS => ?_)
  obtain ⟨eu, hw⟩ := hk
  rw [eu] at hP
  refine lv_if_eq (tgt := 30) hx hb dX6_likely_5 (by decide) (fun c2 => ?_) (fun c2 => ?_)
  · replace hw := hw.1 c2
    refine lv_iconst (v := (-1 : Int32)) hx hb dX6_likely_30 (by decide) ?_
    exact z_reti C hP hS ⟨_, rfl, hw⟩ dX6_likely_31
  · replace hw := hw.2 c2
    refine lv_iload_n hx hb dX6_likely_8 rfl (lv_at hl 2 rfl) ?_
    refine lv_i2l hx hb dX6_likely_9 rfl ?_
    refine lv_lconst (v := (0 : Int64)) hx hb dX6_likely_10 (by decide) ?_
    refine lv_ldc2 hx hb hown (hts (.constantLong RX6 134 (4)) (by decide +kernel)) dX6_likely_11 ?_
    refine z_si (rest := []) ⟨hx, hb, hml, hown, hts⟩ (m_X6_in l hE (z_up X 19 h) (Int32.toInt64 x2) (0 : Int64) (4 : Int64) _ hw) (va_cwS 3 hts gX6_likely_X6_in rfl rfl rfl (by decide +kernel) ⟨Nat.le_of_ble_eq_true rfl, Nat.le_of_ble_eq_true rfl⟩) hK hP hS rfl hl.1 rfl (Nat.le_of_ble_eq_true rfl) dX6_likely_14 ⟨Nat.zero_le _, Nat.zero_le _⟩ (fun r3 u H locs hk hP hS => ?_)
    obtain ⟨eu, hw⟩ := hk
    rw [eu] at hP
    refine lv_if_eq (tgt := 30) hx hb dX6_likely_17 (by decide) (fun c4 => ?_) (fun c4 => ?_)
    · replace hw := hw.1 c4
      refine lv_iconst (v := (-1 : Int32)) hx hb dX6_likely_30 (by decide) ?_
      exact z_reti C hP hS ⟨_, rfl, hw⟩ dX6_likely_31
    · replace hw := hw.2 c4
      refine lv_iload_n hx hb dX6_likely_20 rfl (lv_at hl 3 rfl) ?_
      refine lv_i2l hx hb dX6_likely_21 rfl ?_
      refine lv_lconst (v := (0 : Int64)) hx hb dX6_likely_22 (by decide) ?_
      refine lv_lconst (v := (1 : Int64)) hx hb dX6_likely_23 (by decide) ?_
      refine z_si (rest := []) ⟨hx, hb, hml, hown, hts⟩ (m_X6_in l hE (z_up X 19 h) (Int32.toInt64 x3) (0 : Int64) (1 : Int64) _ hw) (va_cwS 3 hts gX6_likely_X6_in rfl rfl rfl (by decide +kernel) ⟨Nat.le_of_ble_eq_true rfl, Nat.le_of_ble_eq_true rfl⟩) hK hP hS rfl hl.1 rfl (Nat.le_of_ble_eq_true rfl) dX6_likely_24 ⟨Nat.zero_le _, Nat.zero_le _⟩ (fun r5 u H locs hk hP hS => ?_)
      obtain ⟨eu, hw⟩ := hk
      rw [eu] at hP
      refine lv_if_ne (tgt := 32) hx hb dX6_likely_27 (by decide) (fun c6 => ?_) (fun c6 => ?_)
      · replace hw := hw.1 c6
        refine lv_aload_n hx hb dX6_likely_32 rfl (lv_at hl 0 rfl) ?_
        refine z_getr (C := RX6) (T := TX6) (N := 15) (ref := "GauntletHallModel") (o := 19) (d := 0) hx hb hts hfX6 hown hK hP (hM (19, 0) (List.mem_of_getElem? (i := 0) rfl)) z_l_19_0 rfl 5 (by decide) (hts (.fieldLink RX6 22 "GauntletHallModel" "now" "[I") (by decide +kernel)) rfl rfl dX6_likely_33 ?_
        refine lv_iconst (v := (4 : Int32)) hx hb dX6_likely_36 (by decide) ?_
        refine lv_iload_n hx hb dX6_likely_37 rfl (lv_at hl 1 rfl) ?_
        refine lv_iadd hx hb dX6_likely_38 ?_
        obtain ⟨i7, hw⟩ := hw
        refine z_iald (o := 19) (d := 5) hx hb hK hP (hM (19, 5) (List.mem_of_getElem? (i := 5) rfl)) z_l_19_5 i7 (z_up_val X 19 h 5 (z_n ((4 : Int32) + x1))) dX6_likely_39 ?_
        refine lv_if_ne (tgt := 46) hx hb dX6_likely_40 (by decide) (fun c8 => ?_) (fun c8 => ?_)
        · replace hw := hw.1 c8
          refine lv_aload_n hx hb dX6_likely_46 rfl (lv_at hl 0 rfl) ?_
          refine z_vv (C := RX6) (T := TX6) (N := 15) (o := 19) (rest := []) ⟨hx, hb, hml, hown, hts⟩ (m_X6_aside l hE hM X h _ hw) (cwV 0 hts gX6_likely_X6_aside rfl rfl rfl (by decide +kernel) ⟨Nat.le_of_ble_eq_true rfl, Nat.le_of_ble_eq_true rfl⟩) hK hP hS (hM (19, 0) (List.mem_of_getElem? (i := 0) rfl)) z_l_19_0 rfl rfl hl.1 rfl (Nat.le_of_ble_eq_true rfl) dX6_likely_47 ⟨Nat.zero_le _, Nat.zero_le _⟩ (fun u H locs hk hP hS => ?_)
          obtain ⟨h9, eu, hw⟩ := hk
          rw [eu] at hP
          refine lv_iconst (v := (1 : Int32)) hx hb dX6_likely_50 (by decide) ?_
          refine lv_istore (lv' := [(4, .int (1 : Int32)), (0, .ref (z_a E 19 0)), (1, .int x1), (2, .int x2), (3, .int x3)]) hx hb dX6_likely_51 hl (by decide) rfl (fun ls hl => ?_)
          refine lv_iconst (v := (1 : Int32)) hx hb dX6_likely_53 (by decide) ?_
          refine lv_istore (lv' := [(5, .int (1 : Int32)), (4, .int (1 : Int32)), (0, .ref (z_a E 19 0)), (1, .int x1), (2, .int x2), (3, .int x3)]) hx hb dX6_likely_54 hl (by decide) rfl (fun ls hl => ?_)
          refine lv_iload_n hx hb dX6_likely_56 rfl (lv_at hl 4 rfl) ?_
          refine lv_istore (lv' := [(6, .int x2), (5, .int (1 : Int32)), (4, .int (1 : Int32)), (0, .ref (z_a E 19 0)), (1, .int x1), (2, .int x2), (3, .int x3)]) hx hb dX6_likely_57 hl (by decide) rfl (fun ls hl => ?_)
          refine lv_iconst (v := (0 : Int32)) hx hb dX6_likely_59 (by decide) ?_
          refine lv_istore (lv' := [(7, .int (0 : Int32)), (6, .int x2), (5, .int (1 : Int32)), (4, .int (1 : Int32)), (0, .ref (z_a E 19 0)), (1, .int x1), (2, .int x2), (3, .int x3)]) hx hb dX6_likely_60 hl (by decide) rfl (fun ls hl => ?_)
          exact m_X6_likely_b62 C hM X K h9 x1 x3 (1 : Int32) (1 : Int32) x2 (0 : Int32) hw hP hS (lv_sub hl [4, 5, 7, 3, 2, 1, 0] rfl)
        · replace hw := hw.2 c8
          refine lv_bipush (v := (-2 : Int32)) hx hb dX6_likely_43 (by decide) ?_
          exact z_reti C hP hS ⟨_, rfl, hw⟩ dX6_likely_45
      · replace hw := hw.2 c6
        refine lv_iconst (v := (-1 : Int32)) hx hb dX6_likely_30 (by decide) ?_
        exact z_reti C hP hS ⟨_, rfl, hw⟩ dX6_likely_31
set_option maxHeartbeats 4000000 in
set_option maxRecDepth 100000 in
theorem m_X6_pass (l : Launch) {E : z_E} (hE : z_ok E) (hM : z_mod E) (X : z_X) (h : z_G) (x1 : Int32) (K : Int32 → z_G → Prop) (hw : v_X6_pass h x1 K) : z_CI l E yX6_pass wsX6_pass rX6_pass [.ref (z_a E 19 0), .int x1] (z_up X 19 h) (fun r X' => ∃ h', X' = z_up X 19 h' ∧ K r h') := by
  refine z_start (cc := cX6_pass) (maxL := 3) (ret := (some .int)) hE (by decide) rfl (Nat.le_of_ble_eq_true rfl) ?_
  intro p e s m below meth c C hP hS ls hl
  have C : z_Cx p E s m _ meth c cX6_pass 3 wsX6_pass RX6 (some .int) := C
  obtain ⟨hx, hb, hml, hr, hlocks, hown, hts, hK, hE⟩ := id C
  have hl : lv_has ls 3 [(0, .ref (z_a E 19 0)), (1, .int x1)] := hl
  have hfX6 : ∀ w ∈ u_ws RX6 TX6 15, w ∈ wsX6_pass := by decide +kernel
  unfold v_X6_pass at hw
  refine lv_iload_n hx hb dX6_pass_0 rfl (lv_at hl 1 rfl) ?_
  refine lv_i2l hx hb dX6_pass_1 rfl ?_
  refine lv_lconst (v := (1 : Int64)) hx hb dX6_pass_2 (by decide) ?_
  refine lv_ldc2 hx hb hown (hts (.constantLong RX6 82 (20)) (by decide +kernel)) dX6_pass_3 ?_
  refine z_si (rest := []) ⟨hx, hb, hml, hown, hts⟩ (m_X6_in l hE (z_up X 19 h) (Int32.toInt64 x1) (1 : Int64) (20 : Int64) _ hw) (va_cwS 3 hts gX6_pass_X6_in rfl rfl rfl (by decide +kernel) ⟨Nat.le_of_ble_eq_true rfl, Nat.le_of_ble_eq_true rfl⟩) hK hP hS rfl hl.1 rfl (Nat.le_of_ble_eq_true rfl) dX6_pass_6 ⟨Nat.zero_le _, Nat.zero_le _⟩ (fun r1 u H locs hk hP hS => ?_)
  obtain ⟨eu, hw⟩ := hk
  rw [eu] at hP
  refine lv_if_ne (tgt := 14) hx hb dX6_pass_9 (by decide) (fun c2 => ?_) (fun c2 => ?_)
  · replace hw := hw.1 c2
    refine lv_aload_n hx hb dX6_pass_14 rfl (lv_at hl 0 rfl) ?_
    refine z_getr (C := RX6) (T := TX6) (N := 15) (ref := "GauntletHallModel") (o := 19) (d := 0) hx hb hts hfX6 hown hK hP (hM (19, 0) (List.mem_of_getElem? (i := 0) rfl)) z_l_19_0 rfl 5 (by decide) (hts (.fieldLink RX6 22 "GauntletHallModel" "now" "[I") (by decide +kernel)) rfl rfl dX6_pass_15 ?_
    refine lv_iconst (v := (0 : Int32)) hx hb dX6_pass_18 (by decide) ?_
    obtain ⟨i3, hw⟩ := hw
    refine z_iald (o := 19) (d := 5) hx hb hK hP (hM (19, 5) (List.mem_of_getElem? (i := 5) rfl)) z_l_19_5 i3 (z_up_val X 19 h 5 (z_n (0 : Int32))) dX6_pass_19 ?_
    refine lv_iload_n hx hb dX6_pass_20 rfl (lv_at hl 1 rfl) ?_
    refine lv_iadd hx hb dX6_pass_21 ?_
    refine lv_sipush (v := (999 : Int32)) hx hb dX6_pass_22 (by decide) ?_
    refine lv_icmp_le (tgt := 31) hx hb dX6_pass_25 (by decide) (fun c4 => ?_) (fun c4 => ?_)
    · replace hw := hw.1 c4
      refine lv_aload_n hx hb dX6_pass_31 rfl (lv_at hl 0 rfl) ?_
      refine z_vv (C := RX6) (T := TX6) (N := 15) (o := 19) (rest := []) ⟨hx, hb, hml, hown, hts⟩ (m_X6_note l hE hM X h _ hw) (cwV 0 hts gX6_pass_X6_note rfl rfl rfl (by decide +kernel) ⟨Nat.le_of_ble_eq_true rfl, Nat.le_of_ble_eq_true rfl⟩) hK hP hS (hM (19, 0) (List.mem_of_getElem? (i := 0) rfl)) z_l_19_0 rfl rfl hl.1 rfl (Nat.le_of_ble_eq_true rfl) dX6_pass_32 ⟨Nat.zero_le _, Nat.zero_le _⟩ (fun u H locs hk hP hS => ?_)
      obtain ⟨h5, eu, hw⟩ := hk
      rw [eu] at hP
      refine lv_aload_n hx hb dX6_pass_35 rfl (lv_at hl 0 rfl) ?_
      refine z_vv (C := RX6) (T := TX6) (N := 15) (o := 19) (rest := []) ⟨hx, hb, hml, hown, hts⟩ (m_X6_aside l hE hM X h5 _ hw) (cwV 0 hts gX6_pass_X6_aside rfl rfl rfl (by decide +kernel) ⟨Nat.le_of_ble_eq_true rfl, Nat.le_of_ble_eq_true rfl⟩) hK hP hS (hM (19, 0) (List.mem_of_getElem? (i := 0) rfl)) z_l_19_0 rfl rfl hl.1 rfl (Nat.le_of_ble_eq_true rfl) dX6_pass_36 ⟨Nat.zero_le _, Nat.zero_le _⟩ (fun u H locs hk hP hS => ?_)
      obtain ⟨h6, eu, hw⟩ := hk
      rw [eu] at hP
      refine lv_aload_n hx hb dX6_pass_39 rfl (lv_at hl 0 rfl) ?_
      refine lv_iload_n hx hb dX6_pass_40 rfl (lv_at hl 1 rfl) ?_
      refine z_vv (C := RX6) (T := TX6) (N := 15) (o := 19) (rest := []) ⟨hx, hb, hml, hown, hts⟩ (m_X6_goReigns l hE hM X h6 x1 _ hw) (cwV 1 hts gX6_pass_X6_goReigns rfl rfl rfl (by decide +kernel) ⟨Nat.le_of_ble_eq_true rfl, Nat.le_of_ble_eq_true rfl⟩) hK hP hS (hM (19, 0) (List.mem_of_getElem? (i := 0) rfl)) z_l_19_0 rfl rfl hl.1 rfl (Nat.le_of_ble_eq_true rfl) dX6_pass_41 ⟨Nat.zero_le _, Nat.zero_le _⟩ (fun u H locs hk hP hS => ?_)
      obtain ⟨h7, eu, hw⟩ := hk
      rw [eu] at hP
      refine lv_aload_n hx hb dX6_pass_44 rfl (lv_at hl 0 rfl) ?_
      refine z_getr (C := RX6) (T := TX6) (N := 15) (ref := "GauntletHallModel") (o := 19) (d := 0) hx hb hts hfX6 hown hK hP (hM (19, 0) (List.mem_of_getElem? (i := 0) rfl)) z_l_19_0 rfl 6 (by decide) (hts (.fieldLink RX6 25 "GauntletHallModel" "side" "[I") (by decide +kernel)) rfl rfl dX6_pass_45 ?_
      refine lv_iconst (v := (1 : Int32)) hx hb dX6_pass_48 (by decide) ?_
      obtain ⟨i8, hw⟩ := hw
      refine z_iald (o := 19) (d := 6) hx hb hK hP (hM (19, 6) (List.mem_of_getElem? (i := 6) rfl)) z_l_19_6 i8 (z_up_val X 19 h7 6 (z_n (1 : Int32))) dX6_pass_49 ?_
      refine lv_aload_n hx hb dX6_pass_50 rfl (lv_at hl 0 rfl) ?_
      refine z_getr (C := RX6) (T := TX6) (N := 15) (ref := "GauntletHallModel") (o := 19) (d := 0) hx hb hts hfX6 hown hK hP (hM (19, 0) (List.mem_of_getElem? (i := 0) rfl)) z_l_19_0 rfl 5 (by decide) (hts (.fieldLink RX6 22 "GauntletHallModel" "now" "[I") (by decide +kernel)) rfl rfl dX6_pass_51 ?_
      refine lv_iconst (v := (1 : Int32)) hx hb dX6_pass_54 (by decide) ?_
      obtain ⟨i9, hw⟩ := hw
      refine z_iald (o := 19) (d := 5) hx hb hK hP (hM (19, 5) (List.mem_of_getElem? (i := 5) rfl)) z_l_19_5 i9 (z_up_val X 19 h7 5 (z_n (1 : Int32))) dX6_pass_55 ?_
      refine lv_isub hx hb dX6_pass_56 ?_
      refine lv_topi (fun y10 ey10 => ?_)
      replace hw := hw y10 ey10
      refine lv_istore_n (lv' := [(2, .int y10), (0, .ref (z_a E 19 0)), (1, .int x1)]) hx hb dX6_pass_57 rfl hl (by decide) rfl (fun ls hl => ?_)
      refine lv_aload_n hx hb dX6_pass_58 rfl (lv_at hl 1 rfl) ?_
      refine z_vv (C := RX6) (T := TX6) (N := 15) (o := 19) (rest := []) ⟨hx, hb, hml, hown, hts⟩ (m_X6_settle l hE hM X h7 _ hw) (cwV 0 hts gX6_pass_X6_settle rfl rfl rfl (by decide +kernel) ⟨Nat.le_of_ble_eq_true rfl, Nat.le_of_ble_eq_true rfl⟩) hK hP hS (hM (19, 0) (List.mem_of_getElem? (i := 0) rfl)) z_l_19_0 rfl rfl hl.1 rfl (Nat.le_of_ble_eq_true rfl) dX6_pass_59 ⟨Nat.zero_le _, Nat.zero_le _⟩ (fun u H locs hk hP hS => ?_)
      obtain ⟨h11, eu, hw⟩ := hk
      rw [eu] at hP
      refine lv_iload_n hx hb dX6_pass_62 rfl (lv_at hl 0 rfl) ?_
      exact z_reti C hP hS ⟨_, rfl, hw⟩ dX6_pass_63
    · replace hw := hw.2 c4
      refine lv_bipush (v := (-2 : Int32)) hx hb dX6_pass_28 (by decide) ?_
      exact z_reti C hP hS ⟨_, rfl, hw⟩ dX6_pass_30
  · replace hw := hw.2 c2
    refine lv_iconst (v := (-1 : Int32)) hx hb dX6_pass_12 (by decide) ?_
    exact z_reti C hP hS ⟨_, rfl, hw⟩ dX6_pass_13
set_option maxHeartbeats 4000000 in
set_option maxRecDepth 100000 in
theorem m_X6_person (l : Launch) {E : z_E} (hE : z_ok E) (hM : z_mod E) (X : z_X) (h : z_G) (x1 : Int32) (x2 : Int32) (K : Int32 → Prop) (hw : v_X6_person h x1 x2 K) : z_CI l E yX6_person wsX6_person rX6_person [.ref (z_a E 19 0), .int x1, .int x2] (z_up X 19 h) (fun r X' => X' = (z_up X 19 h) ∧ K r) := by
  refine z_start (cc := cX6_person) (maxL := 3) (ret := (some .int)) hE (by decide) rfl (Nat.le_of_ble_eq_true rfl) ?_
  intro p e s m below meth c C hP hS ls hl
  have C : z_Cx p E s m _ meth c cX6_person 3 wsX6_person RX6 (some .int) := C
  obtain ⟨hx, hb, hml, hr, hlocks, hown, hts, hK, hE⟩ := id C
  have hl : lv_has ls 3 [(0, .ref (z_a E 19 0)), (1, .int x1), (2, .int x2)] := hl
  have hfX6 : ∀ w ∈ u_ws RX6 TX6 15, w ∈ wsX6_person := by decide +kernel
  unfold v_X6_person at hw
  refine lv_aload_n hx hb dX6_person_0 rfl (lv_at hl 0 rfl) ?_
  refine lv_iload_n hx hb dX6_person_1 rfl (lv_at hl 1 rfl) ?_
  refine z_vi (C := RX6) (T := TX6) (N := 15) (o := 19) (rest := []) ⟨hx, hb, hml, hown, hts⟩ (m_X6_isPerson l hE hM X h x1 _ hw) (cwV 1 hts gX6_person_X6_isPerson rfl rfl rfl (by decide +kernel) ⟨Nat.le_of_ble_eq_true rfl, Nat.le_of_ble_eq_true rfl⟩) hK hP hS (hM (19, 0) (List.mem_of_getElem? (i := 0) rfl)) z_l_19_0 rfl rfl hl.1 rfl (Nat.le_of_ble_eq_true rfl) dX6_person_2 ⟨Nat.zero_le _, Nat.zero_le _⟩ (fun r1 u H locs hk hP hS => ?_)
  obtain ⟨eu, hw⟩ := hk
  rw [eu] at hP
  refine lv_if_eq (tgt := 20) hx hb dX6_person_5 (by decide) (fun c2 => ?_) (fun c2 => ?_)
  · replace hw := hw.1 c2
    refine lv_iconst (v := (-1 : Int32)) hx hb dX6_person_20 (by decide) ?_
    exact z_reti C hP hS ⟨rfl, hw⟩ dX6_person_21
  · replace hw := hw.2 c2
    refine lv_iload_n hx hb dX6_person_8 rfl (lv_at hl 2 rfl) ?_
    refine lv_i2l hx hb dX6_person_9 rfl ?_
    refine lv_lconst (v := (0 : Int64)) hx hb dX6_person_10 (by decide) ?_
    refine lv_ldc2 hx hb hown (hts (.constantLong RX6 76 (2)) (by decide +kernel)) dX6_person_11 ?_
    refine z_si (rest := []) ⟨hx, hb, hml, hown, hts⟩ (m_X6_in l hE (z_up X 19 h) (Int32.toInt64 x2) (0 : Int64) (2 : Int64) _ hw) (va_cwS 3 hts gX6_person_X6_in rfl rfl rfl (by decide +kernel) ⟨Nat.le_of_ble_eq_true rfl, Nat.le_of_ble_eq_true rfl⟩) hK hP hS rfl hl.1 rfl (Nat.le_of_ble_eq_true rfl) dX6_person_14 ⟨Nat.zero_le _, Nat.zero_le _⟩ (fun r3 u H locs hk hP hS => ?_)
    obtain ⟨eu, hw⟩ := hk
    rw [eu] at hP
    refine lv_if_ne (tgt := 22) hx hb dX6_person_17 (by decide) (fun c4 => ?_) (fun c4 => ?_)
    · replace hw := hw.1 c4
      refine lv_iload_n hx hb dX6_person_22 rfl (lv_at hl 2 rfl) ?_
      refine lv_if_ne (tgt := 37) hx hb dX6_person_23 (by decide) (fun c5 => ?_) (fun c5 => ?_)
      · replace hw := hw.1 c5
        refine lv_iload_n hx hb dX6_person_37 rfl (lv_at hl 2 rfl) ?_
        refine lv_iconst (v := (1 : Int32)) hx hb dX6_person_38 (by decide) ?_
        refine lv_icmp_ne (tgt := 53) hx hb dX6_person_39 (by decide) (fun c6 => ?_) (fun c6 => ?_)
        · replace hw := hw.1 c6
          refine lv_aload_n hx hb dX6_person_53 rfl (lv_at hl 0 rfl) ?_
          refine z_getr (C := RX6) (T := TX6) (N := 15) (ref := "GauntletHallModel") (o := 19) (d := 0) hx hb hts hfX6 hown hK hP (hM (19, 0) (List.mem_of_getElem? (i := 0) rfl)) z_l_19_0 rfl 2 (by decide) (hts (.fieldLink RX6 13 "GauntletHallModel" "told" "[I") (by decide +kernel)) rfl rfl dX6_person_54 ?_
          refine lv_bipush (v := (7 : Int32)) hx hb dX6_person_57 (by decide) ?_
          refine lv_iload_n hx hb dX6_person_59 rfl (lv_at hl 1 rfl) ?_
          refine lv_iadd hx hb dX6_person_60 ?_
          obtain ⟨i7, hw⟩ := hw
          refine z_iald (o := 19) (d := 2) hx hb hK hP (hM (19, 2) (List.mem_of_getElem? (i := 2) rfl)) z_l_19_2 i7 (z_up_val X 19 h 2 (z_n ((7 : Int32) + x1))) dX6_person_61 ?_
          exact z_reti C hP hS ⟨rfl, hw⟩ dX6_person_62
        · replace hw := hw.2 c6
          refine lv_aload_n hx hb dX6_person_42 rfl (lv_at hl 0 rfl) ?_
          refine z_getr (C := RX6) (T := TX6) (N := 15) (ref := "GauntletHallModel") (o := 19) (d := 0) hx hb hts hfX6 hown hK hP (hM (19, 0) (List.mem_of_getElem? (i := 0) rfl)) z_l_19_0 rfl 5 (by decide) (hts (.fieldLink RX6 22 "GauntletHallModel" "now" "[I") (by decide +kernel)) rfl rfl dX6_person_43 ?_
          refine lv_iconst (v := (4 : Int32)) hx hb dX6_person_46 (by decide) ?_
          refine lv_iload_n hx hb dX6_person_47 rfl (lv_at hl 1 rfl) ?_
          refine lv_iadd hx hb dX6_person_48 ?_
          obtain ⟨i8, hw⟩ := hw
          refine z_iald (o := 19) (d := 5) hx hb hK hP (hM (19, 5) (List.mem_of_getElem? (i := 5) rfl)) z_l_19_5 i8 (z_up_val X 19 h 5 (z_n ((4 : Int32) + x1))) dX6_person_49 ?_
          refine lv_goto (tgt := 62) hx hb dX6_person_50 (by decide) ?_
          exact z_reti C hP hS ⟨rfl, hw⟩ dX6_person_62
      · replace hw := hw.2 c5
        refine lv_aload_n hx hb dX6_person_26 rfl (lv_at hl 0 rfl) ?_
        refine z_getr (C := RX6) (T := TX6) (N := 15) (ref := "GauntletHallModel") (o := 19) (d := 0) hx hb hts hfX6 hown hK hP (hM (19, 0) (List.mem_of_getElem? (i := 0) rfl)) z_l_19_0 rfl 2 (by decide) (hts (.fieldLink RX6 13 "GauntletHallModel" "told" "[I") (by decide +kernel)) rfl rfl dX6_person_27 ?_
        refine lv_iconst (v := (1 : Int32)) hx hb dX6_person_30 (by decide) ?_
        refine lv_iload_n hx hb dX6_person_31 rfl (lv_at hl 1 rfl) ?_
        refine lv_iadd hx hb dX6_person_32 ?_
        obtain ⟨i9, hw⟩ := hw
        refine z_iald (o := 19) (d := 2) hx hb hK hP (hM (19, 2) (List.mem_of_getElem? (i := 2) rfl)) z_l_19_2 i9 (z_up_val X 19 h 2 (z_n ((1 : Int32) + x1))) dX6_person_33 ?_
        refine lv_goto (tgt := 62) hx hb dX6_person_34 (by decide) ?_
        exact z_reti C hP hS ⟨rfl, hw⟩ dX6_person_62
    · replace hw := hw.2 c4
      refine lv_iconst (v := (-1 : Int32)) hx hb dX6_person_20 (by decide) ?_
      exact z_reti C hP hS ⟨rfl, hw⟩ dX6_person_21
