/-! ===== PRINTED (wip/whole/gen/gen.py): the machine meets each definition: X6.isSeen, X6.hands, X6.note ===== -/
set_option maxHeartbeats 4000000 in
set_option maxRecDepth 100000 in
theorem m_X6_isSeen_b199 {p : Program} {l : Launch} {e : Env} {s : State} {m : MethodId} {args : Array Value} {below : List Frame} {meth : Method} {c : Code} {E : z_E} (C : z_Cx p E s m args meth c cX6_isSeen 12 wsX6_isSeen RX6 (some .boolean)) (hM : z_mod E) (X : z_X) (h : z_G) (K : Int32 → Prop) (L6 : Int32 → Int32 → Int32 → Int32 → Int32 → Int32 → Int32 → Prop) (k6 : ∀ (x1 : Int32) (x2 : Int32) (x3 : Int32) (x4 : Int32) (x5 : Int32) (x6 : Int32) (x7 : Int32), L6 x1 x2 x3 x4 x5 x6 x7 → ∀ {H : Heap} {locs : List Loc}, z_P E (z_up X 19 h) H → va_S (z_A E) s.heap H locs → ∀ (ls : Array Slot), lv_has ls 12 [(0, .ref (z_a E 19 0)), (1, .int x1), (2, .int x2), (3, .int x3), (4, .int x4), (5, .int x5), (6, .int x6), (7, .int x7)] → W p l e rX6_isSeen s m args below meth c H locs 0 0 (MQ below (va_Qi (fun r X' => X' = (z_up X 19 h) ∧ K r) (fun u t => z_P E u t.heap) (z_A E)) args s 0 0 (z_A E)) (F0 m 6 ls [])) (x1 : Int32) (x2 : Int32) (x3 : Int32) (x4 : Int32) (x5 : Int32) (x7 : Int32) (t0 : Int32) (t1 : Int32) (hw : v_X6_isSeen_b199 h K L6 x1 x2 x3 x4 x5 x7 t0 t1) {H : Heap} {locs : List Loc} (hP : z_P E (z_up X 19 h) H) (hS : va_S (z_A E) s.heap H locs) {ls : Array Slot} (hl : lv_has ls 12 [(0, .ref (z_a E 19 0)), (1, .int x1), (2, .int x2), (3, .int x3), (4, .int x4), (5, .int x5), (7, .int x7)]) : W p l e rX6_isSeen s m args below meth c H locs 0 0 (MQ below (va_Qi (fun r X' => X' = (z_up X 19 h) ∧ K r) (fun u t => z_P E u t.heap) (z_A E)) args s 0 0 (z_A E)) (F0 m 199 ls [.int t1, .int t0]) := by
  obtain ⟨hx, hb, hml, hr, hlocks, hown, hts, hK, hE⟩ := id C
  have hfX6 : ∀ w ∈ u_ws RX6 TX6 15, w ∈ wsX6_isSeen := by decide +kernel
  unfold v_X6_isSeen_b199 at hw
  refine lv_icmp_ne (tgt := 206) hx hb dX6_isSeen_199 (by decide) (fun c14 => ?_) (fun c14 => ?_)
  · replace hw := hw.1 c14
    refine lv_iconst (v := (0 : Int32)) hx hb dX6_isSeen_206 (by decide) ?_
    refine lv_istore (lv' := [(6, .int (0 : Int32)), (0, .ref (z_a E 19 0)), (1, .int x1), (2, .int x2), (3, .int x3), (4, .int x4), (5, .int x5), (7, .int x7)]) hx hb dX6_isSeen_207 hl (by decide) rfl (fun ls hl => ?_)
    obtain ⟨y15, ey15⟩ : ∃ z : Int32, z = x7 + (1 : Int32) := ⟨_, rfl⟩
    replace hw := hw y15 ey15
    refine lv_iinc (v := y15) (lv' := [(7, .int y15), (6, .int (0 : Int32)), (0, .ref (z_a E 19 0)), (1, .int x1), (2, .int x2), (3, .int x3), (4, .int x4), (5, .int x5)]) hx hb dX6_isSeen_209 hl (k := 7) rfl (by rw [ey15]; rfl) (by decide) rfl (fun ls hl => ?_)
    refine lv_goto (tgt := 6) hx hb dX6_isSeen_212 (by decide) ?_
    exact k6 x1 x2 x3 x4 x5 (0 : Int32) y15 hw hP hS _ (lv_sub hl [2, 3, 4, 5, 6, 7, 1, 0] rfl)
  · replace hw := hw.2 c14
    refine lv_iconst (v := (1 : Int32)) hx hb dX6_isSeen_202 (by decide) ?_
    refine lv_goto (tgt := 207) hx hb dX6_isSeen_203 (by decide) ?_
    refine lv_istore (lv' := [(6, .int (1 : Int32)), (0, .ref (z_a E 19 0)), (1, .int x1), (2, .int x2), (3, .int x3), (4, .int x4), (5, .int x5), (7, .int x7)]) hx hb dX6_isSeen_207 hl (by decide) rfl (fun ls hl => ?_)
    obtain ⟨y16, ey16⟩ : ∃ z : Int32, z = x7 + (1 : Int32) := ⟨_, rfl⟩
    replace hw := hw y16 ey16
    refine lv_iinc (v := y16) (lv' := [(7, .int y16), (6, .int (1 : Int32)), (0, .ref (z_a E 19 0)), (1, .int x1), (2, .int x2), (3, .int x3), (4, .int x4), (5, .int x5)]) hx hb dX6_isSeen_209 hl (k := 7) rfl (by rw [ey16]; rfl) (by decide) rfl (fun ls hl => ?_)
    refine lv_goto (tgt := 6) hx hb dX6_isSeen_212 (by decide) ?_
    exact k6 x1 x2 x3 x4 x5 (1 : Int32) y16 hw hP hS _ (lv_sub hl [2, 3, 4, 5, 6, 7, 1, 0] rfl)
set_option maxHeartbeats 4000000 in
set_option maxRecDepth 100000 in
theorem m_X6_isSeen_b165 {p : Program} {l : Launch} {e : Env} {s : State} {m : MethodId} {args : Array Value} {below : List Frame} {meth : Method} {c : Code} {E : z_E} (C : z_Cx p E s m args meth c cX6_isSeen 12 wsX6_isSeen RX6 (some .boolean)) (hM : z_mod E) (X : z_X) (h : z_G) (K : Int32 → Prop) (L6 : Int32 → Int32 → Int32 → Int32 → Int32 → Int32 → Int32 → Prop) (k6 : ∀ (x1 : Int32) (x2 : Int32) (x3 : Int32) (x4 : Int32) (x5 : Int32) (x6 : Int32) (x7 : Int32), L6 x1 x2 x3 x4 x5 x6 x7 → ∀ {H : Heap} {locs : List Loc}, z_P E (z_up X 19 h) H → va_S (z_A E) s.heap H locs → ∀ (ls : Array Slot), lv_has ls 12 [(0, .ref (z_a E 19 0)), (1, .int x1), (2, .int x2), (3, .int x3), (4, .int x4), (5, .int x5), (6, .int x6), (7, .int x7)] → W p l e rX6_isSeen s m args below meth c H locs 0 0 (MQ below (va_Qi (fun r X' => X' = (z_up X 19 h) ∧ K r) (fun u t => z_P E u t.heap) (z_A E)) args s 0 0 (z_A E)) (F0 m 6 ls [])) (x1 : Int32) (x2 : Int32) (x3 : Int32) (x4 : Int32) (x5 : Int32) (x6 : Int32) (x7 : Int32) (x9 : Int32) (t0 : Int32) (hw : v_X6_isSeen_b165 h K L6 x1 x2 x3 x4 x5 x6 x7 x9 t0) {H : Heap} {locs : List Loc} (hP : z_P E (z_up X 19 h) H) (hS : va_S (z_A E) s.heap H locs) {ls : Array Slot} (hl : lv_has ls 12 [(0, .ref (z_a E 19 0)), (1, .int x1), (2, .int x2), (3, .int x3), (4, .int x4), (5, .int x5), (6, .int x6), (7, .int x7), (9, .int x9)]) : W p l e rX6_isSeen s m args below meth c H locs 0 0 (MQ below (va_Qi (fun r X' => X' = (z_up X 19 h) ∧ K r) (fun u t => z_P E u t.heap) (z_A E)) args s 0 0 (z_A E)) (F0 m 165 ls [.int t0]) := by
  obtain ⟨hx, hb, hml, hr, hlocks, hown, hts, hK, hE⟩ := id C
  have hfX6 : ∀ w ∈ u_ws RX6 TX6 15, w ∈ wsX6_isSeen := by decide +kernel
  unfold v_X6_isSeen_b165 at hw
  refine lv_istore (lv' := [(11, .int t0), (0, .ref (z_a E 19 0)), (1, .int x1), (2, .int x2), (3, .int x3), (4, .int x4), (5, .int x5), (6, .int x6), (7, .int x7), (9, .int x9)]) hx hb dX6_isSeen_165 hl (by decide) rfl (fun ls hl => ?_)
  refine lv_iload hx hb dX6_isSeen_167 (lv_at hl 7 rfl) ?_
  refine lv_if_eq (tgt := 206) hx hb dX6_isSeen_169 (by decide) (fun c8 => ?_) (fun c8 => ?_)
  · replace hw := hw.1 c8
    refine lv_iconst (v := (0 : Int32)) hx hb dX6_isSeen_206 (by decide) ?_
    refine lv_istore (lv' := [(6, .int (0 : Int32)), (11, .int t0), (0, .ref (z_a E 19 0)), (1, .int x1), (2, .int x2), (3, .int x3), (4, .int x4), (5, .int x5), (7, .int x7), (9, .int x9)]) hx hb dX6_isSeen_207 hl (by decide) rfl (fun ls hl => ?_)
    obtain ⟨y9, ey9⟩ : ∃ z : Int32, z = x7 + (1 : Int32) := ⟨_, rfl⟩
    replace hw := hw y9 ey9
    refine lv_iinc (v := y9) (lv' := [(7, .int y9), (6, .int (0 : Int32)), (11, .int t0), (0, .ref (z_a E 19 0)), (1, .int x1), (2, .int x2), (3, .int x3), (4, .int x4), (5, .int x5), (9, .int x9)]) hx hb dX6_isSeen_209 hl (k := 8) rfl (by rw [ey9]; rfl) (by decide) rfl (fun ls hl => ?_)
    refine lv_goto (tgt := 6) hx hb dX6_isSeen_212 (by decide) ?_
    exact k6 x1 x2 x3 x4 x5 (0 : Int32) y9 hw hP hS _ (lv_sub hl [3, 4, 5, 6, 7, 8, 1, 0] rfl)
  · replace hw := hw.2 c8
    refine lv_iload hx hb dX6_isSeen_172 (lv_at hl 9 rfl) ?_
    refine lv_if_eq (tgt := 202) hx hb dX6_isSeen_174 (by decide) (fun c10 => ?_) (fun c10 => ?_)
    · replace hw := hw.1 c10
      refine lv_iconst (v := (1 : Int32)) hx hb dX6_isSeen_202 (by decide) ?_
      refine lv_goto (tgt := 207) hx hb dX6_isSeen_203 (by decide) ?_
      refine lv_istore (lv' := [(6, .int (1 : Int32)), (11, .int t0), (0, .ref (z_a E 19 0)), (1, .int x1), (2, .int x2), (3, .int x3), (4, .int x4), (5, .int x5), (7, .int x7), (9, .int x9)]) hx hb dX6_isSeen_207 hl (by decide) rfl (fun ls hl => ?_)
      obtain ⟨y11, ey11⟩ : ∃ z : Int32, z = x7 + (1 : Int32) := ⟨_, rfl⟩
      replace hw := hw y11 ey11
      refine lv_iinc (v := y11) (lv' := [(7, .int y11), (6, .int (1 : Int32)), (11, .int t0), (0, .ref (z_a E 19 0)), (1, .int x1), (2, .int x2), (3, .int x3), (4, .int x4), (5, .int x5), (9, .int x9)]) hx hb dX6_isSeen_209 hl (k := 8) rfl (by rw [ey11]; rfl) (by decide) rfl (fun ls hl => ?_)
      refine lv_goto (tgt := 6) hx hb dX6_isSeen_212 (by decide) ?_
      exact k6 x1 x2 x3 x4 x5 (1 : Int32) y11 hw hP hS _ (lv_sub hl [3, 4, 5, 6, 7, 8, 1, 0] rfl)
    · replace hw := hw.2 c10
      refine lv_iload hx hb dX6_isSeen_177 (lv_at hl 0 rfl) ?_
      refine lv_aload_n hx hb dX6_isSeen_179 rfl (lv_at hl 1 rfl) ?_
      refine z_getr (C := RX6) (T := TX6) (N := 15) (ref := "GauntletHallModel") (o := 19) (d := 0) hx hb hts hfX6 hown hK hP (hM (19, 0) (List.mem_of_getElem? (i := 0) rfl)) z_l_19_0 rfl 11 (by decide) (hts (.fieldLink RX6 34 "GauntletHallModel" "seen" "[I") (by decide +kernel)) rfl rfl dX6_isSeen_180 ?_
      refine lv_iconst (v := (3 : Int32)) hx hb dX6_isSeen_183 (by decide) ?_
      refine lv_iload hx hb dX6_isSeen_184 (lv_at hl 8 rfl) ?_
      refine lv_imul hx hb dX6_isSeen_186 ?_
      refine lv_iconst (v := (2 : Int32)) hx hb dX6_isSeen_187 (by decide) ?_
      refine lv_iadd hx hb dX6_isSeen_188 ?_
      obtain ⟨i12, hw⟩ := hw
      refine z_iald (o := 19) (d := 11) hx hb hK hP (hM (19, 11) (List.mem_of_getElem? (i := 9) rfl)) z_l_19_11 i12 (z_up_val X 19 h 11 (z_n (((3 : Int32) * x7) + (2 : Int32)))) dX6_isSeen_189 ?_
      refine lv_iconst (v := (1 : Int32)) hx hb dX6_isSeen_190 (by decide) ?_
      refine lv_icmp_ne (tgt := 198) hx hb dX6_isSeen_191 (by decide) (fun c13 => ?_) (fun c13 => ?_)
      · replace hw := hw.1 c13
        refine lv_iconst (v := (0 : Int32)) hx hb dX6_isSeen_198 (by decide) ?_
        exact m_X6_isSeen_b199 C hM X h K L6 k6 x1 x2 x3 x4 x5 x7 t0 (0 : Int32) hw hP hS (lv_sub hl [1, 2, 3, 4, 5, 6, 8] rfl)
      · replace hw := hw.2 c13
        refine lv_iconst (v := (1 : Int32)) hx hb dX6_isSeen_194 (by decide) ?_
        refine lv_goto (tgt := 199) hx hb dX6_isSeen_195 (by decide) ?_
        exact m_X6_isSeen_b199 C hM X h K L6 k6 x1 x2 x3 x4 x5 x7 t0 (1 : Int32) hw hP hS (lv_sub hl [1, 2, 3, 4, 5, 6, 8] rfl)
set_option maxHeartbeats 4000000 in
set_option maxRecDepth 100000 in
theorem m_X6_isSeen_b164 {p : Program} {l : Launch} {e : Env} {s : State} {m : MethodId} {args : Array Value} {below : List Frame} {meth : Method} {c : Code} {E : z_E} (C : z_Cx p E s m args meth c cX6_isSeen 12 wsX6_isSeen RX6 (some .boolean)) (hM : z_mod E) (X : z_X) (h : z_G) (K : Int32 → Prop) (L6 : Int32 → Int32 → Int32 → Int32 → Int32 → Int32 → Int32 → Prop) (k6 : ∀ (x1 : Int32) (x2 : Int32) (x3 : Int32) (x4 : Int32) (x5 : Int32) (x6 : Int32) (x7 : Int32), L6 x1 x2 x3 x4 x5 x6 x7 → ∀ {H : Heap} {locs : List Loc}, z_P E (z_up X 19 h) H → va_S (z_A E) s.heap H locs → ∀ (ls : Array Slot), lv_has ls 12 [(0, .ref (z_a E 19 0)), (1, .int x1), (2, .int x2), (3, .int x3), (4, .int x4), (5, .int x5), (6, .int x6), (7, .int x7)] → W p l e rX6_isSeen s m args below meth c H locs 0 0 (MQ below (va_Qi (fun r X' => X' = (z_up X 19 h) ∧ K r) (fun u t => z_P E u t.heap) (z_A E)) args s 0 0 (z_A E)) (F0 m 6 ls [])) (x1 : Int32) (x2 : Int32) (x3 : Int32) (x4 : Int32) (x5 : Int32) (x6 : Int32) (x7 : Int32) (x9 : Int32) (hw : v_X6_isSeen_b164 h K L6 x1 x2 x3 x4 x5 x6 x7 x9) {H : Heap} {locs : List Loc} (hP : z_P E (z_up X 19 h) H) (hS : va_S (z_A E) s.heap H locs) {ls : Array Slot} (hl : lv_has ls 12 [(0, .ref (z_a E 19 0)), (1, .int x1), (2, .int x2), (3, .int x3), (4, .int x4), (5, .int x5), (6, .int x6), (7, .int x7), (9, .int x9)]) : W p l e rX6_isSeen s m args below meth c H locs 0 0 (MQ below (va_Qi (fun r X' => X' = (z_up X 19 h) ∧ K r) (fun u t => z_P E u t.heap) (z_A E)) args s 0 0 (z_A E)) (F0 m 164 ls []) := by
  obtain ⟨hx, hb, hml, hr, hlocks, hown, hts, hK, hE⟩ := id C
  have hfX6 : ∀ w ∈ u_ws RX6 TX6 15, w ∈ wsX6_isSeen := by decide +kernel
  unfold v_X6_isSeen_b164 at hw
  refine lv_iconst (v := (0 : Int32)) hx hb dX6_isSeen_164 (by decide) ?_
  exact m_X6_isSeen_b165 C hM X h K L6 k6 x1 x2 x3 x4 x5 x6 x7 x9 (0 : Int32) hw hP hS (lv_sub hl [0, 1, 2, 3, 4, 5, 6, 7, 8] rfl)
set_option maxHeartbeats 4000000 in
set_option maxRecDepth 100000 in
theorem m_X6_isSeen_b144 {p : Program} {l : Launch} {e : Env} {s : State} {m : MethodId} {args : Array Value} {below : List Frame} {meth : Method} {c : Code} {E : z_E} (C : z_Cx p E s m args meth c cX6_isSeen 12 wsX6_isSeen RX6 (some .boolean)) (hM : z_mod E) (X : z_X) (h : z_G) (K : Int32 → Prop) (L6 : Int32 → Int32 → Int32 → Int32 → Int32 → Int32 → Int32 → Prop) (k6 : ∀ (x1 : Int32) (x2 : Int32) (x3 : Int32) (x4 : Int32) (x5 : Int32) (x6 : Int32) (x7 : Int32), L6 x1 x2 x3 x4 x5 x6 x7 → ∀ {H : Heap} {locs : List Loc}, z_P E (z_up X 19 h) H → va_S (z_A E) s.heap H locs → ∀ (ls : Array Slot), lv_has ls 12 [(0, .ref (z_a E 19 0)), (1, .int x1), (2, .int x2), (3, .int x3), (4, .int x4), (5, .int x5), (6, .int x6), (7, .int x7)] → W p l e rX6_isSeen s m args below meth c H locs 0 0 (MQ below (va_Qi (fun r X' => X' = (z_up X 19 h) ∧ K r) (fun u t => z_P E u t.heap) (z_A E)) args s 0 0 (z_A E)) (F0 m 6 ls [])) (x1 : Int32) (x2 : Int32) (x3 : Int32) (x4 : Int32) (x5 : Int32) (x6 : Int32) (x7 : Int32) (x8 : Int32) (x9 : Int32) (t0 : Int32) (t1 : Int32) (t2 : Int32) (hw : v_X6_isSeen_b144 h K L6 x1 x2 x3 x4 x5 x6 x7 x8 x9 t0 t1 t2) {H : Heap} {locs : List Loc} (hP : z_P E (z_up X 19 h) H) (hS : va_S (z_A E) s.heap H locs) {ls : Array Slot} (hl : lv_has ls 12 [(0, .ref (z_a E 19 0)), (1, .int x1), (2, .int x2), (3, .int x3), (4, .int x4), (5, .int x5), (6, .int x6), (7, .int x7), (8, .int x8), (9, .int x9)]) : W p l e rX6_isSeen s m args below meth c H locs 0 0 (MQ below (va_Qi (fun r X' => X' = (z_up X 19 h) ∧ K r) (fun u t => z_P E u t.heap) (z_A E)) args s 0 0 (z_A E)) (F0 m 144 ls [.int t2, .int t1, .int t0]) := by
  obtain ⟨hx, hb, hml, hr, hlocks, hown, hts, hK, hE⟩ := id C
  have hfX6 : ∀ w ∈ u_ws RX6 TX6 15, w ∈ wsX6_isSeen := by decide +kernel
  unfold v_X6_isSeen_b144 at hw
  refine lv_aload_n hx hb dX6_isSeen_144 rfl (lv_at hl 0 rfl) ?_
  refine z_getr (C := RX6) (T := TX6) (N := 15) (ref := "GauntletHallModel") (o := 19) (d := 0) hx hb hts hfX6 hown hK hP (hM (19, 0) (List.mem_of_getElem? (i := 0) rfl)) z_l_19_0 rfl 5 (by decide) (hts (.fieldLink RX6 22 "GauntletHallModel" "now" "[I") (by decide +kernel)) rfl rfl dX6_isSeen_145 ?_
  refine lv_bipush (v := (34 : Int32)) hx hb dX6_isSeen_148 (by decide) ?_
  refine lv_iload hx hb dX6_isSeen_150 (lv_at hl 8 rfl) ?_
  refine lv_iadd hx hb dX6_isSeen_152 ?_
  obtain ⟨i19, hw⟩ := hw
  refine z_iald (o := 19) (d := 5) hx hb hK hP (hM (19, 5) (List.mem_of_getElem? (i := 5) rfl)) z_l_19_5 i19 (z_up_val X 19 h 5 (z_n ((34 : Int32) + x8))) dX6_isSeen_153 ?_
  refine z_si (rest := []) ⟨hx, hb, hml, hown, hts⟩ (m_X6_isLike l hE (z_up X 19 h) t0 t1 t2 (h 5 (z_n ((34 : Int32) + x8))) _ hw) (va_cwS 4 hts gX6_isSeen_X6_isLike rfl rfl rfl (by decide +kernel) ⟨Nat.le_of_ble_eq_true rfl, Nat.le_of_ble_eq_true rfl⟩) hK hP hS rfl hl.1 rfl (Nat.le_of_ble_eq_true rfl) dX6_isSeen_154 ⟨Nat.zero_le _, Nat.zero_le _⟩ (fun r20 u H locs hk hP hS => ?_)
  obtain ⟨eu, hw⟩ := hk
  rw [eu] at hP
  refine lv_if_eq (tgt := 164) hx hb dX6_isSeen_157 (by decide) (fun c21 => ?_) (fun c21 => ?_)
  · replace hw := hw.1 c21
    exact m_X6_isSeen_b164 C hM X h K L6 k6 x1 x2 x3 x4 x5 x6 x7 x9 hw hP hS (lv_sub hl [0, 1, 2, 3, 4, 5, 6, 7, 9] rfl)
  · replace hw := hw.2 c21
    refine lv_iconst (v := (1 : Int32)) hx hb dX6_isSeen_160 (by decide) ?_
    refine lv_goto (tgt := 165) hx hb dX6_isSeen_161 (by decide) ?_
    exact m_X6_isSeen_b165 C hM X h K L6 k6 x1 x2 x3 x4 x5 x6 x7 x9 (1 : Int32) hw hP hS (lv_sub hl [0, 1, 2, 3, 4, 5, 6, 7, 9] rfl)
set_option maxHeartbeats 4000000 in
set_option maxRecDepth 100000 in
theorem m_X6_isSeen_b123 {p : Program} {l : Launch} {e : Env} {s : State} {m : MethodId} {args : Array Value} {below : List Frame} {meth : Method} {c : Code} {E : z_E} (C : z_Cx p E s m args meth c cX6_isSeen 12 wsX6_isSeen RX6 (some .boolean)) (hM : z_mod E) (X : z_X) (h : z_G) (K : Int32 → Prop) (L6 : Int32 → Int32 → Int32 → Int32 → Int32 → Int32 → Int32 → Prop) (k6 : ∀ (x1 : Int32) (x2 : Int32) (x3 : Int32) (x4 : Int32) (x5 : Int32) (x6 : Int32) (x7 : Int32), L6 x1 x2 x3 x4 x5 x6 x7 → ∀ {H : Heap} {locs : List Loc}, z_P E (z_up X 19 h) H → va_S (z_A E) s.heap H locs → ∀ (ls : Array Slot), lv_has ls 12 [(0, .ref (z_a E 19 0)), (1, .int x1), (2, .int x2), (3, .int x3), (4, .int x4), (5, .int x5), (6, .int x6), (7, .int x7)] → W p l e rX6_isSeen s m args below meth c H locs 0 0 (MQ below (va_Qi (fun r X' => X' = (z_up X 19 h) ∧ K r) (fun u t => z_P E u t.heap) (z_A E)) args s 0 0 (z_A E)) (F0 m 6 ls [])) (x1 : Int32) (x2 : Int32) (x3 : Int32) (x4 : Int32) (x5 : Int32) (x6 : Int32) (x7 : Int32) (x8 : Int32) (x9 : Int32) (t0 : Int32) (t1 : Int32) (hw : v_X6_isSeen_b123 h K L6 x1 x2 x3 x4 x5 x6 x7 x8 x9 t0 t1) {H : Heap} {locs : List Loc} (hP : z_P E (z_up X 19 h) H) (hS : va_S (z_A E) s.heap H locs) {ls : Array Slot} (hl : lv_has ls 12 [(0, .ref (z_a E 19 0)), (1, .int x1), (2, .int x2), (3, .int x3), (4, .int x4), (5, .int x5), (6, .int x6), (7, .int x7), (8, .int x8), (9, .int x9)]) : W p l e rX6_isSeen s m args below meth c H locs 0 0 (MQ below (va_Qi (fun r X' => X' = (z_up X 19 h) ∧ K r) (fun u t => z_P E u t.heap) (z_A E)) args s 0 0 (z_A E)) (F0 m 123 ls [.int t1, .int t0]) := by
  obtain ⟨hx, hb, hml, hr, hlocks, hown, hts, hK, hE⟩ := id C
  have hfX6 : ∀ w ∈ u_ws RX6 TX6 15, w ∈ wsX6_isSeen := by decide +kernel
  unfold v_X6_isSeen_b123 at hw
  refine lv_iload_n hx hb dX6_isSeen_123 rfl (lv_at hl 3 rfl) ?_
  refine lv_bipush (v := (-4 : Int32)) hx hb dX6_isSeen_124 (by decide) ?_
  refine lv_icmp_ne (tgt := 142) hx hb dX6_isSeen_126 (by decide) (fun c18 => ?_) (fun c18 => ?_)
  · replace hw := hw.1 c18
    refine lv_iload hx hb dX6_isSeen_142 (lv_at hl 5 rfl) ?_
    exact m_X6_isSeen_b144 C hM X h K L6 k6 x1 x2 x3 x4 x5 x6 x7 x8 x9 t0 t1 x5 hw hP hS (lv_sub hl [0, 1, 2, 3, 4, 5, 6, 7, 8, 9] rfl)
  · replace hw := hw.2 c18
    refine lv_aload_n hx hb dX6_isSeen_129 rfl (lv_at hl 0 rfl) ?_
    refine z_getr (C := RX6) (T := TX6) (N := 15) (ref := "GauntletHallModel") (o := 19) (d := 0) hx hb hts hfX6 hown hK hP (hM (19, 0) (List.mem_of_getElem? (i := 0) rfl)) z_l_19_0 rfl 5 (by decide) (hts (.fieldLink RX6 22 "GauntletHallModel" "now" "[I") (by decide +kernel)) rfl rfl dX6_isSeen_130 ?_
    refine lv_bipush (v := (18 : Int32)) hx hb dX6_isSeen_133 (by decide) ?_
    refine lv_iload hx hb dX6_isSeen_135 (lv_at hl 8 rfl) ?_
    refine lv_iadd hx hb dX6_isSeen_137 ?_
    obtain ⟨i22, hw⟩ := hw
    refine z_iald (o := 19) (d := 5) hx hb hK hP (hM (19, 5) (List.mem_of_getElem? (i := 5) rfl)) z_l_19_5 i22 (z_up_val X 19 h 5 (z_n ((18 : Int32) + x8))) dX6_isSeen_138 ?_
    refine lv_goto (tgt := 144) hx hb dX6_isSeen_139 (by decide) ?_
    exact m_X6_isSeen_b144 C hM X h K L6 k6 x1 x2 x3 x4 x5 x6 x7 x8 x9 t0 t1 (h 5 (z_n ((18 : Int32) + x8))) hw hP hS (lv_sub hl [0, 1, 2, 3, 4, 5, 6, 7, 8, 9] rfl)
set_option maxHeartbeats 4000000 in
set_option maxRecDepth 100000 in
theorem m_X6_isSeen_b93 {p : Program} {l : Launch} {e : Env} {s : State} {m : MethodId} {args : Array Value} {below : List Frame} {meth : Method} {c : Code} {E : z_E} (C : z_Cx p E s m args meth c cX6_isSeen 12 wsX6_isSeen RX6 (some .boolean)) (hM : z_mod E) (X : z_X) (h : z_G) (K : Int32 → Prop) (L6 : Int32 → Int32 → Int32 → Int32 → Int32 → Int32 → Int32 → Prop) (k6 : ∀ (x1 : Int32) (x2 : Int32) (x3 : Int32) (x4 : Int32) (x5 : Int32) (x6 : Int32) (x7 : Int32), L6 x1 x2 x3 x4 x5 x6 x7 → ∀ {H : Heap} {locs : List Loc}, z_P E (z_up X 19 h) H → va_S (z_A E) s.heap H locs → ∀ (ls : Array Slot), lv_has ls 12 [(0, .ref (z_a E 19 0)), (1, .int x1), (2, .int x2), (3, .int x3), (4, .int x4), (5, .int x5), (6, .int x6), (7, .int x7)] → W p l e rX6_isSeen s m args below meth c H locs 0 0 (MQ below (va_Qi (fun r X' => X' = (z_up X 19 h) ∧ K r) (fun u t => z_P E u t.heap) (z_A E)) args s 0 0 (z_A E)) (F0 m 6 ls [])) (x1 : Int32) (x2 : Int32) (x3 : Int32) (x4 : Int32) (x5 : Int32) (x6 : Int32) (x7 : Int32) (x8 : Int32) (x9 : Int32) (t0 : Int32) (hw : v_X6_isSeen_b93 h K L6 x1 x2 x3 x4 x5 x6 x7 x8 x9 t0) {H : Heap} {locs : List Loc} (hP : z_P E (z_up X 19 h) H) (hS : va_S (z_A E) s.heap H locs) {ls : Array Slot} (hl : lv_has ls 12 [(0, .ref (z_a E 19 0)), (1, .int x1), (2, .int x2), (3, .int x3), (4, .int x4), (5, .int x5), (6, .int x6), (7, .int x7), (8, .int x8), (9, .int x9)]) : W p l e rX6_isSeen s m args below meth c H locs 0 0 (MQ below (va_Qi (fun r X' => X' = (z_up X 19 h) ∧ K r) (fun u t => z_P E u t.heap) (z_A E)) args s 0 0 (z_A E)) (F0 m 93 ls [.int t0]) := by
  obtain ⟨hx, hb, hml, hr, hlocks, hown, hts, hK, hE⟩ := id C
  have hfX6 : ∀ w ∈ u_ws RX6 TX6 15, w ∈ wsX6_isSeen := by decide +kernel
  unfold v_X6_isSeen_b93 at hw
  refine lv_istore (lv' := [(10, .int t0), (0, .ref (z_a E 19 0)), (1, .int x1), (2, .int x2), (3, .int x3), (4, .int x4), (5, .int x5), (6, .int x6), (7, .int x7), (8, .int x8), (9, .int x9)]) hx hb dX6_isSeen_93 hl (by decide) rfl (fun ls hl => ?_)
  refine lv_iload hx hb dX6_isSeen_95 (lv_at hl 10 rfl) ?_
  refine lv_if_eq (tgt := 164) hx hb dX6_isSeen_97 (by decide) (fun c7 => ?_) (fun c7 => ?_)
  · replace hw := hw.1 c7
    exact m_X6_isSeen_b164 C hM X h K L6 k6 x1 x2 x3 x4 x5 x6 x7 x9 hw hP hS (lv_sub hl [1, 2, 3, 4, 5, 6, 7, 8, 10] rfl)
  · replace hw := hw.2 c7
    refine lv_iload hx hb dX6_isSeen_100 (lv_at hl 0 rfl) ?_
    refine lv_iload_n hx hb dX6_isSeen_102 rfl (lv_at hl 4 rfl) ?_
    refine lv_bipush (v := (-4 : Int32)) hx hb dX6_isSeen_103 (by decide) ?_
    refine lv_icmp_ne (tgt := 121) hx hb dX6_isSeen_105 (by decide) (fun c17 => ?_) (fun c17 => ?_)
    · replace hw := hw.1 c17
      refine lv_iload hx hb dX6_isSeen_121 (lv_at hl 5 rfl) ?_
      exact m_X6_isSeen_b123 C hM X h K L6 k6 x1 x2 x3 x4 x5 x6 x7 x8 x9 t0 x4 hw hP hS (lv_sub hl [1, 2, 3, 4, 5, 6, 7, 8, 9, 10] rfl)
    · replace hw := hw.2 c17
      refine lv_aload_n hx hb dX6_isSeen_108 rfl (lv_at hl 1 rfl) ?_
      refine z_getr (C := RX6) (T := TX6) (N := 15) (ref := "GauntletHallModel") (o := 19) (d := 0) hx hb hts hfX6 hown hK hP (hM (19, 0) (List.mem_of_getElem? (i := 0) rfl)) z_l_19_0 rfl 5 (by decide) (hts (.fieldLink RX6 22 "GauntletHallModel" "now" "[I") (by decide +kernel)) rfl rfl dX6_isSeen_109 ?_
      refine lv_bipush (v := (10 : Int32)) hx hb dX6_isSeen_112 (by decide) ?_
      refine lv_iload hx hb dX6_isSeen_114 (lv_at hl 9 rfl) ?_
      refine lv_iadd hx hb dX6_isSeen_116 ?_
      obtain ⟨i23, hw⟩ := hw
      refine z_iald (o := 19) (d := 5) hx hb hK hP (hM (19, 5) (List.mem_of_getElem? (i := 5) rfl)) z_l_19_5 i23 (z_up_val X 19 h 5 (z_n ((10 : Int32) + x8))) dX6_isSeen_117 ?_
      refine lv_goto (tgt := 123) hx hb dX6_isSeen_118 (by decide) ?_
      exact m_X6_isSeen_b123 C hM X h K L6 k6 x1 x2 x3 x4 x5 x6 x7 x8 x9 t0 (h 5 (z_n ((10 : Int32) + x8))) hw hP hS (lv_sub hl [1, 2, 3, 4, 5, 6, 7, 8, 9, 10] rfl)
set_option maxHeartbeats 4000000 in
set_option maxRecDepth 100000 in
theorem m_X6_isSeen_b63 {p : Program} {l : Launch} {e : Env} {s : State} {m : MethodId} {args : Array Value} {below : List Frame} {meth : Method} {c : Code} {E : z_E} (C : z_Cx p E s m args meth c cX6_isSeen 12 wsX6_isSeen RX6 (some .boolean)) (hM : z_mod E) (X : z_X) (h : z_G) (K : Int32 → Prop) (L6 : Int32 → Int32 → Int32 → Int32 → Int32 → Int32 → Int32 → Prop) (k6 : ∀ (x1 : Int32) (x2 : Int32) (x3 : Int32) (x4 : Int32) (x5 : Int32) (x6 : Int32) (x7 : Int32), L6 x1 x2 x3 x4 x5 x6 x7 → ∀ {H : Heap} {locs : List Loc}, z_P E (z_up X 19 h) H → va_S (z_A E) s.heap H locs → ∀ (ls : Array Slot), lv_has ls 12 [(0, .ref (z_a E 19 0)), (1, .int x1), (2, .int x2), (3, .int x3), (4, .int x4), (5, .int x5), (6, .int x6), (7, .int x7)] → W p l e rX6_isSeen s m args below meth c H locs 0 0 (MQ below (va_Qi (fun r X' => X' = (z_up X 19 h) ∧ K r) (fun u t => z_P E u t.heap) (z_A E)) args s 0 0 (z_A E)) (F0 m 6 ls [])) (x1 : Int32) (x2 : Int32) (x3 : Int32) (x4 : Int32) (x5 : Int32) (x6 : Int32) (x7 : Int32) (x8 : Int32) (t0 : Int32) (hw : v_X6_isSeen_b63 h K L6 x1 x2 x3 x4 x5 x6 x7 x8 t0) {H : Heap} {locs : List Loc} (hP : z_P E (z_up X 19 h) H) (hS : va_S (z_A E) s.heap H locs) {ls : Array Slot} (hl : lv_has ls 12 [(0, .ref (z_a E 19 0)), (1, .int x1), (2, .int x2), (3, .int x3), (4, .int x4), (5, .int x5), (6, .int x6), (7, .int x7), (8, .int x8)]) : W p l e rX6_isSeen s m args below meth c H locs 0 0 (MQ below (va_Qi (fun r X' => X' = (z_up X 19 h) ∧ K r) (fun u t => z_P E u t.heap) (z_A E)) args s 0 0 (z_A E)) (F0 m 63 ls [.int t0]) := by
  obtain ⟨hx, hb, hml, hr, hlocks, hown, hts, hK, hE⟩ := id C
  have hfX6 : ∀ w ∈ u_ws RX6 TX6 15, w ∈ wsX6_isSeen := by decide +kernel
  unfold v_X6_isSeen_b63 at hw
  refine lv_istore (lv' := [(9, .int t0), (0, .ref (z_a E 19 0)), (1, .int x1), (2, .int x2), (3, .int x3), (4, .int x4), (5, .int x5), (6, .int x6), (7, .int x7), (8, .int x8)]) hx hb dX6_isSeen_63 hl (by decide) rfl (fun ls hl => ?_)
  refine lv_iload_n hx hb dX6_isSeen_65 rfl (lv_at hl 2 rfl) ?_
  refine lv_bipush (v := (-4 : Int32)) hx hb dX6_isSeen_66 (by decide) ?_
  refine lv_icmp_ne (tgt := 92) hx hb dX6_isSeen_68 (by decide) (fun c6 => ?_) (fun c6 => ?_)
  · replace hw := hw.1 c6
    refine lv_iload_n hx hb dX6_isSeen_92 rfl (lv_at hl 3 rfl) ?_
    exact m_X6_isSeen_b93 C hM X h K L6 k6 x1 x2 x3 x4 x5 x6 x7 x8 t0 x2 hw hP hS (lv_sub hl [1, 2, 3, 4, 5, 6, 7, 8, 9, 0] rfl)
  · replace hw := hw.2 c6
    refine lv_aload_n hx hb dX6_isSeen_71 rfl (lv_at hl 1 rfl) ?_
    refine z_getr (C := RX6) (T := TX6) (N := 15) (ref := "GauntletHallModel") (o := 19) (d := 0) hx hb hts hfX6 hown hK hP (hM (19, 0) (List.mem_of_getElem? (i := 0) rfl)) z_l_19_0 rfl 2 (by decide) (hts (.fieldLink RX6 13 "GauntletHallModel" "told" "[I") (by decide +kernel)) rfl rfl dX6_isSeen_72 ?_
    refine lv_iconst (v := (1 : Int32)) hx hb dX6_isSeen_75 (by decide) ?_
    refine lv_aload_n hx hb dX6_isSeen_76 rfl (lv_at hl 1 rfl) ?_
    refine z_getr (C := RX6) (T := TX6) (N := 15) (ref := "GauntletHallModel") (o := 19) (d := 0) hx hb hts hfX6 hown hK hP (hM (19, 0) (List.mem_of_getElem? (i := 0) rfl)) z_l_19_0 rfl 11 (by decide) (hts (.fieldLink RX6 34 "GauntletHallModel" "seen" "[I") (by decide +kernel)) rfl rfl dX6_isSeen_77 ?_
    refine lv_iconst (v := (3 : Int32)) hx hb dX6_isSeen_80 (by decide) ?_
    refine lv_iload hx hb dX6_isSeen_81 (lv_at hl 8 rfl) ?_
    refine lv_imul hx hb dX6_isSeen_83 ?_
    refine lv_iconst (v := (1 : Int32)) hx hb dX6_isSeen_84 (by decide) ?_
    refine lv_iadd hx hb dX6_isSeen_85 ?_
    obtain ⟨i24, hw⟩ := hw
    refine z_iald (o := 19) (d := 11) hx hb hK hP (hM (19, 11) (List.mem_of_getElem? (i := 9) rfl)) z_l_19_11 i24 (z_up_val X 19 h 11 (z_n (((3 : Int32) * x7) + (1 : Int32)))) dX6_isSeen_86 ?_
    refine lv_iadd hx hb dX6_isSeen_87 ?_
    obtain ⟨i25, hw⟩ := hw
    refine z_iald (o := 19) (d := 2) hx hb hK hP (hM (19, 2) (List.mem_of_getElem? (i := 2) rfl)) z_l_19_2 i25 (z_up_val X 19 h 2 (z_n ((1 : Int32) + (h 11 (z_n (((3 : Int32) * x7) + (1 : Int32))))))) dX6_isSeen_88 ?_
    refine lv_goto (tgt := 93) hx hb dX6_isSeen_89 (by decide) ?_
    exact m_X6_isSeen_b93 C hM X h K L6 k6 x1 x2 x3 x4 x5 x6 x7 x8 t0 (h 2 (z_n ((1 : Int32) + (h 11 (z_n (((3 : Int32) * x7) + (1 : Int32))))))) hw hP hS (lv_sub hl [1, 2, 3, 4, 5, 6, 7, 8, 9, 0] rfl)
set_option maxHeartbeats 4000000 in
set_option maxRecDepth 100000 in
theorem m_X6_isSeen_b62 {p : Program} {l : Launch} {e : Env} {s : State} {m : MethodId} {args : Array Value} {below : List Frame} {meth : Method} {c : Code} {E : z_E} (C : z_Cx p E s m args meth c cX6_isSeen 12 wsX6_isSeen RX6 (some .boolean)) (hM : z_mod E) (X : z_X) (h : z_G) (K : Int32 → Prop) (L6 : Int32 → Int32 → Int32 → Int32 → Int32 → Int32 → Int32 → Prop) (k6 : ∀ (x1 : Int32) (x2 : Int32) (x3 : Int32) (x4 : Int32) (x5 : Int32) (x6 : Int32) (x7 : Int32), L6 x1 x2 x3 x4 x5 x6 x7 → ∀ {H : Heap} {locs : List Loc}, z_P E (z_up X 19 h) H → va_S (z_A E) s.heap H locs → ∀ (ls : Array Slot), lv_has ls 12 [(0, .ref (z_a E 19 0)), (1, .int x1), (2, .int x2), (3, .int x3), (4, .int x4), (5, .int x5), (6, .int x6), (7, .int x7)] → W p l e rX6_isSeen s m args below meth c H locs 0 0 (MQ below (va_Qi (fun r X' => X' = (z_up X 19 h) ∧ K r) (fun u t => z_P E u t.heap) (z_A E)) args s 0 0 (z_A E)) (F0 m 6 ls [])) (x1 : Int32) (x2 : Int32) (x3 : Int32) (x4 : Int32) (x5 : Int32) (x6 : Int32) (x7 : Int32) (x8 : Int32) (hw : v_X6_isSeen_b62 h K L6 x1 x2 x3 x4 x5 x6 x7 x8) {H : Heap} {locs : List Loc} (hP : z_P E (z_up X 19 h) H) (hS : va_S (z_A E) s.heap H locs) {ls : Array Slot} (hl : lv_has ls 12 [(0, .ref (z_a E 19 0)), (1, .int x1), (2, .int x2), (3, .int x3), (4, .int x4), (5, .int x5), (6, .int x6), (7, .int x7), (8, .int x8)]) : W p l e rX6_isSeen s m args below meth c H locs 0 0 (MQ below (va_Qi (fun r X' => X' = (z_up X 19 h) ∧ K r) (fun u t => z_P E u t.heap) (z_A E)) args s 0 0 (z_A E)) (F0 m 62 ls []) := by
  obtain ⟨hx, hb, hml, hr, hlocks, hown, hts, hK, hE⟩ := id C
  have hfX6 : ∀ w ∈ u_ws RX6 TX6 15, w ∈ wsX6_isSeen := by decide +kernel
  unfold v_X6_isSeen_b62 at hw
  refine lv_iconst (v := (0 : Int32)) hx hb dX6_isSeen_62 (by decide) ?_
  exact m_X6_isSeen_b63 C hM X h K L6 k6 x1 x2 x3 x4 x5 x6 x7 x8 (0 : Int32) hw hP hS (lv_sub hl [0, 1, 2, 3, 4, 5, 6, 7, 8] rfl)
set_option maxHeartbeats 4000000 in
set_option maxRecDepth 100000 in
theorem m_X6_isSeen_b58 {p : Program} {l : Launch} {e : Env} {s : State} {m : MethodId} {args : Array Value} {below : List Frame} {meth : Method} {c : Code} {E : z_E} (C : z_Cx p E s m args meth c cX6_isSeen 12 wsX6_isSeen RX6 (some .boolean)) (hM : z_mod E) (X : z_X) (h : z_G) (K : Int32 → Prop) (L6 : Int32 → Int32 → Int32 → Int32 → Int32 → Int32 → Int32 → Prop) (k6 : ∀ (x1 : Int32) (x2 : Int32) (x3 : Int32) (x4 : Int32) (x5 : Int32) (x6 : Int32) (x7 : Int32), L6 x1 x2 x3 x4 x5 x6 x7 → ∀ {H : Heap} {locs : List Loc}, z_P E (z_up X 19 h) H → va_S (z_A E) s.heap H locs → ∀ (ls : Array Slot), lv_has ls 12 [(0, .ref (z_a E 19 0)), (1, .int x1), (2, .int x2), (3, .int x3), (4, .int x4), (5, .int x5), (6, .int x6), (7, .int x7)] → W p l e rX6_isSeen s m args below meth c H locs 0 0 (MQ below (va_Qi (fun r X' => X' = (z_up X 19 h) ∧ K r) (fun u t => z_P E u t.heap) (z_A E)) args s 0 0 (z_A E)) (F0 m 6 ls [])) (x1 : Int32) (x2 : Int32) (x3 : Int32) (x4 : Int32) (x5 : Int32) (x6 : Int32) (x7 : Int32) (x8 : Int32) (hw : v_X6_isSeen_b58 h K L6 x1 x2 x3 x4 x5 x6 x7 x8) {H : Heap} {locs : List Loc} (hP : z_P E (z_up X 19 h) H) (hS : va_S (z_A E) s.heap H locs) {ls : Array Slot} (hl : lv_has ls 12 [(0, .ref (z_a E 19 0)), (1, .int x1), (2, .int x2), (3, .int x3), (4, .int x4), (5, .int x5), (6, .int x6), (7, .int x7), (8, .int x8)]) : W p l e rX6_isSeen s m args below meth c H locs 0 0 (MQ below (va_Qi (fun r X' => X' = (z_up X 19 h) ∧ K r) (fun u t => z_P E u t.heap) (z_A E)) args s 0 0 (z_A E)) (F0 m 58 ls []) := by
  obtain ⟨hx, hb, hml, hr, hlocks, hown, hts, hK, hE⟩ := id C
  have hfX6 : ∀ w ∈ u_ws RX6 TX6 15, w ∈ wsX6_isSeen := by decide +kernel
  unfold v_X6_isSeen_b58 at hw
  refine lv_iconst (v := (1 : Int32)) hx hb dX6_isSeen_58 (by decide) ?_
  refine lv_goto (tgt := 63) hx hb dX6_isSeen_59 (by decide) ?_
  exact m_X6_isSeen_b63 C hM X h K L6 k6 x1 x2 x3 x4 x5 x6 x7 x8 (1 : Int32) hw hP hS (lv_sub hl [0, 1, 2, 3, 4, 5, 6, 7, 8] rfl)
set_option maxHeartbeats 4000000 in
set_option maxRecDepth 100000 in
theorem m_X6_isSeen_b6_s {p : Program} {l : Launch} {e : Env} {s : State} {m : MethodId} {args : Array Value} {below : List Frame} {meth : Method} {c : Code} {E : z_E} (C : z_Cx p E s m args meth c cX6_isSeen 12 wsX6_isSeen RX6 (some .boolean)) (hM : z_mod E) (X : z_X) (h : z_G) (K : Int32 → Prop) (L6 : Int32 → Int32 → Int32 → Int32 → Int32 → Int32 → Int32 → Prop) (k6 : ∀ (x1 : Int32) (x2 : Int32) (x3 : Int32) (x4 : Int32) (x5 : Int32) (x6 : Int32) (x7 : Int32), L6 x1 x2 x3 x4 x5 x6 x7 → ∀ {H : Heap} {locs : List Loc}, z_P E (z_up X 19 h) H → va_S (z_A E) s.heap H locs → ∀ (ls : Array Slot), lv_has ls 12 [(0, .ref (z_a E 19 0)), (1, .int x1), (2, .int x2), (3, .int x3), (4, .int x4), (5, .int x5), (6, .int x6), (7, .int x7)] → W p l e rX6_isSeen s m args below meth c H locs 0 0 (MQ below (va_Qi (fun r X' => X' = (z_up X 19 h) ∧ K r) (fun u t => z_P E u t.heap) (z_A E)) args s 0 0 (z_A E)) (F0 m 6 ls [])) (x1 : Int32) (x2 : Int32) (x3 : Int32) (x4 : Int32) (x5 : Int32) (x6 : Int32) (x7 : Int32) (hw : v_X6_isSeen_b6_s h K L6 x1 x2 x3 x4 x5 x6 x7) {H : Heap} {locs : List Loc} (hP : z_P E (z_up X 19 h) H) (hS : va_S (z_A E) s.heap H locs) {ls : Array Slot} (hl : lv_has ls 12 [(0, .ref (z_a E 19 0)), (1, .int x1), (2, .int x2), (3, .int x3), (4, .int x4), (5, .int x5), (6, .int x6), (7, .int x7)]) : W p l e rX6_isSeen s m args below meth c H locs 0 0 (MQ below (va_Qi (fun r X' => X' = (z_up X 19 h) ∧ K r) (fun u t => z_P E u t.heap) (z_A E)) args s 0 0 (z_A E)) (F0 m 6 ls []) := by
  obtain ⟨hx, hb, hml, hr, hlocks, hown, hts, hK, hE⟩ := id C
  have hfX6 : ∀ w ∈ u_ws RX6 TX6 15, w ∈ wsX6_isSeen := by decide +kernel
  unfold v_X6_isSeen_b6_s at hw
  refine lv_iload hx hb dX6_isSeen_6 (lv_at hl 7 rfl) ?_
  refine lv_aload_n hx hb dX6_isSeen_8 rfl (lv_at hl 0 rfl) ?_
  refine z_geti (C := RX6) (T := TX6) (N := 15) (ref := "GauntletHallModel") (o := 19) (d := 0) hx hb hts hfX6 hown hK hP (hM (19, 0) (List.mem_of_getElem? (i := 0) rfl)) z_l_19_0 rfl 12 (by decide) (hts (.fieldLink RX6 93 "GauntletHallModel" "seenMany" "I") (by decide +kernel)) rfl rfl (z_up_val X 19 h 0 12) dX6_isSeen_9 ?_
  refine lv_icmp_ge (tgt := 215) hx hb dX6_isSeen_12 (by decide) (fun c1 => ?_) (fun c1 => ?_)
  · replace hw := hw.1 c1
    refine lv_iload hx hb dX6_isSeen_215 (lv_at hl 6 rfl) ?_
    obtain ⟨hz, hw⟩ := hw
    exact z_retz C hz hP hS ⟨rfl, hw⟩ dX6_isSeen_217
  · replace hw := hw.2 c1
    refine lv_aload_n hx hb dX6_isSeen_15 rfl (lv_at hl 0 rfl) ?_
    refine z_getr (C := RX6) (T := TX6) (N := 15) (ref := "GauntletHallModel") (o := 19) (d := 0) hx hb hts hfX6 hown hK hP (hM (19, 0) (List.mem_of_getElem? (i := 0) rfl)) z_l_19_0 rfl 11 (by decide) (hts (.fieldLink RX6 34 "GauntletHallModel" "seen" "[I") (by decide +kernel)) rfl rfl dX6_isSeen_16 ?_
    refine lv_iconst (v := (3 : Int32)) hx hb dX6_isSeen_19 (by decide) ?_
    refine lv_iload hx hb dX6_isSeen_20 (lv_at hl 7 rfl) ?_
    refine lv_imul hx hb dX6_isSeen_22 ?_
    obtain ⟨i2, hw⟩ := hw
    refine z_iald (o := 19) (d := 11) hx hb hK hP (hM (19, 11) (List.mem_of_getElem? (i := 9) rfl)) z_l_19_11 i2 (z_up_val X 19 h 11 (z_n ((3 : Int32) * x7))) dX6_isSeen_23 ?_
    refine lv_topi (fun y3 ey3 => ?_)
    replace hw := hw y3 ey3
    refine lv_istore (lv' := [(8, .int y3), (0, .ref (z_a E 19 0)), (1, .int x1), (2, .int x2), (3, .int x3), (4, .int x4), (5, .int x5), (6, .int x6), (7, .int x7)]) hx hb dX6_isSeen_24 hl (by decide) rfl (fun ls hl => ?_)
    refine lv_iload hx hb dX6_isSeen_26 (lv_at hl 0 rfl) ?_
    refine lv_aload_n hx hb dX6_isSeen_28 rfl (lv_at hl 1 rfl) ?_
    refine z_getr (C := RX6) (T := TX6) (N := 15) (ref := "GauntletHallModel") (o := 19) (d := 0) hx hb hts hfX6 hown hK hP (hM (19, 0) (List.mem_of_getElem? (i := 0) rfl)) z_l_19_0 rfl 5 (by decide) (hts (.fieldLink RX6 22 "GauntletHallModel" "now" "[I") (by decide +kernel)) rfl rfl dX6_isSeen_29 ?_
    refine lv_iconst (v := (2 : Int32)) hx hb dX6_isSeen_32 (by decide) ?_
    obtain ⟨i4, hw⟩ := hw
    refine z_iald (o := 19) (d := 5) hx hb hK hP (hM (19, 5) (List.mem_of_getElem? (i := 5) rfl)) z_l_19_5 i4 (z_up_val X 19 h 5 (z_n (2 : Int32))) dX6_isSeen_33 ?_
    refine lv_icmp_ge (tgt := 62) hx hb dX6_isSeen_34 (by decide) (fun c5 => ?_) (fun c5 => ?_)
    · replace hw := hw.1 c5
      exact m_X6_isSeen_b62 C hM X h K L6 k6 x1 x2 x3 x4 x5 x6 x7 y3 hw hP hS (lv_sub hl [1, 2, 3, 4, 5, 6, 7, 8, 0] rfl)
    · replace hw := hw.2 c5
      refine lv_aload_n hx hb dX6_isSeen_37 rfl (lv_at hl 1 rfl) ?_
      refine z_getr (C := RX6) (T := TX6) (N := 15) (ref := "GauntletHallModel") (o := 19) (d := 0) hx hb hts hfX6 hown hK hP (hM (19, 0) (List.mem_of_getElem? (i := 0) rfl)) z_l_19_0 rfl 11 (by decide) (hts (.fieldLink RX6 34 "GauntletHallModel" "seen" "[I") (by decide +kernel)) rfl rfl dX6_isSeen_38 ?_
      refine lv_iconst (v := (3 : Int32)) hx hb dX6_isSeen_41 (by decide) ?_
      refine lv_iload hx hb dX6_isSeen_42 (lv_at hl 8 rfl) ?_
      refine lv_imul hx hb dX6_isSeen_44 ?_
      refine lv_iconst (v := (1 : Int32)) hx hb dX6_isSeen_45 (by decide) ?_
      refine lv_iadd hx hb dX6_isSeen_46 ?_
      obtain ⟨i26, hw⟩ := hw
      refine z_iald (o := 19) (d := 11) hx hb hK hP (hM (19, 11) (List.mem_of_getElem? (i := 9) rfl)) z_l_19_11 i26 (z_up_val X 19 h 11 (z_n (((3 : Int32) * x7) + (1 : Int32)))) dX6_isSeen_47 ?_
      refine lv_iload_n hx hb dX6_isSeen_48 rfl (lv_at hl 2 rfl) ?_
      refine lv_icmp_eq (tgt := 58) hx hb dX6_isSeen_49 (by decide) (fun c27 => ?_) (fun c27 => ?_)
      · replace hw := hw.1 c27
        exact m_X6_isSeen_b58 C hM X h K L6 k6 x1 x2 x3 x4 x5 x6 x7 y3 hw hP hS (lv_sub hl [1, 2, 3, 4, 5, 6, 7, 8, 0] rfl)
      · replace hw := hw.2 c27
        refine lv_iload hx hb dX6_isSeen_52 (lv_at hl 0 rfl) ?_
        refine lv_iload_n hx hb dX6_isSeen_54 rfl (lv_at hl 4 rfl) ?_
        refine lv_icmp_ne (tgt := 62) hx hb dX6_isSeen_55 (by decide) (fun c28 => ?_) (fun c28 => ?_)
        · replace hw := hw.1 c28
          exact m_X6_isSeen_b62 C hM X h K L6 k6 x1 x2 x3 x4 x5 x6 x7 y3 hw hP hS (lv_sub hl [1, 2, 3, 4, 5, 6, 7, 8, 0] rfl)
        · replace hw := hw.2 c28
          exact m_X6_isSeen_b58 C hM X h K L6 k6 x1 x2 x3 x4 x5 x6 x7 y3 hw hP hS (lv_sub hl [1, 2, 3, 4, 5, 6, 7, 8, 0] rfl)
theorem m_X6_isSeen_b6 {p : Program} {l : Launch} {e : Env} {s : State} {m : MethodId} {args : Array Value} {below : List Frame} {meth : Method} {c : Code} {E : z_E} (C : z_Cx p E s m args meth c cX6_isSeen 12 wsX6_isSeen RX6 (some .boolean)) (hM : z_mod E) (X : z_X) (h : z_G) (K : Int32 → Prop) (x1 : Int32) (x2 : Int32) (x3 : Int32) (x4 : Int32) (x5 : Int32) (x6 : Int32) (x7 : Int32) (hw : v_X6_isSeen_b6 h K x1 x2 x3 x4 x5 x6 x7) {H : Heap} {locs : List Loc} (hP : z_P E (z_up X 19 h) H) (hS : va_S (z_A E) s.heap H locs) {ls : Array Slot} (hl : lv_has ls 12 [(0, .ref (z_a E 19 0)), (1, .int x1), (2, .int x2), (3, .int x3), (4, .int x4), (5, .int x5), (6, .int x6), (7, .int x7)]) : W p l e rX6_isSeen s m args below meth c H locs 0 0 (MQ below (va_Qi (fun r X' => X' = (z_up X 19 h) ∧ K r) (fun u t => z_P E u t.heap) (z_A E)) args s 0 0 (z_A E)) (F0 m 6 ls []) := by
  obtain ⟨n, hw⟩ := hw
  revert hw hP hS hl
  revert x1 x2 x3 x4 x5 x6 x7 H locs ls
  induction n with
  | zero => intro x1 x2 x3 x4 x5 x6 x7 H locs ls hP hS hl hw; exact hw.elim
  | succ n ih =>
    intro x1 x2 x3 x4 x5 x6 x7 H locs ls hP hS hl hw
    exact m_X6_isSeen_b6_s C hM X h K (fun x1 x2 x3 x4 x5 x6 x7 => z_fp (σ := Int32 × Int32 × Int32 × Int32 × Int32 × Int32 × Int32) (fun Lp q => v_X6_isSeen_b6_s h K (fun x1 x2 x3 x4 x5 x6 x7 => Lp (x1, x2, x3, x4, x5, x6, x7)) q.1 q.2.1 q.2.2.1 q.2.2.2.1 q.2.2.2.2.1 q.2.2.2.2.2.1 q.2.2.2.2.2.2) n (x1, x2, x3, x4, x5, x6, x7)) (fun x1 x2 x3 x4 x5 x6 x7 h9 H locs hP hS ls hl => ih x1 x2 x3 x4 x5 x6 x7 hP hS hl h9) x1 x2 x3 x4 x5 x6 x7 hw hP hS hl
set_option maxHeartbeats 4000000 in
set_option maxRecDepth 100000 in
theorem m_X6_isSeen (l : Launch) {E : z_E} (hE : z_ok E) (hM : z_mod E) (X : z_X) (h : z_G) (x1 : Int32) (x2 : Int32) (x3 : Int32) (x4 : Int32) (x5 : Int32) (K : Int32 → Prop) (hw : v_X6_isSeen h x1 x2 x3 x4 x5 K) : z_CI l E yX6_isSeen wsX6_isSeen rX6_isSeen [.ref (z_a E 19 0), .int x1, .int x2, .int x3, .int x4, .int x5] (z_up X 19 h) (fun r X' => X' = (z_up X 19 h) ∧ K r) := by
  refine z_start (cc := cX6_isSeen) (maxL := 12) (ret := (some .boolean)) hE (by decide) rfl (Nat.le_of_ble_eq_true rfl) ?_
  intro p e s m below meth c C hP hS ls hl
  have C : z_Cx p E s m _ meth c cX6_isSeen 12 wsX6_isSeen RX6 (some .boolean) := C
  obtain ⟨hx, hb, hml, hr, hlocks, hown, hts, hK, hE⟩ := id C
  have hl : lv_has ls 12 [(0, .ref (z_a E 19 0)), (1, .int x1), (2, .int x2), (3, .int x3), (4, .int x4), (5, .int x5)] := hl
  have hfX6 : ∀ w ∈ u_ws RX6 TX6 15, w ∈ wsX6_isSeen := by decide +kernel
  unfold v_X6_isSeen at hw
  refine lv_iconst (v := (1 : Int32)) hx hb dX6_isSeen_0 (by decide) ?_
  refine lv_istore (lv' := [(6, .int (1 : Int32)), (0, .ref (z_a E 19 0)), (1, .int x1), (2, .int x2), (3, .int x3), (4, .int x4), (5, .int x5)]) hx hb dX6_isSeen_1 hl (by decide) rfl (fun ls hl => ?_)
  refine lv_iconst (v := (0 : Int32)) hx hb dX6_isSeen_3 (by decide) ?_
  refine lv_istore (lv' := [(7, .int (0 : Int32)), (6, .int (1 : Int32)), (0, .ref (z_a E 19 0)), (1, .int x1), (2, .int x2), (3, .int x3), (4, .int x4), (5, .int x5)]) hx hb dX6_isSeen_4 hl (by decide) rfl (fun ls hl => ?_)
  exact m_X6_isSeen_b6 C hM X h K x1 x2 x3 x4 x5 (1 : Int32) (0 : Int32) hw hP hS (lv_sub hl [2, 3, 4, 5, 6, 7, 1, 0] rfl)
set_option maxHeartbeats 4000000 in
set_option maxRecDepth 100000 in
theorem m_X6_hands_b59 {p : Program} {l : Launch} {e : Env} {s : State} {m : MethodId} {args : Array Value} {below : List Frame} {meth : Method} {c : Code} {E : z_E} (C : z_Cx p E s m args meth c cX6_hands 7 wsX6_hands RX6 (some .int)) (hM : z_mod E) (X : z_X) (h : z_G) (K : Int32 → Prop) (L30 : Int32 → Int32 → Int32 → Int32 → Int32 → Prop) (k30 : ∀ (x1 : Int32) (x2 : Int32) (x3 : Int32) (x4 : Int32) (x5 : Int32), L30 x1 x2 x3 x4 x5 → ∀ {H : Heap} {locs : List Loc}, z_P E (z_up X 19 h) H → va_S (z_A E) s.heap H locs → ∀ (ls : Array Slot), lv_has ls 7 [(0, .ref (z_a E 19 0)), (1, .int x1), (2, .int x2), (3, .int x3), (4, .int x4), (5, .int x5)] → W p l e rX6_hands s m args below meth c H locs 0 0 (MQ below (va_Qi (fun r X' => X' = (z_up X 19 h) ∧ K r) (fun u t => z_P E u t.heap) (z_A E)) args s 0 0 (z_A E)) (F0 m 30 ls [])) (x1 : Int32) (x2 : Int32) (x4 : Int32) (x5 : Int32) (x6 : Int32) (t0 : Int32) (t1 : Int32) (hw : v_X6_hands_b59 h K L30 x1 x2 x4 x5 x6 t0 t1) {H : Heap} {locs : List Loc} (hP : z_P E (z_up X 19 h) H) (hS : va_S (z_A E) s.heap H locs) {ls : Array Slot} (hl : lv_has ls 7 [(0, .ref (z_a E 19 0)), (1, .int x1), (2, .int x2), (4, .int x4), (5, .int x5), (6, .int x6)]) : W p l e rX6_hands s m args below meth c H locs 0 0 (MQ below (va_Qi (fun r X' => X' = (z_up X 19 h) ∧ K r) (fun u t => z_P E u t.heap) (z_A E)) args s 0 0 (z_A E)) (F0 m 59 ls [.int t1, .int t0]) := by
  obtain ⟨hx, hb, hml, hr, hlocks, hown, hts, hK, hE⟩ := id C
  unfold v_X6_hands_b59 at hw
  refine lv_iadd hx hb dX6_hands_59 ?_
  refine lv_topi (fun y9 ey9 => ?_)
  replace hw := hw y9 ey9
  refine lv_istore_n (lv' := [(3, .int y9), (0, .ref (z_a E 19 0)), (1, .int x1), (2, .int x2), (4, .int x4), (5, .int x5), (6, .int x6)]) hx hb dX6_hands_60 rfl hl (by decide) rfl (fun ls hl => ?_)
  refine lv_iload hx hb dX6_hands_61 (lv_at hl 6 rfl) ?_
  refine lv_if_eq (tgt := 71) hx hb dX6_hands_63 (by decide) (fun c10 => ?_) (fun c10 => ?_)
  · replace hw := hw.1 c10
    refine lv_iload hx hb dX6_hands_71 (lv_at hl 4 rfl) ?_
    refine lv_istore (lv' := [(4, .int x4), (3, .int y9), (0, .ref (z_a E 19 0)), (1, .int x1), (2, .int x2), (5, .int x5), (6, .int x6)]) hx hb dX6_hands_73 hl (by decide) rfl (fun ls hl => ?_)
    obtain ⟨y11, ey11⟩ : ∃ z : Int32, z = x5 + (-1 : Int32) := ⟨_, rfl⟩
    replace hw := hw y11 ey11
    refine lv_iinc (v := y11) (lv' := [(5, .int y11), (4, .int x4), (3, .int y9), (0, .ref (z_a E 19 0)), (1, .int x1), (2, .int x2), (6, .int x6)]) hx hb dX6_hands_75 hl (k := 5) rfl (by rw [ey11]; rfl) (by decide) rfl (fun ls hl => ?_)
    refine lv_goto (tgt := 30) hx hb dX6_hands_78 (by decide) ?_
    exact k30 x1 x2 y9 x4 y11 hw hP hS _ (lv_sub hl [3, 4, 5, 2, 1, 0] rfl)
  · replace hw := hw.2 c10
    refine lv_iload hx hb dX6_hands_66 (lv_at hl 5 rfl) ?_
    refine lv_goto (tgt := 73) hx hb dX6_hands_68 (by decide) ?_
    refine lv_istore (lv' := [(4, .int x5), (3, .int y9), (0, .ref (z_a E 19 0)), (1, .int x1), (2, .int x2), (5, .int x5), (6, .int x6)]) hx hb dX6_hands_73 hl (by decide) rfl (fun ls hl => ?_)
    obtain ⟨y12, ey12⟩ : ∃ z : Int32, z = x5 + (-1 : Int32) := ⟨_, rfl⟩
    replace hw := hw y12 ey12
    refine lv_iinc (v := y12) (lv' := [(5, .int y12), (4, .int x5), (3, .int y9), (0, .ref (z_a E 19 0)), (1, .int x1), (2, .int x2), (6, .int x6)]) hx hb dX6_hands_75 hl (k := 5) rfl (by rw [ey12]; rfl) (by decide) rfl (fun ls hl => ?_)
    refine lv_goto (tgt := 30) hx hb dX6_hands_78 (by decide) ?_
    exact k30 x1 x2 y9 x5 y12 hw hP hS _ (lv_sub hl [3, 4, 5, 2, 1, 0] rfl)
set_option maxHeartbeats 4000000 in
set_option maxRecDepth 100000 in
theorem m_X6_hands_b30_s {p : Program} {l : Launch} {e : Env} {s : State} {m : MethodId} {args : Array Value} {below : List Frame} {meth : Method} {c : Code} {E : z_E} (C : z_Cx p E s m args meth c cX6_hands 7 wsX6_hands RX6 (some .int)) (hM : z_mod E) (X : z_X) (h : z_G) (K : Int32 → Prop) (L30 : Int32 → Int32 → Int32 → Int32 → Int32 → Prop) (k30 : ∀ (x1 : Int32) (x2 : Int32) (x3 : Int32) (x4 : Int32) (x5 : Int32), L30 x1 x2 x3 x4 x5 → ∀ {H : Heap} {locs : List Loc}, z_P E (z_up X 19 h) H → va_S (z_A E) s.heap H locs → ∀ (ls : Array Slot), lv_has ls 7 [(0, .ref (z_a E 19 0)), (1, .int x1), (2, .int x2), (3, .int x3), (4, .int x4), (5, .int x5)] → W p l e rX6_hands s m args below meth c H locs 0 0 (MQ below (va_Qi (fun r X' => X' = (z_up X 19 h) ∧ K r) (fun u t => z_P E u t.heap) (z_A E)) args s 0 0 (z_A E)) (F0 m 30 ls [])) (x1 : Int32) (x2 : Int32) (x3 : Int32) (x4 : Int32) (x5 : Int32) (hw : v_X6_hands_b30_s h K L30 x1 x2 x3 x4 x5) {H : Heap} {locs : List Loc} (hP : z_P E (z_up X 19 h) H) (hS : va_S (z_A E) s.heap H locs) {ls : Array Slot} (hl : lv_has ls 7 [(0, .ref (z_a E 19 0)), (1, .int x1), (2, .int x2), (3, .int x3), (4, .int x4), (5, .int x5)]) : W p l e rX6_hands s m args below meth c H locs 0 0 (MQ below (va_Qi (fun r X' => X' = (z_up X 19 h) ∧ K r) (fun u t => z_P E u t.heap) (z_A E)) args s 0 0 (z_A E)) (F0 m 30 ls []) := by
  obtain ⟨hx, hb, hml, hr, hlocks, hown, hts, hK, hE⟩ := id C
  unfold v_X6_hands_b30_s at hw
  refine lv_iload hx hb dX6_hands_30 (lv_at hl 5 rfl) ?_
  refine lv_if_le (tgt := 81) hx hb dX6_hands_32 (by decide) (fun c5 => ?_) (fun c5 => ?_)
  · replace hw := hw.1 c5
    refine lv_iload_n hx hb dX6_hands_81 rfl (lv_at hl 2 rfl) ?_
    refine lv_if_ne (tgt := 89) hx hb dX6_hands_82 (by decide) (fun c6 => ?_) (fun c6 => ?_)
    · replace hw := hw.1 c6
      refine lv_iload hx hb dX6_hands_89 (lv_at hl 4 rfl) ?_
      exact z_reti C hP hS ⟨rfl, hw⟩ dX6_hands_91
    · replace hw := hw.2 c6
      refine lv_iload_n hx hb dX6_hands_85 rfl (lv_at hl 3 rfl) ?_
      refine lv_goto (tgt := 91) hx hb dX6_hands_86 (by decide) ?_
      exact z_reti C hP hS ⟨rfl, hw⟩ dX6_hands_91
  · replace hw := hw.2 c5
    refine lv_aload_n hx hb dX6_hands_35 rfl (lv_at hl 0 rfl) ?_
    refine lv_iload_n hx hb dX6_hands_36 rfl (lv_at hl 1 rfl) ?_
    refine lv_iload hx hb dX6_hands_37 (lv_at hl 5 rfl) ?_
    refine lv_bipush (v := (-4 : Int32)) hx hb dX6_hands_39 (by decide) ?_
    refine lv_iconst (v := (0 : Int32)) hx hb dX6_hands_41 (by decide) ?_
    refine lv_iconst (v := (0 : Int32)) hx hb dX6_hands_42 (by decide) ?_
    refine z_vi (C := RX6) (T := TX6) (N := 15) (o := 19) (rest := []) ⟨hx, hb, hml, hown, hts⟩ (m_X6_isSeen l hE hM X h x1 x5 (-4 : Int32) (0 : Int32) (0 : Int32) _ hw) (cwV 5 hts gX6_hands_X6_isSeen rfl rfl rfl (by decide +kernel) ⟨Nat.le_of_ble_eq_true rfl, Nat.le_of_ble_eq_true rfl⟩) hK hP hS (hM (19, 0) (List.mem_of_getElem? (i := 0) rfl)) z_l_19_0 rfl rfl hl.1 rfl (Nat.le_of_ble_eq_true rfl) dX6_hands_43 ⟨Nat.zero_le _, Nat.zero_le _⟩ (fun r7 u H locs hk hP hS => ?_)
    obtain ⟨eu, hw⟩ := hk
    rw [eu] at hP
    refine lv_istore (lv' := [(6, .int r7), (0, .ref (z_a E 19 0)), (1, .int x1), (2, .int x2), (3, .int x3), (4, .int x4), (5, .int x5)]) hx hb dX6_hands_46 hl (by decide) rfl (fun ls hl => ?_)
    refine lv_iload_n hx hb dX6_hands_48 rfl (lv_at hl 4 rfl) ?_
    refine lv_iload hx hb dX6_hands_49 (lv_at hl 0 rfl) ?_
    refine lv_if_eq (tgt := 58) hx hb dX6_hands_51 (by decide) (fun c8 => ?_) (fun c8 => ?_)
    · replace hw := hw.1 c8
      refine lv_iconst (v := (0 : Int32)) hx hb dX6_hands_58 (by decide) ?_
      exact m_X6_hands_b59 C hM X h K L30 k30 x1 x2 x4 x5 r7 x3 (0 : Int32) hw hP hS (lv_sub hl [1, 2, 3, 5, 6, 0] rfl)
    · replace hw := hw.2 c8
      refine lv_iconst (v := (1 : Int32)) hx hb dX6_hands_54 (by decide) ?_
      refine lv_goto (tgt := 59) hx hb dX6_hands_55 (by decide) ?_
      exact m_X6_hands_b59 C hM X h K L30 k30 x1 x2 x4 x5 r7 x3 (1 : Int32) hw hP hS (lv_sub hl [1, 2, 3, 5, 6, 0] rfl)
theorem m_X6_hands_b30 {p : Program} {l : Launch} {e : Env} {s : State} {m : MethodId} {args : Array Value} {below : List Frame} {meth : Method} {c : Code} {E : z_E} (C : z_Cx p E s m args meth c cX6_hands 7 wsX6_hands RX6 (some .int)) (hM : z_mod E) (X : z_X) (h : z_G) (K : Int32 → Prop) (x1 : Int32) (x2 : Int32) (x3 : Int32) (x4 : Int32) (x5 : Int32) (hw : v_X6_hands_b30 h K x1 x2 x3 x4 x5) {H : Heap} {locs : List Loc} (hP : z_P E (z_up X 19 h) H) (hS : va_S (z_A E) s.heap H locs) {ls : Array Slot} (hl : lv_has ls 7 [(0, .ref (z_a E 19 0)), (1, .int x1), (2, .int x2), (3, .int x3), (4, .int x4), (5, .int x5)]) : W p l e rX6_hands s m args below meth c H locs 0 0 (MQ below (va_Qi (fun r X' => X' = (z_up X 19 h) ∧ K r) (fun u t => z_P E u t.heap) (z_A E)) args s 0 0 (z_A E)) (F0 m 30 ls []) := by
  obtain ⟨n, hw⟩ := hw
  revert hw hP hS hl
  revert x1 x2 x3 x4 x5 H locs ls
  induction n with
  | zero => intro x1 x2 x3 x4 x5 H locs ls hP hS hl hw; exact hw.elim
  | succ n ih =>
    intro x1 x2 x3 x4 x5 H locs ls hP hS hl hw
    exact m_X6_hands_b30_s C hM X h K (fun x1 x2 x3 x4 x5 => z_fp (σ := Int32 × Int32 × Int32 × Int32 × Int32) (fun Lp q => v_X6_hands_b30_s h K (fun x1 x2 x3 x4 x5 => Lp (x1, x2, x3, x4, x5)) q.1 q.2.1 q.2.2.1 q.2.2.2.1 q.2.2.2.2) n (x1, x2, x3, x4, x5)) (fun x1 x2 x3 x4 x5 h9 H locs hP hS ls hl => ih x1 x2 x3 x4 x5 hP hS hl h9) x1 x2 x3 x4 x5 hw hP hS hl
set_option maxHeartbeats 4000000 in
set_option maxRecDepth 100000 in
theorem m_X6_hands (l : Launch) {E : z_E} (hE : z_ok E) (hM : z_mod E) (X : z_X) (h : z_G) (x1 : Int32) (x2 : Int32) (K : Int32 → Prop) (hw : v_X6_hands h x1 x2 K) : z_CI l E yX6_hands wsX6_hands rX6_hands [.ref (z_a E 19 0), .int x1, .int x2] (z_up X 19 h) (fun r X' => X' = (z_up X 19 h) ∧ K r) := by
  refine z_start (cc := cX6_hands) (maxL := 7) (ret := (some .int)) hE (by decide) rfl (Nat.le_of_ble_eq_true rfl) ?_
  intro p e s m below meth c C hP hS ls hl
  have C : z_Cx p E s m _ meth c cX6_hands 7 wsX6_hands RX6 (some .int) := C
  obtain ⟨hx, hb, hml, hr, hlocks, hown, hts, hK, hE⟩ := id C
  have hl : lv_has ls 7 [(0, .ref (z_a E 19 0)), (1, .int x1), (2, .int x2)] := hl
  unfold v_X6_hands at hw
  refine lv_aload_n hx hb dX6_hands_0 rfl (lv_at hl 0 rfl) ?_
  refine lv_iload_n hx hb dX6_hands_1 rfl (lv_at hl 1 rfl) ?_
  refine z_vi (C := RX6) (T := TX6) (N := 15) (o := 19) (rest := []) ⟨hx, hb, hml, hown, hts⟩ (m_X6_isPerson l hE hM X h x1 _ hw) (cwV 1 hts gX6_hands_X6_isPerson rfl rfl rfl (by decide +kernel) ⟨Nat.le_of_ble_eq_true rfl, Nat.le_of_ble_eq_true rfl⟩) hK hP hS (hM (19, 0) (List.mem_of_getElem? (i := 0) rfl)) z_l_19_0 rfl rfl hl.1 rfl (Nat.le_of_ble_eq_true rfl) dX6_hands_2 ⟨Nat.zero_le _, Nat.zero_le _⟩ (fun r1 u H locs hk hP hS => ?_)
  obtain ⟨eu, hw⟩ := hk
  rw [eu] at hP
  refine lv_if_eq (tgt := 18) hx hb dX6_hands_5 (by decide) (fun c2 => ?_) (fun c2 => ?_)
  · replace hw := hw.1 c2
    refine lv_iconst (v := (-1 : Int32)) hx hb dX6_hands_18 (by decide) ?_
    exact z_reti C hP hS ⟨rfl, hw⟩ dX6_hands_19
  · replace hw := hw.2 c2
    refine lv_iload_n hx hb dX6_hands_8 rfl (lv_at hl 2 rfl) ?_
    refine lv_i2l hx hb dX6_hands_9 rfl ?_
    refine lv_lconst (v := (0 : Int64)) hx hb dX6_hands_10 (by decide) ?_
    refine lv_lconst (v := (1 : Int64)) hx hb dX6_hands_11 (by decide) ?_
    refine z_si (rest := []) ⟨hx, hb, hml, hown, hts⟩ (m_X6_in l hE (z_up X 19 h) (Int32.toInt64 x2) (0 : Int64) (1 : Int64) _ hw) (va_cwS 3 hts gX6_hands_X6_in rfl rfl rfl (by decide +kernel) ⟨Nat.le_of_ble_eq_true rfl, Nat.le_of_ble_eq_true rfl⟩) hK hP hS rfl hl.1 rfl (Nat.le_of_ble_eq_true rfl) dX6_hands_12 ⟨Nat.zero_le _, Nat.zero_le _⟩ (fun r3 u H locs hk hP hS => ?_)
    obtain ⟨eu, hw⟩ := hk
    rw [eu] at hP
    refine lv_if_ne (tgt := 20) hx hb dX6_hands_15 (by decide) (fun c4 => ?_) (fun c4 => ?_)
    · replace hw := hw.1 c4
      refine lv_iconst (v := (0 : Int32)) hx hb dX6_hands_20 (by decide) ?_
      refine lv_istore_n (lv' := [(3, .int (0 : Int32)), (0, .ref (z_a E 19 0)), (1, .int x1), (2, .int x2)]) hx hb dX6_hands_21 rfl hl (by decide) rfl (fun ls hl => ?_)
      refine lv_bipush (v := (-4 : Int32)) hx hb dX6_hands_22 (by decide) ?_
      refine lv_istore (lv' := [(4, .int (-4 : Int32)), (3, .int (0 : Int32)), (0, .ref (z_a E 19 0)), (1, .int x1), (2, .int x2)]) hx hb dX6_hands_24 hl (by decide) rfl (fun ls hl => ?_)
      refine lv_bipush (v := (20 : Int32)) hx hb dX6_hands_26 (by decide) ?_
      refine lv_istore (lv' := [(5, .int (20 : Int32)), (4, .int (-4 : Int32)), (3, .int (0 : Int32)), (0, .ref (z_a E 19 0)), (1, .int x1), (2, .int x2)]) hx hb dX6_hands_28 hl (by decide) rfl (fun ls hl => ?_)
      exact m_X6_hands_b30 C hM X h K x1 x2 (0 : Int32) (-4 : Int32) (20 : Int32) hw hP hS (lv_sub hl [3, 4, 5, 2, 1, 0] rfl)
    · replace hw := hw.2 c4
      refine lv_iconst (v := (-1 : Int32)) hx hb dX6_hands_18 (by decide) ?_
      exact z_reti C hP hS ⟨rfl, hw⟩ dX6_hands_19
set_option maxHeartbeats 4000000 in
set_option maxRecDepth 100000 in
theorem m_X6_note_b51_s {p : Program} {l : Launch} {e : Env} {s : State} {m : MethodId} {args : Array Value} {below : List Frame} {meth : Method} {c : Code} {E : z_E} (C : z_Cx p E s m args meth c cX6_note 2 wsX6_note RX6 none) (hM : z_mod E) (X : z_X) (K : z_G → Prop) (L51 : z_G → Int32 → Prop) (k51 : ∀ (h : z_G) (x1 : Int32), L51 h x1 → ∀ {H : Heap} {locs : List Loc}, z_P E (z_up X 19 h) H → va_S (z_A E) s.heap H locs → ∀ (ls : Array Slot), lv_has ls 2 [(0, .ref (z_a E 19 0)), (1, .int x1)] → W p l e rX6_note s m args below meth c H locs 0 0 (MQ below (va_Qv (fun X' => ∃ h', X' = z_up X 19 h' ∧ K h') (fun u t => z_P E u t.heap) (z_A E)) args s 0 0 (z_A E)) (F0 m 51 ls [])) (h : z_G) (x1 : Int32) (hw : v_X6_note_b51_s K L51 h x1) {H : Heap} {locs : List Loc} (hP : z_P E (z_up X 19 h) H) (hS : va_S (z_A E) s.heap H locs) {ls : Array Slot} (hl : lv_has ls 2 [(0, .ref (z_a E 19 0)), (1, .int x1)]) : W p l e rX6_note s m args below meth c H locs 0 0 (MQ below (va_Qv (fun X' => ∃ h', X' = z_up X 19 h' ∧ K h') (fun u t => z_P E u t.heap) (z_A E)) args s 0 0 (z_A E)) (F0 m 51 ls []) := by
  obtain ⟨hx, hb, hml, hr, hlocks, hown, hts, hK, hE⟩ := id C
  have hfX6 : ∀ w ∈ u_ws RX6 TX6 15, w ∈ wsX6_note := by decide +kernel
  unfold v_X6_note_b51_s at hw
  refine lv_iload_n hx hb dX6_note_51 rfl (lv_at hl 1 rfl) ?_
  refine lv_bipush (v := (42 : Int32)) hx hb dX6_note_52 (by decide) ?_
  refine lv_icmp_ge (tgt := 83) hx hb dX6_note_54 (by decide) (fun c2 => ?_) (fun c2 => ?_)
  · replace hw := hw.1 c2
    refine lv_aload_n hx hb dX6_note_83 rfl (lv_at hl 0 rfl) ?_
    refine lv_dup hx hb dX6_note_84 rfl ?_
    refine z_geti (C := RX6) (T := TX6) (N := 15) (ref := "GauntletHallModel") (o := 19) (d := 0) hx hb hts hfX6 hown hK hP (hM (19, 0) (List.mem_of_getElem? (i := 0) rfl)) z_l_19_0 rfl 8 (by decide) (hts (.fieldLink RX6 96 "GauntletHallModel" "undoMany" "I") (by decide +kernel)) rfl rfl (z_up_val X 19 h 0 8) dX6_note_85 ?_
    refine lv_iconst (v := (1 : Int32)) hx hb dX6_note_88 (by decide) ?_
    refine lv_iadd hx hb dX6_note_89 ?_
    obtain ⟨h3, eh3⟩ : ∃ z : z_G, z = z_ss h 0 8 ((h 0 8) + (1 : Int32)) := ⟨_, rfl⟩
    replace hw := hw h3 eh3
    refine z_puti (C := RX6) (T := TX6) (N := 15) (ref := "GauntletHallModel") (o := 19) (d := 0) (X' := z_up X 19 h3) hx hb hts hfX6 tyX6 tyX6_ok nmX6 hown hK hE hP hS (hM (19, 0) (List.mem_of_getElem? (i := 0) rfl)) z_l_19_0 rfl 8 (by decide) (hts (.fieldLink RX6 96 "GauntletHallModel" "undoMany" "I") (by decide +kernel)) rfl rfl (by decide +kernel) rfl (by rw [eh3]; exact z_up_put X 19 h 0 8 _) dX6_note_90 (fun H locs hP hS => ?_)
    exact z_retv C hP hS ⟨_, rfl, hw⟩ dX6_note_93
  · replace hw := hw.2 c2
    refine lv_aload_n hx hb dX6_note_57 rfl (lv_at hl 0 rfl) ?_
    refine z_getr (C := RX6) (T := TX6) (N := 15) (ref := "GauntletHallModel") (o := 19) (d := 0) hx hb hts hfX6 hown hK hP (hM (19, 0) (List.mem_of_getElem? (i := 0) rfl)) z_l_19_0 rfl 7 (by decide) (hts (.fieldLink RX6 28 "GauntletHallModel" "before" "[I") (by decide +kernel)) rfl rfl dX6_note_58 ?_
    refine lv_bipush (v := (42 : Int32)) hx hb dX6_note_61 (by decide) ?_
    refine lv_aload_n hx hb dX6_note_63 rfl (lv_at hl 0 rfl) ?_
    refine z_geti (C := RX6) (T := TX6) (N := 15) (ref := "GauntletHallModel") (o := 19) (d := 0) hx hb hts hfX6 hown hK hP (hM (19, 0) (List.mem_of_getElem? (i := 0) rfl)) z_l_19_0 rfl 8 (by decide) (hts (.fieldLink RX6 96 "GauntletHallModel" "undoMany" "I") (by decide +kernel)) rfl rfl (z_up_val X 19 h 0 8) dX6_note_64 ?_
    refine lv_imul hx hb dX6_note_67 ?_
    refine lv_iload_n hx hb dX6_note_68 rfl (lv_at hl 1 rfl) ?_
    refine lv_iadd hx hb dX6_note_69 ?_
    refine lv_aload_n hx hb dX6_note_70 rfl (lv_at hl 0 rfl) ?_
    refine z_getr (C := RX6) (T := TX6) (N := 15) (ref := "GauntletHallModel") (o := 19) (d := 0) hx hb hts hfX6 hown hK hP (hM (19, 0) (List.mem_of_getElem? (i := 0) rfl)) z_l_19_0 rfl 5 (by decide) (hts (.fieldLink RX6 22 "GauntletHallModel" "now" "[I") (by decide +kernel)) rfl rfl dX6_note_71 ?_
    refine lv_iload_n hx hb dX6_note_74 rfl (lv_at hl 1 rfl) ?_
    obtain ⟨i4, hw⟩ := hw
    refine z_iald (o := 19) (d := 5) hx hb hK hP (hM (19, 5) (List.mem_of_getElem? (i := 5) rfl)) z_l_19_5 i4 (z_up_val X 19 h 5 (z_n x1)) dX6_note_75 ?_
    obtain ⟨i5, hw⟩ := hw
    obtain ⟨h6, eh6⟩ : ∃ z : z_G, z = z_ss h 7 (z_n (((42 : Int32) * (h 0 8)) + x1)) (h 5 (z_n x1)) := ⟨_, rfl⟩
    replace hw := hw h6 eh6
    refine z_iast (o := 19) (d := 7) (X' := z_up X 19 h6) hx hb hK hE hP hS (hM (19, 7) (List.mem_of_getElem? (i := 7) rfl)) z_l_19_7 i5 (by rw [eh6]; exact z_up_put X 19 h 7 (z_n (((42 : Int32) * (h 0 8)) + x1)) _) dX6_note_76 (fun H locs hP hS => ?_)
    obtain ⟨y7, ey7⟩ : ∃ z : Int32, z = x1 + (1 : Int32) := ⟨_, rfl⟩
    replace hw := hw y7 ey7
    refine lv_iinc (v := y7) (lv' := [(1, .int y7), (0, .ref (z_a E 19 0))]) hx hb dX6_note_77 hl (k := 1) rfl (by rw [ey7]; rfl) (by decide) rfl (fun ls hl => ?_)
    refine lv_goto (tgt := 51) hx hb dX6_note_80 (by decide) ?_
    exact k51 h6 y7 hw hP hS _ (lv_sub hl [1, 0] rfl)
theorem m_X6_note_b51 {p : Program} {l : Launch} {e : Env} {s : State} {m : MethodId} {args : Array Value} {below : List Frame} {meth : Method} {c : Code} {E : z_E} (C : z_Cx p E s m args meth c cX6_note 2 wsX6_note RX6 none) (hM : z_mod E) (X : z_X) (K : z_G → Prop) (h : z_G) (x1 : Int32) (hw : v_X6_note_b51 K h x1) {H : Heap} {locs : List Loc} (hP : z_P E (z_up X 19 h) H) (hS : va_S (z_A E) s.heap H locs) {ls : Array Slot} (hl : lv_has ls 2 [(0, .ref (z_a E 19 0)), (1, .int x1)]) : W p l e rX6_note s m args below meth c H locs 0 0 (MQ below (va_Qv (fun X' => ∃ h', X' = z_up X 19 h' ∧ K h') (fun u t => z_P E u t.heap) (z_A E)) args s 0 0 (z_A E)) (F0 m 51 ls []) := by
  obtain ⟨n, hw⟩ := hw
  revert hw hP hS hl
  revert h x1 H locs ls
  induction n with
  | zero => intro h x1 H locs ls hP hS hl hw; exact hw.elim
  | succ n ih =>
    intro h x1 H locs ls hP hS hl hw
    exact m_X6_note_b51_s C hM X K (fun h x1 => z_fp (σ := z_G × Int32) (fun Lp q => v_X6_note_b51_s K (fun h x1 => Lp (h, x1)) q.1 q.2) n (h, x1)) (fun h x1 h9 H locs hP hS ls hl => ih h x1 hP hS hl h9) h x1 hw hP hS hl
set_option maxHeartbeats 4000000 in
set_option maxRecDepth 100000 in
theorem m_X6_note_b11_s {p : Program} {l : Launch} {e : Env} {s : State} {m : MethodId} {args : Array Value} {below : List Frame} {meth : Method} {c : Code} {E : z_E} (C : z_Cx p E s m args meth c cX6_note 2 wsX6_note RX6 none) (hM : z_mod E) (X : z_X) (K : z_G → Prop) (L11 : z_G → Int32 → Prop) (k11 : ∀ (h : z_G) (x1 : Int32), L11 h x1 → ∀ {H : Heap} {locs : List Loc}, z_P E (z_up X 19 h) H → va_S (z_A E) s.heap H locs → ∀ (ls : Array Slot), lv_has ls 2 [(0, .ref (z_a E 19 0)), (1, .int x1)] → W p l e rX6_note s m args below meth c H locs 0 0 (MQ below (va_Qv (fun X' => ∃ h', X' = z_up X 19 h' ∧ K h') (fun u t => z_P E u t.heap) (z_A E)) args s 0 0 (z_A E)) (F0 m 11 ls [])) (h : z_G) (x1 : Int32) (hw : v_X6_note_b11_s K L11 h x1) {H : Heap} {locs : List Loc} (hP : z_P E (z_up X 19 h) H) (hS : va_S (z_A E) s.heap H locs) {ls : Array Slot} (hl : lv_has ls 2 [(0, .ref (z_a E 19 0)), (1, .int x1)]) : W p l e rX6_note s m args below meth c H locs 0 0 (MQ below (va_Qv (fun X' => ∃ h', X' = z_up X 19 h' ∧ K h') (fun u t => z_P E u t.heap) (z_A E)) args s 0 0 (z_A E)) (F0 m 11 ls []) := by
  obtain ⟨hx, hb, hml, hr, hlocks, hown, hts, hK, hE⟩ := id C
  have hfX6 : ∀ w ∈ u_ws RX6 TX6 15, w ∈ wsX6_note := by decide +kernel
  unfold v_X6_note_b11_s at hw
  refine lv_iload_n hx hb dX6_note_11 rfl (lv_at hl 1 rfl) ?_
  refine lv_sipush (v := (294 : Int32)) hx hb dX6_note_12 (by decide) ?_
  refine lv_icmp_ge (tgt := 39) hx hb dX6_note_15 (by decide) (fun c8 => ?_) (fun c8 => ?_)
  · replace hw := hw.1 c8
    refine lv_aload_n hx hb dX6_note_39 rfl (lv_at hl 0 rfl) ?_
    refine lv_dup hx hb dX6_note_40 rfl ?_
    refine z_geti (C := RX6) (T := TX6) (N := 15) (ref := "GauntletHallModel") (o := 19) (d := 0) hx hb hts hfX6 hown hK hP (hM (19, 0) (List.mem_of_getElem? (i := 0) rfl)) z_l_19_0 rfl 8 (by decide) (hts (.fieldLink RX6 96 "GauntletHallModel" "undoMany" "I") (by decide +kernel)) rfl rfl (z_up_val X 19 h 0 8) dX6_note_41 ?_
    refine lv_iconst (v := (1 : Int32)) hx hb dX6_note_44 (by decide) ?_
    refine lv_isub hx hb dX6_note_45 ?_
    obtain ⟨h9, eh9⟩ : ∃ z : z_G, z = z_ss h 0 8 ((h 0 8) - (1 : Int32)) := ⟨_, rfl⟩
    replace hw := hw h9 eh9
    refine z_puti (C := RX6) (T := TX6) (N := 15) (ref := "GauntletHallModel") (o := 19) (d := 0) (X' := z_up X 19 h9) hx hb hts hfX6 tyX6 tyX6_ok nmX6 hown hK hE hP hS (hM (19, 0) (List.mem_of_getElem? (i := 0) rfl)) z_l_19_0 rfl 8 (by decide) (hts (.fieldLink RX6 96 "GauntletHallModel" "undoMany" "I") (by decide +kernel)) rfl rfl (by decide +kernel) rfl (by rw [eh9]; exact z_up_put X 19 h 0 8 _) dX6_note_46 (fun H locs hP hS => ?_)
    refine lv_iconst (v := (0 : Int32)) hx hb dX6_note_49 (by decide) ?_
    refine lv_istore_n (lv' := [(1, .int (0 : Int32)), (0, .ref (z_a E 19 0))]) hx hb dX6_note_50 rfl hl (by decide) rfl (fun ls hl => ?_)
    exact m_X6_note_b51 C hM X K h9 (0 : Int32) hw hP hS (lv_sub hl [1, 0] rfl)
  · replace hw := hw.2 c8
    refine lv_aload_n hx hb dX6_note_18 rfl (lv_at hl 0 rfl) ?_
    refine z_getr (C := RX6) (T := TX6) (N := 15) (ref := "GauntletHallModel") (o := 19) (d := 0) hx hb hts hfX6 hown hK hP (hM (19, 0) (List.mem_of_getElem? (i := 0) rfl)) z_l_19_0 rfl 7 (by decide) (hts (.fieldLink RX6 28 "GauntletHallModel" "before" "[I") (by decide +kernel)) rfl rfl dX6_note_19 ?_
    refine lv_iload_n hx hb dX6_note_22 rfl (lv_at hl 1 rfl) ?_
    refine lv_aload_n hx hb dX6_note_23 rfl (lv_at hl 0 rfl) ?_
    refine z_getr (C := RX6) (T := TX6) (N := 15) (ref := "GauntletHallModel") (o := 19) (d := 0) hx hb hts hfX6 hown hK hP (hM (19, 0) (List.mem_of_getElem? (i := 0) rfl)) z_l_19_0 rfl 7 (by decide) (hts (.fieldLink RX6 28 "GauntletHallModel" "before" "[I") (by decide +kernel)) rfl rfl dX6_note_24 ?_
    refine lv_bipush (v := (42 : Int32)) hx hb dX6_note_27 (by decide) ?_
    refine lv_iload_n hx hb dX6_note_29 rfl (lv_at hl 1 rfl) ?_
    refine lv_iadd hx hb dX6_note_30 ?_
    obtain ⟨i10, hw⟩ := hw
    refine z_iald (o := 19) (d := 7) hx hb hK hP (hM (19, 7) (List.mem_of_getElem? (i := 7) rfl)) z_l_19_7 i10 (z_up_val X 19 h 7 (z_n ((42 : Int32) + x1))) dX6_note_31 ?_
    obtain ⟨i11, hw⟩ := hw
    obtain ⟨h12, eh12⟩ : ∃ z : z_G, z = z_ss h 7 (z_n x1) (h 7 (z_n ((42 : Int32) + x1))) := ⟨_, rfl⟩
    replace hw := hw h12 eh12
    refine z_iast (o := 19) (d := 7) (X' := z_up X 19 h12) hx hb hK hE hP hS (hM (19, 7) (List.mem_of_getElem? (i := 7) rfl)) z_l_19_7 i11 (by rw [eh12]; exact z_up_put X 19 h 7 (z_n x1) _) dX6_note_32 (fun H locs hP hS => ?_)
    obtain ⟨y13, ey13⟩ : ∃ z : Int32, z = x1 + (1 : Int32) := ⟨_, rfl⟩
    replace hw := hw y13 ey13
    refine lv_iinc (v := y13) (lv' := [(1, .int y13), (0, .ref (z_a E 19 0))]) hx hb dX6_note_33 hl (k := 1) rfl (by rw [ey13]; rfl) (by decide) rfl (fun ls hl => ?_)
    refine lv_goto (tgt := 11) hx hb dX6_note_36 (by decide) ?_
    exact k11 h12 y13 hw hP hS _ (lv_sub hl [1, 0] rfl)
theorem m_X6_note_b11 {p : Program} {l : Launch} {e : Env} {s : State} {m : MethodId} {args : Array Value} {below : List Frame} {meth : Method} {c : Code} {E : z_E} (C : z_Cx p E s m args meth c cX6_note 2 wsX6_note RX6 none) (hM : z_mod E) (X : z_X) (K : z_G → Prop) (h : z_G) (x1 : Int32) (hw : v_X6_note_b11 K h x1) {H : Heap} {locs : List Loc} (hP : z_P E (z_up X 19 h) H) (hS : va_S (z_A E) s.heap H locs) {ls : Array Slot} (hl : lv_has ls 2 [(0, .ref (z_a E 19 0)), (1, .int x1)]) : W p l e rX6_note s m args below meth c H locs 0 0 (MQ below (va_Qv (fun X' => ∃ h', X' = z_up X 19 h' ∧ K h') (fun u t => z_P E u t.heap) (z_A E)) args s 0 0 (z_A E)) (F0 m 11 ls []) := by
  obtain ⟨n, hw⟩ := hw
  revert hw hP hS hl
  revert h x1 H locs ls
  induction n with
  | zero => intro h x1 H locs ls hP hS hl hw; exact hw.elim
  | succ n ih =>
    intro h x1 H locs ls hP hS hl hw
    exact m_X6_note_b11_s C hM X K (fun h x1 => z_fp (σ := z_G × Int32) (fun Lp q => v_X6_note_b11_s K (fun h x1 => Lp (h, x1)) q.1 q.2) n (h, x1)) (fun h x1 h9 H locs hP hS ls hl => ih h x1 hP hS hl h9) h x1 hw hP hS hl
set_option maxHeartbeats 4000000 in
set_option maxRecDepth 100000 in
theorem m_X6_note (l : Launch) {E : z_E} (hE : z_ok E) (hM : z_mod E) (X : z_X) (h : z_G) (K : z_G → Prop) (hw : v_X6_note h K) : z_CV l E yX6_note wsX6_note rX6_note [.ref (z_a E 19 0)] (z_up X 19 h) (fun X' => ∃ h', X' = z_up X 19 h' ∧ K h') := by
  refine z_start (cc := cX6_note) (maxL := 2) (ret := none) hE (by decide) rfl (Nat.le_of_ble_eq_true rfl) ?_
  intro p e s m below meth c C hP hS ls hl
  have C : z_Cx p E s m _ meth c cX6_note 2 wsX6_note RX6 none := C
  obtain ⟨hx, hb, hml, hr, hlocks, hown, hts, hK, hE⟩ := id C
  have hl : lv_has ls 2 [(0, .ref (z_a E 19 0))] := hl
  have hfX6 : ∀ w ∈ u_ws RX6 TX6 15, w ∈ wsX6_note := by decide +kernel
  unfold v_X6_note at hw
  refine lv_aload_n hx hb dX6_note_0 rfl (lv_at hl 0 rfl) ?_
  refine z_geti (C := RX6) (T := TX6) (N := 15) (ref := "GauntletHallModel") (o := 19) (d := 0) hx hb hts hfX6 hown hK hP (hM (19, 0) (List.mem_of_getElem? (i := 0) rfl)) z_l_19_0 rfl 8 (by decide) (hts (.fieldLink RX6 96 "GauntletHallModel" "undoMany" "I") (by decide +kernel)) rfl rfl (z_up_val X 19 h 0 8) dX6_note_1 ?_
  refine lv_bipush (v := (8 : Int32)) hx hb dX6_note_4 (by decide) ?_
  refine lv_icmp_ne (tgt := 49) hx hb dX6_note_6 (by decide) (fun c1 => ?_) (fun c1 => ?_)
  · replace hw := hw.1 c1
    refine lv_iconst (v := (0 : Int32)) hx hb dX6_note_49 (by decide) ?_
    refine lv_istore_n (lv' := [(1, .int (0 : Int32)), (0, .ref (z_a E 19 0))]) hx hb dX6_note_50 rfl hl (by decide) rfl (fun ls hl => ?_)
    exact m_X6_note_b51 C hM X K h (0 : Int32) hw hP hS (lv_sub hl [1, 0] rfl)
  · replace hw := hw.2 c1
    refine lv_iconst (v := (0 : Int32)) hx hb dX6_note_9 (by decide) ?_
    refine lv_istore_n (lv' := [(1, .int (0 : Int32)), (0, .ref (z_a E 19 0))]) hx hb dX6_note_10 rfl hl (by decide) rfl (fun ls hl => ?_)
    exact m_X6_note_b11 C hM X K h (0 : Int32) hw hP hS (lv_sub hl [1, 0] rfl)
