/-! ===== PRINTED (wip/whole/gen/gen.py): the machine meets each definition: X6.back, X6.begin, X6.in, X6.isPerson, X6.has, X6.isLike, X6.isFit, X6.lowestFit, X6.left, X6.goWear ===== -/
set_option maxHeartbeats 4000000 in
set_option maxRecDepth 100000 in
theorem m_X6_back_b22_s {p : Program} {l : Launch} {e : Env} {s : State} {m : MethodId} {args : Array Value} {below : List Frame} {meth : Method} {c : Code} {E : z_E} (C : z_Cx p E s m args meth c cX6_back 2 wsX6_back RX6 (some .int)) (hM : z_mod E) (X : z_X) (K : Int32 → z_G → Prop) (L22 : z_G → Int32 → Prop) (k22 : ∀ (h : z_G) (x1 : Int32), L22 h x1 → ∀ {H : Heap} {locs : List Loc}, z_P E (z_up X 19 h) H → va_S (z_A E) s.heap H locs → ∀ (ls : Array Slot), lv_has ls 2 [(0, .ref (z_a E 19 0)), (1, .int x1)] → W p l e rX6_back s m args below meth c H locs 0 0 (MQ below (va_Qi (fun r X' => ∃ h', X' = z_up X 19 h' ∧ K r h') (fun u t => z_P E u t.heap) (z_A E)) args s 0 0 (z_A E)) (F0 m 22 ls [])) (h : z_G) (x1 : Int32) (hw : v_X6_back_b22_s K L22 h x1) {H : Heap} {locs : List Loc} (hP : z_P E (z_up X 19 h) H) (hS : va_S (z_A E) s.heap H locs) {ls : Array Slot} (hl : lv_has ls 2 [(0, .ref (z_a E 19 0)), (1, .int x1)]) : W p l e rX6_back s m args below meth c H locs 0 0 (MQ below (va_Qi (fun r X' => ∃ h', X' = z_up X 19 h' ∧ K r h') (fun u t => z_P E u t.heap) (z_A E)) args s 0 0 (z_A E)) (F0 m 22 ls []) := by
  obtain ⟨hx, hb, hml, hr, hlocks, hown, hts, hK, hE⟩ := id C
  have hfX6 : ∀ w ∈ u_ws RX6 TX6 15, w ∈ wsX6_back := by decide +kernel
  unfold v_X6_back_b22_s at hw
  refine lv_iload_n hx hb dX6_back_22 rfl (lv_at hl 1 rfl) ?_
  refine lv_bipush (v := (42 : Int32)) hx hb dX6_back_23 (by decide) ?_
  refine lv_icmp_ge (tgt := 54) hx hb dX6_back_25 (by decide) (fun c3 => ?_) (fun c3 => ?_)
  · replace hw := hw.1 c3
    refine lv_aload_n hx hb dX6_back_54 rfl (lv_at hl 0 rfl) ?_
    refine lv_iconst (v := (0 : Int32)) hx hb dX6_back_55 (by decide) ?_
    obtain ⟨h4, eh4⟩ : ∃ z : z_G, z = z_ss h 0 8 (0 : Int32) := ⟨_, rfl⟩
    replace hw := hw h4 eh4
    refine z_puti (C := RX6) (T := TX6) (N := 15) (ref := "GauntletHallModel") (o := 19) (d := 0) (X' := z_up X 19 h4) hx hb hts hfX6 tyX6 tyX6_ok nmX6 hown hK hE hP hS (hM (19, 0) (List.mem_of_getElem? (i := 0) rfl)) z_l_19_0 rfl 8 (by decide) (hts (.fieldLink RX6 96 "GauntletHallModel" "undoMany" "I") (by decide +kernel)) rfl rfl (by decide +kernel) rfl (by rw [eh4]; exact z_up_put X 19 h 0 8 _) dX6_back_56 (fun H locs hP hS => ?_)
    refine lv_aload_n hx hb dX6_back_59 rfl (lv_at hl 0 rfl) ?_
    refine z_geti (C := RX6) (T := TX6) (N := 15) (ref := "GauntletHallModel") (o := 19) (d := 0) hx hb hts hfX6 hown hK hP (hM (19, 0) (List.mem_of_getElem? (i := 0) rfl)) z_l_19_0 rfl 10 (by decide) (hts (.fieldLink RX6 99 "GauntletHallModel" "keptMany" "I") (by decide +kernel)) rfl rfl (z_up_val X 19 h4 0 10) dX6_back_60 ?_
    exact z_reti C hP hS ⟨_, rfl, hw⟩ dX6_back_63
  · replace hw := hw.2 c3
    refine lv_aload_n hx hb dX6_back_28 rfl (lv_at hl 0 rfl) ?_
    refine z_getr (C := RX6) (T := TX6) (N := 15) (ref := "GauntletHallModel") (o := 19) (d := 0) hx hb hts hfX6 hown hK hP (hM (19, 0) (List.mem_of_getElem? (i := 0) rfl)) z_l_19_0 rfl 5 (by decide) (hts (.fieldLink RX6 22 "GauntletHallModel" "now" "[I") (by decide +kernel)) rfl rfl dX6_back_29 ?_
    refine lv_iload_n hx hb dX6_back_32 rfl (lv_at hl 1 rfl) ?_
    refine lv_aload_n hx hb dX6_back_33 rfl (lv_at hl 0 rfl) ?_
    refine z_getr (C := RX6) (T := TX6) (N := 15) (ref := "GauntletHallModel") (o := 19) (d := 0) hx hb hts hfX6 hown hK hP (hM (19, 0) (List.mem_of_getElem? (i := 0) rfl)) z_l_19_0 rfl 9 (by decide) (hts (.fieldLink RX6 31 "GauntletHallModel" "kept" "[I") (by decide +kernel)) rfl rfl dX6_back_34 ?_
    refine lv_bipush (v := (42 : Int32)) hx hb dX6_back_37 (by decide) ?_
    refine lv_aload_n hx hb dX6_back_39 rfl (lv_at hl 0 rfl) ?_
    refine z_geti (C := RX6) (T := TX6) (N := 15) (ref := "GauntletHallModel") (o := 19) (d := 0) hx hb hts hfX6 hown hK hP (hM (19, 0) (List.mem_of_getElem? (i := 0) rfl)) z_l_19_0 rfl 10 (by decide) (hts (.fieldLink RX6 99 "GauntletHallModel" "keptMany" "I") (by decide +kernel)) rfl rfl (z_up_val X 19 h 0 10) dX6_back_40 ?_
    refine lv_imul hx hb dX6_back_43 ?_
    refine lv_iload_n hx hb dX6_back_44 rfl (lv_at hl 1 rfl) ?_
    refine lv_iadd hx hb dX6_back_45 ?_
    obtain ⟨i5, hw⟩ := hw
    refine z_iald (o := 19) (d := 9) hx hb hK hP (hM (19, 9) (List.mem_of_getElem? (i := 8) rfl)) z_l_19_9 i5 (z_up_val X 19 h 9 (z_n (((42 : Int32) * (h 0 10)) + x1))) dX6_back_46 ?_
    obtain ⟨i6, hw⟩ := hw
    obtain ⟨h7, eh7⟩ : ∃ z : z_G, z = z_ss h 5 (z_n x1) (h 9 (z_n (((42 : Int32) * (h 0 10)) + x1))) := ⟨_, rfl⟩
    replace hw := hw h7 eh7
    refine z_iast (o := 19) (d := 5) (X' := z_up X 19 h7) hx hb hK hE hP hS (hM (19, 5) (List.mem_of_getElem? (i := 5) rfl)) z_l_19_5 i6 (by rw [eh7]; exact z_up_put X 19 h 5 (z_n x1) _) dX6_back_47 (fun H locs hP hS => ?_)
    obtain ⟨y8, ey8⟩ : ∃ z : Int32, z = x1 + (1 : Int32) := ⟨_, rfl⟩
    replace hw := hw y8 ey8
    refine lv_iinc (v := y8) (lv' := [(1, .int y8), (0, .ref (z_a E 19 0))]) hx hb dX6_back_48 hl (k := 1) rfl (by rw [ey8]; rfl) (by decide) rfl (fun ls hl => ?_)
    refine lv_goto (tgt := 22) hx hb dX6_back_51 (by decide) ?_
    exact k22 h7 y8 hw hP hS _ (lv_sub hl [1, 0] rfl)
theorem m_X6_back_b22 {p : Program} {l : Launch} {e : Env} {s : State} {m : MethodId} {args : Array Value} {below : List Frame} {meth : Method} {c : Code} {E : z_E} (C : z_Cx p E s m args meth c cX6_back 2 wsX6_back RX6 (some .int)) (hM : z_mod E) (X : z_X) (K : Int32 → z_G → Prop) (h : z_G) (x1 : Int32) (hw : v_X6_back_b22 K h x1) {H : Heap} {locs : List Loc} (hP : z_P E (z_up X 19 h) H) (hS : va_S (z_A E) s.heap H locs) {ls : Array Slot} (hl : lv_has ls 2 [(0, .ref (z_a E 19 0)), (1, .int x1)]) : W p l e rX6_back s m args below meth c H locs 0 0 (MQ below (va_Qi (fun r X' => ∃ h', X' = z_up X 19 h' ∧ K r h') (fun u t => z_P E u t.heap) (z_A E)) args s 0 0 (z_A E)) (F0 m 22 ls []) := by
  obtain ⟨n, hw⟩ := hw
  revert hw hP hS hl
  revert h x1 H locs ls
  induction n with
  | zero => intro h x1 H locs ls hP hS hl hw; exact hw.elim
  | succ n ih =>
    intro h x1 H locs ls hP hS hl hw
    exact m_X6_back_b22_s C hM X K (fun h x1 => z_fp (σ := z_G × Int32) (fun Lp q => v_X6_back_b22_s K (fun h x1 => Lp (h, x1)) q.1 q.2) n (h, x1)) (fun h x1 h9 H locs hP hS ls hl => ih h x1 hP hS hl h9) h x1 hw hP hS hl
set_option maxHeartbeats 4000000 in
set_option maxRecDepth 100000 in
theorem m_X6_back (l : Launch) {E : z_E} (hE : z_ok E) (hM : z_mod E) (X : z_X) (h : z_G) (K : Int32 → z_G → Prop) (hw : v_X6_back h K) : z_CI l E yX6_back wsX6_back rX6_back [.ref (z_a E 19 0)] (z_up X 19 h) (fun r X' => ∃ h', X' = z_up X 19 h' ∧ K r h') := by
  refine z_start (cc := cX6_back) (maxL := 2) (ret := (some .int)) hE (by decide) rfl (Nat.le_of_ble_eq_true rfl) ?_
  intro p e s m below meth c C hP hS ls hl
  have C : z_Cx p E s m _ meth c cX6_back 2 wsX6_back RX6 (some .int) := C
  obtain ⟨hx, hb, hml, hr, hlocks, hown, hts, hK, hE⟩ := id C
  have hl : lv_has ls 2 [(0, .ref (z_a E 19 0))] := hl
  have hfX6 : ∀ w ∈ u_ws RX6 TX6 15, w ∈ wsX6_back := by decide +kernel
  unfold v_X6_back at hw
  refine lv_aload_n hx hb dX6_back_0 rfl (lv_at hl 0 rfl) ?_
  refine z_geti (C := RX6) (T := TX6) (N := 15) (ref := "GauntletHallModel") (o := 19) (d := 0) hx hb hts hfX6 hown hK hP (hM (19, 0) (List.mem_of_getElem? (i := 0) rfl)) z_l_19_0 rfl 10 (by decide) (hts (.fieldLink RX6 99 "GauntletHallModel" "keptMany" "I") (by decide +kernel)) rfl rfl (z_up_val X 19 h 0 10) dX6_back_1 ?_
  refine lv_if_ne (tgt := 10) hx hb dX6_back_4 (by decide) (fun c1 => ?_) (fun c1 => ?_)
  · replace hw := hw.1 c1
    refine lv_aload_n hx hb dX6_back_10 rfl (lv_at hl 0 rfl) ?_
    refine lv_dup hx hb dX6_back_11 rfl ?_
    refine z_geti (C := RX6) (T := TX6) (N := 15) (ref := "GauntletHallModel") (o := 19) (d := 0) hx hb hts hfX6 hown hK hP (hM (19, 0) (List.mem_of_getElem? (i := 0) rfl)) z_l_19_0 rfl 10 (by decide) (hts (.fieldLink RX6 99 "GauntletHallModel" "keptMany" "I") (by decide +kernel)) rfl rfl (z_up_val X 19 h 0 10) dX6_back_12 ?_
    refine lv_iconst (v := (1 : Int32)) hx hb dX6_back_15 (by decide) ?_
    refine lv_isub hx hb dX6_back_16 ?_
    obtain ⟨h2, eh2⟩ : ∃ z : z_G, z = z_ss h 0 10 ((h 0 10) - (1 : Int32)) := ⟨_, rfl⟩
    replace hw := hw h2 eh2
    refine z_puti (C := RX6) (T := TX6) (N := 15) (ref := "GauntletHallModel") (o := 19) (d := 0) (X' := z_up X 19 h2) hx hb hts hfX6 tyX6 tyX6_ok nmX6 hown hK hE hP hS (hM (19, 0) (List.mem_of_getElem? (i := 0) rfl)) z_l_19_0 rfl 10 (by decide) (hts (.fieldLink RX6 99 "GauntletHallModel" "keptMany" "I") (by decide +kernel)) rfl rfl (by decide +kernel) rfl (by rw [eh2]; exact z_up_put X 19 h 0 10 _) dX6_back_17 (fun H locs hP hS => ?_)
    refine lv_iconst (v := (0 : Int32)) hx hb dX6_back_20 (by decide) ?_
    refine lv_istore_n (lv' := [(1, .int (0 : Int32)), (0, .ref (z_a E 19 0))]) hx hb dX6_back_21 rfl hl (by decide) rfl (fun ls hl => ?_)
    exact m_X6_back_b22 C hM X K h2 (0 : Int32) hw hP hS (lv_sub hl [1, 0] rfl)
  · replace hw := hw.2 c1
    refine lv_bipush (v := (-2 : Int32)) hx hb dX6_back_7 (by decide) ?_
    exact z_reti C hP hS ⟨_, rfl, hw⟩ dX6_back_9
set_option maxHeartbeats 4000000 in
set_option maxRecDepth 100000 in
theorem m_X6_begin_b28_s {p : Program} {l : Launch} {e : Env} {s : State} {m : MethodId} {args : Array Value} {below : List Frame} {meth : Method} {c : Code} {E : z_E} (C : z_Cx p E s m args meth c cX6_begin 2 wsX6_begin RX6 none) (hM : z_mod E) (X : z_X) (K : z_G → Prop) (L28 : z_G → Int32 → Prop) (k28 : ∀ (h : z_G) (x1 : Int32), L28 h x1 → ∀ {H : Heap} {locs : List Loc}, z_P E (z_up X 19 h) H → va_S (z_A E) s.heap H locs → ∀ (ls : Array Slot), lv_has ls 2 [(0, .ref (z_a E 19 0)), (1, .int x1)] → W p l e rX6_begin s m args below meth c H locs 0 0 (MQ below (va_Qv (fun X' => ∃ h', X' = z_up X 19 h' ∧ K h') (fun u t => z_P E u t.heap) (z_A E)) args s 0 0 (z_A E)) (F0 m 28 ls [])) (h : z_G) (x1 : Int32) (hw : v_X6_begin_b28_s K L28 h x1) {H : Heap} {locs : List Loc} (hP : z_P E (z_up X 19 h) H) (hS : va_S (z_A E) s.heap H locs) {ls : Array Slot} (hl : lv_has ls 2 [(0, .ref (z_a E 19 0)), (1, .int x1)]) : W p l e rX6_begin s m args below meth c H locs 0 0 (MQ below (va_Qv (fun X' => ∃ h', X' = z_up X 19 h' ∧ K h') (fun u t => z_P E u t.heap) (z_A E)) args s 0 0 (z_A E)) (F0 m 28 ls []) := by
  obtain ⟨hx, hb, hml, hr, hlocks, hown, hts, hK, hE⟩ := id C
  have hfX6 : ∀ w ∈ u_ws RX6 TX6 15, w ∈ wsX6_begin := by decide +kernel
  unfold v_X6_begin_b28_s at hw
  refine lv_iload_n hx hb dX6_begin_28 rfl (lv_at hl 1 rfl) ?_
  refine lv_bipush (v := (42 : Int32)) hx hb dX6_begin_29 (by decide) ?_
  refine lv_icmp_ge (tgt := 52) hx hb dX6_begin_31 (by decide) (fun c2 => ?_) (fun c2 => ?_)
  · replace hw := hw.1 c2
    refine lv_aload_n hx hb dX6_begin_52 rfl (lv_at hl 0 rfl) ?_
    refine lv_iconst (v := (0 : Int32)) hx hb dX6_begin_53 (by decide) ?_
    obtain ⟨h3, eh3⟩ : ∃ z : z_G, z = z_ss h 0 12 (0 : Int32) := ⟨_, rfl⟩
    replace hw := hw h3 eh3
    refine z_puti (C := RX6) (T := TX6) (N := 15) (ref := "GauntletHallModel") (o := 19) (d := 0) (X' := z_up X 19 h3) hx hb hts hfX6 tyX6 tyX6_ok nmX6 hown hK hE hP hS (hM (19, 0) (List.mem_of_getElem? (i := 0) rfl)) z_l_19_0 rfl 12 (by decide) (hts (.fieldLink RX6 93 "GauntletHallModel" "seenMany" "I") (by decide +kernel)) rfl rfl (by decide +kernel) rfl (by rw [eh3]; exact z_up_put X 19 h 0 12 _) dX6_begin_54 (fun H locs hP hS => ?_)
    refine lv_aload_n hx hb dX6_begin_57 rfl (lv_at hl 0 rfl) ?_
    refine lv_iconst (v := (0 : Int32)) hx hb dX6_begin_58 (by decide) ?_
    obtain ⟨h4, eh4⟩ : ∃ z : z_G, z = z_ss h3 0 8 (0 : Int32) := ⟨_, rfl⟩
    replace hw := hw h4 eh4
    refine z_puti (C := RX6) (T := TX6) (N := 15) (ref := "GauntletHallModel") (o := 19) (d := 0) (X' := z_up X 19 h4) hx hb hts hfX6 tyX6 tyX6_ok nmX6 hown hK hE hP hS (hM (19, 0) (List.mem_of_getElem? (i := 0) rfl)) z_l_19_0 rfl 8 (by decide) (hts (.fieldLink RX6 96 "GauntletHallModel" "undoMany" "I") (by decide +kernel)) rfl rfl (by decide +kernel) rfl (by rw [eh4]; exact z_up_put X 19 h3 0 8 _) dX6_begin_59 (fun H locs hP hS => ?_)
    refine lv_aload_n hx hb dX6_begin_62 rfl (lv_at hl 0 rfl) ?_
    refine lv_iconst (v := (0 : Int32)) hx hb dX6_begin_63 (by decide) ?_
    obtain ⟨h5, eh5⟩ : ∃ z : z_G, z = z_ss h4 0 10 (0 : Int32) := ⟨_, rfl⟩
    replace hw := hw h5 eh5
    refine z_puti (C := RX6) (T := TX6) (N := 15) (ref := "GauntletHallModel") (o := 19) (d := 0) (X' := z_up X 19 h5) hx hb hts hfX6 tyX6 tyX6_ok nmX6 hown hK hE hP hS (hM (19, 0) (List.mem_of_getElem? (i := 0) rfl)) z_l_19_0 rfl 10 (by decide) (hts (.fieldLink RX6 99 "GauntletHallModel" "keptMany" "I") (by decide +kernel)) rfl rfl (by decide +kernel) rfl (by rw [eh5]; exact z_up_put X 19 h4 0 10 _) dX6_begin_64 (fun H locs hP hS => ?_)
    exact z_retv C hP hS ⟨_, rfl, hw⟩ dX6_begin_67
  · replace hw := hw.2 c2
    refine lv_aload_n hx hb dX6_begin_34 rfl (lv_at hl 0 rfl) ?_
    refine z_getr (C := RX6) (T := TX6) (N := 15) (ref := "GauntletHallModel") (o := 19) (d := 0) hx hb hts hfX6 hown hK hP (hM (19, 0) (List.mem_of_getElem? (i := 0) rfl)) z_l_19_0 rfl 5 (by decide) (hts (.fieldLink RX6 22 "GauntletHallModel" "now" "[I") (by decide +kernel)) rfl rfl dX6_begin_35 ?_
    refine lv_iload_n hx hb dX6_begin_38 rfl (lv_at hl 1 rfl) ?_
    refine lv_aload_n hx hb dX6_begin_39 rfl (lv_at hl 0 rfl) ?_
    refine z_getr (C := RX6) (T := TX6) (N := 15) (ref := "GauntletHallModel") (o := 19) (d := 0) hx hb hts hfX6 hown hK hP (hM (19, 0) (List.mem_of_getElem? (i := 0) rfl)) z_l_19_0 rfl 4 (by decide) (hts (.fieldLink RX6 19 "GauntletHallModel" "readRow" "[I") (by decide +kernel)) rfl rfl dX6_begin_40 ?_
    refine lv_iload_n hx hb dX6_begin_43 rfl (lv_at hl 1 rfl) ?_
    obtain ⟨i6, hw⟩ := hw
    refine z_iald (o := 19) (d := 4) hx hb hK hP (hM (19, 4) (List.mem_of_getElem? (i := 4) rfl)) z_l_19_4 i6 (z_up_val X 19 h 4 (z_n x1)) dX6_begin_44 ?_
    obtain ⟨i7, hw⟩ := hw
    obtain ⟨h8, eh8⟩ : ∃ z : z_G, z = z_ss h 5 (z_n x1) (h 4 (z_n x1)) := ⟨_, rfl⟩
    replace hw := hw h8 eh8
    refine z_iast (o := 19) (d := 5) (X' := z_up X 19 h8) hx hb hK hE hP hS (hM (19, 5) (List.mem_of_getElem? (i := 5) rfl)) z_l_19_5 i7 (by rw [eh8]; exact z_up_put X 19 h 5 (z_n x1) _) dX6_begin_45 (fun H locs hP hS => ?_)
    obtain ⟨y9, ey9⟩ : ∃ z : Int32, z = x1 + (1 : Int32) := ⟨_, rfl⟩
    replace hw := hw y9 ey9
    refine lv_iinc (v := y9) (lv' := [(1, .int y9), (0, .ref (z_a E 19 0))]) hx hb dX6_begin_46 hl (k := 1) rfl (by rw [ey9]; rfl) (by decide) rfl (fun ls hl => ?_)
    refine lv_goto (tgt := 28) hx hb dX6_begin_49 (by decide) ?_
    exact k28 h8 y9 hw hP hS _ (lv_sub hl [1, 0] rfl)
theorem m_X6_begin_b28 {p : Program} {l : Launch} {e : Env} {s : State} {m : MethodId} {args : Array Value} {below : List Frame} {meth : Method} {c : Code} {E : z_E} (C : z_Cx p E s m args meth c cX6_begin 2 wsX6_begin RX6 none) (hM : z_mod E) (X : z_X) (K : z_G → Prop) (h : z_G) (x1 : Int32) (hw : v_X6_begin_b28 K h x1) {H : Heap} {locs : List Loc} (hP : z_P E (z_up X 19 h) H) (hS : va_S (z_A E) s.heap H locs) {ls : Array Slot} (hl : lv_has ls 2 [(0, .ref (z_a E 19 0)), (1, .int x1)]) : W p l e rX6_begin s m args below meth c H locs 0 0 (MQ below (va_Qv (fun X' => ∃ h', X' = z_up X 19 h' ∧ K h') (fun u t => z_P E u t.heap) (z_A E)) args s 0 0 (z_A E)) (F0 m 28 ls []) := by
  obtain ⟨n, hw⟩ := hw
  revert hw hP hS hl
  revert h x1 H locs ls
  induction n with
  | zero => intro h x1 H locs ls hP hS hl hw; exact hw.elim
  | succ n ih =>
    intro h x1 H locs ls hP hS hl hw
    exact m_X6_begin_b28_s C hM X K (fun h x1 => z_fp (σ := z_G × Int32) (fun Lp q => v_X6_begin_b28_s K (fun h x1 => Lp (h, x1)) q.1 q.2) n (h, x1)) (fun h x1 h9 H locs hP hS ls hl => ih h x1 hP hS hl h9) h x1 hw hP hS hl
set_option maxHeartbeats 4000000 in
set_option maxRecDepth 100000 in
theorem m_X6_begin_b2_s {p : Program} {l : Launch} {e : Env} {s : State} {m : MethodId} {args : Array Value} {below : List Frame} {meth : Method} {c : Code} {E : z_E} (C : z_Cx p E s m args meth c cX6_begin 2 wsX6_begin RX6 none) (hM : z_mod E) (X : z_X) (K : z_G → Prop) (L2 : z_G → Int32 → Prop) (k2 : ∀ (h : z_G) (x1 : Int32), L2 h x1 → ∀ {H : Heap} {locs : List Loc}, z_P E (z_up X 19 h) H → va_S (z_A E) s.heap H locs → ∀ (ls : Array Slot), lv_has ls 2 [(0, .ref (z_a E 19 0)), (1, .int x1)] → W p l e rX6_begin s m args below meth c H locs 0 0 (MQ below (va_Qv (fun X' => ∃ h', X' = z_up X 19 h' ∧ K h') (fun u t => z_P E u t.heap) (z_A E)) args s 0 0 (z_A E)) (F0 m 2 ls [])) (h : z_G) (x1 : Int32) (hw : v_X6_begin_b2_s K L2 h x1) {H : Heap} {locs : List Loc} (hP : z_P E (z_up X 19 h) H) (hS : va_S (z_A E) s.heap H locs) {ls : Array Slot} (hl : lv_has ls 2 [(0, .ref (z_a E 19 0)), (1, .int x1)]) : W p l e rX6_begin s m args below meth c H locs 0 0 (MQ below (va_Qv (fun X' => ∃ h', X' = z_up X 19 h' ∧ K h') (fun u t => z_P E u t.heap) (z_A E)) args s 0 0 (z_A E)) (F0 m 2 ls []) := by
  obtain ⟨hx, hb, hml, hr, hlocks, hown, hts, hK, hE⟩ := id C
  have hfX6 : ∀ w ∈ u_ws RX6 TX6 15, w ∈ wsX6_begin := by decide +kernel
  unfold v_X6_begin_b2_s at hw
  refine lv_iload_n hx hb dX6_begin_2 rfl (lv_at hl 1 rfl) ?_
  refine lv_bipush (v := (13 : Int32)) hx hb dX6_begin_3 (by decide) ?_
  refine lv_icmp_ge (tgt := 26) hx hb dX6_begin_5 (by decide) (fun c1 => ?_) (fun c1 => ?_)
  · replace hw := hw.1 c1
    refine lv_iconst (v := (0 : Int32)) hx hb dX6_begin_26 (by decide) ?_
    refine lv_istore_n (lv' := [(1, .int (0 : Int32)), (0, .ref (z_a E 19 0))]) hx hb dX6_begin_27 rfl hl (by decide) rfl (fun ls hl => ?_)
    exact m_X6_begin_b28 C hM X K h (0 : Int32) hw hP hS (lv_sub hl [1, 0] rfl)
  · replace hw := hw.2 c1
    refine lv_aload_n hx hb dX6_begin_8 rfl (lv_at hl 0 rfl) ?_
    refine z_getr (C := RX6) (T := TX6) (N := 15) (ref := "GauntletHallModel") (o := 19) (d := 0) hx hb hts hfX6 hown hK hP (hM (19, 0) (List.mem_of_getElem? (i := 0) rfl)) z_l_19_0 rfl 2 (by decide) (hts (.fieldLink RX6 13 "GauntletHallModel" "told" "[I") (by decide +kernel)) rfl rfl dX6_begin_9 ?_
    refine lv_iload_n hx hb dX6_begin_12 rfl (lv_at hl 1 rfl) ?_
    refine lv_aload_n hx hb dX6_begin_13 rfl (lv_at hl 0 rfl) ?_
    refine z_getr (C := RX6) (T := TX6) (N := 15) (ref := "GauntletHallModel") (o := 19) (d := 0) hx hb hts hfX6 hown hK hP (hM (19, 0) (List.mem_of_getElem? (i := 0) rfl)) z_l_19_0 rfl 3 (by decide) (hts (.fieldLink RX6 16 "GauntletHallModel" "read" "[I") (by decide +kernel)) rfl rfl dX6_begin_14 ?_
    refine lv_iload_n hx hb dX6_begin_17 rfl (lv_at hl 1 rfl) ?_
    obtain ⟨i10, hw⟩ := hw
    refine z_iald (o := 19) (d := 3) hx hb hK hP (hM (19, 3) (List.mem_of_getElem? (i := 3) rfl)) z_l_19_3 i10 (z_up_val X 19 h 3 (z_n x1)) dX6_begin_18 ?_
    obtain ⟨i11, hw⟩ := hw
    obtain ⟨h12, eh12⟩ : ∃ z : z_G, z = z_ss h 2 (z_n x1) (h 3 (z_n x1)) := ⟨_, rfl⟩
    replace hw := hw h12 eh12
    refine z_iast (o := 19) (d := 2) (X' := z_up X 19 h12) hx hb hK hE hP hS (hM (19, 2) (List.mem_of_getElem? (i := 2) rfl)) z_l_19_2 i11 (by rw [eh12]; exact z_up_put X 19 h 2 (z_n x1) _) dX6_begin_19 (fun H locs hP hS => ?_)
    obtain ⟨y13, ey13⟩ : ∃ z : Int32, z = x1 + (1 : Int32) := ⟨_, rfl⟩
    replace hw := hw y13 ey13
    refine lv_iinc (v := y13) (lv' := [(1, .int y13), (0, .ref (z_a E 19 0))]) hx hb dX6_begin_20 hl (k := 1) rfl (by rw [ey13]; rfl) (by decide) rfl (fun ls hl => ?_)
    refine lv_goto (tgt := 2) hx hb dX6_begin_23 (by decide) ?_
    exact k2 h12 y13 hw hP hS _ (lv_sub hl [1, 0] rfl)
theorem m_X6_begin_b2 {p : Program} {l : Launch} {e : Env} {s : State} {m : MethodId} {args : Array Value} {below : List Frame} {meth : Method} {c : Code} {E : z_E} (C : z_Cx p E s m args meth c cX6_begin 2 wsX6_begin RX6 none) (hM : z_mod E) (X : z_X) (K : z_G → Prop) (h : z_G) (x1 : Int32) (hw : v_X6_begin_b2 K h x1) {H : Heap} {locs : List Loc} (hP : z_P E (z_up X 19 h) H) (hS : va_S (z_A E) s.heap H locs) {ls : Array Slot} (hl : lv_has ls 2 [(0, .ref (z_a E 19 0)), (1, .int x1)]) : W p l e rX6_begin s m args below meth c H locs 0 0 (MQ below (va_Qv (fun X' => ∃ h', X' = z_up X 19 h' ∧ K h') (fun u t => z_P E u t.heap) (z_A E)) args s 0 0 (z_A E)) (F0 m 2 ls []) := by
  obtain ⟨n, hw⟩ := hw
  revert hw hP hS hl
  revert h x1 H locs ls
  induction n with
  | zero => intro h x1 H locs ls hP hS hl hw; exact hw.elim
  | succ n ih =>
    intro h x1 H locs ls hP hS hl hw
    exact m_X6_begin_b2_s C hM X K (fun h x1 => z_fp (σ := z_G × Int32) (fun Lp q => v_X6_begin_b2_s K (fun h x1 => Lp (h, x1)) q.1 q.2) n (h, x1)) (fun h x1 h9 H locs hP hS ls hl => ih h x1 hP hS hl h9) h x1 hw hP hS hl
set_option maxHeartbeats 4000000 in
set_option maxRecDepth 100000 in
theorem m_X6_begin (l : Launch) {E : z_E} (hE : z_ok E) (hM : z_mod E) (X : z_X) (h : z_G) (K : z_G → Prop) (hw : v_X6_begin h K) : z_CV l E yX6_begin wsX6_begin rX6_begin [.ref (z_a E 19 0)] (z_up X 19 h) (fun X' => ∃ h', X' = z_up X 19 h' ∧ K h') := by
  refine z_start (cc := cX6_begin) (maxL := 2) (ret := none) hE (by decide) rfl (Nat.le_of_ble_eq_true rfl) ?_
  intro p e s m below meth c C hP hS ls hl
  have C : z_Cx p E s m _ meth c cX6_begin 2 wsX6_begin RX6 none := C
  obtain ⟨hx, hb, hml, hr, hlocks, hown, hts, hK, hE⟩ := id C
  have hl : lv_has ls 2 [(0, .ref (z_a E 19 0))] := hl
  have hfX6 : ∀ w ∈ u_ws RX6 TX6 15, w ∈ wsX6_begin := by decide +kernel
  unfold v_X6_begin at hw
  refine lv_iconst (v := (0 : Int32)) hx hb dX6_begin_0 (by decide) ?_
  refine lv_istore_n (lv' := [(1, .int (0 : Int32)), (0, .ref (z_a E 19 0))]) hx hb dX6_begin_1 rfl hl (by decide) rfl (fun ls hl => ?_)
  exact m_X6_begin_b2 C hM X K h (0 : Int32) hw hP hS (lv_sub hl [1, 0] rfl)
set_option maxHeartbeats 4000000 in
set_option maxRecDepth 100000 in
theorem m_X6_in (l : Launch) {E : z_E} (hE : z_ok E) (X : z_X) (x0 : Int64) (x2 : Int64) (x4 : Int64) (K : Int32 → Prop) (hw : v_X6_in x0 x2 x4 K) : z_CI l E yX6_in wsX6_in rX6_in [.long x0, .long x2, .long x4] X (fun r X' => X' = X ∧ K r) := by
  refine z_start (cc := cX6_in) (maxL := 6) (ret := (some .boolean)) hE (by decide) rfl (Nat.le_of_ble_eq_true rfl) ?_
  intro p e s m below meth c C hP hS ls hl
  have C : z_Cx p E s m _ meth c cX6_in 6 wsX6_in RX6 (some .boolean) := C
  obtain ⟨hx, hb, hml, hr, hlocks, hown, hts, hK, hE⟩ := id C
  have hl : lv_has ls 6 [(0, .long x0), (2, .long x2), (4, .long x4)] := hl
  unfold v_X6_in at hw
  refine lv_lload_n hx hb dX6_in_0 rfl (lv_at hl 0 rfl) ?_
  refine lv_lload_n hx hb dX6_in_1 rfl (lv_at hl 1 rfl) ?_
  refine W.lcmp hx hb dX6_in_2 ?_
  refine lv_if_lt (tgt := 17) hx hb dX6_in_3 (by decide) (fun c1 => ?_) (fun c1 => ?_)
  · replace hw := hw.1 c1
    refine lv_iconst (v := (0 : Int32)) hx hb dX6_in_17 (by decide) ?_
    exact z_retz C (Or.inl rfl) hP hS ⟨rfl, hw⟩ dX6_in_18
  · replace hw := hw.2 c1
    refine lv_lload_n hx hb dX6_in_6 rfl (lv_at hl 0 rfl) ?_
    refine lv_lload hx hb dX6_in_7 (lv_at hl 2 rfl) ?_
    refine W.lcmp hx hb dX6_in_9 ?_
    refine lv_if_gt (tgt := 17) hx hb dX6_in_10 (by decide) (fun c2 => ?_) (fun c2 => ?_)
    · replace hw := hw.1 c2
      refine lv_iconst (v := (0 : Int32)) hx hb dX6_in_17 (by decide) ?_
      exact z_retz C (Or.inl rfl) hP hS ⟨rfl, hw⟩ dX6_in_18
    · replace hw := hw.2 c2
      refine lv_iconst (v := (1 : Int32)) hx hb dX6_in_13 (by decide) ?_
      refine lv_goto (tgt := 18) hx hb dX6_in_14 (by decide) ?_
      exact z_retz C (Or.inr rfl) hP hS ⟨rfl, hw⟩ dX6_in_18
set_option maxHeartbeats 4000000 in
set_option maxRecDepth 100000 in
theorem m_X6_isPerson (l : Launch) {E : z_E} (hE : z_ok E) (hM : z_mod E) (X : z_X) (h : z_G) (x1 : Int32) (K : Int32 → Prop) (hw : v_X6_isPerson h x1 K) : z_CI l E yX6_isPerson wsX6_isPerson rX6_isPerson [.ref (z_a E 19 0), .int x1] (z_up X 19 h) (fun r X' => X' = (z_up X 19 h) ∧ K r) := by
  refine z_start (cc := cX6_isPerson) (maxL := 2) (ret := (some .boolean)) hE (by decide) rfl (Nat.le_of_ble_eq_true rfl) ?_
  intro p e s m below meth c C hP hS ls hl
  have C : z_Cx p E s m _ meth c cX6_isPerson 2 wsX6_isPerson RX6 (some .boolean) := C
  obtain ⟨hx, hb, hml, hr, hlocks, hown, hts, hK, hE⟩ := id C
  have hl : lv_has ls 2 [(0, .ref (z_a E 19 0)), (1, .int x1)] := hl
  have hfX6 : ∀ w ∈ u_ws RX6 TX6 15, w ∈ wsX6_isPerson := by decide +kernel
  unfold v_X6_isPerson at hw
  refine lv_iload_n hx hb dX6_isPerson_0 rfl (lv_at hl 1 rfl) ?_
  refine lv_i2l hx hb dX6_isPerson_1 rfl ?_
  refine lv_lconst (v := (0 : Int64)) hx hb dX6_isPerson_2 (by decide) ?_
  refine lv_aload_n hx hb dX6_isPerson_3 rfl (lv_at hl 0 rfl) ?_
  refine z_getr (C := RX6) (T := TX6) (N := 15) (ref := "GauntletHallModel") (o := 19) (d := 0) hx hb hts hfX6 hown hK hP (hM (19, 0) (List.mem_of_getElem? (i := 0) rfl)) z_l_19_0 rfl 2 (by decide) (hts (.fieldLink RX6 13 "GauntletHallModel" "told" "[I") (by decide +kernel)) rfl rfl dX6_isPerson_4 ?_
  refine lv_iconst (v := (0 : Int32)) hx hb dX6_isPerson_7 (by decide) ?_
  obtain ⟨i1, hw⟩ := hw
  refine z_iald (o := 19) (d := 2) hx hb hK hP (hM (19, 2) (List.mem_of_getElem? (i := 2) rfl)) z_l_19_2 i1 (z_up_val X 19 h 2 (z_n (0 : Int32))) dX6_isPerson_8 ?_
  refine lv_iconst (v := (1 : Int32)) hx hb dX6_isPerson_9 (by decide) ?_
  refine lv_isub hx hb dX6_isPerson_10 ?_
  refine lv_i2l hx hb dX6_isPerson_11 rfl ?_
  refine z_si (rest := []) ⟨hx, hb, hml, hown, hts⟩ (m_X6_in l hE (z_up X 19 h) (Int32.toInt64 x1) (0 : Int64) (Int32.toInt64 ((h 2 (z_n (0 : Int32))) - (1 : Int32))) _ hw) (va_cwS 3 hts gX6_isPerson_X6_in rfl rfl rfl (by decide +kernel) ⟨Nat.le_of_ble_eq_true rfl, Nat.le_of_ble_eq_true rfl⟩) hK hP hS rfl hl.1 rfl (Nat.le_of_ble_eq_true rfl) dX6_isPerson_12 ⟨Nat.zero_le _, Nat.zero_le _⟩ (fun r2 u H locs hk hP hS => ?_)
  obtain ⟨eu, hw⟩ := hk
  rw [eu] at hP
  obtain ⟨hz, hw⟩ := hw
  exact z_retz C hz hP hS ⟨rfl, hw⟩ dX6_isPerson_15
set_option maxHeartbeats 4000000 in
set_option maxRecDepth 100000 in
theorem m_X6_has (l : Launch) {E : z_E} (hE : z_ok E) (X : z_X) (x0 : Int32) (x1 : Int32) (K : Int32 → Prop) (hw : v_X6_has x0 x1 K) : z_CI l E yX6_has wsX6_has rX6_has [.int x0, .int x1] X (fun r X' => X' = X ∧ K r) := by
  refine z_start (cc := cX6_has) (maxL := 2) (ret := (some .boolean)) hE (by decide) rfl (Nat.le_of_ble_eq_true rfl) ?_
  intro p e s m below meth c C hP hS ls hl
  have C : z_Cx p E s m _ meth c cX6_has 2 wsX6_has RX6 (some .boolean) := C
  obtain ⟨hx, hb, hml, hr, hlocks, hown, hts, hK, hE⟩ := id C
  have hl : lv_has ls 2 [(0, .int x0), (1, .int x1)] := hl
  unfold v_X6_has at hw
  refine lv_iload_n hx hb dX6_has_0 rfl (lv_at hl 0 rfl) ?_
  refine lv_iload_n hx hb dX6_has_1 rfl (lv_at hl 1 rfl) ?_
  refine lv_ishr hx hb dX6_has_2 ?_
  refine lv_iconst (v := (1 : Int32)) hx hb dX6_has_3 (by decide) ?_
  refine lv_iand hx hb dX6_has_4 ?_
  refine lv_iconst (v := (1 : Int32)) hx hb dX6_has_5 (by decide) ?_
  refine lv_icmp_ne (tgt := 13) hx hb dX6_has_6 (by decide) (fun c1 => ?_) (fun c1 => ?_)
  · replace hw := hw.1 c1
    refine lv_iconst (v := (0 : Int32)) hx hb dX6_has_13 (by decide) ?_
    exact z_retz C (Or.inl rfl) hP hS ⟨rfl, hw⟩ dX6_has_14
  · replace hw := hw.2 c1
    refine lv_iconst (v := (1 : Int32)) hx hb dX6_has_9 (by decide) ?_
    refine lv_goto (tgt := 14) hx hb dX6_has_10 (by decide) ?_
    exact z_retz C (Or.inr rfl) hP hS ⟨rfl, hw⟩ dX6_has_14
set_option maxHeartbeats 4000000 in
set_option maxRecDepth 100000 in
theorem m_X6_isLike_b35 {p : Program} {l : Launch} {e : Env} {s : State} {m : MethodId} {args : Array Value} {below : List Frame} {meth : Method} {c : Code} {E : z_E} (C : z_Cx p E s m args meth c cX6_isLike 5 wsX6_isLike RX6 (some .boolean)) (X : z_X) (K : Int32 → Prop) (x0 : Int32) (x1 : Int32) (x4 : Int32) (hw : v_X6_isLike_b35 K x0 x1 x4) {H : Heap} {locs : List Loc} (hP : z_P E X H) (hS : va_S (z_A E) s.heap H locs) {ls : Array Slot} (hl : lv_has ls 5 [(0, .int x0), (1, .int x1), (4, .int x4)]) : W p l e rX6_isLike s m args below meth c H locs 0 0 (MQ below (va_Qi (fun r X' => X' = X ∧ K r) (fun u t => z_P E u t.heap) (z_A E)) args s 0 0 (z_A E)) (F0 m 35 ls []) := by
  obtain ⟨hx, hb, hml, hr, hlocks, hown, hts, hK, hE⟩ := id C
  unfold v_X6_isLike_b35 at hw
  refine lv_iload_n hx hb dX6_isLike_35 rfl (lv_at hl 1 rfl) ?_
  refine lv_iconst (v := (1 : Int32)) hx hb dX6_isLike_36 (by decide) ?_
  refine lv_icmp_ne (tgt := 52) hx hb dX6_isLike_37 (by decide) (fun c4 => ?_) (fun c4 => ?_)
  · replace hw := hw.1 c4
    refine lv_iconst (v := (0 : Int32)) hx hb dX6_isLike_52 (by decide) ?_
    exact z_retz C (Or.inl rfl) hP hS ⟨rfl, hw⟩ dX6_isLike_53
  · replace hw := hw.2 c4
    refine lv_iload_n hx hb dX6_isLike_40 rfl (lv_at hl 0 rfl) ?_
    refine lv_iload hx hb dX6_isLike_41 (lv_at hl 2 rfl) ?_
    refine lv_iconst (v := (1 : Int32)) hx hb dX6_isLike_43 (by decide) ?_
    refine lv_iadd hx hb dX6_isLike_44 ?_
    refine lv_icmp_ne (tgt := 52) hx hb dX6_isLike_45 (by decide) (fun c5 => ?_) (fun c5 => ?_)
    · replace hw := hw.1 c5
      refine lv_iconst (v := (0 : Int32)) hx hb dX6_isLike_52 (by decide) ?_
      exact z_retz C (Or.inl rfl) hP hS ⟨rfl, hw⟩ dX6_isLike_53
    · replace hw := hw.2 c5
      refine lv_iconst (v := (1 : Int32)) hx hb dX6_isLike_48 (by decide) ?_
      refine lv_goto (tgt := 53) hx hb dX6_isLike_49 (by decide) ?_
      exact z_retz C (Or.inr rfl) hP hS ⟨rfl, hw⟩ dX6_isLike_53
set_option maxHeartbeats 4000000 in
set_option maxRecDepth 100000 in
theorem m_X6_isLike_b14 {p : Program} {l : Launch} {e : Env} {s : State} {m : MethodId} {args : Array Value} {below : List Frame} {meth : Method} {c : Code} {E : z_E} (C : z_Cx p E s m args meth c cX6_isLike 5 wsX6_isLike RX6 (some .boolean)) (X : z_X) (K : Int32 → Prop) (x0 : Int32) (x1 : Int32) (t0 : Int32) (hw : v_X6_isLike_b14 K x0 x1 t0) {H : Heap} {locs : List Loc} (hP : z_P E X H) (hS : va_S (z_A E) s.heap H locs) {ls : Array Slot} (hl : lv_has ls 5 [(0, .int x0), (1, .int x1)]) : W p l e rX6_isLike s m args below meth c H locs 0 0 (MQ below (va_Qi (fun r X' => X' = X ∧ K r) (fun u t => z_P E u t.heap) (z_A E)) args s 0 0 (z_A E)) (F0 m 14 ls [.int t0]) := by
  obtain ⟨hx, hb, hml, hr, hlocks, hown, hts, hK, hE⟩ := id C
  unfold v_X6_isLike_b14 at hw
  refine lv_istore (lv' := [(4, .int t0), (0, .int x0), (1, .int x1)]) hx hb dX6_isLike_14 hl (by decide) rfl (fun ls hl => ?_)
  refine lv_iload_n hx hb dX6_isLike_16 rfl (lv_at hl 1 rfl) ?_
  refine lv_iload hx hb dX6_isLike_17 (lv_at hl 0 rfl) ?_
  refine lv_icmp_eq (tgt := 48) hx hb dX6_isLike_19 (by decide) (fun c2 => ?_) (fun c2 => ?_)
  · replace hw := hw.1 c2
    refine lv_iconst (v := (1 : Int32)) hx hb dX6_isLike_48 (by decide) ?_
    refine lv_goto (tgt := 53) hx hb dX6_isLike_49 (by decide) ?_
    exact z_retz C (Or.inr rfl) hP hS ⟨rfl, hw⟩ dX6_isLike_53
  · replace hw := hw.2 c2
    refine lv_iload_n hx hb dX6_isLike_22 rfl (lv_at hl 2 rfl) ?_
    refine lv_iconst (v := (2 : Int32)) hx hb dX6_isLike_23 (by decide) ?_
    refine lv_icmp_eq (tgt := 35) hx hb dX6_isLike_24 (by decide) (fun c3 => ?_) (fun c3 => ?_)
    · replace hw := hw.1 c3
      exact m_X6_isLike_b35 C X K x0 x1 t0 hw hP hS (lv_sub hl [1, 2, 0] rfl)
    · replace hw := hw.2 c3
      refine lv_iload_n hx hb dX6_isLike_27 rfl (lv_at hl 1 rfl) ?_
      refine lv_iload hx hb dX6_isLike_28 (lv_at hl 0 rfl) ?_
      refine lv_iconst (v := (1 : Int32)) hx hb dX6_isLike_30 (by decide) ?_
      refine lv_isub hx hb dX6_isLike_31 ?_
      refine lv_icmp_eq (tgt := 48) hx hb dX6_isLike_32 (by decide) (fun c6 => ?_) (fun c6 => ?_)
      · replace hw := hw.1 c6
        refine lv_iconst (v := (1 : Int32)) hx hb dX6_isLike_48 (by decide) ?_
        refine lv_goto (tgt := 53) hx hb dX6_isLike_49 (by decide) ?_
        exact z_retz C (Or.inr rfl) hP hS ⟨rfl, hw⟩ dX6_isLike_53
      · replace hw := hw.2 c6
        exact m_X6_isLike_b35 C X K x0 x1 t0 hw hP hS (lv_sub hl [1, 2, 0] rfl)
set_option maxHeartbeats 4000000 in
set_option maxRecDepth 100000 in
theorem m_X6_isLike (l : Launch) {E : z_E} (hE : z_ok E) (X : z_X) (x0 : Int32) (x1 : Int32) (x2 : Int32) (x3 : Int32) (K : Int32 → Prop) (hw : v_X6_isLike x0 x1 x2 x3 K) : z_CI l E yX6_isLike wsX6_isLike rX6_isLike [.int x0, .int x1, .int x2, .int x3] X (fun r X' => X' = X ∧ K r) := by
  refine z_start (cc := cX6_isLike) (maxL := 5) (ret := (some .boolean)) hE (by decide) rfl (Nat.le_of_ble_eq_true rfl) ?_
  intro p e s m below meth c C hP hS ls hl
  have C : z_Cx p E s m _ meth c cX6_isLike 5 wsX6_isLike RX6 (some .boolean) := C
  obtain ⟨hx, hb, hml, hr, hlocks, hown, hts, hK, hE⟩ := id C
  have hl : lv_has ls 5 [(0, .int x0), (1, .int x1), (2, .int x2), (3, .int x3)] := hl
  unfold v_X6_isLike at hw
  refine lv_iload_n hx hb dX6_isLike_0 rfl (lv_at hl 1 rfl) ?_
  refine lv_iconst (v := (3 : Int32)) hx hb dX6_isLike_1 (by decide) ?_
  refine lv_icmp_ne (tgt := 13) hx hb dX6_isLike_2 (by decide) (fun c1 => ?_) (fun c1 => ?_)
  · replace hw := hw.1 c1
    refine lv_iload_n hx hb dX6_isLike_13 rfl (lv_at hl 2 rfl) ?_
    exact m_X6_isLike_b14 C X K x0 x1 x2 hw hP hS (lv_sub hl [0, 1] rfl)
  · replace hw := hw.2 c1
    refine lv_iload_n hx hb dX6_isLike_5 rfl (lv_at hl 2 rfl) ?_
    refine lv_iload_n hx hb dX6_isLike_6 rfl (lv_at hl 3 rfl) ?_
    refine lv_iconst (v := (5 : Int32)) hx hb dX6_isLike_7 (by decide) ?_
    refine lv_idiv hx hb dX6_isLike_8 (by decide) ?_
    refine lv_isub hx hb dX6_isLike_9 ?_
    refine lv_goto (tgt := 14) hx hb dX6_isLike_10 (by decide) ?_
    exact m_X6_isLike_b14 C X K x0 x1 (x2 - (x3 / (5 : Int32))) hw hP hS (lv_sub hl [0, 1] rfl)
set_option maxHeartbeats 4000000 in
set_option maxRecDepth 100000 in
theorem m_X6_isFit (l : Launch) {E : z_E} (hE : z_ok E) (hM : z_mod E) (X : z_X) (h : z_G) (x1 : Int32) (x2 : Int32) (K : Int32 → Prop) (hw : v_X6_isFit h x1 x2 K) : z_CI l E yX6_isFit wsX6_isFit rX6_isFit [.ref (z_a E 19 0), .int x1, .int x2] (z_up X 19 h) (fun r X' => X' = (z_up X 19 h) ∧ K r) := by
  refine z_start (cc := cX6_isFit) (maxL := 3) (ret := (some .boolean)) hE (by decide) rfl (Nat.le_of_ble_eq_true rfl) ?_
  intro p e s m below meth c C hP hS ls hl
  have C : z_Cx p E s m _ meth c cX6_isFit 3 wsX6_isFit RX6 (some .boolean) := C
  obtain ⟨hx, hb, hml, hr, hlocks, hown, hts, hK, hE⟩ := id C
  have hl : lv_has ls 3 [(0, .ref (z_a E 19 0)), (1, .int x1), (2, .int x2)] := hl
  have hfX6 : ∀ w ∈ u_ws RX6 TX6 15, w ∈ wsX6_isFit := by decide +kernel
  unfold v_X6_isFit at hw
  refine lv_aload_n hx hb dX6_isFit_0 rfl (lv_at hl 0 rfl) ?_
  refine z_getr (C := RX6) (T := TX6) (N := 15) (ref := "GauntletHallModel") (o := 19) (d := 0) hx hb hts hfX6 hown hK hP (hM (19, 0) (List.mem_of_getElem? (i := 0) rfl)) z_l_19_0 rfl 6 (by decide) (hts (.fieldLink RX6 25 "GauntletHallModel" "side" "[I") (by decide +kernel)) rfl rfl dX6_isFit_1 ?_
  refine lv_iconst (v := (3 : Int32)) hx hb dX6_isFit_4 (by decide) ?_
  obtain ⟨i1, hw⟩ := hw
  refine z_iald (o := 19) (d := 6) hx hb hK hP (hM (19, 6) (List.mem_of_getElem? (i := 6) rfl)) z_l_19_6 i1 (z_up_val X 19 h 6 (z_n (3 : Int32))) dX6_isFit_5 ?_
  refine lv_iload_n hx hb dX6_isFit_6 rfl (lv_at hl 1 rfl) ?_
  refine z_si (rest := []) ⟨hx, hb, hml, hown, hts⟩ (m_X6_has l hE (z_up X 19 h) (h 6 (z_n (3 : Int32))) x1 _ hw) (va_cwS 2 hts gX6_isFit_X6_has rfl rfl rfl (by decide +kernel) ⟨Nat.le_of_ble_eq_true rfl, Nat.le_of_ble_eq_true rfl⟩) hK hP hS rfl hl.1 rfl (Nat.le_of_ble_eq_true rfl) dX6_isFit_7 ⟨Nat.zero_le _, Nat.zero_le _⟩ (fun r2 u H locs hk hP hS => ?_)
  obtain ⟨eu, hw⟩ := hk
  rw [eu] at hP
  refine lv_if_eq (tgt := 82) hx hb dX6_isFit_10 (by decide) (fun c3 => ?_) (fun c3 => ?_)
  · replace hw := hw.1 c3
    refine lv_iconst (v := (0 : Int32)) hx hb dX6_isFit_82 (by decide) ?_
    exact z_retz C (Or.inl rfl) hP hS ⟨rfl, hw⟩ dX6_isFit_83
  · replace hw := hw.2 c3
    refine lv_aload_n hx hb dX6_isFit_13 rfl (lv_at hl 0 rfl) ?_
    refine z_getr (C := RX6) (T := TX6) (N := 15) (ref := "GauntletHallModel") (o := 19) (d := 0) hx hb hts hfX6 hown hK hP (hM (19, 0) (List.mem_of_getElem? (i := 0) rfl)) z_l_19_0 rfl 6 (by decide) (hts (.fieldLink RX6 25 "GauntletHallModel" "side" "[I") (by decide +kernel)) rfl rfl dX6_isFit_14 ?_
    refine lv_iconst (v := (4 : Int32)) hx hb dX6_isFit_17 (by decide) ?_
    refine lv_iload_n hx hb dX6_isFit_18 rfl (lv_at hl 2 rfl) ?_
    refine lv_iadd hx hb dX6_isFit_19 ?_
    obtain ⟨i4, hw⟩ := hw
    refine z_iald (o := 19) (d := 6) hx hb hK hP (hM (19, 6) (List.mem_of_getElem? (i := 6) rfl)) z_l_19_6 i4 (z_up_val X 19 h 6 (z_n ((4 : Int32) + x2))) dX6_isFit_20 ?_
    refine lv_if_le (tgt := 82) hx hb dX6_isFit_21 (by decide) (fun c5 => ?_) (fun c5 => ?_)
    · replace hw := hw.1 c5
      refine lv_iconst (v := (0 : Int32)) hx hb dX6_isFit_82 (by decide) ?_
      exact z_retz C (Or.inl rfl) hP hS ⟨rfl, hw⟩ dX6_isFit_83
    · replace hw := hw.2 c5
      refine lv_aload_n hx hb dX6_isFit_24 rfl (lv_at hl 0 rfl) ?_
      refine z_getr (C := RX6) (T := TX6) (N := 15) (ref := "GauntletHallModel") (o := 19) (d := 0) hx hb hts hfX6 hown hK hP (hM (19, 0) (List.mem_of_getElem? (i := 0) rfl)) z_l_19_0 rfl 6 (by decide) (hts (.fieldLink RX6 25 "GauntletHallModel" "side" "[I") (by decide +kernel)) rfl rfl dX6_isFit_25 ?_
      refine lv_bipush (v := (26 : Int32)) hx hb dX6_isFit_28 (by decide) ?_
      refine lv_iload_n hx hb dX6_isFit_30 rfl (lv_at hl 1 rfl) ?_
      refine lv_iadd hx hb dX6_isFit_31 ?_
      obtain ⟨i6, hw⟩ := hw
      refine z_iald (o := 19) (d := 6) hx hb hK hP (hM (19, 6) (List.mem_of_getElem? (i := 6) rfl)) z_l_19_6 i6 (z_up_val X 19 h 6 (z_n ((26 : Int32) + x1))) dX6_isFit_32 ?_
      refine lv_iload_n hx hb dX6_isFit_33 rfl (lv_at hl 2 rfl) ?_
      refine lv_icmp_eq (tgt := 82) hx hb dX6_isFit_34 (by decide) (fun c7 => ?_) (fun c7 => ?_)
      · replace hw := hw.1 c7
        refine lv_iconst (v := (0 : Int32)) hx hb dX6_isFit_82 (by decide) ?_
        exact z_retz C (Or.inl rfl) hP hS ⟨rfl, hw⟩ dX6_isFit_83
      · replace hw := hw.2 c7
        refine lv_aload_n hx hb dX6_isFit_37 rfl (lv_at hl 0 rfl) ?_
        refine z_getr (C := RX6) (T := TX6) (N := 15) (ref := "GauntletHallModel") (o := 19) (d := 0) hx hb hts hfX6 hown hK hP (hM (19, 0) (List.mem_of_getElem? (i := 0) rfl)) z_l_19_0 rfl 2 (by decide) (hts (.fieldLink RX6 13 "GauntletHallModel" "told" "[I") (by decide +kernel)) rfl rfl dX6_isFit_38 ?_
        refine lv_iconst (v := (1 : Int32)) hx hb dX6_isFit_41 (by decide) ?_
        refine lv_iload_n hx hb dX6_isFit_42 rfl (lv_at hl 2 rfl) ?_
        refine lv_iadd hx hb dX6_isFit_43 ?_
        obtain ⟨i8, hw⟩ := hw
        refine z_iald (o := 19) (d := 2) hx hb hK hP (hM (19, 2) (List.mem_of_getElem? (i := 2) rfl)) z_l_19_2 i8 (z_up_val X 19 h 2 (z_n ((1 : Int32) + x2))) dX6_isFit_44 ?_
        refine lv_aload_n hx hb dX6_isFit_45 rfl (lv_at hl 0 rfl) ?_
        refine z_getr (C := RX6) (T := TX6) (N := 15) (ref := "GauntletHallModel") (o := 19) (d := 0) hx hb hts hfX6 hown hK hP (hM (19, 0) (List.mem_of_getElem? (i := 0) rfl)) z_l_19_0 rfl 6 (by decide) (hts (.fieldLink RX6 25 "GauntletHallModel" "side" "[I") (by decide +kernel)) rfl rfl dX6_isFit_46 ?_
        refine lv_bipush (v := (10 : Int32)) hx hb dX6_isFit_49 (by decide) ?_
        refine lv_iload_n hx hb dX6_isFit_51 rfl (lv_at hl 1 rfl) ?_
        refine lv_iadd hx hb dX6_isFit_52 ?_
        obtain ⟨i9, hw⟩ := hw
        refine z_iald (o := 19) (d := 6) hx hb hK hP (hM (19, 6) (List.mem_of_getElem? (i := 6) rfl)) z_l_19_6 i9 (z_up_val X 19 h 6 (z_n ((10 : Int32) + x1))) dX6_isFit_53 ?_
        refine lv_aload_n hx hb dX6_isFit_54 rfl (lv_at hl 0 rfl) ?_
        refine z_getr (C := RX6) (T := TX6) (N := 15) (ref := "GauntletHallModel") (o := 19) (d := 0) hx hb hts hfX6 hown hK hP (hM (19, 0) (List.mem_of_getElem? (i := 0) rfl)) z_l_19_0 rfl 6 (by decide) (hts (.fieldLink RX6 25 "GauntletHallModel" "side" "[I") (by decide +kernel)) rfl rfl dX6_isFit_55 ?_
        refine lv_bipush (v := (18 : Int32)) hx hb dX6_isFit_58 (by decide) ?_
        refine lv_iload_n hx hb dX6_isFit_60 rfl (lv_at hl 1 rfl) ?_
        refine lv_iadd hx hb dX6_isFit_61 ?_
        obtain ⟨i10, hw⟩ := hw
        refine z_iald (o := 19) (d := 6) hx hb hK hP (hM (19, 6) (List.mem_of_getElem? (i := 6) rfl)) z_l_19_6 i10 (z_up_val X 19 h 6 (z_n ((18 : Int32) + x1))) dX6_isFit_62 ?_
        refine lv_aload_n hx hb dX6_isFit_63 rfl (lv_at hl 0 rfl) ?_
        refine z_getr (C := RX6) (T := TX6) (N := 15) (ref := "GauntletHallModel") (o := 19) (d := 0) hx hb hts hfX6 hown hK hP (hM (19, 0) (List.mem_of_getElem? (i := 0) rfl)) z_l_19_0 rfl 6 (by decide) (hts (.fieldLink RX6 25 "GauntletHallModel" "side" "[I") (by decide +kernel)) rfl rfl dX6_isFit_64 ?_
        refine lv_bipush (v := (34 : Int32)) hx hb dX6_isFit_67 (by decide) ?_
        refine lv_iload_n hx hb dX6_isFit_69 rfl (lv_at hl 1 rfl) ?_
        refine lv_iadd hx hb dX6_isFit_70 ?_
        obtain ⟨i11, hw⟩ := hw
        refine z_iald (o := 19) (d := 6) hx hb hK hP (hM (19, 6) (List.mem_of_getElem? (i := 6) rfl)) z_l_19_6 i11 (z_up_val X 19 h 6 (z_n ((34 : Int32) + x1))) dX6_isFit_71 ?_
        refine z_si (rest := []) ⟨hx, hb, hml, hown, hts⟩ (m_X6_isLike l hE (z_up X 19 h) (h 2 (z_n ((1 : Int32) + x2))) (h 6 (z_n ((10 : Int32) + x1))) (h 6 (z_n ((18 : Int32) + x1))) (h 6 (z_n ((34 : Int32) + x1))) _ hw) (va_cwS 4 hts gX6_isFit_X6_isLike rfl rfl rfl (by decide +kernel) ⟨Nat.le_of_ble_eq_true rfl, Nat.le_of_ble_eq_true rfl⟩) hK hP hS rfl hl.1 rfl (Nat.le_of_ble_eq_true rfl) dX6_isFit_72 ⟨Nat.zero_le _, Nat.zero_le _⟩ (fun r12 u H locs hk hP hS => ?_)
        obtain ⟨eu, hw⟩ := hk
        rw [eu] at hP
        refine lv_if_eq (tgt := 82) hx hb dX6_isFit_75 (by decide) (fun c13 => ?_) (fun c13 => ?_)
        · replace hw := hw.1 c13
          refine lv_iconst (v := (0 : Int32)) hx hb dX6_isFit_82 (by decide) ?_
          exact z_retz C (Or.inl rfl) hP hS ⟨rfl, hw⟩ dX6_isFit_83
        · replace hw := hw.2 c13
          refine lv_iconst (v := (1 : Int32)) hx hb dX6_isFit_78 (by decide) ?_
          refine lv_goto (tgt := 83) hx hb dX6_isFit_79 (by decide) ?_
          exact z_retz C (Or.inr rfl) hP hS ⟨rfl, hw⟩ dX6_isFit_83
set_option maxHeartbeats 4000000 in
set_option maxRecDepth 100000 in
theorem m_X6_lowestFit_b6_s {p : Program} {l : Launch} {e : Env} {s : State} {m : MethodId} {args : Array Value} {below : List Frame} {meth : Method} {c : Code} {E : z_E} (C : z_Cx p E s m args meth c cX6_lowestFit 4 wsX6_lowestFit RX6 (some .int)) (hM : z_mod E) (X : z_X) (h : z_G) (K : Int32 → Prop) (L6 : Int32 → Int32 → Int32 → Prop) (k6 : ∀ (x1 : Int32) (x2 : Int32) (x3 : Int32), L6 x1 x2 x3 → ∀ {H : Heap} {locs : List Loc}, z_P E (z_up X 19 h) H → va_S (z_A E) s.heap H locs → ∀ (ls : Array Slot), lv_has ls 4 [(0, .ref (z_a E 19 0)), (1, .int x1), (2, .int x2), (3, .int x3)] → W p l e rX6_lowestFit s m args below meth c H locs 0 0 (MQ below (va_Qi (fun r X' => X' = (z_up X 19 h) ∧ K r) (fun u t => z_P E u t.heap) (z_A E)) args s 0 0 (z_A E)) (F0 m 6 ls [])) (x1 : Int32) (x2 : Int32) (x3 : Int32) (hw : v_X6_lowestFit_b6_s h K L6 x1 x2 x3) {H : Heap} {locs : List Loc} (hP : z_P E (z_up X 19 h) H) (hS : va_S (z_A E) s.heap H locs) {ls : Array Slot} (hl : lv_has ls 4 [(0, .ref (z_a E 19 0)), (1, .int x1), (2, .int x2), (3, .int x3)]) : W p l e rX6_lowestFit s m args below meth c H locs 0 0 (MQ below (va_Qi (fun r X' => X' = (z_up X 19 h) ∧ K r) (fun u t => z_P E u t.heap) (z_A E)) args s 0 0 (z_A E)) (F0 m 6 ls []) := by
  obtain ⟨hx, hb, hml, hr, hlocks, hown, hts, hK, hE⟩ := id C
  unfold v_X6_lowestFit_b6_s at hw
  refine lv_iload_n hx hb dX6_lowestFit_6 rfl (lv_at hl 3 rfl) ?_
  refine lv_if_lt (tgt := 31) hx hb dX6_lowestFit_7 (by decide) (fun c1 => ?_) (fun c1 => ?_)
  · replace hw := hw.1 c1
    refine lv_iload_n hx hb dX6_lowestFit_31 rfl (lv_at hl 2 rfl) ?_
    exact z_reti C hP hS ⟨rfl, hw⟩ dX6_lowestFit_32
  · replace hw := hw.2 c1
    refine lv_aload_n hx hb dX6_lowestFit_10 rfl (lv_at hl 0 rfl) ?_
    refine lv_iload_n hx hb dX6_lowestFit_11 rfl (lv_at hl 3 rfl) ?_
    refine lv_iload_n hx hb dX6_lowestFit_12 rfl (lv_at hl 1 rfl) ?_
    refine z_vi (C := RX6) (T := TX6) (N := 15) (o := 19) (rest := []) ⟨hx, hb, hml, hown, hts⟩ (m_X6_isFit l hE hM X h x3 x1 _ hw) (cwV 2 hts gX6_lowestFit_X6_isFit rfl rfl rfl (by decide +kernel) ⟨Nat.le_of_ble_eq_true rfl, Nat.le_of_ble_eq_true rfl⟩) hK hP hS (hM (19, 0) (List.mem_of_getElem? (i := 0) rfl)) z_l_19_0 rfl rfl hl.1 rfl (Nat.le_of_ble_eq_true rfl) dX6_lowestFit_13 ⟨Nat.zero_le _, Nat.zero_le _⟩ (fun r2 u H locs hk hP hS => ?_)
    obtain ⟨eu, hw⟩ := hk
    rw [eu] at hP
    refine lv_if_eq (tgt := 23) hx hb dX6_lowestFit_16 (by decide) (fun c3 => ?_) (fun c3 => ?_)
    · replace hw := hw.1 c3
      refine lv_iload_n hx hb dX6_lowestFit_23 rfl (lv_at hl 2 rfl) ?_
      refine lv_istore_n (lv' := [(2, .int x2), (0, .ref (z_a E 19 0)), (1, .int x1), (3, .int x3)]) hx hb dX6_lowestFit_24 rfl hl (by decide) rfl (fun ls hl => ?_)
      obtain ⟨y4, ey4⟩ : ∃ z : Int32, z = x3 + (-1 : Int32) := ⟨_, rfl⟩
      replace hw := hw y4 ey4
      refine lv_iinc (v := y4) (lv' := [(3, .int y4), (2, .int x2), (0, .ref (z_a E 19 0)), (1, .int x1)]) hx hb dX6_lowestFit_25 hl (k := 3) rfl (by rw [ey4]; rfl) (by decide) rfl (fun ls hl => ?_)
      refine lv_goto (tgt := 6) hx hb dX6_lowestFit_28 (by decide) ?_
      exact k6 x1 x2 y4 hw hP hS _ (lv_sub hl [2, 3, 1, 0] rfl)
    · replace hw := hw.2 c3
      refine lv_iload_n hx hb dX6_lowestFit_19 rfl (lv_at hl 3 rfl) ?_
      refine lv_goto (tgt := 24) hx hb dX6_lowestFit_20 (by decide) ?_
      refine lv_istore_n (lv' := [(2, .int x3), (0, .ref (z_a E 19 0)), (1, .int x1), (3, .int x3)]) hx hb dX6_lowestFit_24 rfl hl (by decide) rfl (fun ls hl => ?_)
      obtain ⟨y5, ey5⟩ : ∃ z : Int32, z = x3 + (-1 : Int32) := ⟨_, rfl⟩
      replace hw := hw y5 ey5
      refine lv_iinc (v := y5) (lv' := [(3, .int y5), (2, .int x3), (0, .ref (z_a E 19 0)), (1, .int x1)]) hx hb dX6_lowestFit_25 hl (k := 3) rfl (by rw [ey5]; rfl) (by decide) rfl (fun ls hl => ?_)
      refine lv_goto (tgt := 6) hx hb dX6_lowestFit_28 (by decide) ?_
      exact k6 x1 x3 y5 hw hP hS _ (lv_sub hl [2, 3, 1, 0] rfl)
theorem m_X6_lowestFit_b6 {p : Program} {l : Launch} {e : Env} {s : State} {m : MethodId} {args : Array Value} {below : List Frame} {meth : Method} {c : Code} {E : z_E} (C : z_Cx p E s m args meth c cX6_lowestFit 4 wsX6_lowestFit RX6 (some .int)) (hM : z_mod E) (X : z_X) (h : z_G) (K : Int32 → Prop) (x1 : Int32) (x2 : Int32) (x3 : Int32) (hw : v_X6_lowestFit_b6 h K x1 x2 x3) {H : Heap} {locs : List Loc} (hP : z_P E (z_up X 19 h) H) (hS : va_S (z_A E) s.heap H locs) {ls : Array Slot} (hl : lv_has ls 4 [(0, .ref (z_a E 19 0)), (1, .int x1), (2, .int x2), (3, .int x3)]) : W p l e rX6_lowestFit s m args below meth c H locs 0 0 (MQ below (va_Qi (fun r X' => X' = (z_up X 19 h) ∧ K r) (fun u t => z_P E u t.heap) (z_A E)) args s 0 0 (z_A E)) (F0 m 6 ls []) := by
  obtain ⟨n, hw⟩ := hw
  revert hw hP hS hl
  revert x1 x2 x3 H locs ls
  induction n with
  | zero => intro x1 x2 x3 H locs ls hP hS hl hw; exact hw.elim
  | succ n ih =>
    intro x1 x2 x3 H locs ls hP hS hl hw
    exact m_X6_lowestFit_b6_s C hM X h K (fun x1 x2 x3 => z_fp (σ := Int32 × Int32 × Int32) (fun Lp q => v_X6_lowestFit_b6_s h K (fun x1 x2 x3 => Lp (x1, x2, x3)) q.1 q.2.1 q.2.2) n (x1, x2, x3)) (fun x1 x2 x3 h9 H locs hP hS ls hl => ih x1 x2 x3 hP hS hl h9) x1 x2 x3 hw hP hS hl
set_option maxHeartbeats 4000000 in
set_option maxRecDepth 100000 in
theorem m_X6_lowestFit (l : Launch) {E : z_E} (hE : z_ok E) (hM : z_mod E) (X : z_X) (h : z_G) (x1 : Int32) (K : Int32 → Prop) (hw : v_X6_lowestFit h x1 K) : z_CI l E yX6_lowestFit wsX6_lowestFit rX6_lowestFit [.ref (z_a E 19 0), .int x1] (z_up X 19 h) (fun r X' => X' = (z_up X 19 h) ∧ K r) := by
  refine z_start (cc := cX6_lowestFit) (maxL := 4) (ret := (some .int)) hE (by decide) rfl (Nat.le_of_ble_eq_true rfl) ?_
  intro p e s m below meth c C hP hS ls hl
  have C : z_Cx p E s m _ meth c cX6_lowestFit 4 wsX6_lowestFit RX6 (some .int) := C
  obtain ⟨hx, hb, hml, hr, hlocks, hown, hts, hK, hE⟩ := id C
  have hl : lv_has ls 4 [(0, .ref (z_a E 19 0)), (1, .int x1)] := hl
  unfold v_X6_lowestFit at hw
  refine lv_bipush (v := (-4 : Int32)) hx hb dX6_lowestFit_0 (by decide) ?_
  refine lv_istore_n (lv' := [(2, .int (-4 : Int32)), (0, .ref (z_a E 19 0)), (1, .int x1)]) hx hb dX6_lowestFit_2 rfl hl (by decide) rfl (fun ls hl => ?_)
  refine lv_bipush (v := (7 : Int32)) hx hb dX6_lowestFit_3 (by decide) ?_
  refine lv_istore_n (lv' := [(3, .int (7 : Int32)), (2, .int (-4 : Int32)), (0, .ref (z_a E 19 0)), (1, .int x1)]) hx hb dX6_lowestFit_5 rfl hl (by decide) rfl (fun ls hl => ?_)
  exact m_X6_lowestFit_b6 C hM X h K x1 (-4 : Int32) (7 : Int32) hw hP hS (lv_sub hl [2, 3, 1, 0] rfl)
set_option maxHeartbeats 4000000 in
set_option maxRecDepth 100000 in
theorem m_X6_left (l : Launch) {E : z_E} (hE : z_ok E) (X : z_X) (x0 : Int32) (x1 : Int32) (K : Int32 → Prop) (hw : v_X6_left x0 x1 K) : z_CI l E yX6_left wsX6_left rX6_left [.int x0, .int x1] X (fun r X' => X' = X ∧ K r) := by
  refine z_start (cc := cX6_left) (maxL := 3) (ret := (some .int)) hE (by decide) rfl (Nat.le_of_ble_eq_true rfl) ?_
  intro p e s m below meth c C hP hS ls hl
  have C : z_Cx p E s m _ meth c cX6_left 3 wsX6_left RX6 (some .int) := C
  obtain ⟨hx, hb, hml, hr, hlocks, hown, hts, hK, hE⟩ := id C
  have hl : lv_has ls 3 [(0, .int x0), (1, .int x1)] := hl
  unfold v_X6_left at hw
  refine lv_iload_n hx hb dX6_left_0 rfl (lv_at hl 0 rfl) ?_
  refine lv_iload_n hx hb dX6_left_1 rfl (lv_at hl 1 rfl) ?_
  refine lv_iconst (v := (2 : Int32)) hx hb dX6_left_2 (by decide) ?_
  refine lv_idiv hx hb dX6_left_3 (by decide) ?_
  refine lv_isub hx hb dX6_left_4 ?_
  refine lv_topi (fun y1 ey1 => ?_)
  replace hw := hw y1 ey1
  refine lv_istore_n (lv' := [(2, .int y1), (0, .int x0), (1, .int x1)]) hx hb dX6_left_5 rfl hl (by decide) rfl (fun ls hl => ?_)
  refine lv_iload_n hx hb dX6_left_6 rfl (lv_at hl 0 rfl) ?_
  refine lv_iconst (v := (1 : Int32)) hx hb dX6_left_7 (by decide) ?_
  refine lv_icmp_ge (tgt := 15) hx hb dX6_left_8 (by decide) (fun c2 => ?_) (fun c2 => ?_)
  · replace hw := hw.1 c2
    refine lv_iload_n hx hb dX6_left_15 rfl (lv_at hl 0 rfl) ?_
    exact z_reti C hP hS ⟨rfl, hw⟩ dX6_left_16
  · replace hw := hw.2 c2
    refine lv_iconst (v := (1 : Int32)) hx hb dX6_left_11 (by decide) ?_
    refine lv_goto (tgt := 16) hx hb dX6_left_12 (by decide) ?_
    exact z_reti C hP hS ⟨rfl, hw⟩ dX6_left_16
set_option maxHeartbeats 4000000 in
set_option maxRecDepth 100000 in
theorem m_X6_goWear_b111 {p : Program} {l : Launch} {e : Env} {s : State} {m : MethodId} {args : Array Value} {below : List Frame} {meth : Method} {c : Code} {E : z_E} (C : z_Cx p E s m args meth c cX6_goWear 6 wsX6_goWear RX6 none) (hM : z_mod E) (X : z_X) (K : z_G → Prop) (h : z_G) (t1 : Int32) (t2 : Int32) (hw : v_X6_goWear_b111 K h t1 t2) {H : Heap} {locs : List Loc} (hP : z_P E (z_up X 19 h) H) (hS : va_S (z_A E) s.heap H locs) {ls : Array Slot} (hl : lv_has ls 6 []) : W p l e rX6_goWear s m args below meth c H locs 0 0 (MQ below (va_Qv (fun X' => ∃ h', X' = z_up X 19 h' ∧ K h') (fun u t => z_P E u t.heap) (z_A E)) args s 0 0 (z_A E)) (F0 m 111 ls [.int t2, .int t1, .ref (z_a E 19 6)]) := by
  obtain ⟨hx, hb, hml, hr, hlocks, hown, hts, hK, hE⟩ := id C
  have hfX6 : ∀ w ∈ u_ws RX6 TX6 15, w ∈ wsX6_goWear := by decide +kernel
  unfold v_X6_goWear_b111 at hw
  obtain ⟨i18, hw⟩ := hw
  obtain ⟨h19, eh19⟩ : ∃ z : z_G, z = z_ss h 6 (z_n t1) t2 := ⟨_, rfl⟩
  replace hw := hw h19 eh19
  refine z_iast (o := 19) (d := 6) (X' := z_up X 19 h19) hx hb hK hE hP hS (hM (19, 6) (List.mem_of_getElem? (i := 6) rfl)) z_l_19_6 i18 (by rw [eh19]; exact z_up_put X 19 h 6 (z_n t1) _) dX6_goWear_111 (fun H locs hP hS => ?_)
  exact z_retv C hP hS ⟨_, rfl, hw⟩ dX6_goWear_112
set_option maxHeartbeats 4000000 in
set_option maxRecDepth 100000 in
theorem m_X6_goWear_b85 {p : Program} {l : Launch} {e : Env} {s : State} {m : MethodId} {args : Array Value} {below : List Frame} {meth : Method} {c : Code} {E : z_E} (C : z_Cx p E s m args meth c cX6_goWear 6 wsX6_goWear RX6 none) (hM : z_mod E) (X : z_X) (K : z_G → Prop) (h : z_G) (x3 : Int32) (x4 : Int32) (x5 : Int32) (t1 : Int32) (t2 : Int32) (hw : v_X6_goWear_b85 K h x3 x4 x5 t1 t2) {H : Heap} {locs : List Loc} (hP : z_P E (z_up X 19 h) H) (hS : va_S (z_A E) s.heap H locs) {ls : Array Slot} (hl : lv_has ls 6 [(0, .ref (z_a E 19 0)), (3, .int x3), (4, .int x4), (5, .int x5)]) : W p l e rX6_goWear s m args below meth c H locs 0 0 (MQ below (va_Qv (fun X' => ∃ h', X' = z_up X 19 h' ∧ K h') (fun u t => z_P E u t.heap) (z_A E)) args s 0 0 (z_A E)) (F0 m 85 ls [.int t2, .int t1, .ref (z_a E 19 6)]) := by
  obtain ⟨hx, hb, hml, hr, hlocks, hown, hts, hK, hE⟩ := id C
  have hfX6 : ∀ w ∈ u_ws RX6 TX6 15, w ∈ wsX6_goWear := by decide +kernel
  unfold v_X6_goWear_b85 at hw
  obtain ⟨i15, hw⟩ := hw
  obtain ⟨h16, eh16⟩ : ∃ z : z_G, z = z_ss h 6 (z_n t1) t2 := ⟨_, rfl⟩
  replace hw := hw h16 eh16
  refine z_iast (o := 19) (d := 6) (X' := z_up X 19 h16) hx hb hK hE hP hS (hM (19, 6) (List.mem_of_getElem? (i := 6) rfl)) z_l_19_6 i15 (by rw [eh16]; exact z_up_put X 19 h 6 (z_n t1) _) dX6_goWear_85 (fun H locs hP hS => ?_)
  refine lv_aload_n hx hb dX6_goWear_86 rfl (lv_at hl 0 rfl) ?_
  refine z_getr (C := RX6) (T := TX6) (N := 15) (ref := "GauntletHallModel") (o := 19) (d := 0) hx hb hts hfX6 hown hK hP (hM (19, 0) (List.mem_of_getElem? (i := 0) rfl)) z_l_19_0 rfl 6 (by decide) (hts (.fieldLink RX6 25 "GauntletHallModel" "side" "[I") (by decide +kernel)) rfl rfl dX6_goWear_87 ?_
  refine lv_iconst (v := (4 : Int32)) hx hb dX6_goWear_90 (by decide) ?_
  refine lv_iload_n hx hb dX6_goWear_91 rfl (lv_at hl 1 rfl) ?_
  refine lv_iadd hx hb dX6_goWear_92 ?_
  refine lv_iload hx hb dX6_goWear_93 (lv_at hl 3 rfl) ?_
  refine lv_iload hx hb dX6_goWear_95 (lv_at hl 2 rfl) ?_
  refine lv_icmp_le (tgt := 110) hx hb dX6_goWear_97 (by decide) (fun c17 => ?_) (fun c17 => ?_)
  · replace hw := hw.1 c17
    refine lv_iconst (v := (0 : Int32)) hx hb dX6_goWear_110 (by decide) ?_
    exact m_X6_goWear_b111 C hM X K h16 ((4 : Int32) + x3) (0 : Int32) hw hP hS (lv_sub hl [] rfl)
  · replace hw := hw.2 c17
    refine lv_iload hx hb dX6_goWear_100 (lv_at hl 3 rfl) ?_
    refine lv_iload hx hb dX6_goWear_102 (lv_at hl 2 rfl) ?_
    refine z_si (rest := [.int ((4 : Int32) + x3), .ref (z_a E 19 6)]) ⟨hx, hb, hml, hown, hts⟩ (m_X6_left l hE (z_up X 19 h16) x5 x4 _ hw) (va_cwS 2 hts gX6_goWear_X6_left rfl rfl rfl (by decide +kernel) ⟨Nat.le_of_ble_eq_true rfl, Nat.le_of_ble_eq_true rfl⟩) hK hP hS rfl hl.1 rfl (Nat.le_of_ble_eq_true rfl) dX6_goWear_104 ⟨Nat.zero_le _, Nat.zero_le _⟩ (fun r20 u H locs hk hP hS => ?_)
    obtain ⟨eu, hw⟩ := hk
    rw [eu] at hP
    refine lv_goto (tgt := 111) hx hb dX6_goWear_107 (by decide) ?_
    exact m_X6_goWear_b111 C hM X K h16 ((4 : Int32) + x3) r20 hw hP hS (lv_sub hl [] rfl)
set_option maxHeartbeats 4000000 in
set_option maxRecDepth 100000 in
theorem m_X6_goWear (l : Launch) {E : z_E} (hE : z_ok E) (hM : z_mod E) (X : z_X) (h : z_G) (x1 : Int32) (x2 : Int32) (K : z_G → Prop) (hw : v_X6_goWear h x1 x2 K) : z_CV l E yX6_goWear wsX6_goWear rX6_goWear [.ref (z_a E 19 0), .int x1, .int x2] (z_up X 19 h) (fun X' => ∃ h', X' = z_up X 19 h' ∧ K h') := by
  refine z_start (cc := cX6_goWear) (maxL := 6) (ret := none) hE (by decide) rfl (Nat.le_of_ble_eq_true rfl) ?_
  intro p e s m below meth c C hP hS ls hl
  have C : z_Cx p E s m _ meth c cX6_goWear 6 wsX6_goWear RX6 none := C
  obtain ⟨hx, hb, hml, hr, hlocks, hown, hts, hK, hE⟩ := id C
  have hl : lv_has ls 6 [(0, .ref (z_a E 19 0)), (1, .int x1), (2, .int x2)] := hl
  have hfX6 : ∀ w ∈ u_ws RX6 TX6 15, w ∈ wsX6_goWear := by decide +kernel
  unfold v_X6_goWear at hw
  refine lv_aload_n hx hb dX6_goWear_0 rfl (lv_at hl 0 rfl) ?_
  refine z_getr (C := RX6) (T := TX6) (N := 15) (ref := "GauntletHallModel") (o := 19) (d := 0) hx hb hts hfX6 hown hK hP (hM (19, 0) (List.mem_of_getElem? (i := 0) rfl)) z_l_19_0 rfl 6 (by decide) (hts (.fieldLink RX6 25 "GauntletHallModel" "side" "[I") (by decide +kernel)) rfl rfl dX6_goWear_1 ?_
  refine lv_bipush (v := (26 : Int32)) hx hb dX6_goWear_4 (by decide) ?_
  refine lv_iload_n hx hb dX6_goWear_6 rfl (lv_at hl 2 rfl) ?_
  refine lv_iadd hx hb dX6_goWear_7 ?_
  obtain ⟨i1, hw⟩ := hw
  refine z_iald (o := 19) (d := 6) hx hb hK hP (hM (19, 6) (List.mem_of_getElem? (i := 6) rfl)) z_l_19_6 i1 (z_up_val X 19 h 6 (z_n ((26 : Int32) + x2))) dX6_goWear_8 ?_
  refine lv_topi (fun y2 ey2 => ?_)
  replace hw := hw y2 ey2
  refine lv_istore_n (lv' := [(3, .int y2), (0, .ref (z_a E 19 0)), (1, .int x1), (2, .int x2)]) hx hb dX6_goWear_9 rfl hl (by decide) rfl (fun ls hl => ?_)
  refine lv_aload_n hx hb dX6_goWear_10 rfl (lv_at hl 1 rfl) ?_
  refine z_getr (C := RX6) (T := TX6) (N := 15) (ref := "GauntletHallModel") (o := 19) (d := 0) hx hb hts hfX6 hown hK hP (hM (19, 0) (List.mem_of_getElem? (i := 0) rfl)) z_l_19_0 rfl 6 (by decide) (hts (.fieldLink RX6 25 "GauntletHallModel" "side" "[I") (by decide +kernel)) rfl rfl dX6_goWear_11 ?_
  refine lv_iconst (v := (3 : Int32)) hx hb dX6_goWear_14 (by decide) ?_
  refine lv_dup2_11 hx hb dX6_goWear_15 rfl rfl ?_
  obtain ⟨i3, hw⟩ := hw
  refine z_iald (o := 19) (d := 6) hx hb hK hP (hM (19, 6) (List.mem_of_getElem? (i := 6) rfl)) z_l_19_6 i3 (z_up_val X 19 h 6 (z_n (3 : Int32))) dX6_goWear_16 ?_
  refine lv_iconst (v := (1 : Int32)) hx hb dX6_goWear_17 (by decide) ?_
  refine lv_iload_n hx hb dX6_goWear_18 rfl (lv_at hl 3 rfl) ?_
  refine lv_ishl hx hb dX6_goWear_19 ?_
  refine lv_iconst (v := (-1 : Int32)) hx hb dX6_goWear_20 (by decide) ?_
  refine lv_ixor hx hb dX6_goWear_21 ?_
  refine lv_iand hx hb dX6_goWear_22 ?_
  obtain ⟨i4, hw⟩ := hw
  obtain ⟨h5, eh5⟩ : ∃ z : z_G, z = z_ss h 6 (z_n (3 : Int32)) ((h 6 (z_n (3 : Int32))) &&& (((1 : Int32) <<< (x2 &&& (31 : Int32))) ^^^ (-1 : Int32))) := ⟨_, rfl⟩
  replace hw := hw h5 eh5
  refine z_iast (o := 19) (d := 6) (X' := z_up X 19 h5) hx hb hK hE hP hS (hM (19, 6) (List.mem_of_getElem? (i := 6) rfl)) z_l_19_6 i4 (by rw [eh5]; exact z_up_put X 19 h 6 (z_n (3 : Int32)) _) dX6_goWear_23 (fun H locs hP hS => ?_)
  refine lv_aload_n hx hb dX6_goWear_24 rfl (lv_at hl 1 rfl) ?_
  refine z_getr (C := RX6) (T := TX6) (N := 15) (ref := "GauntletHallModel") (o := 19) (d := 0) hx hb hts hfX6 hown hK hP (hM (19, 0) (List.mem_of_getElem? (i := 0) rfl)) z_l_19_0 rfl 6 (by decide) (hts (.fieldLink RX6 25 "GauntletHallModel" "side" "[I") (by decide +kernel)) rfl rfl dX6_goWear_25 ?_
  refine lv_iconst (v := (4 : Int32)) hx hb dX6_goWear_28 (by decide) ?_
  refine lv_iload_n hx hb dX6_goWear_29 rfl (lv_at hl 2 rfl) ?_
  refine lv_iadd hx hb dX6_goWear_30 ?_
  obtain ⟨i6, hw⟩ := hw
  refine z_iald (o := 19) (d := 6) hx hb hK hP (hM (19, 6) (List.mem_of_getElem? (i := 6) rfl)) z_l_19_6 i6 (z_up_val X 19 h5 6 (z_n ((4 : Int32) + x1))) dX6_goWear_31 ?_
  refine lv_topi (fun y7 ey7 => ?_)
  replace hw := hw y7 ey7
  refine lv_istore (lv' := [(4, .int y7), (3, .int y2), (0, .ref (z_a E 19 0)), (1, .int x1), (2, .int x2)]) hx hb dX6_goWear_32 hl (by decide) rfl (fun ls hl => ?_)
  refine lv_aload_n hx hb dX6_goWear_34 rfl (lv_at hl 2 rfl) ?_
  refine z_getr (C := RX6) (T := TX6) (N := 15) (ref := "GauntletHallModel") (o := 19) (d := 0) hx hb hts hfX6 hown hK hP (hM (19, 0) (List.mem_of_getElem? (i := 0) rfl)) z_l_19_0 rfl 6 (by decide) (hts (.fieldLink RX6 25 "GauntletHallModel" "side" "[I") (by decide +kernel)) rfl rfl dX6_goWear_35 ?_
  refine lv_iconst (v := (4 : Int32)) hx hb dX6_goWear_38 (by decide) ?_
  refine lv_iload_n hx hb dX6_goWear_39 rfl (lv_at hl 1 rfl) ?_
  refine lv_iadd hx hb dX6_goWear_40 ?_
  obtain ⟨i8, hw⟩ := hw
  refine z_iald (o := 19) (d := 6) hx hb hK hP (hM (19, 6) (List.mem_of_getElem? (i := 6) rfl)) z_l_19_6 i8 (z_up_val X 19 h5 6 (z_n ((4 : Int32) + y2))) dX6_goWear_41 ?_
  refine lv_topi (fun y9 ey9 => ?_)
  replace hw := hw y9 ey9
  refine lv_istore (lv' := [(5, .int y9), (4, .int y7), (3, .int y2), (0, .ref (z_a E 19 0)), (1, .int x1), (2, .int x2)]) hx hb dX6_goWear_42 hl (by decide) rfl (fun ls hl => ?_)
  refine lv_iload hx hb dX6_goWear_44 (lv_at hl 0 rfl) ?_
  refine lv_if_ne (tgt := 50) hx hb dX6_goWear_46 (by decide) (fun c10 => ?_) (fun c10 => ?_)
  · replace hw := hw.1 c10
    refine lv_aload_n hx hb dX6_goWear_50 rfl (lv_at hl 3 rfl) ?_
    refine z_getr (C := RX6) (T := TX6) (N := 15) (ref := "GauntletHallModel") (o := 19) (d := 0) hx hb hts hfX6 hown hK hP (hM (19, 0) (List.mem_of_getElem? (i := 0) rfl)) z_l_19_0 rfl 6 (by decide) (hts (.fieldLink RX6 25 "GauntletHallModel" "side" "[I") (by decide +kernel)) rfl rfl dX6_goWear_51 ?_
    refine lv_iconst (v := (1 : Int32)) hx hb dX6_goWear_54 (by decide) ?_
    refine lv_dup2_11 hx hb dX6_goWear_55 rfl rfl ?_
    obtain ⟨i11, hw⟩ := hw
    refine z_iald (o := 19) (d := 6) hx hb hK hP (hM (19, 6) (List.mem_of_getElem? (i := 6) rfl)) z_l_19_6 i11 (z_up_val X 19 h5 6 (z_n (1 : Int32))) dX6_goWear_56 ?_
    refine lv_iconst (v := (1 : Int32)) hx hb dX6_goWear_57 (by decide) ?_
    refine lv_iadd hx hb dX6_goWear_58 ?_
    obtain ⟨i12, hw⟩ := hw
    obtain ⟨h13, eh13⟩ : ∃ z : z_G, z = z_ss h5 6 (z_n (1 : Int32)) ((h5 6 (z_n (1 : Int32))) + (1 : Int32)) := ⟨_, rfl⟩
    replace hw := hw h13 eh13
    refine z_iast (o := 19) (d := 6) (X' := z_up X 19 h13) hx hb hK hE hP hS (hM (19, 6) (List.mem_of_getElem? (i := 6) rfl)) z_l_19_6 i12 (by rw [eh13]; exact z_up_put X 19 h5 6 (z_n (1 : Int32)) _) dX6_goWear_59 (fun H locs hP hS => ?_)
    refine lv_aload_n hx hb dX6_goWear_60 rfl (lv_at hl 3 rfl) ?_
    refine z_getr (C := RX6) (T := TX6) (N := 15) (ref := "GauntletHallModel") (o := 19) (d := 0) hx hb hts hfX6 hown hK hP (hM (19, 0) (List.mem_of_getElem? (i := 0) rfl)) z_l_19_0 rfl 6 (by decide) (hts (.fieldLink RX6 25 "GauntletHallModel" "side" "[I") (by decide +kernel)) rfl rfl dX6_goWear_61 ?_
    refine lv_iconst (v := (4 : Int32)) hx hb dX6_goWear_64 (by decide) ?_
    refine lv_iload_n hx hb dX6_goWear_65 rfl (lv_at hl 4 rfl) ?_
    refine lv_iadd hx hb dX6_goWear_66 ?_
    refine lv_iload hx hb dX6_goWear_67 (lv_at hl 1 rfl) ?_
    refine lv_iload hx hb dX6_goWear_69 (lv_at hl 0 rfl) ?_
    refine lv_icmp_le (tgt := 84) hx hb dX6_goWear_71 (by decide) (fun c14 => ?_) (fun c14 => ?_)
    · replace hw := hw.1 c14
      refine lv_iconst (v := (0 : Int32)) hx hb dX6_goWear_84 (by decide) ?_
      exact m_X6_goWear_b85 C hM X K h13 y2 y7 y9 ((4 : Int32) + x1) (0 : Int32) hw hP hS (lv_sub hl [3, 2, 1, 0] rfl)
    · replace hw := hw.2 c14
      refine lv_iload hx hb dX6_goWear_74 (lv_at hl 1 rfl) ?_
      refine lv_iload hx hb dX6_goWear_76 (lv_at hl 0 rfl) ?_
      refine z_si (rest := [.int ((4 : Int32) + x1), .ref (z_a E 19 6)]) ⟨hx, hb, hml, hown, hts⟩ (m_X6_left l hE (z_up X 19 h13) y7 y9 _ hw) (va_cwS 2 hts gX6_goWear_X6_left rfl rfl rfl (by decide +kernel) ⟨Nat.le_of_ble_eq_true rfl, Nat.le_of_ble_eq_true rfl⟩) hK hP hS rfl hl.1 rfl (Nat.le_of_ble_eq_true rfl) dX6_goWear_78 ⟨Nat.zero_le _, Nat.zero_le _⟩ (fun r21 u H locs hk hP hS => ?_)
      obtain ⟨eu, hw⟩ := hk
      rw [eu] at hP
      refine lv_goto (tgt := 85) hx hb dX6_goWear_81 (by decide) ?_
      exact m_X6_goWear_b85 C hM X K h13 y2 y7 y9 ((4 : Int32) + x1) r21 hw hP hS (lv_sub hl [3, 2, 1, 0] rfl)
  · replace hw := hw.2 c10
    exact z_retv C hP hS ⟨_, rfl, hw⟩ dX6_goWear_49
