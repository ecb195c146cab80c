/-! ===== PRINTED (wip/whole/gen/gen.py): the machine meets each definition: X6.numbers, X6.personIs, X6.gloveIs, X6.item, X6.readAll, X6.fault ===== -/
set_option maxHeartbeats 4000000 in
set_option maxRecDepth 100000 in
theorem m_X6_numbers_b102 {p : Program} {l : Launch} {e : Env} {s : State} {m : MethodId} {args : Array Value} {below : List Frame} {meth : Method} {c : Code} {E : z_E} (C : z_Cx p E s m args meth c cX6_numbers 4 wsX6_numbers RX6 (some .boolean)) (hM : z_mod E) (X : z_X) (K : Int32 → z_G → Prop) (L2 : z_G → Int32 → Prop) (k2 : ∀ (h : z_G) (x1 : Int32), L2 h x1 → ∀ {H : Heap} {locs : List Loc}, z_P E (z_up X 19 h) H → va_S (z_A E) s.heap H locs → ∀ (ls : Array Slot), lv_has ls 4 [(0, .ref (z_a E 19 0)), (1, .int x1)] → W p l e rX6_numbers s m args below meth c H locs 0 0 (MQ below (va_Qi (fun r X' => ∃ h', X' = z_up X 19 h' ∧ K r h') (fun u t => z_P E u t.heap) (z_A E)) args s 0 0 (z_A E)) (F0 m 2 ls [])) (h : z_G) (x1 : Int32) (x3 : Int32) (t0 : Int32) (t1 : Int32) (hw : v_X6_numbers_b102 K L2 h x1 x3 t0 t1) {H : Heap} {locs : List Loc} (hP : z_P E (z_up X 19 h) H) (hS : va_S (z_A E) s.heap H locs) {ls : Array Slot} (hl : lv_has ls 4 [(0, .ref (z_a E 19 0)), (1, .int x1), (3, .int x3)]) : W p l e rX6_numbers s m args below meth c H locs 0 0 (MQ below (va_Qi (fun r X' => ∃ h', X' = z_up X 19 h' ∧ K r h') (fun u t => z_P E u t.heap) (z_A E)) args s 0 0 (z_A E)) (F0 m 102 ls [.int t1, .int t0]) := by
  obtain ⟨hx, hb, hml, hr, hlocks, hown, hts, hK, hE⟩ := id C
  have hfX6 : ∀ w ∈ u_ws RX6 TX6 15, w ∈ wsX6_numbers := by decide +kernel
  unfold v_X6_numbers_b102 at hw
  refine lv_icmp_eq (tgt := 107) hx hb dX6_numbers_102 (by decide) (fun c9 => ?_) (fun c9 => ?_)
  · replace hw := hw.1 c9
    refine lv_aload_n hx hb dX6_numbers_107 rfl (lv_at hl 0 rfl) ?_
    refine z_getr (C := RX6) (T := TX6) (N := 15) (ref := "GauntletHallModel") (o := 19) (d := 0) hx hb hts hfX6 hown hK hP (hM (19, 0) (List.mem_of_getElem? (i := 0) rfl)) z_l_19_0 rfl 14 (by decide) (hts (.fieldLink RX6 37 "GauntletHallModel" "number" "[I") (by decide +kernel)) rfl rfl dX6_numbers_108 ?_
    refine lv_iload_n hx hb dX6_numbers_111 rfl (lv_at hl 1 rfl) ?_
    refine lv_iload_n hx hb dX6_numbers_112 rfl (lv_at hl 2 rfl) ?_
    obtain ⟨i10, hw⟩ := hw
    obtain ⟨h11, eh11⟩ : ∃ z : z_G, z = z_ss h 14 (z_n x1) x3 := ⟨_, rfl⟩
    replace hw := hw h11 eh11
    refine z_iast (o := 19) (d := 14) (X' := z_up X 19 h11) hx hb hK hE hP hS (hM (19, 14) (List.mem_of_getElem? (i := 10) rfl)) z_l_19_14 i10 (by rw [eh11]; exact z_up_put X 19 h 14 (z_n x1) _) dX6_numbers_113 (fun H locs hP hS => ?_)
    refine lv_aload_n hx hb dX6_numbers_114 rfl (lv_at hl 0 rfl) ?_
    refine lv_dup hx hb dX6_numbers_115 rfl ?_
    refine z_geti (C := RX6) (T := TX6) (N := 15) (ref := "GauntletHallModel") (o := 19) (d := 0) hx hb hts hfX6 hown hK hP (hM (19, 0) (List.mem_of_getElem? (i := 0) rfl)) z_l_19_0 rfl 13 (by decide) (hts (.fieldLink RX6 65 "GauntletHallModel" "spot" "I") (by decide +kernel)) rfl rfl (z_up_val X 19 h11 0 13) dX6_numbers_116 ?_
    refine lv_iconst (v := (1 : Int32)) hx hb dX6_numbers_119 (by decide) ?_
    refine lv_iadd hx hb dX6_numbers_120 ?_
    obtain ⟨h12, eh12⟩ : ∃ z : z_G, z = z_ss h11 0 13 ((h11 0 13) + (1 : Int32)) := ⟨_, rfl⟩
    replace hw := hw h12 eh12
    refine z_puti (C := RX6) (T := TX6) (N := 15) (ref := "GauntletHallModel") (o := 19) (d := 0) (X' := z_up X 19 h12) hx hb hts hfX6 tyX6 tyX6_ok nmX6 hown hK hE hP hS (hM (19, 0) (List.mem_of_getElem? (i := 0) rfl)) z_l_19_0 rfl 13 (by decide) (hts (.fieldLink RX6 65 "GauntletHallModel" "spot" "I") (by decide +kernel)) rfl rfl (by decide +kernel) rfl (by rw [eh12]; exact z_up_put X 19 h11 0 13 _) dX6_numbers_121 (fun H locs hP hS => ?_)
    obtain ⟨y13, ey13⟩ : ∃ z : Int32, z = x1 + (1 : Int32) := ⟨_, rfl⟩
    replace hw := hw y13 ey13
    refine lv_iinc (v := y13) (lv' := [(1, .int y13), (0, .ref (z_a E 19 0)), (3, .int x3)]) hx hb dX6_numbers_124 hl (k := 1) rfl (by rw [ey13]; rfl) (by decide) rfl (fun ls hl => ?_)
    refine lv_goto (tgt := 2) hx hb dX6_numbers_127 (by decide) ?_
    exact k2 h12 y13 hw hP hS _ (lv_sub hl [1, 0] rfl)
  · replace hw := hw.2 c9
    refine lv_iconst (v := (0 : Int32)) hx hb dX6_numbers_105 (by decide) ?_
    exact z_retz C (Or.inl rfl) hP hS ⟨_, rfl, hw⟩ dX6_numbers_106
set_option maxHeartbeats 4000000 in
set_option maxRecDepth 100000 in
theorem m_X6_numbers_b70 {p : Program} {l : Launch} {e : Env} {s : State} {m : MethodId} {args : Array Value} {below : List Frame} {meth : Method} {c : Code} {E : z_E} (C : z_Cx p E s m args meth c cX6_numbers 4 wsX6_numbers RX6 (some .boolean)) (hM : z_mod E) (X : z_X) (K : Int32 → z_G → Prop) (L2 : z_G → Int32 → Prop) (k2 : ∀ (h : z_G) (x1 : Int32), L2 h x1 → ∀ {H : Heap} {locs : List Loc}, z_P E (z_up X 19 h) H → va_S (z_A E) s.heap H locs → ∀ (ls : Array Slot), lv_has ls 4 [(0, .ref (z_a E 19 0)), (1, .int x1)] → W p l e rX6_numbers s m args below meth c H locs 0 0 (MQ below (va_Qi (fun r X' => ∃ h', X' = z_up X 19 h' ∧ K r h') (fun u t => z_P E u t.heap) (z_A E)) args s 0 0 (z_A E)) (F0 m 2 ls [])) (h : z_G) (x1 : Int32) (x2 : Int32) (x3 : Int32) (hw : v_X6_numbers_b70 K L2 h x1 x2 x3) {H : Heap} {locs : List Loc} (hP : z_P E (z_up X 19 h) H) (hS : va_S (z_A E) s.heap H locs) {ls : Array Slot} (hl : lv_has ls 4 [(0, .ref (z_a E 19 0)), (1, .int x1), (2, .int x2), (3, .int x3)]) : W p l e rX6_numbers s m args below meth c H locs 0 0 (MQ below (va_Qi (fun r X' => ∃ h', X' = z_up X 19 h' ∧ K r h') (fun u t => z_P E u t.heap) (z_A E)) args s 0 0 (z_A E)) (F0 m 70 ls []) := by
  obtain ⟨hx, hb, hml, hr, hlocks, hown, hts, hK, hE⟩ := id C
  have hfX6 : ∀ w ∈ u_ws RX6 TX6 15, w ∈ wsX6_numbers := by decide +kernel
  unfold v_X6_numbers_b70 at hw
  refine lv_iload_n hx hb dX6_numbers_70 rfl (lv_at hl 2 rfl) ?_
  refine lv_i2l hx hb dX6_numbers_71 rfl ?_
  refine lv_lconst (v := (1 : Int64)) hx hb dX6_numbers_72 (by decide) ?_
  refine lv_ldc2 hx hb hown (hts (.constantLong RX6 76 (2)) (by decide +kernel)) dX6_numbers_73 ?_
  refine z_si (rest := []) ⟨hx, hb, hml, hown, hts⟩ (m_X6_in l hE (z_up X 19 h) (Int32.toInt64 x2) (1 : Int64) (2 : Int64) _ hw) (va_cwS 3 hts gX6_numbers_X6_in rfl rfl rfl (by decide +kernel) ⟨Nat.le_of_ble_eq_true rfl, Nat.le_of_ble_eq_true rfl⟩) hK hP hS rfl hl.1 rfl (Nat.le_of_ble_eq_true rfl) dX6_numbers_76 ⟨Nat.zero_le _, Nat.zero_le _⟩ (fun r5 u H locs hk hP hS => ?_)
  obtain ⟨eu, hw⟩ := hk
  rw [eu] at hP
  refine lv_if_eq (tgt := 105) hx hb dX6_numbers_79 (by decide) (fun c6 => ?_) (fun c6 => ?_)
  · replace hw := hw.1 c6
    refine lv_iconst (v := (0 : Int32)) hx hb dX6_numbers_105 (by decide) ?_
    exact z_retz C (Or.inl rfl) hP hS ⟨_, rfl, hw⟩ dX6_numbers_106
  · replace hw := hw.2 c6
    refine lv_aload_n hx hb dX6_numbers_82 rfl (lv_at hl 0 rfl) ?_
    refine lv_aload_n hx hb dX6_numbers_83 rfl (lv_at hl 0 rfl) ?_
    refine z_geti (C := RX6) (T := TX6) (N := 15) (ref := "GauntletHallModel") (o := 19) (d := 0) hx hb hts hfX6 hown hK hP (hM (19, 0) (List.mem_of_getElem? (i := 0) rfl)) z_l_19_0 rfl 13 (by decide) (hts (.fieldLink RX6 65 "GauntletHallModel" "spot" "I") (by decide +kernel)) rfl rfl (z_up_val X 19 h 0 13) dX6_numbers_84 ?_
    refine z_vi (C := RX6) (T := TX6) (N := 15) (o := 19) (rest := []) ⟨hx, hb, hml, hown, hts⟩ (m_X6_letterAt l hE hM X h (h 0 13) _ hw) (cwV 1 hts gX6_numbers_X6_letterAt rfl rfl rfl (by decide +kernel) ⟨Nat.le_of_ble_eq_true rfl, Nat.le_of_ble_eq_true rfl⟩) hK hP hS (hM (19, 0) (List.mem_of_getElem? (i := 0) rfl)) z_l_19_0 rfl rfl hl.1 rfl (Nat.le_of_ble_eq_true rfl) dX6_numbers_87 ⟨Nat.zero_le _, Nat.zero_le _⟩ (fun r7 u H locs hk hP hS => ?_)
    obtain ⟨eu, hw⟩ := hk
    rw [eu] at hP
    refine lv_iload_n hx hb dX6_numbers_90 rfl (lv_at hl 1 rfl) ?_
    refine lv_iconst (v := (2 : Int32)) hx hb dX6_numbers_91 (by decide) ?_
    refine lv_icmp_ge (tgt := 100) hx hb dX6_numbers_92 (by decide) (fun c8 => ?_) (fun c8 => ?_)
    · replace hw := hw.1 c8
      refine lv_bipush (v := (59 : Int32)) hx hb dX6_numbers_100 (by decide) ?_
      exact m_X6_numbers_b102 C hM X K L2 k2 h x1 x3 r7 (59 : Int32) hw hP hS (lv_sub hl [0, 1, 3] rfl)
    · replace hw := hw.2 c8
      refine lv_bipush (v := (44 : Int32)) hx hb dX6_numbers_95 (by decide) ?_
      refine lv_goto (tgt := 102) hx hb dX6_numbers_97 (by decide) ?_
      exact m_X6_numbers_b102 C hM X K L2 k2 h x1 x3 r7 (44 : Int32) hw hP hS (lv_sub hl [0, 1, 3] rfl)
set_option maxHeartbeats 4000000 in
set_option maxRecDepth 100000 in
theorem m_X6_numbers_b11_s {p : Program} {l : Launch} {e : Env} {s : State} {m : MethodId} {args : Array Value} {below : List Frame} {meth : Method} {c : Code} {E : z_E} (C : z_Cx p E s m args meth c cX6_numbers 4 wsX6_numbers RX6 (some .boolean)) (hM : z_mod E) (X : z_X) (K : Int32 → z_G → Prop) (L2 : z_G → Int32 → Prop) (k2 : ∀ (h : z_G) (x1 : Int32), L2 h x1 → ∀ {H : Heap} {locs : List Loc}, z_P E (z_up X 19 h) H → va_S (z_A E) s.heap H locs → ∀ (ls : Array Slot), lv_has ls 4 [(0, .ref (z_a E 19 0)), (1, .int x1)] → W p l e rX6_numbers s m args below meth c H locs 0 0 (MQ below (va_Qi (fun r X' => ∃ h', X' = z_up X 19 h' ∧ K r h') (fun u t => z_P E u t.heap) (z_A E)) args s 0 0 (z_A E)) (F0 m 2 ls [])) (L11 : z_G → Int32 → Int32 → Int32 → Prop) (k11 : ∀ (h : z_G) (x1 : Int32) (x2 : Int32) (x3 : Int32), L11 h x1 x2 x3 → ∀ {H : Heap} {locs : List Loc}, z_P E (z_up X 19 h) H → va_S (z_A E) s.heap H locs → ∀ (ls : Array Slot), lv_has ls 4 [(0, .ref (z_a E 19 0)), (1, .int x1), (2, .int x2), (3, .int x3)] → W p l e rX6_numbers s m args below meth c H locs 0 0 (MQ below (va_Qi (fun r X' => ∃ h', X' = z_up X 19 h' ∧ K r h') (fun u t => z_P E u t.heap) (z_A E)) args s 0 0 (z_A E)) (F0 m 11 ls [])) (h : z_G) (x1 : Int32) (x2 : Int32) (x3 : Int32) (hw : v_X6_numbers_b11_s K L2 L11 h x1 x2 x3) {H : Heap} {locs : List Loc} (hP : z_P E (z_up X 19 h) H) (hS : va_S (z_A E) s.heap H locs) {ls : Array Slot} (hl : lv_has ls 4 [(0, .ref (z_a E 19 0)), (1, .int x1), (2, .int x2), (3, .int x3)]) : W p l e rX6_numbers s m args below meth c H locs 0 0 (MQ below (va_Qi (fun r X' => ∃ h', X' = z_up X 19 h' ∧ K r h') (fun u t => z_P E u t.heap) (z_A E)) args s 0 0 (z_A E)) (F0 m 11 ls []) := by
  obtain ⟨hx, hb, hml, hr, hlocks, hown, hts, hK, hE⟩ := id C
  have hfX6 : ∀ w ∈ u_ws RX6 TX6 15, w ∈ wsX6_numbers := by decide +kernel
  unfold v_X6_numbers_b11_s at hw
  refine lv_aload_n hx hb dX6_numbers_11 rfl (lv_at hl 0 rfl) ?_
  refine lv_aload_n hx hb dX6_numbers_12 rfl (lv_at hl 0 rfl) ?_
  refine z_geti (C := RX6) (T := TX6) (N := 15) (ref := "GauntletHallModel") (o := 19) (d := 0) hx hb hts hfX6 hown hK hP (hM (19, 0) (List.mem_of_getElem? (i := 0) rfl)) z_l_19_0 rfl 13 (by decide) (hts (.fieldLink RX6 65 "GauntletHallModel" "spot" "I") (by decide +kernel)) rfl rfl (z_up_val X 19 h 0 13) dX6_numbers_13 ?_
  refine z_vi (C := RX6) (T := TX6) (N := 15) (o := 19) (rest := []) ⟨hx, hb, hml, hown, hts⟩ (m_X6_letterAt l hE hM X h (h 0 13) _ hw) (cwV 1 hts gX6_numbers_X6_letterAt rfl rfl rfl (by decide +kernel) ⟨Nat.le_of_ble_eq_true rfl, Nat.le_of_ble_eq_true rfl⟩) hK hP hS (hM (19, 0) (List.mem_of_getElem? (i := 0) rfl)) z_l_19_0 rfl rfl hl.1 rfl (Nat.le_of_ble_eq_true rfl) dX6_numbers_16 ⟨Nat.zero_le _, Nat.zero_le _⟩ (fun r2 u H locs hk hP hS => ?_)
  obtain ⟨eu, hw⟩ := hk
  rw [eu] at hP
  refine lv_i2l hx hb dX6_numbers_19 rfl ?_
  refine lv_ldc2 hx hb hown (hts (.constantLong RX6 72 (48)) (by decide +kernel)) dX6_numbers_20 ?_
  refine lv_ldc2 hx hb hown (hts (.constantLong RX6 74 (57)) (by decide +kernel)) dX6_numbers_23 ?_
  refine z_si (rest := []) ⟨hx, hb, hml, hown, hts⟩ (m_X6_in l hE (z_up X 19 h) (Int32.toInt64 r2) (48 : Int64) (57 : Int64) _ hw) (va_cwS 3 hts gX6_numbers_X6_in rfl rfl rfl (by decide +kernel) ⟨Nat.le_of_ble_eq_true rfl, Nat.le_of_ble_eq_true rfl⟩) hK hP hS rfl hl.1 rfl (Nat.le_of_ble_eq_true rfl) dX6_numbers_26 ⟨Nat.zero_le _, Nat.zero_le _⟩ (fun r3 u H locs hk hP hS => ?_)
  obtain ⟨eu, hw⟩ := hk
  rw [eu] at hP
  refine lv_if_eq (tgt := 70) hx hb dX6_numbers_29 (by decide) (fun c4 => ?_) (fun c4 => ?_)
  · replace hw := hw.1 c4
    exact m_X6_numbers_b70 C hM X K L2 k2 h x1 x2 x3 hw hP hS (lv_sub hl [0, 1, 2, 3] rfl)
  · replace hw := hw.2 c4
    refine lv_iload_n hx hb dX6_numbers_32 rfl (lv_at hl 2 rfl) ?_
    refine lv_iconst (v := (3 : Int32)) hx hb dX6_numbers_33 (by decide) ?_
    refine lv_icmp_ge (tgt := 70) hx hb dX6_numbers_34 (by decide) (fun c14 => ?_) (fun c14 => ?_)
    · replace hw := hw.1 c14
      exact m_X6_numbers_b70 C hM X K L2 k2 h x1 x2 x3 hw hP hS (lv_sub hl [0, 1, 2, 3] rfl)
    · replace hw := hw.2 c14
      refine lv_bipush (v := (10 : Int32)) hx hb dX6_numbers_37 (by decide) ?_
      refine lv_iload_n hx hb dX6_numbers_39 rfl (lv_at hl 3 rfl) ?_
      refine lv_imul hx hb dX6_numbers_40 ?_
      refine lv_aload_n hx hb dX6_numbers_41 rfl (lv_at hl 0 rfl) ?_
      refine lv_aload_n hx hb dX6_numbers_42 rfl (lv_at hl 0 rfl) ?_
      refine z_geti (C := RX6) (T := TX6) (N := 15) (ref := "GauntletHallModel") (o := 19) (d := 0) hx hb hts hfX6 hown hK hP (hM (19, 0) (List.mem_of_getElem? (i := 0) rfl)) z_l_19_0 rfl 13 (by decide) (hts (.fieldLink RX6 65 "GauntletHallModel" "spot" "I") (by decide +kernel)) rfl rfl (z_up_val X 19 h 0 13) dX6_numbers_43 ?_
      refine z_vi (C := RX6) (T := TX6) (N := 15) (o := 19) (rest := [.int ((10 : Int32) * x3)]) ⟨hx, hb, hml, hown, hts⟩ (m_X6_letterAt l hE hM X h (h 0 13) _ hw) (cwV 1 hts gX6_numbers_X6_letterAt rfl rfl rfl (by decide +kernel) ⟨Nat.le_of_ble_eq_true rfl, Nat.le_of_ble_eq_true rfl⟩) hK hP hS (hM (19, 0) (List.mem_of_getElem? (i := 0) rfl)) z_l_19_0 rfl rfl hl.1 rfl (Nat.le_of_ble_eq_true rfl) dX6_numbers_46 ⟨Nat.zero_le _, Nat.zero_le _⟩ (fun r15 u H locs hk hP hS => ?_)
      obtain ⟨eu, hw⟩ := hk
      rw [eu] at hP
      refine lv_iadd hx hb dX6_numbers_49 ?_
      refine lv_bipush (v := (48 : Int32)) hx hb dX6_numbers_50 (by decide) ?_
      refine lv_isub hx hb dX6_numbers_52 ?_
      refine lv_topi (fun y16 ey16 => ?_)
      replace hw := hw y16 ey16
      refine lv_istore_n (lv' := [(3, .int y16), (0, .ref (z_a E 19 0)), (1, .int x1), (2, .int x2)]) hx hb dX6_numbers_53 rfl hl (by decide) rfl (fun ls hl => ?_)
      obtain ⟨y17, ey17⟩ : ∃ z : Int32, z = x2 + (1 : Int32) := ⟨_, rfl⟩
      replace hw := hw y17 ey17
      refine lv_iinc (v := y17) (lv' := [(2, .int y17), (3, .int y16), (0, .ref (z_a E 19 0)), (1, .int x1)]) hx hb dX6_numbers_54 hl (k := 3) rfl (by rw [ey17]; rfl) (by decide) rfl (fun ls hl => ?_)
      refine lv_aload_n hx hb dX6_numbers_57 rfl (lv_at hl 2 rfl) ?_
      refine lv_dup hx hb dX6_numbers_58 rfl ?_
      refine z_geti (C := RX6) (T := TX6) (N := 15) (ref := "GauntletHallModel") (o := 19) (d := 0) hx hb hts hfX6 hown hK hP (hM (19, 0) (List.mem_of_getElem? (i := 0) rfl)) z_l_19_0 rfl 13 (by decide) (hts (.fieldLink RX6 65 "GauntletHallModel" "spot" "I") (by decide +kernel)) rfl rfl (z_up_val X 19 h 0 13) dX6_numbers_59 ?_
      refine lv_iconst (v := (1 : Int32)) hx hb dX6_numbers_62 (by decide) ?_
      refine lv_iadd hx hb dX6_numbers_63 ?_
      obtain ⟨h18, eh18⟩ : ∃ z : z_G, z = z_ss h 0 13 ((h 0 13) + (1 : Int32)) := ⟨_, rfl⟩
      replace hw := hw h18 eh18
      refine z_puti (C := RX6) (T := TX6) (N := 15) (ref := "GauntletHallModel") (o := 19) (d := 0) (X' := z_up X 19 h18) hx hb hts hfX6 tyX6 tyX6_ok nmX6 hown hK hE hP hS (hM (19, 0) (List.mem_of_getElem? (i := 0) rfl)) z_l_19_0 rfl 13 (by decide) (hts (.fieldLink RX6 65 "GauntletHallModel" "spot" "I") (by decide +kernel)) rfl rfl (by decide +kernel) rfl (by rw [eh18]; exact z_up_put X 19 h 0 13 _) dX6_numbers_64 (fun H locs hP hS => ?_)
      refine lv_goto (tgt := 11) hx hb dX6_numbers_67 (by decide) ?_
      exact k11 h18 x1 y17 y16 hw hP hS _ (lv_sub hl [2, 3, 0, 1] rfl)
theorem m_X6_numbers_b11 {p : Program} {l : Launch} {e : Env} {s : State} {m : MethodId} {args : Array Value} {below : List Frame} {meth : Method} {c : Code} {E : z_E} (C : z_Cx p E s m args meth c cX6_numbers 4 wsX6_numbers RX6 (some .boolean)) (hM : z_mod E) (X : z_X) (K : Int32 → z_G → Prop) (L2 : z_G → Int32 → Prop) (k2 : ∀ (h : z_G) (x1 : Int32), L2 h x1 → ∀ {H : Heap} {locs : List Loc}, z_P E (z_up X 19 h) H → va_S (z_A E) s.heap H locs → ∀ (ls : Array Slot), lv_has ls 4 [(0, .ref (z_a E 19 0)), (1, .int x1)] → W p l e rX6_numbers s m args below meth c H locs 0 0 (MQ below (va_Qi (fun r X' => ∃ h', X' = z_up X 19 h' ∧ K r h') (fun u t => z_P E u t.heap) (z_A E)) args s 0 0 (z_A E)) (F0 m 2 ls [])) (h : z_G) (x1 : Int32) (x2 : Int32) (x3 : Int32) (hw : v_X6_numbers_b11 K L2 h x1 x2 x3) {H : Heap} {locs : List Loc} (hP : z_P E (z_up X 19 h) H) (hS : va_S (z_A E) s.heap H locs) {ls : Array Slot} (hl : lv_has ls 4 [(0, .ref (z_a E 19 0)), (1, .int x1), (2, .int x2), (3, .int x3)]) : W p l e rX6_numbers s m args below meth c H locs 0 0 (MQ below (va_Qi (fun r X' => ∃ h', X' = z_up X 19 h' ∧ K r h') (fun u t => z_P E u t.heap) (z_A E)) args s 0 0 (z_A E)) (F0 m 11 ls []) := by
  obtain ⟨n, hw⟩ := hw
  revert hw hP hS hl
  revert h x1 x2 x3 H locs ls
  induction n with
  | zero => intro h x1 x2 x3 H locs ls hP hS hl hw; exact hw.elim
  | succ n ih =>
    intro h x1 x2 x3 H locs ls hP hS hl hw
    exact m_X6_numbers_b11_s C hM X K L2 k2 (fun h x1 x2 x3 => z_fp (σ := z_G × Int32 × Int32 × Int32) (fun Lp q => v_X6_numbers_b11_s K L2 (fun h x1 x2 x3 => Lp (h, x1, x2, x3)) q.1 q.2.1 q.2.2.1 q.2.2.2) n (h, x1, x2, x3)) (fun h x1 x2 x3 h9 H locs hP hS ls hl => ih h x1 x2 x3 hP hS hl h9) h x1 x2 x3 hw hP hS hl
set_option maxHeartbeats 4000000 in
set_option maxRecDepth 100000 in
theorem m_X6_numbers_b2_s {p : Program} {l : Launch} {e : Env} {s : State} {m : MethodId} {args : Array Value} {below : List Frame} {meth : Method} {c : Code} {E : z_E} (C : z_Cx p E s m args meth c cX6_numbers 4 wsX6_numbers RX6 (some .boolean)) (hM : z_mod E) (X : z_X) (K : Int32 → z_G → Prop) (L2 : z_G → Int32 → Prop) (k2 : ∀ (h : z_G) (x1 : Int32), L2 h x1 → ∀ {H : Heap} {locs : List Loc}, z_P E (z_up X 19 h) H → va_S (z_A E) s.heap H locs → ∀ (ls : Array Slot), lv_has ls 4 [(0, .ref (z_a E 19 0)), (1, .int x1)] → W p l e rX6_numbers s m args below meth c H locs 0 0 (MQ below (va_Qi (fun r X' => ∃ h', X' = z_up X 19 h' ∧ K r h') (fun u t => z_P E u t.heap) (z_A E)) args s 0 0 (z_A E)) (F0 m 2 ls [])) (h : z_G) (x1 : Int32) (hw : v_X6_numbers_b2_s K L2 h x1) {H : Heap} {locs : List Loc} (hP : z_P E (z_up X 19 h) H) (hS : va_S (z_A E) s.heap H locs) {ls : Array Slot} (hl : lv_has ls 4 [(0, .ref (z_a E 19 0)), (1, .int x1)]) : W p l e rX6_numbers s m args below meth c H locs 0 0 (MQ below (va_Qi (fun r X' => ∃ h', X' = z_up X 19 h' ∧ K r h') (fun u t => z_P E u t.heap) (z_A E)) args s 0 0 (z_A E)) (F0 m 2 ls []) := by
  obtain ⟨hx, hb, hml, hr, hlocks, hown, hts, hK, hE⟩ := id C
  have hfX6 : ∀ w ∈ u_ws RX6 TX6 15, w ∈ wsX6_numbers := by decide +kernel
  unfold v_X6_numbers_b2_s at hw
  refine lv_iload_n hx hb dX6_numbers_2 rfl (lv_at hl 1 rfl) ?_
  refine lv_iconst (v := (3 : Int32)) hx hb dX6_numbers_3 (by decide) ?_
  refine lv_icmp_ge (tgt := 130) hx hb dX6_numbers_4 (by decide) (fun c1 => ?_) (fun c1 => ?_)
  · replace hw := hw.1 c1
    refine lv_iconst (v := (1 : Int32)) hx hb dX6_numbers_130 (by decide) ?_
    exact z_retz C (Or.inr rfl) hP hS ⟨_, rfl, hw⟩ dX6_numbers_131
  · replace hw := hw.2 c1
    refine lv_iconst (v := (0 : Int32)) hx hb dX6_numbers_7 (by decide) ?_
    refine lv_istore_n (lv' := [(2, .int (0 : Int32)), (0, .ref (z_a E 19 0)), (1, .int x1)]) hx hb dX6_numbers_8 rfl hl (by decide) rfl (fun ls hl => ?_)
    refine lv_iconst (v := (0 : Int32)) hx hb dX6_numbers_9 (by decide) ?_
    refine lv_istore_n (lv' := [(3, .int (0 : Int32)), (2, .int (0 : Int32)), (0, .ref (z_a E 19 0)), (1, .int x1)]) hx hb dX6_numbers_10 rfl hl (by decide) rfl (fun ls hl => ?_)
    exact m_X6_numbers_b11 C hM X K L2 k2 h x1 (0 : Int32) (0 : Int32) hw hP hS (lv_sub hl [2, 3, 1, 0] rfl)
theorem m_X6_numbers_b2 {p : Program} {l : Launch} {e : Env} {s : State} {m : MethodId} {args : Array Value} {below : List Frame} {meth : Method} {c : Code} {E : z_E} (C : z_Cx p E s m args meth c cX6_numbers 4 wsX6_numbers RX6 (some .boolean)) (hM : z_mod E) (X : z_X) (K : Int32 → z_G → Prop) (h : z_G) (x1 : Int32) (hw : v_X6_numbers_b2 K h x1) {H : Heap} {locs : List Loc} (hP : z_P E (z_up X 19 h) H) (hS : va_S (z_A E) s.heap H locs) {ls : Array Slot} (hl : lv_has ls 4 [(0, .ref (z_a E 19 0)), (1, .int x1)]) : W p l e rX6_numbers s m args below meth c H locs 0 0 (MQ below (va_Qi (fun r X' => ∃ h', X' = z_up X 19 h' ∧ K r h') (fun u t => z_P E u t.heap) (z_A E)) args s 0 0 (z_A E)) (F0 m 2 ls []) := by
  obtain ⟨n, hw⟩ := hw
  revert hw hP hS hl
  revert h x1 H locs ls
  induction n with
  | zero => intro h x1 H locs ls hP hS hl hw; exact hw.elim
  | succ n ih =>
    intro h x1 H locs ls hP hS hl hw
    exact m_X6_numbers_b2_s C hM X K (fun h x1 => z_fp (σ := z_G × Int32) (fun Lp q => v_X6_numbers_b2_s K (fun h x1 => Lp (h, x1)) q.1 q.2) n (h, x1)) (fun h x1 h9 H locs hP hS ls hl => ih h x1 hP hS hl h9) h x1 hw hP hS hl
set_option maxHeartbeats 4000000 in
set_option maxRecDepth 100000 in
theorem m_X6_numbers (l : Launch) {E : z_E} (hE : z_ok E) (hM : z_mod E) (X : z_X) (h : z_G) (K : Int32 → z_G → Prop) (hw : v_X6_numbers h K) : z_CI l E yX6_numbers wsX6_numbers rX6_numbers [.ref (z_a E 19 0)] (z_up X 19 h) (fun r X' => ∃ h', X' = z_up X 19 h' ∧ K r h') := by
  refine z_start (cc := cX6_numbers) (maxL := 4) (ret := (some .boolean)) hE (by decide) rfl (Nat.le_of_ble_eq_true rfl) ?_
  intro p e s m below meth c C hP hS ls hl
  have C : z_Cx p E s m _ meth c cX6_numbers 4 wsX6_numbers RX6 (some .boolean) := C
  obtain ⟨hx, hb, hml, hr, hlocks, hown, hts, hK, hE⟩ := id C
  have hl : lv_has ls 4 [(0, .ref (z_a E 19 0))] := hl
  have hfX6 : ∀ w ∈ u_ws RX6 TX6 15, w ∈ wsX6_numbers := by decide +kernel
  unfold v_X6_numbers at hw
  refine lv_iconst (v := (0 : Int32)) hx hb dX6_numbers_0 (by decide) ?_
  refine lv_istore_n (lv' := [(1, .int (0 : Int32)), (0, .ref (z_a E 19 0))]) hx hb dX6_numbers_1 rfl hl (by decide) rfl (fun ls hl => ?_)
  exact m_X6_numbers_b2 C hM X K h (0 : Int32) hw hP hS (lv_sub hl [1, 0] rfl)
set_option maxHeartbeats 4000000 in
set_option maxRecDepth 100000 in
theorem m_X6_personIs (l : Launch) {E : z_E} (hE : z_ok E) (hM : z_mod E) (X : z_X) (h : z_G) (x1 : Int32) (x2 : Int32) (x3 : Int32) (K : z_G → Prop) (hw : v_X6_personIs h x1 x2 x3 K) : z_CV l E yX6_personIs wsX6_personIs rX6_personIs [.ref (z_a E 19 0), .int x1, .int x2, .int x3] (z_up X 19 h) (fun X' => ∃ h', X' = z_up X 19 h' ∧ K h') := by
  refine z_start (cc := cX6_personIs) (maxL := 4) (ret := none) hE (by decide) rfl (Nat.le_of_ble_eq_true rfl) ?_
  intro p e s m below meth c C hP hS ls hl
  have C : z_Cx p E s m _ meth c cX6_personIs 4 wsX6_personIs RX6 none := C
  obtain ⟨hx, hb, hml, hr, hlocks, hown, hts, hK, hE⟩ := id C
  have hl : lv_has ls 4 [(0, .ref (z_a E 19 0)), (1, .int x1), (2, .int x2), (3, .int x3)] := hl
  have hfX6 : ∀ w ∈ u_ws RX6 TX6 15, w ∈ wsX6_personIs := by decide +kernel
  unfold v_X6_personIs at hw
  refine lv_aload_n hx hb dX6_personIs_0 rfl (lv_at hl 0 rfl) ?_
  refine z_getr (C := RX6) (T := TX6) (N := 15) (ref := "GauntletHallModel") (o := 19) (d := 0) hx hb hts hfX6 hown hK hP (hM (19, 0) (List.mem_of_getElem? (i := 0) rfl)) z_l_19_0 rfl 3 (by decide) (hts (.fieldLink RX6 16 "GauntletHallModel" "read" "[I") (by decide +kernel)) rfl rfl dX6_personIs_1 ?_
  refine lv_iconst (v := (1 : Int32)) hx hb dX6_personIs_4 (by decide) ?_
  refine lv_aload_n hx hb dX6_personIs_5 rfl (lv_at hl 0 rfl) ?_
  refine z_getr (C := RX6) (T := TX6) (N := 15) (ref := "GauntletHallModel") (o := 19) (d := 0) hx hb hts hfX6 hown hK hP (hM (19, 0) (List.mem_of_getElem? (i := 0) rfl)) z_l_19_0 rfl 3 (by decide) (hts (.fieldLink RX6 16 "GauntletHallModel" "read" "[I") (by decide +kernel)) rfl rfl dX6_personIs_6 ?_
  refine lv_iconst (v := (0 : Int32)) hx hb dX6_personIs_9 (by decide) ?_
  obtain ⟨i1, hw⟩ := hw
  refine z_iald (o := 19) (d := 3) hx hb hK hP (hM (19, 3) (List.mem_of_getElem? (i := 3) rfl)) z_l_19_3 i1 (z_up_val X 19 h 3 (z_n (0 : Int32))) dX6_personIs_10 ?_
  refine lv_iadd hx hb dX6_personIs_11 ?_
  refine lv_iload_n hx hb dX6_personIs_12 rfl (lv_at hl 1 rfl) ?_
  obtain ⟨i2, hw⟩ := hw
  obtain ⟨h3, eh3⟩ : ∃ z : z_G, z = z_ss h 3 (z_n ((1 : Int32) + (h 3 (z_n (0 : Int32))))) x1 := ⟨_, rfl⟩
  replace hw := hw h3 eh3
  refine z_iast (o := 19) (d := 3) (X' := z_up X 19 h3) hx hb hK hE hP hS (hM (19, 3) (List.mem_of_getElem? (i := 3) rfl)) z_l_19_3 i2 (by rw [eh3]; exact z_up_put X 19 h 3 (z_n ((1 : Int32) + (h 3 (z_n (0 : Int32))))) _) dX6_personIs_13 (fun H locs hP hS => ?_)
  refine lv_aload_n hx hb dX6_personIs_14 rfl (lv_at hl 0 rfl) ?_
  refine z_getr (C := RX6) (T := TX6) (N := 15) (ref := "GauntletHallModel") (o := 19) (d := 0) hx hb hts hfX6 hown hK hP (hM (19, 0) (List.mem_of_getElem? (i := 0) rfl)) z_l_19_0 rfl 3 (by decide) (hts (.fieldLink RX6 16 "GauntletHallModel" "read" "[I") (by decide +kernel)) rfl rfl dX6_personIs_15 ?_
  refine lv_bipush (v := (7 : Int32)) hx hb dX6_personIs_18 (by decide) ?_
  refine lv_aload_n hx hb dX6_personIs_20 rfl (lv_at hl 0 rfl) ?_
  refine z_getr (C := RX6) (T := TX6) (N := 15) (ref := "GauntletHallModel") (o := 19) (d := 0) hx hb hts hfX6 hown hK hP (hM (19, 0) (List.mem_of_getElem? (i := 0) rfl)) z_l_19_0 rfl 3 (by decide) (hts (.fieldLink RX6 16 "GauntletHallModel" "read" "[I") (by decide +kernel)) rfl rfl dX6_personIs_21 ?_
  refine lv_iconst (v := (0 : Int32)) hx hb dX6_personIs_24 (by decide) ?_
  obtain ⟨i4, hw⟩ := hw
  refine z_iald (o := 19) (d := 3) hx hb hK hP (hM (19, 3) (List.mem_of_getElem? (i := 3) rfl)) z_l_19_3 i4 (z_up_val X 19 h3 3 (z_n (0 : Int32))) dX6_personIs_25 ?_
  refine lv_iadd hx hb dX6_personIs_26 ?_
  refine lv_iload_n hx hb dX6_personIs_27 rfl (lv_at hl 3 rfl) ?_
  obtain ⟨i5, hw⟩ := hw
  obtain ⟨h6, eh6⟩ : ∃ z : z_G, z = z_ss h3 3 (z_n ((7 : Int32) + (h3 3 (z_n (0 : Int32))))) x3 := ⟨_, rfl⟩
  replace hw := hw h6 eh6
  refine z_iast (o := 19) (d := 3) (X' := z_up X 19 h6) hx hb hK hE hP hS (hM (19, 3) (List.mem_of_getElem? (i := 3) rfl)) z_l_19_3 i5 (by rw [eh6]; exact z_up_put X 19 h3 3 (z_n ((7 : Int32) + (h3 3 (z_n (0 : Int32))))) _) dX6_personIs_28 (fun H locs hP hS => ?_)
  refine lv_aload_n hx hb dX6_personIs_29 rfl (lv_at hl 0 rfl) ?_
  refine z_getr (C := RX6) (T := TX6) (N := 15) (ref := "GauntletHallModel") (o := 19) (d := 0) hx hb hts hfX6 hown hK hP (hM (19, 0) (List.mem_of_getElem? (i := 0) rfl)) z_l_19_0 rfl 4 (by decide) (hts (.fieldLink RX6 19 "GauntletHallModel" "readRow" "[I") (by decide +kernel)) rfl rfl dX6_personIs_30 ?_
  refine lv_iconst (v := (4 : Int32)) hx hb dX6_personIs_33 (by decide) ?_
  refine lv_aload_n hx hb dX6_personIs_34 rfl (lv_at hl 0 rfl) ?_
  refine z_getr (C := RX6) (T := TX6) (N := 15) (ref := "GauntletHallModel") (o := 19) (d := 0) hx hb hts hfX6 hown hK hP (hM (19, 0) (List.mem_of_getElem? (i := 0) rfl)) z_l_19_0 rfl 3 (by decide) (hts (.fieldLink RX6 16 "GauntletHallModel" "read" "[I") (by decide +kernel)) rfl rfl dX6_personIs_35 ?_
  refine lv_iconst (v := (0 : Int32)) hx hb dX6_personIs_38 (by decide) ?_
  obtain ⟨i7, hw⟩ := hw
  refine z_iald (o := 19) (d := 3) hx hb hK hP (hM (19, 3) (List.mem_of_getElem? (i := 3) rfl)) z_l_19_3 i7 (z_up_val X 19 h6 3 (z_n (0 : Int32))) dX6_personIs_39 ?_
  refine lv_iadd hx hb dX6_personIs_40 ?_
  refine lv_iload_n hx hb dX6_personIs_41 rfl (lv_at hl 2 rfl) ?_
  obtain ⟨i8, hw⟩ := hw
  obtain ⟨h9, eh9⟩ : ∃ z : z_G, z = z_ss h6 4 (z_n ((4 : Int32) + (h6 3 (z_n (0 : Int32))))) x2 := ⟨_, rfl⟩
  replace hw := hw h9 eh9
  refine z_iast (o := 19) (d := 4) (X' := z_up X 19 h9) hx hb hK hE hP hS (hM (19, 4) (List.mem_of_getElem? (i := 4) rfl)) z_l_19_4 i8 (by rw [eh9]; exact z_up_put X 19 h6 4 (z_n ((4 : Int32) + (h6 3 (z_n (0 : Int32))))) _) dX6_personIs_42 (fun H locs hP hS => ?_)
  refine lv_aload_n hx hb dX6_personIs_43 rfl (lv_at hl 0 rfl) ?_
  refine z_getr (C := RX6) (T := TX6) (N := 15) (ref := "GauntletHallModel") (o := 19) (d := 0) hx hb hts hfX6 hown hK hP (hM (19, 0) (List.mem_of_getElem? (i := 0) rfl)) z_l_19_0 rfl 3 (by decide) (hts (.fieldLink RX6 16 "GauntletHallModel" "read" "[I") (by decide +kernel)) rfl rfl dX6_personIs_44 ?_
  refine lv_iconst (v := (0 : Int32)) hx hb dX6_personIs_47 (by decide) ?_
  refine lv_dup2_11 hx hb dX6_personIs_48 rfl rfl ?_
  obtain ⟨i10, hw⟩ := hw
  refine z_iald (o := 19) (d := 3) hx hb hK hP (hM (19, 3) (List.mem_of_getElem? (i := 3) rfl)) z_l_19_3 i10 (z_up_val X 19 h9 3 (z_n (0 : Int32))) dX6_personIs_49 ?_
  refine lv_iconst (v := (1 : Int32)) hx hb dX6_personIs_50 (by decide) ?_
  refine lv_iadd hx hb dX6_personIs_51 ?_
  obtain ⟨i11, hw⟩ := hw
  obtain ⟨h12, eh12⟩ : ∃ z : z_G, z = z_ss h9 3 (z_n (0 : Int32)) ((h9 3 (z_n (0 : Int32))) + (1 : Int32)) := ⟨_, rfl⟩
  replace hw := hw h12 eh12
  refine z_iast (o := 19) (d := 3) (X' := z_up X 19 h12) hx hb hK hE hP hS (hM (19, 3) (List.mem_of_getElem? (i := 3) rfl)) z_l_19_3 i11 (by rw [eh12]; exact z_up_put X 19 h9 3 (z_n (0 : Int32)) _) dX6_personIs_52 (fun H locs hP hS => ?_)
  exact z_retv C hP hS ⟨_, rfl, hw⟩ dX6_personIs_53
set_option maxHeartbeats 4000000 in
set_option maxRecDepth 100000 in
theorem m_X6_gloveIs (l : Launch) {E : z_E} (hE : z_ok E) (hM : z_mod E) (X : z_X) (h : z_G) (x1 : Int32) (x2 : Int32) (x3 : Int32) (K : z_G → Prop) (hw : v_X6_gloveIs h x1 x2 x3 K) : z_CV l E yX6_gloveIs wsX6_gloveIs rX6_gloveIs [.ref (z_a E 19 0), .int x1, .int x2, .int x3] (z_up X 19 h) (fun X' => ∃ h', X' = z_up X 19 h' ∧ K h') := by
  refine z_start (cc := cX6_gloveIs) (maxL := 5) (ret := none) hE (by decide) rfl (Nat.le_of_ble_eq_true rfl) ?_
  intro p e s m below meth c C hP hS ls hl
  have C : z_Cx p E s m _ meth c cX6_gloveIs 5 wsX6_gloveIs RX6 none := C
  obtain ⟨hx, hb, hml, hr, hlocks, hown, hts, hK, hE⟩ := id C
  have hl : lv_has ls 5 [(0, .ref (z_a E 19 0)), (1, .int x1), (2, .int x2), (3, .int x3)] := hl
  have hfX6 : ∀ w ∈ u_ws RX6 TX6 15, w ∈ wsX6_gloveIs := by decide +kernel
  unfold v_X6_gloveIs at hw
  refine lv_aload_n hx hb dX6_gloveIs_0 rfl (lv_at hl 0 rfl) ?_
  refine z_getr (C := RX6) (T := TX6) (N := 15) (ref := "GauntletHallModel") (o := 19) (d := 0) hx hb hts hfX6 hown hK hP (hM (19, 0) (List.mem_of_getElem? (i := 0) rfl)) z_l_19_0 rfl 4 (by decide) (hts (.fieldLink RX6 19 "GauntletHallModel" "readRow" "[I") (by decide +kernel)) rfl rfl dX6_gloveIs_1 ?_
  refine lv_iconst (v := (2 : Int32)) hx hb dX6_gloveIs_4 (by decide) ?_
  obtain ⟨i1, hw⟩ := hw
  refine z_iald (o := 19) (d := 4) hx hb hK hP (hM (19, 4) (List.mem_of_getElem? (i := 4) rfl)) z_l_19_4 i1 (z_up_val X 19 h 4 (z_n (2 : Int32))) dX6_gloveIs_5 ?_
  refine lv_topi (fun y2 ey2 => ?_)
  replace hw := hw y2 ey2
  refine lv_istore (lv' := [(4, .int y2), (0, .ref (z_a E 19 0)), (1, .int x1), (2, .int x2), (3, .int x3)]) hx hb dX6_gloveIs_6 hl (by decide) rfl (fun ls hl => ?_)
  refine lv_aload_n hx hb dX6_gloveIs_8 rfl (lv_at hl 1 rfl) ?_
  refine z_getr (C := RX6) (T := TX6) (N := 15) (ref := "GauntletHallModel") (o := 19) (d := 0) hx hb hts hfX6 hown hK hP (hM (19, 0) (List.mem_of_getElem? (i := 0) rfl)) z_l_19_0 rfl 4 (by decide) (hts (.fieldLink RX6 19 "GauntletHallModel" "readRow" "[I") (by decide +kernel)) rfl rfl dX6_gloveIs_9 ?_
  refine lv_bipush (v := (10 : Int32)) hx hb dX6_gloveIs_12 (by decide) ?_
  refine lv_iload hx hb dX6_gloveIs_14 (lv_at hl 0 rfl) ?_
  refine lv_iadd hx hb dX6_gloveIs_16 ?_
  refine lv_iload_n hx hb dX6_gloveIs_17 rfl (lv_at hl 2 rfl) ?_
  obtain ⟨i3, hw⟩ := hw
  obtain ⟨h4, eh4⟩ : ∃ z : z_G, z = z_ss h 4 (z_n ((10 : Int32) + y2)) x1 := ⟨_, rfl⟩
  replace hw := hw h4 eh4
  refine z_iast (o := 19) (d := 4) (X' := z_up X 19 h4) hx hb hK hE hP hS (hM (19, 4) (List.mem_of_getElem? (i := 4) rfl)) z_l_19_4 i3 (by rw [eh4]; exact z_up_put X 19 h 4 (z_n ((10 : Int32) + y2)) _) dX6_gloveIs_18 (fun H locs hP hS => ?_)
  refine lv_aload_n hx hb dX6_gloveIs_19 rfl (lv_at hl 1 rfl) ?_
  refine z_getr (C := RX6) (T := TX6) (N := 15) (ref := "GauntletHallModel") (o := 19) (d := 0) hx hb hts hfX6 hown hK hP (hM (19, 0) (List.mem_of_getElem? (i := 0) rfl)) z_l_19_0 rfl 4 (by decide) (hts (.fieldLink RX6 19 "GauntletHallModel" "readRow" "[I") (by decide +kernel)) rfl rfl dX6_gloveIs_20 ?_
  refine lv_bipush (v := (18 : Int32)) hx hb dX6_gloveIs_23 (by decide) ?_
  refine lv_iload hx hb dX6_gloveIs_25 (lv_at hl 0 rfl) ?_
  refine lv_iadd hx hb dX6_gloveIs_27 ?_
  refine lv_iload_n hx hb dX6_gloveIs_28 rfl (lv_at hl 3 rfl) ?_
  obtain ⟨i5, hw⟩ := hw
  obtain ⟨h6, eh6⟩ : ∃ z : z_G, z = z_ss h4 4 (z_n ((18 : Int32) + y2)) x2 := ⟨_, rfl⟩
  replace hw := hw h6 eh6
  refine z_iast (o := 19) (d := 4) (X' := z_up X 19 h6) hx hb hK hE hP hS (hM (19, 4) (List.mem_of_getElem? (i := 4) rfl)) z_l_19_4 i5 (by rw [eh6]; exact z_up_put X 19 h4 4 (z_n ((18 : Int32) + y2)) _) dX6_gloveIs_29 (fun H locs hP hS => ?_)
  refine lv_aload_n hx hb dX6_gloveIs_30 rfl (lv_at hl 1 rfl) ?_
  refine z_getr (C := RX6) (T := TX6) (N := 15) (ref := "GauntletHallModel") (o := 19) (d := 0) hx hb hts hfX6 hown hK hP (hM (19, 0) (List.mem_of_getElem? (i := 0) rfl)) z_l_19_0 rfl 4 (by decide) (hts (.fieldLink RX6 19 "GauntletHallModel" "readRow" "[I") (by decide +kernel)) rfl rfl dX6_gloveIs_31 ?_
  refine lv_bipush (v := (26 : Int32)) hx hb dX6_gloveIs_34 (by decide) ?_
  refine lv_iload hx hb dX6_gloveIs_36 (lv_at hl 0 rfl) ?_
  refine lv_iadd hx hb dX6_gloveIs_38 ?_
  refine lv_iload_n hx hb dX6_gloveIs_39 rfl (lv_at hl 4 rfl) ?_
  obtain ⟨i7, hw⟩ := hw
  obtain ⟨h8, eh8⟩ : ∃ z : z_G, z = z_ss h6 4 (z_n ((26 : Int32) + y2)) x3 := ⟨_, rfl⟩
  replace hw := hw h8 eh8
  refine z_iast (o := 19) (d := 4) (X' := z_up X 19 h8) hx hb hK hE hP hS (hM (19, 4) (List.mem_of_getElem? (i := 4) rfl)) z_l_19_4 i7 (by rw [eh8]; exact z_up_put X 19 h6 4 (z_n ((26 : Int32) + y2)) _) dX6_gloveIs_40 (fun H locs hP hS => ?_)
  refine lv_aload_n hx hb dX6_gloveIs_41 rfl (lv_at hl 1 rfl) ?_
  refine z_getr (C := RX6) (T := TX6) (N := 15) (ref := "GauntletHallModel") (o := 19) (d := 0) hx hb hts hfX6 hown hK hP (hM (19, 0) (List.mem_of_getElem? (i := 0) rfl)) z_l_19_0 rfl 4 (by decide) (hts (.fieldLink RX6 19 "GauntletHallModel" "readRow" "[I") (by decide +kernel)) rfl rfl dX6_gloveIs_42 ?_
  refine lv_iconst (v := (3 : Int32)) hx hb dX6_gloveIs_45 (by decide) ?_
  refine lv_dup2_11 hx hb dX6_gloveIs_46 rfl rfl ?_
  obtain ⟨i9, hw⟩ := hw
  refine z_iald (o := 19) (d := 4) hx hb hK hP (hM (19, 4) (List.mem_of_getElem? (i := 4) rfl)) z_l_19_4 i9 (z_up_val X 19 h8 4 (z_n (3 : Int32))) dX6_gloveIs_47 ?_
  refine lv_iconst (v := (1 : Int32)) hx hb dX6_gloveIs_48 (by decide) ?_
  refine lv_iload hx hb dX6_gloveIs_49 (lv_at hl 0 rfl) ?_
  refine lv_ishl hx hb dX6_gloveIs_51 ?_
  refine lv_ior hx hb dX6_gloveIs_52 ?_
  obtain ⟨i10, hw⟩ := hw
  obtain ⟨h11, eh11⟩ : ∃ z : z_G, z = z_ss h8 4 (z_n (3 : Int32)) ((h8 4 (z_n (3 : Int32))) ||| ((1 : Int32) <<< (y2 &&& (31 : Int32)))) := ⟨_, rfl⟩
  replace hw := hw h11 eh11
  refine z_iast (o := 19) (d := 4) (X' := z_up X 19 h11) hx hb hK hE hP hS (hM (19, 4) (List.mem_of_getElem? (i := 4) rfl)) z_l_19_4 i10 (by rw [eh11]; exact z_up_put X 19 h8 4 (z_n (3 : Int32)) _) dX6_gloveIs_53 (fun H locs hP hS => ?_)
  refine lv_aload_n hx hb dX6_gloveIs_54 rfl (lv_at hl 1 rfl) ?_
  refine z_getr (C := RX6) (T := TX6) (N := 15) (ref := "GauntletHallModel") (o := 19) (d := 0) hx hb hts hfX6 hown hK hP (hM (19, 0) (List.mem_of_getElem? (i := 0) rfl)) z_l_19_0 rfl 4 (by decide) (hts (.fieldLink RX6 19 "GauntletHallModel" "readRow" "[I") (by decide +kernel)) rfl rfl dX6_gloveIs_55 ?_
  refine lv_iconst (v := (2 : Int32)) hx hb dX6_gloveIs_58 (by decide) ?_
  refine lv_dup2_11 hx hb dX6_gloveIs_59 rfl rfl ?_
  obtain ⟨i12, hw⟩ := hw
  refine z_iald (o := 19) (d := 4) hx hb hK hP (hM (19, 4) (List.mem_of_getElem? (i := 4) rfl)) z_l_19_4 i12 (z_up_val X 19 h11 4 (z_n (2 : Int32))) dX6_gloveIs_60 ?_
  refine lv_iconst (v := (1 : Int32)) hx hb dX6_gloveIs_61 (by decide) ?_
  refine lv_iadd hx hb dX6_gloveIs_62 ?_
  obtain ⟨i13, hw⟩ := hw
  obtain ⟨h14, eh14⟩ : ∃ z : z_G, z = z_ss h11 4 (z_n (2 : Int32)) ((h11 4 (z_n (2 : Int32))) + (1 : Int32)) := ⟨_, rfl⟩
  replace hw := hw h14 eh14
  refine z_iast (o := 19) (d := 4) (X' := z_up X 19 h14) hx hb hK hE hP hS (hM (19, 4) (List.mem_of_getElem? (i := 4) rfl)) z_l_19_4 i13 (by rw [eh14]; exact z_up_put X 19 h11 4 (z_n (2 : Int32)) _) dX6_gloveIs_63 (fun H locs hP hS => ?_)
  exact z_retv C hP hS ⟨_, rfl, hw⟩ dX6_gloveIs_64
set_option maxHeartbeats 4000000 in
set_option maxRecDepth 100000 in
theorem m_X6_item (l : Launch) {E : z_E} (hE : z_ok E) (hM : z_mod E) (X : z_X) (h : z_G) (K : Int32 → z_G → Prop) (hw : v_X6_item h K) : z_CI l E yX6_item wsX6_item rX6_item [.ref (z_a E 19 0)] (z_up X 19 h) (fun r X' => ∃ h', X' = z_up X 19 h' ∧ K r h') := by
  refine z_start (cc := cX6_item) (maxL := 2) (ret := (some .boolean)) hE (by decide) rfl (Nat.le_of_ble_eq_true rfl) ?_
  intro p e s m below meth c C hP hS ls hl
  have C : z_Cx p E s m _ meth c cX6_item 2 wsX6_item RX6 (some .boolean) := C
  obtain ⟨hx, hb, hml, hr, hlocks, hown, hts, hK, hE⟩ := id C
  have hl : lv_has ls 2 [(0, .ref (z_a E 19 0))] := hl
  have hfX6 : ∀ w ∈ u_ws RX6 TX6 15, w ∈ wsX6_item := by decide +kernel
  unfold v_X6_item at hw
  refine lv_aload_n hx hb dX6_item_0 rfl (lv_at hl 0 rfl) ?_
  refine lv_aload_n hx hb dX6_item_1 rfl (lv_at hl 0 rfl) ?_
  refine z_geti (C := RX6) (T := TX6) (N := 15) (ref := "GauntletHallModel") (o := 19) (d := 0) hx hb hts hfX6 hown hK hP (hM (19, 0) (List.mem_of_getElem? (i := 0) rfl)) z_l_19_0 rfl 13 (by decide) (hts (.fieldLink RX6 65 "GauntletHallModel" "spot" "I") (by decide +kernel)) rfl rfl (z_up_val X 19 h 0 13) dX6_item_2 ?_
  refine z_vi (C := RX6) (T := TX6) (N := 15) (o := 19) (rest := []) ⟨hx, hb, hml, hown, hts⟩ (m_X6_letterAt l hE hM X h (h 0 13) _ hw) (cwV 1 hts gX6_item_X6_letterAt rfl rfl rfl (by decide +kernel) ⟨Nat.le_of_ble_eq_true rfl, Nat.le_of_ble_eq_true rfl⟩) hK hP hS (hM (19, 0) (List.mem_of_getElem? (i := 0) rfl)) z_l_19_0 rfl rfl hl.1 rfl (Nat.le_of_ble_eq_true rfl) dX6_item_5 ⟨Nat.zero_le _, Nat.zero_le _⟩ (fun r1 u H locs hk hP hS => ?_)
  obtain ⟨eu, hw⟩ := hk
  rw [eu] at hP
  refine lv_istore_n (lv' := [(1, .int r1), (0, .ref (z_a E 19 0))]) hx hb dX6_item_8 rfl hl (by decide) rfl (fun ls hl => ?_)
  refine lv_aload_n hx hb dX6_item_9 rfl (lv_at hl 1 rfl) ?_
  refine lv_dup hx hb dX6_item_10 rfl ?_
  refine z_geti (C := RX6) (T := TX6) (N := 15) (ref := "GauntletHallModel") (o := 19) (d := 0) hx hb hts hfX6 hown hK hP (hM (19, 0) (List.mem_of_getElem? (i := 0) rfl)) z_l_19_0 rfl 13 (by decide) (hts (.fieldLink RX6 65 "GauntletHallModel" "spot" "I") (by decide +kernel)) rfl rfl (z_up_val X 19 h 0 13) dX6_item_11 ?_
  refine lv_iconst (v := (1 : Int32)) hx hb dX6_item_14 (by decide) ?_
  refine lv_iadd hx hb dX6_item_15 ?_
  obtain ⟨h2, eh2⟩ : ∃ z : z_G, z = z_ss h 0 13 ((h 0 13) + (1 : Int32)) := ⟨_, rfl⟩
  replace hw := hw h2 eh2
  refine z_puti (C := RX6) (T := TX6) (N := 15) (ref := "GauntletHallModel") (o := 19) (d := 0) (X' := z_up X 19 h2) hx hb hts hfX6 tyX6 tyX6_ok nmX6 hown hK hE hP hS (hM (19, 0) (List.mem_of_getElem? (i := 0) rfl)) z_l_19_0 rfl 13 (by decide) (hts (.fieldLink RX6 65 "GauntletHallModel" "spot" "I") (by decide +kernel)) rfl rfl (by decide +kernel) rfl (by rw [eh2]; exact z_up_put X 19 h 0 13 _) dX6_item_16 (fun H locs hP hS => ?_)
  refine lv_iload_n hx hb dX6_item_19 rfl (lv_at hl 0 rfl) ?_
  refine lv_bipush (v := (112 : Int32)) hx hb dX6_item_20 (by decide) ?_
  refine lv_icmp_ne (tgt := 113) hx hb dX6_item_22 (by decide) (fun c3 => ?_) (fun c3 => ?_)
  · replace hw := hw.1 c3
    refine lv_iload_n hx hb dX6_item_113 rfl (lv_at hl 0 rfl) ?_
    refine lv_bipush (v := (103 : Int32)) hx hb dX6_item_114 (by decide) ?_
    refine lv_icmp_ne (tgt := 179) hx hb dX6_item_116 (by decide) (fun c4 => ?_) (fun c4 => ?_)
    · replace hw := hw.1 c4
      refine lv_iconst (v := (0 : Int32)) hx hb dX6_item_179 (by decide) ?_
      exact z_retz C (Or.inl rfl) hP hS ⟨_, rfl, hw⟩ dX6_item_180
    · replace hw := hw.2 c4
      refine lv_aload_n hx hb dX6_item_119 rfl (lv_at hl 1 rfl) ?_
      refine z_vi (C := RX6) (T := TX6) (N := 15) (o := 19) (rest := []) ⟨hx, hb, hml, hown, hts⟩ (m_X6_numbers l hE hM X h2 _ hw) (cwV 0 hts gX6_item_X6_numbers rfl rfl rfl (by decide +kernel) ⟨Nat.le_of_ble_eq_true rfl, Nat.le_of_ble_eq_true rfl⟩) hK hP hS (hM (19, 0) (List.mem_of_getElem? (i := 0) rfl)) z_l_19_0 rfl rfl hl.1 rfl (Nat.le_of_ble_eq_true rfl) dX6_item_120 ⟨Nat.zero_le _, Nat.zero_le _⟩ (fun r5 u H locs hk hP hS => ?_)
      obtain ⟨h6, eu, hw⟩ := hk
      rw [eu] at hP
      refine lv_if_eq (tgt := 179) hx hb dX6_item_123 (by decide) (fun c7 => ?_) (fun c7 => ?_)
      · replace hw := hw.1 c7
        refine lv_iconst (v := (0 : Int32)) hx hb dX6_item_179 (by decide) ?_
        exact z_retz C (Or.inl rfl) hP hS ⟨_, rfl, hw⟩ dX6_item_180
      · replace hw := hw.2 c7
        refine lv_aload_n hx hb dX6_item_126 rfl (lv_at hl 1 rfl) ?_
        refine z_getr (C := RX6) (T := TX6) (N := 15) (ref := "GauntletHallModel") (o := 19) (d := 0) hx hb hts hfX6 hown hK hP (hM (19, 0) (List.mem_of_getElem? (i := 0) rfl)) z_l_19_0 rfl 4 (by decide) (hts (.fieldLink RX6 19 "GauntletHallModel" "readRow" "[I") (by decide +kernel)) rfl rfl dX6_item_127 ?_
        refine lv_iconst (v := (2 : Int32)) hx hb dX6_item_130 (by decide) ?_
        obtain ⟨i8, hw⟩ := hw
        refine z_iald (o := 19) (d := 4) hx hb hK hP (hM (19, 4) (List.mem_of_getElem? (i := 4) rfl)) z_l_19_4 i8 (z_up_val X 19 h6 4 (z_n (2 : Int32))) dX6_item_131 ?_
        refine lv_bipush (v := (8 : Int32)) hx hb dX6_item_132 (by decide) ?_
        refine lv_icmp_eq (tgt := 179) hx hb dX6_item_134 (by decide) (fun c9 => ?_) (fun c9 => ?_)
        · replace hw := hw.1 c9
          refine lv_iconst (v := (0 : Int32)) hx hb dX6_item_179 (by decide) ?_
          exact z_retz C (Or.inl rfl) hP hS ⟨_, rfl, hw⟩ dX6_item_180
        · replace hw := hw.2 c9
          refine lv_aload_n hx hb dX6_item_137 rfl (lv_at hl 1 rfl) ?_
          refine z_getr (C := RX6) (T := TX6) (N := 15) (ref := "GauntletHallModel") (o := 19) (d := 0) hx hb hts hfX6 hown hK hP (hM (19, 0) (List.mem_of_getElem? (i := 0) rfl)) z_l_19_0 rfl 14 (by decide) (hts (.fieldLink RX6 37 "GauntletHallModel" "number" "[I") (by decide +kernel)) rfl rfl dX6_item_138 ?_
          refine lv_iconst (v := (0 : Int32)) hx hb dX6_item_141 (by decide) ?_
          obtain ⟨i10, hw⟩ := hw
          refine z_iald (o := 19) (d := 14) hx hb hK hP (hM (19, 14) (List.mem_of_getElem? (i := 10) rfl)) z_l_19_14 i10 (z_up_val X 19 h6 14 (z_n (0 : Int32))) dX6_item_142 ?_
          refine lv_iconst (v := (3 : Int32)) hx hb dX6_item_143 (by decide) ?_
          refine lv_icmp_gt (tgt := 179) hx hb dX6_item_144 (by decide) (fun c11 => ?_) (fun c11 => ?_)
          · replace hw := hw.1 c11
            refine lv_iconst (v := (0 : Int32)) hx hb dX6_item_179 (by decide) ?_
            exact z_retz C (Or.inl rfl) hP hS ⟨_, rfl, hw⟩ dX6_item_180
          · replace hw := hw.2 c11
            refine lv_aload_n hx hb dX6_item_147 rfl (lv_at hl 1 rfl) ?_
            refine z_getr (C := RX6) (T := TX6) (N := 15) (ref := "GauntletHallModel") (o := 19) (d := 0) hx hb hts hfX6 hown hK hP (hM (19, 0) (List.mem_of_getElem? (i := 0) rfl)) z_l_19_0 rfl 14 (by decide) (hts (.fieldLink RX6 37 "GauntletHallModel" "number" "[I") (by decide +kernel)) rfl rfl dX6_item_148 ?_
            refine lv_iconst (v := (1 : Int32)) hx hb dX6_item_151 (by decide) ?_
            obtain ⟨i12, hw⟩ := hw
            refine z_iald (o := 19) (d := 14) hx hb hK hP (hM (19, 14) (List.mem_of_getElem? (i := 10) rfl)) z_l_19_14 i12 (z_up_val X 19 h6 14 (z_n (1 : Int32))) dX6_item_152 ?_
            refine lv_i2l hx hb dX6_item_153 rfl ?_
            refine lv_lconst (v := (1 : Int64)) hx hb dX6_item_154 (by decide) ?_
            refine lv_ldc2 hx hb hown (hts (.constantLong RX6 82 (20)) (by decide +kernel)) dX6_item_155 ?_
            refine z_si (rest := []) ⟨hx, hb, hml, hown, hts⟩ (m_X6_in l hE (z_up X 19 h6) (Int32.toInt64 (h6 14 (z_n (1 : Int32)))) (1 : Int64) (20 : Int64) _ hw) (va_cwS 3 hts gX6_item_X6_in rfl rfl rfl (by decide +kernel) ⟨Nat.le_of_ble_eq_true rfl, Nat.le_of_ble_eq_true rfl⟩) hK hP hS rfl hl.1 rfl (Nat.le_of_ble_eq_true rfl) dX6_item_158 ⟨Nat.zero_le _, Nat.zero_le _⟩ (fun r13 u H locs hk hP hS => ?_)
            obtain ⟨eu, hw⟩ := hk
            rw [eu] at hP
            refine lv_if_eq (tgt := 179) hx hb dX6_item_161 (by decide) (fun c14 => ?_) (fun c14 => ?_)
            · replace hw := hw.1 c14
              refine lv_iconst (v := (0 : Int32)) hx hb dX6_item_179 (by decide) ?_
              exact z_retz C (Or.inl rfl) hP hS ⟨_, rfl, hw⟩ dX6_item_180
            · replace hw := hw.2 c14
              refine lv_aload_n hx hb dX6_item_164 rfl (lv_at hl 1 rfl) ?_
              refine z_getr (C := RX6) (T := TX6) (N := 15) (ref := "GauntletHallModel") (o := 19) (d := 0) hx hb hts hfX6 hown hK hP (hM (19, 0) (List.mem_of_getElem? (i := 0) rfl)) z_l_19_0 rfl 14 (by decide) (hts (.fieldLink RX6 37 "GauntletHallModel" "number" "[I") (by decide +kernel)) rfl rfl dX6_item_165 ?_
              refine lv_iconst (v := (2 : Int32)) hx hb dX6_item_168 (by decide) ?_
              obtain ⟨i15, hw⟩ := hw
              refine z_iald (o := 19) (d := 14) hx hb hK hP (hM (19, 14) (List.mem_of_getElem? (i := 10) rfl)) z_l_19_14 i15 (z_up_val X 19 h6 14 (z_n (2 : Int32))) dX6_item_169 ?_
              refine lv_aload_n hx hb dX6_item_170 rfl (lv_at hl 1 rfl) ?_
              refine z_getr (C := RX6) (T := TX6) (N := 15) (ref := "GauntletHallModel") (o := 19) (d := 0) hx hb hts hfX6 hown hK hP (hM (19, 0) (List.mem_of_getElem? (i := 0) rfl)) z_l_19_0 rfl 3 (by decide) (hts (.fieldLink RX6 16 "GauntletHallModel" "read" "[I") (by decide +kernel)) rfl rfl dX6_item_171 ?_
              refine lv_iconst (v := (0 : Int32)) hx hb dX6_item_174 (by decide) ?_
              obtain ⟨i16, hw⟩ := hw
              refine z_iald (o := 19) (d := 3) hx hb hK hP (hM (19, 3) (List.mem_of_getElem? (i := 3) rfl)) z_l_19_3 i16 (z_up_val X 19 h6 3 (z_n (0 : Int32))) dX6_item_175 ?_
              refine lv_icmp_lt (tgt := 181) hx hb dX6_item_176 (by decide) (fun c17 => ?_) (fun c17 => ?_)
              · replace hw := hw.1 c17
                refine lv_aload_n hx hb dX6_item_181 rfl (lv_at hl 1 rfl) ?_
                refine lv_aload_n hx hb dX6_item_182 rfl (lv_at hl 1 rfl) ?_
                refine z_getr (C := RX6) (T := TX6) (N := 15) (ref := "GauntletHallModel") (o := 19) (d := 0) hx hb hts hfX6 hown hK hP (hM (19, 0) (List.mem_of_getElem? (i := 0) rfl)) z_l_19_0 rfl 14 (by decide) (hts (.fieldLink RX6 37 "GauntletHallModel" "number" "[I") (by decide +kernel)) rfl rfl dX6_item_183 ?_
                refine lv_iconst (v := (0 : Int32)) hx hb dX6_item_186 (by decide) ?_
                obtain ⟨i18, hw⟩ := hw
                refine z_iald (o := 19) (d := 14) hx hb hK hP (hM (19, 14) (List.mem_of_getElem? (i := 10) rfl)) z_l_19_14 i18 (z_up_val X 19 h6 14 (z_n (0 : Int32))) dX6_item_187 ?_
                refine lv_aload_n hx hb dX6_item_188 rfl (lv_at hl 1 rfl) ?_
                refine z_getr (C := RX6) (T := TX6) (N := 15) (ref := "GauntletHallModel") (o := 19) (d := 0) hx hb hts hfX6 hown hK hP (hM (19, 0) (List.mem_of_getElem? (i := 0) rfl)) z_l_19_0 rfl 14 (by decide) (hts (.fieldLink RX6 37 "GauntletHallModel" "number" "[I") (by decide +kernel)) rfl rfl dX6_item_189 ?_
                refine lv_iconst (v := (1 : Int32)) hx hb dX6_item_192 (by decide) ?_
                obtain ⟨i19, hw⟩ := hw
                refine z_iald (o := 19) (d := 14) hx hb hK hP (hM (19, 14) (List.mem_of_getElem? (i := 10) rfl)) z_l_19_14 i19 (z_up_val X 19 h6 14 (z_n (1 : Int32))) dX6_item_193 ?_
                refine lv_aload_n hx hb dX6_item_194 rfl (lv_at hl 1 rfl) ?_
                refine z_getr (C := RX6) (T := TX6) (N := 15) (ref := "GauntletHallModel") (o := 19) (d := 0) hx hb hts hfX6 hown hK hP (hM (19, 0) (List.mem_of_getElem? (i := 0) rfl)) z_l_19_0 rfl 14 (by decide) (hts (.fieldLink RX6 37 "GauntletHallModel" "number" "[I") (by decide +kernel)) rfl rfl dX6_item_195 ?_
                refine lv_iconst (v := (2 : Int32)) hx hb dX6_item_198 (by decide) ?_
                obtain ⟨i20, hw⟩ := hw
                refine z_iald (o := 19) (d := 14) hx hb hK hP (hM (19, 14) (List.mem_of_getElem? (i := 10) rfl)) z_l_19_14 i20 (z_up_val X 19 h6 14 (z_n (2 : Int32))) dX6_item_199 ?_
                refine z_vv (C := RX6) (T := TX6) (N := 15) (o := 19) (rest := []) ⟨hx, hb, hml, hown, hts⟩ (m_X6_gloveIs l hE hM X h6 (h6 14 (z_n (0 : Int32))) (h6 14 (z_n (1 : Int32))) (h6 14 (z_n (2 : Int32))) _ hw) (cwV 3 hts gX6_item_X6_gloveIs rfl rfl rfl (by decide +kernel) ⟨Nat.le_of_ble_eq_true rfl, Nat.le_of_ble_eq_true rfl⟩) hK hP hS (hM (19, 0) (List.mem_of_getElem? (i := 0) rfl)) z_l_19_0 rfl rfl hl.1 rfl (Nat.le_of_ble_eq_true rfl) dX6_item_200 ⟨Nat.zero_le _, Nat.zero_le _⟩ (fun u H locs hk hP hS => ?_)
                obtain ⟨h21, eu, hw⟩ := hk
                rw [eu] at hP
                refine lv_iconst (v := (1 : Int32)) hx hb dX6_item_203 (by decide) ?_
                exact z_retz C (Or.inr rfl) hP hS ⟨_, rfl, hw⟩ dX6_item_204
              · replace hw := hw.2 c17
                refine lv_iconst (v := (0 : Int32)) hx hb dX6_item_179 (by decide) ?_
                exact z_retz C (Or.inl rfl) hP hS ⟨_, rfl, hw⟩ dX6_item_180
  · replace hw := hw.2 c3
    refine lv_aload_n hx hb dX6_item_25 rfl (lv_at hl 1 rfl) ?_
    refine z_vi (C := RX6) (T := TX6) (N := 15) (o := 19) (rest := []) ⟨hx, hb, hml, hown, hts⟩ (m_X6_numbers l hE hM X h2 _ hw) (cwV 0 hts gX6_item_X6_numbers rfl rfl rfl (by decide +kernel) ⟨Nat.le_of_ble_eq_true rfl, Nat.le_of_ble_eq_true rfl⟩) hK hP hS (hM (19, 0) (List.mem_of_getElem? (i := 0) rfl)) z_l_19_0 rfl rfl hl.1 rfl (Nat.le_of_ble_eq_true rfl) dX6_item_26 ⟨Nat.zero_le _, Nat.zero_le _⟩ (fun r22 u H locs hk hP hS => ?_)
    obtain ⟨h23, eu, hw⟩ := hk
    rw [eu] at hP
    refine lv_if_eq (tgt := 87) hx hb dX6_item_29 (by decide) (fun c24 => ?_) (fun c24 => ?_)
    · replace hw := hw.1 c24
      refine lv_iconst (v := (0 : Int32)) hx hb dX6_item_87 (by decide) ?_
      exact z_retz C (Or.inl rfl) hP hS ⟨_, rfl, hw⟩ dX6_item_88
    · replace hw := hw.2 c24
      refine lv_aload_n hx hb dX6_item_32 rfl (lv_at hl 1 rfl) ?_
      refine z_getr (C := RX6) (T := TX6) (N := 15) (ref := "GauntletHallModel") (o := 19) (d := 0) hx hb hts hfX6 hown hK hP (hM (19, 0) (List.mem_of_getElem? (i := 0) rfl)) z_l_19_0 rfl 3 (by decide) (hts (.fieldLink RX6 16 "GauntletHallModel" "read" "[I") (by decide +kernel)) rfl rfl dX6_item_33 ?_
      refine lv_iconst (v := (0 : Int32)) hx hb dX6_item_36 (by decide) ?_
      obtain ⟨i25, hw⟩ := hw
      refine z_iald (o := 19) (d := 3) hx hb hK hP (hM (19, 3) (List.mem_of_getElem? (i := 3) rfl)) z_l_19_3 i25 (z_up_val X 19 h23 3 (z_n (0 : Int32))) dX6_item_37 ?_
      refine lv_bipush (v := (6 : Int32)) hx hb dX6_item_38 (by decide) ?_
      refine lv_icmp_eq (tgt := 87) hx hb dX6_item_40 (by decide) (fun c26 => ?_) (fun c26 => ?_)
      · replace hw := hw.1 c26
        refine lv_iconst (v := (0 : Int32)) hx hb dX6_item_87 (by decide) ?_
        exact z_retz C (Or.inl rfl) hP hS ⟨_, rfl, hw⟩ dX6_item_88
      · replace hw := hw.2 c26
        refine lv_aload_n hx hb dX6_item_43 rfl (lv_at hl 1 rfl) ?_
        refine z_getr (C := RX6) (T := TX6) (N := 15) (ref := "GauntletHallModel") (o := 19) (d := 0) hx hb hts hfX6 hown hK hP (hM (19, 0) (List.mem_of_getElem? (i := 0) rfl)) z_l_19_0 rfl 14 (by decide) (hts (.fieldLink RX6 37 "GauntletHallModel" "number" "[I") (by decide +kernel)) rfl rfl dX6_item_44 ?_
        refine lv_iconst (v := (0 : Int32)) hx hb dX6_item_47 (by decide) ?_
        obtain ⟨i27, hw⟩ := hw
        refine z_iald (o := 19) (d := 14) hx hb hK hP (hM (19, 14) (List.mem_of_getElem? (i := 10) rfl)) z_l_19_14 i27 (z_up_val X 19 h23 14 (z_n (0 : Int32))) dX6_item_48 ?_
        refine lv_i2l hx hb dX6_item_49 rfl ?_
        refine lv_lconst (v := (1 : Int64)) hx hb dX6_item_50 (by decide) ?_
        refine lv_ldc2 hx hb hown (hts (.constantLong RX6 82 (20)) (by decide +kernel)) dX6_item_51 ?_
        refine z_si (rest := []) ⟨hx, hb, hml, hown, hts⟩ (m_X6_in l hE (z_up X 19 h23) (Int32.toInt64 (h23 14 (z_n (0 : Int32)))) (1 : Int64) (20 : Int64) _ hw) (va_cwS 3 hts gX6_item_X6_in rfl rfl rfl (by decide +kernel) ⟨Nat.le_of_ble_eq_true rfl, Nat.le_of_ble_eq_true rfl⟩) hK hP hS rfl hl.1 rfl (Nat.le_of_ble_eq_true rfl) dX6_item_54 ⟨Nat.zero_le _, Nat.zero_le _⟩ (fun r28 u H locs hk hP hS => ?_)
        obtain ⟨eu, hw⟩ := hk
        rw [eu] at hP
        refine lv_if_eq (tgt := 87) hx hb dX6_item_57 (by decide) (fun c29 => ?_) (fun c29 => ?_)
        · replace hw := hw.1 c29
          refine lv_iconst (v := (0 : Int32)) hx hb dX6_item_87 (by decide) ?_
          exact z_retz C (Or.inl rfl) hP hS ⟨_, rfl, hw⟩ dX6_item_88
        · replace hw := hw.2 c29
          refine lv_aload_n hx hb dX6_item_60 rfl (lv_at hl 1 rfl) ?_
          refine z_getr (C := RX6) (T := TX6) (N := 15) (ref := "GauntletHallModel") (o := 19) (d := 0) hx hb hts hfX6 hown hK hP (hM (19, 0) (List.mem_of_getElem? (i := 0) rfl)) z_l_19_0 rfl 14 (by decide) (hts (.fieldLink RX6 37 "GauntletHallModel" "number" "[I") (by decide +kernel)) rfl rfl dX6_item_61 ?_
          refine lv_iconst (v := (1 : Int32)) hx hb dX6_item_64 (by decide) ?_
          obtain ⟨i30, hw⟩ := hw
          refine z_iald (o := 19) (d := 14) hx hb hK hP (hM (19, 14) (List.mem_of_getElem? (i := 10) rfl)) z_l_19_14 i30 (z_up_val X 19 h23 14 (z_n (1 : Int32))) dX6_item_65 ?_
          refine lv_i2l hx hb dX6_item_66 rfl ?_
          refine lv_lconst (v := (1 : Int64)) hx hb dX6_item_67 (by decide) ?_
          refine lv_ldc2 hx hb hown (hts (.constantLong RX6 84 (40)) (by decide +kernel)) dX6_item_68 ?_
          refine z_si (rest := []) ⟨hx, hb, hml, hown, hts⟩ (m_X6_in l hE (z_up X 19 h23) (Int32.toInt64 (h23 14 (z_n (1 : Int32)))) (1 : Int64) (40 : Int64) _ hw) (va_cwS 3 hts gX6_item_X6_in rfl rfl rfl (by decide +kernel) ⟨Nat.le_of_ble_eq_true rfl, Nat.le_of_ble_eq_true rfl⟩) hK hP hS rfl hl.1 rfl (Nat.le_of_ble_eq_true rfl) dX6_item_71 ⟨Nat.zero_le _, Nat.zero_le _⟩ (fun r31 u H locs hk hP hS => ?_)
          obtain ⟨eu, hw⟩ := hk
          rw [eu] at hP
          refine lv_if_eq (tgt := 87) hx hb dX6_item_74 (by decide) (fun c32 => ?_) (fun c32 => ?_)
          · replace hw := hw.1 c32
            refine lv_iconst (v := (0 : Int32)) hx hb dX6_item_87 (by decide) ?_
            exact z_retz C (Or.inl rfl) hP hS ⟨_, rfl, hw⟩ dX6_item_88
          · replace hw := hw.2 c32
            refine lv_aload_n hx hb dX6_item_77 rfl (lv_at hl 1 rfl) ?_
            refine z_getr (C := RX6) (T := TX6) (N := 15) (ref := "GauntletHallModel") (o := 19) (d := 0) hx hb hts hfX6 hown hK hP (hM (19, 0) (List.mem_of_getElem? (i := 0) rfl)) z_l_19_0 rfl 14 (by decide) (hts (.fieldLink RX6 37 "GauntletHallModel" "number" "[I") (by decide +kernel)) rfl rfl dX6_item_78 ?_
            refine lv_iconst (v := (2 : Int32)) hx hb dX6_item_81 (by decide) ?_
            obtain ⟨i33, hw⟩ := hw
            refine z_iald (o := 19) (d := 14) hx hb hK hP (hM (19, 14) (List.mem_of_getElem? (i := 10) rfl)) z_l_19_14 i33 (z_up_val X 19 h23 14 (z_n (2 : Int32))) dX6_item_82 ?_
            refine lv_iconst (v := (1 : Int32)) hx hb dX6_item_83 (by decide) ?_
            refine lv_icmp_le (tgt := 89) hx hb dX6_item_84 (by decide) (fun c34 => ?_) (fun c34 => ?_)
            · replace hw := hw.1 c34
              refine lv_aload_n hx hb dX6_item_89 rfl (lv_at hl 1 rfl) ?_
              refine lv_aload_n hx hb dX6_item_90 rfl (lv_at hl 1 rfl) ?_
              refine z_getr (C := RX6) (T := TX6) (N := 15) (ref := "GauntletHallModel") (o := 19) (d := 0) hx hb hts hfX6 hown hK hP (hM (19, 0) (List.mem_of_getElem? (i := 0) rfl)) z_l_19_0 rfl 14 (by decide) (hts (.fieldLink RX6 37 "GauntletHallModel" "number" "[I") (by decide +kernel)) rfl rfl dX6_item_91 ?_
              refine lv_iconst (v := (0 : Int32)) hx hb dX6_item_94 (by decide) ?_
              obtain ⟨i35, hw⟩ := hw
              refine z_iald (o := 19) (d := 14) hx hb hK hP (hM (19, 14) (List.mem_of_getElem? (i := 10) rfl)) z_l_19_14 i35 (z_up_val X 19 h23 14 (z_n (0 : Int32))) dX6_item_95 ?_
              refine lv_aload_n hx hb dX6_item_96 rfl (lv_at hl 1 rfl) ?_
              refine z_getr (C := RX6) (T := TX6) (N := 15) (ref := "GauntletHallModel") (o := 19) (d := 0) hx hb hts hfX6 hown hK hP (hM (19, 0) (List.mem_of_getElem? (i := 0) rfl)) z_l_19_0 rfl 14 (by decide) (hts (.fieldLink RX6 37 "GauntletHallModel" "number" "[I") (by decide +kernel)) rfl rfl dX6_item_97 ?_
              refine lv_iconst (v := (1 : Int32)) hx hb dX6_item_100 (by decide) ?_
              obtain ⟨i36, hw⟩ := hw
              refine z_iald (o := 19) (d := 14) hx hb hK hP (hM (19, 14) (List.mem_of_getElem? (i := 10) rfl)) z_l_19_14 i36 (z_up_val X 19 h23 14 (z_n (1 : Int32))) dX6_item_101 ?_
              refine lv_aload_n hx hb dX6_item_102 rfl (lv_at hl 1 rfl) ?_
              refine z_getr (C := RX6) (T := TX6) (N := 15) (ref := "GauntletHallModel") (o := 19) (d := 0) hx hb hts hfX6 hown hK hP (hM (19, 0) (List.mem_of_getElem? (i := 0) rfl)) z_l_19_0 rfl 14 (by decide) (hts (.fieldLink RX6 37 "GauntletHallModel" "number" "[I") (by decide +kernel)) rfl rfl dX6_item_103 ?_
              refine lv_iconst (v := (2 : Int32)) hx hb dX6_item_106 (by decide) ?_
              obtain ⟨i37, hw⟩ := hw
              refine z_iald (o := 19) (d := 14) hx hb hK hP (hM (19, 14) (List.mem_of_getElem? (i := 10) rfl)) z_l_19_14 i37 (z_up_val X 19 h23 14 (z_n (2 : Int32))) dX6_item_107 ?_
              refine z_vv (C := RX6) (T := TX6) (N := 15) (o := 19) (rest := []) ⟨hx, hb, hml, hown, hts⟩ (m_X6_personIs l hE hM X h23 (h23 14 (z_n (0 : Int32))) (h23 14 (z_n (1 : Int32))) (h23 14 (z_n (2 : Int32))) _ hw) (cwV 3 hts gX6_item_X6_personIs rfl rfl rfl (by decide +kernel) ⟨Nat.le_of_ble_eq_true rfl, Nat.le_of_ble_eq_true rfl⟩) hK hP hS (hM (19, 0) (List.mem_of_getElem? (i := 0) rfl)) z_l_19_0 rfl rfl hl.1 rfl (Nat.le_of_ble_eq_true rfl) dX6_item_108 ⟨Nat.zero_le _, Nat.zero_le _⟩ (fun u H locs hk hP hS => ?_)
              obtain ⟨h38, eu, hw⟩ := hk
              rw [eu] at hP
              refine lv_iconst (v := (1 : Int32)) hx hb dX6_item_111 (by decide) ?_
              exact z_retz C (Or.inr rfl) hP hS ⟨_, rfl, hw⟩ dX6_item_112
            · replace hw := hw.2 c34
              refine lv_iconst (v := (0 : Int32)) hx hb dX6_item_87 (by decide) ?_
              exact z_retz C (Or.inl rfl) hP hS ⟨_, rfl, hw⟩ dX6_item_88
set_option maxHeartbeats 4000000 in
set_option maxRecDepth 100000 in
theorem m_X6_readAll_b9_s {p : Program} {l : Launch} {e : Env} {s : State} {m : MethodId} {args : Array Value} {below : List Frame} {meth : Method} {c : Code} {E : z_E} (C : z_Cx p E s m args meth c cX6_readAll 2 wsX6_readAll RX6 (some .int)) (hM : z_mod E) (X : z_X) (K : Int32 → z_G → Prop) (L9 : z_G → Prop) (k9 : ∀ (h : z_G), L9 h → ∀ {H : Heap} {locs : List Loc}, z_P E (z_up X 19 h) H → va_S (z_A E) s.heap H locs → ∀ (ls : Array Slot), lv_has ls 2 [(0, .ref (z_a E 19 0))] → W p l e rX6_readAll s m args below meth c H locs 0 0 (MQ below (va_Qi (fun r X' => ∃ h', X' = z_up X 19 h' ∧ K r h') (fun u t => z_P E u t.heap) (z_A E)) args s 0 0 (z_A E)) (F0 m 9 ls [])) (h : z_G) (hw : v_X6_readAll_b9_s K L9 h) {H : Heap} {locs : List Loc} (hP : z_P E (z_up X 19 h) H) (hS : va_S (z_A E) s.heap H locs) {ls : Array Slot} (hl : lv_has ls 2 [(0, .ref (z_a E 19 0))]) : W p l e rX6_readAll s m args below meth c H locs 0 0 (MQ below (va_Qi (fun r X' => ∃ h', X' = z_up X 19 h' ∧ K r h') (fun u t => z_P E u t.heap) (z_A E)) args s 0 0 (z_A E)) (F0 m 9 ls []) := by
  obtain ⟨hx, hb, hml, hr, hlocks, hown, hts, hK, hE⟩ := id C
  have hfX6 : ∀ w ∈ u_ws RX6 TX6 15, w ∈ wsX6_readAll := by decide +kernel
  unfold v_X6_readAll_b9_s at hw
  refine lv_aload_n hx hb dX6_readAll_9 rfl (lv_at hl 0 rfl) ?_
  refine z_geti (C := RX6) (T := TX6) (N := 15) (ref := "GauntletHallModel") (o := 19) (d := 0) hx hb hts hfX6 hown hK hP (hM (19, 0) (List.mem_of_getElem? (i := 0) rfl)) z_l_19_0 rfl 13 (by decide) (hts (.fieldLink RX6 65 "GauntletHallModel" "spot" "I") (by decide +kernel)) rfl rfl (z_up_val X 19 h 0 13) dX6_readAll_10 ?_
  refine lv_aload_n hx hb dX6_readAll_13 rfl (lv_at hl 0 rfl) ?_
  refine z_geti (C := RX6) (T := TX6) (N := 15) (ref := "GauntletHallModel") (o := 19) (d := 0) hx hb hts hfX6 hown hK hP (hM (19, 0) (List.mem_of_getElem? (i := 0) rfl)) z_l_19_0 rfl 0 (by decide) (hts (.fieldLink RX6 61 "GauntletHallModel" "length" "I") (by decide +kernel)) rfl rfl (z_up_val X 19 h 0 0) dX6_readAll_14 ?_
  refine lv_icmp_ge (tgt := 37) hx hb dX6_readAll_17 (by decide) (fun c3 => ?_) (fun c3 => ?_)
  · replace hw := hw.1 c3
    refine lv_bipush (v := (-4 : Int32)) hx hb dX6_readAll_37 (by decide) ?_
    exact z_reti C hP hS ⟨_, rfl, hw⟩ dX6_readAll_39
  · replace hw := hw.2 c3
    refine lv_aload_n hx hb dX6_readAll_20 rfl (lv_at hl 0 rfl) ?_
    refine z_geti (C := RX6) (T := TX6) (N := 15) (ref := "GauntletHallModel") (o := 19) (d := 0) hx hb hts hfX6 hown hK hP (hM (19, 0) (List.mem_of_getElem? (i := 0) rfl)) z_l_19_0 rfl 13 (by decide) (hts (.fieldLink RX6 65 "GauntletHallModel" "spot" "I") (by decide +kernel)) rfl rfl (z_up_val X 19 h 0 13) dX6_readAll_21 ?_
    refine lv_topi (fun y4 ey4 => ?_)
    replace hw := hw y4 ey4
    refine lv_istore_n (lv' := [(1, .int y4), (0, .ref (z_a E 19 0))]) hx hb dX6_readAll_24 rfl hl (by decide) rfl (fun ls hl => ?_)
    refine lv_aload_n hx hb dX6_readAll_25 rfl (lv_at hl 1 rfl) ?_
    refine z_vi (C := RX6) (T := TX6) (N := 15) (o := 19) (rest := []) ⟨hx, hb, hml, hown, hts⟩ (m_X6_item l hE hM X h _ hw) (cwV 0 hts gX6_readAll_X6_item rfl rfl rfl (by decide +kernel) ⟨Nat.le_of_ble_eq_true rfl, Nat.le_of_ble_eq_true rfl⟩) hK hP hS (hM (19, 0) (List.mem_of_getElem? (i := 0) rfl)) z_l_19_0 rfl rfl hl.1 rfl (Nat.le_of_ble_eq_true rfl) dX6_readAll_26 ⟨Nat.zero_le _, Nat.zero_le _⟩ (fun r5 u H locs hk hP hS => ?_)
    obtain ⟨h6, eu, hw⟩ := hk
    rw [eu] at hP
    refine lv_if_ne (tgt := 34) hx hb dX6_readAll_29 (by decide) (fun c7 => ?_) (fun c7 => ?_)
    · replace hw := hw.1 c7
      refine lv_goto (tgt := 9) hx hb dX6_readAll_34 (by decide) ?_
      exact k9 h6 hw hP hS _ (lv_sub hl [1] rfl)
    · replace hw := hw.2 c7
      refine lv_iload_n hx hb dX6_readAll_32 rfl (lv_at hl 0 rfl) ?_
      exact z_reti C hP hS ⟨_, rfl, hw⟩ dX6_readAll_33
theorem m_X6_readAll_b9 {p : Program} {l : Launch} {e : Env} {s : State} {m : MethodId} {args : Array Value} {below : List Frame} {meth : Method} {c : Code} {E : z_E} (C : z_Cx p E s m args meth c cX6_readAll 2 wsX6_readAll RX6 (some .int)) (hM : z_mod E) (X : z_X) (K : Int32 → z_G → Prop) (h : z_G) (hw : v_X6_readAll_b9 K h) {H : Heap} {locs : List Loc} (hP : z_P E (z_up X 19 h) H) (hS : va_S (z_A E) s.heap H locs) {ls : Array Slot} (hl : lv_has ls 2 [(0, .ref (z_a E 19 0))]) : W p l e rX6_readAll s m args below meth c H locs 0 0 (MQ below (va_Qi (fun r X' => ∃ h', X' = z_up X 19 h' ∧ K r h') (fun u t => z_P E u t.heap) (z_A E)) args s 0 0 (z_A E)) (F0 m 9 ls []) := by
  obtain ⟨n, hw⟩ := hw
  revert hw hP hS hl
  revert h H locs ls
  induction n with
  | zero => intro h H locs ls hP hS hl hw; exact hw.elim
  | succ n ih =>
    intro h H locs ls hP hS hl hw
    exact m_X6_readAll_b9_s C hM X K (fun h => z_fp (σ := z_G) (fun Lp q => v_X6_readAll_b9_s K (fun h => Lp h) q) n h) (fun h h9 H locs hP hS ls hl => ih h hP hS hl h9) h hw hP hS hl
set_option maxHeartbeats 4000000 in
set_option maxRecDepth 100000 in
theorem m_X6_readAll (l : Launch) {E : z_E} (hE : z_ok E) (hM : z_mod E) (X : z_X) (h : z_G) (K : Int32 → z_G → Prop) (hw : v_X6_readAll h K) : z_CI l E yX6_readAll wsX6_readAll rX6_readAll [.ref (z_a E 19 0)] (z_up X 19 h) (fun r X' => ∃ h', X' = z_up X 19 h' ∧ K r h') := by
  refine z_start (cc := cX6_readAll) (maxL := 2) (ret := (some .int)) hE (by decide) rfl (Nat.le_of_ble_eq_true rfl) ?_
  intro p e s m below meth c C hP hS ls hl
  have C : z_Cx p E s m _ meth c cX6_readAll 2 wsX6_readAll RX6 (some .int) := C
  obtain ⟨hx, hb, hml, hr, hlocks, hown, hts, hK, hE⟩ := id C
  have hl : lv_has ls 2 [(0, .ref (z_a E 19 0))] := hl
  have hfX6 : ∀ w ∈ u_ws RX6 TX6 15, w ∈ wsX6_readAll := by decide +kernel
  unfold v_X6_readAll at hw
  refine lv_aload_n hx hb dX6_readAll_0 rfl (lv_at hl 0 rfl) ?_
  refine z_vv (C := RX6) (T := TX6) (N := 15) (o := 19) (rest := []) ⟨hx, hb, hml, hown, hts⟩ (m_X6_empty l hE hM X h _ hw) (cwV 0 hts gX6_readAll_X6_empty rfl rfl rfl (by decide +kernel) ⟨Nat.le_of_ble_eq_true rfl, Nat.le_of_ble_eq_true rfl⟩) hK hP hS (hM (19, 0) (List.mem_of_getElem? (i := 0) rfl)) z_l_19_0 rfl rfl hl.1 rfl (Nat.le_of_ble_eq_true rfl) dX6_readAll_1 ⟨Nat.zero_le _, Nat.zero_le _⟩ (fun u H locs hk hP hS => ?_)
  obtain ⟨h1, eu, hw⟩ := hk
  rw [eu] at hP
  refine lv_aload_n hx hb dX6_readAll_4 rfl (lv_at hl 0 rfl) ?_
  refine lv_iconst (v := (0 : Int32)) hx hb dX6_readAll_5 (by decide) ?_
  obtain ⟨h2, eh2⟩ : ∃ z : z_G, z = z_ss h1 0 13 (0 : Int32) := ⟨_, rfl⟩
  replace hw := hw h2 eh2
  refine z_puti (C := RX6) (T := TX6) (N := 15) (ref := "GauntletHallModel") (o := 19) (d := 0) (X' := z_up X 19 h2) hx hb hts hfX6 tyX6 tyX6_ok nmX6 hown hK hE hP hS (hM (19, 0) (List.mem_of_getElem? (i := 0) rfl)) z_l_19_0 rfl 13 (by decide) (hts (.fieldLink RX6 65 "GauntletHallModel" "spot" "I") (by decide +kernel)) rfl rfl (by decide +kernel) rfl (by rw [eh2]; exact z_up_put X 19 h1 0 13 _) dX6_readAll_6 (fun H locs hP hS => ?_)
  exact m_X6_readAll_b9 C hM X K h2 hw hP hS (lv_sub hl [0] rfl)
set_option maxHeartbeats 4000000 in
set_option maxRecDepth 100000 in
theorem m_X6_fault (l : Launch) {E : z_E} (hE : z_ok E) (hM : z_mod E) (X : z_X) (h : z_G) (K : Int32 → z_G → Prop) (hw : v_X6_fault h K) : z_CI l E yX6_fault wsX6_fault rX6_fault [.ref (z_a E 19 0)] (z_up X 19 h) (fun r X' => ∃ h', X' = z_up X 19 h' ∧ K r h') := by
  refine z_start (cc := cX6_fault) (maxL := 1) (ret := (some .int)) hE (by decide) rfl (Nat.le_of_ble_eq_true rfl) ?_
  intro p e s m below meth c C hP hS ls hl
  have C : z_Cx p E s m _ meth c cX6_fault 1 wsX6_fault RX6 (some .int) := C
  obtain ⟨hx, hb, hml, hr, hlocks, hown, hts, hK, hE⟩ := id C
  have hl : lv_has ls 1 [(0, .ref (z_a E 19 0))] := hl
  unfold v_X6_fault at hw
  refine lv_aload_n hx hb dX6_fault_0 rfl (lv_at hl 0 rfl) ?_
  refine z_vi (C := RX6) (T := TX6) (N := 15) (o := 19) (rest := []) ⟨hx, hb, hml, hown, hts⟩ (m_X6_readAll l hE hM X h _ hw) (cwV 0 hts gX6_fault_X6_readAll rfl rfl rfl (by decide +kernel) ⟨Nat.le_of_ble_eq_true rfl, Nat.le_of_ble_eq_true rfl⟩) hK hP hS (hM (19, 0) (List.mem_of_getElem? (i := 0) rfl)) z_l_19_0 rfl rfl hl.1 rfl (Nat.le_of_ble_eq_true rfl) dX6_fault_1 ⟨Nat.zero_le _, Nat.zero_le _⟩ (fun r1 u H locs hk hP hS => ?_)
  obtain ⟨h2, eu, hw⟩ := hk
  rw [eu] at hP
  exact z_reti C hP hS ⟨_, rfl, hw⟩ dX6_fault_4
