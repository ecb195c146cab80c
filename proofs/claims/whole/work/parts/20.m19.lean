/-! ===== PRINTED (wip/whole/gen/gen.py): the machine meets each definition: X6.stretch, X6.take, X6.time, X6.undo, X6.wear, X6.wipe, X6.write ===== -/
set_option maxHeartbeats 4000000 in
set_option maxRecDepth 100000 in
theorem m_X6_stretch (l : Launch) {E : z_E} (hE : z_ok E) (hM : z_mod E) (X : z_X) (h : z_G) (x1 : Int32) (K : Int32 → z_G → Prop) (hw : v_X6_stretch h x1 K) : z_CI l E yX6_stretch wsX6_stretch rX6_stretch [.ref (z_a E 19 0), .int x1] (z_up X 19 h) (fun r X' => ∃ h', X' = z_up X 19 h' ∧ K r h') := by
  refine z_start (cc := cX6_stretch) (maxL := 2) (ret := (some .int)) hE (by decide) rfl (Nat.le_of_ble_eq_true rfl) ?_
  intro p e s m below meth c C hP hS ls hl
  have C : z_Cx p E s m _ meth c cX6_stretch 2 wsX6_stretch RX6 (some .int) := C
  obtain ⟨hx, hb, hml, hr, hlocks, hown, hts, hK, hE⟩ := id C
  have hl : lv_has ls 2 [(0, .ref (z_a E 19 0)), (1, .int x1)] := hl
  have hfX6 : ∀ w ∈ u_ws RX6 TX6 15, w ∈ wsX6_stretch := by decide +kernel
  unfold v_X6_stretch at hw
  refine lv_aload_n hx hb dX6_stretch_0 rfl (lv_at hl 0 rfl) ?_
  refine lv_iload_n hx hb dX6_stretch_1 rfl (lv_at hl 1 rfl) ?_
  refine z_vi (C := RX6) (T := TX6) (N := 15) (o := 19) (rest := []) ⟨hx, hb, hml, hown, hts⟩ (m_X6_isGlove l hE hM X h x1 _ hw) (cwV 1 hts gX6_stretch_X6_isGlove rfl rfl rfl (by decide +kernel) ⟨Nat.le_of_ble_eq_true rfl, Nat.le_of_ble_eq_true rfl⟩) hK hP hS (hM (19, 0) (List.mem_of_getElem? (i := 0) rfl)) z_l_19_0 rfl rfl hl.1 rfl (Nat.le_of_ble_eq_true rfl) dX6_stretch_2 ⟨Nat.zero_le _, Nat.zero_le _⟩ (fun r1 u H locs hk hP hS => ?_)
  obtain ⟨eu, hw⟩ := hk
  rw [eu] at hP
  refine lv_if_ne (tgt := 10) hx hb dX6_stretch_5 (by decide) (fun c2 => ?_) (fun c2 => ?_)
  · replace hw := hw.1 c2
    refine lv_aload_n hx hb dX6_stretch_10 rfl (lv_at hl 0 rfl) ?_
    refine z_getr (C := RX6) (T := TX6) (N := 15) (ref := "GauntletHallModel") (o := 19) (d := 0) hx hb hts hfX6 hown hK hP (hM (19, 0) (List.mem_of_getElem? (i := 0) rfl)) z_l_19_0 rfl 5 (by decide) (hts (.fieldLink RX6 22 "GauntletHallModel" "now" "[I") (by decide +kernel)) rfl rfl dX6_stretch_11 ?_
    refine lv_bipush (v := (10 : Int32)) hx hb dX6_stretch_14 (by decide) ?_
    refine lv_iload_n hx hb dX6_stretch_16 rfl (lv_at hl 1 rfl) ?_
    refine lv_iadd hx hb dX6_stretch_17 ?_
    obtain ⟨i3, hw⟩ := hw
    refine z_iald (o := 19) (d := 5) hx hb hK hP (hM (19, 5) (List.mem_of_getElem? (i := 5) rfl)) z_l_19_5 i3 (z_up_val X 19 h 5 (z_n ((10 : Int32) + x1))) dX6_stretch_18 ?_
    refine lv_iconst (v := (1 : Int32)) hx hb dX6_stretch_19 (by decide) ?_
    refine lv_icmp_ne (tgt := 50) hx hb dX6_stretch_20 (by decide) (fun c4 => ?_) (fun c4 => ?_)
    · replace hw := hw.1 c4
      refine lv_bipush (v := (-2 : Int32)) hx hb dX6_stretch_50 (by decide) ?_
      exact z_reti C hP hS ⟨_, rfl, hw⟩ dX6_stretch_52
    · replace hw := hw.2 c4
      refine lv_aload_n hx hb dX6_stretch_23 rfl (lv_at hl 0 rfl) ?_
      refine z_getr (C := RX6) (T := TX6) (N := 15) (ref := "GauntletHallModel") (o := 19) (d := 0) hx hb hts hfX6 hown hK hP (hM (19, 0) (List.mem_of_getElem? (i := 0) rfl)) z_l_19_0 rfl 5 (by decide) (hts (.fieldLink RX6 22 "GauntletHallModel" "now" "[I") (by decide +kernel)) rfl rfl dX6_stretch_24 ?_
      refine lv_iconst (v := (3 : Int32)) hx hb dX6_stretch_27 (by decide) ?_
      obtain ⟨i5, hw⟩ := hw
      refine z_iald (o := 19) (d := 5) hx hb hK hP (hM (19, 5) (List.mem_of_getElem? (i := 5) rfl)) z_l_19_5 i5 (z_up_val X 19 h 5 (z_n (3 : Int32))) dX6_stretch_28 ?_
      refine lv_iload_n hx hb dX6_stretch_29 rfl (lv_at hl 1 rfl) ?_
      refine z_si (rest := []) ⟨hx, hb, hml, hown, hts⟩ (m_X6_has l hE (z_up X 19 h) (h 5 (z_n (3 : Int32))) x1 _ hw) (va_cwS 2 hts gX6_stretch_X6_has rfl rfl rfl (by decide +kernel) ⟨Nat.le_of_ble_eq_true rfl, Nat.le_of_ble_eq_true rfl⟩) hK hP hS rfl hl.1 rfl (Nat.le_of_ble_eq_true rfl) dX6_stretch_30 ⟨Nat.zero_le _, Nat.zero_le _⟩ (fun r6 u H locs hk hP hS => ?_)
      obtain ⟨eu, hw⟩ := hk
      rw [eu] at hP
      refine lv_if_eq (tgt := 50) hx hb dX6_stretch_33 (by decide) (fun c7 => ?_) (fun c7 => ?_)
      · replace hw := hw.1 c7
        refine lv_bipush (v := (-2 : Int32)) hx hb dX6_stretch_50 (by decide) ?_
        exact z_reti C hP hS ⟨_, rfl, hw⟩ dX6_stretch_52
      · replace hw := hw.2 c7
        refine lv_aload_n hx hb dX6_stretch_36 rfl (lv_at hl 0 rfl) ?_
        refine z_getr (C := RX6) (T := TX6) (N := 15) (ref := "GauntletHallModel") (o := 19) (d := 0) hx hb hts hfX6 hown hK hP (hM (19, 0) (List.mem_of_getElem? (i := 0) rfl)) z_l_19_0 rfl 5 (by decide) (hts (.fieldLink RX6 22 "GauntletHallModel" "now" "[I") (by decide +kernel)) rfl rfl dX6_stretch_37 ?_
        refine lv_bipush (v := (18 : Int32)) hx hb dX6_stretch_40 (by decide) ?_
        refine lv_iload_n hx hb dX6_stretch_42 rfl (lv_at hl 1 rfl) ?_
        refine lv_iadd hx hb dX6_stretch_43 ?_
        obtain ⟨i8, hw⟩ := hw
        refine z_iald (o := 19) (d := 5) hx hb hK hP (hM (19, 5) (List.mem_of_getElem? (i := 5) rfl)) z_l_19_5 i8 (z_up_val X 19 h 5 (z_n ((18 : Int32) + x1))) dX6_stretch_44 ?_
        refine lv_bipush (v := (20 : Int32)) hx hb dX6_stretch_45 (by decide) ?_
        refine lv_icmp_ne (tgt := 53) hx hb dX6_stretch_47 (by decide) (fun c9 => ?_) (fun c9 => ?_)
        · replace hw := hw.1 c9
          refine lv_aload_n hx hb dX6_stretch_53 rfl (lv_at hl 0 rfl) ?_
          refine z_vv (C := RX6) (T := TX6) (N := 15) (o := 19) (rest := []) ⟨hx, hb, hml, hown, hts⟩ (m_X6_note l hE hM X h _ hw) (cwV 0 hts gX6_stretch_X6_note rfl rfl rfl (by decide +kernel) ⟨Nat.le_of_ble_eq_true rfl, Nat.le_of_ble_eq_true rfl⟩) hK hP hS (hM (19, 0) (List.mem_of_getElem? (i := 0) rfl)) z_l_19_0 rfl rfl hl.1 rfl (Nat.le_of_ble_eq_true rfl) dX6_stretch_54 ⟨Nat.zero_le _, Nat.zero_le _⟩ (fun u H locs hk hP hS => ?_)
          obtain ⟨h10, eu, hw⟩ := hk
          rw [eu] at hP
          refine lv_aload_n hx hb dX6_stretch_57 rfl (lv_at hl 0 rfl) ?_
          refine z_getr (C := RX6) (T := TX6) (N := 15) (ref := "GauntletHallModel") (o := 19) (d := 0) hx hb hts hfX6 hown hK hP (hM (19, 0) (List.mem_of_getElem? (i := 0) rfl)) z_l_19_0 rfl 5 (by decide) (hts (.fieldLink RX6 22 "GauntletHallModel" "now" "[I") (by decide +kernel)) rfl rfl dX6_stretch_58 ?_
          refine lv_bipush (v := (18 : Int32)) hx hb dX6_stretch_61 (by decide) ?_
          refine lv_iload_n hx hb dX6_stretch_63 rfl (lv_at hl 1 rfl) ?_
          refine lv_iadd hx hb dX6_stretch_64 ?_
          refine lv_dup2_11 hx hb dX6_stretch_65 rfl rfl ?_
          obtain ⟨i11, hw⟩ := hw
          refine z_iald (o := 19) (d := 5) hx hb hK hP (hM (19, 5) (List.mem_of_getElem? (i := 5) rfl)) z_l_19_5 i11 (z_up_val X 19 h10 5 (z_n ((18 : Int32) + x1))) dX6_stretch_66 ?_
          refine lv_iconst (v := (1 : Int32)) hx hb dX6_stretch_67 (by decide) ?_
          refine lv_iadd hx hb dX6_stretch_68 ?_
          obtain ⟨i12, hw⟩ := hw
          obtain ⟨h13, eh13⟩ : ∃ z : z_G, z = z_ss h10 5 (z_n ((18 : Int32) + x1)) ((h10 5 (z_n ((18 : Int32) + x1))) + (1 : Int32)) := ⟨_, rfl⟩
          replace hw := hw h13 eh13
          refine z_iast (o := 19) (d := 5) (X' := z_up X 19 h13) hx hb hK hE hP hS (hM (19, 5) (List.mem_of_getElem? (i := 5) rfl)) z_l_19_5 i12 (by rw [eh13]; exact z_up_put X 19 h10 5 (z_n ((18 : Int32) + x1)) _) dX6_stretch_69 (fun H locs hP hS => ?_)
          refine lv_aload_n hx hb dX6_stretch_70 rfl (lv_at hl 0 rfl) ?_
          refine z_getr (C := RX6) (T := TX6) (N := 15) (ref := "GauntletHallModel") (o := 19) (d := 0) hx hb hts hfX6 hown hK hP (hM (19, 0) (List.mem_of_getElem? (i := 0) rfl)) z_l_19_0 rfl 5 (by decide) (hts (.fieldLink RX6 22 "GauntletHallModel" "now" "[I") (by decide +kernel)) rfl rfl dX6_stretch_71 ?_
          refine lv_bipush (v := (18 : Int32)) hx hb dX6_stretch_74 (by decide) ?_
          refine lv_iload_n hx hb dX6_stretch_76 rfl (lv_at hl 1 rfl) ?_
          refine lv_iadd hx hb dX6_stretch_77 ?_
          obtain ⟨i14, hw⟩ := hw
          refine z_iald (o := 19) (d := 5) hx hb hK hP (hM (19, 5) (List.mem_of_getElem? (i := 5) rfl)) z_l_19_5 i14 (z_up_val X 19 h13 5 (z_n ((18 : Int32) + x1))) dX6_stretch_78 ?_
          exact z_reti C hP hS ⟨_, rfl, hw⟩ dX6_stretch_79
        · replace hw := hw.2 c9
          refine lv_bipush (v := (-2 : Int32)) hx hb dX6_stretch_50 (by decide) ?_
          exact z_reti C hP hS ⟨_, rfl, hw⟩ dX6_stretch_52
  · replace hw := hw.2 c2
    refine lv_iconst (v := (-1 : Int32)) hx hb dX6_stretch_8 (by decide) ?_
    exact z_reti C hP hS ⟨_, rfl, hw⟩ dX6_stretch_9
set_option maxHeartbeats 4000000 in
set_option maxRecDepth 100000 in
theorem m_X6_take (l : Launch) {E : z_E} (hE : z_ok E) (hM : z_mod E) (X : z_X) (h : z_G) (x1 : Int32) (K : Int32 → z_G → Prop) (hw : v_X6_take h x1 K) : z_CI l E yX6_take wsX6_take rX6_take [.ref (z_a E 19 0), .int x1] (z_up X 19 h) (fun r X' => ∃ h', X' = z_up X 19 h' ∧ K r h') := by
  refine z_start (cc := cX6_take) (maxL := 2) (ret := (some .int)) hE (by decide) rfl (Nat.le_of_ble_eq_true rfl) ?_
  intro p e s m below meth c C hP hS ls hl
  have C : z_Cx p E s m _ meth c cX6_take 2 wsX6_take RX6 (some .int) := C
  obtain ⟨hx, hb, hml, hr, hlocks, hown, hts, hK, hE⟩ := id C
  have hl : lv_has ls 2 [(0, .ref (z_a E 19 0)), (1, .int x1)] := hl
  have hfX6 : ∀ w ∈ u_ws RX6 TX6 15, w ∈ wsX6_take := by decide +kernel
  unfold v_X6_take at hw
  refine lv_aload_n hx hb dX6_take_0 rfl (lv_at hl 0 rfl) ?_
  refine lv_iload_n hx hb dX6_take_1 rfl (lv_at hl 1 rfl) ?_
  refine z_vi (C := RX6) (T := TX6) (N := 15) (o := 19) (rest := []) ⟨hx, hb, hml, hown, hts⟩ (m_X6_isGlove l hE hM X h x1 _ hw) (cwV 1 hts gX6_take_X6_isGlove rfl rfl rfl (by decide +kernel) ⟨Nat.le_of_ble_eq_true rfl, Nat.le_of_ble_eq_true rfl⟩) hK hP hS (hM (19, 0) (List.mem_of_getElem? (i := 0) rfl)) z_l_19_0 rfl rfl hl.1 rfl (Nat.le_of_ble_eq_true rfl) dX6_take_2 ⟨Nat.zero_le _, Nat.zero_le _⟩ (fun r1 u H locs hk hP hS => ?_)
  obtain ⟨eu, hw⟩ := hk
  rw [eu] at hP
  refine lv_if_ne (tgt := 10) hx hb dX6_take_5 (by decide) (fun c2 => ?_) (fun c2 => ?_)
  · replace hw := hw.1 c2
    refine lv_aload_n hx hb dX6_take_10 rfl (lv_at hl 0 rfl) ?_
    refine z_getr (C := RX6) (T := TX6) (N := 15) (ref := "GauntletHallModel") (o := 19) (d := 0) hx hb hts hfX6 hown hK hP (hM (19, 0) (List.mem_of_getElem? (i := 0) rfl)) z_l_19_0 rfl 5 (by decide) (hts (.fieldLink RX6 22 "GauntletHallModel" "now" "[I") (by decide +kernel)) rfl rfl dX6_take_11 ?_
    refine lv_iconst (v := (3 : Int32)) hx hb dX6_take_14 (by decide) ?_
    obtain ⟨i3, hw⟩ := hw
    refine z_iald (o := 19) (d := 5) hx hb hK hP (hM (19, 5) (List.mem_of_getElem? (i := 5) rfl)) z_l_19_5 i3 (z_up_val X 19 h 5 (z_n (3 : Int32))) dX6_take_15 ?_
    refine lv_iload_n hx hb dX6_take_16 rfl (lv_at hl 1 rfl) ?_
    refine z_si (rest := []) ⟨hx, hb, hml, hown, hts⟩ (m_X6_has l hE (z_up X 19 h) (h 5 (z_n (3 : Int32))) x1 _ hw) (va_cwS 2 hts gX6_take_X6_has rfl rfl rfl (by decide +kernel) ⟨Nat.le_of_ble_eq_true rfl, Nat.le_of_ble_eq_true rfl⟩) hK hP hS rfl hl.1 rfl (Nat.le_of_ble_eq_true rfl) dX6_take_17 ⟨Nat.zero_le _, Nat.zero_le _⟩ (fun r4 u H locs hk hP hS => ?_)
    obtain ⟨eu, hw⟩ := hk
    rw [eu] at hP
    refine lv_if_ne (tgt := 26) hx hb dX6_take_20 (by decide) (fun c5 => ?_) (fun c5 => ?_)
    · replace hw := hw.1 c5
      refine lv_aload_n hx hb dX6_take_26 rfl (lv_at hl 0 rfl) ?_
      refine z_vv (C := RX6) (T := TX6) (N := 15) (o := 19) (rest := []) ⟨hx, hb, hml, hown, hts⟩ (m_X6_note l hE hM X h _ hw) (cwV 0 hts gX6_take_X6_note rfl rfl rfl (by decide +kernel) ⟨Nat.le_of_ble_eq_true rfl, Nat.le_of_ble_eq_true rfl⟩) hK hP hS (hM (19, 0) (List.mem_of_getElem? (i := 0) rfl)) z_l_19_0 rfl rfl hl.1 rfl (Nat.le_of_ble_eq_true rfl) dX6_take_27 ⟨Nat.zero_le _, Nat.zero_le _⟩ (fun u H locs hk hP hS => ?_)
      obtain ⟨h6, eu, hw⟩ := hk
      rw [eu] at hP
      refine lv_aload_n hx hb dX6_take_30 rfl (lv_at hl 0 rfl) ?_
      refine z_getr (C := RX6) (T := TX6) (N := 15) (ref := "GauntletHallModel") (o := 19) (d := 0) hx hb hts hfX6 hown hK hP (hM (19, 0) (List.mem_of_getElem? (i := 0) rfl)) z_l_19_0 rfl 5 (by decide) (hts (.fieldLink RX6 22 "GauntletHallModel" "now" "[I") (by decide +kernel)) rfl rfl dX6_take_31 ?_
      refine lv_iconst (v := (3 : Int32)) hx hb dX6_take_34 (by decide) ?_
      refine lv_dup2_11 hx hb dX6_take_35 rfl rfl ?_
      obtain ⟨i7, hw⟩ := hw
      refine z_iald (o := 19) (d := 5) hx hb hK hP (hM (19, 5) (List.mem_of_getElem? (i := 5) rfl)) z_l_19_5 i7 (z_up_val X 19 h6 5 (z_n (3 : Int32))) dX6_take_36 ?_
      refine lv_iconst (v := (1 : Int32)) hx hb dX6_take_37 (by decide) ?_
      refine lv_iload_n hx hb dX6_take_38 rfl (lv_at hl 1 rfl) ?_
      refine lv_ishl hx hb dX6_take_39 ?_
      refine lv_iconst (v := (-1 : Int32)) hx hb dX6_take_40 (by decide) ?_
      refine lv_ixor hx hb dX6_take_41 ?_
      refine lv_iand hx hb dX6_take_42 ?_
      obtain ⟨i8, hw⟩ := hw
      obtain ⟨h9, eh9⟩ : ∃ z : z_G, z = z_ss h6 5 (z_n (3 : Int32)) ((h6 5 (z_n (3 : Int32))) &&& (((1 : Int32) <<< (x1 &&& (31 : Int32))) ^^^ (-1 : Int32))) := ⟨_, rfl⟩
      replace hw := hw h9 eh9
      refine z_iast (o := 19) (d := 5) (X' := z_up X 19 h9) hx hb hK hE hP hS (hM (19, 5) (List.mem_of_getElem? (i := 5) rfl)) z_l_19_5 i8 (by rw [eh9]; exact z_up_put X 19 h6 5 (z_n (3 : Int32)) _) dX6_take_43 (fun H locs hP hS => ?_)
      refine lv_aload_n hx hb dX6_take_44 rfl (lv_at hl 0 rfl) ?_
      refine z_getr (C := RX6) (T := TX6) (N := 15) (ref := "GauntletHallModel") (o := 19) (d := 0) hx hb hts hfX6 hown hK hP (hM (19, 0) (List.mem_of_getElem? (i := 0) rfl)) z_l_19_0 rfl 5 (by decide) (hts (.fieldLink RX6 22 "GauntletHallModel" "now" "[I") (by decide +kernel)) rfl rfl dX6_take_45 ?_
      refine lv_iconst (v := (3 : Int32)) hx hb dX6_take_48 (by decide) ?_
      obtain ⟨i10, hw⟩ := hw
      refine z_iald (o := 19) (d := 5) hx hb hK hP (hM (19, 5) (List.mem_of_getElem? (i := 5) rfl)) z_l_19_5 i10 (z_up_val X 19 h9 5 (z_n (3 : Int32))) dX6_take_49 ?_
      refine z_si (rest := []) ⟨hx, hb, hml, hown, hts⟩ (m_X6_ones l hE (z_up X 19 h9) (h9 5 (z_n (3 : Int32))) _ hw) (va_cwS 1 hts gX6_take_X6_ones rfl rfl rfl (by decide +kernel) ⟨Nat.le_of_ble_eq_true rfl, Nat.le_of_ble_eq_true rfl⟩) hK hP hS rfl hl.1 rfl (Nat.le_of_ble_eq_true rfl) dX6_take_50 ⟨Nat.zero_le _, Nat.zero_le _⟩ (fun r11 u H locs hk hP hS => ?_)
      obtain ⟨eu, hw⟩ := hk
      rw [eu] at hP
      exact z_reti C hP hS ⟨_, rfl, hw⟩ dX6_take_53
    · replace hw := hw.2 c5
      refine lv_bipush (v := (-2 : Int32)) hx hb dX6_take_23 (by decide) ?_
      exact z_reti C hP hS ⟨_, rfl, hw⟩ dX6_take_25
  · replace hw := hw.2 c2
    refine lv_iconst (v := (-1 : Int32)) hx hb dX6_take_8 (by decide) ?_
    exact z_reti C hP hS ⟨_, rfl, hw⟩ dX6_take_9
set_option maxHeartbeats 4000000 in
set_option maxRecDepth 100000 in
theorem m_X6_time_b134 {p : Program} {l : Launch} {e : Env} {s : State} {m : MethodId} {args : Array Value} {below : List Frame} {meth : Method} {c : Code} {E : z_E} (C : z_Cx p E s m args meth c cX6_time 7 wsX6_time RX6 (some .int)) (hM : z_mod E) (X : z_X) (K : Int32 → z_G → Prop) (L104 : z_G → Int32 → Int32 → Int32 → Int32 → Prop) (k104 : ∀ (h : z_G) (x3 : Int32) (x4 : Int32) (x5 : Int32) (x6 : Int32), L104 h x3 x4 x5 x6 → ∀ {H : Heap} {locs : List Loc}, z_P E (z_up X 19 h) H → va_S (z_A E) s.heap H locs → ∀ (ls : Array Slot), lv_has ls 7 [(0, .ref (z_a E 19 0)), (3, .int x3), (4, .int x4), (5, .int x5), (6, .int x6)] → W p l e rX6_time s m args below meth c H locs 0 0 (MQ below (va_Qi (fun r X' => ∃ h', X' = z_up X 19 h' ∧ K r h') (fun u t => z_P E u t.heap) (z_A E)) args s 0 0 (z_A E)) (F0 m 104 ls [])) (h : z_G) (x3 : Int32) (x5 : Int32) (x6 : Int32) (t0 : Int32) (t1 : Int32) (hw : v_X6_time_b134 K L104 h x3 x5 x6 t0 t1) {H : Heap} {locs : List Loc} (hP : z_P E (z_up X 19 h) H) (hS : va_S (z_A E) s.heap H locs) {ls : Array Slot} (hl : lv_has ls 7 [(0, .ref (z_a E 19 0)), (3, .int x3), (5, .int x5), (6, .int x6)]) : W p l e rX6_time s m args below meth c H locs 0 0 (MQ below (va_Qi (fun r X' => ∃ h', X' = z_up X 19 h' ∧ K r h') (fun u t => z_P E u t.heap) (z_A E)) args s 0 0 (z_A E)) (F0 m 134 ls [.int t1, .int t0]) := by
  obtain ⟨hx, hb, hml, hr, hlocks, hown, hts, hK, hE⟩ := id C
  have hfX6 : ∀ w ∈ u_ws RX6 TX6 15, w ∈ wsX6_time := by decide +kernel
  unfold v_X6_time_b134 at hw
  refine lv_iadd hx hb dX6_time_134 ?_
  refine lv_topi (fun y17 ey17 => ?_)
  replace hw := hw y17 ey17
  refine lv_istore (lv' := [(4, .int y17), (0, .ref (z_a E 19 0)), (3, .int x3), (5, .int x5), (6, .int x6)]) hx hb dX6_time_135 hl (by decide) rfl (fun ls hl => ?_)
  refine lv_iload hx hb dX6_time_137 (lv_at hl 3 rfl) ?_
  refine lv_aload_n hx hb dX6_time_139 rfl (lv_at hl 1 rfl) ?_
  refine z_getr (C := RX6) (T := TX6) (N := 15) (ref := "GauntletHallModel") (o := 19) (d := 0) hx hb hts hfX6 hown hK hP (hM (19, 0) (List.mem_of_getElem? (i := 0) rfl)) z_l_19_0 rfl 6 (by decide) (hts (.fieldLink RX6 25 "GauntletHallModel" "side" "[I") (by decide +kernel)) rfl rfl dX6_time_140 ?_
  refine lv_iconst (v := (4 : Int32)) hx hb dX6_time_143 (by decide) ?_
  refine lv_iload hx hb dX6_time_144 (lv_at hl 4 rfl) ?_
  refine lv_iadd hx hb dX6_time_146 ?_
  obtain ⟨i18, hw⟩ := hw
  refine z_iald (o := 19) (d := 6) hx hb hK hP (hM (19, 6) (List.mem_of_getElem? (i := 6) rfl)) z_l_19_6 i18 (z_up_val X 19 h 6 (z_n ((4 : Int32) + x6))) dX6_time_147 ?_
  refine lv_iadd hx hb dX6_time_148 ?_
  refine lv_topi (fun y19 ey19 => ?_)
  replace hw := hw y19 ey19
  refine lv_istore (lv' := [(5, .int y19), (4, .int y17), (0, .ref (z_a E 19 0)), (3, .int x3), (6, .int x6)]) hx hb dX6_time_149 hl (by decide) rfl (fun ls hl => ?_)
  obtain ⟨y20, ey20⟩ : ∃ z : Int32, z = x6 + (1 : Int32) := ⟨_, rfl⟩
  replace hw := hw y20 ey20
  refine lv_iinc (v := y20) (lv' := [(6, .int y20), (5, .int y19), (4, .int y17), (0, .ref (z_a E 19 0)), (3, .int x3)]) hx hb dX6_time_151 hl (k := 4) rfl (by rw [ey20]; rfl) (by decide) rfl (fun ls hl => ?_)
  refine lv_goto (tgt := 104) hx hb dX6_time_154 (by decide) ?_
  exact k104 h x3 y17 y19 y20 hw hP hS _ (lv_sub hl [3, 4, 2, 1, 0] rfl)
set_option maxHeartbeats 4000000 in
set_option maxRecDepth 100000 in
theorem m_X6_time_b104_s {p : Program} {l : Launch} {e : Env} {s : State} {m : MethodId} {args : Array Value} {below : List Frame} {meth : Method} {c : Code} {E : z_E} (C : z_Cx p E s m args meth c cX6_time 7 wsX6_time RX6 (some .int)) (hM : z_mod E) (X : z_X) (K : Int32 → z_G → Prop) (L104 : z_G → Int32 → Int32 → Int32 → Int32 → Prop) (k104 : ∀ (h : z_G) (x3 : Int32) (x4 : Int32) (x5 : Int32) (x6 : Int32), L104 h x3 x4 x5 x6 → ∀ {H : Heap} {locs : List Loc}, z_P E (z_up X 19 h) H → va_S (z_A E) s.heap H locs → ∀ (ls : Array Slot), lv_has ls 7 [(0, .ref (z_a E 19 0)), (3, .int x3), (4, .int x4), (5, .int x5), (6, .int x6)] → W p l e rX6_time s m args below meth c H locs 0 0 (MQ below (va_Qi (fun r X' => ∃ h', X' = z_up X 19 h' ∧ K r h') (fun u t => z_P E u t.heap) (z_A E)) args s 0 0 (z_A E)) (F0 m 104 ls [])) (h : z_G) (x3 : Int32) (x4 : Int32) (x5 : Int32) (x6 : Int32) (hw : v_X6_time_b104_s K L104 h x3 x4 x5 x6) {H : Heap} {locs : List Loc} (hP : z_P E (z_up X 19 h) H) (hS : va_S (z_A E) s.heap H locs) {ls : Array Slot} (hl : lv_has ls 7 [(0, .ref (z_a E 19 0)), (3, .int x3), (4, .int x4), (5, .int x5), (6, .int x6)]) : W p l e rX6_time s m args below meth c H locs 0 0 (MQ below (va_Qi (fun r X' => ∃ h', X' = z_up X 19 h' ∧ K r h') (fun u t => z_P E u t.heap) (z_A E)) args s 0 0 (z_A E)) (F0 m 104 ls []) := by
  obtain ⟨hx, hb, hml, hr, hlocks, hown, hts, hK, hE⟩ := id C
  have hfX6 : ∀ w ∈ u_ws RX6 TX6 15, w ∈ wsX6_time := by decide +kernel
  unfold v_X6_time_b104_s at hw
  refine lv_iload hx hb dX6_time_104 (lv_at hl 4 rfl) ?_
  refine lv_aload_n hx hb dX6_time_106 rfl (lv_at hl 0 rfl) ?_
  refine z_getr (C := RX6) (T := TX6) (N := 15) (ref := "GauntletHallModel") (o := 19) (d := 0) hx hb hts hfX6 hown hK hP (hM (19, 0) (List.mem_of_getElem? (i := 0) rfl)) z_l_19_0 rfl 2 (by decide) (hts (.fieldLink RX6 13 "GauntletHallModel" "told" "[I") (by decide +kernel)) rfl rfl dX6_time_107 ?_
  refine lv_iconst (v := (0 : Int32)) hx hb dX6_time_110 (by decide) ?_
  obtain ⟨i9, hw⟩ := hw
  refine z_iald (o := 19) (d := 2) hx hb hK hP (hM (19, 2) (List.mem_of_getElem? (i := 2) rfl)) z_l_19_2 i9 (z_up_val X 19 h 2 (z_n (0 : Int32))) dX6_time_111 ?_
  refine lv_icmp_ge (tgt := 157) hx hb dX6_time_112 (by decide) (fun c10 => ?_) (fun c10 => ?_)
  · replace hw := hw.1 c10
    refine lv_iload_n hx hb dX6_time_157 rfl (lv_at hl 1 rfl) ?_
    refine lv_if_ne (tgt := 166) hx hb dX6_time_158 (by decide) (fun c11 => ?_) (fun c11 => ?_)
    · replace hw := hw.1 c11
      refine lv_iload_n hx hb dX6_time_166 rfl (lv_at hl 1 rfl) ?_
      refine lv_iconst (v := (1 : Int32)) hx hb dX6_time_167 (by decide) ?_
      refine lv_icmp_ne (tgt := 183) hx hb dX6_time_168 (by decide) (fun c12 => ?_) (fun c12 => ?_)
      · replace hw := hw.1 c12
        refine lv_iload hx hb dX6_time_183 (lv_at hl 3 rfl) ?_
        exact z_reti C hP hS ⟨_, rfl, hw⟩ dX6_time_185
      · replace hw := hw.2 c12
        refine lv_aload_n hx hb dX6_time_171 rfl (lv_at hl 0 rfl) ?_
        refine z_getr (C := RX6) (T := TX6) (N := 15) (ref := "GauntletHallModel") (o := 19) (d := 0) hx hb hts hfX6 hown hK hP (hM (19, 0) (List.mem_of_getElem? (i := 0) rfl)) z_l_19_0 rfl 6 (by decide) (hts (.fieldLink RX6 25 "GauntletHallModel" "side" "[I") (by decide +kernel)) rfl rfl dX6_time_172 ?_
        refine lv_iconst (v := (3 : Int32)) hx hb dX6_time_175 (by decide) ?_
        obtain ⟨i13, hw⟩ := hw
        refine z_iald (o := 19) (d := 6) hx hb hK hP (hM (19, 6) (List.mem_of_getElem? (i := 6) rfl)) z_l_19_6 i13 (z_up_val X 19 h 6 (z_n (3 : Int32))) dX6_time_176 ?_
        refine z_si (rest := []) ⟨hx, hb, hml, hown, hts⟩ (m_X6_ones l hE (z_up X 19 h) (h 6 (z_n (3 : Int32))) _ hw) (va_cwS 1 hts gX6_time_X6_ones rfl rfl rfl (by decide +kernel) ⟨Nat.le_of_ble_eq_true rfl, Nat.le_of_ble_eq_true rfl⟩) hK hP hS rfl hl.1 rfl (Nat.le_of_ble_eq_true rfl) dX6_time_177 ⟨Nat.zero_le _, Nat.zero_le _⟩ (fun r14 u H locs hk hP hS => ?_)
        obtain ⟨eu, hw⟩ := hk
        rw [eu] at hP
        refine lv_goto (tgt := 185) hx hb dX6_time_180 (by decide) ?_
        exact z_reti C hP hS ⟨_, rfl, hw⟩ dX6_time_185
    · replace hw := hw.2 c11
      refine lv_iload hx hb dX6_time_161 (lv_at hl 2 rfl) ?_
      refine lv_goto (tgt := 185) hx hb dX6_time_163 (by decide) ?_
      exact z_reti C hP hS ⟨_, rfl, hw⟩ dX6_time_185
  · replace hw := hw.2 c10
    refine lv_iload hx hb dX6_time_115 (lv_at hl 2 rfl) ?_
    refine lv_aload_n hx hb dX6_time_117 rfl (lv_at hl 0 rfl) ?_
    refine z_getr (C := RX6) (T := TX6) (N := 15) (ref := "GauntletHallModel") (o := 19) (d := 0) hx hb hts hfX6 hown hK hP (hM (19, 0) (List.mem_of_getElem? (i := 0) rfl)) z_l_19_0 rfl 6 (by decide) (hts (.fieldLink RX6 25 "GauntletHallModel" "side" "[I") (by decide +kernel)) rfl rfl dX6_time_118 ?_
    refine lv_iconst (v := (4 : Int32)) hx hb dX6_time_121 (by decide) ?_
    refine lv_iload hx hb dX6_time_122 (lv_at hl 4 rfl) ?_
    refine lv_iadd hx hb dX6_time_124 ?_
    obtain ⟨i15, hw⟩ := hw
    refine z_iald (o := 19) (d := 6) hx hb hK hP (hM (19, 6) (List.mem_of_getElem? (i := 6) rfl)) z_l_19_6 i15 (z_up_val X 19 h 6 (z_n ((4 : Int32) + x6))) dX6_time_125 ?_
    refine lv_if_ne (tgt := 133) hx hb dX6_time_126 (by decide) (fun c16 => ?_) (fun c16 => ?_)
    · replace hw := hw.1 c16
      refine lv_iconst (v := (0 : Int32)) hx hb dX6_time_133 (by decide) ?_
      exact m_X6_time_b134 C hM X K L104 k104 h x3 x5 x6 x4 (0 : Int32) hw hP hS (lv_sub hl [0, 1, 3, 4] rfl)
    · replace hw := hw.2 c16
      refine lv_iconst (v := (1 : Int32)) hx hb dX6_time_129 (by decide) ?_
      refine lv_goto (tgt := 134) hx hb dX6_time_130 (by decide) ?_
      exact m_X6_time_b134 C hM X K L104 k104 h x3 x5 x6 x4 (1 : Int32) hw hP hS (lv_sub hl [0, 1, 3, 4] rfl)
theorem m_X6_time_b104 {p : Program} {l : Launch} {e : Env} {s : State} {m : MethodId} {args : Array Value} {below : List Frame} {meth : Method} {c : Code} {E : z_E} (C : z_Cx p E s m args meth c cX6_time 7 wsX6_time RX6 (some .int)) (hM : z_mod E) (X : z_X) (K : Int32 → z_G → Prop) (h : z_G) (x3 : Int32) (x4 : Int32) (x5 : Int32) (x6 : Int32) (hw : v_X6_time_b104 K h x3 x4 x5 x6) {H : Heap} {locs : List Loc} (hP : z_P E (z_up X 19 h) H) (hS : va_S (z_A E) s.heap H locs) {ls : Array Slot} (hl : lv_has ls 7 [(0, .ref (z_a E 19 0)), (3, .int x3), (4, .int x4), (5, .int x5), (6, .int x6)]) : W p l e rX6_time s m args below meth c H locs 0 0 (MQ below (va_Qi (fun r X' => ∃ h', X' = z_up X 19 h' ∧ K r h') (fun u t => z_P E u t.heap) (z_A E)) args s 0 0 (z_A E)) (F0 m 104 ls []) := by
  obtain ⟨n, hw⟩ := hw
  revert hw hP hS hl
  revert h x3 x4 x5 x6 H locs ls
  induction n with
  | zero => intro h x3 x4 x5 x6 H locs ls hP hS hl hw; exact hw.elim
  | succ n ih =>
    intro h x3 x4 x5 x6 H locs ls hP hS hl hw
    exact m_X6_time_b104_s C hM X K (fun h x3 x4 x5 x6 => z_fp (σ := z_G × Int32 × Int32 × Int32 × Int32) (fun Lp q => v_X6_time_b104_s K (fun h x3 x4 x5 x6 => Lp (h, x3, x4, x5, x6)) q.1 q.2.1 q.2.2.1 q.2.2.2.1 q.2.2.2.2) n (h, x3, x4, x5, x6)) (fun h x3 x4 x5 x6 h9 H locs hP hS ls hl => ih h x3 x4 x5 x6 hP hS hl h9) h x3 x4 x5 x6 hw hP hS hl
set_option maxHeartbeats 4000000 in
set_option maxRecDepth 100000 in
theorem m_X6_time_b45_s {p : Program} {l : Launch} {e : Env} {s : State} {m : MethodId} {args : Array Value} {below : List Frame} {meth : Method} {c : Code} {E : z_E} (C : z_Cx p E s m args meth c cX6_time 7 wsX6_time RX6 (some .int)) (hM : z_mod E) (X : z_X) (K : Int32 → z_G → Prop) (L45 : z_G → Int32 → Int32 → Int32 → Int32 → Prop) (k45 : ∀ (h : z_G) (x1 : Int32) (x2 : Int32) (x3 : Int32) (x4 : Int32), L45 h x1 x2 x3 x4 → ∀ {H : Heap} {locs : List Loc}, z_P E (z_up X 19 h) H → va_S (z_A E) s.heap H locs → ∀ (ls : Array Slot), lv_has ls 7 [(0, .ref (z_a E 19 0)), (1, .int x1), (2, .int x2), (3, .int x3), (4, .int x4)] → W p l e rX6_time s m args below meth c H locs 0 0 (MQ below (va_Qi (fun r X' => ∃ h', X' = z_up X 19 h' ∧ K r h') (fun u t => z_P E u t.heap) (z_A E)) args s 0 0 (z_A E)) (F0 m 45 ls [])) (h : z_G) (x1 : Int32) (x2 : Int32) (x3 : Int32) (x4 : Int32) (hw : v_X6_time_b45_s K L45 h x1 x2 x3 x4) {H : Heap} {locs : List Loc} (hP : z_P E (z_up X 19 h) H) (hS : va_S (z_A E) s.heap H locs) {ls : Array Slot} (hl : lv_has ls 7 [(0, .ref (z_a E 19 0)), (1, .int x1), (2, .int x2), (3, .int x3), (4, .int x4)]) : W p l e rX6_time s m args below meth c H locs 0 0 (MQ below (va_Qi (fun r X' => ∃ h', X' = z_up X 19 h' ∧ K r h') (fun u t => z_P E u t.heap) (z_A E)) args s 0 0 (z_A E)) (F0 m 45 ls []) := by
  obtain ⟨hx, hb, hml, hr, hlocks, hown, hts, hK, hE⟩ := id C
  have hfX6 : ∀ w ∈ u_ws RX6 TX6 15, w ∈ wsX6_time := by decide +kernel
  unfold v_X6_time_b45_s at hw
  refine lv_iload hx hb dX6_time_45 (lv_at hl 4 rfl) ?_
  refine lv_iload_n hx hb dX6_time_47 rfl (lv_at hl 2 rfl) ?_
  refine lv_icmp_ge (tgt := 95) hx hb dX6_time_48 (by decide) (fun c8 => ?_) (fun c8 => ?_)
  · replace hw := hw.1 c8
    refine lv_iconst (v := (0 : Int32)) hx hb dX6_time_95 (by decide) ?_
    refine lv_istore (lv' := [(4, .int (0 : Int32)), (0, .ref (z_a E 19 0)), (1, .int x1), (2, .int x2), (3, .int x3)]) hx hb dX6_time_96 hl (by decide) rfl (fun ls hl => ?_)
    refine lv_iconst (v := (0 : Int32)) hx hb dX6_time_98 (by decide) ?_
    refine lv_istore (lv' := [(5, .int (0 : Int32)), (4, .int (0 : Int32)), (0, .ref (z_a E 19 0)), (1, .int x1), (2, .int x2), (3, .int x3)]) hx hb dX6_time_99 hl (by decide) rfl (fun ls hl => ?_)
    refine lv_iconst (v := (0 : Int32)) hx hb dX6_time_101 (by decide) ?_
    refine lv_istore (lv' := [(6, .int (0 : Int32)), (5, .int (0 : Int32)), (4, .int (0 : Int32)), (0, .ref (z_a E 19 0)), (1, .int x1), (2, .int x2), (3, .int x3)]) hx hb dX6_time_102 hl (by decide) rfl (fun ls hl => ?_)
    exact m_X6_time_b104 C hM X K h x3 (0 : Int32) (0 : Int32) (0 : Int32) hw hP hS (lv_sub hl [3, 6, 2, 1, 0] rfl)
  · replace hw := hw.2 c8
    refine lv_ldc2 hx hb hown (hts (.constantLong RX6 175 (7919)) (by decide +kernel)) dX6_time_51 ?_
    refine lv_iload_n hx hb dX6_time_54 rfl (lv_at hl 1 rfl) ?_
    refine lv_i2l hx hb dX6_time_55 rfl ?_
    refine lv_lmul hx hb dX6_time_56 ?_
    refine lv_ldc2 hx hb hown (hts (.constantLong RX6 177 (6151)) (by decide +kernel)) dX6_time_57 ?_
    refine lv_iload hx hb dX6_time_60 (lv_at hl 4 rfl) ?_
    refine lv_i2l hx hb dX6_time_62 rfl ?_
    refine lv_lmul hx hb dX6_time_63 ?_
    refine lv_ladd hx hb dX6_time_64 ?_
    refine lv_lconst (v := (1 : Int64)) hx hb dX6_time_65 (by decide) ?_
    refine lv_ladd hx hb dX6_time_66 ?_
    refine lv_topl (fun y21 ey21 => ?_)
    replace hw := hw y21 ey21
    refine lv_lstore (lv' := [(5, .long y21), (0, .ref (z_a E 19 0)), (1, .int x1), (2, .int x2), (3, .int x3), (4, .int x4)]) hx hb dX6_time_67 hl (by decide) rfl (fun ls hl => ?_)
    refine lv_aload_n hx hb dX6_time_69 rfl (lv_at hl 1 rfl) ?_
    refine lv_lload hx hb dX6_time_70 (lv_at hl 0 rfl) ?_
    refine lv_lload hx hb dX6_time_72 (lv_at hl 0 rfl) ?_
    refine lv_lmul hx hb dX6_time_74 ?_
    refine lv_ldc2 hx hb hown (hts (.constantLong RX6 179 (65521)) (by decide +kernel)) dX6_time_75 ?_
    refine lv_lrem hx hb dX6_time_78 (by decide) ?_
    refine lv_l2i hx hb dX6_time_79 rfl ?_
    refine lv_iconst (v := (2 : Int32)) hx hb dX6_time_80 (by decide) ?_
    refine lv_idiv hx hb dX6_time_81 (by decide) ?_
    refine z_vv (C := RX6) (T := TX6) (N := 15) (o := 19) (rest := []) ⟨hx, hb, hml, hown, hts⟩ (m_X6_goDrawn l hE hM X h ((Int64.toInt32 ((y21 * y21) - (y21 * y21) / (65521 : Int64) * (65521 : Int64))) / (2 : Int32)) _ hw) (cwV 1 hts gX6_time_X6_goDrawn rfl rfl rfl (by decide +kernel) ⟨Nat.le_of_ble_eq_true rfl, Nat.le_of_ble_eq_true rfl⟩) hK hP hS (hM (19, 0) (List.mem_of_getElem? (i := 0) rfl)) z_l_19_0 rfl rfl hl.1 rfl (Nat.le_of_ble_eq_true rfl) dX6_time_82 ⟨Nat.zero_le _, Nat.zero_le _⟩ (fun u H locs hk hP hS => ?_)
    obtain ⟨h22, eu, hw⟩ := hk
    rw [eu] at hP
    refine lv_aload_n hx hb dX6_time_85 rfl (lv_at hl 1 rfl) ?_
    refine z_vv (C := RX6) (T := TX6) (N := 15) (o := 19) (rest := []) ⟨hx, hb, hml, hown, hts⟩ (m_X6_goReign l hE hM X h22 _ hw) (cwV 0 hts gX6_time_X6_goReign rfl rfl rfl (by decide +kernel) ⟨Nat.le_of_ble_eq_true rfl, Nat.le_of_ble_eq_true rfl⟩) hK hP hS (hM (19, 0) (List.mem_of_getElem? (i := 0) rfl)) z_l_19_0 rfl rfl hl.1 rfl (Nat.le_of_ble_eq_true rfl) dX6_time_86 ⟨Nat.zero_le _, Nat.zero_le _⟩ (fun u H locs hk hP hS => ?_)
    obtain ⟨h23, eu, hw⟩ := hk
    rw [eu] at hP
    obtain ⟨y24, ey24⟩ : ∃ z : Int32, z = x4 + (1 : Int32) := ⟨_, rfl⟩
    replace hw := hw y24 ey24
    refine lv_iinc (v := y24) (lv' := [(4, .int y24), (5, .long y21), (0, .ref (z_a E 19 0)), (1, .int x1), (2, .int x2), (3, .int x3)]) hx hb dX6_time_89 hl (k := 5) rfl (by rw [ey24]; rfl) (by decide) rfl (fun ls hl => ?_)
    refine lv_goto (tgt := 45) hx hb dX6_time_92 (by decide) ?_
    exact k45 h23 x1 x2 x3 y24 hw hP hS _ (lv_sub hl [2, 3, 4, 5, 0] rfl)
theorem m_X6_time_b45 {p : Program} {l : Launch} {e : Env} {s : State} {m : MethodId} {args : Array Value} {below : List Frame} {meth : Method} {c : Code} {E : z_E} (C : z_Cx p E s m args meth c cX6_time 7 wsX6_time RX6 (some .int)) (hM : z_mod E) (X : z_X) (K : Int32 → z_G → Prop) (h : z_G) (x1 : Int32) (x2 : Int32) (x3 : Int32) (x4 : Int32) (hw : v_X6_time_b45 K h x1 x2 x3 x4) {H : Heap} {locs : List Loc} (hP : z_P E (z_up X 19 h) H) (hS : va_S (z_A E) s.heap H locs) {ls : Array Slot} (hl : lv_has ls 7 [(0, .ref (z_a E 19 0)), (1, .int x1), (2, .int x2), (3, .int x3), (4, .int x4)]) : W p l e rX6_time s m args below meth c H locs 0 0 (MQ below (va_Qi (fun r X' => ∃ h', X' = z_up X 19 h' ∧ K r h') (fun u t => z_P E u t.heap) (z_A E)) args s 0 0 (z_A E)) (F0 m 45 ls []) := by
  obtain ⟨n, hw⟩ := hw
  revert hw hP hS hl
  revert h x1 x2 x3 x4 H locs ls
  induction n with
  | zero => intro h x1 x2 x3 x4 H locs ls hP hS hl hw; exact hw.elim
  | succ n ih =>
    intro h x1 x2 x3 x4 H locs ls hP hS hl hw
    exact m_X6_time_b45_s C hM X K (fun h x1 x2 x3 x4 => z_fp (σ := z_G × Int32 × Int32 × Int32 × Int32) (fun Lp q => v_X6_time_b45_s K (fun h x1 x2 x3 x4 => Lp (h, x1, x2, x3, x4)) q.1 q.2.1 q.2.2.1 q.2.2.2.1 q.2.2.2.2) n (h, x1, x2, x3, x4)) (fun h x1 x2 x3 x4 h9 H locs hP hS ls hl => ih h x1 x2 x3 x4 hP hS hl h9) h x1 x2 x3 x4 hw hP hS hl
set_option maxHeartbeats 4000000 in
set_option maxRecDepth 100000 in
theorem m_X6_time (l : Launch) {E : z_E} (hE : z_ok E) (hM : z_mod E) (X : z_X) (h : z_G) (x1 : Int32) (x2 : Int32) (x3 : Int32) (K : Int32 → z_G → Prop) (hw : v_X6_time h x1 x2 x3 K) : z_CI l E yX6_time wsX6_time rX6_time [.ref (z_a E 19 0), .int x1, .int x2, .int x3] (z_up X 19 h) (fun r X' => ∃ h', X' = z_up X 19 h' ∧ K r h') := by
  refine z_start (cc := cX6_time) (maxL := 7) (ret := (some .int)) hE (by decide) rfl (Nat.le_of_ble_eq_true rfl) ?_
  intro p e s m below meth c C hP hS ls hl
  have C : z_Cx p E s m _ meth c cX6_time 7 wsX6_time RX6 (some .int) := C
  obtain ⟨hx, hb, hml, hr, hlocks, hown, hts, hK, hE⟩ := id C
  have hl : lv_has ls 7 [(0, .ref (z_a E 19 0)), (1, .int x1), (2, .int x2), (3, .int x3)] := hl
  have hfX6 : ∀ w ∈ u_ws RX6 TX6 15, w ∈ wsX6_time := by decide +kernel
  unfold v_X6_time at hw
  refine lv_iload_n hx hb dX6_time_0 rfl (lv_at hl 1 rfl) ?_
  refine lv_i2l hx hb dX6_time_1 rfl ?_
  refine lv_lconst (v := (0 : Int64)) hx hb dX6_time_2 (by decide) ?_
  refine lv_ldc2 hx hb hown (hts (.constantLong RX6 171 (9999)) (by decide +kernel)) dX6_time_3 ?_
  refine z_si (rest := []) ⟨hx, hb, hml, hown, hts⟩ (m_X6_in l hE (z_up X 19 h) (Int32.toInt64 x1) (0 : Int64) (9999 : Int64) _ hw) (va_cwS 3 hts gX6_time_X6_in rfl rfl rfl (by decide +kernel) ⟨Nat.le_of_ble_eq_true rfl, Nat.le_of_ble_eq_true rfl⟩) hK hP hS rfl hl.1 rfl (Nat.le_of_ble_eq_true rfl) dX6_time_6 ⟨Nat.zero_le _, Nat.zero_le _⟩ (fun r1 u H locs hk hP hS => ?_)
  obtain ⟨eu, hw⟩ := hk
  rw [eu] at hP
  refine lv_if_eq (tgt := 36) hx hb dX6_time_9 (by decide) (fun c2 => ?_) (fun c2 => ?_)
  · replace hw := hw.1 c2
    refine lv_iconst (v := (-1 : Int32)) hx hb dX6_time_36 (by decide) ?_
    exact z_reti C hP hS ⟨_, rfl, hw⟩ dX6_time_37
  · replace hw := hw.2 c2
    refine lv_iload_n hx hb dX6_time_12 rfl (lv_at hl 2 rfl) ?_
    refine lv_i2l hx hb dX6_time_13 rfl ?_
    refine lv_lconst (v := (1 : Int64)) hx hb dX6_time_14 (by decide) ?_
    refine lv_ldc2 hx hb hown (hts (.constantLong RX6 173 (60)) (by decide +kernel)) dX6_time_15 ?_
    refine z_si (rest := []) ⟨hx, hb, hml, hown, hts⟩ (m_X6_in l hE (z_up X 19 h) (Int32.toInt64 x2) (1 : Int64) (60 : Int64) _ hw) (va_cwS 3 hts gX6_time_X6_in rfl rfl rfl (by decide +kernel) ⟨Nat.le_of_ble_eq_true rfl, Nat.le_of_ble_eq_true rfl⟩) hK hP hS rfl hl.1 rfl (Nat.le_of_ble_eq_true rfl) dX6_time_18 ⟨Nat.zero_le _, Nat.zero_le _⟩ (fun r3 u H locs hk hP hS => ?_)
    obtain ⟨eu, hw⟩ := hk
    rw [eu] at hP
    refine lv_if_eq (tgt := 36) hx hb dX6_time_21 (by decide) (fun c4 => ?_) (fun c4 => ?_)
    · replace hw := hw.1 c4
      refine lv_iconst (v := (-1 : Int32)) hx hb dX6_time_36 (by decide) ?_
      exact z_reti C hP hS ⟨_, rfl, hw⟩ dX6_time_37
    · replace hw := hw.2 c4
      refine lv_iload_n hx hb dX6_time_24 rfl (lv_at hl 3 rfl) ?_
      refine lv_i2l hx hb dX6_time_25 rfl ?_
      refine lv_lconst (v := (0 : Int64)) hx hb dX6_time_26 (by decide) ?_
      refine lv_ldc2 hx hb hown (hts (.constantLong RX6 76 (2)) (by decide +kernel)) dX6_time_27 ?_
      refine z_si (rest := []) ⟨hx, hb, hml, hown, hts⟩ (m_X6_in l hE (z_up X 19 h) (Int32.toInt64 x3) (0 : Int64) (2 : Int64) _ hw) (va_cwS 3 hts gX6_time_X6_in rfl rfl rfl (by decide +kernel) ⟨Nat.le_of_ble_eq_true rfl, Nat.le_of_ble_eq_true rfl⟩) hK hP hS rfl hl.1 rfl (Nat.le_of_ble_eq_true rfl) dX6_time_30 ⟨Nat.zero_le _, Nat.zero_le _⟩ (fun r5 u H locs hk hP hS => ?_)
      obtain ⟨eu, hw⟩ := hk
      rw [eu] at hP
      refine lv_if_ne (tgt := 38) hx hb dX6_time_33 (by decide) (fun c6 => ?_) (fun c6 => ?_)
      · replace hw := hw.1 c6
        refine lv_aload_n hx hb dX6_time_38 rfl (lv_at hl 0 rfl) ?_
        refine z_vv (C := RX6) (T := TX6) (N := 15) (o := 19) (rest := []) ⟨hx, hb, hml, hown, hts⟩ (m_X6_aside l hE hM X h _ hw) (cwV 0 hts gX6_time_X6_aside rfl rfl rfl (by decide +kernel) ⟨Nat.le_of_ble_eq_true rfl, Nat.le_of_ble_eq_true rfl⟩) hK hP hS (hM (19, 0) (List.mem_of_getElem? (i := 0) rfl)) z_l_19_0 rfl rfl hl.1 rfl (Nat.le_of_ble_eq_true rfl) dX6_time_39 ⟨Nat.zero_le _, Nat.zero_le _⟩ (fun u H locs hk hP hS => ?_)
        obtain ⟨h7, eu, hw⟩ := hk
        rw [eu] at hP
        refine lv_iconst (v := (0 : Int32)) hx hb dX6_time_42 (by decide) ?_
        refine lv_istore (lv' := [(4, .int (0 : Int32)), (0, .ref (z_a E 19 0)), (1, .int x1), (2, .int x2), (3, .int x3)]) hx hb dX6_time_43 hl (by decide) rfl (fun ls hl => ?_)
        exact m_X6_time_b45 C hM X K h7 x1 x2 x3 (0 : Int32) hw hP hS (lv_sub hl [1, 2, 3, 4, 0] rfl)
      · replace hw := hw.2 c6
        refine lv_iconst (v := (-1 : Int32)) hx hb dX6_time_36 (by decide) ?_
        exact z_reti C hP hS ⟨_, rfl, hw⟩ dX6_time_37
set_option maxHeartbeats 4000000 in
set_option maxRecDepth 100000 in
theorem m_X6_undo_b22_s {p : Program} {l : Launch} {e : Env} {s : State} {m : MethodId} {args : Array Value} {below : List Frame} {meth : Method} {c : Code} {E : z_E} (C : z_Cx p E s m args meth c cX6_undo 2 wsX6_undo RX6 (some .int)) (hM : z_mod E) (X : z_X) (K : Int32 → z_G → Prop) (L22 : z_G → Int32 → Prop) (k22 : ∀ (h : z_G) (x1 : Int32), L22 h x1 → ∀ {H : Heap} {locs : List Loc}, z_P E (z_up X 19 h) H → va_S (z_A E) s.heap H locs → ∀ (ls : Array Slot), lv_has ls 2 [(0, .ref (z_a E 19 0)), (1, .int x1)] → W p l e rX6_undo s m args below meth c H locs 0 0 (MQ below (va_Qi (fun r X' => ∃ h', X' = z_up X 19 h' ∧ K r h') (fun u t => z_P E u t.heap) (z_A E)) args s 0 0 (z_A E)) (F0 m 22 ls [])) (h : z_G) (x1 : Int32) (hw : v_X6_undo_b22_s K L22 h x1) {H : Heap} {locs : List Loc} (hP : z_P E (z_up X 19 h) H) (hS : va_S (z_A E) s.heap H locs) {ls : Array Slot} (hl : lv_has ls 2 [(0, .ref (z_a E 19 0)), (1, .int x1)]) : W p l e rX6_undo s m args below meth c H locs 0 0 (MQ below (va_Qi (fun r X' => ∃ h', X' = z_up X 19 h' ∧ K r h') (fun u t => z_P E u t.heap) (z_A E)) args s 0 0 (z_A E)) (F0 m 22 ls []) := by
  obtain ⟨hx, hb, hml, hr, hlocks, hown, hts, hK, hE⟩ := id C
  have hfX6 : ∀ w ∈ u_ws RX6 TX6 15, w ∈ wsX6_undo := by decide +kernel
  unfold v_X6_undo_b22_s at hw
  refine lv_iload_n hx hb dX6_undo_22 rfl (lv_at hl 1 rfl) ?_
  refine lv_bipush (v := (42 : Int32)) hx hb dX6_undo_23 (by decide) ?_
  refine lv_icmp_ge (tgt := 54) hx hb dX6_undo_25 (by decide) (fun c3 => ?_) (fun c3 => ?_)
  · replace hw := hw.1 c3
    refine lv_aload_n hx hb dX6_undo_54 rfl (lv_at hl 0 rfl) ?_
    refine z_geti (C := RX6) (T := TX6) (N := 15) (ref := "GauntletHallModel") (o := 19) (d := 0) hx hb hts hfX6 hown hK hP (hM (19, 0) (List.mem_of_getElem? (i := 0) rfl)) z_l_19_0 rfl 8 (by decide) (hts (.fieldLink RX6 96 "GauntletHallModel" "undoMany" "I") (by decide +kernel)) rfl rfl (z_up_val X 19 h 0 8) dX6_undo_55 ?_
    exact z_reti C hP hS ⟨_, rfl, hw⟩ dX6_undo_58
  · replace hw := hw.2 c3
    refine lv_aload_n hx hb dX6_undo_28 rfl (lv_at hl 0 rfl) ?_
    refine z_getr (C := RX6) (T := TX6) (N := 15) (ref := "GauntletHallModel") (o := 19) (d := 0) hx hb hts hfX6 hown hK hP (hM (19, 0) (List.mem_of_getElem? (i := 0) rfl)) z_l_19_0 rfl 5 (by decide) (hts (.fieldLink RX6 22 "GauntletHallModel" "now" "[I") (by decide +kernel)) rfl rfl dX6_undo_29 ?_
    refine lv_iload_n hx hb dX6_undo_32 rfl (lv_at hl 1 rfl) ?_
    refine lv_aload_n hx hb dX6_undo_33 rfl (lv_at hl 0 rfl) ?_
    refine z_getr (C := RX6) (T := TX6) (N := 15) (ref := "GauntletHallModel") (o := 19) (d := 0) hx hb hts hfX6 hown hK hP (hM (19, 0) (List.mem_of_getElem? (i := 0) rfl)) z_l_19_0 rfl 7 (by decide) (hts (.fieldLink RX6 28 "GauntletHallModel" "before" "[I") (by decide +kernel)) rfl rfl dX6_undo_34 ?_
    refine lv_bipush (v := (42 : Int32)) hx hb dX6_undo_37 (by decide) ?_
    refine lv_aload_n hx hb dX6_undo_39 rfl (lv_at hl 0 rfl) ?_
    refine z_geti (C := RX6) (T := TX6) (N := 15) (ref := "GauntletHallModel") (o := 19) (d := 0) hx hb hts hfX6 hown hK hP (hM (19, 0) (List.mem_of_getElem? (i := 0) rfl)) z_l_19_0 rfl 8 (by decide) (hts (.fieldLink RX6 96 "GauntletHallModel" "undoMany" "I") (by decide +kernel)) rfl rfl (z_up_val X 19 h 0 8) dX6_undo_40 ?_
    refine lv_imul hx hb dX6_undo_43 ?_
    refine lv_iload_n hx hb dX6_undo_44 rfl (lv_at hl 1 rfl) ?_
    refine lv_iadd hx hb dX6_undo_45 ?_
    obtain ⟨i4, hw⟩ := hw
    refine z_iald (o := 19) (d := 7) hx hb hK hP (hM (19, 7) (List.mem_of_getElem? (i := 7) rfl)) z_l_19_7 i4 (z_up_val X 19 h 7 (z_n (((42 : Int32) * (h 0 8)) + x1))) dX6_undo_46 ?_
    obtain ⟨i5, hw⟩ := hw
    obtain ⟨h6, eh6⟩ : ∃ z : z_G, z = z_ss h 5 (z_n x1) (h 7 (z_n (((42 : Int32) * (h 0 8)) + x1))) := ⟨_, rfl⟩
    replace hw := hw h6 eh6
    refine z_iast (o := 19) (d := 5) (X' := z_up X 19 h6) hx hb hK hE hP hS (hM (19, 5) (List.mem_of_getElem? (i := 5) rfl)) z_l_19_5 i5 (by rw [eh6]; exact z_up_put X 19 h 5 (z_n x1) _) dX6_undo_47 (fun H locs hP hS => ?_)
    obtain ⟨y7, ey7⟩ : ∃ z : Int32, z = x1 + (1 : Int32) := ⟨_, rfl⟩
    replace hw := hw y7 ey7
    refine lv_iinc (v := y7) (lv' := [(1, .int y7), (0, .ref (z_a E 19 0))]) hx hb dX6_undo_48 hl (k := 1) rfl (by rw [ey7]; rfl) (by decide) rfl (fun ls hl => ?_)
    refine lv_goto (tgt := 22) hx hb dX6_undo_51 (by decide) ?_
    exact k22 h6 y7 hw hP hS _ (lv_sub hl [1, 0] rfl)
theorem m_X6_undo_b22 {p : Program} {l : Launch} {e : Env} {s : State} {m : MethodId} {args : Array Value} {below : List Frame} {meth : Method} {c : Code} {E : z_E} (C : z_Cx p E s m args meth c cX6_undo 2 wsX6_undo RX6 (some .int)) (hM : z_mod E) (X : z_X) (K : Int32 → z_G → Prop) (h : z_G) (x1 : Int32) (hw : v_X6_undo_b22 K h x1) {H : Heap} {locs : List Loc} (hP : z_P E (z_up X 19 h) H) (hS : va_S (z_A E) s.heap H locs) {ls : Array Slot} (hl : lv_has ls 2 [(0, .ref (z_a E 19 0)), (1, .int x1)]) : W p l e rX6_undo s m args below meth c H locs 0 0 (MQ below (va_Qi (fun r X' => ∃ h', X' = z_up X 19 h' ∧ K r h') (fun u t => z_P E u t.heap) (z_A E)) args s 0 0 (z_A E)) (F0 m 22 ls []) := by
  obtain ⟨n, hw⟩ := hw
  revert hw hP hS hl
  revert h x1 H locs ls
  induction n with
  | zero => intro h x1 H locs ls hP hS hl hw; exact hw.elim
  | succ n ih =>
    intro h x1 H locs ls hP hS hl hw
    exact m_X6_undo_b22_s C hM X K (fun h x1 => z_fp (σ := z_G × Int32) (fun Lp q => v_X6_undo_b22_s K (fun h x1 => Lp (h, x1)) q.1 q.2) n (h, x1)) (fun h x1 h9 H locs hP hS ls hl => ih h x1 hP hS hl h9) h x1 hw hP hS hl
set_option maxHeartbeats 4000000 in
set_option maxRecDepth 100000 in
theorem m_X6_undo (l : Launch) {E : z_E} (hE : z_ok E) (hM : z_mod E) (X : z_X) (h : z_G) (K : Int32 → z_G → Prop) (hw : v_X6_undo h K) : z_CI l E yX6_undo wsX6_undo rX6_undo [.ref (z_a E 19 0)] (z_up X 19 h) (fun r X' => ∃ h', X' = z_up X 19 h' ∧ K r h') := by
  refine z_start (cc := cX6_undo) (maxL := 2) (ret := (some .int)) hE (by decide) rfl (Nat.le_of_ble_eq_true rfl) ?_
  intro p e s m below meth c C hP hS ls hl
  have C : z_Cx p E s m _ meth c cX6_undo 2 wsX6_undo RX6 (some .int) := C
  obtain ⟨hx, hb, hml, hr, hlocks, hown, hts, hK, hE⟩ := id C
  have hl : lv_has ls 2 [(0, .ref (z_a E 19 0))] := hl
  have hfX6 : ∀ w ∈ u_ws RX6 TX6 15, w ∈ wsX6_undo := by decide +kernel
  unfold v_X6_undo at hw
  refine lv_aload_n hx hb dX6_undo_0 rfl (lv_at hl 0 rfl) ?_
  refine z_geti (C := RX6) (T := TX6) (N := 15) (ref := "GauntletHallModel") (o := 19) (d := 0) hx hb hts hfX6 hown hK hP (hM (19, 0) (List.mem_of_getElem? (i := 0) rfl)) z_l_19_0 rfl 8 (by decide) (hts (.fieldLink RX6 96 "GauntletHallModel" "undoMany" "I") (by decide +kernel)) rfl rfl (z_up_val X 19 h 0 8) dX6_undo_1 ?_
  refine lv_if_ne (tgt := 10) hx hb dX6_undo_4 (by decide) (fun c1 => ?_) (fun c1 => ?_)
  · replace hw := hw.1 c1
    refine lv_aload_n hx hb dX6_undo_10 rfl (lv_at hl 0 rfl) ?_
    refine lv_dup hx hb dX6_undo_11 rfl ?_
    refine z_geti (C := RX6) (T := TX6) (N := 15) (ref := "GauntletHallModel") (o := 19) (d := 0) hx hb hts hfX6 hown hK hP (hM (19, 0) (List.mem_of_getElem? (i := 0) rfl)) z_l_19_0 rfl 8 (by decide) (hts (.fieldLink RX6 96 "GauntletHallModel" "undoMany" "I") (by decide +kernel)) rfl rfl (z_up_val X 19 h 0 8) dX6_undo_12 ?_
    refine lv_iconst (v := (1 : Int32)) hx hb dX6_undo_15 (by decide) ?_
    refine lv_isub hx hb dX6_undo_16 ?_
    obtain ⟨h2, eh2⟩ : ∃ z : z_G, z = z_ss h 0 8 ((h 0 8) - (1 : Int32)) := ⟨_, rfl⟩
    replace hw := hw h2 eh2
    refine z_puti (C := RX6) (T := TX6) (N := 15) (ref := "GauntletHallModel") (o := 19) (d := 0) (X' := z_up X 19 h2) hx hb hts hfX6 tyX6 tyX6_ok nmX6 hown hK hE hP hS (hM (19, 0) (List.mem_of_getElem? (i := 0) rfl)) z_l_19_0 rfl 8 (by decide) (hts (.fieldLink RX6 96 "GauntletHallModel" "undoMany" "I") (by decide +kernel)) rfl rfl (by decide +kernel) rfl (by rw [eh2]; exact z_up_put X 19 h 0 8 _) dX6_undo_17 (fun H locs hP hS => ?_)
    refine lv_iconst (v := (0 : Int32)) hx hb dX6_undo_20 (by decide) ?_
    refine lv_istore_n (lv' := [(1, .int (0 : Int32)), (0, .ref (z_a E 19 0))]) hx hb dX6_undo_21 rfl hl (by decide) rfl (fun ls hl => ?_)
    exact m_X6_undo_b22 C hM X K h2 (0 : Int32) hw hP hS (lv_sub hl [1, 0] rfl)
  · replace hw := hw.2 c1
    refine lv_bipush (v := (-2 : Int32)) hx hb dX6_undo_7 (by decide) ?_
    exact z_reti C hP hS ⟨_, rfl, hw⟩ dX6_undo_9
set_option maxHeartbeats 4000000 in
set_option maxRecDepth 100000 in
theorem m_X6_wear (l : Launch) {E : z_E} (hE : z_ok E) (hM : z_mod E) (X : z_X) (h : z_G) (x1 : Int32) (x2 : Int32) (K : Int32 → z_G → Prop) (hw : v_X6_wear h x1 x2 K) : z_CI l E yX6_wear wsX6_wear rX6_wear [.ref (z_a E 19 0), .int x1, .int x2] (z_up X 19 h) (fun r X' => ∃ h', X' = z_up X 19 h' ∧ K r h') := by
  refine z_start (cc := cX6_wear) (maxL := 3) (ret := (some .int)) hE (by decide) rfl (Nat.le_of_ble_eq_true rfl) ?_
  intro p e s m below meth c C hP hS ls hl
  have C : z_Cx p E s m _ meth c cX6_wear 3 wsX6_wear RX6 (some .int) := C
  obtain ⟨hx, hb, hml, hr, hlocks, hown, hts, hK, hE⟩ := id C
  have hl : lv_has ls 3 [(0, .ref (z_a E 19 0)), (1, .int x1), (2, .int x2)] := hl
  have hfX6 : ∀ w ∈ u_ws RX6 TX6 15, w ∈ wsX6_wear := by decide +kernel
  unfold v_X6_wear at hw
  refine lv_aload_n hx hb dX6_wear_0 rfl (lv_at hl 0 rfl) ?_
  refine lv_iload_n hx hb dX6_wear_1 rfl (lv_at hl 1 rfl) ?_
  refine z_vi (C := RX6) (T := TX6) (N := 15) (o := 19) (rest := []) ⟨hx, hb, hml, hown, hts⟩ (m_X6_isPerson l hE hM X h x1 _ hw) (cwV 1 hts gX6_wear_X6_isPerson rfl rfl rfl (by decide +kernel) ⟨Nat.le_of_ble_eq_true rfl, Nat.le_of_ble_eq_true rfl⟩) hK hP hS (hM (19, 0) (List.mem_of_getElem? (i := 0) rfl)) z_l_19_0 rfl rfl hl.1 rfl (Nat.le_of_ble_eq_true rfl) dX6_wear_2 ⟨Nat.zero_le _, Nat.zero_le _⟩ (fun r1 u H locs hk hP hS => ?_)
  obtain ⟨eu, hw⟩ := hk
  rw [eu] at hP
  refine lv_if_eq (tgt := 16) hx hb dX6_wear_5 (by decide) (fun c2 => ?_) (fun c2 => ?_)
  · replace hw := hw.1 c2
    refine lv_iconst (v := (-1 : Int32)) hx hb dX6_wear_16 (by decide) ?_
    exact z_reti C hP hS ⟨_, rfl, hw⟩ dX6_wear_17
  · replace hw := hw.2 c2
    refine lv_aload_n hx hb dX6_wear_8 rfl (lv_at hl 0 rfl) ?_
    refine lv_iload_n hx hb dX6_wear_9 rfl (lv_at hl 2 rfl) ?_
    refine z_vi (C := RX6) (T := TX6) (N := 15) (o := 19) (rest := []) ⟨hx, hb, hml, hown, hts⟩ (m_X6_isGlove l hE hM X h x2 _ hw) (cwV 1 hts gX6_wear_X6_isGlove rfl rfl rfl (by decide +kernel) ⟨Nat.le_of_ble_eq_true rfl, Nat.le_of_ble_eq_true rfl⟩) hK hP hS (hM (19, 0) (List.mem_of_getElem? (i := 0) rfl)) z_l_19_0 rfl rfl hl.1 rfl (Nat.le_of_ble_eq_true rfl) dX6_wear_10 ⟨Nat.zero_le _, Nat.zero_le _⟩ (fun r3 u H locs hk hP hS => ?_)
    obtain ⟨eu, hw⟩ := hk
    rw [eu] at hP
    refine lv_if_ne (tgt := 18) hx hb dX6_wear_13 (by decide) (fun c4 => ?_) (fun c4 => ?_)
    · replace hw := hw.1 c4
      refine lv_aload_n hx hb dX6_wear_18 rfl (lv_at hl 0 rfl) ?_
      refine z_vv (C := RX6) (T := TX6) (N := 15) (o := 19) (rest := []) ⟨hx, hb, hml, hown, hts⟩ (m_X6_aside l hE hM X h _ hw) (cwV 0 hts gX6_wear_X6_aside rfl rfl rfl (by decide +kernel) ⟨Nat.le_of_ble_eq_true rfl, Nat.le_of_ble_eq_true rfl⟩) hK hP hS (hM (19, 0) (List.mem_of_getElem? (i := 0) rfl)) z_l_19_0 rfl rfl hl.1 rfl (Nat.le_of_ble_eq_true rfl) dX6_wear_19 ⟨Nat.zero_le _, Nat.zero_le _⟩ (fun u H locs hk hP hS => ?_)
      obtain ⟨h5, eu, hw⟩ := hk
      rw [eu] at hP
      refine lv_aload_n hx hb dX6_wear_22 rfl (lv_at hl 0 rfl) ?_
      refine lv_iload_n hx hb dX6_wear_23 rfl (lv_at hl 2 rfl) ?_
      refine lv_iload_n hx hb dX6_wear_24 rfl (lv_at hl 1 rfl) ?_
      refine z_vi (C := RX6) (T := TX6) (N := 15) (o := 19) (rest := []) ⟨hx, hb, hml, hown, hts⟩ (m_X6_isFit l hE hM X h5 x2 x1 _ hw) (cwV 2 hts gX6_wear_X6_isFit rfl rfl rfl (by decide +kernel) ⟨Nat.le_of_ble_eq_true rfl, Nat.le_of_ble_eq_true rfl⟩) hK hP hS (hM (19, 0) (List.mem_of_getElem? (i := 0) rfl)) z_l_19_0 rfl rfl hl.1 rfl (Nat.le_of_ble_eq_true rfl) dX6_wear_25 ⟨Nat.zero_le _, Nat.zero_le _⟩ (fun r6 u H locs hk hP hS => ?_)
      obtain ⟨eu, hw⟩ := hk
      rw [eu] at hP
      refine lv_if_ne (tgt := 34) hx hb dX6_wear_28 (by decide) (fun c7 => ?_) (fun c7 => ?_)
      · replace hw := hw.1 c7
        refine lv_aload_n hx hb dX6_wear_34 rfl (lv_at hl 0 rfl) ?_
        refine z_vv (C := RX6) (T := TX6) (N := 15) (o := 19) (rest := []) ⟨hx, hb, hml, hown, hts⟩ (m_X6_note l hE hM X h5 _ hw) (cwV 0 hts gX6_wear_X6_note rfl rfl rfl (by decide +kernel) ⟨Nat.le_of_ble_eq_true rfl, Nat.le_of_ble_eq_true rfl⟩) hK hP hS (hM (19, 0) (List.mem_of_getElem? (i := 0) rfl)) z_l_19_0 rfl rfl hl.1 rfl (Nat.le_of_ble_eq_true rfl) dX6_wear_35 ⟨Nat.zero_le _, Nat.zero_le _⟩ (fun u H locs hk hP hS => ?_)
        obtain ⟨h8, eu, hw⟩ := hk
        rw [eu] at hP
        refine lv_aload_n hx hb dX6_wear_38 rfl (lv_at hl 0 rfl) ?_
        refine lv_iload_n hx hb dX6_wear_39 rfl (lv_at hl 1 rfl) ?_
        refine lv_iload_n hx hb dX6_wear_40 rfl (lv_at hl 2 rfl) ?_
        refine z_vv (C := RX6) (T := TX6) (N := 15) (o := 19) (rest := []) ⟨hx, hb, hml, hown, hts⟩ (m_X6_goWear l hE hM X h8 x1 x2 _ hw) (cwV 2 hts gX6_wear_X6_goWear rfl rfl rfl (by decide +kernel) ⟨Nat.le_of_ble_eq_true rfl, Nat.le_of_ble_eq_true rfl⟩) hK hP hS (hM (19, 0) (List.mem_of_getElem? (i := 0) rfl)) z_l_19_0 rfl rfl hl.1 rfl (Nat.le_of_ble_eq_true rfl) dX6_wear_41 ⟨Nat.zero_le _, Nat.zero_le _⟩ (fun u H locs hk hP hS => ?_)
        obtain ⟨h9, eu, hw⟩ := hk
        rw [eu] at hP
        refine lv_aload_n hx hb dX6_wear_44 rfl (lv_at hl 0 rfl) ?_
        refine z_vv (C := RX6) (T := TX6) (N := 15) (o := 19) (rest := []) ⟨hx, hb, hml, hown, hts⟩ (m_X6_settle l hE hM X h9 _ hw) (cwV 0 hts gX6_wear_X6_settle rfl rfl rfl (by decide +kernel) ⟨Nat.le_of_ble_eq_true rfl, Nat.le_of_ble_eq_true rfl⟩) hK hP hS (hM (19, 0) (List.mem_of_getElem? (i := 0) rfl)) z_l_19_0 rfl rfl hl.1 rfl (Nat.le_of_ble_eq_true rfl) dX6_wear_45 ⟨Nat.zero_le _, Nat.zero_le _⟩ (fun u H locs hk hP hS => ?_)
        obtain ⟨h10, eu, hw⟩ := hk
        rw [eu] at hP
        refine lv_aload_n hx hb dX6_wear_48 rfl (lv_at hl 0 rfl) ?_
        refine z_getr (C := RX6) (T := TX6) (N := 15) (ref := "GauntletHallModel") (o := 19) (d := 0) hx hb hts hfX6 hown hK hP (hM (19, 0) (List.mem_of_getElem? (i := 0) rfl)) z_l_19_0 rfl 5 (by decide) (hts (.fieldLink RX6 22 "GauntletHallModel" "now" "[I") (by decide +kernel)) rfl rfl dX6_wear_49 ?_
        refine lv_iconst (v := (4 : Int32)) hx hb dX6_wear_52 (by decide) ?_
        refine lv_iload_n hx hb dX6_wear_53 rfl (lv_at hl 1 rfl) ?_
        refine lv_iadd hx hb dX6_wear_54 ?_
        obtain ⟨i11, hw⟩ := hw
        refine z_iald (o := 19) (d := 5) hx hb hK hP (hM (19, 5) (List.mem_of_getElem? (i := 5) rfl)) z_l_19_5 i11 (z_up_val X 19 h10 5 (z_n ((4 : Int32) + x1))) dX6_wear_55 ?_
        exact z_reti C hP hS ⟨_, rfl, hw⟩ dX6_wear_56
      · replace hw := hw.2 c7
        refine lv_bipush (v := (-2 : Int32)) hx hb dX6_wear_31 (by decide) ?_
        exact z_reti C hP hS ⟨_, rfl, hw⟩ dX6_wear_33
    · replace hw := hw.2 c4
      refine lv_iconst (v := (-1 : Int32)) hx hb dX6_wear_16 (by decide) ?_
      exact z_reti C hP hS ⟨_, rfl, hw⟩ dX6_wear_17
set_option maxHeartbeats 4000000 in
set_option maxRecDepth 100000 in
theorem m_X6_wipe (l : Launch) {E : z_E} (hE : z_ok E) (hM : z_mod E) (X : z_X) (h : z_G) (K : Int32 → z_G → Prop) (hw : v_X6_wipe h K) : z_CI l E yX6_wipe wsX6_wipe rX6_wipe [.ref (z_a E 19 0)] (z_up X 19 h) (fun r X' => ∃ h', X' = z_up X 19 h' ∧ K r h') := by
  refine z_start (cc := cX6_wipe) (maxL := 2) (ret := (some .int)) hE (by decide) rfl (Nat.le_of_ble_eq_true rfl) ?_
  intro p e s m below meth c C hP hS ls hl
  have C : z_Cx p E s m _ meth c cX6_wipe 2 wsX6_wipe RX6 (some .int) := C
  obtain ⟨hx, hb, hml, hr, hlocks, hown, hts, hK, hE⟩ := id C
  have hl : lv_has ls 2 [(0, .ref (z_a E 19 0))] := hl
  have hfX6 : ∀ w ∈ u_ws RX6 TX6 15, w ∈ wsX6_wipe := by decide +kernel
  unfold v_X6_wipe at hw
  refine lv_aload_n hx hb dX6_wipe_0 rfl (lv_at hl 0 rfl) ?_
  refine z_geti (C := RX6) (T := TX6) (N := 15) (ref := "GauntletHallModel") (o := 19) (d := 0) hx hb hts hfX6 hown hK hP (hM (19, 0) (List.mem_of_getElem? (i := 0) rfl)) z_l_19_0 rfl 0 (by decide) (hts (.fieldLink RX6 61 "GauntletHallModel" "length" "I") (by decide +kernel)) rfl rfl (z_up_val X 19 h 0 0) dX6_wipe_1 ?_
  refine lv_topi (fun y1 ey1 => ?_)
  replace hw := hw y1 ey1
  refine lv_istore_n (lv' := [(1, .int y1), (0, .ref (z_a E 19 0))]) hx hb dX6_wipe_4 rfl hl (by decide) rfl (fun ls hl => ?_)
  refine lv_aload_n hx hb dX6_wipe_5 rfl (lv_at hl 1 rfl) ?_
  refine lv_iconst (v := (0 : Int32)) hx hb dX6_wipe_6 (by decide) ?_
  obtain ⟨h2, eh2⟩ : ∃ z : z_G, z = z_ss h 0 0 (0 : Int32) := ⟨_, rfl⟩
  replace hw := hw h2 eh2
  refine z_puti (C := RX6) (T := TX6) (N := 15) (ref := "GauntletHallModel") (o := 19) (d := 0) (X' := z_up X 19 h2) hx hb hts hfX6 tyX6 tyX6_ok nmX6 hown hK hE hP hS (hM (19, 0) (List.mem_of_getElem? (i := 0) rfl)) z_l_19_0 rfl 0 (by decide) (hts (.fieldLink RX6 61 "GauntletHallModel" "length" "I") (by decide +kernel)) rfl rfl (by decide +kernel) rfl (by rw [eh2]; exact z_up_put X 19 h 0 0 _) dX6_wipe_7 (fun H locs hP hS => ?_)
  refine lv_iload_n hx hb dX6_wipe_10 rfl (lv_at hl 0 rfl) ?_
  exact z_reti C hP hS ⟨_, rfl, hw⟩ dX6_wipe_11
set_option maxHeartbeats 4000000 in
set_option maxRecDepth 100000 in
theorem m_X6_write (l : Launch) {E : z_E} (hE : z_ok E) (hM : z_mod E) (X : z_X) (h : z_G) (x1 : Int32) (K : Int32 → z_G → Prop) (hw : v_X6_write h x1 K) : z_CI l E yX6_write wsX6_write rX6_write [.ref (z_a E 19 0), .int x1] (z_up X 19 h) (fun r X' => ∃ h', X' = z_up X 19 h' ∧ K r h') := by
  refine z_start (cc := cX6_write) (maxL := 2) (ret := (some .int)) hE (by decide) rfl (Nat.le_of_ble_eq_true rfl) ?_
  intro p e s m below meth c C hP hS ls hl
  have C : z_Cx p E s m _ meth c cX6_write 2 wsX6_write RX6 (some .int) := C
  obtain ⟨hx, hb, hml, hr, hlocks, hown, hts, hK, hE⟩ := id C
  have hl : lv_has ls 2 [(0, .ref (z_a E 19 0)), (1, .int x1)] := hl
  have hfX6 : ∀ w ∈ u_ws RX6 TX6 15, w ∈ wsX6_write := by decide +kernel
  unfold v_X6_write at hw
  refine lv_iload_n hx hb dX6_write_0 rfl (lv_at hl 1 rfl) ?_
  refine lv_i2l hx hb dX6_write_1 rfl ?_
  refine lv_ldc2 hx hb hown (hts (.constantLong RX6 53 (32)) (by decide +kernel)) dX6_write_2 ?_
  refine lv_ldc2 hx hb hown (hts (.constantLong RX6 55 (126)) (by decide +kernel)) dX6_write_5 ?_
  refine z_si (rest := []) ⟨hx, hb, hml, hown, hts⟩ (m_X6_in l hE (z_up X 19 h) (Int32.toInt64 x1) (32 : Int64) (126 : Int64) _ hw) (va_cwS 3 hts gX6_write_X6_in rfl rfl rfl (by decide +kernel) ⟨Nat.le_of_ble_eq_true rfl, Nat.le_of_ble_eq_true rfl⟩) hK hP hS rfl hl.1 rfl (Nat.le_of_ble_eq_true rfl) dX6_write_8 ⟨Nat.zero_le _, Nat.zero_le _⟩ (fun r1 u H locs hk hP hS => ?_)
  obtain ⟨eu, hw⟩ := hk
  rw [eu] at hP
  refine lv_if_ne (tgt := 16) hx hb dX6_write_11 (by decide) (fun c2 => ?_) (fun c2 => ?_)
  · replace hw := hw.1 c2
    refine lv_aload_n hx hb dX6_write_16 rfl (lv_at hl 0 rfl) ?_
    refine z_geti (C := RX6) (T := TX6) (N := 15) (ref := "GauntletHallModel") (o := 19) (d := 0) hx hb hts hfX6 hown hK hP (hM (19, 0) (List.mem_of_getElem? (i := 0) rfl)) z_l_19_0 rfl 0 (by decide) (hts (.fieldLink RX6 61 "GauntletHallModel" "length" "I") (by decide +kernel)) rfl rfl (z_up_val X 19 h 0 0) dX6_write_17 ?_
    refine lv_sipush (v := (200 : Int32)) hx hb dX6_write_20 (by decide) ?_
    refine lv_icmp_ne (tgt := 29) hx hb dX6_write_23 (by decide) (fun c3 => ?_) (fun c3 => ?_)
    · replace hw := hw.1 c3
      refine lv_aload_n hx hb dX6_write_29 rfl (lv_at hl 0 rfl) ?_
      refine z_getr (C := RX6) (T := TX6) (N := 15) (ref := "GauntletHallModel") (o := 19) (d := 0) hx hb hts hfX6 hown hK hP (hM (19, 0) (List.mem_of_getElem? (i := 0) rfl)) z_l_19_0 rfl 1 (by decide) (hts (.fieldLink RX6 7 "GauntletHallModel" "text" "[I") (by decide +kernel)) rfl rfl dX6_write_30 ?_
      refine lv_aload_n hx hb dX6_write_33 rfl (lv_at hl 0 rfl) ?_
      refine z_geti (C := RX6) (T := TX6) (N := 15) (ref := "GauntletHallModel") (o := 19) (d := 0) hx hb hts hfX6 hown hK hP (hM (19, 0) (List.mem_of_getElem? (i := 0) rfl)) z_l_19_0 rfl 0 (by decide) (hts (.fieldLink RX6 61 "GauntletHallModel" "length" "I") (by decide +kernel)) rfl rfl (z_up_val X 19 h 0 0) dX6_write_34 ?_
      refine lv_iload_n hx hb dX6_write_37 rfl (lv_at hl 1 rfl) ?_
      obtain ⟨i4, hw⟩ := hw
      obtain ⟨h5, eh5⟩ : ∃ z : z_G, z = z_ss h 1 (z_n (h 0 0)) x1 := ⟨_, rfl⟩
      replace hw := hw h5 eh5
      refine z_iast (o := 19) (d := 1) (X' := z_up X 19 h5) hx hb hK hE hP hS (hM (19, 1) (List.mem_of_getElem? (i := 1) rfl)) z_l_19_1 i4 (by rw [eh5]; exact z_up_put X 19 h 1 (z_n (h 0 0)) _) dX6_write_38 (fun H locs hP hS => ?_)
      refine lv_aload_n hx hb dX6_write_39 rfl (lv_at hl 0 rfl) ?_
      refine lv_dup hx hb dX6_write_40 rfl ?_
      refine z_geti (C := RX6) (T := TX6) (N := 15) (ref := "GauntletHallModel") (o := 19) (d := 0) hx hb hts hfX6 hown hK hP (hM (19, 0) (List.mem_of_getElem? (i := 0) rfl)) z_l_19_0 rfl 0 (by decide) (hts (.fieldLink RX6 61 "GauntletHallModel" "length" "I") (by decide +kernel)) rfl rfl (z_up_val X 19 h5 0 0) dX6_write_41 ?_
      refine lv_iconst (v := (1 : Int32)) hx hb dX6_write_44 (by decide) ?_
      refine lv_iadd hx hb dX6_write_45 ?_
      obtain ⟨h6, eh6⟩ : ∃ z : z_G, z = z_ss h5 0 0 ((h5 0 0) + (1 : Int32)) := ⟨_, rfl⟩
      replace hw := hw h6 eh6
      refine z_puti (C := RX6) (T := TX6) (N := 15) (ref := "GauntletHallModel") (o := 19) (d := 0) (X' := z_up X 19 h6) hx hb hts hfX6 tyX6 tyX6_ok nmX6 hown hK hE hP hS (hM (19, 0) (List.mem_of_getElem? (i := 0) rfl)) z_l_19_0 rfl 0 (by decide) (hts (.fieldLink RX6 61 "GauntletHallModel" "length" "I") (by decide +kernel)) rfl rfl (by decide +kernel) rfl (by rw [eh6]; exact z_up_put X 19 h5 0 0 _) dX6_write_46 (fun H locs hP hS => ?_)
      refine lv_aload_n hx hb dX6_write_49 rfl (lv_at hl 0 rfl) ?_
      refine z_geti (C := RX6) (T := TX6) (N := 15) (ref := "GauntletHallModel") (o := 19) (d := 0) hx hb hts hfX6 hown hK hP (hM (19, 0) (List.mem_of_getElem? (i := 0) rfl)) z_l_19_0 rfl 0 (by decide) (hts (.fieldLink RX6 61 "GauntletHallModel" "length" "I") (by decide +kernel)) rfl rfl (z_up_val X 19 h6 0 0) dX6_write_50 ?_
      exact z_reti C hP hS ⟨_, rfl, hw⟩ dX6_write_53
    · replace hw := hw.2 c3
      refine lv_bipush (v := (-3 : Int32)) hx hb dX6_write_26 (by decide) ?_
      exact z_reti C hP hS ⟨_, rfl, hw⟩ dX6_write_28
  · replace hw := hw.2 c2
    refine lv_iconst (v := (-1 : Int32)) hx hb dX6_write_14 (by decide) ?_
    exact z_reti C hP hS ⟨_, rfl, hw⟩ dX6_write_15
