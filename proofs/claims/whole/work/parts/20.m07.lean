/-! ===== PRINTED (wip/whole/gen/gen.py): the machine meets each definition: X5.glove, X5.hands, X5.hurl, X5.keep, X5.kinds, X5.last, X5.lay, X5.lies ===== -/
set_option maxHeartbeats 4000000 in
set_option maxRecDepth 100000 in
theorem m_X5_glove (l : Launch) {E : z_E} (hE : z_ok E) (hC : z_cls E) (Y : z_X) (x1 : Int32) (x2 : Int32) (K : Int32 → Prop) (hw : v_X5_glove Y x1 x2 K) : z_CI l E yX5_glove wsX5_glove rX5_glove [.ref (z_a E 18 0), .int x1, .int x2] Y (fun r X' => X' = Y ∧ K r) := by
  refine z_start (cc := cX5_glove) (maxL := 3) (ret := (some .int)) hE (by decide) rfl (Nat.le_of_ble_eq_true rfl) ?_
  intro p e s m below meth c C hP hS ls hl
  have C : z_Cx p E s m _ meth c cX5_glove 3 wsX5_glove RX5 (some .int) := C
  obtain ⟨hx, hb, hml, hr, hlocks, hown, hts, hK, hE⟩ := id C
  have hl : lv_has ls 3 [(0, .ref (z_a E 18 0)), (1, .int x1), (2, .int x2)] := hl
  have hfX1 : ∀ w ∈ u_ws RX1 TX1 13, w ∈ wsX5_glove := by decide +kernel
  have hfX5 : ∀ w ∈ u_ws RX5 TX5 7, w ∈ wsX5_glove := by decide +kernel
  unfold v_X5_glove at hw
  refine lv_aload_n hx hb dX5_glove_0 rfl (lv_at hl 0 rfl) ?_
  refine z_getr (C := RX5) (T := TX5) (N := 7) (ref := "GauntletHall") (o := 18) (d := 0) hx hb hts hfX5 hown hK hP (hC.2 (18, 0) (List.mem_of_getElem? (i := 12) rfl)) z_l_18_0 rfl 1 (by decide) (hts (.fieldLink RX5 19 "GauntletHall" "hall" "LGauntletHall$Hall;") (by decide +kernel)) rfl rfl dX5_glove_1 ?_
  refine lv_iload_n hx hb dX5_glove_4 rfl (lv_at hl 1 rfl) ?_
  have hPc := z_P_self 0 hP
  refine z_vi (C := RX1) (T := TX1) (N := 13) (o := 0) (rest := []) ⟨hx, hb, hml, hown, hts⟩ (m_X1_isGlove l hE hC 0 (by decide) Y (Y 0) x1 _ hw) (cwV 1 hts gX5_glove_X1_isGlove rfl rfl rfl (by decide +kernel) ⟨Nat.le_of_ble_eq_true rfl, Nat.le_of_ble_eq_true rfl⟩) hK hPc hS (hC.1 0 (by decide) (0, 0) (List.mem_of_getElem? (i := 0) rfl)) (z_lH_0 (o := 0) (by decide)) rfl rfl hl.1 rfl (Nat.le_of_ble_eq_true rfl) dX5_glove_5 ⟨Nat.zero_le _, Nat.zero_le _⟩ (fun r1 u H locs hk hP hS => ?_)
  obtain ⟨eu, hw⟩ := hk
  rw [eu, z_up_self] at hP
  refine lv_if_ne (tgt := 13) hx hb dX5_glove_8 (by decide) (fun c2 => ?_) (fun c2 => ?_)
  · replace hw := hw.1 c2
    refine lv_iload_n hx hb dX5_glove_13 rfl (lv_at hl 2 rfl) ?_
    by_cases c3 : x2 = (0 : Int32)
    · replace hw := hw.1 c3
      refine lv_tableIn (x := x2) (off := 34) (tgt := 48) hx hb dX5_glove_14 (by rw [c3]; decide) (by rw [c3]; decide) (by rw [c3]; rfl) (by decide) ?_
      refine lv_aload_n hx hb dX5_glove_48 rfl (lv_at hl 0 rfl) ?_
      refine z_getr (C := RX5) (T := TX5) (N := 7) (ref := "GauntletHall") (o := 18) (d := 0) hx hb hts hfX5 hown hK hP (hC.2 (18, 0) (List.mem_of_getElem? (i := 12) rfl)) z_l_18_0 rfl 1 (by decide) (hts (.fieldLink RX5 19 "GauntletHall" "hall" "LGauntletHall$Hall;") (by decide +kernel)) rfl rfl dX5_glove_49 ?_
      refine z_getr (C := RX1) (T := TX1) (N := 13) (ref := "GauntletHall$Hall") (o := 0) (d := 0) hx hb hts hfX1 hown hK hP (hC.1 0 (by decide) (0, 0) (List.mem_of_getElem? (i := 0) rfl)) (z_lH_0 (o := 0) (by decide)) rfl 7 (by decide) (hts (.fieldLink RX5 106 "GauntletHall$Hall" "kind" "[I") (by decide +kernel)) rfl rfl dX5_glove_52 ?_
      refine lv_iload_n hx hb dX5_glove_55 rfl (lv_at hl 1 rfl) ?_
      obtain ⟨i4, hw⟩ := hw
      refine z_iald (o := 0) (d := 7) hx hb hK hP (hC.1 0 (by decide) (0, 7) (List.mem_of_getElem? (i := 4) rfl)) (z_lH_7 (o := 0) (by decide)) i4 rfl dX5_glove_56 ?_
      exact z_reti C hP hS ⟨rfl, hw⟩ dX5_glove_57
    by_cases c5 : x2 = (1 : Int32)
    · replace hw := hw.2.1 c5
      refine lv_tableIn (x := x2) (off := 44) (tgt := 58) hx hb dX5_glove_14 (by rw [c5]; decide) (by rw [c5]; decide) (by rw [c5]; rfl) (by decide) ?_
      refine lv_iconst (v := (0 : Int32)) hx hb dX5_glove_58 (by decide) ?_
      refine lv_aload_n hx hb dX5_glove_59 rfl (lv_at hl 0 rfl) ?_
      refine z_getr (C := RX5) (T := TX5) (N := 7) (ref := "GauntletHall") (o := 18) (d := 0) hx hb hts hfX5 hown hK hP (hC.2 (18, 0) (List.mem_of_getElem? (i := 12) rfl)) z_l_18_0 rfl 1 (by decide) (hts (.fieldLink RX5 19 "GauntletHall" "hall" "LGauntletHall$Hall;") (by decide +kernel)) rfl rfl dX5_glove_60 ?_
      refine z_getr (C := RX1) (T := TX1) (N := 13) (ref := "GauntletHall$Hall") (o := 0) (d := 0) hx hb hts hfX1 hown hK hP (hC.1 0 (by decide) (0, 0) (List.mem_of_getElem? (i := 0) rfl)) (z_lH_0 (o := 0) (by decide)) rfl 7 (by decide) (hts (.fieldLink RX5 106 "GauntletHall$Hall" "kind" "[I") (by decide +kernel)) rfl rfl dX5_glove_63 ?_
      refine lv_iload_n hx hb dX5_glove_66 rfl (lv_at hl 1 rfl) ?_
      obtain ⟨i6, hw⟩ := hw
      refine z_iald (o := 0) (d := 7) hx hb hK hP (hC.1 0 (by decide) (0, 7) (List.mem_of_getElem? (i := 4) rfl)) (z_lH_7 (o := 0) (by decide)) i6 rfl dX5_glove_67 ?_
      refine lv_aload_n hx hb dX5_glove_68 rfl (lv_at hl 0 rfl) ?_
      refine z_getr (C := RX5) (T := TX5) (N := 7) (ref := "GauntletHall") (o := 18) (d := 0) hx hb hts hfX5 hown hK hP (hC.2 (18, 0) (List.mem_of_getElem? (i := 12) rfl)) z_l_18_0 rfl 1 (by decide) (hts (.fieldLink RX5 19 "GauntletHall" "hall" "LGauntletHall$Hall;") (by decide +kernel)) rfl rfl dX5_glove_69 ?_
      refine z_getr (C := RX1) (T := TX1) (N := 13) (ref := "GauntletHall$Hall") (o := 0) (d := 0) hx hb hts hfX1 hown hK hP (hC.1 0 (by decide) (0, 0) (List.mem_of_getElem? (i := 0) rfl)) (z_lH_0 (o := 0) (by decide)) rfl 8 (by decide) (hts (.fieldLink RX5 109 "GauntletHall$Hall" "size" "[I") (by decide +kernel)) rfl rfl dX5_glove_72 ?_
      refine lv_iload_n hx hb dX5_glove_75 rfl (lv_at hl 1 rfl) ?_
      obtain ⟨i7, hw⟩ := hw
      refine z_iald (o := 0) (d := 8) hx hb hK hP (hC.1 0 (by decide) (0, 8) (List.mem_of_getElem? (i := 5) rfl)) (z_lH_8 (o := 0) (by decide)) i7 rfl dX5_glove_76 ?_
      refine lv_aload_n hx hb dX5_glove_77 rfl (lv_at hl 0 rfl) ?_
      refine z_getr (C := RX5) (T := TX5) (N := 7) (ref := "GauntletHall") (o := 18) (d := 0) hx hb hts hfX5 hown hK hP (hC.2 (18, 0) (List.mem_of_getElem? (i := 12) rfl)) z_l_18_0 rfl 1 (by decide) (hts (.fieldLink RX5 19 "GauntletHall" "hall" "LGauntletHall$Hall;") (by decide +kernel)) rfl rfl dX5_glove_78 ?_
      refine z_getr (C := RX1) (T := TX1) (N := 13) (ref := "GauntletHall$Hall") (o := 0) (d := 0) hx hb hts hfX1 hown hK hP (hC.1 0 (by decide) (0, 0) (List.mem_of_getElem? (i := 0) rfl)) (z_lH_0 (o := 0) (by decide)) rfl 11 (by decide) (hts (.fieldLink RX5 112 "GauntletHall$Hall" "lain" "[I") (by decide +kernel)) rfl rfl dX5_glove_81 ?_
      refine lv_iload_n hx hb dX5_glove_84 rfl (lv_at hl 1 rfl) ?_
      obtain ⟨i8, hw⟩ := hw
      refine z_iald (o := 0) (d := 11) hx hb hK hP (hC.1 0 (by decide) (0, 11) (List.mem_of_getElem? (i := 8) rfl)) (z_lH_11 (o := 0) (by decide)) i8 rfl dX5_glove_85 ?_
      refine z_si (rest := [.int (0 : Int32)]) ⟨hx, hb, hml, hown, hts⟩ (m_X5_sizeByNow l hE Y (Y 0 7 (z_n x1)) (Y 0 8 (z_n x1)) (Y 0 11 (z_n x1)) _ hw) (va_cwS 3 hts gX5_glove_X5_sizeByNow rfl rfl rfl (by decide +kernel) ⟨Nat.le_of_ble_eq_true rfl, Nat.le_of_ble_eq_true rfl⟩) hK hP hS rfl hl.1 rfl (Nat.le_of_ble_eq_true rfl) dX5_glove_86 ⟨Nat.zero_le _, Nat.zero_le _⟩ (fun r9 u H locs hk hP hS => ?_)
      obtain ⟨eu, hw⟩ := hk
      rw [eu] at hP
      refine va_mmax hx hb (hml.trans hl.1.symm) hown (hts (.methodLink RX5 119 Lib.Math.max.name) (by decide +kernel)) (hts (.static Lib.Math.max.name) (by decide +kernel)) (hts (.initialized "java/lang/Math") (by decide +kernel)) (hts (.code Lib.Math.max.name Lib.Math.max.code 2 (some .int)) (by decide +kernel)) (Nat.le_of_ble_eq_true rfl) (Nat.le_of_ble_eq_true rfl) (Nat.zero_le _) (Nat.zero_le _) dX5_glove_89 ?_
      exact z_reti C hP hS ⟨rfl, hw⟩ dX5_glove_92
    by_cases c10 : x2 = (2 : Int32)
    · replace hw := hw.2.2.1 c10
      refine lv_tableIn (x := x2) (off := 79) (tgt := 93) hx hb dX5_glove_14 (by rw [c10]; decide) (by rw [c10]; decide) (by rw [c10]; rfl) (by decide) ?_
      refine lv_aload_n hx hb dX5_glove_93 rfl (lv_at hl 0 rfl) ?_
      refine z_getr (C := RX5) (T := TX5) (N := 7) (ref := "GauntletHall") (o := 18) (d := 0) hx hb hts hfX5 hown hK hP (hC.2 (18, 0) (List.mem_of_getElem? (i := 12) rfl)) z_l_18_0 rfl 1 (by decide) (hts (.fieldLink RX5 19 "GauntletHall" "hall" "LGauntletHall$Hall;") (by decide +kernel)) rfl rfl dX5_glove_94 ?_
      refine z_getr (C := RX1) (T := TX1) (N := 13) (ref := "GauntletHall$Hall") (o := 0) (d := 0) hx hb hts hfX1 hown hK hP (hC.1 0 (by decide) (0, 0) (List.mem_of_getElem? (i := 0) rfl)) (z_lH_0 (o := 0) (by decide)) rfl 9 (by decide) (hts (.fieldLink RX5 125 "GauntletHall$Hall" "owner" "[I") (by decide +kernel)) rfl rfl dX5_glove_97 ?_
      refine lv_iload_n hx hb dX5_glove_100 rfl (lv_at hl 1 rfl) ?_
      obtain ⟨i11, hw⟩ := hw
      refine z_iald (o := 0) (d := 9) hx hb hK hP (hC.1 0 (by decide) (0, 9) (List.mem_of_getElem? (i := 6) rfl)) (z_lH_9 (o := 0) (by decide)) i11 rfl dX5_glove_101 ?_
      exact z_reti C hP hS ⟨rfl, hw⟩ dX5_glove_102
    by_cases c12 : x2 = (3 : Int32)
    · replace hw := hw.2.2.2.1 c12
      refine lv_tableIn (x := x2) (off := 89) (tgt := 103) hx hb dX5_glove_14 (by rw [c12]; decide) (by rw [c12]; decide) (by rw [c12]; rfl) (by decide) ?_
      refine lv_aload_n hx hb dX5_glove_103 rfl (lv_at hl 0 rfl) ?_
      refine z_getr (C := RX5) (T := TX5) (N := 7) (ref := "GauntletHall") (o := 18) (d := 0) hx hb hts hfX5 hown hK hP (hC.2 (18, 0) (List.mem_of_getElem? (i := 12) rfl)) z_l_18_0 rfl 1 (by decide) (hts (.fieldLink RX5 19 "GauntletHall" "hall" "LGauntletHall$Hall;") (by decide +kernel)) rfl rfl dX5_glove_104 ?_
      refine z_getr (C := RX1) (T := TX1) (N := 13) (ref := "GauntletHall$Hall") (o := 0) (d := 0) hx hb hts hfX1 hown hK hP (hC.1 0 (by decide) (0, 0) (List.mem_of_getElem? (i := 0) rfl)) (z_lH_0 (o := 0) (by decide)) rfl 10 (by decide) (hts (.fieldLink RX5 128 "GauntletHall$Hall" "lies" "[I") (by decide +kernel)) rfl rfl dX5_glove_107 ?_
      refine lv_iload_n hx hb dX5_glove_110 rfl (lv_at hl 1 rfl) ?_
      obtain ⟨i13, hw⟩ := hw
      refine z_iald (o := 0) (d := 10) hx hb hK hP (hC.1 0 (by decide) (0, 10) (List.mem_of_getElem? (i := 7) rfl)) (z_lH_10 (o := 0) (by decide)) i13 rfl dX5_glove_111 ?_
      exact z_reti C hP hS ⟨rfl, hw⟩ dX5_glove_112
    by_cases c14 : x2 = (4 : Int32)
    · replace hw := hw.2.2.2.2.1 c14
      refine lv_tableIn (x := x2) (off := 99) (tgt := 113) hx hb dX5_glove_14 (by rw [c14]; decide) (by rw [c14]; decide) (by rw [c14]; rfl) (by decide) ?_
      refine lv_aload_n hx hb dX5_glove_113 rfl (lv_at hl 0 rfl) ?_
      refine z_getr (C := RX5) (T := TX5) (N := 7) (ref := "GauntletHall") (o := 18) (d := 0) hx hb hts hfX5 hown hK hP (hC.2 (18, 0) (List.mem_of_getElem? (i := 12) rfl)) z_l_18_0 rfl 1 (by decide) (hts (.fieldLink RX5 19 "GauntletHall" "hall" "LGauntletHall$Hall;") (by decide +kernel)) rfl rfl dX5_glove_114 ?_
      refine z_getr (C := RX1) (T := TX1) (N := 13) (ref := "GauntletHall$Hall") (o := 0) (d := 0) hx hb hts hfX1 hown hK hP (hC.1 0 (by decide) (0, 0) (List.mem_of_getElem? (i := 0) rfl)) (z_lH_0 (o := 0) (by decide)) rfl 11 (by decide) (hts (.fieldLink RX5 112 "GauntletHall$Hall" "lain" "[I") (by decide +kernel)) rfl rfl dX5_glove_117 ?_
      refine lv_iload_n hx hb dX5_glove_120 rfl (lv_at hl 1 rfl) ?_
      obtain ⟨i15, hw⟩ := hw
      refine z_iald (o := 0) (d := 11) hx hb hK hP (hC.1 0 (by decide) (0, 11) (List.mem_of_getElem? (i := 8) rfl)) (z_lH_11 (o := 0) (by decide)) i15 rfl dX5_glove_121 ?_
      exact z_reti C hP hS ⟨rfl, hw⟩ dX5_glove_122
    replace hw := hw.2.2.2.2.2 c3 c5 c10 c12 c14
    have hne : (x2).toInt < 0 ∨ 4 < (x2).toInt := by
      have n0 := lv_neT (a := 0) c3 rfl
      have n1 := lv_neT (a := 1) c5 rfl
      have n2 := lv_neT (a := 2) c10 rfl
      have n3 := lv_neT (a := 3) c12 rfl
      have n4 := lv_neT (a := 4) c14 rfl
      omega
    refine lv_tableOut (x := x2) (tgt := 123) hx hb dX5_glove_14 hne (by decide) ?_
    refine lv_iconst (v := (-1 : Int32)) hx hb dX5_glove_123 (by decide) ?_
    exact z_reti C hP hS ⟨rfl, hw⟩ dX5_glove_124
  · replace hw := hw.2 c2
    refine lv_iconst (v := (-1 : Int32)) hx hb dX5_glove_11 (by decide) ?_
    exact z_reti C hP hS ⟨rfl, hw⟩ dX5_glove_12
set_option maxHeartbeats 4000000 in
set_option maxRecDepth 100000 in
theorem m_X5_hands_b32_s {p : Program} {l : Launch} {e : Env} {s : State} {m : MethodId} {args : Array Value} {below : List Frame} {meth : Method} {c : Code} {E : z_E} (C : z_Cx p E s m args meth c cX5_hands 6 wsX5_hands RX5 (some .int)) (hC : z_cls E) (Y : z_X) (K : Int32 → Prop) (L32 : Int32 → Int32 → Int32 → Int32 → Int32 → Prop) (k32 : ∀ (x1 : Int32) (x2 : Int32) (x3 : Int32) (x4 : Int32) (x5 : Int32), L32 x1 x2 x3 x4 x5 → ∀ {H : Heap} {locs : List Loc}, z_P E Y H → va_S (z_A E) s.heap H locs → ∀ (ls : Array Slot), lv_has ls 6 [(0, .ref (z_a E 18 0)), (1, .int x1), (2, .int x2), (3, .int x3), (4, .int x4), (5, .int x5)] → W p l e rX5_hands s m args below meth c H locs 0 0 (MQ below (va_Qi (fun r X' => X' = Y ∧ K r) (fun u t => z_P E u t.heap) (z_A E)) args s 0 0 (z_A E)) (F0 m 32 ls [])) (x1 : Int32) (x2 : Int32) (x3 : Int32) (x4 : Int32) (x5 : Int32) (hw : v_X5_hands_b32_s Y K L32 x1 x2 x3 x4 x5) {H : Heap} {locs : List Loc} (hP : z_P E Y H) (hS : va_S (z_A E) s.heap H locs) {ls : Array Slot} (hl : lv_has ls 6 [(0, .ref (z_a E 18 0)), (1, .int x1), (2, .int x2), (3, .int x3), (4, .int x4), (5, .int x5)]) : W p l e rX5_hands s m args below meth c H locs 0 0 (MQ below (va_Qi (fun r X' => X' = Y ∧ K r) (fun u t => z_P E u t.heap) (z_A E)) args s 0 0 (z_A E)) (F0 m 32 ls []) := by
  obtain ⟨hx, hb, hml, hr, hlocks, hown, hts, hK, hE⟩ := id C
  have hfX5 : ∀ w ∈ u_ws RX5 TX5 7, w ∈ wsX5_hands := by decide +kernel
  unfold v_X5_hands_b32_s at hw
  refine lv_iload hx hb dX5_hands_32 (lv_at hl 5 rfl) ?_
  refine lv_iconst (v := (1 : Int32)) hx hb dX5_hands_34 (by decide) ?_
  refine lv_icmp_lt (tgt := 68) hx hb dX5_hands_35 (by decide) (fun c5 => ?_) (fun c5 => ?_)
  · replace hw := hw.1 c5
    refine lv_iload_n hx hb dX5_hands_68 rfl (lv_at hl 2 rfl) ?_
    refine lv_if_ne (tgt := 76) hx hb dX5_hands_69 (by decide) (fun c6 => ?_) (fun c6 => ?_)
    · replace hw := hw.1 c6
      refine lv_iload hx hb dX5_hands_76 (lv_at hl 4 rfl) ?_
      exact z_reti C hP hS ⟨rfl, hw⟩ dX5_hands_78
    · replace hw := hw.2 c6
      refine lv_iload_n hx hb dX5_hands_72 rfl (lv_at hl 3 rfl) ?_
      refine lv_goto (tgt := 78) hx hb dX5_hands_73 (by decide) ?_
      exact z_reti C hP hS ⟨rfl, hw⟩ dX5_hands_78
  · replace hw := hw.2 c5
    refine lv_aload_n hx hb dX5_hands_38 rfl (lv_at hl 0 rfl) ?_
    refine z_getr (C := RX5) (T := TX5) (N := 7) (ref := "GauntletHall") (o := 18) (d := 0) hx hb hts hfX5 hown hK hP (hC.2 (18, 0) (List.mem_of_getElem? (i := 12) rfl)) z_l_18_0 rfl 5 (by decide) (hts (.fieldLink RX5 41 "GauntletHall" "sightings" "LGauntletHall$Sightings;") (by decide +kernel)) rfl rfl dX5_hands_39 ?_
    refine lv_aload_n hx hb dX5_hands_42 rfl (lv_at hl 0 rfl) ?_
    refine z_getr (C := RX5) (T := TX5) (N := 7) (ref := "GauntletHall") (o := 18) (d := 0) hx hb hts hfX5 hown hK hP (hC.2 (18, 0) (List.mem_of_getElem? (i := 12) rfl)) z_l_18_0 rfl 1 (by decide) (hts (.fieldLink RX5 19 "GauntletHall" "hall" "LGauntletHall$Hall;") (by decide +kernel)) rfl rfl dX5_hands_43 ?_
    refine lv_iload_n hx hb dX5_hands_46 rfl (lv_at hl 1 rfl) ?_
    refine lv_iload hx hb dX5_hands_47 (lv_at hl 5 rfl) ?_
    refine z_vi (C := RX4) (T := TX4) (N := 4) (o := 16) (rest := []) ⟨hx, hb, hml, hown, hts⟩ (m_X4_allowHand l hE hC 0 (by decide) Y x1 x5 _ hw) (cwV 3 hts gX5_hands_X4_allowHand rfl rfl rfl (by decide +kernel) ⟨Nat.le_of_ble_eq_true rfl, Nat.le_of_ble_eq_true rfl⟩) hK hP hS (hC.2 (16, 0) (List.mem_of_getElem? (i := 7) rfl)) z_l_16_0 rfl rfl hl.1 rfl (Nat.le_of_ble_eq_true rfl) dX5_hands_49 ⟨Nat.zero_le _, Nat.zero_le _⟩ (fun r7 u H locs hk hP hS => ?_)
    obtain ⟨eu, hw⟩ := hk
    rw [eu] at hP
    refine lv_if_eq (tgt := 62) hx hb dX5_hands_52 (by decide) (fun c8 => ?_) (fun c8 => ?_)
    · replace hw := hw.1 c8
      obtain ⟨y9, ey9⟩ : ∃ z : Int32, z = x5 + (-1 : Int32) := ⟨_, rfl⟩
      replace hw := hw y9 ey9
      refine lv_iinc (v := y9) (lv' := [(5, .int y9), (0, .ref (z_a E 18 0)), (1, .int x1), (2, .int x2), (3, .int x3), (4, .int x4)]) hx hb dX5_hands_62 hl (k := 5) rfl (by rw [ey9]; rfl) (by decide) rfl (fun ls hl => ?_)
      refine lv_goto (tgt := 32) hx hb dX5_hands_65 (by decide) ?_
      exact k32 x1 x2 x3 x4 y9 hw hP hS _ (lv_sub hl [1, 2, 3, 4, 5, 0] rfl)
    · replace hw := hw.2 c8
      obtain ⟨y10, ey10⟩ : ∃ z : Int32, z = x3 + (1 : Int32) := ⟨_, rfl⟩
      replace hw := hw y10 ey10
      refine lv_iinc (v := y10) (lv' := [(3, .int y10), (0, .ref (z_a E 18 0)), (1, .int x1), (2, .int x2), (4, .int x4), (5, .int x5)]) hx hb dX5_hands_55 hl (k := 3) rfl (by rw [ey10]; rfl) (by decide) rfl (fun ls hl => ?_)
      refine lv_iload hx hb dX5_hands_58 (lv_at hl 5 rfl) ?_
      refine lv_istore (lv' := [(4, .int x5), (3, .int y10), (0, .ref (z_a E 18 0)), (1, .int x1), (2, .int x2), (5, .int x5)]) hx hb dX5_hands_60 hl (by decide) rfl (fun ls hl => ?_)
      obtain ⟨y11, ey11⟩ : ∃ z : Int32, z = x5 + (-1 : Int32) := ⟨_, rfl⟩
      replace hw := hw y11 ey11
      refine lv_iinc (v := y11) (lv' := [(5, .int y11), (4, .int x5), (3, .int y10), (0, .ref (z_a E 18 0)), (1, .int x1), (2, .int x2)]) hx hb dX5_hands_62 hl (k := 5) rfl (by rw [ey11]; rfl) (by decide) rfl (fun ls hl => ?_)
      refine lv_goto (tgt := 32) hx hb dX5_hands_65 (by decide) ?_
      exact k32 x1 x2 y10 x5 y11 hw hP hS _ (lv_sub hl [3, 4, 5, 2, 1, 0] rfl)
theorem m_X5_hands_b32 {p : Program} {l : Launch} {e : Env} {s : State} {m : MethodId} {args : Array Value} {below : List Frame} {meth : Method} {c : Code} {E : z_E} (C : z_Cx p E s m args meth c cX5_hands 6 wsX5_hands RX5 (some .int)) (hC : z_cls E) (Y : z_X) (K : Int32 → Prop) (x1 : Int32) (x2 : Int32) (x3 : Int32) (x4 : Int32) (x5 : Int32) (hw : v_X5_hands_b32 Y K x1 x2 x3 x4 x5) {H : Heap} {locs : List Loc} (hP : z_P E Y H) (hS : va_S (z_A E) s.heap H locs) {ls : Array Slot} (hl : lv_has ls 6 [(0, .ref (z_a E 18 0)), (1, .int x1), (2, .int x2), (3, .int x3), (4, .int x4), (5, .int x5)]) : W p l e rX5_hands s m args below meth c H locs 0 0 (MQ below (va_Qi (fun r X' => X' = Y ∧ K r) (fun u t => z_P E u t.heap) (z_A E)) args s 0 0 (z_A E)) (F0 m 32 ls []) := by
  obtain ⟨n, hw⟩ := hw
  revert hw hP hS hl
  revert x1 x2 x3 x4 x5 H locs ls
  induction n with
  | zero => intro x1 x2 x3 x4 x5 H locs ls hP hS hl hw; exact hw.elim
  | succ n ih =>
    intro x1 x2 x3 x4 x5 H locs ls hP hS hl hw
    exact m_X5_hands_b32_s C hC Y K (fun x1 x2 x3 x4 x5 => z_fp (σ := Int32 × Int32 × Int32 × Int32 × Int32) (fun Lp q => v_X5_hands_b32_s Y K (fun x1 x2 x3 x4 x5 => Lp (x1, x2, x3, x4, x5)) q.1 q.2.1 q.2.2.1 q.2.2.2.1 q.2.2.2.2) n (x1, x2, x3, x4, x5)) (fun x1 x2 x3 x4 x5 h9 H locs hP hS ls hl => ih x1 x2 x3 x4 x5 hP hS hl h9) x1 x2 x3 x4 x5 hw hP hS hl
set_option maxHeartbeats 4000000 in
set_option maxRecDepth 100000 in
theorem m_X5_hands (l : Launch) {E : z_E} (hE : z_ok E) (hC : z_cls E) (Y : z_X) (x1 : Int32) (x2 : Int32) (K : Int32 → Prop) (hw : v_X5_hands Y x1 x2 K) : z_CI l E yX5_hands wsX5_hands rX5_hands [.ref (z_a E 18 0), .int x1, .int x2] Y (fun r X' => X' = Y ∧ K r) := by
  refine z_start (cc := cX5_hands) (maxL := 6) (ret := (some .int)) hE (by decide) rfl (Nat.le_of_ble_eq_true rfl) ?_
  intro p e s m below meth c C hP hS ls hl
  have C : z_Cx p E s m _ meth c cX5_hands 6 wsX5_hands RX5 (some .int) := C
  obtain ⟨hx, hb, hml, hr, hlocks, hown, hts, hK, hE⟩ := id C
  have hl : lv_has ls 6 [(0, .ref (z_a E 18 0)), (1, .int x1), (2, .int x2)] := hl
  have hfX5 : ∀ w ∈ u_ws RX5 TX5 7, w ∈ wsX5_hands := by decide +kernel
  unfold v_X5_hands at hw
  refine lv_aload_n hx hb dX5_hands_0 rfl (lv_at hl 0 rfl) ?_
  refine z_getr (C := RX5) (T := TX5) (N := 7) (ref := "GauntletHall") (o := 18) (d := 0) hx hb hts hfX5 hown hK hP (hC.2 (18, 0) (List.mem_of_getElem? (i := 12) rfl)) z_l_18_0 rfl 1 (by decide) (hts (.fieldLink RX5 19 "GauntletHall" "hall" "LGauntletHall$Hall;") (by decide +kernel)) rfl rfl dX5_hands_1 ?_
  refine lv_iload_n hx hb dX5_hands_4 rfl (lv_at hl 1 rfl) ?_
  have hPc := z_P_self 0 hP
  refine z_vi (C := RX1) (T := TX1) (N := 13) (o := 0) (rest := []) ⟨hx, hb, hml, hown, hts⟩ (m_X1_isPerson l hE hC 0 (by decide) Y (Y 0) x1 _ hw) (cwV 1 hts gX5_hands_X1_isPerson rfl rfl rfl (by decide +kernel) ⟨Nat.le_of_ble_eq_true rfl, Nat.le_of_ble_eq_true rfl⟩) hK hPc hS (hC.1 0 (by decide) (0, 0) (List.mem_of_getElem? (i := 0) rfl)) (z_lH_0 (o := 0) (by decide)) rfl rfl hl.1 rfl (Nat.le_of_ble_eq_true rfl) dX5_hands_5 ⟨Nat.zero_le _, Nat.zero_le _⟩ (fun r1 u H locs hk hP hS => ?_)
  obtain ⟨eu, hw⟩ := hk
  rw [eu, z_up_self] at hP
  refine lv_if_eq (tgt := 20) hx hb dX5_hands_8 (by decide) (fun c2 => ?_) (fun c2 => ?_)
  · replace hw := hw.1 c2
    refine lv_iconst (v := (-1 : Int32)) hx hb dX5_hands_20 (by decide) ?_
    exact z_reti C hP hS ⟨rfl, hw⟩ dX5_hands_21
  · replace hw := hw.2 c2
    refine lv_iload_n hx hb dX5_hands_11 rfl (lv_at hl 2 rfl) ?_
    refine lv_iconst (v := (0 : Int32)) hx hb dX5_hands_12 (by decide) ?_
    refine lv_iconst (v := (1 : Int32)) hx hb dX5_hands_13 (by decide) ?_
    refine z_si (rest := []) ⟨hx, hb, hml, hown, hts⟩ (m_X5_within l hE Y x2 (0 : Int32) (1 : Int32) _ hw) (va_cwS 3 hts gX5_hands_X5_within rfl rfl rfl (by decide +kernel) ⟨Nat.le_of_ble_eq_true rfl, Nat.le_of_ble_eq_true rfl⟩) hK hP hS rfl hl.1 rfl (Nat.le_of_ble_eq_true rfl) dX5_hands_14 ⟨Nat.zero_le _, Nat.zero_le _⟩ (fun r3 u H locs hk hP hS => ?_)
    obtain ⟨eu, hw⟩ := hk
    rw [eu] at hP
    refine lv_if_ne (tgt := 22) hx hb dX5_hands_17 (by decide) (fun c4 => ?_) (fun c4 => ?_)
    · replace hw := hw.1 c4
      refine lv_iconst (v := (0 : Int32)) hx hb dX5_hands_22 (by decide) ?_
      refine lv_istore_n (lv' := [(3, .int (0 : Int32)), (0, .ref (z_a E 18 0)), (1, .int x1), (2, .int x2)]) hx hb dX5_hands_23 rfl hl (by decide) rfl (fun ls hl => ?_)
      refine lv_bipush (v := (-4 : Int32)) hx hb dX5_hands_24 (by decide) ?_
      refine lv_istore (lv' := [(4, .int (-4 : Int32)), (3, .int (0 : Int32)), (0, .ref (z_a E 18 0)), (1, .int x1), (2, .int x2)]) hx hb dX5_hands_26 hl (by decide) rfl (fun ls hl => ?_)
      refine lv_bipush (v := (20 : Int32)) hx hb dX5_hands_28 (by decide) ?_
      refine lv_istore (lv' := [(5, .int (20 : Int32)), (4, .int (-4 : Int32)), (3, .int (0 : Int32)), (0, .ref (z_a E 18 0)), (1, .int x1), (2, .int x2)]) hx hb dX5_hands_30 hl (by decide) rfl (fun ls hl => ?_)
      exact m_X5_hands_b32 C hC Y K x1 x2 (0 : Int32) (-4 : Int32) (20 : Int32) hw hP hS (lv_sub hl [3, 4, 5, 2, 1, 0] rfl)
    · replace hw := hw.2 c4
      refine lv_iconst (v := (-1 : Int32)) hx hb dX5_hands_20 (by decide) ?_
      exact z_reti C hP hS ⟨rfl, hw⟩ dX5_hands_21
set_option maxHeartbeats 4000000 in
set_option maxRecDepth 100000 in
theorem m_X5_hurl (l : Launch) {E : z_E} (hE : z_ok E) (hC : z_cls E) (Y : z_X) (x1 : Int32) (x2 : Int32) (x3 : Int32) (K : Int32 → z_X → Prop) (hw : v_X5_hurl Y x1 x2 x3 K) : z_CI l E yX5_hurl wsX5_hurl rX5_hurl [.ref (z_a E 18 0), .int x1, .int x2, .int x3] Y K := by
  refine z_start (cc := cX5_hurl) (maxL := 4) (ret := (some .int)) hE (by decide) rfl (Nat.le_of_ble_eq_true rfl) ?_
  intro p e s m below meth c C hP hS ls hl
  have C : z_Cx p E s m _ meth c cX5_hurl 4 wsX5_hurl RX5 (some .int) := C
  obtain ⟨hx, hb, hml, hr, hlocks, hown, hts, hK, hE⟩ := id C
  have hl : lv_has ls 4 [(0, .ref (z_a E 18 0)), (1, .int x1), (2, .int x2), (3, .int x3)] := hl
  have hfX1 : ∀ w ∈ u_ws RX1 TX1 13, w ∈ wsX5_hurl := by decide +kernel
  have hfX5 : ∀ w ∈ u_ws RX5 TX5 7, w ∈ wsX5_hurl := by decide +kernel
  unfold v_X5_hurl at hw
  refine lv_aload_n hx hb dX5_hurl_0 rfl (lv_at hl 0 rfl) ?_
  refine z_getr (C := RX5) (T := TX5) (N := 7) (ref := "GauntletHall") (o := 18) (d := 0) hx hb hts hfX5 hown hK hP (hC.2 (18, 0) (List.mem_of_getElem? (i := 12) rfl)) z_l_18_0 rfl 1 (by decide) (hts (.fieldLink RX5 19 "GauntletHall" "hall" "LGauntletHall$Hall;") (by decide +kernel)) rfl rfl dX5_hurl_1 ?_
  refine lv_iload_n hx hb dX5_hurl_4 rfl (lv_at hl 1 rfl) ?_
  have hPc := z_P_self 0 hP
  refine z_vi (C := RX1) (T := TX1) (N := 13) (o := 0) (rest := []) ⟨hx, hb, hml, hown, hts⟩ (m_X1_isPerson l hE hC 0 (by decide) Y (Y 0) x1 _ hw) (cwV 1 hts gX5_hurl_X1_isPerson rfl rfl rfl (by decide +kernel) ⟨Nat.le_of_ble_eq_true rfl, Nat.le_of_ble_eq_true rfl⟩) hK hPc hS (hC.1 0 (by decide) (0, 0) (List.mem_of_getElem? (i := 0) rfl)) (z_lH_0 (o := 0) (by decide)) rfl rfl hl.1 rfl (Nat.le_of_ble_eq_true rfl) dX5_hurl_5 ⟨Nat.zero_le _, Nat.zero_le _⟩ (fun r1 u H locs hk hP hS => ?_)
  obtain ⟨eu, hw⟩ := hk
  rw [eu, z_up_self] at hP
  refine lv_if_eq (tgt := 30) hx hb dX5_hurl_8 (by decide) (fun c2 => ?_) (fun c2 => ?_)
  · replace hw := hw.1 c2
    refine lv_iconst (v := (-1 : Int32)) hx hb dX5_hurl_30 (by decide) ?_
    exact z_reti C hP hS hw dX5_hurl_31
  · replace hw := hw.2 c2
    refine lv_iload_n hx hb dX5_hurl_11 rfl (lv_at hl 2 rfl) ?_
    refine lv_iconst (v := (0 : Int32)) hx hb dX5_hurl_12 (by decide) ?_
    refine lv_iconst (v := (3 : Int32)) hx hb dX5_hurl_13 (by decide) ?_
    refine z_si (rest := []) ⟨hx, hb, hml, hown, hts⟩ (m_X5_within l hE Y x2 (0 : Int32) (3 : Int32) _ hw) (va_cwS 3 hts gX5_hurl_X5_within rfl rfl rfl (by decide +kernel) ⟨Nat.le_of_ble_eq_true rfl, Nat.le_of_ble_eq_true rfl⟩) hK hP hS rfl hl.1 rfl (Nat.le_of_ble_eq_true rfl) dX5_hurl_14 ⟨Nat.zero_le _, Nat.zero_le _⟩ (fun r3 u H locs hk hP hS => ?_)
    obtain ⟨eu, hw⟩ := hk
    rw [eu] at hP
    refine lv_if_eq (tgt := 30) hx hb dX5_hurl_17 (by decide) (fun c4 => ?_) (fun c4 => ?_)
    · replace hw := hw.1 c4
      refine lv_iconst (v := (-1 : Int32)) hx hb dX5_hurl_30 (by decide) ?_
      exact z_reti C hP hS hw dX5_hurl_31
    · replace hw := hw.2 c4
      refine lv_iload_n hx hb dX5_hurl_20 rfl (lv_at hl 3 rfl) ?_
      refine lv_iconst (v := (1 : Int32)) hx hb dX5_hurl_21 (by decide) ?_
      refine lv_bipush (v := (20 : Int32)) hx hb dX5_hurl_22 (by decide) ?_
      refine z_si (rest := []) ⟨hx, hb, hml, hown, hts⟩ (m_X5_within l hE Y x3 (1 : Int32) (20 : Int32) _ hw) (va_cwS 3 hts gX5_hurl_X5_within rfl rfl rfl (by decide +kernel) ⟨Nat.le_of_ble_eq_true rfl, Nat.le_of_ble_eq_true rfl⟩) hK hP hS rfl hl.1 rfl (Nat.le_of_ble_eq_true rfl) dX5_hurl_24 ⟨Nat.zero_le _, Nat.zero_le _⟩ (fun r5 u H locs hk hP hS => ?_)
      obtain ⟨eu, hw⟩ := hk
      rw [eu] at hP
      refine lv_if_ne (tgt := 32) hx hb dX5_hurl_27 (by decide) (fun c6 => ?_) (fun c6 => ?_)
      · replace hw := hw.1 c6
        refine lv_aload_n hx hb dX5_hurl_32 rfl (lv_at hl 0 rfl) ?_
        refine z_getr (C := RX5) (T := TX5) (N := 7) (ref := "GauntletHall") (o := 18) (d := 0) hx hb hts hfX5 hown hK hP (hC.2 (18, 0) (List.mem_of_getElem? (i := 12) rfl)) z_l_18_0 rfl 1 (by decide) (hts (.fieldLink RX5 19 "GauntletHall" "hall" "LGauntletHall$Hall;") (by decide +kernel)) rfl rfl dX5_hurl_33 ?_
        refine lv_iload_n hx hb dX5_hurl_36 rfl (lv_at hl 1 rfl) ?_
        have hPc := z_P_self 0 hP
        refine z_vi (C := RX1) (T := TX1) (N := 13) (o := 0) (rest := []) ⟨hx, hb, hml, hown, hts⟩ (m_X1_isOut l hE hC 0 (by decide) Y (Y 0) x1 _ hw) (cwV 1 hts gX5_hurl_X1_isOut rfl rfl rfl (by decide +kernel) ⟨Nat.le_of_ble_eq_true rfl, Nat.le_of_ble_eq_true rfl⟩) hK hPc hS (hC.1 0 (by decide) (0, 0) (List.mem_of_getElem? (i := 0) rfl)) (z_lH_0 (o := 0) (by decide)) rfl rfl hl.1 rfl (Nat.le_of_ble_eq_true rfl) dX5_hurl_37 ⟨Nat.zero_le _, Nat.zero_le _⟩ (fun r7 u H locs hk hP hS => ?_)
        obtain ⟨eu, hw⟩ := hk
        rw [eu, z_up_self] at hP
        refine lv_if_eq (tgt := 46) hx hb dX5_hurl_40 (by decide) (fun c8 => ?_) (fun c8 => ?_)
        · replace hw := hw.1 c8
          refine lv_aload_n hx hb dX5_hurl_46 rfl (lv_at hl 0 rfl) ?_
          refine z_getr (C := RX5) (T := TX5) (N := 7) (ref := "GauntletHall") (o := 18) (d := 0) hx hb hts hfX5 hown hK hP (hC.2 (18, 0) (List.mem_of_getElem? (i := 12) rfl)) z_l_18_0 rfl 1 (by decide) (hts (.fieldLink RX5 19 "GauntletHall" "hall" "LGauntletHall$Hall;") (by decide +kernel)) rfl rfl dX5_hurl_47 ?_
          refine z_geti (C := RX1) (T := TX1) (N := 13) (ref := "GauntletHall$Hall") (o := 0) (d := 0) hx hb hts hfX1 hown hK hP (hC.1 0 (by decide) (0, 0) (List.mem_of_getElem? (i := 0) rfl)) (z_lH_0 (o := 0) (by decide)) rfl 1 (by decide) (hts (.fieldLink RX5 151 "GauntletHall$Hall" "gloves" "I") (by decide +kernel)) rfl rfl rfl dX5_hurl_50 ?_
          refine lv_bipush (v := (8 : Int32)) hx hb dX5_hurl_53 (by decide) ?_
          refine lv_icmp_lt (tgt := 61) hx hb dX5_hurl_55 (by decide) (fun c9 => ?_) (fun c9 => ?_)
          · replace hw := hw.1 c9
            refine lv_aload_n hx hb dX5_hurl_61 rfl (lv_at hl 0 rfl) ?_
            refine z_getr (C := RX5) (T := TX5) (N := 7) (ref := "GauntletHall") (o := 18) (d := 0) hx hb hts hfX5 hown hK hP (hC.2 (18, 0) (List.mem_of_getElem? (i := 12) rfl)) z_l_18_0 rfl 3 (by decide) (hts (.fieldLink RX5 31 "GauntletHall" "past" "LGauntletHall$Shelf;") (by decide +kernel)) rfl rfl dX5_hurl_62 ?_
            refine lv_aload_n hx hb dX5_hurl_65 rfl (lv_at hl 0 rfl) ?_
            refine z_getr (C := RX5) (T := TX5) (N := 7) (ref := "GauntletHall") (o := 18) (d := 0) hx hb hts hfX5 hown hK hP (hC.2 (18, 0) (List.mem_of_getElem? (i := 12) rfl)) z_l_18_0 rfl 1 (by decide) (hts (.fieldLink RX5 19 "GauntletHall" "hall" "LGauntletHall$Hall;") (by decide +kernel)) rfl rfl dX5_hurl_66 ?_
            refine z_vv (C := RX3) (T := TX3) (N := 3) (o := 14) (rest := []) ⟨hx, hb, hml, hown, hts⟩ (m_X3_put l hE hC 14 3 8 (z_s14 hC) 0 (by decide) Y _ hw) (cwV 1 hts gX5_hurl_X3_put rfl rfl rfl (by decide +kernel) ⟨Nat.le_of_ble_eq_true rfl, Nat.le_of_ble_eq_true rfl⟩) hK hP hS (hC.2 (14, 0) (List.mem_of_getElem? (i := 3) rfl)) z_l_14_0 rfl rfl hl.1 rfl (Nat.le_of_ble_eq_true rfl) dX5_hurl_69 ⟨Nat.zero_le _, Nat.zero_le _⟩ (fun Y10 H locs hk hP hS => ?_)
            replace hw := hk
            refine lv_aload_n hx hb dX5_hurl_72 rfl (lv_at hl 0 rfl) ?_
            refine z_getr (C := RX5) (T := TX5) (N := 7) (ref := "GauntletHall") (o := 18) (d := 0) hx hb hts hfX5 hown hK hP (hC.2 (18, 0) (List.mem_of_getElem? (i := 12) rfl)) z_l_18_0 rfl 1 (by decide) (hts (.fieldLink RX5 19 "GauntletHall" "hall" "LGauntletHall$Hall;") (by decide +kernel)) rfl rfl dX5_hurl_73 ?_
            refine lv_iload_n hx hb dX5_hurl_76 rfl (lv_at hl 2 rfl) ?_
            refine lv_iload_n hx hb dX5_hurl_77 rfl (lv_at hl 3 rfl) ?_
            refine lv_iload_n hx hb dX5_hurl_78 rfl (lv_at hl 1 rfl) ?_
            have hPc := z_P_self 0 hP
            refine z_vi (C := RX1) (T := TX1) (N := 13) (o := 0) (rest := []) ⟨hx, hb, hml, hown, hts⟩ (m_X1_addGlove l hE hC 0 (by decide) Y10 (Y10 0) x2 x3 x1 _ hw) (cwV 3 hts gX5_hurl_X1_addGlove rfl rfl rfl (by decide +kernel) ⟨Nat.le_of_ble_eq_true rfl, Nat.le_of_ble_eq_true rfl⟩) hK hPc hS (hC.1 0 (by decide) (0, 0) (List.mem_of_getElem? (i := 0) rfl)) (z_lH_0 (o := 0) (by decide)) rfl rfl hl.1 rfl (Nat.le_of_ble_eq_true rfl) dX5_hurl_79 ⟨Nat.zero_le _, Nat.zero_le _⟩ (fun r11 u H locs hk hP hS => ?_)
            obtain ⟨h12, eu, hw⟩ := hk
            rw [eu] at hP
            obtain ⟨Y13, eY13⟩ : ∃ z : z_X, z = z_up Y10 0 h12 := ⟨_, rfl⟩
            replace hw := hw Y13 eY13
            rw [← eY13] at hP
            refine lv_pop hx hb dX5_hurl_82 rfl ?_
            refine lv_aload_n hx hb dX5_hurl_83 rfl (lv_at hl 0 rfl) ?_
            refine z_getr (C := RX5) (T := TX5) (N := 7) (ref := "GauntletHall") (o := 18) (d := 0) hx hb hts hfX5 hown hK hP (hC.2 (18, 0) (List.mem_of_getElem? (i := 12) rfl)) z_l_18_0 rfl 1 (by decide) (hts (.fieldLink RX5 19 "GauntletHall" "hall" "LGauntletHall$Hall;") (by decide +kernel)) rfl rfl dX5_hurl_84 ?_
            refine z_geti (C := RX1) (T := TX1) (N := 13) (ref := "GauntletHall$Hall") (o := 0) (d := 0) hx hb hts hfX1 hown hK hP (hC.1 0 (by decide) (0, 0) (List.mem_of_getElem? (i := 0) rfl)) (z_lH_0 (o := 0) (by decide)) rfl 1 (by decide) (hts (.fieldLink RX5 151 "GauntletHall$Hall" "gloves" "I") (by decide +kernel)) rfl rfl rfl dX5_hurl_87 ?_
            refine lv_iconst (v := (1 : Int32)) hx hb dX5_hurl_90 (by decide) ?_
            refine lv_isub hx hb dX5_hurl_91 ?_
            exact z_reti C hP hS hw dX5_hurl_92
          · replace hw := hw.2 c9
            refine lv_bipush (v := (-3 : Int32)) hx hb dX5_hurl_58 (by decide) ?_
            exact z_reti C hP hS hw dX5_hurl_60
        · replace hw := hw.2 c8
          refine lv_bipush (v := (-2 : Int32)) hx hb dX5_hurl_43 (by decide) ?_
          exact z_reti C hP hS hw dX5_hurl_45
      · replace hw := hw.2 c6
        refine lv_iconst (v := (-1 : Int32)) hx hb dX5_hurl_30 (by decide) ?_
        exact z_reti C hP hS hw dX5_hurl_31
set_option maxHeartbeats 4000000 in
set_option maxRecDepth 100000 in
theorem m_X5_keep (l : Launch) {E : z_E} (hE : z_ok E) (hC : z_cls E) (Y : z_X) (K : Int32 → z_X → Prop) (hw : v_X5_keep Y K) : z_CI l E yX5_keep wsX5_keep rX5_keep [.ref (z_a E 18 0)] Y K := by
  refine z_start (cc := cX5_keep) (maxL := 1) (ret := (some .int)) hE (by decide) rfl (Nat.le_of_ble_eq_true rfl) ?_
  intro p e s m below meth c C hP hS ls hl
  have C : z_Cx p E s m _ meth c cX5_keep 1 wsX5_keep RX5 (some .int) := C
  obtain ⟨hx, hb, hml, hr, hlocks, hown, hts, hK, hE⟩ := id C
  have hl : lv_has ls 1 [(0, .ref (z_a E 18 0))] := hl
  have hfX3 : ∀ w ∈ u_ws RX3 TX3 3, w ∈ wsX5_keep := by decide +kernel
  have hfX5 : ∀ w ∈ u_ws RX5 TX5 7, w ∈ wsX5_keep := by decide +kernel
  unfold v_X5_keep at hw
  refine lv_aload_n hx hb dX5_keep_0 rfl (lv_at hl 0 rfl) ?_
  refine z_getr (C := RX5) (T := TX5) (N := 7) (ref := "GauntletHall") (o := 18) (d := 0) hx hb hts hfX5 hown hK hP (hC.2 (18, 0) (List.mem_of_getElem? (i := 12) rfl)) z_l_18_0 rfl 4 (by decide) (hts (.fieldLink RX5 35 "GauntletHall" "kept" "LGauntletHall$Shelf;") (by decide +kernel)) rfl rfl dX5_keep_1 ?_
  refine z_geti (C := RX3) (T := TX3) (N := 3) (ref := "GauntletHall$Shelf") (o := 15) (d := 0) hx hb hts hfX3 hown hK hP (hC.2 (15, 0) (List.mem_of_getElem? (i := 5) rfl)) z_l_15_0 rfl 0 (by decide) (hts (.fieldLink RX5 86 "GauntletHall$Shelf" "count" "I") (by decide +kernel)) rfl rfl rfl dX5_keep_4 ?_
  refine lv_iconst (v := (2 : Int32)) hx hb dX5_keep_7 (by decide) ?_
  refine lv_icmp_lt (tgt := 14) hx hb dX5_keep_8 (by decide) (fun c1 => ?_) (fun c1 => ?_)
  · replace hw := hw.1 c1
    refine lv_aload_n hx hb dX5_keep_14 rfl (lv_at hl 0 rfl) ?_
    refine z_getr (C := RX5) (T := TX5) (N := 7) (ref := "GauntletHall") (o := 18) (d := 0) hx hb hts hfX5 hown hK hP (hC.2 (18, 0) (List.mem_of_getElem? (i := 12) rfl)) z_l_18_0 rfl 4 (by decide) (hts (.fieldLink RX5 35 "GauntletHall" "kept" "LGauntletHall$Shelf;") (by decide +kernel)) rfl rfl dX5_keep_15 ?_
    refine lv_aload_n hx hb dX5_keep_18 rfl (lv_at hl 0 rfl) ?_
    refine z_getr (C := RX5) (T := TX5) (N := 7) (ref := "GauntletHall") (o := 18) (d := 0) hx hb hts hfX5 hown hK hP (hC.2 (18, 0) (List.mem_of_getElem? (i := 12) rfl)) z_l_18_0 rfl 1 (by decide) (hts (.fieldLink RX5 19 "GauntletHall" "hall" "LGauntletHall$Hall;") (by decide +kernel)) rfl rfl dX5_keep_19 ?_
    refine z_vv (C := RX3) (T := TX3) (N := 3) (o := 15) (rest := []) ⟨hx, hb, hml, hown, hts⟩ (m_X3_put l hE hC 15 11 2 (z_s15 hC) 0 (by decide) Y _ hw) (cwV 1 hts gX5_keep_X3_put rfl rfl rfl (by decide +kernel) ⟨Nat.le_of_ble_eq_true rfl, Nat.le_of_ble_eq_true rfl⟩) hK hP hS (hC.2 (15, 0) (List.mem_of_getElem? (i := 5) rfl)) z_l_15_0 rfl rfl hl.1 rfl (Nat.le_of_ble_eq_true rfl) dX5_keep_22 ⟨Nat.zero_le _, Nat.zero_le _⟩ (fun Y2 H locs hk hP hS => ?_)
    replace hw := hk
    refine lv_aload_n hx hb dX5_keep_25 rfl (lv_at hl 0 rfl) ?_
    refine z_getr (C := RX5) (T := TX5) (N := 7) (ref := "GauntletHall") (o := 18) (d := 0) hx hb hts hfX5 hown hK hP (hC.2 (18, 0) (List.mem_of_getElem? (i := 12) rfl)) z_l_18_0 rfl 4 (by decide) (hts (.fieldLink RX5 35 "GauntletHall" "kept" "LGauntletHall$Shelf;") (by decide +kernel)) rfl rfl dX5_keep_26 ?_
    refine z_geti (C := RX3) (T := TX3) (N := 3) (ref := "GauntletHall$Shelf") (o := 15) (d := 0) hx hb hts hfX3 hown hK hP (hC.2 (15, 0) (List.mem_of_getElem? (i := 5) rfl)) z_l_15_0 rfl 0 (by decide) (hts (.fieldLink RX5 86 "GauntletHall$Shelf" "count" "I") (by decide +kernel)) rfl rfl rfl dX5_keep_29 ?_
    exact z_reti C hP hS hw dX5_keep_32
  · replace hw := hw.2 c1
    refine lv_bipush (v := (-3 : Int32)) hx hb dX5_keep_11 (by decide) ?_
    exact z_reti C hP hS hw dX5_keep_13
set_option maxHeartbeats 4000000 in
set_option maxRecDepth 100000 in
theorem m_X5_kinds_b17_s {p : Program} {l : Launch} {e : Env} {s : State} {m : MethodId} {args : Array Value} {below : List Frame} {meth : Method} {c : Code} {E : z_E} (C : z_Cx p E s m args meth c cX5_kinds 4 wsX5_kinds RX5 (some .int)) (hC : z_cls E) (Y : z_X) (K : Int32 → Prop) (L17 : Int32 → Int32 → Int32 → Prop) (k17 : ∀ (x1 : Int32) (x2 : Int32) (x3 : Int32), L17 x1 x2 x3 → ∀ {H : Heap} {locs : List Loc}, z_P E Y H → va_S (z_A E) s.heap H locs → ∀ (ls : Array Slot), lv_has ls 4 [(0, .ref (z_a E 18 0)), (1, .int x1), (2, .int x2), (3, .int x3)] → W p l e rX5_kinds s m args below meth c H locs 0 0 (MQ below (va_Qi (fun r X' => X' = Y ∧ K r) (fun u t => z_P E u t.heap) (z_A E)) args s 0 0 (z_A E)) (F0 m 17 ls [])) (x1 : Int32) (x2 : Int32) (x3 : Int32) (hw : v_X5_kinds_b17_s Y K L17 x1 x2 x3) {H : Heap} {locs : List Loc} (hP : z_P E Y H) (hS : va_S (z_A E) s.heap H locs) {ls : Array Slot} (hl : lv_has ls 4 [(0, .ref (z_a E 18 0)), (1, .int x1), (2, .int x2), (3, .int x3)]) : W p l e rX5_kinds s m args below meth c H locs 0 0 (MQ below (va_Qi (fun r X' => X' = Y ∧ K r) (fun u t => z_P E u t.heap) (z_A E)) args s 0 0 (z_A E)) (F0 m 17 ls []) := by
  obtain ⟨hx, hb, hml, hr, hlocks, hown, hts, hK, hE⟩ := id C
  have hfX1 : ∀ w ∈ u_ws RX1 TX1 13, w ∈ wsX5_kinds := by decide +kernel
  have hfX5 : ∀ w ∈ u_ws RX5 TX5 7, w ∈ wsX5_kinds := by decide +kernel
  unfold v_X5_kinds_b17_s at hw
  refine lv_iload_n hx hb dX5_kinds_17 rfl (lv_at hl 3 rfl) ?_
  refine lv_iconst (v := (4 : Int32)) hx hb dX5_kinds_18 (by decide) ?_
  refine lv_icmp_ge (tgt := 59) hx hb dX5_kinds_19 (by decide) (fun c3 => ?_) (fun c3 => ?_)
  · replace hw := hw.1 c3
    refine lv_iload_n hx hb dX5_kinds_59 rfl (lv_at hl 2 rfl) ?_
    exact z_reti C hP hS ⟨rfl, hw⟩ dX5_kinds_60
  · replace hw := hw.2 c3
    refine lv_aload_n hx hb dX5_kinds_22 rfl (lv_at hl 0 rfl) ?_
    refine z_getr (C := RX5) (T := TX5) (N := 7) (ref := "GauntletHall") (o := 18) (d := 0) hx hb hts hfX5 hown hK hP (hC.2 (18, 0) (List.mem_of_getElem? (i := 12) rfl)) z_l_18_0 rfl 5 (by decide) (hts (.fieldLink RX5 41 "GauntletHall" "sightings" "LGauntletHall$Sightings;") (by decide +kernel)) rfl rfl dX5_kinds_23 ?_
    refine lv_aload_n hx hb dX5_kinds_26 rfl (lv_at hl 0 rfl) ?_
    refine z_getr (C := RX5) (T := TX5) (N := 7) (ref := "GauntletHall") (o := 18) (d := 0) hx hb hts hfX5 hown hK hP (hC.2 (18, 0) (List.mem_of_getElem? (i := 12) rfl)) z_l_18_0 rfl 1 (by decide) (hts (.fieldLink RX5 19 "GauntletHall" "hall" "LGauntletHall$Hall;") (by decide +kernel)) rfl rfl dX5_kinds_27 ?_
    refine lv_iload_n hx hb dX5_kinds_30 rfl (lv_at hl 1 rfl) ?_
    refine lv_iload_n hx hb dX5_kinds_31 rfl (lv_at hl 3 rfl) ?_
    refine lv_aload_n hx hb dX5_kinds_32 rfl (lv_at hl 0 rfl) ?_
    refine z_getr (C := RX5) (T := TX5) (N := 7) (ref := "GauntletHall") (o := 18) (d := 0) hx hb hts hfX5 hown hK hP (hC.2 (18, 0) (List.mem_of_getElem? (i := 12) rfl)) z_l_18_0 rfl 1 (by decide) (hts (.fieldLink RX5 19 "GauntletHall" "hall" "LGauntletHall$Hall;") (by decide +kernel)) rfl rfl dX5_kinds_33 ?_
    refine z_getr (C := RX1) (T := TX1) (N := 13) (ref := "GauntletHall$Hall") (o := 0) (d := 0) hx hb hts hfX1 hown hK hP (hC.1 0 (by decide) (0, 0) (List.mem_of_getElem? (i := 0) rfl)) (z_lH_0 (o := 0) (by decide)) rfl 8 (by decide) (hts (.fieldLink RX5 109 "GauntletHall$Hall" "size" "[I") (by decide +kernel)) rfl rfl dX5_kinds_36 ?_
    refine lv_iload_n hx hb dX5_kinds_39 rfl (lv_at hl 1 rfl) ?_
    obtain ⟨i4, hw⟩ := hw
    refine z_iald (o := 0) (d := 8) hx hb hK hP (hC.1 0 (by decide) (0, 8) (List.mem_of_getElem? (i := 5) rfl)) (z_lH_8 (o := 0) (by decide)) i4 rfl dX5_kinds_40 ?_
    refine z_vi (C := RX4) (T := TX4) (N := 4) (o := 16) (rest := []) ⟨hx, hb, hml, hown, hts⟩ (m_X4_allowGlove l hE hC 0 (by decide) Y x1 x3 (Y 0 8 (z_n x1)) _ hw) (cwV 4 hts gX5_kinds_X4_allowGlove rfl rfl rfl (by decide +kernel) ⟨Nat.le_of_ble_eq_true rfl, Nat.le_of_ble_eq_true rfl⟩) hK hP hS (hC.2 (16, 0) (List.mem_of_getElem? (i := 7) rfl)) z_l_16_0 rfl rfl hl.1 rfl (Nat.le_of_ble_eq_true rfl) dX5_kinds_41 ⟨Nat.zero_le _, Nat.zero_le _⟩ (fun r5 u H locs hk hP hS => ?_)
    obtain ⟨eu, hw⟩ := hk
    rw [eu] at hP
    refine lv_if_eq (tgt := 53) hx hb dX5_kinds_44 (by decide) (fun c6 => ?_) (fun c6 => ?_)
    · replace hw := hw.1 c6
      obtain ⟨y7, ey7⟩ : ∃ z : Int32, z = x3 + (1 : Int32) := ⟨_, rfl⟩
      replace hw := hw y7 ey7
      refine lv_iinc (v := y7) (lv' := [(3, .int y7), (0, .ref (z_a E 18 0)), (1, .int x1), (2, .int x2)]) hx hb dX5_kinds_53 hl (k := 3) rfl (by rw [ey7]; rfl) (by decide) rfl (fun ls hl => ?_)
      refine lv_goto (tgt := 17) hx hb dX5_kinds_56 (by decide) ?_
      exact k17 x1 x2 y7 hw hP hS _ (lv_sub hl [1, 2, 3, 0] rfl)
    · replace hw := hw.2 c6
      refine lv_iload_n hx hb dX5_kinds_47 rfl (lv_at hl 2 rfl) ?_
      refine lv_iconst (v := (1 : Int32)) hx hb dX5_kinds_48 (by decide) ?_
      refine lv_iload_n hx hb dX5_kinds_49 rfl (lv_at hl 3 rfl) ?_
      refine lv_ishl hx hb dX5_kinds_50 ?_
      refine lv_ior hx hb dX5_kinds_51 ?_
      refine lv_topi (fun y8 ey8 => ?_)
      replace hw := hw y8 ey8
      refine lv_istore_n (lv' := [(2, .int y8), (0, .ref (z_a E 18 0)), (1, .int x1), (3, .int x3)]) hx hb dX5_kinds_52 rfl hl (by decide) rfl (fun ls hl => ?_)
      obtain ⟨y9, ey9⟩ : ∃ z : Int32, z = x3 + (1 : Int32) := ⟨_, rfl⟩
      replace hw := hw y9 ey9
      refine lv_iinc (v := y9) (lv' := [(3, .int y9), (2, .int y8), (0, .ref (z_a E 18 0)), (1, .int x1)]) hx hb dX5_kinds_53 hl (k := 3) rfl (by rw [ey9]; rfl) (by decide) rfl (fun ls hl => ?_)
      refine lv_goto (tgt := 17) hx hb dX5_kinds_56 (by decide) ?_
      exact k17 x1 y8 y9 hw hP hS _ (lv_sub hl [2, 3, 1, 0] rfl)
theorem m_X5_kinds_b17 {p : Program} {l : Launch} {e : Env} {s : State} {m : MethodId} {args : Array Value} {below : List Frame} {meth : Method} {c : Code} {E : z_E} (C : z_Cx p E s m args meth c cX5_kinds 4 wsX5_kinds RX5 (some .int)) (hC : z_cls E) (Y : z_X) (K : Int32 → Prop) (x1 : Int32) (x2 : Int32) (x3 : Int32) (hw : v_X5_kinds_b17 Y K x1 x2 x3) {H : Heap} {locs : List Loc} (hP : z_P E Y H) (hS : va_S (z_A E) s.heap H locs) {ls : Array Slot} (hl : lv_has ls 4 [(0, .ref (z_a E 18 0)), (1, .int x1), (2, .int x2), (3, .int x3)]) : W p l e rX5_kinds s m args below meth c H locs 0 0 (MQ below (va_Qi (fun r X' => X' = Y ∧ K r) (fun u t => z_P E u t.heap) (z_A E)) args s 0 0 (z_A E)) (F0 m 17 ls []) := by
  obtain ⟨n, hw⟩ := hw
  revert hw hP hS hl
  revert x1 x2 x3 H locs ls
  induction n with
  | zero => intro x1 x2 x3 H locs ls hP hS hl hw; exact hw.elim
  | succ n ih =>
    intro x1 x2 x3 H locs ls hP hS hl hw
    exact m_X5_kinds_b17_s C hC Y K (fun x1 x2 x3 => z_fp (σ := Int32 × Int32 × Int32) (fun Lp q => v_X5_kinds_b17_s Y K (fun x1 x2 x3 => Lp (x1, x2, x3)) q.1 q.2.1 q.2.2) n (x1, x2, x3)) (fun x1 x2 x3 h9 H locs hP hS ls hl => ih x1 x2 x3 hP hS hl h9) x1 x2 x3 hw hP hS hl
set_option maxHeartbeats 4000000 in
set_option maxRecDepth 100000 in
theorem m_X5_kinds (l : Launch) {E : z_E} (hE : z_ok E) (hC : z_cls E) (Y : z_X) (x1 : Int32) (K : Int32 → Prop) (hw : v_X5_kinds Y x1 K) : z_CI l E yX5_kinds wsX5_kinds rX5_kinds [.ref (z_a E 18 0), .int x1] Y (fun r X' => X' = Y ∧ K r) := by
  refine z_start (cc := cX5_kinds) (maxL := 4) (ret := (some .int)) hE (by decide) rfl (Nat.le_of_ble_eq_true rfl) ?_
  intro p e s m below meth c C hP hS ls hl
  have C : z_Cx p E s m _ meth c cX5_kinds 4 wsX5_kinds RX5 (some .int) := C
  obtain ⟨hx, hb, hml, hr, hlocks, hown, hts, hK, hE⟩ := id C
  have hl : lv_has ls 4 [(0, .ref (z_a E 18 0)), (1, .int x1)] := hl
  have hfX1 : ∀ w ∈ u_ws RX1 TX1 13, w ∈ wsX5_kinds := by decide +kernel
  have hfX5 : ∀ w ∈ u_ws RX5 TX5 7, w ∈ wsX5_kinds := by decide +kernel
  unfold v_X5_kinds at hw
  refine lv_aload_n hx hb dX5_kinds_0 rfl (lv_at hl 0 rfl) ?_
  refine z_getr (C := RX5) (T := TX5) (N := 7) (ref := "GauntletHall") (o := 18) (d := 0) hx hb hts hfX5 hown hK hP (hC.2 (18, 0) (List.mem_of_getElem? (i := 12) rfl)) z_l_18_0 rfl 1 (by decide) (hts (.fieldLink RX5 19 "GauntletHall" "hall" "LGauntletHall$Hall;") (by decide +kernel)) rfl rfl dX5_kinds_1 ?_
  refine lv_iload_n hx hb dX5_kinds_4 rfl (lv_at hl 1 rfl) ?_
  have hPc := z_P_self 0 hP
  refine z_vi (C := RX1) (T := TX1) (N := 13) (o := 0) (rest := []) ⟨hx, hb, hml, hown, hts⟩ (m_X1_isGlove l hE hC 0 (by decide) Y (Y 0) x1 _ hw) (cwV 1 hts gX5_kinds_X1_isGlove rfl rfl rfl (by decide +kernel) ⟨Nat.le_of_ble_eq_true rfl, Nat.le_of_ble_eq_true rfl⟩) hK hPc hS (hC.1 0 (by decide) (0, 0) (List.mem_of_getElem? (i := 0) rfl)) (z_lH_0 (o := 0) (by decide)) rfl rfl hl.1 rfl (Nat.le_of_ble_eq_true rfl) dX5_kinds_5 ⟨Nat.zero_le _, Nat.zero_le _⟩ (fun r1 u H locs hk hP hS => ?_)
  obtain ⟨eu, hw⟩ := hk
  rw [eu, z_up_self] at hP
  refine lv_if_ne (tgt := 13) hx hb dX5_kinds_8 (by decide) (fun c2 => ?_) (fun c2 => ?_)
  · replace hw := hw.1 c2
    refine lv_iconst (v := (0 : Int32)) hx hb dX5_kinds_13 (by decide) ?_
    refine lv_istore_n (lv' := [(2, .int (0 : Int32)), (0, .ref (z_a E 18 0)), (1, .int x1)]) hx hb dX5_kinds_14 rfl hl (by decide) rfl (fun ls hl => ?_)
    refine lv_iconst (v := (0 : Int32)) hx hb dX5_kinds_15 (by decide) ?_
    refine lv_istore_n (lv' := [(3, .int (0 : Int32)), (2, .int (0 : Int32)), (0, .ref (z_a E 18 0)), (1, .int x1)]) hx hb dX5_kinds_16 rfl hl (by decide) rfl (fun ls hl => ?_)
    exact m_X5_kinds_b17 C hC Y K x1 (0 : Int32) (0 : Int32) hw hP hS (lv_sub hl [2, 3, 1, 0] rfl)
  · replace hw := hw.2 c2
    refine lv_iconst (v := (-1 : Int32)) hx hb dX5_kinds_11 (by decide) ?_
    exact z_reti C hP hS ⟨rfl, hw⟩ dX5_kinds_12
set_option maxHeartbeats 4000000 in
set_option maxRecDepth 100000 in
theorem m_X5_last (l : Launch) {E : z_E} (hE : z_ok E) (hC : z_cls E) (Y : z_X) (K : Int32 → z_X → Prop) (hw : v_X5_last Y K) : z_CI l E yX5_last wsX5_last rX5_last [.ref (z_a E 18 0)] Y K := by
  refine z_start (cc := cX5_last) (maxL := 1) (ret := (some .int)) hE (by decide) rfl (Nat.le_of_ble_eq_true rfl) ?_
  intro p e s m below meth c C hP hS ls hl
  have C : z_Cx p E s m _ meth c cX5_last 1 wsX5_last RX5 (some .int) := C
  obtain ⟨hx, hb, hml, hr, hlocks, hown, hts, hK, hE⟩ := id C
  have hl : lv_has ls 1 [(0, .ref (z_a E 18 0))] := hl
  have hfX5 : ∀ w ∈ u_ws RX5 TX5 7, w ∈ wsX5_last := by decide +kernel
  unfold v_X5_last at hw
  refine lv_aload_n hx hb dX5_last_0 rfl (lv_at hl 0 rfl) ?_
  refine z_getr (C := RX5) (T := TX5) (N := 7) (ref := "GauntletHall") (o := 18) (d := 0) hx hb hts hfX5 hown hK hP (hC.2 (18, 0) (List.mem_of_getElem? (i := 12) rfl)) z_l_18_0 rfl 6 (by decide) (hts (.fieldLink RX5 48 "GauntletHall" "forecast" "LGauntletHall$Forecast;") (by decide +kernel)) rfl rfl dX5_last_1 ?_
  refine lv_aload_n hx hb dX5_last_4 rfl (lv_at hl 0 rfl) ?_
  refine z_getr (C := RX5) (T := TX5) (N := 7) (ref := "GauntletHall") (o := 18) (d := 0) hx hb hts hfX5 hown hK hP (hC.2 (18, 0) (List.mem_of_getElem? (i := 12) rfl)) z_l_18_0 rfl 1 (by decide) (hts (.fieldLink RX5 19 "GauntletHall" "hall" "LGauntletHall$Hall;") (by decide +kernel)) rfl rfl dX5_last_5 ?_
  refine z_vi (C := RX0) (T := TX0) (N := 1) (o := 17) (rest := []) ⟨hx, hb, hml, hown, hts⟩ (m_X0_standingAtLast l hE hC 0 (by decide) Y _ hw) (cwV 1 hts gX5_last_X0_standingAtLast rfl rfl rfl (by decide +kernel) ⟨Nat.le_of_ble_eq_true rfl, Nat.le_of_ble_eq_true rfl⟩) hK hP hS (hC.2 (17, 0) (List.mem_of_getElem? (i := 11) rfl)) z_l_17_0 rfl rfl hl.1 rfl (Nat.le_of_ble_eq_true rfl) dX5_last_8 ⟨Nat.zero_le _, Nat.zero_le _⟩ (fun r1 Y2 H locs hk hP hS => ?_)
  replace hw := hk
  exact z_reti C hP hS hw dX5_last_11
set_option maxHeartbeats 4000000 in
set_option maxRecDepth 100000 in
theorem m_X5_lay (l : Launch) {E : z_E} (hE : z_ok E) (hC : z_cls E) (Y : z_X) (K : Int32 → z_X → Prop) (hw : v_X5_lay Y K) : z_CI l E yX5_lay wsX5_lay rX5_lay [.ref (z_a E 18 0)] Y K := by
  refine z_start (cc := cX5_lay) (maxL := 1) (ret := (some .int)) hE (by decide) rfl (Nat.le_of_ble_eq_true rfl) ?_
  intro p e s m below meth c C hP hS ls hl
  have C : z_Cx p E s m _ meth c cX5_lay 1 wsX5_lay RX5 (some .int) := C
  obtain ⟨hx, hb, hml, hr, hlocks, hown, hts, hK, hE⟩ := id C
  have hl : lv_has ls 1 [(0, .ref (z_a E 18 0))] := hl
  have hfX1 : ∀ w ∈ u_ws RX1 TX1 13, w ∈ wsX5_lay := by decide +kernel
  have hfX3 : ∀ w ∈ u_ws RX3 TX3 3, w ∈ wsX5_lay := by decide +kernel
  have hfX4 : ∀ w ∈ u_ws RX4 TX4 4, w ∈ wsX5_lay := by decide +kernel
  have hfX5 : ∀ w ∈ u_ws RX5 TX5 7, w ∈ wsX5_lay := by decide +kernel
  unfold v_X5_lay at hw
  refine lv_aload_n hx hb dX5_lay_0 rfl (lv_at hl 0 rfl) ?_
  refine z_getr (C := RX5) (T := TX5) (N := 7) (ref := "GauntletHall") (o := 18) (d := 0) hx hb hts hfX5 hown hK hP (hC.2 (18, 0) (List.mem_of_getElem? (i := 12) rfl)) z_l_18_0 rfl 0 (by decide) (hts (.fieldLink RX5 10 "GauntletHall" "text" "LGauntletHall$Scroll;") (by decide +kernel)) rfl rfl dX5_lay_1 ?_
  refine lv_aload_n hx hb dX5_lay_4 rfl (lv_at hl 0 rfl) ?_
  refine z_getr (C := RX5) (T := TX5) (N := 7) (ref := "GauntletHall") (o := 18) (d := 0) hx hb hts hfX5 hown hK hP (hC.2 (18, 0) (List.mem_of_getElem? (i := 12) rfl)) z_l_18_0 rfl 2 (by decide) (hts (.fieldLink RX5 23 "GauntletHall" "draft" "LGauntletHall$Hall;") (by decide +kernel)) rfl rfl dX5_lay_5 ?_
  refine z_vi (C := RX2) (T := TX2) (N := 4) (o := 13) (rest := []) ⟨hx, hb, hml, hown, hts⟩ (m_X2_readInto l hE hC 1 (by decide) Y _ hw) (cwV 1 hts gX5_lay_X2_readInto rfl rfl rfl (by decide +kernel) ⟨Nat.le_of_ble_eq_true rfl, Nat.le_of_ble_eq_true rfl⟩) hK hP hS (hC.2 (13, 0) (List.mem_of_getElem? (i := 0) rfl)) z_l_13_0 rfl rfl hl.1 rfl (Nat.le_of_ble_eq_true rfl) dX5_lay_8 ⟨Nat.zero_le _, Nat.zero_le _⟩ (fun r1 Y2 H locs hk hP hS => ?_)
  replace hw := hk
  refine lv_bipush (v := (-4 : Int32)) hx hb dX5_lay_11 (by decide) ?_
  refine lv_icmp_ne (tgt := 27) hx hb dX5_lay_13 (by decide) (fun c3 => ?_) (fun c3 => ?_)
  · replace hw := hw.1 c3
    refine lv_bipush (v := (-2 : Int32)) hx hb dX5_lay_27 (by decide) ?_
    exact z_reti C hP hS hw dX5_lay_29
  · replace hw := hw.2 c3
    refine lv_aload_n hx hb dX5_lay_16 rfl (lv_at hl 0 rfl) ?_
    refine z_getr (C := RX5) (T := TX5) (N := 7) (ref := "GauntletHall") (o := 18) (d := 0) hx hb hts hfX5 hown hK hP (hC.2 (18, 0) (List.mem_of_getElem? (i := 12) rfl)) z_l_18_0 rfl 2 (by decide) (hts (.fieldLink RX5 23 "GauntletHall" "draft" "LGauntletHall$Hall;") (by decide +kernel)) rfl rfl dX5_lay_17 ?_
    refine z_geti (C := RX1) (T := TX1) (N := 13) (ref := "GauntletHall$Hall") (o := 1) (d := 0) hx hb hts hfX1 hown hK hP (hC.1 1 (by decide) (1, 0) (List.mem_of_getElem? (i := 0) rfl)) (z_lH_0 (o := 1) (by decide)) rfl 0 (by decide) (hts (.fieldLink RX5 79 "GauntletHall$Hall" "people" "I") (by decide +kernel)) rfl rfl rfl dX5_lay_20 ?_
    refine lv_iconst (v := (2 : Int32)) hx hb dX5_lay_23 (by decide) ?_
    refine lv_icmp_ge (tgt := 30) hx hb dX5_lay_24 (by decide) (fun c4 => ?_) (fun c4 => ?_)
    · replace hw := hw.1 c4
      refine lv_aload_n hx hb dX5_lay_30 rfl (lv_at hl 0 rfl) ?_
      refine z_getr (C := RX5) (T := TX5) (N := 7) (ref := "GauntletHall") (o := 18) (d := 0) hx hb hts hfX5 hown hK hP (hC.2 (18, 0) (List.mem_of_getElem? (i := 12) rfl)) z_l_18_0 rfl 1 (by decide) (hts (.fieldLink RX5 19 "GauntletHall" "hall" "LGauntletHall$Hall;") (by decide +kernel)) rfl rfl dX5_lay_31 ?_
      refine lv_aload_n hx hb dX5_lay_34 rfl (lv_at hl 0 rfl) ?_
      refine z_getr (C := RX5) (T := TX5) (N := 7) (ref := "GauntletHall") (o := 18) (d := 0) hx hb hts hfX5 hown hK hP (hC.2 (18, 0) (List.mem_of_getElem? (i := 12) rfl)) z_l_18_0 rfl 2 (by decide) (hts (.fieldLink RX5 23 "GauntletHall" "draft" "LGauntletHall$Hall;") (by decide +kernel)) rfl rfl dX5_lay_35 ?_
      refine z_vv (C := RX1) (T := TX1) (N := 13) (o := 0) (rest := []) ⟨hx, hb, hml, hown, hts⟩ (m_X1_copyFrom l hE hC 0 (by decide) 1 (by decide) Y2 _ hw) (cwV 1 hts gX5_lay_X1_copyFrom rfl rfl rfl (by decide +kernel) ⟨Nat.le_of_ble_eq_true rfl, Nat.le_of_ble_eq_true rfl⟩) hK hP hS (hC.1 0 (by decide) (0, 0) (List.mem_of_getElem? (i := 0) rfl)) (z_lH_0 (o := 0) (by decide)) rfl rfl hl.1 rfl (Nat.le_of_ble_eq_true rfl) dX5_lay_38 ⟨Nat.zero_le _, Nat.zero_le _⟩ (fun Y5 H locs hk hP hS => ?_)
      replace hw := hk
      refine lv_aload_n hx hb dX5_lay_41 rfl (lv_at hl 0 rfl) ?_
      refine z_getr (C := RX5) (T := TX5) (N := 7) (ref := "GauntletHall") (o := 18) (d := 0) hx hb hts hfX5 hown hK hP (hC.2 (18, 0) (List.mem_of_getElem? (i := 12) rfl)) z_l_18_0 rfl 3 (by decide) (hts (.fieldLink RX5 31 "GauntletHall" "past" "LGauntletHall$Shelf;") (by decide +kernel)) rfl rfl dX5_lay_42 ?_
      refine lv_iconst (v := (0 : Int32)) hx hb dX5_lay_45 (by decide) ?_
      obtain ⟨Y6, eY6⟩ : ∃ z : z_X, z = z_up Y5 14 (z_ss (Y5 14) 0 0 (0 : Int32)) := ⟨_, rfl⟩
      replace hw := hw Y6 eY6
      refine z_puti (C := RX3) (T := TX3) (N := 3) (ref := "GauntletHall$Shelf") (o := 14) (d := 0) (X' := Y6) hx hb hts hfX3 tyX3 tyX3_ok nmX3 hown hK hE hP hS (hC.2 (14, 0) (List.mem_of_getElem? (i := 3) rfl)) z_l_14_0 rfl 0 (by decide) (hts (.fieldLink RX5 86 "GauntletHall$Shelf" "count" "I") (by decide +kernel)) rfl rfl (by decide +kernel) rfl eY6.symm dX5_lay_46 (fun H locs hP hS => ?_)
      refine lv_aload_n hx hb dX5_lay_49 rfl (lv_at hl 0 rfl) ?_
      refine z_getr (C := RX5) (T := TX5) (N := 7) (ref := "GauntletHall") (o := 18) (d := 0) hx hb hts hfX5 hown hK hP (hC.2 (18, 0) (List.mem_of_getElem? (i := 12) rfl)) z_l_18_0 rfl 4 (by decide) (hts (.fieldLink RX5 35 "GauntletHall" "kept" "LGauntletHall$Shelf;") (by decide +kernel)) rfl rfl dX5_lay_50 ?_
      refine lv_iconst (v := (0 : Int32)) hx hb dX5_lay_53 (by decide) ?_
      obtain ⟨Y7, eY7⟩ : ∃ z : z_X, z = z_up Y6 15 (z_ss (Y6 15) 0 0 (0 : Int32)) := ⟨_, rfl⟩
      replace hw := hw Y7 eY7
      refine z_puti (C := RX3) (T := TX3) (N := 3) (ref := "GauntletHall$Shelf") (o := 15) (d := 0) (X' := Y7) hx hb hts hfX3 tyX3 tyX3_ok nmX3 hown hK hE hP hS (hC.2 (15, 0) (List.mem_of_getElem? (i := 5) rfl)) z_l_15_0 rfl 0 (by decide) (hts (.fieldLink RX5 86 "GauntletHall$Shelf" "count" "I") (by decide +kernel)) rfl rfl (by decide +kernel) rfl eY7.symm dX5_lay_54 (fun H locs hP hS => ?_)
      refine lv_aload_n hx hb dX5_lay_57 rfl (lv_at hl 0 rfl) ?_
      refine z_getr (C := RX5) (T := TX5) (N := 7) (ref := "GauntletHall") (o := 18) (d := 0) hx hb hts hfX5 hown hK hP (hC.2 (18, 0) (List.mem_of_getElem? (i := 12) rfl)) z_l_18_0 rfl 5 (by decide) (hts (.fieldLink RX5 41 "GauntletHall" "sightings" "LGauntletHall$Sightings;") (by decide +kernel)) rfl rfl dX5_lay_58 ?_
      refine lv_iconst (v := (0 : Int32)) hx hb dX5_lay_61 (by decide) ?_
      obtain ⟨Y8, eY8⟩ : ∃ z : z_X, z = z_up Y7 16 (z_ss (Y7 16) 0 0 (0 : Int32)) := ⟨_, rfl⟩
      replace hw := hw Y8 eY8
      refine z_puti (C := RX4) (T := TX4) (N := 4) (ref := "GauntletHall$Sightings") (o := 16) (d := 0) (X' := Y8) hx hb hts hfX4 tyX4 tyX4_ok nmX4 hown hK hE hP hS (hC.2 (16, 0) (List.mem_of_getElem? (i := 7) rfl)) z_l_16_0 rfl 0 (by decide) (hts (.fieldLink RX5 89 "GauntletHall$Sightings" "count" "I") (by decide +kernel)) rfl rfl (by decide +kernel) rfl eY8.symm dX5_lay_62 (fun H locs hP hS => ?_)
      refine lv_aload_n hx hb dX5_lay_65 rfl (lv_at hl 0 rfl) ?_
      refine z_getr (C := RX5) (T := TX5) (N := 7) (ref := "GauntletHall") (o := 18) (d := 0) hx hb hts hfX5 hown hK hP (hC.2 (18, 0) (List.mem_of_getElem? (i := 12) rfl)) z_l_18_0 rfl 1 (by decide) (hts (.fieldLink RX5 19 "GauntletHall" "hall" "LGauntletHall$Hall;") (by decide +kernel)) rfl rfl dX5_lay_66 ?_
      refine z_geti (C := RX1) (T := TX1) (N := 13) (ref := "GauntletHall$Hall") (o := 0) (d := 0) hx hb hts hfX1 hown hK hP (hC.1 0 (by decide) (0, 0) (List.mem_of_getElem? (i := 0) rfl)) (z_lH_0 (o := 0) (by decide)) rfl 0 (by decide) (hts (.fieldLink RX5 79 "GauntletHall$Hall" "people" "I") (by decide +kernel)) rfl rfl rfl dX5_lay_69 ?_
      exact z_reti C hP hS hw dX5_lay_72
    · replace hw := hw.2 c4
      refine lv_bipush (v := (-2 : Int32)) hx hb dX5_lay_27 (by decide) ?_
      exact z_reti C hP hS hw dX5_lay_29
set_option maxHeartbeats 4000000 in
set_option maxRecDepth 100000 in
theorem m_X5_lies (l : Launch) {E : z_E} (hE : z_ok E) (hC : z_cls E) (Y : z_X) (x1 : Int32) (K : Int32 → z_X → Prop) (hw : v_X5_lies Y x1 K) : z_CI l E yX5_lies wsX5_lies rX5_lies [.ref (z_a E 18 0), .int x1] Y K := by
  refine z_start (cc := cX5_lies) (maxL := 2) (ret := (some .int)) hE (by decide) rfl (Nat.le_of_ble_eq_true rfl) ?_
  intro p e s m below meth c C hP hS ls hl
  have C : z_Cx p E s m _ meth c cX5_lies 2 wsX5_lies RX5 (some .int) := C
  obtain ⟨hx, hb, hml, hr, hlocks, hown, hts, hK, hE⟩ := id C
  have hl : lv_has ls 2 [(0, .ref (z_a E 18 0)), (1, .int x1)] := hl
  have hfX5 : ∀ w ∈ u_ws RX5 TX5 7, w ∈ wsX5_lies := by decide +kernel
  unfold v_X5_lies at hw
  refine lv_aload_n hx hb dX5_lies_0 rfl (lv_at hl 0 rfl) ?_
  refine z_getr (C := RX5) (T := TX5) (N := 7) (ref := "GauntletHall") (o := 18) (d := 0) hx hb hts hfX5 hown hK hP (hC.2 (18, 0) (List.mem_of_getElem? (i := 12) rfl)) z_l_18_0 rfl 1 (by decide) (hts (.fieldLink RX5 19 "GauntletHall" "hall" "LGauntletHall$Hall;") (by decide +kernel)) rfl rfl dX5_lies_1 ?_
  refine lv_iload_n hx hb dX5_lies_4 rfl (lv_at hl 1 rfl) ?_
  have hPc := z_P_self 0 hP
  refine z_vi (C := RX1) (T := TX1) (N := 13) (o := 0) (rest := []) ⟨hx, hb, hml, hown, hts⟩ (m_X1_isGlove l hE hC 0 (by decide) Y (Y 0) x1 _ hw) (cwV 1 hts gX5_lies_X1_isGlove rfl rfl rfl (by decide +kernel) ⟨Nat.le_of_ble_eq_true rfl, Nat.le_of_ble_eq_true rfl⟩) hK hPc hS (hC.1 0 (by decide) (0, 0) (List.mem_of_getElem? (i := 0) rfl)) (z_lH_0 (o := 0) (by decide)) rfl rfl hl.1 rfl (Nat.le_of_ble_eq_true rfl) dX5_lies_5 ⟨Nat.zero_le _, Nat.zero_le _⟩ (fun r1 u H locs hk hP hS => ?_)
  obtain ⟨eu, hw⟩ := hk
  rw [eu, z_up_self] at hP
  refine lv_if_eq (tgt := 26) hx hb dX5_lies_8 (by decide) (fun c2 => ?_) (fun c2 => ?_)
  · replace hw := hw.1 c2
    refine lv_iconst (v := (-1 : Int32)) hx hb dX5_lies_26 (by decide) ?_
    exact z_reti C hP hS hw dX5_lies_27
  · replace hw := hw.2 c2
    refine lv_aload_n hx hb dX5_lies_11 rfl (lv_at hl 0 rfl) ?_
    refine z_getr (C := RX5) (T := TX5) (N := 7) (ref := "GauntletHall") (o := 18) (d := 0) hx hb hts hfX5 hown hK hP (hC.2 (18, 0) (List.mem_of_getElem? (i := 12) rfl)) z_l_18_0 rfl 6 (by decide) (hts (.fieldLink RX5 48 "GauntletHall" "forecast" "LGauntletHall$Forecast;") (by decide +kernel)) rfl rfl dX5_lies_12 ?_
    refine lv_aload_n hx hb dX5_lies_15 rfl (lv_at hl 0 rfl) ?_
    refine z_getr (C := RX5) (T := TX5) (N := 7) (ref := "GauntletHall") (o := 18) (d := 0) hx hb hts hfX5 hown hK hP (hC.2 (18, 0) (List.mem_of_getElem? (i := 12) rfl)) z_l_18_0 rfl 1 (by decide) (hts (.fieldLink RX5 19 "GauntletHall" "hall" "LGauntletHall$Hall;") (by decide +kernel)) rfl rfl dX5_lies_16 ?_
    refine lv_iload_n hx hb dX5_lies_19 rfl (lv_at hl 1 rfl) ?_
    refine z_vi (C := RX0) (T := TX0) (N := 1) (o := 17) (rest := []) ⟨hx, hb, hml, hown, hts⟩ (m_X0_whenGone l hE hC 0 (by decide) Y x1 _ hw) (cwV 2 hts gX5_lies_X0_whenGone rfl rfl rfl (by decide +kernel) ⟨Nat.le_of_ble_eq_true rfl, Nat.le_of_ble_eq_true rfl⟩) hK hP hS (hC.2 (17, 0) (List.mem_of_getElem? (i := 11) rfl)) z_l_17_0 rfl rfl hl.1 rfl (Nat.le_of_ble_eq_true rfl) dX5_lies_20 ⟨Nat.zero_le _, Nat.zero_le _⟩ (fun r3 Y4 H locs hk hP hS => ?_)
    replace hw := hk
    refine lv_goto (tgt := 27) hx hb dX5_lies_23 (by decide) ?_
    exact z_reti C hP hS hw dX5_lies_27
