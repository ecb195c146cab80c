/-! ===== PRINTED (wip/whole/gen/gen.py): the machine meets each definition: X6.fight, X6.first, X6.isGlove, X6.fits, X6.forget, X6.glove, X6.lowestThat, X6.goDrawn ===== -/
set_option maxHeartbeats 4000000 in
set_option maxRecDepth 100000 in
theorem m_X6_fight (l : Launch) {E : z_E} (hE : z_ok E) (hM : z_mod E) (X : z_X) (h : z_G) (x1 : Int32) (x2 : Int32) (K : Int32 → Prop) (hw : v_X6_fight h x1 x2 K) : z_CI l E yX6_fight wsX6_fight rX6_fight [.ref (z_a E 19 0), .int x1, .int x2] (z_up X 19 h) (fun r X' => X' = (z_up X 19 h) ∧ K r) := by
  refine z_start (cc := cX6_fight) (maxL := 5) (ret := (some .int)) hE (by decide) rfl (Nat.le_of_ble_eq_true rfl) ?_
  intro p e s m below meth c C hP hS ls hl
  have C : z_Cx p E s m _ meth c cX6_fight 5 wsX6_fight RX6 (some .int) := C
  obtain ⟨hx, hb, hml, hr, hlocks, hown, hts, hK, hE⟩ := id C
  have hl : lv_has ls 5 [(0, .ref (z_a E 19 0)), (1, .int x1), (2, .int x2)] := hl
  have hfX6 : ∀ w ∈ u_ws RX6 TX6 15, w ∈ wsX6_fight := by decide +kernel
  unfold v_X6_fight at hw
  refine lv_aload_n hx hb dX6_fight_0 rfl (lv_at hl 0 rfl) ?_
  refine lv_iload_n hx hb dX6_fight_1 rfl (lv_at hl 1 rfl) ?_
  refine z_vi (C := RX6) (T := TX6) (N := 15) (o := 19) (rest := []) ⟨hx, hb, hml, hown, hts⟩ (m_X6_isPerson l hE hM X h x1 _ hw) (cwV 1 hts gX6_fight_X6_isPerson rfl rfl rfl (by decide +kernel) ⟨Nat.le_of_ble_eq_true rfl, Nat.le_of_ble_eq_true rfl⟩) hK hP hS (hM (19, 0) (List.mem_of_getElem? (i := 0) rfl)) z_l_19_0 rfl rfl hl.1 rfl (Nat.le_of_ble_eq_true rfl) dX6_fight_2 ⟨Nat.zero_le _, Nat.zero_le _⟩ (fun r1 u H locs hk hP hS => ?_)
  obtain ⟨eu, hw⟩ := hk
  rw [eu] at hP
  refine lv_if_eq (tgt := 21) hx hb dX6_fight_5 (by decide) (fun c2 => ?_) (fun c2 => ?_)
  · replace hw := hw.1 c2
    refine lv_iconst (v := (-1 : Int32)) hx hb dX6_fight_21 (by decide) ?_
    exact z_reti C hP hS ⟨rfl, hw⟩ dX6_fight_22
  · replace hw := hw.2 c2
    refine lv_aload_n hx hb dX6_fight_8 rfl (lv_at hl 0 rfl) ?_
    refine lv_iload_n hx hb dX6_fight_9 rfl (lv_at hl 2 rfl) ?_
    refine z_vi (C := RX6) (T := TX6) (N := 15) (o := 19) (rest := []) ⟨hx, hb, hml, hown, hts⟩ (m_X6_isPerson l hE hM X h x2 _ hw) (cwV 1 hts gX6_fight_X6_isPerson rfl rfl rfl (by decide +kernel) ⟨Nat.le_of_ble_eq_true rfl, Nat.le_of_ble_eq_true rfl⟩) hK hP hS (hM (19, 0) (List.mem_of_getElem? (i := 0) rfl)) z_l_19_0 rfl rfl hl.1 rfl (Nat.le_of_ble_eq_true rfl) dX6_fight_10 ⟨Nat.zero_le _, Nat.zero_le _⟩ (fun r3 u H locs hk hP hS => ?_)
    obtain ⟨eu, hw⟩ := hk
    rw [eu] at hP
    refine lv_if_eq (tgt := 21) hx hb dX6_fight_13 (by decide) (fun c4 => ?_) (fun c4 => ?_)
    · replace hw := hw.1 c4
      refine lv_iconst (v := (-1 : Int32)) hx hb dX6_fight_21 (by decide) ?_
      exact z_reti C hP hS ⟨rfl, hw⟩ dX6_fight_22
    · replace hw := hw.2 c4
      refine lv_iload_n hx hb dX6_fight_16 rfl (lv_at hl 1 rfl) ?_
      refine lv_iload_n hx hb dX6_fight_17 rfl (lv_at hl 2 rfl) ?_
      refine lv_icmp_ne (tgt := 23) hx hb dX6_fight_18 (by decide) (fun c5 => ?_) (fun c5 => ?_)
      · replace hw := hw.1 c5
        refine lv_aload_n hx hb dX6_fight_23 rfl (lv_at hl 0 rfl) ?_
        refine z_getr (C := RX6) (T := TX6) (N := 15) (ref := "GauntletHallModel") (o := 19) (d := 0) hx hb hts hfX6 hown hK hP (hM (19, 0) (List.mem_of_getElem? (i := 0) rfl)) z_l_19_0 rfl 5 (by decide) (hts (.fieldLink RX6 22 "GauntletHallModel" "now" "[I") (by decide +kernel)) rfl rfl dX6_fight_24 ?_
        refine lv_iconst (v := (4 : Int32)) hx hb dX6_fight_27 (by decide) ?_
        refine lv_iload_n hx hb dX6_fight_28 rfl (lv_at hl 1 rfl) ?_
        refine lv_iadd hx hb dX6_fight_29 ?_
        obtain ⟨i6, hw⟩ := hw
        refine z_iald (o := 19) (d := 5) hx hb hK hP (hM (19, 5) (List.mem_of_getElem? (i := 5) rfl)) z_l_19_5 i6 (z_up_val X 19 h 5 (z_n ((4 : Int32) + x1))) dX6_fight_30 ?_
        refine lv_topi (fun y7 ey7 => ?_)
        replace hw := hw y7 ey7
        refine lv_istore_n (lv' := [(3, .int y7), (0, .ref (z_a E 19 0)), (1, .int x1), (2, .int x2)]) hx hb dX6_fight_31 rfl hl (by decide) rfl (fun ls hl => ?_)
        refine lv_aload_n hx hb dX6_fight_32 rfl (lv_at hl 1 rfl) ?_
        refine z_getr (C := RX6) (T := TX6) (N := 15) (ref := "GauntletHallModel") (o := 19) (d := 0) hx hb hts hfX6 hown hK hP (hM (19, 0) (List.mem_of_getElem? (i := 0) rfl)) z_l_19_0 rfl 5 (by decide) (hts (.fieldLink RX6 22 "GauntletHallModel" "now" "[I") (by decide +kernel)) rfl rfl dX6_fight_33 ?_
        refine lv_iconst (v := (4 : Int32)) hx hb dX6_fight_36 (by decide) ?_
        refine lv_iload_n hx hb dX6_fight_37 rfl (lv_at hl 3 rfl) ?_
        refine lv_iadd hx hb dX6_fight_38 ?_
        obtain ⟨i8, hw⟩ := hw
        refine z_iald (o := 19) (d := 5) hx hb hK hP (hM (19, 5) (List.mem_of_getElem? (i := 5) rfl)) z_l_19_5 i8 (z_up_val X 19 h 5 (z_n ((4 : Int32) + x2))) dX6_fight_39 ?_
        refine lv_topi (fun y9 ey9 => ?_)
        replace hw := hw y9 ey9
        refine lv_istore (lv' := [(4, .int y9), (3, .int y7), (0, .ref (z_a E 19 0)), (1, .int x1), (2, .int x2)]) hx hb dX6_fight_40 hl (by decide) rfl (fun ls hl => ?_)
        refine lv_iload_n hx hb dX6_fight_42 rfl (lv_at hl 1 rfl) ?_
        refine lv_if_eq (tgt := 51) hx hb dX6_fight_43 (by decide) (fun c10 => ?_) (fun c10 => ?_)
        · replace hw := hw.1 c10
          refine lv_bipush (v := (-2 : Int32)) hx hb dX6_fight_51 (by decide) ?_
          refine lv_goto (tgt := 77) hx hb dX6_fight_53 (by decide) ?_
          exact z_reti C hP hS ⟨rfl, hw⟩ dX6_fight_77
        · replace hw := hw.2 c10
          refine lv_iload hx hb dX6_fight_46 (lv_at hl 0 rfl) ?_
          refine lv_if_ne (tgt := 56) hx hb dX6_fight_48 (by decide) (fun c11 => ?_) (fun c11 => ?_)
          · replace hw := hw.1 c11
            refine lv_iload_n hx hb dX6_fight_56 rfl (lv_at hl 1 rfl) ?_
            refine lv_iload hx hb dX6_fight_57 (lv_at hl 0 rfl) ?_
            refine lv_icmp_le (tgt := 66) hx hb dX6_fight_59 (by decide) (fun c12 => ?_) (fun c12 => ?_)
            · replace hw := hw.1 c12
              refine lv_iload_n hx hb dX6_fight_66 rfl (lv_at hl 1 rfl) ?_
              refine lv_iload hx hb dX6_fight_67 (lv_at hl 0 rfl) ?_
              refine lv_icmp_ge (tgt := 76) hx hb dX6_fight_69 (by decide) (fun c13 => ?_) (fun c13 => ?_)
              · replace hw := hw.1 c13
                refine lv_iconst (v := (2 : Int32)) hx hb dX6_fight_76 (by decide) ?_
                exact z_reti C hP hS ⟨rfl, hw⟩ dX6_fight_77
              · replace hw := hw.2 c13
                refine lv_iconst (v := (0 : Int32)) hx hb dX6_fight_72 (by decide) ?_
                refine lv_goto (tgt := 77) hx hb dX6_fight_73 (by decide) ?_
                exact z_reti C hP hS ⟨rfl, hw⟩ dX6_fight_77
            · replace hw := hw.2 c12
              refine lv_iconst (v := (1 : Int32)) hx hb dX6_fight_62 (by decide) ?_
              refine lv_goto (tgt := 77) hx hb dX6_fight_63 (by decide) ?_
              exact z_reti C hP hS ⟨rfl, hw⟩ dX6_fight_77
          · replace hw := hw.2 c11
            refine lv_bipush (v := (-2 : Int32)) hx hb dX6_fight_51 (by decide) ?_
            refine lv_goto (tgt := 77) hx hb dX6_fight_53 (by decide) ?_
            exact z_reti C hP hS ⟨rfl, hw⟩ dX6_fight_77
      · replace hw := hw.2 c5
        refine lv_iconst (v := (-1 : Int32)) hx hb dX6_fight_21 (by decide) ?_
        exact z_reti C hP hS ⟨rfl, hw⟩ dX6_fight_22
set_option maxHeartbeats 4000000 in
set_option maxRecDepth 100000 in
theorem m_X6_first_b81 {p : Program} {l : Launch} {e : Env} {s : State} {m : MethodId} {args : Array Value} {below : List Frame} {meth : Method} {c : Code} {E : z_E} (C : z_Cx p E s m args meth c cX6_first 6 wsX6_first RX6 (some .int)) (hM : z_mod E) (X : z_X) (K : Int32 → z_G → Prop) (L30 : z_G → Int32 → Int32 → Int32 → Int32 → Int32 → Prop) (k30 : ∀ (h : z_G) (x1 : Int32) (x2 : Int32) (x3 : Int32) (x4 : Int32) (x5 : Int32), L30 h x1 x2 x3 x4 x5 → ∀ {H : Heap} {locs : List Loc}, z_P E (z_up X 19 h) H → va_S (z_A E) s.heap H locs → ∀ (ls : Array Slot), lv_has ls 6 [(0, .ref (z_a E 19 0)), (1, .int x1), (2, .int x2), (3, .int x3), (4, .int x4), (5, .int x5)] → W p l e rX6_first s m args below meth c H locs 0 0 (MQ below (va_Qi (fun r X' => ∃ h', X' = z_up X 19 h' ∧ K r h') (fun u t => z_P E u t.heap) (z_A E)) args s 0 0 (z_A E)) (F0 m 30 ls [])) (h : z_G) (x1 : Int32) (x2 : Int32) (x4 : Int32) (x5 : Int32) (t0 : Int32) (hw : v_X6_first_b81 K L30 h x1 x2 x4 x5 t0) {H : Heap} {locs : List Loc} (hP : z_P E (z_up X 19 h) H) (hS : va_S (z_A E) s.heap H locs) {ls : Array Slot} (hl : lv_has ls 6 [(0, .ref (z_a E 19 0)), (1, .int x1), (2, .int x2), (4, .int x4), (5, .int x5)]) : W p l e rX6_first s m args below meth c H locs 0 0 (MQ below (va_Qi (fun r X' => ∃ h', X' = z_up X 19 h' ∧ K r h') (fun u t => z_P E u t.heap) (z_A E)) args s 0 0 (z_A E)) (F0 m 81 ls [.int t0]) := by
  obtain ⟨hx, hb, hml, hr, hlocks, hown, hts, hK, hE⟩ := id C
  have hfX6 : ∀ w ∈ u_ws RX6 TX6 15, w ∈ wsX6_first := by decide +kernel
  unfold v_X6_first_b81 at hw
  refine lv_istore_n (lv' := [(3, .int t0), (0, .ref (z_a E 19 0)), (1, .int x1), (2, .int x2), (4, .int x4), (5, .int x5)]) hx hb dX6_first_81 rfl hl (by decide) rfl (fun ls hl => ?_)
  refine lv_aload_n hx hb dX6_first_82 rfl (lv_at hl 1 rfl) ?_
  refine z_getr (C := RX6) (T := TX6) (N := 15) (ref := "GauntletHallModel") (o := 19) (d := 0) hx hb hts hfX6 hown hK hP (hM (19, 0) (List.mem_of_getElem? (i := 0) rfl)) z_l_19_0 rfl 6 (by decide) (hts (.fieldLink RX6 25 "GauntletHallModel" "side" "[I") (by decide +kernel)) rfl rfl dX6_first_83 ?_
  refine lv_iconst (v := (4 : Int32)) hx hb dX6_first_86 (by decide) ?_
  refine lv_iload_n hx hb dX6_first_87 rfl (lv_at hl 2 rfl) ?_
  refine lv_iadd hx hb dX6_first_88 ?_
  obtain ⟨i15, hw⟩ := hw
  refine z_iald (o := 19) (d := 6) hx hb hK hP (hM (19, 6) (List.mem_of_getElem? (i := 6) rfl)) z_l_19_6 i15 (z_up_val X 19 h 6 (z_n ((4 : Int32) + x1))) dX6_first_89 ?_
  refine lv_iload hx hb dX6_first_90 (lv_at hl 4 rfl) ?_
  refine lv_icmp_le (tgt := 106) hx hb dX6_first_92 (by decide) (fun c16 => ?_) (fun c16 => ?_)
  · replace hw := hw.1 c16
    refine lv_iload hx hb dX6_first_106 (lv_at hl 4 rfl) ?_
    refine lv_istore (lv' := [(4, .int x4), (3, .int t0), (0, .ref (z_a E 19 0)), (1, .int x1), (2, .int x2), (5, .int x5)]) hx hb dX6_first_108 hl (by decide) rfl (fun ls hl => ?_)
    obtain ⟨y17, ey17⟩ : ∃ z : Int32, z = x5 + (1 : Int32) := ⟨_, rfl⟩
    replace hw := hw y17 ey17
    refine lv_iinc (v := y17) (lv' := [(5, .int y17), (4, .int x4), (3, .int t0), (0, .ref (z_a E 19 0)), (1, .int x1), (2, .int x2)]) hx hb dX6_first_110 hl (k := 5) rfl (by rw [ey17]; rfl) (by decide) rfl (fun ls hl => ?_)
    refine lv_goto (tgt := 30) hx hb dX6_first_113 (by decide) ?_
    exact k30 h x1 x2 t0 x4 y17 hw hP hS _ (lv_sub hl [3, 4, 5, 2, 1, 0] rfl)
  · replace hw := hw.2 c16
    refine lv_aload_n hx hb dX6_first_95 rfl (lv_at hl 1 rfl) ?_
    refine z_getr (C := RX6) (T := TX6) (N := 15) (ref := "GauntletHallModel") (o := 19) (d := 0) hx hb hts hfX6 hown hK hP (hM (19, 0) (List.mem_of_getElem? (i := 0) rfl)) z_l_19_0 rfl 6 (by decide) (hts (.fieldLink RX6 25 "GauntletHallModel" "side" "[I") (by decide +kernel)) rfl rfl dX6_first_96 ?_
    refine lv_iconst (v := (4 : Int32)) hx hb dX6_first_99 (by decide) ?_
    refine lv_iload_n hx hb dX6_first_100 rfl (lv_at hl 2 rfl) ?_
    refine lv_iadd hx hb dX6_first_101 ?_
    obtain ⟨i18, hw⟩ := hw
    refine z_iald (o := 19) (d := 6) hx hb hK hP (hM (19, 6) (List.mem_of_getElem? (i := 6) rfl)) z_l_19_6 i18 (z_up_val X 19 h 6 (z_n ((4 : Int32) + x1))) dX6_first_102 ?_
    refine lv_goto (tgt := 108) hx hb dX6_first_103 (by decide) ?_
    refine lv_topi (fun y19 ey19 => ?_)
    replace hw := hw y19 ey19
    refine lv_istore (lv' := [(4, .int y19), (3, .int t0), (0, .ref (z_a E 19 0)), (1, .int x1), (2, .int x2), (5, .int x5)]) hx hb dX6_first_108 hl (by decide) rfl (fun ls hl => ?_)
    obtain ⟨y20, ey20⟩ : ∃ z : Int32, z = x5 + (1 : Int32) := ⟨_, rfl⟩
    replace hw := hw y20 ey20
    refine lv_iinc (v := y20) (lv' := [(5, .int y20), (4, .int y19), (3, .int t0), (0, .ref (z_a E 19 0)), (1, .int x1), (2, .int x2)]) hx hb dX6_first_110 hl (k := 5) rfl (by rw [ey20]; rfl) (by decide) rfl (fun ls hl => ?_)
    refine lv_goto (tgt := 30) hx hb dX6_first_113 (by decide) ?_
    exact k30 h x1 x2 t0 y19 y20 hw hP hS _ (lv_sub hl [3, 4, 5, 2, 1, 0] rfl)
set_option maxHeartbeats 4000000 in
set_option maxRecDepth 100000 in
theorem m_X6_first_b30_s {p : Program} {l : Launch} {e : Env} {s : State} {m : MethodId} {args : Array Value} {below : List Frame} {meth : Method} {c : Code} {E : z_E} (C : z_Cx p E s m args meth c cX6_first 6 wsX6_first RX6 (some .int)) (hM : z_mod E) (X : z_X) (K : Int32 → z_G → Prop) (L30 : z_G → Int32 → Int32 → Int32 → Int32 → Int32 → Prop) (k30 : ∀ (h : z_G) (x1 : Int32) (x2 : Int32) (x3 : Int32) (x4 : Int32) (x5 : Int32), L30 h x1 x2 x3 x4 x5 → ∀ {H : Heap} {locs : List Loc}, z_P E (z_up X 19 h) H → va_S (z_A E) s.heap H locs → ∀ (ls : Array Slot), lv_has ls 6 [(0, .ref (z_a E 19 0)), (1, .int x1), (2, .int x2), (3, .int x3), (4, .int x4), (5, .int x5)] → W p l e rX6_first s m args below meth c H locs 0 0 (MQ below (va_Qi (fun r X' => ∃ h', X' = z_up X 19 h' ∧ K r h') (fun u t => z_P E u t.heap) (z_A E)) args s 0 0 (z_A E)) (F0 m 30 ls [])) (h : z_G) (x1 : Int32) (x2 : Int32) (x3 : Int32) (x4 : Int32) (x5 : Int32) (hw : v_X6_first_b30_s K L30 h x1 x2 x3 x4 x5) {H : Heap} {locs : List Loc} (hP : z_P E (z_up X 19 h) H) (hS : va_S (z_A E) s.heap H locs) {ls : Array Slot} (hl : lv_has ls 6 [(0, .ref (z_a E 19 0)), (1, .int x1), (2, .int x2), (3, .int x3), (4, .int x4), (5, .int x5)]) : W p l e rX6_first s m args below meth c H locs 0 0 (MQ below (va_Qi (fun r X' => ∃ h', X' = z_up X 19 h' ∧ K r h') (fun u t => z_P E u t.heap) (z_A E)) args s 0 0 (z_A E)) (F0 m 30 ls []) := by
  obtain ⟨hx, hb, hml, hr, hlocks, hown, hts, hK, hE⟩ := id C
  have hfX6 : ∀ w ∈ u_ws RX6 TX6 15, w ∈ wsX6_first := by decide +kernel
  unfold v_X6_first_b30_s at hw
  refine lv_iload hx hb dX6_first_30 (lv_at hl 5 rfl) ?_
  refine lv_aload_n hx hb dX6_first_32 rfl (lv_at hl 0 rfl) ?_
  refine z_getr (C := RX6) (T := TX6) (N := 15) (ref := "GauntletHallModel") (o := 19) (d := 0) hx hb hts hfX6 hown hK hP (hM (19, 0) (List.mem_of_getElem? (i := 0) rfl)) z_l_19_0 rfl 5 (by decide) (hts (.fieldLink RX6 22 "GauntletHallModel" "now" "[I") (by decide +kernel)) rfl rfl dX6_first_33 ?_
  refine lv_iconst (v := (2 : Int32)) hx hb dX6_first_36 (by decide) ?_
  obtain ⟨i5, hw⟩ := hw
  refine z_iald (o := 19) (d := 5) hx hb hK hP (hM (19, 5) (List.mem_of_getElem? (i := 5) rfl)) z_l_19_5 i5 (z_up_val X 19 h 5 (z_n (2 : Int32))) dX6_first_37 ?_
  refine lv_icmp_ge (tgt := 116) hx hb dX6_first_38 (by decide) (fun c6 => ?_) (fun c6 => ?_)
  · replace hw := hw.1 c6
    refine lv_iload_n hx hb dX6_first_116 rfl (lv_at hl 2 rfl) ?_
    refine lv_if_ne (tgt := 124) hx hb dX6_first_117 (by decide) (fun c7 => ?_) (fun c7 => ?_)
    · replace hw := hw.1 c7
      refine lv_iload hx hb dX6_first_124 (lv_at hl 4 rfl) ?_
      exact z_reti C hP hS ⟨_, rfl, hw⟩ dX6_first_126
    · replace hw := hw.2 c7
      refine lv_iload_n hx hb dX6_first_120 rfl (lv_at hl 3 rfl) ?_
      refine lv_goto (tgt := 126) hx hb dX6_first_121 (by decide) ?_
      exact z_reti C hP hS ⟨_, rfl, hw⟩ dX6_first_126
  · replace hw := hw.2 c6
    refine lv_aload_n hx hb dX6_first_41 rfl (lv_at hl 0 rfl) ?_
    refine z_vv (C := RX6) (T := TX6) (N := 15) (o := 19) (rest := []) ⟨hx, hb, hml, hown, hts⟩ (m_X6_aside l hE hM X h _ hw) (cwV 0 hts gX6_first_X6_aside rfl rfl rfl (by decide +kernel) ⟨Nat.le_of_ble_eq_true rfl, Nat.le_of_ble_eq_true rfl⟩) hK hP hS (hM (19, 0) (List.mem_of_getElem? (i := 0) rfl)) z_l_19_0 rfl rfl hl.1 rfl (Nat.le_of_ble_eq_true rfl) dX6_first_42 ⟨Nat.zero_le _, Nat.zero_le _⟩ (fun u H locs hk hP hS => ?_)
    obtain ⟨h8, eu, hw⟩ := hk
    rw [eu] at hP
    refine lv_aload_n hx hb dX6_first_45 rfl (lv_at hl 0 rfl) ?_
    refine lv_iload hx hb dX6_first_46 (lv_at hl 5 rfl) ?_
    refine lv_iload_n hx hb dX6_first_48 rfl (lv_at hl 1 rfl) ?_
    refine z_vi (C := RX6) (T := TX6) (N := 15) (o := 19) (rest := []) ⟨hx, hb, hml, hown, hts⟩ (m_X6_isFit l hE hM X h8 x5 x1 _ hw) (cwV 2 hts gX6_first_X6_isFit rfl rfl rfl (by decide +kernel) ⟨Nat.le_of_ble_eq_true rfl, Nat.le_of_ble_eq_true rfl⟩) hK hP hS (hM (19, 0) (List.mem_of_getElem? (i := 0) rfl)) z_l_19_0 rfl rfl hl.1 rfl (Nat.le_of_ble_eq_true rfl) dX6_first_49 ⟨Nat.zero_le _, Nat.zero_le _⟩ (fun r9 u H locs hk hP hS => ?_)
    obtain ⟨eu, hw⟩ := hk
    rw [eu] at hP
    refine lv_if_eq (tgt := 110) hx hb dX6_first_52 (by decide) (fun c10 => ?_) (fun c10 => ?_)
    · replace hw := hw.1 c10
      obtain ⟨y11, ey11⟩ : ∃ z : Int32, z = x5 + (1 : Int32) := ⟨_, rfl⟩
      replace hw := hw y11 ey11
      refine lv_iinc (v := y11) (lv' := [(5, .int y11), (0, .ref (z_a E 19 0)), (1, .int x1), (2, .int x2), (3, .int x3), (4, .int x4)]) hx hb dX6_first_110 hl (k := 5) rfl (by rw [ey11]; rfl) (by decide) rfl (fun ls hl => ?_)
      refine lv_goto (tgt := 30) hx hb dX6_first_113 (by decide) ?_
      exact k30 h8 x1 x2 x3 x4 y11 hw hP hS _ (lv_sub hl [1, 2, 3, 4, 5, 0] rfl)
    · replace hw := hw.2 c10
      refine lv_aload_n hx hb dX6_first_55 rfl (lv_at hl 0 rfl) ?_
      refine lv_iload_n hx hb dX6_first_56 rfl (lv_at hl 1 rfl) ?_
      refine lv_iload hx hb dX6_first_57 (lv_at hl 5 rfl) ?_
      refine z_vv (C := RX6) (T := TX6) (N := 15) (o := 19) (rest := []) ⟨hx, hb, hml, hown, hts⟩ (m_X6_goWear l hE hM X h8 x1 x5 _ hw) (cwV 2 hts gX6_first_X6_goWear rfl rfl rfl (by decide +kernel) ⟨Nat.le_of_ble_eq_true rfl, Nat.le_of_ble_eq_true rfl⟩) hK hP hS (hM (19, 0) (List.mem_of_getElem? (i := 0) rfl)) z_l_19_0 rfl rfl hl.1 rfl (Nat.le_of_ble_eq_true rfl) dX6_first_59 ⟨Nat.zero_le _, Nat.zero_le _⟩ (fun u H locs hk hP hS => ?_)
      obtain ⟨h12, eu, hw⟩ := hk
      rw [eu] at hP
      refine lv_aload_n hx hb dX6_first_62 rfl (lv_at hl 0 rfl) ?_
      refine z_getr (C := RX6) (T := TX6) (N := 15) (ref := "GauntletHallModel") (o := 19) (d := 0) hx hb hts hfX6 hown hK hP (hM (19, 0) (List.mem_of_getElem? (i := 0) rfl)) z_l_19_0 rfl 6 (by decide) (hts (.fieldLink RX6 25 "GauntletHallModel" "side" "[I") (by decide +kernel)) rfl rfl dX6_first_63 ?_
      refine lv_iconst (v := (4 : Int32)) hx hb dX6_first_66 (by decide) ?_
      refine lv_iload_n hx hb dX6_first_67 rfl (lv_at hl 1 rfl) ?_
      refine lv_iadd hx hb dX6_first_68 ?_
      obtain ⟨i13, hw⟩ := hw
      refine z_iald (o := 19) (d := 6) hx hb hK hP (hM (19, 6) (List.mem_of_getElem? (i := 6) rfl)) z_l_19_6 i13 (z_up_val X 19 h12 6 (z_n ((4 : Int32) + x1))) dX6_first_69 ?_
      refine lv_iload hx hb dX6_first_70 (lv_at hl 4 rfl) ?_
      refine lv_icmp_le (tgt := 80) hx hb dX6_first_72 (by decide) (fun c14 => ?_) (fun c14 => ?_)
      · replace hw := hw.1 c14
        refine lv_iload_n hx hb dX6_first_80 rfl (lv_at hl 3 rfl) ?_
        exact m_X6_first_b81 C hM X K L30 k30 h12 x1 x2 x4 x5 x3 hw hP hS (lv_sub hl [0, 1, 2, 4, 5] rfl)
      · replace hw := hw.2 c14
        refine lv_iload hx hb dX6_first_75 (lv_at hl 5 rfl) ?_
        refine lv_goto (tgt := 81) hx hb dX6_first_77 (by decide) ?_
        exact m_X6_first_b81 C hM X K L30 k30 h12 x1 x2 x4 x5 x5 hw hP hS (lv_sub hl [0, 1, 2, 4, 5] rfl)
theorem m_X6_first_b30 {p : Program} {l : Launch} {e : Env} {s : State} {m : MethodId} {args : Array Value} {below : List Frame} {meth : Method} {c : Code} {E : z_E} (C : z_Cx p E s m args meth c cX6_first 6 wsX6_first RX6 (some .int)) (hM : z_mod E) (X : z_X) (K : Int32 → z_G → Prop) (h : z_G) (x1 : Int32) (x2 : Int32) (x3 : Int32) (x4 : Int32) (x5 : Int32) (hw : v_X6_first_b30 K h x1 x2 x3 x4 x5) {H : Heap} {locs : List Loc} (hP : z_P E (z_up X 19 h) H) (hS : va_S (z_A E) s.heap H locs) {ls : Array Slot} (hl : lv_has ls 6 [(0, .ref (z_a E 19 0)), (1, .int x1), (2, .int x2), (3, .int x3), (4, .int x4), (5, .int x5)]) : W p l e rX6_first s m args below meth c H locs 0 0 (MQ below (va_Qi (fun r X' => ∃ h', X' = z_up X 19 h' ∧ K r h') (fun u t => z_P E u t.heap) (z_A E)) args s 0 0 (z_A E)) (F0 m 30 ls []) := by
  obtain ⟨n, hw⟩ := hw
  revert hw hP hS hl
  revert h x1 x2 x3 x4 x5 H locs ls
  induction n with
  | zero => intro h x1 x2 x3 x4 x5 H locs ls hP hS hl hw; exact hw.elim
  | succ n ih =>
    intro h x1 x2 x3 x4 x5 H locs ls hP hS hl hw
    exact m_X6_first_b30_s C hM X K (fun h x1 x2 x3 x4 x5 => z_fp (σ := z_G × Int32 × Int32 × Int32 × Int32 × Int32) (fun Lp q => v_X6_first_b30_s K (fun h x1 x2 x3 x4 x5 => Lp (h, x1, x2, x3, x4, x5)) q.1 q.2.1 q.2.2.1 q.2.2.2.1 q.2.2.2.2.1 q.2.2.2.2.2) n (h, x1, x2, x3, x4, x5)) (fun h x1 x2 x3 x4 x5 h9 H locs hP hS ls hl => ih h x1 x2 x3 x4 x5 hP hS hl h9) h x1 x2 x3 x4 x5 hw hP hS hl
set_option maxHeartbeats 4000000 in
set_option maxRecDepth 100000 in
theorem m_X6_first (l : Launch) {E : z_E} (hE : z_ok E) (hM : z_mod E) (X : z_X) (h : z_G) (x1 : Int32) (x2 : Int32) (K : Int32 → z_G → Prop) (hw : v_X6_first h x1 x2 K) : z_CI l E yX6_first wsX6_first rX6_first [.ref (z_a E 19 0), .int x1, .int x2] (z_up X 19 h) (fun r X' => ∃ h', X' = z_up X 19 h' ∧ K r h') := by
  refine z_start (cc := cX6_first) (maxL := 6) (ret := (some .int)) hE (by decide) rfl (Nat.le_of_ble_eq_true rfl) ?_
  intro p e s m below meth c C hP hS ls hl
  have C : z_Cx p E s m _ meth c cX6_first 6 wsX6_first RX6 (some .int) := C
  obtain ⟨hx, hb, hml, hr, hlocks, hown, hts, hK, hE⟩ := id C
  have hl : lv_has ls 6 [(0, .ref (z_a E 19 0)), (1, .int x1), (2, .int x2)] := hl
  have hfX6 : ∀ w ∈ u_ws RX6 TX6 15, w ∈ wsX6_first := by decide +kernel
  unfold v_X6_first at hw
  refine lv_aload_n hx hb dX6_first_0 rfl (lv_at hl 0 rfl) ?_
  refine lv_iload_n hx hb dX6_first_1 rfl (lv_at hl 1 rfl) ?_
  refine z_vi (C := RX6) (T := TX6) (N := 15) (o := 19) (rest := []) ⟨hx, hb, hml, hown, hts⟩ (m_X6_isPerson l hE hM X h x1 _ hw) (cwV 1 hts gX6_first_X6_isPerson rfl rfl rfl (by decide +kernel) ⟨Nat.le_of_ble_eq_true rfl, Nat.le_of_ble_eq_true rfl⟩) hK hP hS (hM (19, 0) (List.mem_of_getElem? (i := 0) rfl)) z_l_19_0 rfl rfl hl.1 rfl (Nat.le_of_ble_eq_true rfl) dX6_first_2 ⟨Nat.zero_le _, Nat.zero_le _⟩ (fun r1 u H locs hk hP hS => ?_)
  obtain ⟨eu, hw⟩ := hk
  rw [eu] at hP
  refine lv_if_eq (tgt := 18) hx hb dX6_first_5 (by decide) (fun c2 => ?_) (fun c2 => ?_)
  · replace hw := hw.1 c2
    refine lv_iconst (v := (-1 : Int32)) hx hb dX6_first_18 (by decide) ?_
    exact z_reti C hP hS ⟨_, rfl, hw⟩ dX6_first_19
  · replace hw := hw.2 c2
    refine lv_iload_n hx hb dX6_first_8 rfl (lv_at hl 2 rfl) ?_
    refine lv_i2l hx hb dX6_first_9 rfl ?_
    refine lv_lconst (v := (0 : Int64)) hx hb dX6_first_10 (by decide) ?_
    refine lv_lconst (v := (1 : Int64)) hx hb dX6_first_11 (by decide) ?_
    refine z_si (rest := []) ⟨hx, hb, hml, hown, hts⟩ (m_X6_in l hE (z_up X 19 h) (Int32.toInt64 x2) (0 : Int64) (1 : Int64) _ hw) (va_cwS 3 hts gX6_first_X6_in rfl rfl rfl (by decide +kernel) ⟨Nat.le_of_ble_eq_true rfl, Nat.le_of_ble_eq_true rfl⟩) hK hP hS rfl hl.1 rfl (Nat.le_of_ble_eq_true rfl) dX6_first_12 ⟨Nat.zero_le _, Nat.zero_le _⟩ (fun r3 u H locs hk hP hS => ?_)
    obtain ⟨eu, hw⟩ := hk
    rw [eu] at hP
    refine lv_if_ne (tgt := 20) hx hb dX6_first_15 (by decide) (fun c4 => ?_) (fun c4 => ?_)
    · replace hw := hw.1 c4
      refine lv_bipush (v := (-4 : Int32)) hx hb dX6_first_20 (by decide) ?_
      refine lv_istore_n (lv' := [(3, .int (-4 : Int32)), (0, .ref (z_a E 19 0)), (1, .int x1), (2, .int x2)]) hx hb dX6_first_22 rfl hl (by decide) rfl (fun ls hl => ?_)
      refine lv_bipush (v := (-4 : Int32)) hx hb dX6_first_23 (by decide) ?_
      refine lv_istore (lv' := [(4, .int (-4 : Int32)), (3, .int (-4 : Int32)), (0, .ref (z_a E 19 0)), (1, .int x1), (2, .int x2)]) hx hb dX6_first_25 hl (by decide) rfl (fun ls hl => ?_)
      refine lv_iconst (v := (0 : Int32)) hx hb dX6_first_27 (by decide) ?_
      refine lv_istore (lv' := [(5, .int (0 : Int32)), (4, .int (-4 : Int32)), (3, .int (-4 : Int32)), (0, .ref (z_a E 19 0)), (1, .int x1), (2, .int x2)]) hx hb dX6_first_28 hl (by decide) rfl (fun ls hl => ?_)
      exact m_X6_first_b30 C hM X K h x1 x2 (-4 : Int32) (-4 : Int32) (0 : Int32) hw hP hS (lv_sub hl [3, 4, 5, 2, 1, 0] rfl)
    · replace hw := hw.2 c4
      refine lv_iconst (v := (-1 : Int32)) hx hb dX6_first_18 (by decide) ?_
      exact z_reti C hP hS ⟨_, rfl, hw⟩ dX6_first_19
set_option maxHeartbeats 4000000 in
set_option maxRecDepth 100000 in
theorem m_X6_isGlove (l : Launch) {E : z_E} (hE : z_ok E) (hM : z_mod E) (X : z_X) (h : z_G) (x1 : Int32) (K : Int32 → Prop) (hw : v_X6_isGlove h x1 K) : z_CI l E yX6_isGlove wsX6_isGlove rX6_isGlove [.ref (z_a E 19 0), .int x1] (z_up X 19 h) (fun r X' => X' = (z_up X 19 h) ∧ K r) := by
  refine z_start (cc := cX6_isGlove) (maxL := 2) (ret := (some .boolean)) hE (by decide) rfl (Nat.le_of_ble_eq_true rfl) ?_
  intro p e s m below meth c C hP hS ls hl
  have C : z_Cx p E s m _ meth c cX6_isGlove 2 wsX6_isGlove RX6 (some .boolean) := C
  obtain ⟨hx, hb, hml, hr, hlocks, hown, hts, hK, hE⟩ := id C
  have hl : lv_has ls 2 [(0, .ref (z_a E 19 0)), (1, .int x1)] := hl
  have hfX6 : ∀ w ∈ u_ws RX6 TX6 15, w ∈ wsX6_isGlove := by decide +kernel
  unfold v_X6_isGlove at hw
  refine lv_iload_n hx hb dX6_isGlove_0 rfl (lv_at hl 1 rfl) ?_
  refine lv_i2l hx hb dX6_isGlove_1 rfl ?_
  refine lv_lconst (v := (0 : Int64)) hx hb dX6_isGlove_2 (by decide) ?_
  refine lv_aload_n hx hb dX6_isGlove_3 rfl (lv_at hl 0 rfl) ?_
  refine z_getr (C := RX6) (T := TX6) (N := 15) (ref := "GauntletHallModel") (o := 19) (d := 0) hx hb hts hfX6 hown hK hP (hM (19, 0) (List.mem_of_getElem? (i := 0) rfl)) z_l_19_0 rfl 5 (by decide) (hts (.fieldLink RX6 22 "GauntletHallModel" "now" "[I") (by decide +kernel)) rfl rfl dX6_isGlove_4 ?_
  refine lv_iconst (v := (2 : Int32)) hx hb dX6_isGlove_7 (by decide) ?_
  obtain ⟨i1, hw⟩ := hw
  refine z_iald (o := 19) (d := 5) hx hb hK hP (hM (19, 5) (List.mem_of_getElem? (i := 5) rfl)) z_l_19_5 i1 (z_up_val X 19 h 5 (z_n (2 : Int32))) dX6_isGlove_8 ?_
  refine lv_iconst (v := (1 : Int32)) hx hb dX6_isGlove_9 (by decide) ?_
  refine lv_isub hx hb dX6_isGlove_10 ?_
  refine lv_i2l hx hb dX6_isGlove_11 rfl ?_
  refine z_si (rest := []) ⟨hx, hb, hml, hown, hts⟩ (m_X6_in l hE (z_up X 19 h) (Int32.toInt64 x1) (0 : Int64) (Int32.toInt64 ((h 5 (z_n (2 : Int32))) - (1 : Int32))) _ hw) (va_cwS 3 hts gX6_isGlove_X6_in rfl rfl rfl (by decide +kernel) ⟨Nat.le_of_ble_eq_true rfl, Nat.le_of_ble_eq_true rfl⟩) hK hP hS rfl hl.1 rfl (Nat.le_of_ble_eq_true rfl) dX6_isGlove_12 ⟨Nat.zero_le _, Nat.zero_le _⟩ (fun r2 u H locs hk hP hS => ?_)
  obtain ⟨eu, hw⟩ := hk
  rw [eu] at hP
  obtain ⟨hz, hw⟩ := hw
  exact z_retz C hz hP hS ⟨rfl, hw⟩ dX6_isGlove_15
set_option maxHeartbeats 4000000 in
set_option maxRecDepth 100000 in
theorem m_X6_fits (l : Launch) {E : z_E} (hE : z_ok E) (hM : z_mod E) (X : z_X) (h : z_G) (x1 : Int32) (x2 : Int32) (K : Int32 → z_G → Prop) (hw : v_X6_fits h x1 x2 K) : z_CI l E yX6_fits wsX6_fits rX6_fits [.ref (z_a E 19 0), .int x1, .int x2] (z_up X 19 h) (fun r X' => ∃ h', X' = z_up X 19 h' ∧ K r h') := by
  refine z_start (cc := cX6_fits) (maxL := 3) (ret := (some .int)) hE (by decide) rfl (Nat.le_of_ble_eq_true rfl) ?_
  intro p e s m below meth c C hP hS ls hl
  have C : z_Cx p E s m _ meth c cX6_fits 3 wsX6_fits RX6 (some .int) := C
  obtain ⟨hx, hb, hml, hr, hlocks, hown, hts, hK, hE⟩ := id C
  have hl : lv_has ls 3 [(0, .ref (z_a E 19 0)), (1, .int x1), (2, .int x2)] := hl
  unfold v_X6_fits at hw
  refine lv_aload_n hx hb dX6_fits_0 rfl (lv_at hl 0 rfl) ?_
  refine lv_iload_n hx hb dX6_fits_1 rfl (lv_at hl 1 rfl) ?_
  refine z_vi (C := RX6) (T := TX6) (N := 15) (o := 19) (rest := []) ⟨hx, hb, hml, hown, hts⟩ (m_X6_isGlove l hE hM X h x1 _ hw) (cwV 1 hts gX6_fits_X6_isGlove rfl rfl rfl (by decide +kernel) ⟨Nat.le_of_ble_eq_true rfl, Nat.le_of_ble_eq_true rfl⟩) hK hP hS (hM (19, 0) (List.mem_of_getElem? (i := 0) rfl)) z_l_19_0 rfl rfl hl.1 rfl (Nat.le_of_ble_eq_true rfl) dX6_fits_2 ⟨Nat.zero_le _, Nat.zero_le _⟩ (fun r1 u H locs hk hP hS => ?_)
  obtain ⟨eu, hw⟩ := hk
  rw [eu] at hP
  refine lv_if_eq (tgt := 16) hx hb dX6_fits_5 (by decide) (fun c2 => ?_) (fun c2 => ?_)
  · replace hw := hw.1 c2
    refine lv_iconst (v := (-1 : Int32)) hx hb dX6_fits_16 (by decide) ?_
    exact z_reti C hP hS ⟨_, rfl, hw⟩ dX6_fits_17
  · replace hw := hw.2 c2
    refine lv_aload_n hx hb dX6_fits_8 rfl (lv_at hl 0 rfl) ?_
    refine lv_iload_n hx hb dX6_fits_9 rfl (lv_at hl 2 rfl) ?_
    refine z_vi (C := RX6) (T := TX6) (N := 15) (o := 19) (rest := []) ⟨hx, hb, hml, hown, hts⟩ (m_X6_isPerson l hE hM X h x2 _ hw) (cwV 1 hts gX6_fits_X6_isPerson rfl rfl rfl (by decide +kernel) ⟨Nat.le_of_ble_eq_true rfl, Nat.le_of_ble_eq_true rfl⟩) hK hP hS (hM (19, 0) (List.mem_of_getElem? (i := 0) rfl)) z_l_19_0 rfl rfl hl.1 rfl (Nat.le_of_ble_eq_true rfl) dX6_fits_10 ⟨Nat.zero_le _, Nat.zero_le _⟩ (fun r3 u H locs hk hP hS => ?_)
    obtain ⟨eu, hw⟩ := hk
    rw [eu] at hP
    refine lv_if_ne (tgt := 18) hx hb dX6_fits_13 (by decide) (fun c4 => ?_) (fun c4 => ?_)
    · replace hw := hw.1 c4
      refine lv_aload_n hx hb dX6_fits_18 rfl (lv_at hl 0 rfl) ?_
      refine z_vv (C := RX6) (T := TX6) (N := 15) (o := 19) (rest := []) ⟨hx, hb, hml, hown, hts⟩ (m_X6_aside l hE hM X h _ hw) (cwV 0 hts gX6_fits_X6_aside rfl rfl rfl (by decide +kernel) ⟨Nat.le_of_ble_eq_true rfl, Nat.le_of_ble_eq_true rfl⟩) hK hP hS (hM (19, 0) (List.mem_of_getElem? (i := 0) rfl)) z_l_19_0 rfl rfl hl.1 rfl (Nat.le_of_ble_eq_true rfl) dX6_fits_19 ⟨Nat.zero_le _, Nat.zero_le _⟩ (fun u H locs hk hP hS => ?_)
      obtain ⟨h5, eu, hw⟩ := hk
      rw [eu] at hP
      refine lv_aload_n hx hb dX6_fits_22 rfl (lv_at hl 0 rfl) ?_
      refine lv_iload_n hx hb dX6_fits_23 rfl (lv_at hl 1 rfl) ?_
      refine lv_iload_n hx hb dX6_fits_24 rfl (lv_at hl 2 rfl) ?_
      refine z_vi (C := RX6) (T := TX6) (N := 15) (o := 19) (rest := []) ⟨hx, hb, hml, hown, hts⟩ (m_X6_isFit l hE hM X h5 x1 x2 _ hw) (cwV 2 hts gX6_fits_X6_isFit rfl rfl rfl (by decide +kernel) ⟨Nat.le_of_ble_eq_true rfl, Nat.le_of_ble_eq_true rfl⟩) hK hP hS (hM (19, 0) (List.mem_of_getElem? (i := 0) rfl)) z_l_19_0 rfl rfl hl.1 rfl (Nat.le_of_ble_eq_true rfl) dX6_fits_25 ⟨Nat.zero_le _, Nat.zero_le _⟩ (fun r6 u H locs hk hP hS => ?_)
      obtain ⟨eu, hw⟩ := hk
      rw [eu] at hP
      refine lv_if_eq (tgt := 35) hx hb dX6_fits_28 (by decide) (fun c7 => ?_) (fun c7 => ?_)
      · replace hw := hw.1 c7
        refine lv_iconst (v := (0 : Int32)) hx hb dX6_fits_35 (by decide) ?_
        exact z_reti C hP hS ⟨_, rfl, hw⟩ dX6_fits_36
      · replace hw := hw.2 c7
        refine lv_iconst (v := (1 : Int32)) hx hb dX6_fits_31 (by decide) ?_
        refine lv_goto (tgt := 36) hx hb dX6_fits_32 (by decide) ?_
        exact z_reti C hP hS ⟨_, rfl, hw⟩ dX6_fits_36
    · replace hw := hw.2 c4
      refine lv_iconst (v := (-1 : Int32)) hx hb dX6_fits_16 (by decide) ?_
      exact z_reti C hP hS ⟨_, rfl, hw⟩ dX6_fits_17
set_option maxHeartbeats 4000000 in
set_option maxRecDepth 100000 in
theorem m_X6_forget (l : Launch) {E : z_E} (hE : z_ok E) (hM : z_mod E) (X : z_X) (h : z_G) (K : Int32 → z_G → Prop) (hw : v_X6_forget h K) : z_CI l E yX6_forget wsX6_forget rX6_forget [.ref (z_a E 19 0)] (z_up X 19 h) (fun r X' => ∃ h', X' = z_up X 19 h' ∧ K r h') := by
  refine z_start (cc := cX6_forget) (maxL := 2) (ret := (some .int)) hE (by decide) rfl (Nat.le_of_ble_eq_true rfl) ?_
  intro p e s m below meth c C hP hS ls hl
  have C : z_Cx p E s m _ meth c cX6_forget 2 wsX6_forget RX6 (some .int) := C
  obtain ⟨hx, hb, hml, hr, hlocks, hown, hts, hK, hE⟩ := id C
  have hl : lv_has ls 2 [(0, .ref (z_a E 19 0))] := hl
  have hfX6 : ∀ w ∈ u_ws RX6 TX6 15, w ∈ wsX6_forget := by decide +kernel
  unfold v_X6_forget at hw
  refine lv_aload_n hx hb dX6_forget_0 rfl (lv_at hl 0 rfl) ?_
  refine z_geti (C := RX6) (T := TX6) (N := 15) (ref := "GauntletHallModel") (o := 19) (d := 0) hx hb hts hfX6 hown hK hP (hM (19, 0) (List.mem_of_getElem? (i := 0) rfl)) z_l_19_0 rfl 12 (by decide) (hts (.fieldLink RX6 93 "GauntletHallModel" "seenMany" "I") (by decide +kernel)) rfl rfl (z_up_val X 19 h 0 12) dX6_forget_1 ?_
  refine lv_topi (fun y1 ey1 => ?_)
  replace hw := hw y1 ey1
  refine lv_istore_n (lv' := [(1, .int y1), (0, .ref (z_a E 19 0))]) hx hb dX6_forget_4 rfl hl (by decide) rfl (fun ls hl => ?_)
  refine lv_aload_n hx hb dX6_forget_5 rfl (lv_at hl 1 rfl) ?_
  refine lv_iconst (v := (0 : Int32)) hx hb dX6_forget_6 (by decide) ?_
  obtain ⟨h2, eh2⟩ : ∃ z : z_G, z = z_ss h 0 12 (0 : Int32) := ⟨_, rfl⟩
  replace hw := hw h2 eh2
  refine z_puti (C := RX6) (T := TX6) (N := 15) (ref := "GauntletHallModel") (o := 19) (d := 0) (X' := z_up X 19 h2) hx hb hts hfX6 tyX6 tyX6_ok nmX6 hown hK hE hP hS (hM (19, 0) (List.mem_of_getElem? (i := 0) rfl)) z_l_19_0 rfl 12 (by decide) (hts (.fieldLink RX6 93 "GauntletHallModel" "seenMany" "I") (by decide +kernel)) rfl rfl (by decide +kernel) rfl (by rw [eh2]; exact z_up_put X 19 h 0 12 _) dX6_forget_7 (fun H locs hP hS => ?_)
  refine lv_iload_n hx hb dX6_forget_10 rfl (lv_at hl 0 rfl) ?_
  exact z_reti C hP hS ⟨_, rfl, hw⟩ dX6_forget_11
set_option maxHeartbeats 4000000 in
set_option maxRecDepth 100000 in
theorem m_X6_glove_b99 {p : Program} {l : Launch} {e : Env} {s : State} {m : MethodId} {args : Array Value} {below : List Frame} {meth : Method} {c : Code} {E : z_E} (C : z_Cx p E s m args meth c cX6_glove 4 wsX6_glove RX6 (some .int)) (hM : z_mod E) (X : z_X) (h : z_G) (K : Int32 → Prop) (t0 : Int32) (t1 : Int32) (hw : v_X6_glove_b99 h K t0 t1) {H : Heap} {locs : List Loc} (hP : z_P E (z_up X 19 h) H) (hS : va_S (z_A E) s.heap H locs) {ls : Array Slot} (hl : lv_has ls 4 []) : W p l e rX6_glove s m args below meth c H locs 0 0 (MQ below (va_Qi (fun r X' => X' = (z_up X 19 h) ∧ K r) (fun u t => z_P E u t.heap) (z_A E)) args s 0 0 (z_A E)) (F0 m 99 ls [.int t1, .int t0]) := by
  obtain ⟨hx, hb, hml, hr, hlocks, hown, hts, hK, hE⟩ := id C
  have hfX6 : ∀ w ∈ u_ws RX6 TX6 15, w ∈ wsX6_glove := by decide +kernel
  unfold v_X6_glove_b99 at hw
  refine lv_isub hx hb dX6_glove_99 ?_
  refine lv_topi (fun y11 ey11 => ?_)
  replace hw := hw y11 ey11
  refine lv_istore_n (lv' := [(3, .int y11)]) hx hb dX6_glove_100 rfl hl (by decide) rfl (fun ls hl => ?_)
  refine lv_iload_n hx hb dX6_glove_101 rfl (lv_at hl 0 rfl) ?_
  refine lv_if_ge (tgt := 109) hx hb dX6_glove_102 (by decide) (fun c12 => ?_) (fun c12 => ?_)
  · replace hw := hw.1 c12
    refine lv_iload_n hx hb dX6_glove_109 rfl (lv_at hl 0 rfl) ?_
    exact z_reti C hP hS ⟨rfl, hw⟩ dX6_glove_110
  · replace hw := hw.2 c12
    refine lv_iconst (v := (0 : Int32)) hx hb dX6_glove_105 (by decide) ?_
    refine lv_goto (tgt := 110) hx hb dX6_glove_106 (by decide) ?_
    exact z_reti C hP hS ⟨rfl, hw⟩ dX6_glove_110
set_option maxHeartbeats 4000000 in
set_option maxRecDepth 100000 in
theorem m_X6_glove (l : Launch) {E : z_E} (hE : z_ok E) (hM : z_mod E) (X : z_X) (h : z_G) (x1 : Int32) (x2 : Int32) (K : Int32 → Prop) (hw : v_X6_glove h x1 x2 K) : z_CI l E yX6_glove wsX6_glove rX6_glove [.ref (z_a E 19 0), .int x1, .int x2] (z_up X 19 h) (fun r X' => X' = (z_up X 19 h) ∧ K r) := by
  refine z_start (cc := cX6_glove) (maxL := 4) (ret := (some .int)) hE (by decide) rfl (Nat.le_of_ble_eq_true rfl) ?_
  intro p e s m below meth c C hP hS ls hl
  have C : z_Cx p E s m _ meth c cX6_glove 4 wsX6_glove RX6 (some .int) := C
  obtain ⟨hx, hb, hml, hr, hlocks, hown, hts, hK, hE⟩ := id C
  have hl : lv_has ls 4 [(0, .ref (z_a E 19 0)), (1, .int x1), (2, .int x2)] := hl
  have hfX6 : ∀ w ∈ u_ws RX6 TX6 15, w ∈ wsX6_glove := by decide +kernel
  unfold v_X6_glove at hw
  refine lv_aload_n hx hb dX6_glove_0 rfl (lv_at hl 0 rfl) ?_
  refine lv_iload_n hx hb dX6_glove_1 rfl (lv_at hl 1 rfl) ?_
  refine z_vi (C := RX6) (T := TX6) (N := 15) (o := 19) (rest := []) ⟨hx, hb, hml, hown, hts⟩ (m_X6_isGlove l hE hM X h x1 _ hw) (cwV 1 hts gX6_glove_X6_isGlove rfl rfl rfl (by decide +kernel) ⟨Nat.le_of_ble_eq_true rfl, Nat.le_of_ble_eq_true rfl⟩) hK hP hS (hM (19, 0) (List.mem_of_getElem? (i := 0) rfl)) z_l_19_0 rfl rfl hl.1 rfl (Nat.le_of_ble_eq_true rfl) dX6_glove_2 ⟨Nat.zero_le _, Nat.zero_le _⟩ (fun r1 u H locs hk hP hS => ?_)
  obtain ⟨eu, hw⟩ := hk
  rw [eu] at hP
  refine lv_if_eq (tgt := 20) hx hb dX6_glove_5 (by decide) (fun c2 => ?_) (fun c2 => ?_)
  · replace hw := hw.1 c2
    refine lv_iconst (v := (-1 : Int32)) hx hb dX6_glove_20 (by decide) ?_
    exact z_reti C hP hS ⟨rfl, hw⟩ dX6_glove_21
  · replace hw := hw.2 c2
    refine lv_iload_n hx hb dX6_glove_8 rfl (lv_at hl 2 rfl) ?_
    refine lv_i2l hx hb dX6_glove_9 rfl ?_
    refine lv_lconst (v := (0 : Int64)) hx hb dX6_glove_10 (by decide) ?_
    refine lv_ldc2 hx hb hown (hts (.constantLong RX6 134 (4)) (by decide +kernel)) dX6_glove_11 ?_
    refine z_si (rest := []) ⟨hx, hb, hml, hown, hts⟩ (m_X6_in l hE (z_up X 19 h) (Int32.toInt64 x2) (0 : Int64) (4 : Int64) _ hw) (va_cwS 3 hts gX6_glove_X6_in rfl rfl rfl (by decide +kernel) ⟨Nat.le_of_ble_eq_true rfl, Nat.le_of_ble_eq_true rfl⟩) hK hP hS rfl hl.1 rfl (Nat.le_of_ble_eq_true rfl) dX6_glove_14 ⟨Nat.zero_le _, Nat.zero_le _⟩ (fun r3 u H locs hk hP hS => ?_)
    obtain ⟨eu, hw⟩ := hk
    rw [eu] at hP
    refine lv_if_ne (tgt := 22) hx hb dX6_glove_17 (by decide) (fun c4 => ?_) (fun c4 => ?_)
    · replace hw := hw.1 c4
      refine lv_iload_n hx hb dX6_glove_22 rfl (lv_at hl 2 rfl) ?_
      by_cases c5 : x2 = (0 : Int32)
      · replace hw := hw.1 c5
        refine lv_tableIn (x := x2) (off := 29) (tgt := 52) hx hb dX6_glove_23 (by rw [c5]; decide) (by rw [c5]; decide) (by rw [c5]; rfl) (by decide) ?_
        refine lv_aload_n hx hb dX6_glove_52 rfl (lv_at hl 0 rfl) ?_
        refine z_getr (C := RX6) (T := TX6) (N := 15) (ref := "GauntletHallModel") (o := 19) (d := 0) hx hb hts hfX6 hown hK hP (hM (19, 0) (List.mem_of_getElem? (i := 0) rfl)) z_l_19_0 rfl 5 (by decide) (hts (.fieldLink RX6 22 "GauntletHallModel" "now" "[I") (by decide +kernel)) rfl rfl dX6_glove_53 ?_
        refine lv_bipush (v := (10 : Int32)) hx hb dX6_glove_56 (by decide) ?_
        refine lv_iload_n hx hb dX6_glove_58 rfl (lv_at hl 1 rfl) ?_
        refine lv_iadd hx hb dX6_glove_59 ?_
        obtain ⟨i6, hw⟩ := hw
        refine z_iald (o := 19) (d := 5) hx hb hK hP (hM (19, 5) (List.mem_of_getElem? (i := 5) rfl)) z_l_19_5 i6 (z_up_val X 19 h 5 (z_n ((10 : Int32) + x1))) dX6_glove_60 ?_
        exact z_reti C hP hS ⟨rfl, hw⟩ dX6_glove_61
      by_cases c7 : x2 = (1 : Int32)
      · replace hw := hw.2.1 c7
        refine lv_tableIn (x := x2) (off := 39) (tgt := 62) hx hb dX6_glove_23 (by rw [c7]; decide) (by rw [c7]; decide) (by rw [c7]; rfl) (by decide) ?_
        refine lv_aload_n hx hb dX6_glove_62 rfl (lv_at hl 0 rfl) ?_
        refine z_getr (C := RX6) (T := TX6) (N := 15) (ref := "GauntletHallModel") (o := 19) (d := 0) hx hb hts hfX6 hown hK hP (hM (19, 0) (List.mem_of_getElem? (i := 0) rfl)) z_l_19_0 rfl 5 (by decide) (hts (.fieldLink RX6 22 "GauntletHallModel" "now" "[I") (by decide +kernel)) rfl rfl dX6_glove_63 ?_
        refine lv_bipush (v := (18 : Int32)) hx hb dX6_glove_66 (by decide) ?_
        refine lv_iload_n hx hb dX6_glove_68 rfl (lv_at hl 1 rfl) ?_
        refine lv_iadd hx hb dX6_glove_69 ?_
        obtain ⟨i8, hw⟩ := hw
        refine z_iald (o := 19) (d := 5) hx hb hK hP (hM (19, 5) (List.mem_of_getElem? (i := 5) rfl)) z_l_19_5 i8 (z_up_val X 19 h 5 (z_n ((18 : Int32) + x1))) dX6_glove_70 ?_
        refine lv_aload_n hx hb dX6_glove_71 rfl (lv_at hl 0 rfl) ?_
        refine z_getr (C := RX6) (T := TX6) (N := 15) (ref := "GauntletHallModel") (o := 19) (d := 0) hx hb hts hfX6 hown hK hP (hM (19, 0) (List.mem_of_getElem? (i := 0) rfl)) z_l_19_0 rfl 5 (by decide) (hts (.fieldLink RX6 22 "GauntletHallModel" "now" "[I") (by decide +kernel)) rfl rfl dX6_glove_72 ?_
        refine lv_bipush (v := (10 : Int32)) hx hb dX6_glove_75 (by decide) ?_
        refine lv_iload_n hx hb dX6_glove_77 rfl (lv_at hl 1 rfl) ?_
        refine lv_iadd hx hb dX6_glove_78 ?_
        obtain ⟨i9, hw⟩ := hw
        refine z_iald (o := 19) (d := 5) hx hb hK hP (hM (19, 5) (List.mem_of_getElem? (i := 5) rfl)) z_l_19_5 i9 (z_up_val X 19 h 5 (z_n ((10 : Int32) + x1))) dX6_glove_79 ?_
        refine lv_iconst (v := (3 : Int32)) hx hb dX6_glove_80 (by decide) ?_
        refine lv_icmp_ne (tgt := 98) hx hb dX6_glove_81 (by decide) (fun c10 => ?_) (fun c10 => ?_)
        · replace hw := hw.1 c10
          refine lv_iconst (v := (0 : Int32)) hx hb dX6_glove_98 (by decide) ?_
          exact m_X6_glove_b99 C hM X h K (h 5 (z_n ((18 : Int32) + x1))) (0 : Int32) hw hP hS (lv_sub hl [] rfl)
        · replace hw := hw.2 c10
          refine lv_aload_n hx hb dX6_glove_84 rfl (lv_at hl 0 rfl) ?_
          refine z_getr (C := RX6) (T := TX6) (N := 15) (ref := "GauntletHallModel") (o := 19) (d := 0) hx hb hts hfX6 hown hK hP (hM (19, 0) (List.mem_of_getElem? (i := 0) rfl)) z_l_19_0 rfl 5 (by decide) (hts (.fieldLink RX6 22 "GauntletHallModel" "now" "[I") (by decide +kernel)) rfl rfl dX6_glove_85 ?_
          refine lv_bipush (v := (34 : Int32)) hx hb dX6_glove_88 (by decide) ?_
          refine lv_iload_n hx hb dX6_glove_90 rfl (lv_at hl 1 rfl) ?_
          refine lv_iadd hx hb dX6_glove_91 ?_
          obtain ⟨i13, hw⟩ := hw
          refine z_iald (o := 19) (d := 5) hx hb hK hP (hM (19, 5) (List.mem_of_getElem? (i := 5) rfl)) z_l_19_5 i13 (z_up_val X 19 h 5 (z_n ((34 : Int32) + x1))) dX6_glove_92 ?_
          refine lv_iconst (v := (5 : Int32)) hx hb dX6_glove_93 (by decide) ?_
          refine lv_idiv hx hb dX6_glove_94 (by decide) ?_
          refine lv_goto (tgt := 99) hx hb dX6_glove_95 (by decide) ?_
          exact m_X6_glove_b99 C hM X h K (h 5 (z_n ((18 : Int32) + x1))) ((h 5 (z_n ((34 : Int32) + x1))) / (5 : Int32)) hw hP hS (lv_sub hl [] rfl)
      by_cases c14 : x2 = (2 : Int32)
      · replace hw := hw.2.2.1 c14
        refine lv_tableIn (x := x2) (off := 88) (tgt := 111) hx hb dX6_glove_23 (by rw [c14]; decide) (by rw [c14]; decide) (by rw [c14]; rfl) (by decide) ?_
        refine lv_aload_n hx hb dX6_glove_111 rfl (lv_at hl 0 rfl) ?_
        refine z_getr (C := RX6) (T := TX6) (N := 15) (ref := "GauntletHallModel") (o := 19) (d := 0) hx hb hts hfX6 hown hK hP (hM (19, 0) (List.mem_of_getElem? (i := 0) rfl)) z_l_19_0 rfl 5 (by decide) (hts (.fieldLink RX6 22 "GauntletHallModel" "now" "[I") (by decide +kernel)) rfl rfl dX6_glove_112 ?_
        refine lv_bipush (v := (26 : Int32)) hx hb dX6_glove_115 (by decide) ?_
        refine lv_iload_n hx hb dX6_glove_117 rfl (lv_at hl 1 rfl) ?_
        refine lv_iadd hx hb dX6_glove_118 ?_
        obtain ⟨i15, hw⟩ := hw
        refine z_iald (o := 19) (d := 5) hx hb hK hP (hM (19, 5) (List.mem_of_getElem? (i := 5) rfl)) z_l_19_5 i15 (z_up_val X 19 h 5 (z_n ((26 : Int32) + x1))) dX6_glove_119 ?_
        exact z_reti C hP hS ⟨rfl, hw⟩ dX6_glove_120
      by_cases c16 : x2 = (3 : Int32)
      · replace hw := hw.2.2.2.1 c16
        refine lv_tableIn (x := x2) (off := 98) (tgt := 121) hx hb dX6_glove_23 (by rw [c16]; decide) (by rw [c16]; decide) (by rw [c16]; rfl) (by decide) ?_
        refine lv_aload_n hx hb dX6_glove_121 rfl (lv_at hl 0 rfl) ?_
        refine z_getr (C := RX6) (T := TX6) (N := 15) (ref := "GauntletHallModel") (o := 19) (d := 0) hx hb hts hfX6 hown hK hP (hM (19, 0) (List.mem_of_getElem? (i := 0) rfl)) z_l_19_0 rfl 5 (by decide) (hts (.fieldLink RX6 22 "GauntletHallModel" "now" "[I") (by decide +kernel)) rfl rfl dX6_glove_122 ?_
        refine lv_iconst (v := (3 : Int32)) hx hb dX6_glove_125 (by decide) ?_
        obtain ⟨i17, hw⟩ := hw
        refine z_iald (o := 19) (d := 5) hx hb hK hP (hM (19, 5) (List.mem_of_getElem? (i := 5) rfl)) z_l_19_5 i17 (z_up_val X 19 h 5 (z_n (3 : Int32))) dX6_glove_126 ?_
        refine lv_iload_n hx hb dX6_glove_127 rfl (lv_at hl 1 rfl) ?_
        refine lv_ishr hx hb dX6_glove_128 ?_
        refine lv_iconst (v := (1 : Int32)) hx hb dX6_glove_129 (by decide) ?_
        refine lv_iand hx hb dX6_glove_130 ?_
        exact z_reti C hP hS ⟨rfl, hw⟩ dX6_glove_131
      replace hw := hw.2.2.2.2 c5 c7 c14 c16
      have hne : (x2).toInt < 0 ∨ 3 < (x2).toInt := by
        have n0 := lv_neT (a := 0) c5 rfl
        have n1 := lv_neT (a := 1) c7 rfl
        have n2 := lv_neT (a := 2) c14 rfl
        have n3 := lv_neT (a := 3) c16 rfl
        omega
      refine lv_tableOut (x := x2) (tgt := 132) hx hb dX6_glove_23 hne (by decide) ?_
      refine lv_aload_n hx hb dX6_glove_132 rfl (lv_at hl 0 rfl) ?_
      refine z_getr (C := RX6) (T := TX6) (N := 15) (ref := "GauntletHallModel") (o := 19) (d := 0) hx hb hts hfX6 hown hK hP (hM (19, 0) (List.mem_of_getElem? (i := 0) rfl)) z_l_19_0 rfl 5 (by decide) (hts (.fieldLink RX6 22 "GauntletHallModel" "now" "[I") (by decide +kernel)) rfl rfl dX6_glove_133 ?_
      refine lv_bipush (v := (34 : Int32)) hx hb dX6_glove_136 (by decide) ?_
      refine lv_iload_n hx hb dX6_glove_138 rfl (lv_at hl 1 rfl) ?_
      refine lv_iadd hx hb dX6_glove_139 ?_
      obtain ⟨i18, hw⟩ := hw
      refine z_iald (o := 19) (d := 5) hx hb hK hP (hM (19, 5) (List.mem_of_getElem? (i := 5) rfl)) z_l_19_5 i18 (z_up_val X 19 h 5 (z_n ((34 : Int32) + x1))) dX6_glove_140 ?_
      exact z_reti C hP hS ⟨rfl, hw⟩ dX6_glove_141
    · replace hw := hw.2 c4
      refine lv_iconst (v := (-1 : Int32)) hx hb dX6_glove_20 (by decide) ?_
      exact z_reti C hP hS ⟨rfl, hw⟩ dX6_glove_21
set_option maxHeartbeats 4000000 in
set_option maxRecDepth 100000 in
theorem m_X6_lowestThat_b12_s {p : Program} {l : Launch} {e : Env} {s : State} {m : MethodId} {args : Array Value} {below : List Frame} {meth : Method} {c : Code} {E : z_E} (C : z_Cx p E s m args meth c cX6_lowestThat 4 wsX6_lowestThat RX6 (some .int)) (hM : z_mod E) (X : z_X) (h : z_G) (K : Int32 → Prop) (L12 : Int32 → Int32 → Int32 → Prop) (k12 : ∀ (x1 : Int32) (x2 : Int32) (x3 : Int32), L12 x1 x2 x3 → ∀ {H : Heap} {locs : List Loc}, z_P E (z_up X 19 h) H → va_S (z_A E) s.heap H locs → ∀ (ls : Array Slot), lv_has ls 4 [(0, .ref (z_a E 19 0)), (1, .int x1), (2, .int x2), (3, .int x3)] → W p l e rX6_lowestThat s m args below meth c H locs 0 0 (MQ below (va_Qi (fun r X' => X' = (z_up X 19 h) ∧ K r) (fun u t => z_P E u t.heap) (z_A E)) args s 0 0 (z_A E)) (F0 m 12 ls [])) (x1 : Int32) (x2 : Int32) (x3 : Int32) (hw : v_X6_lowestThat_b12_s h K L12 x1 x2 x3) {H : Heap} {locs : List Loc} (hP : z_P E (z_up X 19 h) H) (hS : va_S (z_A E) s.heap H locs) {ls : Array Slot} (hl : lv_has ls 4 [(0, .ref (z_a E 19 0)), (1, .int x1), (2, .int x2), (3, .int x3)]) : W p l e rX6_lowestThat s m args below meth c H locs 0 0 (MQ below (va_Qi (fun r X' => X' = (z_up X 19 h) ∧ K r) (fun u t => z_P E u t.heap) (z_A E)) args s 0 0 (z_A E)) (F0 m 12 ls []) := by
  obtain ⟨hx, hb, hml, hr, hlocks, hown, hts, hK, hE⟩ := id C
  have hfX6 : ∀ w ∈ u_ws RX6 TX6 15, w ∈ wsX6_lowestThat := by decide +kernel
  unfold v_X6_lowestThat_b12_s at hw
  refine lv_iload_n hx hb dX6_lowestThat_12 rfl (lv_at hl 3 rfl) ?_
  refine lv_if_lt (tgt := 42) hx hb dX6_lowestThat_13 (by decide) (fun c3 => ?_) (fun c3 => ?_)
  · replace hw := hw.1 c3
    refine lv_iload_n hx hb dX6_lowestThat_42 rfl (lv_at hl 2 rfl) ?_
    exact z_reti C hP hS ⟨rfl, hw⟩ dX6_lowestThat_43
  · replace hw := hw.2 c3
    refine lv_aload_n hx hb dX6_lowestThat_16 rfl (lv_at hl 0 rfl) ?_
    refine z_getr (C := RX6) (T := TX6) (N := 15) (ref := "GauntletHallModel") (o := 19) (d := 0) hx hb hts hfX6 hown hK hP (hM (19, 0) (List.mem_of_getElem? (i := 0) rfl)) z_l_19_0 rfl 6 (by decide) (hts (.fieldLink RX6 25 "GauntletHallModel" "side" "[I") (by decide +kernel)) rfl rfl dX6_lowestThat_17 ?_
    refine lv_iconst (v := (3 : Int32)) hx hb dX6_lowestThat_20 (by decide) ?_
    obtain ⟨i4, hw⟩ := hw
    refine z_iald (o := 19) (d := 6) hx hb hK hP (hM (19, 6) (List.mem_of_getElem? (i := 6) rfl)) z_l_19_6 i4 (z_up_val X 19 h 6 (z_n (3 : Int32))) dX6_lowestThat_21 ?_
    refine lv_iload_n hx hb dX6_lowestThat_22 rfl (lv_at hl 3 rfl) ?_
    refine z_si (rest := []) ⟨hx, hb, hml, hown, hts⟩ (m_X6_has l hE (z_up X 19 h) (h 6 (z_n (3 : Int32))) x3 _ hw) (va_cwS 2 hts gX6_lowestThat_X6_has rfl rfl rfl (by decide +kernel) ⟨Nat.le_of_ble_eq_true rfl, Nat.le_of_ble_eq_true rfl⟩) hK hP hS rfl hl.1 rfl (Nat.le_of_ble_eq_true rfl) dX6_lowestThat_23 ⟨Nat.zero_le _, Nat.zero_le _⟩ (fun r5 u H locs hk hP hS => ?_)
    obtain ⟨eu, hw⟩ := hk
    rw [eu] at hP
    refine lv_iload_n hx hb dX6_lowestThat_26 rfl (lv_at hl 1 rfl) ?_
    refine lv_icmp_ne (tgt := 34) hx hb dX6_lowestThat_27 (by decide) (fun c6 => ?_) (fun c6 => ?_)
    · replace hw := hw.1 c6
      refine lv_iload_n hx hb dX6_lowestThat_34 rfl (lv_at hl 2 rfl) ?_
      refine lv_istore_n (lv' := [(2, .int x2), (0, .ref (z_a E 19 0)), (1, .int x1), (3, .int x3)]) hx hb dX6_lowestThat_35 rfl hl (by decide) rfl (fun ls hl => ?_)
      obtain ⟨y7, ey7⟩ : ∃ z : Int32, z = x3 + (-1 : Int32) := ⟨_, rfl⟩
      replace hw := hw y7 ey7
      refine lv_iinc (v := y7) (lv' := [(3, .int y7), (2, .int x2), (0, .ref (z_a E 19 0)), (1, .int x1)]) hx hb dX6_lowestThat_36 hl (k := 3) rfl (by rw [ey7]; rfl) (by decide) rfl (fun ls hl => ?_)
      refine lv_goto (tgt := 12) hx hb dX6_lowestThat_39 (by decide) ?_
      exact k12 x1 x2 y7 hw hP hS _ (lv_sub hl [2, 3, 1, 0] rfl)
    · replace hw := hw.2 c6
      refine lv_iload_n hx hb dX6_lowestThat_30 rfl (lv_at hl 3 rfl) ?_
      refine lv_goto (tgt := 35) hx hb dX6_lowestThat_31 (by decide) ?_
      refine lv_istore_n (lv' := [(2, .int x3), (0, .ref (z_a E 19 0)), (1, .int x1), (3, .int x3)]) hx hb dX6_lowestThat_35 rfl hl (by decide) rfl (fun ls hl => ?_)
      obtain ⟨y8, ey8⟩ : ∃ z : Int32, z = x3 + (-1 : Int32) := ⟨_, rfl⟩
      replace hw := hw y8 ey8
      refine lv_iinc (v := y8) (lv' := [(3, .int y8), (2, .int x3), (0, .ref (z_a E 19 0)), (1, .int x1)]) hx hb dX6_lowestThat_36 hl (k := 3) rfl (by rw [ey8]; rfl) (by decide) rfl (fun ls hl => ?_)
      refine lv_goto (tgt := 12) hx hb dX6_lowestThat_39 (by decide) ?_
      exact k12 x1 x3 y8 hw hP hS _ (lv_sub hl [2, 3, 1, 0] rfl)
theorem m_X6_lowestThat_b12 {p : Program} {l : Launch} {e : Env} {s : State} {m : MethodId} {args : Array Value} {below : List Frame} {meth : Method} {c : Code} {E : z_E} (C : z_Cx p E s m args meth c cX6_lowestThat 4 wsX6_lowestThat RX6 (some .int)) (hM : z_mod E) (X : z_X) (h : z_G) (K : Int32 → Prop) (x1 : Int32) (x2 : Int32) (x3 : Int32) (hw : v_X6_lowestThat_b12 h K x1 x2 x3) {H : Heap} {locs : List Loc} (hP : z_P E (z_up X 19 h) H) (hS : va_S (z_A E) s.heap H locs) {ls : Array Slot} (hl : lv_has ls 4 [(0, .ref (z_a E 19 0)), (1, .int x1), (2, .int x2), (3, .int x3)]) : W p l e rX6_lowestThat s m args below meth c H locs 0 0 (MQ below (va_Qi (fun r X' => X' = (z_up X 19 h) ∧ K r) (fun u t => z_P E u t.heap) (z_A E)) args s 0 0 (z_A E)) (F0 m 12 ls []) := by
  obtain ⟨n, hw⟩ := hw
  revert hw hP hS hl
  revert x1 x2 x3 H locs ls
  induction n with
  | zero => intro x1 x2 x3 H locs ls hP hS hl hw; exact hw.elim
  | succ n ih =>
    intro x1 x2 x3 H locs ls hP hS hl hw
    exact m_X6_lowestThat_b12_s C hM X h K (fun x1 x2 x3 => z_fp (σ := Int32 × Int32 × Int32) (fun Lp q => v_X6_lowestThat_b12_s h K (fun x1 x2 x3 => Lp (x1, x2, x3)) q.1 q.2.1 q.2.2) n (x1, x2, x3)) (fun x1 x2 x3 h9 H locs hP hS ls hl => ih x1 x2 x3 hP hS hl h9) x1 x2 x3 hw hP hS hl
set_option maxHeartbeats 4000000 in
set_option maxRecDepth 100000 in
theorem m_X6_lowestThat (l : Launch) {E : z_E} (hE : z_ok E) (hM : z_mod E) (X : z_X) (h : z_G) (x1 : Int32) (K : Int32 → Prop) (hw : v_X6_lowestThat h x1 K) : z_CI l E yX6_lowestThat wsX6_lowestThat rX6_lowestThat [.ref (z_a E 19 0), .int x1] (z_up X 19 h) (fun r X' => X' = (z_up X 19 h) ∧ K r) := by
  refine z_start (cc := cX6_lowestThat) (maxL := 4) (ret := (some .int)) hE (by decide) rfl (Nat.le_of_ble_eq_true rfl) ?_
  intro p e s m below meth c C hP hS ls hl
  have C : z_Cx p E s m _ meth c cX6_lowestThat 4 wsX6_lowestThat RX6 (some .int) := C
  obtain ⟨hx, hb, hml, hr, hlocks, hown, hts, hK, hE⟩ := id C
  have hl : lv_has ls 4 [(0, .ref (z_a E 19 0)), (1, .int x1)] := hl
  have hfX6 : ∀ w ∈ u_ws RX6 TX6 15, w ∈ wsX6_lowestThat := by decide +kernel
  unfold v_X6_lowestThat at hw
  refine lv_bipush (v := (-4 : Int32)) hx hb dX6_lowestThat_0 (by decide) ?_
  refine lv_istore_n (lv' := [(2, .int (-4 : Int32)), (0, .ref (z_a E 19 0)), (1, .int x1)]) hx hb dX6_lowestThat_2 rfl hl (by decide) rfl (fun ls hl => ?_)
  refine lv_aload_n hx hb dX6_lowestThat_3 rfl (lv_at hl 1 rfl) ?_
  refine z_getr (C := RX6) (T := TX6) (N := 15) (ref := "GauntletHallModel") (o := 19) (d := 0) hx hb hts hfX6 hown hK hP (hM (19, 0) (List.mem_of_getElem? (i := 0) rfl)) z_l_19_0 rfl 6 (by decide) (hts (.fieldLink RX6 25 "GauntletHallModel" "side" "[I") (by decide +kernel)) rfl rfl dX6_lowestThat_4 ?_
  refine lv_iconst (v := (2 : Int32)) hx hb dX6_lowestThat_7 (by decide) ?_
  obtain ⟨i1, hw⟩ := hw
  refine z_iald (o := 19) (d := 6) hx hb hK hP (hM (19, 6) (List.mem_of_getElem? (i := 6) rfl)) z_l_19_6 i1 (z_up_val X 19 h 6 (z_n (2 : Int32))) dX6_lowestThat_8 ?_
  refine lv_iconst (v := (1 : Int32)) hx hb dX6_lowestThat_9 (by decide) ?_
  refine lv_isub hx hb dX6_lowestThat_10 ?_
  refine lv_topi (fun y2 ey2 => ?_)
  replace hw := hw y2 ey2
  refine lv_istore_n (lv' := [(3, .int y2), (2, .int (-4 : Int32)), (0, .ref (z_a E 19 0)), (1, .int x1)]) hx hb dX6_lowestThat_11 rfl hl (by decide) rfl (fun ls hl => ?_)
  exact m_X6_lowestThat_b12 C hM X h K x1 (-4 : Int32) y2 hw hP hS (lv_sub hl [2, 3, 1, 0] rfl)
set_option maxHeartbeats 4000000 in
set_option maxRecDepth 100000 in
theorem m_X6_goDrawn_b78 {p : Program} {l : Launch} {e : Env} {s : State} {m : MethodId} {args : Array Value} {below : List Frame} {meth : Method} {c : Code} {E : z_E} (C : z_Cx p E s m args meth c cX6_goDrawn 5 wsX6_goDrawn RX6 none) (hM : z_mod E) (X : z_X) (K : z_G → Prop) (h : z_G) (x3 : Int32) (x4 : Int32) (hw : v_X6_goDrawn_b78 K h x3 x4) {H : Heap} {locs : List Loc} (hP : z_P E (z_up X 19 h) H) (hS : va_S (z_A E) s.heap H locs) {ls : Array Slot} (hl : lv_has ls 5 [(0, .ref (z_a E 19 0)), (3, .int x3), (4, .int x4)]) : W p l e rX6_goDrawn s m args below meth c H locs 0 0 (MQ below (va_Qv (fun X' => ∃ h', X' = z_up X 19 h' ∧ K h') (fun u t => z_P E u t.heap) (z_A E)) args s 0 0 (z_A E)) (F0 m 78 ls []) := by
  obtain ⟨hx, hb, hml, hr, hlocks, hown, hts, hK, hE⟩ := id C
  have hfX6 : ∀ w ∈ u_ws RX6 TX6 15, w ∈ wsX6_goDrawn := by decide +kernel
  unfold v_X6_goDrawn_b78 at hw
  refine lv_iload_n hx hb dX6_goDrawn_78 rfl (lv_at hl 1 rfl) ?_
  refine lv_iconst (v := (1 : Int32)) hx hb dX6_goDrawn_79 (by decide) ?_
  refine lv_icmp_ne (tgt := 98) hx hb dX6_goDrawn_80 (by decide) (fun c9 => ?_) (fun c9 => ?_)
  · replace hw := hw.1 c9
    exact z_retv C hP hS ⟨_, rfl, hw⟩ dX6_goDrawn_98
  · replace hw := hw.2 c9
    refine lv_aload_n hx hb dX6_goDrawn_83 rfl (lv_at hl 0 rfl) ?_
    refine z_getr (C := RX6) (T := TX6) (N := 15) (ref := "GauntletHallModel") (o := 19) (d := 0) hx hb hts hfX6 hown hK hP (hM (19, 0) (List.mem_of_getElem? (i := 0) rfl)) z_l_19_0 rfl 6 (by decide) (hts (.fieldLink RX6 25 "GauntletHallModel" "side" "[I") (by decide +kernel)) rfl rfl dX6_goDrawn_84 ?_
    refine lv_iconst (v := (3 : Int32)) hx hb dX6_goDrawn_87 (by decide) ?_
    refine lv_dup2_11 hx hb dX6_goDrawn_88 rfl rfl ?_
    obtain ⟨i10, hw⟩ := hw
    refine z_iald (o := 19) (d := 6) hx hb hK hP (hM (19, 6) (List.mem_of_getElem? (i := 6) rfl)) z_l_19_6 i10 (z_up_val X 19 h 6 (z_n (3 : Int32))) dX6_goDrawn_89 ?_
    refine lv_iconst (v := (1 : Int32)) hx hb dX6_goDrawn_90 (by decide) ?_
    refine lv_iload hx hb dX6_goDrawn_91 (lv_at hl 2 rfl) ?_
    refine lv_ishl hx hb dX6_goDrawn_93 ?_
    refine lv_iconst (v := (-1 : Int32)) hx hb dX6_goDrawn_94 (by decide) ?_
    refine lv_ixor hx hb dX6_goDrawn_95 ?_
    refine lv_iand hx hb dX6_goDrawn_96 ?_
    obtain ⟨i11, hw⟩ := hw
    obtain ⟨h12, eh12⟩ : ∃ z : z_G, z = z_ss h 6 (z_n (3 : Int32)) ((h 6 (z_n (3 : Int32))) &&& (((1 : Int32) <<< (x4 &&& (31 : Int32))) ^^^ (-1 : Int32))) := ⟨_, rfl⟩
    replace hw := hw h12 eh12
    refine z_iast (o := 19) (d := 6) (X' := z_up X 19 h12) hx hb hK hE hP hS (hM (19, 6) (List.mem_of_getElem? (i := 6) rfl)) z_l_19_6 i11 (by rw [eh12]; exact z_up_put X 19 h 6 (z_n (3 : Int32)) _) dX6_goDrawn_97 (fun H locs hP hS => ?_)
    exact z_retv C hP hS ⟨_, rfl, hw⟩ dX6_goDrawn_98
set_option maxHeartbeats 4000000 in
set_option maxRecDepth 100000 in
theorem m_X6_goDrawn_b27 {p : Program} {l : Launch} {e : Env} {s : State} {m : MethodId} {args : Array Value} {below : List Frame} {meth : Method} {c : Code} {E : z_E} (C : z_Cx p E s m args meth c cX6_goDrawn 5 wsX6_goDrawn RX6 none) (hM : z_mod E) (X : z_X) (K : z_G → Prop) (h : z_G) (x1 : Int32) (x2 : Int32) (x3 : Int32) (t1 : Int32) (hw : v_X6_goDrawn_b27 K h x1 x2 x3 t1) {H : Heap} {locs : List Loc} (hP : z_P E (z_up X 19 h) H) (hS : va_S (z_A E) s.heap H locs) {ls : Array Slot} (hl : lv_has ls 5 [(0, .ref (z_a E 19 0)), (1, .int x1), (2, .int x2), (3, .int x3)]) : W p l e rX6_goDrawn s m args below meth c H locs 0 0 (MQ below (va_Qv (fun X' => ∃ h', X' = z_up X 19 h' ∧ K h') (fun u t => z_P E u t.heap) (z_A E)) args s 0 0 (z_A E)) (F0 m 27 ls [.int t1, .ref (z_a E 19 0)]) := by
  obtain ⟨hx, hb, hml, hr, hlocks, hown, hts, hK, hE⟩ := id C
  have hfX6 : ∀ w ∈ u_ws RX6 TX6 15, w ∈ wsX6_goDrawn := by decide +kernel
  unfold v_X6_goDrawn_b27 at hw
  refine z_vi (C := RX6) (T := TX6) (N := 15) (o := 19) (rest := []) ⟨hx, hb, hml, hown, hts⟩ (m_X6_lowestThat l hE hM X h t1 _ hw) (cwV 1 hts gX6_goDrawn_X6_lowestThat rfl rfl rfl (by decide +kernel) ⟨Nat.le_of_ble_eq_true rfl, Nat.le_of_ble_eq_true rfl⟩) hK hP hS (hM (19, 0) (List.mem_of_getElem? (i := 0) rfl)) z_l_19_0 rfl rfl hl.1 rfl (Nat.le_of_ble_eq_true rfl) dX6_goDrawn_27 ⟨Nat.zero_le _, Nat.zero_le _⟩ (fun r6 u H locs hk hP hS => ?_)
  obtain ⟨eu, hw⟩ := hk
  rw [eu] at hP
  refine lv_istore (lv' := [(4, .int r6), (0, .ref (z_a E 19 0)), (1, .int x1), (2, .int x2), (3, .int x3)]) hx hb dX6_goDrawn_30 hl (by decide) rfl (fun ls hl => ?_)
  refine lv_iload hx hb dX6_goDrawn_32 (lv_at hl 0 rfl) ?_
  refine lv_bipush (v := (-4 : Int32)) hx hb dX6_goDrawn_34 (by decide) ?_
  refine lv_icmp_ne (tgt := 40) hx hb dX6_goDrawn_36 (by decide) (fun c7 => ?_) (fun c7 => ?_)
  · replace hw := hw.1 c7
    refine lv_iload_n hx hb dX6_goDrawn_40 rfl (lv_at hl 4 rfl) ?_
    refine lv_if_ne (tgt := 78) hx hb dX6_goDrawn_41 (by decide) (fun c8 => ?_) (fun c8 => ?_)
    · replace hw := hw.1 c8
      exact m_X6_goDrawn_b78 C hM X K h x3 r6 hw hP hS (lv_sub hl [1, 4, 0] rfl)
    · replace hw := hw.2 c8
      refine lv_aload_n hx hb dX6_goDrawn_44 rfl (lv_at hl 1 rfl) ?_
      refine z_getr (C := RX6) (T := TX6) (N := 15) (ref := "GauntletHallModel") (o := 19) (d := 0) hx hb hts hfX6 hown hK hP (hM (19, 0) (List.mem_of_getElem? (i := 0) rfl)) z_l_19_0 rfl 6 (by decide) (hts (.fieldLink RX6 25 "GauntletHallModel" "side" "[I") (by decide +kernel)) rfl rfl dX6_goDrawn_45 ?_
      refine lv_iconst (v := (4 : Int32)) hx hb dX6_goDrawn_48 (by decide) ?_
      refine lv_iload_n hx hb dX6_goDrawn_49 rfl (lv_at hl 3 rfl) ?_
      refine lv_iadd hx hb dX6_goDrawn_50 ?_
      obtain ⟨i13, hw⟩ := hw
      refine z_iald (o := 19) (d := 6) hx hb hK hP (hM (19, 6) (List.mem_of_getElem? (i := 6) rfl)) z_l_19_6 i13 (z_up_val X 19 h 6 (z_n ((4 : Int32) + x2))) dX6_goDrawn_51 ?_
      refine lv_if_le (tgt := 78) hx hb dX6_goDrawn_52 (by decide) (fun c14 => ?_) (fun c14 => ?_)
      · replace hw := hw.1 c14
        exact m_X6_goDrawn_b78 C hM X K h x3 r6 hw hP hS (lv_sub hl [1, 4, 0] rfl)
      · replace hw := hw.2 c14
        refine lv_aload_n hx hb dX6_goDrawn_55 rfl (lv_at hl 1 rfl) ?_
        refine lv_iload hx hb dX6_goDrawn_56 (lv_at hl 0 rfl) ?_
        refine lv_iload_n hx hb dX6_goDrawn_58 rfl (lv_at hl 2 rfl) ?_
        refine lv_bipush (v := (32 : Int32)) hx hb dX6_goDrawn_59 (by decide) ?_
        refine lv_idiv hx hb dX6_goDrawn_61 (by decide) ?_
        refine lv_iconst (v := (4 : Int32)) hx hb dX6_goDrawn_62 (by decide) ?_
        refine lv_irem hx hb dX6_goDrawn_63 (by decide) ?_
        refine lv_iload_n hx hb dX6_goDrawn_64 rfl (lv_at hl 2 rfl) ?_
        refine lv_sipush (v := (128 : Int32)) hx hb dX6_goDrawn_65 (by decide) ?_
        refine lv_idiv hx hb dX6_goDrawn_68 (by decide) ?_
        refine lv_bipush (v := (20 : Int32)) hx hb dX6_goDrawn_69 (by decide) ?_
        refine lv_irem hx hb dX6_goDrawn_71 (by decide) ?_
        refine lv_iconst (v := (1 : Int32)) hx hb dX6_goDrawn_72 (by decide) ?_
        refine lv_iadd hx hb dX6_goDrawn_73 ?_
        refine lv_iload_n hx hb dX6_goDrawn_74 rfl (lv_at hl 3 rfl) ?_
        refine z_vv (C := RX6) (T := TX6) (N := 15) (o := 19) (rest := []) ⟨hx, hb, hml, hown, hts⟩ (m_X6_lays l hE hM X h r6 ((x1 / (32 : Int32)) - (x1 / (32 : Int32)) / (4 : Int32) * (4 : Int32)) (((x1 / (128 : Int32)) - (x1 / (128 : Int32)) / (20 : Int32) * (20 : Int32)) + (1 : Int32)) x2 _ hw) (cwV 4 hts gX6_goDrawn_X6_lays rfl rfl rfl (by decide +kernel) ⟨Nat.le_of_ble_eq_true rfl, Nat.le_of_ble_eq_true rfl⟩) hK hP hS (hM (19, 0) (List.mem_of_getElem? (i := 0) rfl)) z_l_19_0 rfl rfl hl.1 rfl (Nat.le_of_ble_eq_true rfl) dX6_goDrawn_75 ⟨Nat.zero_le _, Nat.zero_le _⟩ (fun u H locs hk hP hS => ?_)
        obtain ⟨h15, eu, hw⟩ := hk
        rw [eu] at hP
        exact m_X6_goDrawn_b78 C hM X K h15 x3 r6 hw hP hS (lv_sub hl [1, 4, 0] rfl)
  · replace hw := hw.2 c7
    exact z_retv C hP hS ⟨_, rfl, hw⟩ dX6_goDrawn_39
set_option maxHeartbeats 4000000 in
set_option maxRecDepth 100000 in
theorem m_X6_goDrawn (l : Launch) {E : z_E} (hE : z_ok E) (hM : z_mod E) (X : z_X) (h : z_G) (x1 : Int32) (K : z_G → Prop) (hw : v_X6_goDrawn h x1 K) : z_CV l E yX6_goDrawn wsX6_goDrawn rX6_goDrawn [.ref (z_a E 19 0), .int x1] (z_up X 19 h) (fun X' => ∃ h', X' = z_up X 19 h' ∧ K h') := by
  refine z_start (cc := cX6_goDrawn) (maxL := 5) (ret := none) hE (by decide) rfl (Nat.le_of_ble_eq_true rfl) ?_
  intro p e s m below meth c C hP hS ls hl
  have C : z_Cx p E s m _ meth c cX6_goDrawn 5 wsX6_goDrawn RX6 none := C
  obtain ⟨hx, hb, hml, hr, hlocks, hown, hts, hK, hE⟩ := id C
  have hl : lv_has ls 5 [(0, .ref (z_a E 19 0)), (1, .int x1)] := hl
  have hfX6 : ∀ w ∈ u_ws RX6 TX6 15, w ∈ wsX6_goDrawn := by decide +kernel
  unfold v_X6_goDrawn at hw
  refine lv_iload_n hx hb dX6_goDrawn_0 rfl (lv_at hl 1 rfl) ?_
  refine lv_aload_n hx hb dX6_goDrawn_1 rfl (lv_at hl 0 rfl) ?_
  refine z_getr (C := RX6) (T := TX6) (N := 15) (ref := "GauntletHallModel") (o := 19) (d := 0) hx hb hts hfX6 hown hK hP (hM (19, 0) (List.mem_of_getElem? (i := 0) rfl)) z_l_19_0 rfl 2 (by decide) (hts (.fieldLink RX6 13 "GauntletHallModel" "told" "[I") (by decide +kernel)) rfl rfl dX6_goDrawn_2 ?_
  refine lv_iconst (v := (0 : Int32)) hx hb dX6_goDrawn_5 (by decide) ?_
  obtain ⟨i1, hw⟩ := hw
  refine z_iald (o := 19) (d := 2) hx hb hK hP (hM (19, 2) (List.mem_of_getElem? (i := 2) rfl)) z_l_19_2 i1 (z_up_val X 19 h 2 (z_n (0 : Int32))) dX6_goDrawn_6 ?_
  obtain ⟨n2, hw⟩ := hw
  refine lv_irem hx hb dX6_goDrawn_7 n2 ?_
  refine lv_topi (fun y3 ey3 => ?_)
  replace hw := hw y3 ey3
  refine lv_istore_n (lv' := [(2, .int y3), (0, .ref (z_a E 19 0)), (1, .int x1)]) hx hb dX6_goDrawn_8 rfl hl (by decide) rfl (fun ls hl => ?_)
  refine lv_iload_n hx hb dX6_goDrawn_9 rfl (lv_at hl 2 rfl) ?_
  refine lv_bipush (v := (8 : Int32)) hx hb dX6_goDrawn_10 (by decide) ?_
  refine lv_idiv hx hb dX6_goDrawn_12 (by decide) ?_
  refine lv_iconst (v := (4 : Int32)) hx hb dX6_goDrawn_13 (by decide) ?_
  refine lv_irem hx hb dX6_goDrawn_14 (by decide) ?_
  refine lv_topi (fun y4 ey4 => ?_)
  replace hw := hw y4 ey4
  refine lv_istore_n (lv' := [(3, .int y4), (2, .int y3), (0, .ref (z_a E 19 0)), (1, .int x1)]) hx hb dX6_goDrawn_15 rfl hl (by decide) rfl (fun ls hl => ?_)
  refine lv_aload_n hx hb dX6_goDrawn_16 rfl (lv_at hl 2 rfl) ?_
  refine lv_iload_n hx hb dX6_goDrawn_17 rfl (lv_at hl 0 rfl) ?_
  refine lv_iconst (v := (1 : Int32)) hx hb dX6_goDrawn_18 (by decide) ?_
  refine lv_icmp_ne (tgt := 26) hx hb dX6_goDrawn_19 (by decide) (fun c5 => ?_) (fun c5 => ?_)
  · replace hw := hw.1 c5
    refine lv_iconst (v := (0 : Int32)) hx hb dX6_goDrawn_26 (by decide) ?_
    exact m_X6_goDrawn_b27 C hM X K h x1 y3 y4 (0 : Int32) hw hP hS (lv_sub hl [2, 3, 1, 0] rfl)
  · replace hw := hw.2 c5
    refine lv_iconst (v := (1 : Int32)) hx hb dX6_goDrawn_22 (by decide) ?_
    refine lv_goto (tgt := 27) hx hb dX6_goDrawn_23 (by decide) ?_
    exact m_X6_goDrawn_b27 C hM X K h x1 y3 y4 (1 : Int32) hw hP hS (lv_sub hl [2, 3, 1, 0] rfl)
