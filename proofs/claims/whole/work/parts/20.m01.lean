/-! ===== PRINTED (wip/whole/gen/gen.py): the machine meets each definition: X5.sizeByNow, X5.isAsLarge, X1.canTakeUp, X1.lowestFor, X5.mightByFight, X1.takeUp, X1.reignGoesBy ===== -/
set_option maxHeartbeats 4000000 in
set_option maxRecDepth 100000 in
theorem m_X5_sizeByNow (l : Launch) {E : z_E} (hE : z_ok E) (X : z_X) (x0 : Int32) (x1 : Int32) (x2 : Int32) (K : Int32 → Prop) (hw : v_X5_sizeByNow x0 x1 x2 K) : z_CI l E yX5_sizeByNow wsX5_sizeByNow rX5_sizeByNow [.int x0, .int x1, .int x2] X (fun r X' => X' = X ∧ K r) := by
  refine z_start (cc := cX5_sizeByNow) (maxL := 3) (ret := (some .int)) hE (by decide) rfl (Nat.le_of_ble_eq_true rfl) ?_
  intro p e s m below meth c C hP hS ls hl
  have C : z_Cx p E s m _ meth c cX5_sizeByNow 3 wsX5_sizeByNow RX5 (some .int) := C
  obtain ⟨hx, hb, hml, hr, hlocks, hown, hts, hK, hE⟩ := id C
  have hl : lv_has ls 3 [(0, .int x0), (1, .int x1), (2, .int x2)] := hl
  unfold v_X5_sizeByNow at hw
  refine lv_iload_n hx hb dX5_sizeByNow_0 rfl (lv_at hl 0 rfl) ?_
  refine lv_iconst (v := (3 : Int32)) hx hb dX5_sizeByNow_1 (by decide) ?_
  refine lv_icmp_ne (tgt := 13) hx hb dX5_sizeByNow_2 (by decide) (fun c1 => ?_) (fun c1 => ?_)
  · replace hw := hw.1 c1
    refine lv_iload_n hx hb dX5_sizeByNow_13 rfl (lv_at hl 1 rfl) ?_
    exact z_reti C hP hS ⟨rfl, hw⟩ dX5_sizeByNow_14
  · replace hw := hw.2 c1
    refine lv_iload_n hx hb dX5_sizeByNow_5 rfl (lv_at hl 1 rfl) ?_
    refine lv_iload_n hx hb dX5_sizeByNow_6 rfl (lv_at hl 2 rfl) ?_
    refine lv_iconst (v := (5 : Int32)) hx hb dX5_sizeByNow_7 (by decide) ?_
    refine lv_idiv hx hb dX5_sizeByNow_8 (by decide) ?_
    refine lv_isub hx hb dX5_sizeByNow_9 ?_
    refine lv_goto (tgt := 14) hx hb dX5_sizeByNow_10 (by decide) ?_
    exact z_reti C hP hS ⟨rfl, hw⟩ dX5_sizeByNow_14
set_option maxHeartbeats 4000000 in
set_option maxRecDepth 100000 in
theorem m_X5_isAsLarge (l : Launch) {E : z_E} (hE : z_ok E) (X : z_X) (x0 : Int32) (x1 : Int32) (x2 : Int32) (K : Int32 → Prop) (hw : v_X5_isAsLarge x0 x1 x2 K) : z_CI l E yX5_isAsLarge wsX5_isAsLarge rX5_isAsLarge [.int x0, .int x1, .int x2] X (fun r X' => X' = X ∧ K r) := by
  refine z_start (cc := cX5_isAsLarge) (maxL := 4) (ret := (some .boolean)) hE (by decide) rfl (Nat.le_of_ble_eq_true rfl) ?_
  intro p e s m below meth c C hP hS ls hl
  have C : z_Cx p E s m _ meth c cX5_isAsLarge 4 wsX5_isAsLarge RX5 (some .boolean) := C
  obtain ⟨hx, hb, hml, hr, hlocks, hown, hts, hK, hE⟩ := id C
  have hl : lv_has ls 4 [(0, .int x0), (1, .int x1), (2, .int x2)] := hl
  unfold v_X5_isAsLarge at hw
  refine lv_iload_n hx hb dX5_isAsLarge_0 rfl (lv_at hl 2 rfl) ?_
  refine lv_iload_n hx hb dX5_isAsLarge_1 rfl (lv_at hl 1 rfl) ?_
  refine lv_isub hx hb dX5_isAsLarge_2 ?_
  refine lv_topi (fun y1 ey1 => ?_)
  replace hw := hw y1 ey1
  refine lv_istore_n (lv' := [(3, .int y1), (0, .int x0), (1, .int x1), (2, .int x2)]) hx hb dX5_isAsLarge_3 rfl hl (by decide) rfl (fun ls hl => ?_)
  refine lv_iload_n hx hb dX5_isAsLarge_4 rfl (lv_at hl 1 rfl) ?_
  refine lv_iconst (v := (2 : Int32)) hx hb dX5_isAsLarge_5 (by decide) ?_
  refine lv_icmp_ne (tgt := 19) hx hb dX5_isAsLarge_6 (by decide) (fun c2 => ?_) (fun c2 => ?_)
  · replace hw := hw.1 c2
    refine lv_iload_n hx hb dX5_isAsLarge_19 rfl (lv_at hl 0 rfl) ?_
    refine lv_if_eq (tgt := 38) hx hb dX5_isAsLarge_20 (by decide) (fun c3 => ?_) (fun c3 => ?_)
    · replace hw := hw.1 c3
      refine lv_iconst (v := (1 : Int32)) hx hb dX5_isAsLarge_38 (by decide) ?_
      refine lv_goto (tgt := 43) hx hb dX5_isAsLarge_39 (by decide) ?_
      exact z_retz C (Or.inr rfl) hP hS ⟨rfl, hw⟩ dX5_isAsLarge_43
    · replace hw := hw.2 c3
      refine lv_iload_n hx hb dX5_isAsLarge_23 rfl (lv_at hl 0 rfl) ?_
      refine lv_iconst (v := (-1 : Int32)) hx hb dX5_isAsLarge_24 (by decide) ?_
      refine lv_icmp_eq (tgt := 38) hx hb dX5_isAsLarge_25 (by decide) (fun c4 => ?_) (fun c4 => ?_)
      · replace hw := hw.1 c4
        refine lv_iconst (v := (1 : Int32)) hx hb dX5_isAsLarge_38 (by decide) ?_
        refine lv_goto (tgt := 43) hx hb dX5_isAsLarge_39 (by decide) ?_
        exact z_retz C (Or.inr rfl) hP hS ⟨rfl, hw⟩ dX5_isAsLarge_43
      · replace hw := hw.2 c4
        refine lv_iload_n hx hb dX5_isAsLarge_28 rfl (lv_at hl 0 rfl) ?_
        refine lv_iconst (v := (1 : Int32)) hx hb dX5_isAsLarge_29 (by decide) ?_
        refine lv_icmp_ne (tgt := 42) hx hb dX5_isAsLarge_30 (by decide) (fun c5 => ?_) (fun c5 => ?_)
        · replace hw := hw.1 c5
          refine lv_iconst (v := (0 : Int32)) hx hb dX5_isAsLarge_42 (by decide) ?_
          exact z_retz C (Or.inl rfl) hP hS ⟨rfl, hw⟩ dX5_isAsLarge_43
        · replace hw := hw.2 c5
          refine lv_iload_n hx hb dX5_isAsLarge_33 rfl (lv_at hl 1 rfl) ?_
          refine lv_iconst (v := (1 : Int32)) hx hb dX5_isAsLarge_34 (by decide) ?_
          refine lv_icmp_ne (tgt := 42) hx hb dX5_isAsLarge_35 (by decide) (fun c6 => ?_) (fun c6 => ?_)
          · replace hw := hw.1 c6
            refine lv_iconst (v := (0 : Int32)) hx hb dX5_isAsLarge_42 (by decide) ?_
            exact z_retz C (Or.inl rfl) hP hS ⟨rfl, hw⟩ dX5_isAsLarge_43
          · replace hw := hw.2 c6
            refine lv_iconst (v := (1 : Int32)) hx hb dX5_isAsLarge_38 (by decide) ?_
            refine lv_goto (tgt := 43) hx hb dX5_isAsLarge_39 (by decide) ?_
            exact z_retz C (Or.inr rfl) hP hS ⟨rfl, hw⟩ dX5_isAsLarge_43
  · replace hw := hw.2 c2
    refine lv_iload_n hx hb dX5_isAsLarge_9 rfl (lv_at hl 0 rfl) ?_
    refine lv_if_ne (tgt := 17) hx hb dX5_isAsLarge_10 (by decide) (fun c7 => ?_) (fun c7 => ?_)
    · replace hw := hw.1 c7
      refine lv_iconst (v := (0 : Int32)) hx hb dX5_isAsLarge_17 (by decide) ?_
      exact z_retz C (Or.inl rfl) hP hS ⟨rfl, hw⟩ dX5_isAsLarge_18
    · replace hw := hw.2 c7
      refine lv_iconst (v := (1 : Int32)) hx hb dX5_isAsLarge_13 (by decide) ?_
      refine lv_goto (tgt := 18) hx hb dX5_isAsLarge_14 (by decide) ?_
      exact z_retz C (Or.inr rfl) hP hS ⟨rfl, hw⟩ dX5_isAsLarge_18
set_option maxHeartbeats 4000000 in
set_option maxRecDepth 100000 in
theorem m_X1_canTakeUp (l : Launch) {E : z_E} (hE : z_ok E) (hC : z_cls E) (o : Nat) (ho : o < 13) (X : z_X) (h : z_G) (x1 : Int32) (x2 : Int32) (K : Int32 → Prop) (hw : v_X1_canTakeUp h x1 x2 K) : z_CI l E yX1_canTakeUp wsX1_canTakeUp rX1_canTakeUp [.ref (z_a E o 0), .int x1, .int x2] (z_up X o h) (fun r X' => X' = (z_up X o h) ∧ K r) := by
  refine z_start (cc := cX1_canTakeUp) (maxL := 3) (ret := (some .boolean)) hE (by decide) rfl (Nat.le_of_ble_eq_true rfl) ?_
  intro p e s m below meth c C hP hS ls hl
  have C : z_Cx p E s m _ meth c cX1_canTakeUp 3 wsX1_canTakeUp RX1 (some .boolean) := C
  obtain ⟨hx, hb, hml, hr, hlocks, hown, hts, hK, hE⟩ := id C
  have hl : lv_has ls 3 [(0, .ref (z_a E o 0)), (1, .int x1), (2, .int x2)] := hl
  have hfX1 : ∀ w ∈ u_ws RX1 TX1 13, w ∈ wsX1_canTakeUp := by decide +kernel
  unfold v_X1_canTakeUp at hw
  refine lv_aload_n hx hb dX1_canTakeUp_0 rfl (lv_at hl 0 rfl) ?_
  refine z_getr (C := RX1) (T := TX1) (N := 13) (ref := "GauntletHall$Hall") (o := o) (d := 0) hx hb hts hfX1 hown hK hP (hC.1 o ho (o, 0) (List.mem_of_getElem? (i := 0) rfl)) (z_lH_0 (o := o) ho) rfl 10 (by decide) (hts (.fieldLink RX1 43 "GauntletHall$Hall" "lies" "[I") (by decide +kernel)) rfl rfl dX1_canTakeUp_1 ?_
  refine lv_iload_n hx hb dX1_canTakeUp_4 rfl (lv_at hl 2 rfl) ?_
  obtain ⟨i1, hw⟩ := hw
  refine z_iald (o := o) (d := 10) hx hb hK hP (hC.1 o ho (o, 10) (List.mem_of_getElem? (i := 7) rfl)) (z_lH_10 (o := o) ho) i1 (z_up_val X o h 10 (z_n x2)) dX1_canTakeUp_5 ?_
  refine lv_iconst (v := (1 : Int32)) hx hb dX1_canTakeUp_6 (by decide) ?_
  refine lv_icmp_ne (tgt := 72) hx hb dX1_canTakeUp_7 (by decide) (fun c2 => ?_) (fun c2 => ?_)
  · replace hw := hw.1 c2
    refine lv_iconst (v := (0 : Int32)) hx hb dX1_canTakeUp_72 (by decide) ?_
    exact z_retz C (Or.inl rfl) hP hS ⟨rfl, hw⟩ dX1_canTakeUp_73
  · replace hw := hw.2 c2
    refine lv_aload_n hx hb dX1_canTakeUp_10 rfl (lv_at hl 0 rfl) ?_
    refine z_getr (C := RX1) (T := TX1) (N := 13) (ref := "GauntletHall$Hall") (o := o) (d := 0) hx hb hts hfX1 hown hK hP (hC.1 o ho (o, 0) (List.mem_of_getElem? (i := 0) rfl)) (z_lH_0 (o := o) ho) rfl 9 (by decide) (hts (.fieldLink RX1 40 "GauntletHall$Hall" "owner" "[I") (by decide +kernel)) rfl rfl dX1_canTakeUp_11 ?_
    refine lv_iload_n hx hb dX1_canTakeUp_14 rfl (lv_at hl 2 rfl) ?_
    obtain ⟨i3, hw⟩ := hw
    refine z_iald (o := o) (d := 9) hx hb hK hP (hC.1 o ho (o, 9) (List.mem_of_getElem? (i := 6) rfl)) (z_lH_9 (o := o) ho) i3 (z_up_val X o h 9 (z_n x2)) dX1_canTakeUp_15 ?_
    refine lv_iload_n hx hb dX1_canTakeUp_16 rfl (lv_at hl 1 rfl) ?_
    refine lv_icmp_eq (tgt := 72) hx hb dX1_canTakeUp_17 (by decide) (fun c4 => ?_) (fun c4 => ?_)
    · replace hw := hw.1 c4
      refine lv_iconst (v := (0 : Int32)) hx hb dX1_canTakeUp_72 (by decide) ?_
      exact z_retz C (Or.inl rfl) hP hS ⟨rfl, hw⟩ dX1_canTakeUp_73
    · replace hw := hw.2 c4
      refine lv_aload_n hx hb dX1_canTakeUp_20 rfl (lv_at hl 0 rfl) ?_
      refine z_getr (C := RX1) (T := TX1) (N := 13) (ref := "GauntletHall$Hall") (o := o) (d := 0) hx hb hts hfX1 hown hK hP (hC.1 o ho (o, 0) (List.mem_of_getElem? (i := 0) rfl)) (z_lH_0 (o := o) ho) rfl 5 (by decide) (hts (.fieldLink RX1 28 "GauntletHall$Hall" "might" "[I") (by decide +kernel)) rfl rfl dX1_canTakeUp_21 ?_
      refine lv_iload_n hx hb dX1_canTakeUp_24 rfl (lv_at hl 1 rfl) ?_
      obtain ⟨i5, hw⟩ := hw
      refine z_iald (o := o) (d := 5) hx hb hK hP (hC.1 o ho (o, 5) (List.mem_of_getElem? (i := 2) rfl)) (z_lH_5 (o := o) ho) i5 (z_up_val X o h 5 (z_n x1)) dX1_canTakeUp_25 ?_
      refine lv_if_le (tgt := 72) hx hb dX1_canTakeUp_26 (by decide) (fun c6 => ?_) (fun c6 => ?_)
      · replace hw := hw.1 c6
        refine lv_iconst (v := (0 : Int32)) hx hb dX1_canTakeUp_72 (by decide) ?_
        exact z_retz C (Or.inl rfl) hP hS ⟨rfl, hw⟩ dX1_canTakeUp_73
      · replace hw := hw.2 c6
        refine lv_aload_n hx hb dX1_canTakeUp_29 rfl (lv_at hl 0 rfl) ?_
        refine z_getr (C := RX1) (T := TX1) (N := 13) (ref := "GauntletHall$Hall") (o := o) (d := 0) hx hb hts hfX1 hown hK hP (hC.1 o ho (o, 0) (List.mem_of_getElem? (i := 0) rfl)) (z_lH_0 (o := o) ho) rfl 7 (by decide) (hts (.fieldLink RX1 34 "GauntletHall$Hall" "kind" "[I") (by decide +kernel)) rfl rfl dX1_canTakeUp_30 ?_
        refine lv_iload_n hx hb dX1_canTakeUp_33 rfl (lv_at hl 2 rfl) ?_
        obtain ⟨i7, hw⟩ := hw
        refine z_iald (o := o) (d := 7) hx hb hK hP (hC.1 o ho (o, 7) (List.mem_of_getElem? (i := 4) rfl)) (z_lH_7 (o := o) ho) i7 (z_up_val X o h 7 (z_n x2)) dX1_canTakeUp_34 ?_
        refine lv_aload_n hx hb dX1_canTakeUp_35 rfl (lv_at hl 0 rfl) ?_
        refine z_getr (C := RX1) (T := TX1) (N := 13) (ref := "GauntletHall$Hall") (o := o) (d := 0) hx hb hts hfX1 hown hK hP (hC.1 o ho (o, 0) (List.mem_of_getElem? (i := 0) rfl)) (z_lH_0 (o := o) ho) rfl 7 (by decide) (hts (.fieldLink RX1 34 "GauntletHall$Hall" "kind" "[I") (by decide +kernel)) rfl rfl dX1_canTakeUp_36 ?_
        refine lv_iload_n hx hb dX1_canTakeUp_39 rfl (lv_at hl 2 rfl) ?_
        obtain ⟨i8, hw⟩ := hw
        refine z_iald (o := o) (d := 7) hx hb hK hP (hC.1 o ho (o, 7) (List.mem_of_getElem? (i := 4) rfl)) (z_lH_7 (o := o) ho) i8 (z_up_val X o h 7 (z_n x2)) dX1_canTakeUp_40 ?_
        refine lv_aload_n hx hb dX1_canTakeUp_41 rfl (lv_at hl 0 rfl) ?_
        refine z_getr (C := RX1) (T := TX1) (N := 13) (ref := "GauntletHall$Hall") (o := o) (d := 0) hx hb hts hfX1 hown hK hP (hC.1 o ho (o, 0) (List.mem_of_getElem? (i := 0) rfl)) (z_lH_0 (o := o) ho) rfl 8 (by decide) (hts (.fieldLink RX1 37 "GauntletHall$Hall" "size" "[I") (by decide +kernel)) rfl rfl dX1_canTakeUp_42 ?_
        refine lv_iload_n hx hb dX1_canTakeUp_45 rfl (lv_at hl 2 rfl) ?_
        obtain ⟨i9, hw⟩ := hw
        refine z_iald (o := o) (d := 8) hx hb hK hP (hC.1 o ho (o, 8) (List.mem_of_getElem? (i := 5) rfl)) (z_lH_8 (o := o) ho) i9 (z_up_val X o h 8 (z_n x2)) dX1_canTakeUp_46 ?_
        refine lv_aload_n hx hb dX1_canTakeUp_47 rfl (lv_at hl 0 rfl) ?_
        refine z_getr (C := RX1) (T := TX1) (N := 13) (ref := "GauntletHall$Hall") (o := o) (d := 0) hx hb hts hfX1 hown hK hP (hC.1 o ho (o, 0) (List.mem_of_getElem? (i := 0) rfl)) (z_lH_0 (o := o) ho) rfl 11 (by decide) (hts (.fieldLink RX1 46 "GauntletHall$Hall" "lain" "[I") (by decide +kernel)) rfl rfl dX1_canTakeUp_48 ?_
        refine lv_iload_n hx hb dX1_canTakeUp_51 rfl (lv_at hl 2 rfl) ?_
        obtain ⟨i10, hw⟩ := hw
        refine z_iald (o := o) (d := 11) hx hb hK hP (hC.1 o ho (o, 11) (List.mem_of_getElem? (i := 8) rfl)) (z_lH_11 (o := o) ho) i10 (z_up_val X o h 11 (z_n x2)) dX1_canTakeUp_52 ?_
        refine z_sn (host := "GauntletHall") (rest := [.int (h 7 (z_n x2))]) ⟨hx, hb, hml, hown, hts⟩ (m_X5_sizeByNow l hE (z_up X o h) (h 7 (z_n x2)) (h 8 (z_n x2)) (h 11 (z_n x2)) _ hw) (va_cnB 3 hts gX1_canTakeUp_X5_sizeByNow_n70 rfl rfl rfl (hK.2 _ (List.mem_of_getElem? (i := 2) rfl)) (hts (.initialized RX5) (by decide +kernel)) (by decide +kernel) ⟨Nat.le_of_ble_eq_true rfl, Nat.le_of_ble_eq_true rfl⟩) (hts (.static yX5_sizeByNow) (by decide +kernel)) hK hP hS rfl hl.1 rfl (Nat.le_of_ble_eq_true rfl) dX1_canTakeUp_53 ⟨Nat.zero_le _, Nat.zero_le _⟩ (fun r11 u H locs hk hP hS => ?_)
        obtain ⟨eu, hw⟩ := hk
        rw [eu] at hP
        refine lv_aload_n hx hb dX1_canTakeUp_56 rfl (lv_at hl 0 rfl) ?_
        refine z_getr (C := RX1) (T := TX1) (N := 13) (ref := "GauntletHall$Hall") (o := o) (d := 0) hx hb hts hfX1 hown hK hP (hC.1 o ho (o, 0) (List.mem_of_getElem? (i := 0) rfl)) (z_lH_0 (o := o) ho) rfl 4 (by decide) (hts (.fieldLink RX1 24 "GauntletHall$Hall" "hand" "[I") (by decide +kernel)) rfl rfl dX1_canTakeUp_57 ?_
        refine lv_iload_n hx hb dX1_canTakeUp_60 rfl (lv_at hl 1 rfl) ?_
        obtain ⟨i12, hw⟩ := hw
        refine z_iald (o := o) (d := 4) hx hb hK hP (hC.1 o ho (o, 4) (List.mem_of_getElem? (i := 1) rfl)) (z_lH_4 (o := o) ho) i12 (z_up_val X o h 4 (z_n x1)) dX1_canTakeUp_61 ?_
        refine z_sn (host := "GauntletHall") (rest := []) ⟨hx, hb, hml, hown, hts⟩ (m_X5_isAsLarge l hE (z_up X o h) (h 7 (z_n x2)) r11 (h 4 (z_n x1)) _ hw) (va_cnB 3 hts gX1_canTakeUp_X5_isAsLarge_n74 rfl rfl rfl (hK.2 _ (List.mem_of_getElem? (i := 3) rfl)) (hts (.initialized RX5) (by decide +kernel)) (by decide +kernel) ⟨Nat.le_of_ble_eq_true rfl, Nat.le_of_ble_eq_true rfl⟩) (hts (.static yX5_isAsLarge) (by decide +kernel)) hK hP hS rfl hl.1 rfl (Nat.le_of_ble_eq_true rfl) dX1_canTakeUp_62 ⟨Nat.zero_le _, Nat.zero_le _⟩ (fun r13 u H locs hk hP hS => ?_)
        obtain ⟨eu, hw⟩ := hk
        rw [eu] at hP
        refine lv_if_eq (tgt := 72) hx hb dX1_canTakeUp_65 (by decide) (fun c14 => ?_) (fun c14 => ?_)
        · replace hw := hw.1 c14
          refine lv_iconst (v := (0 : Int32)) hx hb dX1_canTakeUp_72 (by decide) ?_
          exact z_retz C (Or.inl rfl) hP hS ⟨rfl, hw⟩ dX1_canTakeUp_73
        · replace hw := hw.2 c14
          refine lv_iconst (v := (1 : Int32)) hx hb dX1_canTakeUp_68 (by decide) ?_
          refine lv_goto (tgt := 73) hx hb dX1_canTakeUp_69 (by decide) ?_
          exact z_retz C (Or.inr rfl) hP hS ⟨rfl, hw⟩ dX1_canTakeUp_73
set_option maxHeartbeats 4000000 in
set_option maxRecDepth 100000 in
theorem m_X1_lowestFor_b2_s {p : Program} {l : Launch} {e : Env} {s : State} {m : MethodId} {args : Array Value} {below : List Frame} {meth : Method} {c : Code} {E : z_E} (C : z_Cx p E s m args meth c cX1_lowestFor 3 wsX1_lowestFor RX1 (some .int)) (hC : z_cls E) (o : Nat) (ho : o < 13) (X : z_X) (h : z_G) (K : Int32 → Prop) (L2 : Int32 → Int32 → Prop) (k2 : ∀ (x1 : Int32) (x2 : Int32), L2 x1 x2 → ∀ {H : Heap} {locs : List Loc}, z_P E (z_up X o h) H → va_S (z_A E) s.heap H locs → ∀ (ls : Array Slot), lv_has ls 3 [(0, .ref (z_a E o 0)), (1, .int x1), (2, .int x2)] → W p l e rX1_lowestFor s m args below meth c H locs 0 0 (MQ below (va_Qi (fun r X' => X' = (z_up X o h) ∧ K r) (fun u t => z_P E u t.heap) (z_A E)) args s 0 0 (z_A E)) (F0 m 2 ls [])) (x1 : Int32) (x2 : Int32) (hw : v_X1_lowestFor_b2_s h K L2 x1 x2) {H : Heap} {locs : List Loc} (hP : z_P E (z_up X o h) H) (hS : va_S (z_A E) s.heap H locs) {ls : Array Slot} (hl : lv_has ls 3 [(0, .ref (z_a E o 0)), (1, .int x1), (2, .int x2)]) : W p l e rX1_lowestFor s m args below meth c H locs 0 0 (MQ below (va_Qi (fun r X' => X' = (z_up X o h) ∧ K r) (fun u t => z_P E u t.heap) (z_A E)) args s 0 0 (z_A E)) (F0 m 2 ls []) := by
  obtain ⟨hx, hb, hml, hr, hlocks, hown, hts, hK, hE⟩ := id C
  have hfX1 : ∀ w ∈ u_ws RX1 TX1 13, w ∈ wsX1_lowestFor := by decide +kernel
  unfold v_X1_lowestFor_b2_s at hw
  refine lv_iload_n hx hb dX1_lowestFor_2 rfl (lv_at hl 2 rfl) ?_
  refine lv_aload_n hx hb dX1_lowestFor_3 rfl (lv_at hl 0 rfl) ?_
  refine z_geti (C := RX1) (T := TX1) (N := 13) (ref := "GauntletHall$Hall") (o := o) (d := 0) hx hb hts hfX1 hown hK hP (hC.1 o ho (o, 0) (List.mem_of_getElem? (i := 0) rfl)) (z_lH_0 (o := o) ho) rfl 1 (by decide) (hts (.fieldLink RX1 15 "GauntletHall$Hall" "gloves" "I") (by decide +kernel)) rfl rfl (z_up_val X o h 0 1) dX1_lowestFor_4 ?_
  refine lv_icmp_ge (tgt := 27) hx hb dX1_lowestFor_7 (by decide) (fun c1 => ?_) (fun c1 => ?_)
  · replace hw := hw.1 c1
    refine lv_bipush (v := (-4 : Int32)) hx hb dX1_lowestFor_27 (by decide) ?_
    exact z_reti C hP hS ⟨rfl, hw⟩ dX1_lowestFor_29
  · replace hw := hw.2 c1
    refine lv_aload_n hx hb dX1_lowestFor_10 rfl (lv_at hl 0 rfl) ?_
    refine lv_iload_n hx hb dX1_lowestFor_11 rfl (lv_at hl 1 rfl) ?_
    refine lv_iload_n hx hb dX1_lowestFor_12 rfl (lv_at hl 2 rfl) ?_
    refine z_vi (C := RX1) (T := TX1) (N := 13) (o := o) (rest := []) ⟨hx, hb, hml, hown, hts⟩ (m_X1_canTakeUp l hE hC o ho X h x1 x2 _ hw) (cwV 2 hts gX1_lowestFor_X1_canTakeUp rfl rfl rfl (by decide +kernel) ⟨Nat.le_of_ble_eq_true rfl, Nat.le_of_ble_eq_true rfl⟩) hK hP hS (hC.1 o ho (o, 0) (List.mem_of_getElem? (i := 0) rfl)) (z_lH_0 (o := o) ho) rfl rfl hl.1 rfl (Nat.le_of_ble_eq_true rfl) dX1_lowestFor_13 ⟨Nat.zero_le _, Nat.zero_le _⟩ (fun r2 u H locs hk hP hS => ?_)
    obtain ⟨eu, hw⟩ := hk
    rw [eu] at hP
    refine lv_if_eq (tgt := 21) hx hb dX1_lowestFor_16 (by decide) (fun c3 => ?_) (fun c3 => ?_)
    · replace hw := hw.1 c3
      obtain ⟨y4, ey4⟩ : ∃ z : Int32, z = x2 + (1 : Int32) := ⟨_, rfl⟩
      replace hw := hw y4 ey4
      refine lv_iinc (v := y4) (lv' := [(2, .int y4), (0, .ref (z_a E o 0)), (1, .int x1)]) hx hb dX1_lowestFor_21 hl (k := 2) rfl (by rw [ey4]; rfl) (by decide) rfl (fun ls hl => ?_)
      refine lv_goto (tgt := 2) hx hb dX1_lowestFor_24 (by decide) ?_
      exact k2 x1 y4 hw hP hS _ (lv_sub hl [1, 2, 0] rfl)
    · replace hw := hw.2 c3
      refine lv_iload_n hx hb dX1_lowestFor_19 rfl (lv_at hl 2 rfl) ?_
      exact z_reti C hP hS ⟨rfl, hw⟩ dX1_lowestFor_20
theorem m_X1_lowestFor_b2 {p : Program} {l : Launch} {e : Env} {s : State} {m : MethodId} {args : Array Value} {below : List Frame} {meth : Method} {c : Code} {E : z_E} (C : z_Cx p E s m args meth c cX1_lowestFor 3 wsX1_lowestFor RX1 (some .int)) (hC : z_cls E) (o : Nat) (ho : o < 13) (X : z_X) (h : z_G) (K : Int32 → Prop) (x1 : Int32) (x2 : Int32) (hw : v_X1_lowestFor_b2 h K x1 x2) {H : Heap} {locs : List Loc} (hP : z_P E (z_up X o h) H) (hS : va_S (z_A E) s.heap H locs) {ls : Array Slot} (hl : lv_has ls 3 [(0, .ref (z_a E o 0)), (1, .int x1), (2, .int x2)]) : W p l e rX1_lowestFor s m args below meth c H locs 0 0 (MQ below (va_Qi (fun r X' => X' = (z_up X o h) ∧ K r) (fun u t => z_P E u t.heap) (z_A E)) args s 0 0 (z_A E)) (F0 m 2 ls []) := by
  obtain ⟨n, hw⟩ := hw
  revert hw hP hS hl
  revert x1 x2 H locs ls
  induction n with
  | zero => intro x1 x2 H locs ls hP hS hl hw; exact hw.elim
  | succ n ih =>
    intro x1 x2 H locs ls hP hS hl hw
    exact m_X1_lowestFor_b2_s C hC o ho X h K (fun x1 x2 => z_fp (σ := Int32 × Int32) (fun Lp q => v_X1_lowestFor_b2_s h K (fun x1 x2 => Lp (x1, x2)) q.1 q.2) n (x1, x2)) (fun x1 x2 h9 H locs hP hS ls hl => ih x1 x2 hP hS hl h9) x1 x2 hw hP hS hl
set_option maxHeartbeats 4000000 in
set_option maxRecDepth 100000 in
theorem m_X1_lowestFor (l : Launch) {E : z_E} (hE : z_ok E) (hC : z_cls E) (o : Nat) (ho : o < 13) (X : z_X) (h : z_G) (x1 : Int32) (K : Int32 → Prop) (hw : v_X1_lowestFor h x1 K) : z_CI l E yX1_lowestFor wsX1_lowestFor rX1_lowestFor [.ref (z_a E o 0), .int x1] (z_up X o h) (fun r X' => X' = (z_up X o h) ∧ K r) := by
  refine z_start (cc := cX1_lowestFor) (maxL := 3) (ret := (some .int)) hE (by decide) rfl (Nat.le_of_ble_eq_true rfl) ?_
  intro p e s m below meth c C hP hS ls hl
  have C : z_Cx p E s m _ meth c cX1_lowestFor 3 wsX1_lowestFor RX1 (some .int) := C
  obtain ⟨hx, hb, hml, hr, hlocks, hown, hts, hK, hE⟩ := id C
  have hl : lv_has ls 3 [(0, .ref (z_a E o 0)), (1, .int x1)] := hl
  have hfX1 : ∀ w ∈ u_ws RX1 TX1 13, w ∈ wsX1_lowestFor := by decide +kernel
  unfold v_X1_lowestFor at hw
  refine lv_iconst (v := (0 : Int32)) hx hb dX1_lowestFor_0 (by decide) ?_
  refine lv_istore_n (lv' := [(2, .int (0 : Int32)), (0, .ref (z_a E o 0)), (1, .int x1)]) hx hb dX1_lowestFor_1 rfl hl (by decide) rfl (fun ls hl => ?_)
  exact m_X1_lowestFor_b2 C hC o ho X h K x1 (0 : Int32) hw hP hS (lv_sub hl [1, 2, 0] rfl)
set_option maxHeartbeats 4000000 in
set_option maxRecDepth 100000 in
theorem m_X5_mightByFight (l : Launch) {E : z_E} (hE : z_ok E) (X : z_X) (x0 : Int32) (x1 : Int32) (K : Int32 → Prop) (hw : v_X5_mightByFight x0 x1 K) : z_CI l E yX5_mightByFight wsX5_mightByFight rX5_mightByFight [.int x0, .int x1] X (fun r X' => X' = X ∧ K r) := by
  refine z_start (cc := cX5_mightByFight) (maxL := 2) (ret := (some .int)) hE (by decide) rfl (Nat.le_of_ble_eq_true rfl) ?_
  intro p e s m below meth c C hP hS ls hl
  have C : z_Cx p E s m _ meth c cX5_mightByFight 2 wsX5_mightByFight RX5 (some .int) := C
  obtain ⟨hx, hb, hml, hr, hlocks, hown, hts, hK, hE⟩ := id C
  have hl : lv_has ls 2 [(0, .int x0), (1, .int x1)] := hl
  unfold v_X5_mightByFight at hw
  refine lv_iload_n hx hb dX5_mightByFight_0 rfl (lv_at hl 0 rfl) ?_
  refine lv_iload_n hx hb dX5_mightByFight_1 rfl (lv_at hl 1 rfl) ?_
  refine lv_icmp_le (tgt := 17) hx hb dX5_mightByFight_2 (by decide) (fun c1 => ?_) (fun c1 => ?_)
  · replace hw := hw.1 c1
    refine lv_iconst (v := (0 : Int32)) hx hb dX5_mightByFight_17 (by decide) ?_
    exact z_reti C hP hS ⟨rfl, hw⟩ dX5_mightByFight_18
  · replace hw := hw.2 c1
    refine lv_iconst (v := (1 : Int32)) hx hb dX5_mightByFight_5 (by decide) ?_
    refine lv_iload_n hx hb dX5_mightByFight_6 rfl (lv_at hl 0 rfl) ?_
    refine lv_iload_n hx hb dX5_mightByFight_7 rfl (lv_at hl 1 rfl) ?_
    refine lv_iconst (v := (2 : Int32)) hx hb dX5_mightByFight_8 (by decide) ?_
    refine lv_idiv hx hb dX5_mightByFight_9 (by decide) ?_
    refine lv_isub hx hb dX5_mightByFight_10 ?_
    refine va_mmax hx hb (hml.trans hl.1.symm) hown (hts (.methodLink RX5 119 Lib.Math.max.name) (by decide +kernel)) (hts (.static Lib.Math.max.name) (by decide +kernel)) (hts (.initialized "java/lang/Math") (by decide +kernel)) (hts (.code Lib.Math.max.name Lib.Math.max.code 2 (some .int)) (by decide +kernel)) (Nat.le_of_ble_eq_true rfl) (Nat.le_of_ble_eq_true rfl) (Nat.zero_le _) (Nat.zero_le _) dX5_mightByFight_11 ?_
    refine lv_goto (tgt := 18) hx hb dX5_mightByFight_14 (by decide) ?_
    exact z_reti C hP hS ⟨rfl, hw⟩ dX5_mightByFight_18
set_option maxHeartbeats 4000000 in
set_option maxRecDepth 100000 in
theorem m_X1_takeUp (l : Launch) {E : z_E} (hE : z_ok E) (hC : z_cls E) (o : Nat) (ho : o < 13) (X : z_X) (h : z_G) (x1 : Int32) (x2 : Int32) (K : z_G → Prop) (hw : v_X1_takeUp h x1 x2 K) : z_CV l E yX1_takeUp wsX1_takeUp rX1_takeUp [.ref (z_a E o 0), .int x1, .int x2] (z_up X o h) (fun X' => ∃ h', X' = z_up X o h' ∧ K h') := by
  refine z_start (cc := cX1_takeUp) (maxL := 6) (ret := none) hE (by decide) rfl (Nat.le_of_ble_eq_true rfl) ?_
  intro p e s m below meth c C hP hS ls hl
  have C : z_Cx p E s m _ meth c cX1_takeUp 6 wsX1_takeUp RX1 none := C
  obtain ⟨hx, hb, hml, hr, hlocks, hown, hts, hK, hE⟩ := id C
  have hl : lv_has ls 6 [(0, .ref (z_a E o 0)), (1, .int x1), (2, .int x2)] := hl
  have hfX1 : ∀ w ∈ u_ws RX1 TX1 13, w ∈ wsX1_takeUp := by decide +kernel
  unfold v_X1_takeUp at hw
  refine lv_aload_n hx hb dX1_takeUp_0 rfl (lv_at hl 0 rfl) ?_
  refine z_getr (C := RX1) (T := TX1) (N := 13) (ref := "GauntletHall$Hall") (o := o) (d := 0) hx hb hts hfX1 hown hK hP (hC.1 o ho (o, 0) (List.mem_of_getElem? (i := 0) rfl)) (z_lH_0 (o := o) ho) rfl 9 (by decide) (hts (.fieldLink RX1 40 "GauntletHall$Hall" "owner" "[I") (by decide +kernel)) rfl rfl dX1_takeUp_1 ?_
  refine lv_iload_n hx hb dX1_takeUp_4 rfl (lv_at hl 2 rfl) ?_
  obtain ⟨i1, hw⟩ := hw
  refine z_iald (o := o) (d := 9) hx hb hK hP (hC.1 o ho (o, 9) (List.mem_of_getElem? (i := 6) rfl)) (z_lH_9 (o := o) ho) i1 (z_up_val X o h 9 (z_n x2)) dX1_takeUp_5 ?_
  refine lv_topi (fun y2 ey2 => ?_)
  replace hw := hw y2 ey2
  refine lv_istore_n (lv' := [(3, .int y2), (0, .ref (z_a E o 0)), (1, .int x1), (2, .int x2)]) hx hb dX1_takeUp_6 rfl hl (by decide) rfl (fun ls hl => ?_)
  refine lv_aload_n hx hb dX1_takeUp_7 rfl (lv_at hl 1 rfl) ?_
  refine z_getr (C := RX1) (T := TX1) (N := 13) (ref := "GauntletHall$Hall") (o := o) (d := 0) hx hb hts hfX1 hown hK hP (hC.1 o ho (o, 0) (List.mem_of_getElem? (i := 0) rfl)) (z_lH_0 (o := o) ho) rfl 10 (by decide) (hts (.fieldLink RX1 43 "GauntletHall$Hall" "lies" "[I") (by decide +kernel)) rfl rfl dX1_takeUp_8 ?_
  refine lv_iload_n hx hb dX1_takeUp_11 rfl (lv_at hl 3 rfl) ?_
  refine lv_iconst (v := (0 : Int32)) hx hb dX1_takeUp_12 (by decide) ?_
  obtain ⟨i3, hw⟩ := hw
  obtain ⟨h4, eh4⟩ : ∃ z : z_G, z = z_ss h 10 (z_n x2) (0 : Int32) := ⟨_, rfl⟩
  replace hw := hw h4 eh4
  refine z_iast (o := o) (d := 10) (X' := z_up X o h4) hx hb hK hE hP hS (hC.1 o ho (o, 10) (List.mem_of_getElem? (i := 7) rfl)) (z_lH_10 (o := o) ho) i3 (by rw [eh4]; exact z_up_put X o h 10 (z_n x2) _) dX1_takeUp_13 (fun H locs hP hS => ?_)
  refine lv_aload_n hx hb dX1_takeUp_14 rfl (lv_at hl 1 rfl) ?_
  refine z_getr (C := RX1) (T := TX1) (N := 13) (ref := "GauntletHall$Hall") (o := o) (d := 0) hx hb hts hfX1 hown hK hP (hC.1 o ho (o, 0) (List.mem_of_getElem? (i := 0) rfl)) (z_lH_0 (o := o) ho) rfl 12 (by decide) (hts (.fieldLink RX1 49 "GauntletHall$Hall" "taker" "[I") (by decide +kernel)) rfl rfl dX1_takeUp_15 ?_
  refine lv_iload_n hx hb dX1_takeUp_18 rfl (lv_at hl 3 rfl) ?_
  refine lv_iload_n hx hb dX1_takeUp_19 rfl (lv_at hl 2 rfl) ?_
  obtain ⟨i5, hw⟩ := hw
  obtain ⟨h6, eh6⟩ : ∃ z : z_G, z = z_ss h4 12 (z_n x2) x1 := ⟨_, rfl⟩
  replace hw := hw h6 eh6
  refine z_iast (o := o) (d := 12) (X' := z_up X o h6) hx hb hK hE hP hS (hC.1 o ho (o, 12) (List.mem_of_getElem? (i := 9) rfl)) (z_lH_12 (o := o) ho) i5 (by rw [eh6]; exact z_up_put X o h4 12 (z_n x2) _) dX1_takeUp_20 (fun H locs hP hS => ?_)
  refine lv_aload_n hx hb dX1_takeUp_21 rfl (lv_at hl 1 rfl) ?_
  refine z_getr (C := RX1) (T := TX1) (N := 13) (ref := "GauntletHall$Hall") (o := o) (d := 0) hx hb hts hfX1 hown hK hP (hC.1 o ho (o, 0) (List.mem_of_getElem? (i := 0) rfl)) (z_lH_0 (o := o) ho) rfl 5 (by decide) (hts (.fieldLink RX1 28 "GauntletHall$Hall" "might" "[I") (by decide +kernel)) rfl rfl dX1_takeUp_22 ?_
  refine lv_iload_n hx hb dX1_takeUp_25 rfl (lv_at hl 0 rfl) ?_
  obtain ⟨i7, hw⟩ := hw
  refine z_iald (o := o) (d := 5) hx hb hK hP (hC.1 o ho (o, 5) (List.mem_of_getElem? (i := 2) rfl)) (z_lH_5 (o := o) ho) i7 (z_up_val X o h6 5 (z_n y2)) dX1_takeUp_26 ?_
  refine lv_if_ne (tgt := 31) hx hb dX1_takeUp_27 (by decide) (fun c8 => ?_) (fun c8 => ?_)
  · replace hw := hw.1 c8
    refine lv_aload_n hx hb dX1_takeUp_31 rfl (lv_at hl 1 rfl) ?_
    refine z_getr (C := RX1) (T := TX1) (N := 13) (ref := "GauntletHall$Hall") (o := o) (d := 0) hx hb hts hfX1 hown hK hP (hC.1 o ho (o, 0) (List.mem_of_getElem? (i := 0) rfl)) (z_lH_0 (o := o) ho) rfl 5 (by decide) (hts (.fieldLink RX1 28 "GauntletHall$Hall" "might" "[I") (by decide +kernel)) rfl rfl dX1_takeUp_32 ?_
    refine lv_iload_n hx hb dX1_takeUp_35 rfl (lv_at hl 2 rfl) ?_
    obtain ⟨i9, hw⟩ := hw
    refine z_iald (o := o) (d := 5) hx hb hK hP (hC.1 o ho (o, 5) (List.mem_of_getElem? (i := 2) rfl)) (z_lH_5 (o := o) ho) i9 (z_up_val X o h6 5 (z_n x1)) dX1_takeUp_36 ?_
    refine lv_topi (fun y10 ey10 => ?_)
    replace hw := hw y10 ey10
    refine lv_istore (lv' := [(4, .int y10), (3, .int y2), (0, .ref (z_a E o 0)), (1, .int x1), (2, .int x2)]) hx hb dX1_takeUp_37 hl (by decide) rfl (fun ls hl => ?_)
    refine lv_aload_n hx hb dX1_takeUp_39 rfl (lv_at hl 2 rfl) ?_
    refine z_getr (C := RX1) (T := TX1) (N := 13) (ref := "GauntletHall$Hall") (o := o) (d := 0) hx hb hts hfX1 hown hK hP (hC.1 o ho (o, 0) (List.mem_of_getElem? (i := 0) rfl)) (z_lH_0 (o := o) ho) rfl 5 (by decide) (hts (.fieldLink RX1 28 "GauntletHall$Hall" "might" "[I") (by decide +kernel)) rfl rfl dX1_takeUp_40 ?_
    refine lv_iload_n hx hb dX1_takeUp_43 rfl (lv_at hl 1 rfl) ?_
    obtain ⟨i11, hw⟩ := hw
    refine z_iald (o := o) (d := 5) hx hb hK hP (hC.1 o ho (o, 5) (List.mem_of_getElem? (i := 2) rfl)) (z_lH_5 (o := o) ho) i11 (z_up_val X o h6 5 (z_n y2)) dX1_takeUp_44 ?_
    refine lv_topi (fun y12 ey12 => ?_)
    replace hw := hw y12 ey12
    refine lv_istore (lv' := [(5, .int y12), (4, .int y10), (3, .int y2), (0, .ref (z_a E o 0)), (1, .int x1), (2, .int x2)]) hx hb dX1_takeUp_45 hl (by decide) rfl (fun ls hl => ?_)
    refine lv_aload_n hx hb dX1_takeUp_47 rfl (lv_at hl 3 rfl) ?_
    refine z_getr (C := RX1) (T := TX1) (N := 13) (ref := "GauntletHall$Hall") (o := o) (d := 0) hx hb hts hfX1 hown hK hP (hC.1 o ho (o, 0) (List.mem_of_getElem? (i := 0) rfl)) (z_lH_0 (o := o) ho) rfl 5 (by decide) (hts (.fieldLink RX1 28 "GauntletHall$Hall" "might" "[I") (by decide +kernel)) rfl rfl dX1_takeUp_48 ?_
    refine lv_iload_n hx hb dX1_takeUp_51 rfl (lv_at hl 4 rfl) ?_
    refine lv_iload hx hb dX1_takeUp_52 (lv_at hl 1 rfl) ?_
    refine lv_iload hx hb dX1_takeUp_54 (lv_at hl 0 rfl) ?_
    refine z_sn (host := "GauntletHall") (rest := [.int x1, .ref (z_a E o 5)]) ⟨hx, hb, hml, hown, hts⟩ (m_X5_mightByFight l hE (z_up X o h6) y10 y12 _ hw) (va_cnB 2 hts gX1_takeUp_X5_mightByFight_n77 rfl rfl rfl (hK.2 _ (List.mem_of_getElem? (i := 4) rfl)) (hts (.initialized RX5) (by decide +kernel)) (by decide +kernel) ⟨Nat.le_of_ble_eq_true rfl, Nat.le_of_ble_eq_true rfl⟩) (hts (.static yX5_mightByFight) (by decide +kernel)) hK hP hS rfl hl.1 rfl (Nat.le_of_ble_eq_true rfl) dX1_takeUp_56 ⟨Nat.zero_le _, Nat.zero_le _⟩ (fun r13 u H locs hk hP hS => ?_)
    obtain ⟨eu, hw⟩ := hk
    rw [eu] at hP
    obtain ⟨i14, hw⟩ := hw
    obtain ⟨h15, eh15⟩ : ∃ z : z_G, z = z_ss h6 5 (z_n x1) r13 := ⟨_, rfl⟩
    replace hw := hw h15 eh15
    refine z_iast (o := o) (d := 5) (X' := z_up X o h15) hx hb hK hE hP hS (hC.1 o ho (o, 5) (List.mem_of_getElem? (i := 2) rfl)) (z_lH_5 (o := o) ho) i14 (by rw [eh15]; exact z_up_put X o h6 5 (z_n x1) _) dX1_takeUp_59 (fun H locs hP hS => ?_)
    refine lv_aload_n hx hb dX1_takeUp_60 rfl (lv_at hl 3 rfl) ?_
    refine z_getr (C := RX1) (T := TX1) (N := 13) (ref := "GauntletHall$Hall") (o := o) (d := 0) hx hb hts hfX1 hown hK hP (hC.1 o ho (o, 0) (List.mem_of_getElem? (i := 0) rfl)) (z_lH_0 (o := o) ho) rfl 5 (by decide) (hts (.fieldLink RX1 28 "GauntletHall$Hall" "might" "[I") (by decide +kernel)) rfl rfl dX1_takeUp_61 ?_
    refine lv_iload_n hx hb dX1_takeUp_64 rfl (lv_at hl 2 rfl) ?_
    refine lv_iload hx hb dX1_takeUp_65 (lv_at hl 0 rfl) ?_
    refine lv_iload hx hb dX1_takeUp_67 (lv_at hl 1 rfl) ?_
    refine z_sn (host := "GauntletHall") (rest := [.int y2, .ref (z_a E o 5)]) ⟨hx, hb, hml, hown, hts⟩ (m_X5_mightByFight l hE (z_up X o h15) y12 y10 _ hw) (va_cnB 2 hts gX1_takeUp_X5_mightByFight_n77 rfl rfl rfl (hK.2 _ (List.mem_of_getElem? (i := 4) rfl)) (hts (.initialized RX5) (by decide +kernel)) (by decide +kernel) ⟨Nat.le_of_ble_eq_true rfl, Nat.le_of_ble_eq_true rfl⟩) (hts (.static yX5_mightByFight) (by decide +kernel)) hK hP hS rfl hl.1 rfl (Nat.le_of_ble_eq_true rfl) dX1_takeUp_69 ⟨Nat.zero_le _, Nat.zero_le _⟩ (fun r16 u H locs hk hP hS => ?_)
    obtain ⟨eu, hw⟩ := hk
    rw [eu] at hP
    obtain ⟨i17, hw⟩ := hw
    obtain ⟨h18, eh18⟩ : ∃ z : z_G, z = z_ss h15 5 (z_n y2) r16 := ⟨_, rfl⟩
    replace hw := hw h18 eh18
    refine z_iast (o := o) (d := 5) (X' := z_up X o h18) hx hb hK hE hP hS (hC.1 o ho (o, 5) (List.mem_of_getElem? (i := 2) rfl)) (z_lH_5 (o := o) ho) i17 (by rw [eh18]; exact z_up_put X o h15 5 (z_n y2) _) dX1_takeUp_72 (fun H locs hP hS => ?_)
    refine lv_aload_n hx hb dX1_takeUp_73 rfl (lv_at hl 3 rfl) ?_
    refine lv_dup hx hb dX1_takeUp_74 rfl ?_
    refine z_geti (C := RX1) (T := TX1) (N := 13) (ref := "GauntletHall$Hall") (o := o) (d := 0) hx hb hts hfX1 hown hK hP (hC.1 o ho (o, 0) (List.mem_of_getElem? (i := 0) rfl)) (z_lH_0 (o := o) ho) rfl 3 (by decide) (hts (.fieldLink RX1 21 "GauntletHall$Hall" "fights" "I") (by decide +kernel)) rfl rfl (z_up_val X o h18 0 3) dX1_takeUp_75 ?_
    refine lv_iconst (v := (1 : Int32)) hx hb dX1_takeUp_78 (by decide) ?_
    refine lv_iadd hx hb dX1_takeUp_79 ?_
    obtain ⟨h19, eh19⟩ : ∃ z : z_G, z = z_ss h18 0 3 ((h18 0 3) + (1 : Int32)) := ⟨_, rfl⟩
    replace hw := hw h19 eh19
    refine z_puti (C := RX1) (T := TX1) (N := 13) (ref := "GauntletHall$Hall") (o := o) (d := 0) (X' := z_up X o h19) hx hb hts hfX1 tyX1 tyX1_ok nmX1 hown hK hE hP hS (hC.1 o ho (o, 0) (List.mem_of_getElem? (i := 0) rfl)) (z_lH_0 (o := o) ho) rfl 3 (by decide) (hts (.fieldLink RX1 21 "GauntletHall$Hall" "fights" "I") (by decide +kernel)) rfl rfl (by decide +kernel) rfl (by rw [eh19]; exact z_up_put X o h18 0 3 _) dX1_takeUp_80 (fun H locs hP hS => ?_)
    exact z_retv C hP hS ⟨_, rfl, hw⟩ dX1_takeUp_83
  · replace hw := hw.2 c8
    exact z_retv C hP hS ⟨_, rfl, hw⟩ dX1_takeUp_30
set_option maxHeartbeats 4000000 in
set_option maxRecDepth 100000 in
theorem m_X1_reignGoesBy_b64_s {p : Program} {l : Launch} {e : Env} {s : State} {m : MethodId} {args : Array Value} {below : List Frame} {meth : Method} {c : Code} {E : z_E} (C : z_Cx p E s m args meth c cX1_reignGoesBy 4 wsX1_reignGoesBy RX1 (some .boolean)) (hC : z_cls E) (o : Nat) (ho : o < 13) (X : z_X) (K : Int32 → z_G → Prop) (L64 : z_G → Int32 → Int32 → Prop) (k64 : ∀ (h : z_G) (x1 : Int32) (x2 : Int32), L64 h x1 x2 → ∀ {H : Heap} {locs : List Loc}, z_P E (z_up X o h) H → va_S (z_A E) s.heap H locs → ∀ (ls : Array Slot), lv_has ls 4 [(0, .ref (z_a E o 0)), (1, .int x1), (2, .int x2)] → W p l e rX1_reignGoesBy s m args below meth c H locs 0 0 (MQ below (va_Qi (fun r X' => ∃ h', X' = z_up X o h' ∧ K r h') (fun u t => z_P E u t.heap) (z_A E)) args s 0 0 (z_A E)) (F0 m 64 ls [])) (h : z_G) (x1 : Int32) (x2 : Int32) (hw : v_X1_reignGoesBy_b64_s K L64 h x1 x2) {H : Heap} {locs : List Loc} (hP : z_P E (z_up X o h) H) (hS : va_S (z_A E) s.heap H locs) {ls : Array Slot} (hl : lv_has ls 4 [(0, .ref (z_a E o 0)), (1, .int x1), (2, .int x2)]) : W p l e rX1_reignGoesBy s m args below meth c H locs 0 0 (MQ below (va_Qi (fun r X' => ∃ h', X' = z_up X o h' ∧ K r h') (fun u t => z_P E u t.heap) (z_A E)) args s 0 0 (z_A E)) (F0 m 64 ls []) := by
  obtain ⟨hx, hb, hml, hr, hlocks, hown, hts, hK, hE⟩ := id C
  have hfX1 : ∀ w ∈ u_ws RX1 TX1 13, w ∈ wsX1_reignGoesBy := by decide +kernel
  unfold v_X1_reignGoesBy_b64_s at hw
  refine lv_iload_n hx hb dX1_reignGoesBy_64 rfl (lv_at hl 2 rfl) ?_
  refine lv_aload_n hx hb dX1_reignGoesBy_65 rfl (lv_at hl 0 rfl) ?_
  refine z_geti (C := RX1) (T := TX1) (N := 13) (ref := "GauntletHall$Hall") (o := o) (d := 0) hx hb hts hfX1 hown hK hP (hC.1 o ho (o, 0) (List.mem_of_getElem? (i := 0) rfl)) (z_lH_0 (o := o) ho) rfl 1 (by decide) (hts (.fieldLink RX1 15 "GauntletHall$Hall" "gloves" "I") (by decide +kernel)) rfl rfl (z_up_val X o h 0 1) dX1_reignGoesBy_66 ?_
  refine lv_icmp_ge (tgt := 118) hx hb dX1_reignGoesBy_69 (by decide) (fun c2 => ?_) (fun c2 => ?_)
  · replace hw := hw.1 c2
    refine lv_aload_n hx hb dX1_reignGoesBy_118 rfl (lv_at hl 0 rfl) ?_
    refine lv_dup hx hb dX1_reignGoesBy_119 rfl ?_
    refine z_geti (C := RX1) (T := TX1) (N := 13) (ref := "GauntletHall$Hall") (o := o) (d := 0) hx hb hts hfX1 hown hK hP (hC.1 o ho (o, 0) (List.mem_of_getElem? (i := 0) rfl)) (z_lH_0 (o := o) ho) rfl 2 (by decide) (hts (.fieldLink RX1 18 "GauntletHall$Hall" "reign" "I") (by decide +kernel)) rfl rfl (z_up_val X o h 0 2) dX1_reignGoesBy_120 ?_
    refine lv_iconst (v := (1 : Int32)) hx hb dX1_reignGoesBy_123 (by decide) ?_
    refine lv_iadd hx hb dX1_reignGoesBy_124 ?_
    obtain ⟨h3, eh3⟩ : ∃ z : z_G, z = z_ss h 0 2 ((h 0 2) + (1 : Int32)) := ⟨_, rfl⟩
    replace hw := hw h3 eh3
    refine z_puti (C := RX1) (T := TX1) (N := 13) (ref := "GauntletHall$Hall") (o := o) (d := 0) (X' := z_up X o h3) hx hb hts hfX1 tyX1 tyX1_ok nmX1 hown hK hE hP hS (hC.1 o ho (o, 0) (List.mem_of_getElem? (i := 0) rfl)) (z_lH_0 (o := o) ho) rfl 2 (by decide) (hts (.fieldLink RX1 18 "GauntletHall$Hall" "reign" "I") (by decide +kernel)) rfl rfl (by decide +kernel) rfl (by rw [eh3]; exact z_up_put X o h 0 2 _) dX1_reignGoesBy_125 (fun H locs hP hS => ?_)
    refine lv_iload_n hx hb dX1_reignGoesBy_128 rfl (lv_at hl 1 rfl) ?_
    obtain ⟨hz, hw⟩ := hw
    exact z_retz C hz hP hS ⟨_, rfl, hw⟩ dX1_reignGoesBy_129
  · replace hw := hw.2 c2
    refine lv_aload_n hx hb dX1_reignGoesBy_72 rfl (lv_at hl 0 rfl) ?_
    refine z_getr (C := RX1) (T := TX1) (N := 13) (ref := "GauntletHall$Hall") (o := o) (d := 0) hx hb hts hfX1 hown hK hP (hC.1 o ho (o, 0) (List.mem_of_getElem? (i := 0) rfl)) (z_lH_0 (o := o) ho) rfl 10 (by decide) (hts (.fieldLink RX1 43 "GauntletHall$Hall" "lies" "[I") (by decide +kernel)) rfl rfl dX1_reignGoesBy_73 ?_
    refine lv_iload_n hx hb dX1_reignGoesBy_76 rfl (lv_at hl 2 rfl) ?_
    obtain ⟨i4, hw⟩ := hw
    refine z_iald (o := o) (d := 10) hx hb hK hP (hC.1 o ho (o, 10) (List.mem_of_getElem? (i := 7) rfl)) (z_lH_10 (o := o) ho) i4 (z_up_val X o h 10 (z_n x2)) dX1_reignGoesBy_77 ?_
    refine lv_iconst (v := (1 : Int32)) hx hb dX1_reignGoesBy_78 (by decide) ?_
    refine lv_icmp_ne (tgt := 112) hx hb dX1_reignGoesBy_79 (by decide) (fun c5 => ?_) (fun c5 => ?_)
    · replace hw := hw.1 c5
      obtain ⟨y6, ey6⟩ : ∃ z : Int32, z = x2 + (1 : Int32) := ⟨_, rfl⟩
      replace hw := hw y6 ey6
      refine lv_iinc (v := y6) (lv' := [(2, .int y6), (0, .ref (z_a E o 0)), (1, .int x1)]) hx hb dX1_reignGoesBy_112 hl (k := 2) rfl (by rw [ey6]; rfl) (by decide) rfl (fun ls hl => ?_)
      refine lv_goto (tgt := 64) hx hb dX1_reignGoesBy_115 (by decide) ?_
      exact k64 h x1 y6 hw hP hS _ (lv_sub hl [1, 2, 0] rfl)
    · replace hw := hw.2 c5
      refine lv_aload_n hx hb dX1_reignGoesBy_82 rfl (lv_at hl 0 rfl) ?_
      refine z_getr (C := RX1) (T := TX1) (N := 13) (ref := "GauntletHall$Hall") (o := o) (d := 0) hx hb hts hfX1 hown hK hP (hC.1 o ho (o, 0) (List.mem_of_getElem? (i := 0) rfl)) (z_lH_0 (o := o) ho) rfl 11 (by decide) (hts (.fieldLink RX1 46 "GauntletHall$Hall" "lain" "[I") (by decide +kernel)) rfl rfl dX1_reignGoesBy_83 ?_
      refine lv_iload_n hx hb dX1_reignGoesBy_86 rfl (lv_at hl 2 rfl) ?_
      refine lv_dup2_11 hx hb dX1_reignGoesBy_87 rfl rfl ?_
      obtain ⟨i7, hw⟩ := hw
      refine z_iald (o := o) (d := 11) hx hb hK hP (hC.1 o ho (o, 11) (List.mem_of_getElem? (i := 8) rfl)) (z_lH_11 (o := o) ho) i7 (z_up_val X o h 11 (z_n x2)) dX1_reignGoesBy_88 ?_
      refine lv_iconst (v := (1 : Int32)) hx hb dX1_reignGoesBy_89 (by decide) ?_
      refine lv_iadd hx hb dX1_reignGoesBy_90 ?_
      obtain ⟨i8, hw⟩ := hw
      obtain ⟨h9, eh9⟩ : ∃ z : z_G, z = z_ss h 11 (z_n x2) ((h 11 (z_n x2)) + (1 : Int32)) := ⟨_, rfl⟩
      replace hw := hw h9 eh9
      refine z_iast (o := o) (d := 11) (X' := z_up X o h9) hx hb hK hE hP hS (hC.1 o ho (o, 11) (List.mem_of_getElem? (i := 8) rfl)) (z_lH_11 (o := o) ho) i8 (by rw [eh9]; exact z_up_put X o h 11 (z_n x2) _) dX1_reignGoesBy_91 (fun H locs hP hS => ?_)
      refine lv_iload_n hx hb dX1_reignGoesBy_92 rfl (lv_at hl 1 rfl) ?_
      refine lv_if_ne (tgt := 106) hx hb dX1_reignGoesBy_93 (by decide) (fun c10 => ?_) (fun c10 => ?_)
      · replace hw := hw.1 c10
        refine lv_iconst (v := (1 : Int32)) hx hb dX1_reignGoesBy_106 (by decide) ?_
        refine lv_goto (tgt := 111) hx hb dX1_reignGoesBy_107 (by decide) ?_
        refine lv_istore_n (lv' := [(1, .int (1 : Int32)), (0, .ref (z_a E o 0)), (2, .int x2)]) hx hb dX1_reignGoesBy_111 rfl hl (by decide) rfl (fun ls hl => ?_)
        obtain ⟨y11, ey11⟩ : ∃ z : Int32, z = x2 + (1 : Int32) := ⟨_, rfl⟩
        replace hw := hw y11 ey11
        refine lv_iinc (v := y11) (lv' := [(2, .int y11), (1, .int (1 : Int32)), (0, .ref (z_a E o 0))]) hx hb dX1_reignGoesBy_112 hl (k := 2) rfl (by rw [ey11]; rfl) (by decide) rfl (fun ls hl => ?_)
        refine lv_goto (tgt := 64) hx hb dX1_reignGoesBy_115 (by decide) ?_
        exact k64 h9 (1 : Int32) y11 hw hP hS _ (lv_sub hl [2, 1, 0] rfl)
      · replace hw := hw.2 c10
        refine lv_aload_n hx hb dX1_reignGoesBy_96 rfl (lv_at hl 0 rfl) ?_
        refine z_getr (C := RX1) (T := TX1) (N := 13) (ref := "GauntletHall$Hall") (o := o) (d := 0) hx hb hts hfX1 hown hK hP (hC.1 o ho (o, 0) (List.mem_of_getElem? (i := 0) rfl)) (z_lH_0 (o := o) ho) rfl 7 (by decide) (hts (.fieldLink RX1 34 "GauntletHall$Hall" "kind" "[I") (by decide +kernel)) rfl rfl dX1_reignGoesBy_97 ?_
        refine lv_iload_n hx hb dX1_reignGoesBy_100 rfl (lv_at hl 2 rfl) ?_
        obtain ⟨i12, hw⟩ := hw
        refine z_iald (o := o) (d := 7) hx hb hK hP (hC.1 o ho (o, 7) (List.mem_of_getElem? (i := 4) rfl)) (z_lH_7 (o := o) ho) i12 (z_up_val X o h9 7 (z_n x2)) dX1_reignGoesBy_101 ?_
        refine lv_iconst (v := (3 : Int32)) hx hb dX1_reignGoesBy_102 (by decide) ?_
        refine lv_icmp_ne (tgt := 110) hx hb dX1_reignGoesBy_103 (by decide) (fun c13 => ?_) (fun c13 => ?_)
        · replace hw := hw.1 c13
          refine lv_iconst (v := (0 : Int32)) hx hb dX1_reignGoesBy_110 (by decide) ?_
          refine lv_istore_n (lv' := [(1, .int (0 : Int32)), (0, .ref (z_a E o 0)), (2, .int x2)]) hx hb dX1_reignGoesBy_111 rfl hl (by decide) rfl (fun ls hl => ?_)
          obtain ⟨y14, ey14⟩ : ∃ z : Int32, z = x2 + (1 : Int32) := ⟨_, rfl⟩
          replace hw := hw y14 ey14
          refine lv_iinc (v := y14) (lv' := [(2, .int y14), (1, .int (0 : Int32)), (0, .ref (z_a E o 0))]) hx hb dX1_reignGoesBy_112 hl (k := 2) rfl (by rw [ey14]; rfl) (by decide) rfl (fun ls hl => ?_)
          refine lv_goto (tgt := 64) hx hb dX1_reignGoesBy_115 (by decide) ?_
          exact k64 h9 (0 : Int32) y14 hw hP hS _ (lv_sub hl [2, 1, 0] rfl)
        · replace hw := hw.2 c13
          refine lv_iconst (v := (1 : Int32)) hx hb dX1_reignGoesBy_106 (by decide) ?_
          refine lv_goto (tgt := 111) hx hb dX1_reignGoesBy_107 (by decide) ?_
          refine lv_istore_n (lv' := [(1, .int (1 : Int32)), (0, .ref (z_a E o 0)), (2, .int x2)]) hx hb dX1_reignGoesBy_111 rfl hl (by decide) rfl (fun ls hl => ?_)
          obtain ⟨y15, ey15⟩ : ∃ z : Int32, z = x2 + (1 : Int32) := ⟨_, rfl⟩
          replace hw := hw y15 ey15
          refine lv_iinc (v := y15) (lv' := [(2, .int y15), (1, .int (1 : Int32)), (0, .ref (z_a E o 0))]) hx hb dX1_reignGoesBy_112 hl (k := 2) rfl (by rw [ey15]; rfl) (by decide) rfl (fun ls hl => ?_)
          refine lv_goto (tgt := 64) hx hb dX1_reignGoesBy_115 (by decide) ?_
          exact k64 h9 (1 : Int32) y15 hw hP hS _ (lv_sub hl [2, 1, 0] rfl)
theorem m_X1_reignGoesBy_b64 {p : Program} {l : Launch} {e : Env} {s : State} {m : MethodId} {args : Array Value} {below : List Frame} {meth : Method} {c : Code} {E : z_E} (C : z_Cx p E s m args meth c cX1_reignGoesBy 4 wsX1_reignGoesBy RX1 (some .boolean)) (hC : z_cls E) (o : Nat) (ho : o < 13) (X : z_X) (K : Int32 → z_G → Prop) (h : z_G) (x1 : Int32) (x2 : Int32) (hw : v_X1_reignGoesBy_b64 K h x1 x2) {H : Heap} {locs : List Loc} (hP : z_P E (z_up X o h) H) (hS : va_S (z_A E) s.heap H locs) {ls : Array Slot} (hl : lv_has ls 4 [(0, .ref (z_a E o 0)), (1, .int x1), (2, .int x2)]) : W p l e rX1_reignGoesBy s m args below meth c H locs 0 0 (MQ below (va_Qi (fun r X' => ∃ h', X' = z_up X o h' ∧ K r h') (fun u t => z_P E u t.heap) (z_A E)) args s 0 0 (z_A E)) (F0 m 64 ls []) := by
  obtain ⟨n, hw⟩ := hw
  revert hw hP hS hl
  revert h x1 x2 H locs ls
  induction n with
  | zero => intro h x1 x2 H locs ls hP hS hl hw; exact hw.elim
  | succ n ih =>
    intro h x1 x2 H locs ls hP hS hl hw
    exact m_X1_reignGoesBy_b64_s C hC o ho X K (fun h x1 x2 => z_fp (σ := z_G × Int32 × Int32) (fun Lp q => v_X1_reignGoesBy_b64_s K (fun h x1 x2 => Lp (h, x1, x2)) q.1 q.2.1 q.2.2) n (h, x1, x2)) (fun h x1 x2 h9 H locs hP hS ls hl => ih h x1 x2 hP hS hl h9) h x1 x2 hw hP hS hl
set_option maxHeartbeats 4000000 in
set_option maxRecDepth 100000 in
theorem m_X1_reignGoesBy_b41 {p : Program} {l : Launch} {e : Env} {s : State} {m : MethodId} {args : Array Value} {below : List Frame} {meth : Method} {c : Code} {E : z_E} (C : z_Cx p E s m args meth c cX1_reignGoesBy 4 wsX1_reignGoesBy RX1 (some .boolean)) (hC : z_cls E) (o : Nat) (ho : o < 13) (X : z_X) (K : Int32 → z_G → Prop) (L4 : z_G → Int32 → Int32 → Prop) (k4 : ∀ (h : z_G) (x1 : Int32) (x2 : Int32), L4 h x1 x2 → ∀ {H : Heap} {locs : List Loc}, z_P E (z_up X o h) H → va_S (z_A E) s.heap H locs → ∀ (ls : Array Slot), lv_has ls 4 [(0, .ref (z_a E o 0)), (1, .int x1), (2, .int x2)] → W p l e rX1_reignGoesBy s m args below meth c H locs 0 0 (MQ below (va_Qi (fun r X' => ∃ h', X' = z_up X o h' ∧ K r h') (fun u t => z_P E u t.heap) (z_A E)) args s 0 0 (z_A E)) (F0 m 4 ls [])) (h : z_G) (x1 : Int32) (x2 : Int32) (t0 : Int32) (hw : v_X1_reignGoesBy_b41 K L4 h x1 x2 t0) {H : Heap} {locs : List Loc} (hP : z_P E (z_up X o h) H) (hS : va_S (z_A E) s.heap H locs) {ls : Array Slot} (hl : lv_has ls 4 [(0, .ref (z_a E o 0)), (1, .int x1), (2, .int x2)]) : W p l e rX1_reignGoesBy s m args below meth c H locs 0 0 (MQ below (va_Qi (fun r X' => ∃ h', X' = z_up X o h' ∧ K r h') (fun u t => z_P E u t.heap) (z_A E)) args s 0 0 (z_A E)) (F0 m 41 ls [.int t0]) := by
  obtain ⟨hx, hb, hml, hr, hlocks, hown, hts, hK, hE⟩ := id C
  have hfX1 : ∀ w ∈ u_ws RX1 TX1 13, w ∈ wsX1_reignGoesBy := by decide +kernel
  unfold v_X1_reignGoesBy_b41 at hw
  refine lv_istore_n (lv' := [(3, .int t0), (0, .ref (z_a E o 0)), (1, .int x1), (2, .int x2)]) hx hb dX1_reignGoesBy_41 rfl hl (by decide) rfl (fun ls hl => ?_)
  refine lv_iload_n hx hb dX1_reignGoesBy_42 rfl (lv_at hl 0 rfl) ?_
  refine lv_bipush (v := (-4 : Int32)) hx hb dX1_reignGoesBy_43 (by decide) ?_
  refine lv_icmp_eq (tgt := 56) hx hb dX1_reignGoesBy_45 (by decide) (fun c18 => ?_) (fun c18 => ?_)
  · replace hw := hw.1 c18
    obtain ⟨y19, ey19⟩ : ∃ z : Int32, z = x2 + (1 : Int32) := ⟨_, rfl⟩
    replace hw := hw y19 ey19
    refine lv_iinc (v := y19) (lv' := [(2, .int y19), (3, .int t0), (0, .ref (z_a E o 0)), (1, .int x1)]) hx hb dX1_reignGoesBy_56 hl (k := 3) rfl (by rw [ey19]; rfl) (by decide) rfl (fun ls hl => ?_)
    refine lv_goto (tgt := 4) hx hb dX1_reignGoesBy_59 (by decide) ?_
    exact k4 h x1 y19 hw hP hS _ (lv_sub hl [2, 3, 0] rfl)
  · replace hw := hw.2 c18
    refine lv_aload_n hx hb dX1_reignGoesBy_48 rfl (lv_at hl 1 rfl) ?_
    refine lv_iload_n hx hb dX1_reignGoesBy_49 rfl (lv_at hl 3 rfl) ?_
    refine lv_iload_n hx hb dX1_reignGoesBy_50 rfl (lv_at hl 0 rfl) ?_
    refine z_vv (C := RX1) (T := TX1) (N := 13) (o := o) (rest := []) ⟨hx, hb, hml, hown, hts⟩ (m_X1_takeUp l hE hC o ho X h x2 t0 _ hw) (cwV 2 hts gX1_reignGoesBy_X1_takeUp rfl rfl rfl (by decide +kernel) ⟨Nat.le_of_ble_eq_true rfl, Nat.le_of_ble_eq_true rfl⟩) hK hP hS (hC.1 o ho (o, 0) (List.mem_of_getElem? (i := 0) rfl)) (z_lH_0 (o := o) ho) rfl rfl hl.1 rfl (Nat.le_of_ble_eq_true rfl) dX1_reignGoesBy_51 ⟨Nat.zero_le _, Nat.zero_le _⟩ (fun u H locs hk hP hS => ?_)
    obtain ⟨h20, eu, hw⟩ := hk
    rw [eu] at hP
    refine lv_iconst (v := (1 : Int32)) hx hb dX1_reignGoesBy_54 (by decide) ?_
    refine lv_istore_n (lv' := [(1, .int (1 : Int32)), (3, .int t0), (0, .ref (z_a E o 0)), (2, .int x2)]) hx hb dX1_reignGoesBy_55 rfl hl (by decide) rfl (fun ls hl => ?_)
    obtain ⟨y21, ey21⟩ : ∃ z : Int32, z = x2 + (1 : Int32) := ⟨_, rfl⟩
    replace hw := hw y21 ey21
    refine lv_iinc (v := y21) (lv' := [(2, .int y21), (1, .int (1 : Int32)), (3, .int t0), (0, .ref (z_a E o 0))]) hx hb dX1_reignGoesBy_56 hl (k := 3) rfl (by rw [ey21]; rfl) (by decide) rfl (fun ls hl => ?_)
    refine lv_goto (tgt := 4) hx hb dX1_reignGoesBy_59 (by decide) ?_
    exact k4 h20 (1 : Int32) y21 hw hP hS _ (lv_sub hl [3, 1, 0] rfl)
set_option maxHeartbeats 4000000 in
set_option maxRecDepth 100000 in
theorem m_X1_reignGoesBy_b39 {p : Program} {l : Launch} {e : Env} {s : State} {m : MethodId} {args : Array Value} {below : List Frame} {meth : Method} {c : Code} {E : z_E} (C : z_Cx p E s m args meth c cX1_reignGoesBy 4 wsX1_reignGoesBy RX1 (some .boolean)) (hC : z_cls E) (o : Nat) (ho : o < 13) (X : z_X) (K : Int32 → z_G → Prop) (L4 : z_G → Int32 → Int32 → Prop) (k4 : ∀ (h : z_G) (x1 : Int32) (x2 : Int32), L4 h x1 x2 → ∀ {H : Heap} {locs : List Loc}, z_P E (z_up X o h) H → va_S (z_A E) s.heap H locs → ∀ (ls : Array Slot), lv_has ls 4 [(0, .ref (z_a E o 0)), (1, .int x1), (2, .int x2)] → W p l e rX1_reignGoesBy s m args below meth c H locs 0 0 (MQ below (va_Qi (fun r X' => ∃ h', X' = z_up X o h' ∧ K r h') (fun u t => z_P E u t.heap) (z_A E)) args s 0 0 (z_A E)) (F0 m 4 ls [])) (h : z_G) (x1 : Int32) (x2 : Int32) (hw : v_X1_reignGoesBy_b39 K L4 h x1 x2) {H : Heap} {locs : List Loc} (hP : z_P E (z_up X o h) H) (hS : va_S (z_A E) s.heap H locs) {ls : Array Slot} (hl : lv_has ls 4 [(0, .ref (z_a E o 0)), (1, .int x1), (2, .int x2)]) : W p l e rX1_reignGoesBy s m args below meth c H locs 0 0 (MQ below (va_Qi (fun r X' => ∃ h', X' = z_up X o h' ∧ K r h') (fun u t => z_P E u t.heap) (z_A E)) args s 0 0 (z_A E)) (F0 m 39 ls []) := by
  obtain ⟨hx, hb, hml, hr, hlocks, hown, hts, hK, hE⟩ := id C
  have hfX1 : ∀ w ∈ u_ws RX1 TX1 13, w ∈ wsX1_reignGoesBy := by decide +kernel
  unfold v_X1_reignGoesBy_b39 at hw
  refine lv_bipush (v := (-4 : Int32)) hx hb dX1_reignGoesBy_39 (by decide) ?_
  exact m_X1_reignGoesBy_b41 C hC o ho X K L4 k4 h x1 x2 (-4 : Int32) hw hP hS (lv_sub hl [0, 1, 2] rfl)
set_option maxHeartbeats 4000000 in
set_option maxRecDepth 100000 in
theorem m_X1_reignGoesBy_b4_s {p : Program} {l : Launch} {e : Env} {s : State} {m : MethodId} {args : Array Value} {below : List Frame} {meth : Method} {c : Code} {E : z_E} (C : z_Cx p E s m args meth c cX1_reignGoesBy 4 wsX1_reignGoesBy RX1 (some .boolean)) (hC : z_cls E) (o : Nat) (ho : o < 13) (X : z_X) (K : Int32 → z_G → Prop) (L4 : z_G → Int32 → Int32 → Prop) (k4 : ∀ (h : z_G) (x1 : Int32) (x2 : Int32), L4 h x1 x2 → ∀ {H : Heap} {locs : List Loc}, z_P E (z_up X o h) H → va_S (z_A E) s.heap H locs → ∀ (ls : Array Slot), lv_has ls 4 [(0, .ref (z_a E o 0)), (1, .int x1), (2, .int x2)] → W p l e rX1_reignGoesBy s m args below meth c H locs 0 0 (MQ below (va_Qi (fun r X' => ∃ h', X' = z_up X o h' ∧ K r h') (fun u t => z_P E u t.heap) (z_A E)) args s 0 0 (z_A E)) (F0 m 4 ls [])) (h : z_G) (x1 : Int32) (x2 : Int32) (hw : v_X1_reignGoesBy_b4_s K L4 h x1 x2) {H : Heap} {locs : List Loc} (hP : z_P E (z_up X o h) H) (hS : va_S (z_A E) s.heap H locs) {ls : Array Slot} (hl : lv_has ls 4 [(0, .ref (z_a E o 0)), (1, .int x1), (2, .int x2)]) : W p l e rX1_reignGoesBy s m args below meth c H locs 0 0 (MQ below (va_Qi (fun r X' => ∃ h', X' = z_up X o h' ∧ K r h') (fun u t => z_P E u t.heap) (z_A E)) args s 0 0 (z_A E)) (F0 m 4 ls []) := by
  obtain ⟨hx, hb, hml, hr, hlocks, hown, hts, hK, hE⟩ := id C
  have hfX1 : ∀ w ∈ u_ws RX1 TX1 13, w ∈ wsX1_reignGoesBy := by decide +kernel
  unfold v_X1_reignGoesBy_b4_s at hw
  refine lv_iload_n hx hb dX1_reignGoesBy_4 rfl (lv_at hl 2 rfl) ?_
  refine lv_aload_n hx hb dX1_reignGoesBy_5 rfl (lv_at hl 0 rfl) ?_
  refine z_geti (C := RX1) (T := TX1) (N := 13) (ref := "GauntletHall$Hall") (o := o) (d := 0) hx hb hts hfX1 hown hK hP (hC.1 o ho (o, 0) (List.mem_of_getElem? (i := 0) rfl)) (z_lH_0 (o := o) ho) rfl 0 (by decide) (hts (.fieldLink RX1 9 "GauntletHall$Hall" "people" "I") (by decide +kernel)) rfl rfl (z_up_val X o h 0 0) dX1_reignGoesBy_6 ?_
  refine lv_icmp_ge (tgt := 62) hx hb dX1_reignGoesBy_9 (by decide) (fun c1 => ?_) (fun c1 => ?_)
  · replace hw := hw.1 c1
    refine lv_iconst (v := (0 : Int32)) hx hb dX1_reignGoesBy_62 (by decide) ?_
    refine lv_istore_n (lv' := [(2, .int (0 : Int32)), (0, .ref (z_a E o 0)), (1, .int x1)]) hx hb dX1_reignGoesBy_63 rfl hl (by decide) rfl (fun ls hl => ?_)
    exact m_X1_reignGoesBy_b64 C hC o ho X K h x1 (0 : Int32) hw hP hS (lv_sub hl [1, 2, 0] rfl)
  · replace hw := hw.2 c1
    refine lv_aload_n hx hb dX1_reignGoesBy_12 rfl (lv_at hl 0 rfl) ?_
    refine z_getr (C := RX1) (T := TX1) (N := 13) (ref := "GauntletHall$Hall") (o := o) (d := 0) hx hb hts hfX1 hown hK hP (hC.1 o ho (o, 0) (List.mem_of_getElem? (i := 0) rfl)) (z_lH_0 (o := o) ho) rfl 6 (by decide) (hts (.fieldLink RX1 31 "GauntletHall$Hall" "stoops" "[I") (by decide +kernel)) rfl rfl dX1_reignGoesBy_13 ?_
    refine lv_iload_n hx hb dX1_reignGoesBy_16 rfl (lv_at hl 2 rfl) ?_
    obtain ⟨i16, hw⟩ := hw
    refine z_iald (o := o) (d := 6) hx hb hK hP (hC.1 o ho (o, 6) (List.mem_of_getElem? (i := 3) rfl)) (z_lH_6 (o := o) ho) i16 (z_up_val X o h 6 (z_n x2)) dX1_reignGoesBy_17 ?_
    refine lv_iconst (v := (1 : Int32)) hx hb dX1_reignGoesBy_18 (by decide) ?_
    refine lv_icmp_ne (tgt := 39) hx hb dX1_reignGoesBy_19 (by decide) (fun c17 => ?_) (fun c17 => ?_)
    · replace hw := hw.1 c17
      exact m_X1_reignGoesBy_b39 C hC o ho X K L4 k4 h x1 x2 hw hP hS (lv_sub hl [0, 1, 2] rfl)
    · replace hw := hw.2 c17
      refine lv_aload_n hx hb dX1_reignGoesBy_22 rfl (lv_at hl 0 rfl) ?_
      refine z_getr (C := RX1) (T := TX1) (N := 13) (ref := "GauntletHall$Hall") (o := o) (d := 0) hx hb hts hfX1 hown hK hP (hC.1 o ho (o, 0) (List.mem_of_getElem? (i := 0) rfl)) (z_lH_0 (o := o) ho) rfl 5 (by decide) (hts (.fieldLink RX1 28 "GauntletHall$Hall" "might" "[I") (by decide +kernel)) rfl rfl dX1_reignGoesBy_23 ?_
      refine lv_iload_n hx hb dX1_reignGoesBy_26 rfl (lv_at hl 2 rfl) ?_
      obtain ⟨i22, hw⟩ := hw
      refine z_iald (o := o) (d := 5) hx hb hK hP (hC.1 o ho (o, 5) (List.mem_of_getElem? (i := 2) rfl)) (z_lH_5 (o := o) ho) i22 (z_up_val X o h 5 (z_n x2)) dX1_reignGoesBy_27 ?_
      refine lv_if_le (tgt := 39) hx hb dX1_reignGoesBy_28 (by decide) (fun c23 => ?_) (fun c23 => ?_)
      · replace hw := hw.1 c23
        exact m_X1_reignGoesBy_b39 C hC o ho X K L4 k4 h x1 x2 hw hP hS (lv_sub hl [0, 1, 2] rfl)
      · replace hw := hw.2 c23
        refine lv_aload_n hx hb dX1_reignGoesBy_31 rfl (lv_at hl 0 rfl) ?_
        refine lv_iload_n hx hb dX1_reignGoesBy_32 rfl (lv_at hl 2 rfl) ?_
        refine z_vi (C := RX1) (T := TX1) (N := 13) (o := o) (rest := []) ⟨hx, hb, hml, hown, hts⟩ (m_X1_lowestFor l hE hC o ho X h x2 _ hw) (cwV 1 hts gX1_reignGoesBy_X1_lowestFor rfl rfl rfl (by decide +kernel) ⟨Nat.le_of_ble_eq_true rfl, Nat.le_of_ble_eq_true rfl⟩) hK hP hS (hC.1 o ho (o, 0) (List.mem_of_getElem? (i := 0) rfl)) (z_lH_0 (o := o) ho) rfl rfl hl.1 rfl (Nat.le_of_ble_eq_true rfl) dX1_reignGoesBy_33 ⟨Nat.zero_le _, Nat.zero_le _⟩ (fun r24 u H locs hk hP hS => ?_)
        obtain ⟨eu, hw⟩ := hk
        rw [eu] at hP
        refine lv_goto (tgt := 41) hx hb dX1_reignGoesBy_36 (by decide) ?_
        exact m_X1_reignGoesBy_b41 C hC o ho X K L4 k4 h x1 x2 r24 hw hP hS (lv_sub hl [0, 1, 2] rfl)
theorem m_X1_reignGoesBy_b4 {p : Program} {l : Launch} {e : Env} {s : State} {m : MethodId} {args : Array Value} {below : List Frame} {meth : Method} {c : Code} {E : z_E} (C : z_Cx p E s m args meth c cX1_reignGoesBy 4 wsX1_reignGoesBy RX1 (some .boolean)) (hC : z_cls E) (o : Nat) (ho : o < 13) (X : z_X) (K : Int32 → z_G → Prop) (h : z_G) (x1 : Int32) (x2 : Int32) (hw : v_X1_reignGoesBy_b4 K h x1 x2) {H : Heap} {locs : List Loc} (hP : z_P E (z_up X o h) H) (hS : va_S (z_A E) s.heap H locs) {ls : Array Slot} (hl : lv_has ls 4 [(0, .ref (z_a E o 0)), (1, .int x1), (2, .int x2)]) : W p l e rX1_reignGoesBy s m args below meth c H locs 0 0 (MQ below (va_Qi (fun r X' => ∃ h', X' = z_up X o h' ∧ K r h') (fun u t => z_P E u t.heap) (z_A E)) args s 0 0 (z_A E)) (F0 m 4 ls []) := by
  obtain ⟨n, hw⟩ := hw
  revert hw hP hS hl
  revert h x1 x2 H locs ls
  induction n with
  | zero => intro h x1 x2 H locs ls hP hS hl hw; exact hw.elim
  | succ n ih =>
    intro h x1 x2 H locs ls hP hS hl hw
    exact m_X1_reignGoesBy_b4_s C hC o ho X K (fun h x1 x2 => z_fp (σ := z_G × Int32 × Int32) (fun Lp q => v_X1_reignGoesBy_b4_s K (fun h x1 x2 => Lp (h, x1, x2)) q.1 q.2.1 q.2.2) n (h, x1, x2)) (fun h x1 x2 h9 H locs hP hS ls hl => ih h x1 x2 hP hS hl h9) h x1 x2 hw hP hS hl
set_option maxHeartbeats 4000000 in
set_option maxRecDepth 100000 in
theorem m_X1_reignGoesBy (l : Launch) {E : z_E} (hE : z_ok E) (hC : z_cls E) (o : Nat) (ho : o < 13) (X : z_X) (h : z_G) (K : Int32 → z_G → Prop) (hw : v_X1_reignGoesBy h K) : z_CI l E yX1_reignGoesBy wsX1_reignGoesBy rX1_reignGoesBy [.ref (z_a E o 0)] (z_up X o h) (fun r X' => ∃ h', X' = z_up X o h' ∧ K r h') := by
  refine z_start (cc := cX1_reignGoesBy) (maxL := 4) (ret := (some .boolean)) hE (by decide) rfl (Nat.le_of_ble_eq_true rfl) ?_
  intro p e s m below meth c C hP hS ls hl
  have C : z_Cx p E s m _ meth c cX1_reignGoesBy 4 wsX1_reignGoesBy RX1 (some .boolean) := C
  obtain ⟨hx, hb, hml, hr, hlocks, hown, hts, hK, hE⟩ := id C
  have hl : lv_has ls 4 [(0, .ref (z_a E o 0))] := hl
  have hfX1 : ∀ w ∈ u_ws RX1 TX1 13, w ∈ wsX1_reignGoesBy := by decide +kernel
  unfold v_X1_reignGoesBy at hw
  refine lv_iconst (v := (0 : Int32)) hx hb dX1_reignGoesBy_0 (by decide) ?_
  refine lv_istore_n (lv' := [(1, .int (0 : Int32)), (0, .ref (z_a E o 0))]) hx hb dX1_reignGoesBy_1 rfl hl (by decide) rfl (fun ls hl => ?_)
  refine lv_iconst (v := (0 : Int32)) hx hb dX1_reignGoesBy_2 (by decide) ?_
  refine lv_istore_n (lv' := [(2, .int (0 : Int32)), (1, .int (0 : Int32)), (0, .ref (z_a E o 0))]) hx hb dX1_reignGoesBy_3 rfl hl (by decide) rfl (fun ls hl => ?_)
  exact m_X1_reignGoesBy_b4 C hC o ho X K h (0 : Int32) (0 : Int32) hw hP hS (lv_sub hl [2, 1, 0] rfl)
