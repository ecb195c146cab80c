/-! ===== PRINTED (wip/whole/gen/gen.py): the machine meets each definition: X0.isSafe, X0.awayForSafety, X0.mayFitInTime, X5.within, X1.isPerson, X1.addGlove, X0.isTakenUp ===== -/
set_option maxHeartbeats 4000000 in
set_option maxRecDepth 100000 in
theorem m_X0_isSafe_b60 {p : Program} {l : Launch} {e : Env} {s : State} {m : MethodId} {args : Array Value} {below : List Frame} {meth : Method} {c : Code} {E : z_E} (C : z_Cx p E s m args meth c cX0_isSafe 7 wsX0_isSafe RX0 (some .boolean)) (hC : z_cls E) (o : Nat) (ho : o < 13) (K : Int32 → z_X → Prop) (Y : z_X) (x3 : Int32) (hw : v_X0_isSafe_b60 o K Y x3) {H : Heap} {locs : List Loc} (hP : z_P E Y H) (hS : va_S (z_A E) s.heap H locs) {ls : Array Slot} (hl : lv_has ls 7 [(0, .ref (z_a E 17 0)), (3, .int x3)]) : W p l e rX0_isSafe s m args below meth c H locs 0 0 (MQ below (va_Qi K (fun u t => z_P E u t.heap) (z_A E)) args s 0 0 (z_A E)) (F0 m 60 ls []) := by
  obtain ⟨hx, hb, hml, hr, hlocks, hown, hts, hK, hE⟩ := id C
  have hfX0 : ∀ w ∈ u_ws RX0 TX0 1, w ∈ wsX0_isSafe := by decide +kernel
  unfold v_X0_isSafe_b60 at hw
  refine lv_aload_n hx hb dX0_isSafe_60 rfl (lv_at hl 0 rfl) ?_
  refine z_getr (C := RX0) (T := TX0) (N := 1) (ref := "GauntletHall$Forecast") (o := 17) (d := 0) hx hb hts hfX0 hown hK hP (hC.2 (17, 0) (List.mem_of_getElem? (i := 11) rfl)) z_l_17_0 rfl 0 (by decide) (hts (.fieldLink RX0 12 "GauntletHall$Forecast" "ahead" "LGauntletHall$Hall;") (by decide +kernel)) rfl rfl dX0_isSafe_61 ?_
  refine lv_iload_n hx hb dX0_isSafe_64 rfl (lv_at hl 1 rfl) ?_
  have hPc := z_P_self 2 hP
  refine z_vi (C := RX1) (T := TX1) (N := 13) (o := 2) (rest := []) ⟨hx, hb, hml, hown, hts⟩ (m_X1_isOut l hE hC 2 (by decide) Y (Y 2) x3 _ hw) (cwV 1 hts gX0_isSafe_X1_isOut rfl rfl rfl (by decide +kernel) ⟨Nat.le_of_ble_eq_true rfl, Nat.le_of_ble_eq_true rfl⟩) hK hPc hS (hC.1 2 (by decide) (2, 0) (List.mem_of_getElem? (i := 0) rfl)) (z_lH_0 (o := 2) (by decide)) rfl rfl hl.1 rfl (Nat.le_of_ble_eq_true rfl) dX0_isSafe_65 ⟨Nat.zero_le _, Nat.zero_le _⟩ (fun r5 u H locs hk hP hS => ?_)
  obtain ⟨eu, hw⟩ := hk
  rw [eu, z_up_self] at hP
  refine lv_if_ne (tgt := 75) hx hb dX0_isSafe_68 (by decide) (fun c6 => ?_) (fun c6 => ?_)
  · replace hw := hw.1 c6
    refine lv_iconst (v := (0 : Int32)) hx hb dX0_isSafe_75 (by decide) ?_
    exact z_retz C (Or.inl rfl) hP hS hw dX0_isSafe_76
  · replace hw := hw.2 c6
    refine lv_iconst (v := (1 : Int32)) hx hb dX0_isSafe_71 (by decide) ?_
    refine lv_goto (tgt := 76) hx hb dX0_isSafe_72 (by decide) ?_
    exact z_retz C (Or.inr rfl) hP hS hw dX0_isSafe_76
set_option maxHeartbeats 4000000 in
set_option maxRecDepth 100000 in
theorem m_X0_isSafe_b22_s {p : Program} {l : Launch} {e : Env} {s : State} {m : MethodId} {args : Array Value} {below : List Frame} {meth : Method} {c : Code} {E : z_E} (C : z_Cx p E s m args meth c cX0_isSafe 7 wsX0_isSafe RX0 (some .boolean)) (hC : z_cls E) (o : Nat) (ho : o < 13) (K : Int32 → z_X → Prop) (L22 : z_X → Int32 → Int32 → Int32 → Int32 → Prop) (k22 : ∀ (Y : z_X) (x3 : Int32) (x4 : Int32) (x5 : Int32) (x6 : Int32), L22 Y x3 x4 x5 x6 → ∀ {H : Heap} {locs : List Loc}, z_P E Y H → va_S (z_A E) s.heap H locs → ∀ (ls : Array Slot), lv_has ls 7 [(0, .ref (z_a E 17 0)), (3, .int x3), (4, .int x4), (5, .int x5), (6, .int x6)] → W p l e rX0_isSafe s m args below meth c H locs 0 0 (MQ below (va_Qi K (fun u t => z_P E u t.heap) (z_A E)) args s 0 0 (z_A E)) (F0 m 22 ls [])) (Y : z_X) (x3 : Int32) (x4 : Int32) (x5 : Int32) (x6 : Int32) (hw : v_X0_isSafe_b22_s o K L22 Y x3 x4 x5 x6) {H : Heap} {locs : List Loc} (hP : z_P E Y H) (hS : va_S (z_A E) s.heap H locs) {ls : Array Slot} (hl : lv_has ls 7 [(0, .ref (z_a E 17 0)), (3, .int x3), (4, .int x4), (5, .int x5), (6, .int x6)]) : W p l e rX0_isSafe s m args below meth c H locs 0 0 (MQ below (va_Qi K (fun u t => z_P E u t.heap) (z_A E)) args s 0 0 (z_A E)) (F0 m 22 ls []) := by
  obtain ⟨hx, hb, hml, hr, hlocks, hown, hts, hK, hE⟩ := id C
  have hfX0 : ∀ w ∈ u_ws RX0 TX0 1, w ∈ wsX0_isSafe := by decide +kernel
  unfold v_X0_isSafe_b22_s at hw
  refine lv_iload hx hb dX0_isSafe_22 (lv_at hl 4 rfl) ?_
  refine lv_iload hx hb dX0_isSafe_24 (lv_at hl 2 rfl) ?_
  refine lv_icmp_ge (tgt := 60) hx hb dX0_isSafe_26 (by decide) (fun c4 => ?_) (fun c4 => ?_)
  · replace hw := hw.1 c4
    exact m_X0_isSafe_b60 C hC o ho K Y x3 hw hP hS (lv_sub hl [0, 1] rfl)
  · replace hw := hw.2 c4
    refine lv_iload hx hb dX0_isSafe_29 (lv_at hl 3 rfl) ?_
    refine lv_if_eq (tgt := 60) hx hb dX0_isSafe_31 (by decide) (fun c7 => ?_) (fun c7 => ?_)
    · replace hw := hw.1 c7
      exact m_X0_isSafe_b60 C hC o ho K Y x3 hw hP hS (lv_sub hl [0, 1] rfl)
    · replace hw := hw.2 c7
      refine lv_aload_n hx hb dX0_isSafe_34 rfl (lv_at hl 0 rfl) ?_
      refine z_getr (C := RX0) (T := TX0) (N := 1) (ref := "GauntletHall$Forecast") (o := 17) (d := 0) hx hb hts hfX0 hown hK hP (hC.2 (17, 0) (List.mem_of_getElem? (i := 11) rfl)) z_l_17_0 rfl 0 (by decide) (hts (.fieldLink RX0 12 "GauntletHall$Forecast" "ahead" "LGauntletHall$Hall;") (by decide +kernel)) rfl rfl dX0_isSafe_35 ?_
      refine lv_iload_n hx hb dX0_isSafe_38 rfl (lv_at hl 1 rfl) ?_
      have hPc := z_P_self 2 hP
      refine z_vi (C := RX1) (T := TX1) (N := 13) (o := 2) (rest := []) ⟨hx, hb, hml, hown, hts⟩ (m_X1_isOut l hE hC 2 (by decide) Y (Y 2) x3 _ hw) (cwV 1 hts gX0_isSafe_X1_isOut rfl rfl rfl (by decide +kernel) ⟨Nat.le_of_ble_eq_true rfl, Nat.le_of_ble_eq_true rfl⟩) hK hPc hS (hC.1 2 (by decide) (2, 0) (List.mem_of_getElem? (i := 0) rfl)) (z_lH_0 (o := 2) (by decide)) rfl rfl hl.1 rfl (Nat.le_of_ble_eq_true rfl) dX0_isSafe_39 ⟨Nat.zero_le _, Nat.zero_le _⟩ (fun r8 u H locs hk hP hS => ?_)
      obtain ⟨eu, hw⟩ := hk
      rw [eu, z_up_self] at hP
      refine lv_if_ne (tgt := 60) hx hb dX0_isSafe_42 (by decide) (fun c9 => ?_) (fun c9 => ?_)
      · replace hw := hw.1 c9
        exact m_X0_isSafe_b60 C hC o ho K Y x3 hw hP hS (lv_sub hl [0, 1] rfl)
      · replace hw := hw.2 c9
        refine lv_aload_n hx hb dX0_isSafe_45 rfl (lv_at hl 0 rfl) ?_
        refine z_getr (C := RX0) (T := TX0) (N := 1) (ref := "GauntletHall$Forecast") (o := 17) (d := 0) hx hb hts hfX0 hown hK hP (hC.2 (17, 0) (List.mem_of_getElem? (i := 11) rfl)) z_l_17_0 rfl 0 (by decide) (hts (.fieldLink RX0 12 "GauntletHall$Forecast" "ahead" "LGauntletHall$Hall;") (by decide +kernel)) rfl rfl dX0_isSafe_46 ?_
        have hPc := z_P_self 2 hP
        refine z_vi (C := RX1) (T := TX1) (N := 13) (o := 2) (rest := []) ⟨hx, hb, hml, hown, hts⟩ (m_X1_reignGoesBy l hE hC 2 (by decide) Y (Y 2) _ hw) (cwV 0 hts gX0_isSafe_X1_reignGoesBy rfl rfl rfl (by decide +kernel) ⟨Nat.le_of_ble_eq_true rfl, Nat.le_of_ble_eq_true rfl⟩) hK hPc hS (hC.1 2 (by decide) (2, 0) (List.mem_of_getElem? (i := 0) rfl)) (z_lH_0 (o := 2) (by decide)) rfl rfl hl.1 rfl (Nat.le_of_ble_eq_true rfl) dX0_isSafe_49 ⟨Nat.zero_le _, Nat.zero_le _⟩ (fun r10 u H locs hk hP hS => ?_)
        obtain ⟨h11, eu, hw⟩ := hk
        rw [eu] at hP
        obtain ⟨Y12, eY12⟩ : ∃ z : z_X, z = z_up Y 2 h11 := ⟨_, rfl⟩
        replace hw := hw Y12 eY12
        rw [← eY12] at hP
        refine lv_istore (lv' := [(5, .int r10), (0, .ref (z_a E 17 0)), (3, .int x3), (4, .int x4), (6, .int x6)]) hx hb dX0_isSafe_52 hl (by decide) rfl (fun ls hl => ?_)
        obtain ⟨y13, ey13⟩ : ∃ z : Int32, z = x6 + (1 : Int32) := ⟨_, rfl⟩
        replace hw := hw y13 ey13
        refine lv_iinc (v := y13) (lv' := [(6, .int y13), (5, .int r10), (0, .ref (z_a E 17 0)), (3, .int x3), (4, .int x4)]) hx hb dX0_isSafe_54 hl (k := 4) rfl (by rw [ey13]; rfl) (by decide) rfl (fun ls hl => ?_)
        refine lv_goto (tgt := 22) hx hb dX0_isSafe_57 (by decide) ?_
        exact k22 Y12 x3 x4 r10 y13 hw hP hS _ (lv_sub hl [2, 3, 4, 1, 0] rfl)
theorem m_X0_isSafe_b22 {p : Program} {l : Launch} {e : Env} {s : State} {m : MethodId} {args : Array Value} {below : List Frame} {meth : Method} {c : Code} {E : z_E} (C : z_Cx p E s m args meth c cX0_isSafe 7 wsX0_isSafe RX0 (some .boolean)) (hC : z_cls E) (o : Nat) (ho : o < 13) (K : Int32 → z_X → Prop) (Y : z_X) (x3 : Int32) (x4 : Int32) (x5 : Int32) (x6 : Int32) (hw : v_X0_isSafe_b22 o K Y x3 x4 x5 x6) {H : Heap} {locs : List Loc} (hP : z_P E Y H) (hS : va_S (z_A E) s.heap H locs) {ls : Array Slot} (hl : lv_has ls 7 [(0, .ref (z_a E 17 0)), (3, .int x3), (4, .int x4), (5, .int x5), (6, .int x6)]) : W p l e rX0_isSafe s m args below meth c H locs 0 0 (MQ below (va_Qi K (fun u t => z_P E u t.heap) (z_A E)) args s 0 0 (z_A E)) (F0 m 22 ls []) := by
  obtain ⟨n, hw⟩ := hw
  revert hw hP hS hl
  revert Y x3 x4 x5 x6 H locs ls
  induction n with
  | zero => intro Y x3 x4 x5 x6 H locs ls hP hS hl hw; exact hw.elim
  | succ n ih =>
    intro Y x3 x4 x5 x6 H locs ls hP hS hl hw
    exact m_X0_isSafe_b22_s C hC o ho K (fun Y x3 x4 x5 x6 => z_fp (σ := z_X × Int32 × Int32 × Int32 × Int32) (fun Lp q => v_X0_isSafe_b22_s o K (fun Y x3 x4 x5 x6 => Lp (Y, x3, x4, x5, x6)) q.1 q.2.1 q.2.2.1 q.2.2.2.1 q.2.2.2.2) n (Y, x3, x4, x5, x6)) (fun Y x3 x4 x5 x6 h9 H locs hP hS ls hl => ih Y x3 x4 x5 x6 hP hS hl h9) Y x3 x4 x5 x6 hw hP hS hl
set_option maxHeartbeats 4000000 in
set_option maxRecDepth 100000 in
theorem m_X0_isSafe (l : Launch) {E : z_E} (hE : z_ok E) (hC : z_cls E) (o : Nat) (ho : o < 13) (Y : z_X) (x2 : Int32) (x3 : Int32) (x4 : Int32) (K : Int32 → z_X → Prop) (hw : v_X0_isSafe o Y x2 x3 x4 K) : z_CI l E yX0_isSafe wsX0_isSafe rX0_isSafe [.ref (z_a E 17 0), .ref (z_a E o 0), .int x2, .int x3, .int x4] Y K := by
  refine z_start (cc := cX0_isSafe) (maxL := 7) (ret := (some .boolean)) hE (by decide) rfl (Nat.le_of_ble_eq_true rfl) ?_
  intro p e s m below meth c C hP hS ls hl
  have C : z_Cx p E s m _ meth c cX0_isSafe 7 wsX0_isSafe RX0 (some .boolean) := C
  obtain ⟨hx, hb, hml, hr, hlocks, hown, hts, hK, hE⟩ := id C
  have hl : lv_has ls 7 [(0, .ref (z_a E 17 0)), (1, .ref (z_a E o 0)), (2, .int x2), (3, .int x3), (4, .int x4)] := hl
  have hfX0 : ∀ w ∈ u_ws RX0 TX0 1, w ∈ wsX0_isSafe := by decide +kernel
  unfold v_X0_isSafe at hw
  refine lv_aload_n hx hb dX0_isSafe_0 rfl (lv_at hl 0 rfl) ?_
  refine z_getr (C := RX0) (T := TX0) (N := 1) (ref := "GauntletHall$Forecast") (o := 17) (d := 0) hx hb hts hfX0 hown hK hP (hC.2 (17, 0) (List.mem_of_getElem? (i := 11) rfl)) z_l_17_0 rfl 0 (by decide) (hts (.fieldLink RX0 12 "GauntletHall$Forecast" "ahead" "LGauntletHall$Hall;") (by decide +kernel)) rfl rfl dX0_isSafe_1 ?_
  refine lv_aload_n hx hb dX0_isSafe_4 rfl (lv_at hl 1 rfl) ?_
  refine z_vv (C := RX1) (T := TX1) (N := 13) (o := 2) (rest := []) ⟨hx, hb, hml, hown, hts⟩ (m_X1_copyFrom l hE hC 2 (by decide) o ho Y _ hw) (cwV 1 hts gX0_isSafe_X1_copyFrom rfl rfl rfl (by decide +kernel) ⟨Nat.le_of_ble_eq_true rfl, Nat.le_of_ble_eq_true rfl⟩) hK hP hS (hC.1 2 (by decide) (2, 0) (List.mem_of_getElem? (i := 0) rfl)) (z_lH_0 (o := 2) (by decide)) rfl rfl hl.1 rfl (Nat.le_of_ble_eq_true rfl) dX0_isSafe_5 ⟨Nat.zero_le _, Nat.zero_le _⟩ (fun Y1 H locs hk hP hS => ?_)
  replace hw := hk
  refine lv_aload_n hx hb dX0_isSafe_8 rfl (lv_at hl 0 rfl) ?_
  refine z_getr (C := RX0) (T := TX0) (N := 1) (ref := "GauntletHall$Forecast") (o := 17) (d := 0) hx hb hts hfX0 hown hK hP (hC.2 (17, 0) (List.mem_of_getElem? (i := 11) rfl)) z_l_17_0 rfl 0 (by decide) (hts (.fieldLink RX0 12 "GauntletHall$Forecast" "ahead" "LGauntletHall$Hall;") (by decide +kernel)) rfl rfl dX0_isSafe_9 ?_
  refine lv_iload_n hx hb dX0_isSafe_12 rfl (lv_at hl 2 rfl) ?_
  have hPc := z_P_self 2 hP
  refine z_vv (C := RX1) (T := TX1) (N := 13) (o := 2) (rest := []) ⟨hx, hb, hml, hown, hts⟩ (m_X1_takeAway l hE hC 2 (by decide) Y1 (Y1 2) x2 _ hw) (cwV 1 hts gX0_isSafe_X1_takeAway rfl rfl rfl (by decide +kernel) ⟨Nat.le_of_ble_eq_true rfl, Nat.le_of_ble_eq_true rfl⟩) hK hPc hS (hC.1 2 (by decide) (2, 0) (List.mem_of_getElem? (i := 0) rfl)) (z_lH_0 (o := 2) (by decide)) rfl rfl hl.1 rfl (Nat.le_of_ble_eq_true rfl) dX0_isSafe_13 ⟨Nat.zero_le _, Nat.zero_le _⟩ (fun u H locs hk hP hS => ?_)
  obtain ⟨h2, eu, hw⟩ := hk
  rw [eu] at hP
  obtain ⟨Y3, eY3⟩ : ∃ z : z_X, z = z_up Y1 2 h2 := ⟨_, rfl⟩
  replace hw := hw Y3 eY3
  rw [← eY3] at hP
  refine lv_iconst (v := (1 : Int32)) hx hb dX0_isSafe_16 (by decide) ?_
  refine lv_istore (lv' := [(5, .int (1 : Int32)), (0, .ref (z_a E 17 0)), (1, .ref (z_a E o 0)), (2, .int x2), (3, .int x3), (4, .int x4)]) hx hb dX0_isSafe_17 hl (by decide) rfl (fun ls hl => ?_)
  refine lv_iconst (v := (0 : Int32)) hx hb dX0_isSafe_19 (by decide) ?_
  refine lv_istore (lv' := [(6, .int (0 : Int32)), (5, .int (1 : Int32)), (0, .ref (z_a E 17 0)), (1, .ref (z_a E o 0)), (2, .int x2), (3, .int x3), (4, .int x4)]) hx hb dX0_isSafe_20 hl (by decide) rfl (fun ls hl => ?_)
  exact m_X0_isSafe_b22 C hC o ho K Y3 x3 x4 (1 : Int32) (0 : Int32) hw hP hS (lv_sub hl [2, 5, 6, 1, 0] rfl)
set_option maxHeartbeats 4000000 in
set_option maxRecDepth 100000 in
theorem m_X0_awayForSafety_b26_s {p : Program} {l : Launch} {e : Env} {s : State} {m : MethodId} {args : Array Value} {below : List Frame} {meth : Method} {c : Code} {E : z_E} (C : z_Cx p E s m args meth c cX0_awayForSafety 8 wsX0_awayForSafety RX0 (some .int)) (hC : z_cls E) (o : Nat) (ho : o < 13) (K : Int32 → z_X → Prop) (L16 : z_X → Int32 → Int32 → Int32 → Int32 → Int32 → Prop) (k16 : ∀ (Y : z_X) (x2 : Int32) (x3 : Int32) (x4 : Int32) (x5 : Int32) (x6 : Int32), L16 Y x2 x3 x4 x5 x6 → ∀ {H : Heap} {locs : List Loc}, z_P E Y H → va_S (z_A E) s.heap H locs → ∀ (ls : Array Slot), lv_has ls 8 [(0, .ref (z_a E 17 0)), (1, .ref (z_a E o 0)), (2, .int x2), (3, .int x3), (4, .int x4), (5, .int x5), (6, .int x6)] → W p l e rX0_awayForSafety s m args below meth c H locs 0 0 (MQ below (va_Qi K (fun u t => z_P E u t.heap) (z_A E)) args s 0 0 (z_A E)) (F0 m 16 ls [])) (L26 : z_X → Int32 → Int32 → Int32 → Int32 → Int32 → Int32 → Prop) (k26 : ∀ (Y : z_X) (x2 : Int32) (x3 : Int32) (x4 : Int32) (x5 : Int32) (x6 : Int32) (x7 : Int32), L26 Y x2 x3 x4 x5 x6 x7 → ∀ {H : Heap} {locs : List Loc}, z_P E Y H → va_S (z_A E) s.heap H locs → ∀ (ls : Array Slot), lv_has ls 8 [(0, .ref (z_a E 17 0)), (1, .ref (z_a E o 0)), (2, .int x2), (3, .int x3), (4, .int x4), (5, .int x5), (6, .int x6), (7, .int x7)] → W p l e rX0_awayForSafety s m args below meth c H locs 0 0 (MQ below (va_Qi K (fun u t => z_P E u t.heap) (z_A E)) args s 0 0 (z_A E)) (F0 m 26 ls [])) (Y : z_X) (x2 : Int32) (x3 : Int32) (x4 : Int32) (x5 : Int32) (x6 : Int32) (x7 : Int32) (hw : v_X0_awayForSafety_b26_s o K L16 L26 Y x2 x3 x4 x5 x6 x7) {H : Heap} {locs : List Loc} (hP : z_P E Y H) (hS : va_S (z_A E) s.heap H locs) {ls : Array Slot} (hl : lv_has ls 8 [(0, .ref (z_a E 17 0)), (1, .ref (z_a E o 0)), (2, .int x2), (3, .int x3), (4, .int x4), (5, .int x5), (6, .int x6), (7, .int x7)]) : W p l e rX0_awayForSafety s m args below meth c H locs 0 0 (MQ below (va_Qi K (fun u t => z_P E u t.heap) (z_A E)) args s 0 0 (z_A E)) (F0 m 26 ls []) := by
  obtain ⟨hx, hb, hml, hr, hlocks, hown, hts, hK, hE⟩ := id C
  unfold v_X0_awayForSafety_b26_s at hw
  refine lv_iload hx hb dX0_awayForSafety_26 (lv_at hl 7 rfl) ?_
  refine lv_iload hx hb dX0_awayForSafety_28 (lv_at hl 4 rfl) ?_
  refine lv_icmp_gt (tgt := 74) hx hb dX0_awayForSafety_30 (by decide) (fun c4 => ?_) (fun c4 => ?_)
  · replace hw := hw.1 c4
    obtain ⟨y5, ey5⟩ : ∃ z : Int32, z = x6 + (1 : Int32) := ⟨_, rfl⟩
    replace hw := hw y5 ey5
    refine lv_iinc (v := y5) (lv' := [(6, .int y5), (0, .ref (z_a E 17 0)), (1, .ref (z_a E o 0)), (2, .int x2), (3, .int x3), (4, .int x4), (5, .int x5), (7, .int x7)]) hx hb dX0_awayForSafety_74 hl (k := 6) rfl (by rw [ey5]; rfl) (by decide) rfl (fun ls hl => ?_)
    refine lv_goto (tgt := 16) hx hb dX0_awayForSafety_77 (by decide) ?_
    exact k16 Y x2 x3 x4 x5 y5 hw hP hS _ (lv_sub hl [1, 2, 3, 4, 5, 6, 0] rfl)
  · replace hw := hw.2 c4
    refine lv_iload hx hb dX0_awayForSafety_33 (lv_at hl 7 rfl) ?_
    refine lv_iload hx hb dX0_awayForSafety_35 (lv_at hl 4 rfl) ?_
    refine lv_iand hx hb dX0_awayForSafety_37 ?_
    refine lv_iload hx hb dX0_awayForSafety_38 (lv_at hl 7 rfl) ?_
    refine lv_icmp_ne (tgt := 68) hx hb dX0_awayForSafety_40 (by decide) (fun c6 => ?_) (fun c6 => ?_)
    · replace hw := hw.1 c6
      obtain ⟨y7, ey7⟩ : ∃ z : Int32, z = x7 + (1 : Int32) := ⟨_, rfl⟩
      replace hw := hw y7 ey7
      refine lv_iinc (v := y7) (lv' := [(7, .int y7), (0, .ref (z_a E 17 0)), (1, .ref (z_a E o 0)), (2, .int x2), (3, .int x3), (4, .int x4), (5, .int x5), (6, .int x6)]) hx hb dX0_awayForSafety_68 hl (k := 7) rfl (by rw [ey7]; rfl) (by decide) rfl (fun ls hl => ?_)
      refine lv_goto (tgt := 26) hx hb dX0_awayForSafety_71 (by decide) ?_
      exact k26 Y x2 x3 x4 x5 x6 y7 hw hP hS _ (lv_sub hl [1, 2, 3, 4, 5, 6, 7, 0] rfl)
    · replace hw := hw.2 c6
      refine lv_iload hx hb dX0_awayForSafety_43 (lv_at hl 7 rfl) ?_
      refine z_si (rest := []) ⟨hx, hb, hml, hown, hts⟩ (m_J6_bitCount_0f7a4 l hE Y x7 _ hw) (va_cwS 1 hts gX0_awayForSafety_J6_bitCount_0f7a4 rfl rfl rfl (by decide +kernel) ⟨Nat.le_of_ble_eq_true rfl, Nat.le_of_ble_eq_true rfl⟩) hK hP hS rfl hl.1 rfl (Nat.le_of_ble_eq_true rfl) dX0_awayForSafety_45 ⟨Nat.zero_le _, Nat.zero_le _⟩ (fun r8 u H locs hk hP hS => ?_)
      obtain ⟨eu, hw⟩ := hk
      rw [eu] at hP
      refine lv_iload hx hb dX0_awayForSafety_48 (lv_at hl 6 rfl) ?_
      refine lv_icmp_ne (tgt := 68) hx hb dX0_awayForSafety_50 (by decide) (fun c9 => ?_) (fun c9 => ?_)
      · replace hw := hw.1 c9
        obtain ⟨y10, ey10⟩ : ∃ z : Int32, z = x7 + (1 : Int32) := ⟨_, rfl⟩
        replace hw := hw y10 ey10
        refine lv_iinc (v := y10) (lv' := [(7, .int y10), (0, .ref (z_a E 17 0)), (1, .ref (z_a E o 0)), (2, .int x2), (3, .int x3), (4, .int x4), (5, .int x5), (6, .int x6)]) hx hb dX0_awayForSafety_68 hl (k := 7) rfl (by rw [ey10]; rfl) (by decide) rfl (fun ls hl => ?_)
        refine lv_goto (tgt := 26) hx hb dX0_awayForSafety_71 (by decide) ?_
        exact k26 Y x2 x3 x4 x5 x6 y10 hw hP hS _ (lv_sub hl [1, 2, 3, 4, 5, 6, 7, 0] rfl)
      · replace hw := hw.2 c9
        refine lv_aload_n hx hb dX0_awayForSafety_53 rfl (lv_at hl 0 rfl) ?_
        refine lv_aload_n hx hb dX0_awayForSafety_54 rfl (lv_at hl 1 rfl) ?_
        refine lv_iload hx hb dX0_awayForSafety_55 (lv_at hl 7 rfl) ?_
        refine lv_iload_n hx hb dX0_awayForSafety_57 rfl (lv_at hl 2 rfl) ?_
        refine lv_iload_n hx hb dX0_awayForSafety_58 rfl (lv_at hl 3 rfl) ?_
        refine z_vi (C := RX0) (T := TX0) (N := 1) (o := 17) (rest := []) ⟨hx, hb, hml, hown, hts⟩ (m_X0_isSafe l hE hC o ho Y x7 x2 x3 _ hw) (cwV 4 hts gX0_awayForSafety_X0_isSafe rfl rfl rfl (by decide +kernel) ⟨Nat.le_of_ble_eq_true rfl, Nat.le_of_ble_eq_true rfl⟩) hK hP hS (hC.2 (17, 0) (List.mem_of_getElem? (i := 11) rfl)) z_l_17_0 rfl rfl hl.1 rfl (Nat.le_of_ble_eq_true rfl) dX0_awayForSafety_59 ⟨Nat.zero_le _, Nat.zero_le _⟩ (fun r11 Y12 H locs hk hP hS => ?_)
        replace hw := hk
        refine lv_if_eq (tgt := 68) hx hb dX0_awayForSafety_62 (by decide) (fun c13 => ?_) (fun c13 => ?_)
        · replace hw := hw.1 c13
          obtain ⟨y14, ey14⟩ : ∃ z : Int32, z = x7 + (1 : Int32) := ⟨_, rfl⟩
          replace hw := hw y14 ey14
          refine lv_iinc (v := y14) (lv' := [(7, .int y14), (0, .ref (z_a E 17 0)), (1, .ref (z_a E o 0)), (2, .int x2), (3, .int x3), (4, .int x4), (5, .int x5), (6, .int x6)]) hx hb dX0_awayForSafety_68 hl (k := 7) rfl (by rw [ey14]; rfl) (by decide) rfl (fun ls hl => ?_)
          refine lv_goto (tgt := 26) hx hb dX0_awayForSafety_71 (by decide) ?_
          exact k26 Y12 x2 x3 x4 x5 x6 y14 hw hP hS _ (lv_sub hl [1, 2, 3, 4, 5, 6, 7, 0] rfl)
        · replace hw := hw.2 c13
          refine lv_iload hx hb dX0_awayForSafety_65 (lv_at hl 7 rfl) ?_
          exact z_reti C hP hS hw dX0_awayForSafety_67
theorem m_X0_awayForSafety_b26 {p : Program} {l : Launch} {e : Env} {s : State} {m : MethodId} {args : Array Value} {below : List Frame} {meth : Method} {c : Code} {E : z_E} (C : z_Cx p E s m args meth c cX0_awayForSafety 8 wsX0_awayForSafety RX0 (some .int)) (hC : z_cls E) (o : Nat) (ho : o < 13) (K : Int32 → z_X → Prop) (L16 : z_X → Int32 → Int32 → Int32 → Int32 → Int32 → Prop) (k16 : ∀ (Y : z_X) (x2 : Int32) (x3 : Int32) (x4 : Int32) (x5 : Int32) (x6 : Int32), L16 Y x2 x3 x4 x5 x6 → ∀ {H : Heap} {locs : List Loc}, z_P E Y H → va_S (z_A E) s.heap H locs → ∀ (ls : Array Slot), lv_has ls 8 [(0, .ref (z_a E 17 0)), (1, .ref (z_a E o 0)), (2, .int x2), (3, .int x3), (4, .int x4), (5, .int x5), (6, .int x6)] → W p l e rX0_awayForSafety s m args below meth c H locs 0 0 (MQ below (va_Qi K (fun u t => z_P E u t.heap) (z_A E)) args s 0 0 (z_A E)) (F0 m 16 ls [])) (Y : z_X) (x2 : Int32) (x3 : Int32) (x4 : Int32) (x5 : Int32) (x6 : Int32) (x7 : Int32) (hw : v_X0_awayForSafety_b26 o K L16 Y x2 x3 x4 x5 x6 x7) {H : Heap} {locs : List Loc} (hP : z_P E Y H) (hS : va_S (z_A E) s.heap H locs) {ls : Array Slot} (hl : lv_has ls 8 [(0, .ref (z_a E 17 0)), (1, .ref (z_a E o 0)), (2, .int x2), (3, .int x3), (4, .int x4), (5, .int x5), (6, .int x6), (7, .int x7)]) : W p l e rX0_awayForSafety s m args below meth c H locs 0 0 (MQ below (va_Qi K (fun u t => z_P E u t.heap) (z_A E)) args s 0 0 (z_A E)) (F0 m 26 ls []) := by
  obtain ⟨n, hw⟩ := hw
  revert hw hP hS hl
  revert Y x2 x3 x4 x5 x6 x7 H locs ls
  induction n with
  | zero => intro Y x2 x3 x4 x5 x6 x7 H locs ls hP hS hl hw; exact hw.elim
  | succ n ih =>
    intro Y x2 x3 x4 x5 x6 x7 H locs ls hP hS hl hw
    exact m_X0_awayForSafety_b26_s C hC o ho K L16 k16 (fun Y x2 x3 x4 x5 x6 x7 => z_fp (σ := z_X × Int32 × Int32 × Int32 × Int32 × Int32 × Int32) (fun Lp q => v_X0_awayForSafety_b26_s o K L16 (fun Y x2 x3 x4 x5 x6 x7 => Lp (Y, x2, x3, x4, x5, x6, x7)) q.1 q.2.1 q.2.2.1 q.2.2.2.1 q.2.2.2.2.1 q.2.2.2.2.2.1 q.2.2.2.2.2.2) n (Y, x2, x3, x4, x5, x6, x7)) (fun Y x2 x3 x4 x5 x6 x7 h9 H locs hP hS ls hl => ih Y x2 x3 x4 x5 x6 x7 hP hS hl h9) Y x2 x3 x4 x5 x6 x7 hw hP hS hl
set_option maxHeartbeats 4000000 in
set_option maxRecDepth 100000 in
theorem m_X0_awayForSafety_b16_s {p : Program} {l : Launch} {e : Env} {s : State} {m : MethodId} {args : Array Value} {below : List Frame} {meth : Method} {c : Code} {E : z_E} (C : z_Cx p E s m args meth c cX0_awayForSafety 8 wsX0_awayForSafety RX0 (some .int)) (hC : z_cls E) (o : Nat) (ho : o < 13) (K : Int32 → z_X → Prop) (L16 : z_X → Int32 → Int32 → Int32 → Int32 → Int32 → Prop) (k16 : ∀ (Y : z_X) (x2 : Int32) (x3 : Int32) (x4 : Int32) (x5 : Int32) (x6 : Int32), L16 Y x2 x3 x4 x5 x6 → ∀ {H : Heap} {locs : List Loc}, z_P E Y H → va_S (z_A E) s.heap H locs → ∀ (ls : Array Slot), lv_has ls 8 [(0, .ref (z_a E 17 0)), (1, .ref (z_a E o 0)), (2, .int x2), (3, .int x3), (4, .int x4), (5, .int x5), (6, .int x6)] → W p l e rX0_awayForSafety s m args below meth c H locs 0 0 (MQ below (va_Qi K (fun u t => z_P E u t.heap) (z_A E)) args s 0 0 (z_A E)) (F0 m 16 ls [])) (Y : z_X) (x2 : Int32) (x3 : Int32) (x4 : Int32) (x5 : Int32) (x6 : Int32) (hw : v_X0_awayForSafety_b16_s o K L16 Y x2 x3 x4 x5 x6) {H : Heap} {locs : List Loc} (hP : z_P E Y H) (hS : va_S (z_A E) s.heap H locs) {ls : Array Slot} (hl : lv_has ls 8 [(0, .ref (z_a E 17 0)), (1, .ref (z_a E o 0)), (2, .int x2), (3, .int x3), (4, .int x4), (5, .int x5), (6, .int x6)]) : W p l e rX0_awayForSafety s m args below meth c H locs 0 0 (MQ below (va_Qi K (fun u t => z_P E u t.heap) (z_A E)) args s 0 0 (z_A E)) (F0 m 16 ls []) := by
  obtain ⟨hx, hb, hml, hr, hlocks, hown, hts, hK, hE⟩ := id C
  unfold v_X0_awayForSafety_b16_s at hw
  refine lv_iload hx hb dX0_awayForSafety_16 (lv_at hl 6 rfl) ?_
  refine lv_iload hx hb dX0_awayForSafety_18 (lv_at hl 5 rfl) ?_
  refine lv_icmp_gt (tgt := 80) hx hb dX0_awayForSafety_20 (by decide) (fun c3 => ?_) (fun c3 => ?_)
  · replace hw := hw.1 c3
    refine lv_bipush (v := (-4 : Int32)) hx hb dX0_awayForSafety_80 (by decide) ?_
    exact z_reti C hP hS hw dX0_awayForSafety_82
  · replace hw := hw.2 c3
    refine lv_iconst (v := (0 : Int32)) hx hb dX0_awayForSafety_23 (by decide) ?_
    refine lv_istore (lv' := [(7, .int (0 : Int32)), (0, .ref (z_a E 17 0)), (1, .ref (z_a E o 0)), (2, .int x2), (3, .int x3), (4, .int x4), (5, .int x5), (6, .int x6)]) hx hb dX0_awayForSafety_24 hl (by decide) rfl (fun ls hl => ?_)
    exact m_X0_awayForSafety_b26 C hC o ho K L16 k16 Y x2 x3 x4 x5 x6 (0 : Int32) hw hP hS (lv_sub hl [1, 2, 3, 4, 5, 6, 7, 0] rfl)
theorem m_X0_awayForSafety_b16 {p : Program} {l : Launch} {e : Env} {s : State} {m : MethodId} {args : Array Value} {below : List Frame} {meth : Method} {c : Code} {E : z_E} (C : z_Cx p E s m args meth c cX0_awayForSafety 8 wsX0_awayForSafety RX0 (some .int)) (hC : z_cls E) (o : Nat) (ho : o < 13) (K : Int32 → z_X → Prop) (Y : z_X) (x2 : Int32) (x3 : Int32) (x4 : Int32) (x5 : Int32) (x6 : Int32) (hw : v_X0_awayForSafety_b16 o K Y x2 x3 x4 x5 x6) {H : Heap} {locs : List Loc} (hP : z_P E Y H) (hS : va_S (z_A E) s.heap H locs) {ls : Array Slot} (hl : lv_has ls 8 [(0, .ref (z_a E 17 0)), (1, .ref (z_a E o 0)), (2, .int x2), (3, .int x3), (4, .int x4), (5, .int x5), (6, .int x6)]) : W p l e rX0_awayForSafety s m args below meth c H locs 0 0 (MQ below (va_Qi K (fun u t => z_P E u t.heap) (z_A E)) args s 0 0 (z_A E)) (F0 m 16 ls []) := by
  obtain ⟨n, hw⟩ := hw
  revert hw hP hS hl
  revert Y x2 x3 x4 x5 x6 H locs ls
  induction n with
  | zero => intro Y x2 x3 x4 x5 x6 H locs ls hP hS hl hw; exact hw.elim
  | succ n ih =>
    intro Y x2 x3 x4 x5 x6 H locs ls hP hS hl hw
    exact m_X0_awayForSafety_b16_s C hC o ho K (fun Y x2 x3 x4 x5 x6 => z_fp (σ := z_X × Int32 × Int32 × Int32 × Int32 × Int32) (fun Lp q => v_X0_awayForSafety_b16_s o K (fun Y x2 x3 x4 x5 x6 => Lp (Y, x2, x3, x4, x5, x6)) q.1 q.2.1 q.2.2.1 q.2.2.2.1 q.2.2.2.2.1 q.2.2.2.2.2) n (Y, x2, x3, x4, x5, x6)) (fun Y x2 x3 x4 x5 x6 h9 H locs hP hS ls hl => ih Y x2 x3 x4 x5 x6 hP hS hl h9) Y x2 x3 x4 x5 x6 hw hP hS hl
set_option maxHeartbeats 4000000 in
set_option maxRecDepth 100000 in
theorem m_X0_awayForSafety (l : Launch) {E : z_E} (hE : z_ok E) (hC : z_cls E) (o : Nat) (ho : o < 13) (Y : z_X) (x2 : Int32) (x3 : Int32) (K : Int32 → z_X → Prop) (hw : v_X0_awayForSafety o Y x2 x3 K) : z_CI l E yX0_awayForSafety wsX0_awayForSafety rX0_awayForSafety [.ref (z_a E 17 0), .ref (z_a E o 0), .int x2, .int x3] Y K := by
  refine z_start (cc := cX0_awayForSafety) (maxL := 8) (ret := (some .int)) hE (by decide) rfl (Nat.le_of_ble_eq_true rfl) ?_
  intro p e s m below meth c C hP hS ls hl
  have C : z_Cx p E s m _ meth c cX0_awayForSafety 8 wsX0_awayForSafety RX0 (some .int) := C
  obtain ⟨hx, hb, hml, hr, hlocks, hown, hts, hK, hE⟩ := id C
  have hl : lv_has ls 8 [(0, .ref (z_a E 17 0)), (1, .ref (z_a E o 0)), (2, .int x2), (3, .int x3)] := hl
  unfold v_X0_awayForSafety at hw
  refine lv_aload_n hx hb dX0_awayForSafety_0 rfl (lv_at hl 1 rfl) ?_
  have hPc := z_P_self o hP
  refine z_vi (C := RX1) (T := TX1) (N := 13) (o := o) (rest := []) ⟨hx, hb, hml, hown, hts⟩ (m_X1_lyingAsBits l hE hC o ho Y (Y o) _ hw) (cwV 0 hts gX0_awayForSafety_X1_lyingAsBits rfl rfl rfl (by decide +kernel) ⟨Nat.le_of_ble_eq_true rfl, Nat.le_of_ble_eq_true rfl⟩) hK hPc hS (hC.1 o ho (o, 0) (List.mem_of_getElem? (i := 0) rfl)) (z_lH_0 (o := o) ho) rfl rfl hl.1 rfl (Nat.le_of_ble_eq_true rfl) dX0_awayForSafety_1 ⟨Nat.zero_le _, Nat.zero_le _⟩ (fun r1 u H locs hk hP hS => ?_)
  obtain ⟨eu, hw⟩ := hk
  rw [eu, z_up_self] at hP
  refine lv_istore (lv' := [(4, .int r1), (0, .ref (z_a E 17 0)), (1, .ref (z_a E o 0)), (2, .int x2), (3, .int x3)]) hx hb dX0_awayForSafety_4 hl (by decide) rfl (fun ls hl => ?_)
  refine lv_iload hx hb dX0_awayForSafety_6 (lv_at hl 0 rfl) ?_
  refine z_si (rest := []) ⟨hx, hb, hml, hown, hts⟩ (m_J6_bitCount_0f7a4 l hE Y r1 _ hw) (va_cwS 1 hts gX0_awayForSafety_J6_bitCount_0f7a4 rfl rfl rfl (by decide +kernel) ⟨Nat.le_of_ble_eq_true rfl, Nat.le_of_ble_eq_true rfl⟩) hK hP hS rfl hl.1 rfl (Nat.le_of_ble_eq_true rfl) dX0_awayForSafety_8 ⟨Nat.zero_le _, Nat.zero_le _⟩ (fun r2 u H locs hk hP hS => ?_)
  obtain ⟨eu, hw⟩ := hk
  rw [eu] at hP
  refine lv_istore (lv' := [(5, .int r2), (4, .int r1), (0, .ref (z_a E 17 0)), (1, .ref (z_a E o 0)), (2, .int x2), (3, .int x3)]) hx hb dX0_awayForSafety_11 hl (by decide) rfl (fun ls hl => ?_)
  refine lv_iconst (v := (0 : Int32)) hx hb dX0_awayForSafety_13 (by decide) ?_
  refine lv_istore (lv' := [(6, .int (0 : Int32)), (5, .int r2), (4, .int r1), (0, .ref (z_a E 17 0)), (1, .ref (z_a E o 0)), (2, .int x2), (3, .int x3)]) hx hb dX0_awayForSafety_14 hl (by decide) rfl (fun ls hl => ?_)
  exact m_X0_awayForSafety_b16 C hC o ho K Y x2 x3 r1 r2 (0 : Int32) hw hP hS (lv_sub hl [3, 4, 5, 6, 2, 1, 0] rfl)
set_option maxHeartbeats 4000000 in
set_option maxRecDepth 100000 in
theorem m_X0_mayFitInTime_b2_s {p : Program} {l : Launch} {e : Env} {s : State} {m : MethodId} {args : Array Value} {below : List Frame} {meth : Method} {c : Code} {E : z_E} (C : z_Cx p E s m args meth c cX0_mayFitInTime 4 wsX0_mayFitInTime RX0 (some .boolean)) (X : z_X) (K : Int32 → Prop) (L2 : Int32 → Int32 → Int32 → Int32 → Prop) (k2 : ∀ (x0 : Int32) (x1 : Int32) (x2 : Int32) (x3 : Int32), L2 x0 x1 x2 x3 → ∀ {H : Heap} {locs : List Loc}, z_P E X H → va_S (z_A E) s.heap H locs → ∀ (ls : Array Slot), lv_has ls 4 [(0, .int x0), (1, .int x1), (2, .int x2), (3, .int x3)] → W p l e rX0_mayFitInTime s m args below meth c H locs 0 0 (MQ below (va_Qi (fun r X' => X' = X ∧ K r) (fun u t => z_P E u t.heap) (z_A E)) args s 0 0 (z_A E)) (F0 m 2 ls [])) (x0 : Int32) (x1 : Int32) (x2 : Int32) (x3 : Int32) (hw : v_X0_mayFitInTime_b2_s K L2 x0 x1 x2 x3) {H : Heap} {locs : List Loc} (hP : z_P E X H) (hS : va_S (z_A E) s.heap H locs) {ls : Array Slot} (hl : lv_has ls 4 [(0, .int x0), (1, .int x1), (2, .int x2), (3, .int x3)]) : W p l e rX0_mayFitInTime s m args below meth c H locs 0 0 (MQ below (va_Qi (fun r X' => X' = X ∧ K r) (fun u t => z_P E u t.heap) (z_A E)) args s 0 0 (z_A E)) (F0 m 2 ls []) := by
  obtain ⟨hx, hb, hml, hr, hlocks, hown, hts, hK, hE⟩ := id C
  unfold v_X0_mayFitInTime_b2_s at hw
  refine lv_iload_n hx hb dX0_mayFitInTime_2 rfl (lv_at hl 3 rfl) ?_
  refine lv_bipush (v := (30 : Int32)) hx hb dX0_mayFitInTime_3 (by decide) ?_
  refine lv_icmp_ge (tgt := 30) hx hb dX0_mayFitInTime_5 (by decide) (fun c1 => ?_) (fun c1 => ?_)
  · replace hw := hw.1 c1
    refine lv_iconst (v := (0 : Int32)) hx hb dX0_mayFitInTime_30 (by decide) ?_
    exact z_retz C (Or.inl rfl) hP hS ⟨rfl, hw⟩ dX0_mayFitInTime_31
  · replace hw := hw.2 c1
    refine lv_iload_n hx hb dX0_mayFitInTime_8 rfl (lv_at hl 0 rfl) ?_
    refine lv_iload_n hx hb dX0_mayFitInTime_9 rfl (lv_at hl 0 rfl) ?_
    refine lv_iload_n hx hb dX0_mayFitInTime_10 rfl (lv_at hl 1 rfl) ?_
    refine lv_iload_n hx hb dX0_mayFitInTime_11 rfl (lv_at hl 3 rfl) ?_
    refine z_sn (host := "GauntletHall") (rest := [.int x0]) ⟨hx, hb, hml, hown, hts⟩ (m_X5_sizeByNow l hE X x0 x1 x3 _ hw) (va_cnB 3 hts gX0_mayFitInTime_X5_sizeByNow_n72 rfl rfl rfl (hK.2 _ (List.mem_of_getElem? (i := 5) rfl)) (hts (.initialized RX5) (by decide +kernel)) (by decide +kernel) ⟨Nat.le_of_ble_eq_true rfl, Nat.le_of_ble_eq_true rfl⟩) (hts (.static yX5_sizeByNow) (by decide +kernel)) hK hP hS rfl hl.1 rfl (Nat.le_of_ble_eq_true rfl) dX0_mayFitInTime_12 ⟨Nat.zero_le _, Nat.zero_le _⟩ (fun r2 u H locs hk hP hS => ?_)
    obtain ⟨eu, hw⟩ := hk
    rw [eu] at hP
    refine lv_iload_n hx hb dX0_mayFitInTime_15 rfl (lv_at hl 2 rfl) ?_
    refine z_sn (host := "GauntletHall") (rest := []) ⟨hx, hb, hml, hown, hts⟩ (m_X5_isAsLarge l hE X x0 r2 x2 _ hw) (va_cnB 3 hts gX0_mayFitInTime_X5_isAsLarge_n76 rfl rfl rfl (hK.2 _ (List.mem_of_getElem? (i := 6) rfl)) (hts (.initialized RX5) (by decide +kernel)) (by decide +kernel) ⟨Nat.le_of_ble_eq_true rfl, Nat.le_of_ble_eq_true rfl⟩) (hts (.static yX5_isAsLarge) (by decide +kernel)) hK hP hS rfl hl.1 rfl (Nat.le_of_ble_eq_true rfl) dX0_mayFitInTime_16 ⟨Nat.zero_le _, Nat.zero_le _⟩ (fun r3 u H locs hk hP hS => ?_)
    obtain ⟨eu, hw⟩ := hk
    rw [eu] at hP
    refine lv_if_eq (tgt := 24) hx hb dX0_mayFitInTime_19 (by decide) (fun c4 => ?_) (fun c4 => ?_)
    · replace hw := hw.1 c4
      obtain ⟨y5, ey5⟩ : ∃ z : Int32, z = x3 + (5 : Int32) := ⟨_, rfl⟩
      replace hw := hw y5 ey5
      refine lv_iinc (v := y5) (lv' := [(3, .int y5), (0, .int x0), (1, .int x1), (2, .int x2)]) hx hb dX0_mayFitInTime_24 hl (k := 3) rfl (by rw [ey5]; rfl) (by decide) rfl (fun ls hl => ?_)
      refine lv_goto (tgt := 2) hx hb dX0_mayFitInTime_27 (by decide) ?_
      exact k2 x0 x1 x2 y5 hw hP hS _ (lv_sub hl [1, 2, 3, 0] rfl)
    · replace hw := hw.2 c4
      refine lv_iconst (v := (1 : Int32)) hx hb dX0_mayFitInTime_22 (by decide) ?_
      exact z_retz C (Or.inr rfl) hP hS ⟨rfl, hw⟩ dX0_mayFitInTime_23
theorem m_X0_mayFitInTime_b2 {p : Program} {l : Launch} {e : Env} {s : State} {m : MethodId} {args : Array Value} {below : List Frame} {meth : Method} {c : Code} {E : z_E} (C : z_Cx p E s m args meth c cX0_mayFitInTime 4 wsX0_mayFitInTime RX0 (some .boolean)) (X : z_X) (K : Int32 → Prop) (x0 : Int32) (x1 : Int32) (x2 : Int32) (x3 : Int32) (hw : v_X0_mayFitInTime_b2 K x0 x1 x2 x3) {H : Heap} {locs : List Loc} (hP : z_P E X H) (hS : va_S (z_A E) s.heap H locs) {ls : Array Slot} (hl : lv_has ls 4 [(0, .int x0), (1, .int x1), (2, .int x2), (3, .int x3)]) : W p l e rX0_mayFitInTime s m args below meth c H locs 0 0 (MQ below (va_Qi (fun r X' => X' = X ∧ K r) (fun u t => z_P E u t.heap) (z_A E)) args s 0 0 (z_A E)) (F0 m 2 ls []) := by
  obtain ⟨n, hw⟩ := hw
  revert hw hP hS hl
  revert x0 x1 x2 x3 H locs ls
  induction n with
  | zero => intro x0 x1 x2 x3 H locs ls hP hS hl hw; exact hw.elim
  | succ n ih =>
    intro x0 x1 x2 x3 H locs ls hP hS hl hw
    exact m_X0_mayFitInTime_b2_s C X K (fun x0 x1 x2 x3 => z_fp (σ := Int32 × Int32 × Int32 × Int32) (fun Lp q => v_X0_mayFitInTime_b2_s K (fun x0 x1 x2 x3 => Lp (x0, x1, x2, x3)) q.1 q.2.1 q.2.2.1 q.2.2.2) n (x0, x1, x2, x3)) (fun x0 x1 x2 x3 h9 H locs hP hS ls hl => ih x0 x1 x2 x3 hP hS hl h9) x0 x1 x2 x3 hw hP hS hl
set_option maxHeartbeats 4000000 in
set_option maxRecDepth 100000 in
theorem m_X0_mayFitInTime (l : Launch) {E : z_E} (hE : z_ok E) (X : z_X) (x0 : Int32) (x1 : Int32) (x2 : Int32) (K : Int32 → Prop) (hw : v_X0_mayFitInTime x0 x1 x2 K) : z_CI l E yX0_mayFitInTime wsX0_mayFitInTime rX0_mayFitInTime [.int x0, .int x1, .int x2] X (fun r X' => X' = X ∧ K r) := by
  refine z_start (cc := cX0_mayFitInTime) (maxL := 4) (ret := (some .boolean)) hE (by decide) rfl (Nat.le_of_ble_eq_true rfl) ?_
  intro p e s m below meth c C hP hS ls hl
  have C : z_Cx p E s m _ meth c cX0_mayFitInTime 4 wsX0_mayFitInTime RX0 (some .boolean) := C
  obtain ⟨hx, hb, hml, hr, hlocks, hown, hts, hK, hE⟩ := id C
  have hl : lv_has ls 4 [(0, .int x0), (1, .int x1), (2, .int x2)] := hl
  unfold v_X0_mayFitInTime at hw
  refine lv_iconst (v := (0 : Int32)) hx hb dX0_mayFitInTime_0 (by decide) ?_
  refine lv_istore_n (lv' := [(3, .int (0 : Int32)), (0, .int x0), (1, .int x1), (2, .int x2)]) hx hb dX0_mayFitInTime_1 rfl hl (by decide) rfl (fun ls hl => ?_)
  exact m_X0_mayFitInTime_b2 C X K x0 x1 x2 (0 : Int32) hw hP hS (lv_sub hl [1, 2, 3, 0] rfl)
set_option maxHeartbeats 4000000 in
set_option maxRecDepth 100000 in
theorem m_X5_within (l : Launch) {E : z_E} (hE : z_ok E) (X : z_X) (x0 : Int32) (x1 : Int32) (x2 : Int32) (K : Int32 → Prop) (hw : v_X5_within x0 x1 x2 K) : z_CI l E yX5_within wsX5_within rX5_within [.int x0, .int x1, .int x2] X (fun r X' => X' = X ∧ K r) := by
  refine z_start (cc := cX5_within) (maxL := 3) (ret := (some .boolean)) hE (by decide) rfl (Nat.le_of_ble_eq_true rfl) ?_
  intro p e s m below meth c C hP hS ls hl
  have C : z_Cx p E s m _ meth c cX5_within 3 wsX5_within RX5 (some .boolean) := C
  obtain ⟨hx, hb, hml, hr, hlocks, hown, hts, hK, hE⟩ := id C
  have hl : lv_has ls 3 [(0, .int x0), (1, .int x1), (2, .int x2)] := hl
  unfold v_X5_within at hw
  refine lv_iload_n hx hb dX5_within_0 rfl (lv_at hl 0 rfl) ?_
  refine lv_iload_n hx hb dX5_within_1 rfl (lv_at hl 1 rfl) ?_
  refine lv_icmp_lt (tgt := 14) hx hb dX5_within_2 (by decide) (fun c1 => ?_) (fun c1 => ?_)
  · replace hw := hw.1 c1
    refine lv_iconst (v := (0 : Int32)) hx hb dX5_within_14 (by decide) ?_
    exact z_retz C (Or.inl rfl) hP hS ⟨rfl, hw⟩ dX5_within_15
  · replace hw := hw.2 c1
    refine lv_iload_n hx hb dX5_within_5 rfl (lv_at hl 0 rfl) ?_
    refine lv_iload_n hx hb dX5_within_6 rfl (lv_at hl 2 rfl) ?_
    refine lv_icmp_gt (tgt := 14) hx hb dX5_within_7 (by decide) (fun c2 => ?_) (fun c2 => ?_)
    · replace hw := hw.1 c2
      refine lv_iconst (v := (0 : Int32)) hx hb dX5_within_14 (by decide) ?_
      exact z_retz C (Or.inl rfl) hP hS ⟨rfl, hw⟩ dX5_within_15
    · replace hw := hw.2 c2
      refine lv_iconst (v := (1 : Int32)) hx hb dX5_within_10 (by decide) ?_
      refine lv_goto (tgt := 15) hx hb dX5_within_11 (by decide) ?_
      exact z_retz C (Or.inr rfl) hP hS ⟨rfl, hw⟩ dX5_within_15
set_option maxHeartbeats 4000000 in
set_option maxRecDepth 100000 in
theorem m_X1_isPerson (l : Launch) {E : z_E} (hE : z_ok E) (hC : z_cls E) (o : Nat) (ho : o < 13) (X : z_X) (h : z_G) (x1 : Int32) (K : Int32 → Prop) (hw : v_X1_isPerson h x1 K) : z_CI l E yX1_isPerson wsX1_isPerson rX1_isPerson [.ref (z_a E o 0), .int x1] (z_up X o h) (fun r X' => X' = (z_up X o h) ∧ K r) := by
  refine z_start (cc := cX1_isPerson) (maxL := 2) (ret := (some .boolean)) hE (by decide) rfl (Nat.le_of_ble_eq_true rfl) ?_
  intro p e s m below meth c C hP hS ls hl
  have C : z_Cx p E s m _ meth c cX1_isPerson 2 wsX1_isPerson RX1 (some .boolean) := C
  obtain ⟨hx, hb, hml, hr, hlocks, hown, hts, hK, hE⟩ := id C
  have hl : lv_has ls 2 [(0, .ref (z_a E o 0)), (1, .int x1)] := hl
  have hfX1 : ∀ w ∈ u_ws RX1 TX1 13, w ∈ wsX1_isPerson := by decide +kernel
  unfold v_X1_isPerson at hw
  refine lv_iload_n hx hb dX1_isPerson_0 rfl (lv_at hl 1 rfl) ?_
  refine lv_iconst (v := (0 : Int32)) hx hb dX1_isPerson_1 (by decide) ?_
  refine lv_aload_n hx hb dX1_isPerson_2 rfl (lv_at hl 0 rfl) ?_
  refine z_geti (C := RX1) (T := TX1) (N := 13) (ref := "GauntletHall$Hall") (o := o) (d := 0) hx hb hts hfX1 hown hK hP (hC.1 o ho (o, 0) (List.mem_of_getElem? (i := 0) rfl)) (z_lH_0 (o := o) ho) rfl 0 (by decide) (hts (.fieldLink RX1 9 "GauntletHall$Hall" "people" "I") (by decide +kernel)) rfl rfl (z_up_val X o h 0 0) dX1_isPerson_3 ?_
  refine lv_iconst (v := (1 : Int32)) hx hb dX1_isPerson_6 (by decide) ?_
  refine lv_isub hx hb dX1_isPerson_7 ?_
  refine z_sn (host := "GauntletHall") (rest := []) ⟨hx, hb, hml, hown, hts⟩ (m_X5_within l hE (z_up X o h) x1 (0 : Int32) ((h 0 0) - (1 : Int32)) _ hw) (va_cnB 3 hts gX1_isPerson_X5_within_n58 rfl rfl rfl (hK.2 _ (List.mem_of_getElem? (i := 1) rfl)) (hts (.initialized RX5) (by decide +kernel)) (by decide +kernel) ⟨Nat.le_of_ble_eq_true rfl, Nat.le_of_ble_eq_true rfl⟩) (hts (.static yX5_within) (by decide +kernel)) hK hP hS rfl hl.1 rfl (Nat.le_of_ble_eq_true rfl) dX1_isPerson_8 ⟨Nat.zero_le _, Nat.zero_le _⟩ (fun r1 u H locs hk hP hS => ?_)
  obtain ⟨eu, hw⟩ := hk
  rw [eu] at hP
  obtain ⟨hz, hw⟩ := hw
  exact z_retz C hz hP hS ⟨rfl, hw⟩ dX1_isPerson_11
set_option maxHeartbeats 4000000 in
set_option maxRecDepth 100000 in
theorem m_X1_addGlove (l : Launch) {E : z_E} (hE : z_ok E) (hC : z_cls E) (o : Nat) (ho : o < 13) (X : z_X) (h : z_G) (x1 : Int32) (x2 : Int32) (x3 : Int32) (K : Int32 → z_G → Prop) (hw : v_X1_addGlove h x1 x2 x3 K) : z_CI l E yX1_addGlove wsX1_addGlove rX1_addGlove [.ref (z_a E o 0), .int x1, .int x2, .int x3] (z_up X o h) (fun r X' => ∃ h', X' = z_up X o h' ∧ K r h') := by
  refine z_start (cc := cX1_addGlove) (maxL := 4) (ret := (some .boolean)) hE (by decide) rfl (Nat.le_of_ble_eq_true rfl) ?_
  intro p e s m below meth c C hP hS ls hl
  have C : z_Cx p E s m _ meth c cX1_addGlove 4 wsX1_addGlove RX1 (some .boolean) := C
  obtain ⟨hx, hb, hml, hr, hlocks, hown, hts, hK, hE⟩ := id C
  have hl : lv_has ls 4 [(0, .ref (z_a E o 0)), (1, .int x1), (2, .int x2), (3, .int x3)] := hl
  have hfX1 : ∀ w ∈ u_ws RX1 TX1 13, w ∈ wsX1_addGlove := by decide +kernel
  unfold v_X1_addGlove at hw
  refine lv_aload_n hx hb dX1_addGlove_0 rfl (lv_at hl 0 rfl) ?_
  refine z_geti (C := RX1) (T := TX1) (N := 13) (ref := "GauntletHall$Hall") (o := o) (d := 0) hx hb hts hfX1 hown hK hP (hC.1 o ho (o, 0) (List.mem_of_getElem? (i := 0) rfl)) (z_lH_0 (o := o) ho) rfl 1 (by decide) (hts (.fieldLink RX1 15 "GauntletHall$Hall" "gloves" "I") (by decide +kernel)) rfl rfl (z_up_val X o h 0 1) dX1_addGlove_1 ?_
  refine lv_bipush (v := (8 : Int32)) hx hb dX1_addGlove_4 (by decide) ?_
  refine lv_icmp_ge (tgt := 36) hx hb dX1_addGlove_6 (by decide) (fun c1 => ?_) (fun c1 => ?_)
  · replace hw := hw.1 c1
    refine lv_iconst (v := (0 : Int32)) hx hb dX1_addGlove_36 (by decide) ?_
    exact z_retz C (Or.inl rfl) hP hS ⟨_, rfl, hw⟩ dX1_addGlove_37
  · replace hw := hw.2 c1
    refine lv_iload_n hx hb dX1_addGlove_9 rfl (lv_at hl 1 rfl) ?_
    refine lv_iconst (v := (0 : Int32)) hx hb dX1_addGlove_10 (by decide) ?_
    refine lv_iconst (v := (3 : Int32)) hx hb dX1_addGlove_11 (by decide) ?_
    refine z_sn (host := "GauntletHall") (rest := []) ⟨hx, hb, hml, hown, hts⟩ (m_X5_within l hE (z_up X o h) x1 (0 : Int32) (3 : Int32) _ hw) (va_cnB 3 hts gX1_addGlove_X5_within_n58 rfl rfl rfl (hK.2 _ (List.mem_of_getElem? (i := 1) rfl)) (hts (.initialized RX5) (by decide +kernel)) (by decide +kernel) ⟨Nat.le_of_ble_eq_true rfl, Nat.le_of_ble_eq_true rfl⟩) (hts (.static yX5_within) (by decide +kernel)) hK hP hS rfl hl.1 rfl (Nat.le_of_ble_eq_true rfl) dX1_addGlove_12 ⟨Nat.zero_le _, Nat.zero_le _⟩ (fun r2 u H locs hk hP hS => ?_)
    obtain ⟨eu, hw⟩ := hk
    rw [eu] at hP
    refine lv_if_eq (tgt := 36) hx hb dX1_addGlove_15 (by decide) (fun c3 => ?_) (fun c3 => ?_)
    · replace hw := hw.1 c3
      refine lv_iconst (v := (0 : Int32)) hx hb dX1_addGlove_36 (by decide) ?_
      exact z_retz C (Or.inl rfl) hP hS ⟨_, rfl, hw⟩ dX1_addGlove_37
    · replace hw := hw.2 c3
      refine lv_iload_n hx hb dX1_addGlove_18 rfl (lv_at hl 2 rfl) ?_
      refine lv_iconst (v := (1 : Int32)) hx hb dX1_addGlove_19 (by decide) ?_
      refine lv_bipush (v := (20 : Int32)) hx hb dX1_addGlove_20 (by decide) ?_
      refine z_sn (host := "GauntletHall") (rest := []) ⟨hx, hb, hml, hown, hts⟩ (m_X5_within l hE (z_up X o h) x2 (1 : Int32) (20 : Int32) _ hw) (va_cnB 3 hts gX1_addGlove_X5_within_n58 rfl rfl rfl (hK.2 _ (List.mem_of_getElem? (i := 1) rfl)) (hts (.initialized RX5) (by decide +kernel)) (by decide +kernel) ⟨Nat.le_of_ble_eq_true rfl, Nat.le_of_ble_eq_true rfl⟩) (hts (.static yX5_within) (by decide +kernel)) hK hP hS rfl hl.1 rfl (Nat.le_of_ble_eq_true rfl) dX1_addGlove_22 ⟨Nat.zero_le _, Nat.zero_le _⟩ (fun r4 u H locs hk hP hS => ?_)
      obtain ⟨eu, hw⟩ := hk
      rw [eu] at hP
      refine lv_if_eq (tgt := 36) hx hb dX1_addGlove_25 (by decide) (fun c5 => ?_) (fun c5 => ?_)
      · replace hw := hw.1 c5
        refine lv_iconst (v := (0 : Int32)) hx hb dX1_addGlove_36 (by decide) ?_
        exact z_retz C (Or.inl rfl) hP hS ⟨_, rfl, hw⟩ dX1_addGlove_37
      · replace hw := hw.2 c5
        refine lv_aload_n hx hb dX1_addGlove_28 rfl (lv_at hl 0 rfl) ?_
        refine lv_iload_n hx hb dX1_addGlove_29 rfl (lv_at hl 3 rfl) ?_
        refine z_vi (C := RX1) (T := TX1) (N := 13) (o := o) (rest := []) ⟨hx, hb, hml, hown, hts⟩ (m_X1_isPerson l hE hC o ho X h x3 _ hw) (cwV 1 hts gX1_addGlove_X1_isPerson rfl rfl rfl (by decide +kernel) ⟨Nat.le_of_ble_eq_true rfl, Nat.le_of_ble_eq_true rfl⟩) hK hP hS (hC.1 o ho (o, 0) (List.mem_of_getElem? (i := 0) rfl)) (z_lH_0 (o := o) ho) rfl rfl hl.1 rfl (Nat.le_of_ble_eq_true rfl) dX1_addGlove_30 ⟨Nat.zero_le _, Nat.zero_le _⟩ (fun r6 u H locs hk hP hS => ?_)
        obtain ⟨eu, hw⟩ := hk
        rw [eu] at hP
        refine lv_if_ne (tgt := 38) hx hb dX1_addGlove_33 (by decide) (fun c7 => ?_) (fun c7 => ?_)
        · replace hw := hw.1 c7
          refine lv_aload_n hx hb dX1_addGlove_38 rfl (lv_at hl 0 rfl) ?_
          refine lv_dup hx hb dX1_addGlove_39 rfl ?_
          refine z_geti (C := RX1) (T := TX1) (N := 13) (ref := "GauntletHall$Hall") (o := o) (d := 0) hx hb hts hfX1 hown hK hP (hC.1 o ho (o, 0) (List.mem_of_getElem? (i := 0) rfl)) (z_lH_0 (o := o) ho) rfl 1 (by decide) (hts (.fieldLink RX1 15 "GauntletHall$Hall" "gloves" "I") (by decide +kernel)) rfl rfl (z_up_val X o h 0 1) dX1_addGlove_40 ?_
          refine lv_iconst (v := (1 : Int32)) hx hb dX1_addGlove_43 (by decide) ?_
          refine lv_iadd hx hb dX1_addGlove_44 ?_
          obtain ⟨h8, eh8⟩ : ∃ z : z_G, z = z_ss h 0 1 ((h 0 1) + (1 : Int32)) := ⟨_, rfl⟩
          replace hw := hw h8 eh8
          refine z_puti (C := RX1) (T := TX1) (N := 13) (ref := "GauntletHall$Hall") (o := o) (d := 0) (X' := z_up X o h8) hx hb hts hfX1 tyX1 tyX1_ok nmX1 hown hK hE hP hS (hC.1 o ho (o, 0) (List.mem_of_getElem? (i := 0) rfl)) (z_lH_0 (o := o) ho) rfl 1 (by decide) (hts (.fieldLink RX1 15 "GauntletHall$Hall" "gloves" "I") (by decide +kernel)) rfl rfl (by decide +kernel) rfl (by rw [eh8]; exact z_up_put X o h 0 1 _) dX1_addGlove_45 (fun H locs hP hS => ?_)
          refine lv_aload_n hx hb dX1_addGlove_48 rfl (lv_at hl 0 rfl) ?_
          refine lv_aload_n hx hb dX1_addGlove_49 rfl (lv_at hl 0 rfl) ?_
          refine z_geti (C := RX1) (T := TX1) (N := 13) (ref := "GauntletHall$Hall") (o := o) (d := 0) hx hb hts hfX1 hown hK hP (hC.1 o ho (o, 0) (List.mem_of_getElem? (i := 0) rfl)) (z_lH_0 (o := o) ho) rfl 1 (by decide) (hts (.fieldLink RX1 15 "GauntletHall$Hall" "gloves" "I") (by decide +kernel)) rfl rfl (z_up_val X o h8 0 1) dX1_addGlove_50 ?_
          refine lv_iconst (v := (1 : Int32)) hx hb dX1_addGlove_53 (by decide) ?_
          refine lv_isub hx hb dX1_addGlove_54 ?_
          refine lv_iload_n hx hb dX1_addGlove_55 rfl (lv_at hl 1 rfl) ?_
          refine lv_iload_n hx hb dX1_addGlove_56 rfl (lv_at hl 2 rfl) ?_
          refine lv_iload_n hx hb dX1_addGlove_57 rfl (lv_at hl 3 rfl) ?_
          refine z_vv (C := RX1) (T := TX1) (N := 13) (o := o) (rest := []) ⟨hx, hb, hml, hown, hts⟩ (m_X1_putGlove l hE hC o ho X h8 ((h8 0 1) - (1 : Int32)) x1 x2 x3 _ hw) (cwV 4 hts gX1_addGlove_X1_putGlove rfl rfl rfl (by decide +kernel) ⟨Nat.le_of_ble_eq_true rfl, Nat.le_of_ble_eq_true rfl⟩) hK hP hS (hC.1 o ho (o, 0) (List.mem_of_getElem? (i := 0) rfl)) (z_lH_0 (o := o) ho) rfl rfl hl.1 rfl (Nat.le_of_ble_eq_true rfl) dX1_addGlove_58 ⟨Nat.zero_le _, Nat.zero_le _⟩ (fun u H locs hk hP hS => ?_)
          obtain ⟨h9, eu, hw⟩ := hk
          rw [eu] at hP
          refine lv_iconst (v := (1 : Int32)) hx hb dX1_addGlove_61 (by decide) ?_
          exact z_retz C (Or.inr rfl) hP hS ⟨_, rfl, hw⟩ dX1_addGlove_62
        · replace hw := hw.2 c7
          refine lv_iconst (v := (0 : Int32)) hx hb dX1_addGlove_36 (by decide) ?_
          exact z_retz C (Or.inl rfl) hP hS ⟨_, rfl, hw⟩ dX1_addGlove_37
set_option maxHeartbeats 4000000 in
set_option maxRecDepth 100000 in
theorem m_X0_isTakenUp_b80 {p : Program} {l : Launch} {e : Env} {s : State} {m : MethodId} {args : Array Value} {below : List Frame} {meth : Method} {c : Code} {E : z_E} (C : z_Cx p E s m args meth c cX0_isTakenUp 9 wsX0_isTakenUp RX0 (some .boolean)) (hC : z_cls E) (o : Nat) (ho : o < 13) (K : Int32 → z_X → Prop) (Y : z_X) (x5 : Int32) (x6 : Int32) (hw : v_X0_isTakenUp_b80 o K Y x5 x6) {H : Heap} {locs : List Loc} (hP : z_P E Y H) (hS : va_S (z_A E) s.heap H locs) {ls : Array Slot} (hl : lv_has ls 9 [(0, .ref (z_a E 17 0)), (5, .int x5), (6, .int x6)]) : W p l e rX0_isTakenUp s m args below meth c H locs 0 0 (MQ below (va_Qi K (fun u t => z_P E u t.heap) (z_A E)) args s 0 0 (z_A E)) (F0 m 80 ls []) := by
  obtain ⟨hx, hb, hml, hr, hlocks, hown, hts, hK, hE⟩ := id C
  have hfX0 : ∀ w ∈ u_ws RX0 TX0 1, w ∈ wsX0_isTakenUp := by decide +kernel
  have hfX1 : ∀ w ∈ u_ws RX1 TX1 13, w ∈ wsX0_isTakenUp := by decide +kernel
  unfold v_X0_isTakenUp_b80 at hw
  refine lv_aload_n hx hb dX0_isTakenUp_80 rfl (lv_at hl 0 rfl) ?_
  refine z_getr (C := RX0) (T := TX0) (N := 1) (ref := "GauntletHall$Forecast") (o := 17) (d := 0) hx hb hts hfX0 hown hK hP (hC.2 (17, 0) (List.mem_of_getElem? (i := 11) rfl)) z_l_17_0 rfl 0 (by decide) (hts (.fieldLink RX0 12 "GauntletHall$Forecast" "ahead" "LGauntletHall$Hall;") (by decide +kernel)) rfl rfl dX0_isTakenUp_81 ?_
  refine z_getr (C := RX1) (T := TX1) (N := 13) (ref := "GauntletHall$Hall") (o := 2) (d := 0) hx hb hts hfX1 hown hK hP (hC.1 2 (by decide) (2, 0) (List.mem_of_getElem? (i := 0) rfl)) (z_lH_0 (o := 2) (by decide)) rfl 12 (by decide) (hts (.fieldLink RX0 86 "GauntletHall$Hall" "taker" "[I") (by decide +kernel)) rfl rfl dX0_isTakenUp_84 ?_
  refine lv_iload hx hb dX0_isTakenUp_87 (lv_at hl 2 rfl) ?_
  obtain ⟨i8, hw⟩ := hw
  refine z_iald (o := 2) (d := 12) hx hb hK hP (hC.1 2 (by decide) (2, 12) (List.mem_of_getElem? (i := 9) rfl)) (z_lH_12 (o := 2) (by decide)) i8 rfl dX0_isTakenUp_89 ?_
  refine lv_iload hx hb dX0_isTakenUp_90 (lv_at hl 1 rfl) ?_
  refine lv_icmp_ne (tgt := 99) hx hb dX0_isTakenUp_92 (by decide) (fun c9 => ?_) (fun c9 => ?_)
  · replace hw := hw.1 c9
    refine lv_iconst (v := (0 : Int32)) hx hb dX0_isTakenUp_99 (by decide) ?_
    exact z_retz C (Or.inl rfl) hP hS hw dX0_isTakenUp_100
  · replace hw := hw.2 c9
    refine lv_iconst (v := (1 : Int32)) hx hb dX0_isTakenUp_95 (by decide) ?_
    refine lv_goto (tgt := 100) hx hb dX0_isTakenUp_96 (by decide) ?_
    exact z_retz C (Or.inr rfl) hP hS hw dX0_isTakenUp_100
set_option maxHeartbeats 4000000 in
set_option maxRecDepth 100000 in
theorem m_X0_isTakenUp_b39_s {p : Program} {l : Launch} {e : Env} {s : State} {m : MethodId} {args : Array Value} {below : List Frame} {meth : Method} {c : Code} {E : z_E} (C : z_Cx p E s m args meth c cX0_isTakenUp 9 wsX0_isTakenUp RX0 (some .boolean)) (hC : z_cls E) (o : Nat) (ho : o < 13) (K : Int32 → z_X → Prop) (L39 : z_X → Int32 → Int32 → Int32 → Int32 → Prop) (k39 : ∀ (Y : z_X) (x5 : Int32) (x6 : Int32) (x7 : Int32) (x8 : Int32), L39 Y x5 x6 x7 x8 → ∀ {H : Heap} {locs : List Loc}, z_P E Y H → va_S (z_A E) s.heap H locs → ∀ (ls : Array Slot), lv_has ls 9 [(0, .ref (z_a E 17 0)), (5, .int x5), (6, .int x6), (7, .int x7), (8, .int x8)] → W p l e rX0_isTakenUp s m args below meth c H locs 0 0 (MQ below (va_Qi K (fun u t => z_P E u t.heap) (z_A E)) args s 0 0 (z_A E)) (F0 m 39 ls [])) (Y : z_X) (x5 : Int32) (x6 : Int32) (x7 : Int32) (x8 : Int32) (hw : v_X0_isTakenUp_b39_s o K L39 Y x5 x6 x7 x8) {H : Heap} {locs : List Loc} (hP : z_P E Y H) (hS : va_S (z_A E) s.heap H locs) {ls : Array Slot} (hl : lv_has ls 9 [(0, .ref (z_a E 17 0)), (5, .int x5), (6, .int x6), (7, .int x7), (8, .int x8)]) : W p l e rX0_isTakenUp s m args below meth c H locs 0 0 (MQ below (va_Qi K (fun u t => z_P E u t.heap) (z_A E)) args s 0 0 (z_A E)) (F0 m 39 ls []) := by
  obtain ⟨hx, hb, hml, hr, hlocks, hown, hts, hK, hE⟩ := id C
  have hfX0 : ∀ w ∈ u_ws RX0 TX0 1, w ∈ wsX0_isTakenUp := by decide +kernel
  have hfX1 : ∀ w ∈ u_ws RX1 TX1 13, w ∈ wsX0_isTakenUp := by decide +kernel
  unfold v_X0_isTakenUp_b39_s at hw
  refine lv_iload hx hb dX0_isTakenUp_39 (lv_at hl 4 rfl) ?_
  refine lv_bipush (v := (30 : Int32)) hx hb dX0_isTakenUp_41 (by decide) ?_
  refine lv_icmp_ge (tgt := 80) hx hb dX0_isTakenUp_43 (by decide) (fun c7 => ?_) (fun c7 => ?_)
  · replace hw := hw.1 c7
    exact m_X0_isTakenUp_b80 C hC o ho K Y x5 x6 hw hP hS (lv_sub hl [0, 1, 2] rfl)
  · replace hw := hw.2 c7
    refine lv_iload hx hb dX0_isTakenUp_46 (lv_at hl 3 rfl) ?_
    refine lv_if_eq (tgt := 80) hx hb dX0_isTakenUp_48 (by decide) (fun c10 => ?_) (fun c10 => ?_)
    · replace hw := hw.1 c10
      exact m_X0_isTakenUp_b80 C hC o ho K Y x5 x6 hw hP hS (lv_sub hl [0, 1, 2] rfl)
    · replace hw := hw.2 c10
      refine lv_aload_n hx hb dX0_isTakenUp_51 rfl (lv_at hl 0 rfl) ?_
      refine z_getr (C := RX0) (T := TX0) (N := 1) (ref := "GauntletHall$Forecast") (o := 17) (d := 0) hx hb hts hfX0 hown hK hP (hC.2 (17, 0) (List.mem_of_getElem? (i := 11) rfl)) z_l_17_0 rfl 0 (by decide) (hts (.fieldLink RX0 12 "GauntletHall$Forecast" "ahead" "LGauntletHall$Hall;") (by decide +kernel)) rfl rfl dX0_isTakenUp_52 ?_
      refine z_getr (C := RX1) (T := TX1) (N := 13) (ref := "GauntletHall$Hall") (o := 2) (d := 0) hx hb hts hfX1 hown hK hP (hC.1 2 (by decide) (2, 0) (List.mem_of_getElem? (i := 0) rfl)) (z_lH_0 (o := 2) (by decide)) rfl 10 (by decide) (hts (.fieldLink RX0 38 "GauntletHall$Hall" "lies" "[I") (by decide +kernel)) rfl rfl dX0_isTakenUp_55 ?_
      refine lv_iload hx hb dX0_isTakenUp_58 (lv_at hl 2 rfl) ?_
      obtain ⟨i11, hw⟩ := hw
      refine z_iald (o := 2) (d := 10) hx hb hK hP (hC.1 2 (by decide) (2, 10) (List.mem_of_getElem? (i := 7) rfl)) (z_lH_10 (o := 2) (by decide)) i11 rfl dX0_isTakenUp_60 ?_
      refine lv_iconst (v := (1 : Int32)) hx hb dX0_isTakenUp_61 (by decide) ?_
      refine lv_icmp_ne (tgt := 80) hx hb dX0_isTakenUp_62 (by decide) (fun c12 => ?_) (fun c12 => ?_)
      · replace hw := hw.1 c12
        exact m_X0_isTakenUp_b80 C hC o ho K Y x5 x6 hw hP hS (lv_sub hl [0, 1, 2] rfl)
      · replace hw := hw.2 c12
        refine lv_aload_n hx hb dX0_isTakenUp_65 rfl (lv_at hl 0 rfl) ?_
        refine z_getr (C := RX0) (T := TX0) (N := 1) (ref := "GauntletHall$Forecast") (o := 17) (d := 0) hx hb hts hfX0 hown hK hP (hC.2 (17, 0) (List.mem_of_getElem? (i := 11) rfl)) z_l_17_0 rfl 0 (by decide) (hts (.fieldLink RX0 12 "GauntletHall$Forecast" "ahead" "LGauntletHall$Hall;") (by decide +kernel)) rfl rfl dX0_isTakenUp_66 ?_
        have hPc := z_P_self 2 hP
        refine z_vi (C := RX1) (T := TX1) (N := 13) (o := 2) (rest := []) ⟨hx, hb, hml, hown, hts⟩ (m_X1_reignGoesBy l hE hC 2 (by decide) Y (Y 2) _ hw) (cwV 0 hts gX0_isTakenUp_X1_reignGoesBy rfl rfl rfl (by decide +kernel) ⟨Nat.le_of_ble_eq_true rfl, Nat.le_of_ble_eq_true rfl⟩) hK hPc hS (hC.1 2 (by decide) (2, 0) (List.mem_of_getElem? (i := 0) rfl)) (z_lH_0 (o := 2) (by decide)) rfl rfl hl.1 rfl (Nat.le_of_ble_eq_true rfl) dX0_isTakenUp_69 ⟨Nat.zero_le _, Nat.zero_le _⟩ (fun r13 u H locs hk hP hS => ?_)
        obtain ⟨h14, eu, hw⟩ := hk
        rw [eu] at hP
        obtain ⟨Y15, eY15⟩ : ∃ z : z_X, z = z_up Y 2 h14 := ⟨_, rfl⟩
        replace hw := hw Y15 eY15
        rw [← eY15] at hP
        refine lv_istore (lv' := [(7, .int r13), (0, .ref (z_a E 17 0)), (5, .int x5), (6, .int x6), (8, .int x8)]) hx hb dX0_isTakenUp_72 hl (by decide) rfl (fun ls hl => ?_)
        obtain ⟨y16, ey16⟩ : ∃ z : Int32, z = x8 + (1 : Int32) := ⟨_, rfl⟩
        replace hw := hw y16 ey16
        refine lv_iinc (v := y16) (lv' := [(8, .int y16), (7, .int r13), (0, .ref (z_a E 17 0)), (5, .int x5), (6, .int x6)]) hx hb dX0_isTakenUp_74 hl (k := 4) rfl (by rw [ey16]; rfl) (by decide) rfl (fun ls hl => ?_)
        refine lv_goto (tgt := 39) hx hb dX0_isTakenUp_77 (by decide) ?_
        exact k39 Y15 x5 x6 r13 y16 hw hP hS _ (lv_sub hl [2, 3, 4, 1, 0] rfl)
theorem m_X0_isTakenUp_b39 {p : Program} {l : Launch} {e : Env} {s : State} {m : MethodId} {args : Array Value} {below : List Frame} {meth : Method} {c : Code} {E : z_E} (C : z_Cx p E s m args meth c cX0_isTakenUp 9 wsX0_isTakenUp RX0 (some .boolean)) (hC : z_cls E) (o : Nat) (ho : o < 13) (K : Int32 → z_X → Prop) (Y : z_X) (x5 : Int32) (x6 : Int32) (x7 : Int32) (x8 : Int32) (hw : v_X0_isTakenUp_b39 o K Y x5 x6 x7 x8) {H : Heap} {locs : List Loc} (hP : z_P E Y H) (hS : va_S (z_A E) s.heap H locs) {ls : Array Slot} (hl : lv_has ls 9 [(0, .ref (z_a E 17 0)), (5, .int x5), (6, .int x6), (7, .int x7), (8, .int x8)]) : W p l e rX0_isTakenUp s m args below meth c H locs 0 0 (MQ below (va_Qi K (fun u t => z_P E u t.heap) (z_A E)) args s 0 0 (z_A E)) (F0 m 39 ls []) := by
  obtain ⟨n, hw⟩ := hw
  revert hw hP hS hl
  revert Y x5 x6 x7 x8 H locs ls
  induction n with
  | zero => intro Y x5 x6 x7 x8 H locs ls hP hS hl hw; exact hw.elim
  | succ n ih =>
    intro Y x5 x6 x7 x8 H locs ls hP hS hl hw
    exact m_X0_isTakenUp_b39_s C hC o ho K (fun Y x5 x6 x7 x8 => z_fp (σ := z_X × Int32 × Int32 × Int32 × Int32) (fun Lp q => v_X0_isTakenUp_b39_s o K (fun Y x5 x6 x7 x8 => Lp (Y, x5, x6, x7, x8)) q.1 q.2.1 q.2.2.1 q.2.2.2.1 q.2.2.2.2) n (Y, x5, x6, x7, x8)) (fun Y x5 x6 x7 x8 h9 H locs hP hS ls hl => ih Y x5 x6 x7 x8 hP hS hl h9) Y x5 x6 x7 x8 hw hP hS hl
set_option maxHeartbeats 4000000 in
set_option maxRecDepth 100000 in
theorem m_X0_isTakenUp (l : Launch) {E : z_E} (hE : z_ok E) (hC : z_cls E) (o : Nat) (ho : o < 13) (Y : z_X) (x2 : Int32) (x3 : Int32) (x4 : Int32) (x5 : Int32) (K : Int32 → z_X → Prop) (hw : v_X0_isTakenUp o Y x2 x3 x4 x5 K) : z_CI l E yX0_isTakenUp wsX0_isTakenUp rX0_isTakenUp [.ref (z_a E 17 0), .ref (z_a E o 0), .int x2, .int x3, .int x4, .int x5] Y K := by
  refine z_start (cc := cX0_isTakenUp) (maxL := 9) (ret := (some .boolean)) hE (by decide) rfl (Nat.le_of_ble_eq_true rfl) ?_
  intro p e s m below meth c C hP hS ls hl
  have C : z_Cx p E s m _ meth c cX0_isTakenUp 9 wsX0_isTakenUp RX0 (some .boolean) := C
  obtain ⟨hx, hb, hml, hr, hlocks, hown, hts, hK, hE⟩ := id C
  have hl : lv_has ls 9 [(0, .ref (z_a E 17 0)), (1, .ref (z_a E o 0)), (2, .int x2), (3, .int x3), (4, .int x4), (5, .int x5)] := hl
  have hfX0 : ∀ w ∈ u_ws RX0 TX0 1, w ∈ wsX0_isTakenUp := by decide +kernel
  have hfX1 : ∀ w ∈ u_ws RX1 TX1 13, w ∈ wsX0_isTakenUp := by decide +kernel
  unfold v_X0_isTakenUp at hw
  refine lv_aload_n hx hb dX0_isTakenUp_0 rfl (lv_at hl 0 rfl) ?_
  refine z_getr (C := RX0) (T := TX0) (N := 1) (ref := "GauntletHall$Forecast") (o := 17) (d := 0) hx hb hts hfX0 hown hK hP (hC.2 (17, 0) (List.mem_of_getElem? (i := 11) rfl)) z_l_17_0 rfl 0 (by decide) (hts (.fieldLink RX0 12 "GauntletHall$Forecast" "ahead" "LGauntletHall$Hall;") (by decide +kernel)) rfl rfl dX0_isTakenUp_1 ?_
  refine lv_aload_n hx hb dX0_isTakenUp_4 rfl (lv_at hl 1 rfl) ?_
  refine z_vv (C := RX1) (T := TX1) (N := 13) (o := 2) (rest := []) ⟨hx, hb, hml, hown, hts⟩ (m_X1_copyFrom l hE hC 2 (by decide) o ho Y _ hw) (cwV 1 hts gX0_isTakenUp_X1_copyFrom rfl rfl rfl (by decide +kernel) ⟨Nat.le_of_ble_eq_true rfl, Nat.le_of_ble_eq_true rfl⟩) hK hP hS (hC.1 2 (by decide) (2, 0) (List.mem_of_getElem? (i := 0) rfl)) (z_lH_0 (o := 2) (by decide)) rfl rfl hl.1 rfl (Nat.le_of_ble_eq_true rfl) dX0_isTakenUp_5 ⟨Nat.zero_le _, Nat.zero_le _⟩ (fun Y1 H locs hk hP hS => ?_)
  replace hw := hk
  refine lv_aload_n hx hb dX0_isTakenUp_8 rfl (lv_at hl 0 rfl) ?_
  refine z_getr (C := RX0) (T := TX0) (N := 1) (ref := "GauntletHall$Forecast") (o := 17) (d := 0) hx hb hts hfX0 hown hK hP (hC.2 (17, 0) (List.mem_of_getElem? (i := 11) rfl)) z_l_17_0 rfl 0 (by decide) (hts (.fieldLink RX0 12 "GauntletHall$Forecast" "ahead" "LGauntletHall$Hall;") (by decide +kernel)) rfl rfl dX0_isTakenUp_9 ?_
  refine z_geti (C := RX1) (T := TX1) (N := 13) (ref := "GauntletHall$Hall") (o := 2) (d := 0) hx hb hts hfX1 hown hK hP (hC.1 2 (by decide) (2, 0) (List.mem_of_getElem? (i := 0) rfl)) (z_lH_0 (o := 2) (by decide)) rfl 1 (by decide) (hts (.fieldLink RX0 79 "GauntletHall$Hall" "gloves" "I") (by decide +kernel)) rfl rfl rfl dX0_isTakenUp_12 ?_
  refine lv_topi (fun y2 ey2 => ?_)
  replace hw := hw y2 ey2
  refine lv_istore (lv' := [(6, .int y2), (0, .ref (z_a E 17 0)), (1, .ref (z_a E o 0)), (2, .int x2), (3, .int x3), (4, .int x4), (5, .int x5)]) hx hb dX0_isTakenUp_15 hl (by decide) rfl (fun ls hl => ?_)
  refine lv_aload_n hx hb dX0_isTakenUp_17 rfl (lv_at hl 1 rfl) ?_
  refine z_getr (C := RX0) (T := TX0) (N := 1) (ref := "GauntletHall$Forecast") (o := 17) (d := 0) hx hb hts hfX0 hown hK hP (hC.2 (17, 0) (List.mem_of_getElem? (i := 11) rfl)) z_l_17_0 rfl 0 (by decide) (hts (.fieldLink RX0 12 "GauntletHall$Forecast" "ahead" "LGauntletHall$Hall;") (by decide +kernel)) rfl rfl dX0_isTakenUp_18 ?_
  refine lv_iload_n hx hb dX0_isTakenUp_21 rfl (lv_at hl 3 rfl) ?_
  refine lv_iload_n hx hb dX0_isTakenUp_22 rfl (lv_at hl 4 rfl) ?_
  refine lv_iload hx hb dX0_isTakenUp_23 (lv_at hl 5 rfl) ?_
  have hPc := z_P_self 2 hP
  refine z_vi (C := RX1) (T := TX1) (N := 13) (o := 2) (rest := []) ⟨hx, hb, hml, hown, hts⟩ (m_X1_addGlove l hE hC 2 (by decide) Y1 (Y1 2) x2 x3 x4 _ hw) (cwV 3 hts gX0_isTakenUp_X1_addGlove rfl rfl rfl (by decide +kernel) ⟨Nat.le_of_ble_eq_true rfl, Nat.le_of_ble_eq_true rfl⟩) hK hPc hS (hC.1 2 (by decide) (2, 0) (List.mem_of_getElem? (i := 0) rfl)) (z_lH_0 (o := 2) (by decide)) rfl rfl hl.1 rfl (Nat.le_of_ble_eq_true rfl) dX0_isTakenUp_25 ⟨Nat.zero_le _, Nat.zero_le _⟩ (fun r3 u H locs hk hP hS => ?_)
  obtain ⟨h4, eu, hw⟩ := hk
  rw [eu] at hP
  obtain ⟨Y5, eY5⟩ : ∃ z : z_X, z = z_up Y1 2 h4 := ⟨_, rfl⟩
  replace hw := hw Y5 eY5
  rw [← eY5] at hP
  refine lv_if_ne (tgt := 33) hx hb dX0_isTakenUp_28 (by decide) (fun c6 => ?_) (fun c6 => ?_)
  · replace hw := hw.1 c6
    refine lv_iconst (v := (1 : Int32)) hx hb dX0_isTakenUp_33 (by decide) ?_
    refine lv_istore (lv' := [(7, .int (1 : Int32)), (6, .int y2), (0, .ref (z_a E 17 0)), (1, .ref (z_a E o 0)), (2, .int x2), (3, .int x3), (4, .int x4), (5, .int x5)]) hx hb dX0_isTakenUp_34 hl (by decide) rfl (fun ls hl => ?_)
    refine lv_iconst (v := (0 : Int32)) hx hb dX0_isTakenUp_36 (by decide) ?_
    refine lv_istore (lv' := [(8, .int (0 : Int32)), (7, .int (1 : Int32)), (6, .int y2), (0, .ref (z_a E 17 0)), (1, .ref (z_a E o 0)), (2, .int x2), (3, .int x3), (4, .int x4), (5, .int x5)]) hx hb dX0_isTakenUp_37 hl (by decide) rfl (fun ls hl => ?_)
    exact m_X0_isTakenUp_b39 C hC o ho K Y5 x5 y2 (1 : Int32) (0 : Int32) hw hP hS (lv_sub hl [3, 8, 2, 1, 0] rfl)
  · replace hw := hw.2 c6
    refine lv_iconst (v := (0 : Int32)) hx hb dX0_isTakenUp_31 (by decide) ?_
    exact z_retz C (Or.inl rfl) hP hS hw dX0_isTakenUp_32
