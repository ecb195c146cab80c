/-! ===== PRINTED (wip/whole/gen/gen.py): the machine meets each definition: X5.sizes, X5.stretch, X5.take, X5.time, X5.undo, X5.wear, X5.wipe, X5.write, X6.aside ===== -/
set_option maxHeartbeats 4000000 in
set_option maxRecDepth 100000 in
theorem m_X5_sizes_b32_s {p : Program} {l : Launch} {e : Env} {s : State} {m : MethodId} {args : Array Value} {below : List Frame} {meth : Method} {c : Code} {E : z_E} (C : z_Cx p E s m args meth c cX5_sizes 6 wsX5_sizes RX5 (some .int)) (hC : z_cls E) (Y : z_X) (K : Int32 → Prop) (L32 : Int32 → Int32 → Int32 → Int32 → Int32 → Prop) (k32 : ∀ (x1 : Int32) (x2 : Int32) (x3 : Int32) (x4 : Int32) (x5 : Int32), L32 x1 x2 x3 x4 x5 → ∀ {H : Heap} {locs : List Loc}, z_P E Y H → va_S (z_A E) s.heap H locs → ∀ (ls : Array Slot), lv_has ls 6 [(0, .ref (z_a E 18 0)), (1, .int x1), (2, .int x2), (3, .int x3), (4, .int x4), (5, .int x5)] → W p l e rX5_sizes s m args below meth c H locs 0 0 (MQ below (va_Qi (fun r X' => X' = Y ∧ K r) (fun u t => z_P E u t.heap) (z_A E)) args s 0 0 (z_A E)) (F0 m 32 ls [])) (x1 : Int32) (x2 : Int32) (x3 : Int32) (x4 : Int32) (x5 : Int32) (hw : v_X5_sizes_b32_s Y K L32 x1 x2 x3 x4 x5) {H : Heap} {locs : List Loc} (hP : z_P E Y H) (hS : va_S (z_A E) s.heap H locs) {ls : Array Slot} (hl : lv_has ls 6 [(0, .ref (z_a E 18 0)), (1, .int x1), (2, .int x2), (3, .int x3), (4, .int x4), (5, .int x5)]) : W p l e rX5_sizes s m args below meth c H locs 0 0 (MQ below (va_Qi (fun r X' => X' = Y ∧ K r) (fun u t => z_P E u t.heap) (z_A E)) args s 0 0 (z_A E)) (F0 m 32 ls []) := by
  obtain ⟨hx, hb, hml, hr, hlocks, hown, hts, hK, hE⟩ := id C
  have hfX1 : ∀ w ∈ u_ws RX1 TX1 13, w ∈ wsX5_sizes := by decide +kernel
  have hfX5 : ∀ w ∈ u_ws RX5 TX5 7, w ∈ wsX5_sizes := by decide +kernel
  unfold v_X5_sizes_b32_s at hw
  refine lv_iload hx hb dX5_sizes_32 (lv_at hl 5 rfl) ?_
  refine lv_iconst (v := (1 : Int32)) hx hb dX5_sizes_34 (by decide) ?_
  refine lv_icmp_lt (tgt := 77) hx hb dX5_sizes_35 (by decide) (fun c5 => ?_) (fun c5 => ?_)
  · replace hw := hw.1 c5
    refine lv_iload_n hx hb dX5_sizes_77 rfl (lv_at hl 2 rfl) ?_
    refine lv_if_ne (tgt := 85) hx hb dX5_sizes_78 (by decide) (fun c6 => ?_) (fun c6 => ?_)
    · replace hw := hw.1 c6
      refine lv_iload hx hb dX5_sizes_85 (lv_at hl 4 rfl) ?_
      exact z_reti C hP hS ⟨rfl, hw⟩ dX5_sizes_87
    · replace hw := hw.2 c6
      refine lv_iload_n hx hb dX5_sizes_81 rfl (lv_at hl 3 rfl) ?_
      refine lv_goto (tgt := 87) hx hb dX5_sizes_82 (by decide) ?_
      exact z_reti C hP hS ⟨rfl, hw⟩ dX5_sizes_87
  · replace hw := hw.2 c5
    refine lv_aload_n hx hb dX5_sizes_38 rfl (lv_at hl 0 rfl) ?_
    refine z_getr (C := RX5) (T := TX5) (N := 7) (ref := "GauntletHall") (o := 18) (d := 0) hx hb hts hfX5 hown hK hP (hC.2 (18, 0) (List.mem_of_getElem? (i := 12) rfl)) z_l_18_0 rfl 5 (by decide) (hts (.fieldLink RX5 41 "GauntletHall" "sightings" "LGauntletHall$Sightings;") (by decide +kernel)) rfl rfl dX5_sizes_39 ?_
    refine lv_aload_n hx hb dX5_sizes_42 rfl (lv_at hl 0 rfl) ?_
    refine z_getr (C := RX5) (T := TX5) (N := 7) (ref := "GauntletHall") (o := 18) (d := 0) hx hb hts hfX5 hown hK hP (hC.2 (18, 0) (List.mem_of_getElem? (i := 12) rfl)) z_l_18_0 rfl 1 (by decide) (hts (.fieldLink RX5 19 "GauntletHall" "hall" "LGauntletHall$Hall;") (by decide +kernel)) rfl rfl dX5_sizes_43 ?_
    refine lv_iload_n hx hb dX5_sizes_46 rfl (lv_at hl 1 rfl) ?_
    refine lv_aload_n hx hb dX5_sizes_47 rfl (lv_at hl 0 rfl) ?_
    refine z_getr (C := RX5) (T := TX5) (N := 7) (ref := "GauntletHall") (o := 18) (d := 0) hx hb hts hfX5 hown hK hP (hC.2 (18, 0) (List.mem_of_getElem? (i := 12) rfl)) z_l_18_0 rfl 1 (by decide) (hts (.fieldLink RX5 19 "GauntletHall" "hall" "LGauntletHall$Hall;") (by decide +kernel)) rfl rfl dX5_sizes_48 ?_
    refine z_getr (C := RX1) (T := TX1) (N := 13) (ref := "GauntletHall$Hall") (o := 0) (d := 0) hx hb hts hfX1 hown hK hP (hC.1 0 (by decide) (0, 0) (List.mem_of_getElem? (i := 0) rfl)) (z_lH_0 (o := 0) (by decide)) rfl 7 (by decide) (hts (.fieldLink RX5 106 "GauntletHall$Hall" "kind" "[I") (by decide +kernel)) rfl rfl dX5_sizes_51 ?_
    refine lv_iload_n hx hb dX5_sizes_54 rfl (lv_at hl 1 rfl) ?_
    obtain ⟨i7, hw⟩ := hw
    refine z_iald (o := 0) (d := 7) hx hb hK hP (hC.1 0 (by decide) (0, 7) (List.mem_of_getElem? (i := 4) rfl)) (z_lH_7 (o := 0) (by decide)) i7 rfl dX5_sizes_55 ?_
    refine lv_iload hx hb dX5_sizes_56 (lv_at hl 5 rfl) ?_
    refine z_vi (C := RX4) (T := TX4) (N := 4) (o := 16) (rest := []) ⟨hx, hb, hml, hown, hts⟩ (m_X4_allowGlove l hE hC 0 (by decide) Y x1 (Y 0 7 (z_n x1)) x5 _ hw) (cwV 4 hts gX5_sizes_X4_allowGlove rfl rfl rfl (by decide +kernel) ⟨Nat.le_of_ble_eq_true rfl, Nat.le_of_ble_eq_true rfl⟩) hK hP hS (hC.2 (16, 0) (List.mem_of_getElem? (i := 7) rfl)) z_l_16_0 rfl rfl hl.1 rfl (Nat.le_of_ble_eq_true rfl) dX5_sizes_58 ⟨Nat.zero_le _, Nat.zero_le _⟩ (fun r8 u H locs hk hP hS => ?_)
    obtain ⟨eu, hw⟩ := hk
    rw [eu] at hP
    refine lv_if_eq (tgt := 71) hx hb dX5_sizes_61 (by decide) (fun c9 => ?_) (fun c9 => ?_)
    · replace hw := hw.1 c9
      obtain ⟨y10, ey10⟩ : ∃ z : Int32, z = x5 + (-1 : Int32) := ⟨_, rfl⟩
      replace hw := hw y10 ey10
      refine lv_iinc (v := y10) (lv' := [(5, .int y10), (0, .ref (z_a E 18 0)), (1, .int x1), (2, .int x2), (3, .int x3), (4, .int x4)]) hx hb dX5_sizes_71 hl (k := 5) rfl (by rw [ey10]; rfl) (by decide) rfl (fun ls hl => ?_)
      refine lv_goto (tgt := 32) hx hb dX5_sizes_74 (by decide) ?_
      exact k32 x1 x2 x3 x4 y10 hw hP hS _ (lv_sub hl [1, 2, 3, 4, 5, 0] rfl)
    · replace hw := hw.2 c9
      obtain ⟨y11, ey11⟩ : ∃ z : Int32, z = x3 + (1 : Int32) := ⟨_, rfl⟩
      replace hw := hw y11 ey11
      refine lv_iinc (v := y11) (lv' := [(3, .int y11), (0, .ref (z_a E 18 0)), (1, .int x1), (2, .int x2), (4, .int x4), (5, .int x5)]) hx hb dX5_sizes_64 hl (k := 3) rfl (by rw [ey11]; rfl) (by decide) rfl (fun ls hl => ?_)
      refine lv_iload hx hb dX5_sizes_67 (lv_at hl 5 rfl) ?_
      refine lv_istore (lv' := [(4, .int x5), (3, .int y11), (0, .ref (z_a E 18 0)), (1, .int x1), (2, .int x2), (5, .int x5)]) hx hb dX5_sizes_69 hl (by decide) rfl (fun ls hl => ?_)
      obtain ⟨y12, ey12⟩ : ∃ z : Int32, z = x5 + (-1 : Int32) := ⟨_, rfl⟩
      replace hw := hw y12 ey12
      refine lv_iinc (v := y12) (lv' := [(5, .int y12), (4, .int x5), (3, .int y11), (0, .ref (z_a E 18 0)), (1, .int x1), (2, .int x2)]) hx hb dX5_sizes_71 hl (k := 5) rfl (by rw [ey12]; rfl) (by decide) rfl (fun ls hl => ?_)
      refine lv_goto (tgt := 32) hx hb dX5_sizes_74 (by decide) ?_
      exact k32 x1 x2 y11 x5 y12 hw hP hS _ (lv_sub hl [3, 4, 5, 2, 1, 0] rfl)
theorem m_X5_sizes_b32 {p : Program} {l : Launch} {e : Env} {s : State} {m : MethodId} {args : Array Value} {below : List Frame} {meth : Method} {c : Code} {E : z_E} (C : z_Cx p E s m args meth c cX5_sizes 6 wsX5_sizes RX5 (some .int)) (hC : z_cls E) (Y : z_X) (K : Int32 → Prop) (x1 : Int32) (x2 : Int32) (x3 : Int32) (x4 : Int32) (x5 : Int32) (hw : v_X5_sizes_b32 Y K x1 x2 x3 x4 x5) {H : Heap} {locs : List Loc} (hP : z_P E Y H) (hS : va_S (z_A E) s.heap H locs) {ls : Array Slot} (hl : lv_has ls 6 [(0, .ref (z_a E 18 0)), (1, .int x1), (2, .int x2), (3, .int x3), (4, .int x4), (5, .int x5)]) : W p l e rX5_sizes s m args below meth c H locs 0 0 (MQ below (va_Qi (fun r X' => X' = Y ∧ K r) (fun u t => z_P E u t.heap) (z_A E)) args s 0 0 (z_A E)) (F0 m 32 ls []) := by
  obtain ⟨n, hw⟩ := hw
  revert hw hP hS hl
  revert x1 x2 x3 x4 x5 H locs ls
  induction n with
  | zero => intro x1 x2 x3 x4 x5 H locs ls hP hS hl hw; exact hw.elim
  | succ n ih =>
    intro x1 x2 x3 x4 x5 H locs ls hP hS hl hw
    exact m_X5_sizes_b32_s C hC Y K (fun x1 x2 x3 x4 x5 => z_fp (σ := Int32 × Int32 × Int32 × Int32 × Int32) (fun Lp q => v_X5_sizes_b32_s Y K (fun x1 x2 x3 x4 x5 => Lp (x1, x2, x3, x4, x5)) q.1 q.2.1 q.2.2.1 q.2.2.2.1 q.2.2.2.2) n (x1, x2, x3, x4, x5)) (fun x1 x2 x3 x4 x5 h9 H locs hP hS ls hl => ih x1 x2 x3 x4 x5 hP hS hl h9) x1 x2 x3 x4 x5 hw hP hS hl
set_option maxHeartbeats 4000000 in
set_option maxRecDepth 100000 in
theorem m_X5_sizes (l : Launch) {E : z_E} (hE : z_ok E) (hC : z_cls E) (Y : z_X) (x1 : Int32) (x2 : Int32) (K : Int32 → Prop) (hw : v_X5_sizes Y x1 x2 K) : z_CI l E yX5_sizes wsX5_sizes rX5_sizes [.ref (z_a E 18 0), .int x1, .int x2] Y (fun r X' => X' = Y ∧ K r) := by
  refine z_start (cc := cX5_sizes) (maxL := 6) (ret := (some .int)) hE (by decide) rfl (Nat.le_of_ble_eq_true rfl) ?_
  intro p e s m below meth c C hP hS ls hl
  have C : z_Cx p E s m _ meth c cX5_sizes 6 wsX5_sizes RX5 (some .int) := C
  obtain ⟨hx, hb, hml, hr, hlocks, hown, hts, hK, hE⟩ := id C
  have hl : lv_has ls 6 [(0, .ref (z_a E 18 0)), (1, .int x1), (2, .int x2)] := hl
  have hfX1 : ∀ w ∈ u_ws RX1 TX1 13, w ∈ wsX5_sizes := by decide +kernel
  have hfX5 : ∀ w ∈ u_ws RX5 TX5 7, w ∈ wsX5_sizes := by decide +kernel
  unfold v_X5_sizes at hw
  refine lv_aload_n hx hb dX5_sizes_0 rfl (lv_at hl 0 rfl) ?_
  refine z_getr (C := RX5) (T := TX5) (N := 7) (ref := "GauntletHall") (o := 18) (d := 0) hx hb hts hfX5 hown hK hP (hC.2 (18, 0) (List.mem_of_getElem? (i := 12) rfl)) z_l_18_0 rfl 1 (by decide) (hts (.fieldLink RX5 19 "GauntletHall" "hall" "LGauntletHall$Hall;") (by decide +kernel)) rfl rfl dX5_sizes_1 ?_
  refine lv_iload_n hx hb dX5_sizes_4 rfl (lv_at hl 1 rfl) ?_
  have hPc := z_P_self 0 hP
  refine z_vi (C := RX1) (T := TX1) (N := 13) (o := 0) (rest := []) ⟨hx, hb, hml, hown, hts⟩ (m_X1_isGlove l hE hC 0 (by decide) Y (Y 0) x1 _ hw) (cwV 1 hts gX5_sizes_X1_isGlove rfl rfl rfl (by decide +kernel) ⟨Nat.le_of_ble_eq_true rfl, Nat.le_of_ble_eq_true rfl⟩) hK hPc hS (hC.1 0 (by decide) (0, 0) (List.mem_of_getElem? (i := 0) rfl)) (z_lH_0 (o := 0) (by decide)) rfl rfl hl.1 rfl (Nat.le_of_ble_eq_true rfl) dX5_sizes_5 ⟨Nat.zero_le _, Nat.zero_le _⟩ (fun r1 u H locs hk hP hS => ?_)
  obtain ⟨eu, hw⟩ := hk
  rw [eu, z_up_self] at hP
  refine lv_if_eq (tgt := 20) hx hb dX5_sizes_8 (by decide) (fun c2 => ?_) (fun c2 => ?_)
  · replace hw := hw.1 c2
    refine lv_iconst (v := (-1 : Int32)) hx hb dX5_sizes_20 (by decide) ?_
    exact z_reti C hP hS ⟨rfl, hw⟩ dX5_sizes_21
  · replace hw := hw.2 c2
    refine lv_iload_n hx hb dX5_sizes_11 rfl (lv_at hl 2 rfl) ?_
    refine lv_iconst (v := (0 : Int32)) hx hb dX5_sizes_12 (by decide) ?_
    refine lv_iconst (v := (1 : Int32)) hx hb dX5_sizes_13 (by decide) ?_
    refine z_si (rest := []) ⟨hx, hb, hml, hown, hts⟩ (m_X5_within l hE Y x2 (0 : Int32) (1 : Int32) _ hw) (va_cwS 3 hts gX5_sizes_X5_within rfl rfl rfl (by decide +kernel) ⟨Nat.le_of_ble_eq_true rfl, Nat.le_of_ble_eq_true rfl⟩) hK hP hS rfl hl.1 rfl (Nat.le_of_ble_eq_true rfl) dX5_sizes_14 ⟨Nat.zero_le _, Nat.zero_le _⟩ (fun r3 u H locs hk hP hS => ?_)
    obtain ⟨eu, hw⟩ := hk
    rw [eu] at hP
    refine lv_if_ne (tgt := 22) hx hb dX5_sizes_17 (by decide) (fun c4 => ?_) (fun c4 => ?_)
    · replace hw := hw.1 c4
      refine lv_iconst (v := (0 : Int32)) hx hb dX5_sizes_22 (by decide) ?_
      refine lv_istore_n (lv' := [(3, .int (0 : Int32)), (0, .ref (z_a E 18 0)), (1, .int x1), (2, .int x2)]) hx hb dX5_sizes_23 rfl hl (by decide) rfl (fun ls hl => ?_)
      refine lv_bipush (v := (-4 : Int32)) hx hb dX5_sizes_24 (by decide) ?_
      refine lv_istore (lv' := [(4, .int (-4 : Int32)), (3, .int (0 : Int32)), (0, .ref (z_a E 18 0)), (1, .int x1), (2, .int x2)]) hx hb dX5_sizes_26 hl (by decide) rfl (fun ls hl => ?_)
      refine lv_bipush (v := (20 : Int32)) hx hb dX5_sizes_28 (by decide) ?_
      refine lv_istore (lv' := [(5, .int (20 : Int32)), (4, .int (-4 : Int32)), (3, .int (0 : Int32)), (0, .ref (z_a E 18 0)), (1, .int x1), (2, .int x2)]) hx hb dX5_sizes_30 hl (by decide) rfl (fun ls hl => ?_)
      exact m_X5_sizes_b32 C hC Y K x1 x2 (0 : Int32) (-4 : Int32) (20 : Int32) hw hP hS (lv_sub hl [3, 4, 5, 2, 1, 0] rfl)
    · replace hw := hw.2 c4
      refine lv_iconst (v := (-1 : Int32)) hx hb dX5_sizes_20 (by decide) ?_
      exact z_reti C hP hS ⟨rfl, hw⟩ dX5_sizes_21
set_option maxHeartbeats 4000000 in
set_option maxRecDepth 100000 in
theorem m_X5_stretch (l : Launch) {E : z_E} (hE : z_ok E) (hC : z_cls E) (Y : z_X) (x1 : Int32) (K : Int32 → z_X → Prop) (hw : v_X5_stretch Y x1 K) : z_CI l E yX5_stretch wsX5_stretch rX5_stretch [.ref (z_a E 18 0), .int x1] Y K := by
  refine z_start (cc := cX5_stretch) (maxL := 2) (ret := (some .int)) hE (by decide) rfl (Nat.le_of_ble_eq_true rfl) ?_
  intro p e s m below meth c C hP hS ls hl
  have C : z_Cx p E s m _ meth c cX5_stretch 2 wsX5_stretch RX5 (some .int) := C
  obtain ⟨hx, hb, hml, hr, hlocks, hown, hts, hK, hE⟩ := id C
  have hl : lv_has ls 2 [(0, .ref (z_a E 18 0)), (1, .int x1)] := hl
  have hfX1 : ∀ w ∈ u_ws RX1 TX1 13, w ∈ wsX5_stretch := by decide +kernel
  have hfX5 : ∀ w ∈ u_ws RX5 TX5 7, w ∈ wsX5_stretch := by decide +kernel
  unfold v_X5_stretch at hw
  refine lv_aload_n hx hb dX5_stretch_0 rfl (lv_at hl 0 rfl) ?_
  refine z_getr (C := RX5) (T := TX5) (N := 7) (ref := "GauntletHall") (o := 18) (d := 0) hx hb hts hfX5 hown hK hP (hC.2 (18, 0) (List.mem_of_getElem? (i := 12) rfl)) z_l_18_0 rfl 1 (by decide) (hts (.fieldLink RX5 19 "GauntletHall" "hall" "LGauntletHall$Hall;") (by decide +kernel)) rfl rfl dX5_stretch_1 ?_
  refine lv_iload_n hx hb dX5_stretch_4 rfl (lv_at hl 1 rfl) ?_
  have hPc := z_P_self 0 hP
  refine z_vi (C := RX1) (T := TX1) (N := 13) (o := 0) (rest := []) ⟨hx, hb, hml, hown, hts⟩ (m_X1_isGlove l hE hC 0 (by decide) Y (Y 0) x1 _ hw) (cwV 1 hts gX5_stretch_X1_isGlove rfl rfl rfl (by decide +kernel) ⟨Nat.le_of_ble_eq_true rfl, Nat.le_of_ble_eq_true rfl⟩) hK hPc hS (hC.1 0 (by decide) (0, 0) (List.mem_of_getElem? (i := 0) rfl)) (z_lH_0 (o := 0) (by decide)) rfl rfl hl.1 rfl (Nat.le_of_ble_eq_true rfl) dX5_stretch_5 ⟨Nat.zero_le _, Nat.zero_le _⟩ (fun r1 u H locs hk hP hS => ?_)
  obtain ⟨eu, hw⟩ := hk
  rw [eu, z_up_self] at hP
  refine lv_if_ne (tgt := 13) hx hb dX5_stretch_8 (by decide) (fun c2 => ?_) (fun c2 => ?_)
  · replace hw := hw.1 c2
    refine lv_aload_n hx hb dX5_stretch_13 rfl (lv_at hl 0 rfl) ?_
    refine z_getr (C := RX5) (T := TX5) (N := 7) (ref := "GauntletHall") (o := 18) (d := 0) hx hb hts hfX5 hown hK hP (hC.2 (18, 0) (List.mem_of_getElem? (i := 12) rfl)) z_l_18_0 rfl 1 (by decide) (hts (.fieldLink RX5 19 "GauntletHall" "hall" "LGauntletHall$Hall;") (by decide +kernel)) rfl rfl dX5_stretch_14 ?_
    refine z_getr (C := RX1) (T := TX1) (N := 13) (ref := "GauntletHall$Hall") (o := 0) (d := 0) hx hb hts hfX1 hown hK hP (hC.1 0 (by decide) (0, 0) (List.mem_of_getElem? (i := 0) rfl)) (z_lH_0 (o := 0) (by decide)) rfl 7 (by decide) (hts (.fieldLink RX5 106 "GauntletHall$Hall" "kind" "[I") (by decide +kernel)) rfl rfl dX5_stretch_17 ?_
    refine lv_iload_n hx hb dX5_stretch_20 rfl (lv_at hl 1 rfl) ?_
    obtain ⟨i3, hw⟩ := hw
    refine z_iald (o := 0) (d := 7) hx hb hK hP (hC.1 0 (by decide) (0, 7) (List.mem_of_getElem? (i := 4) rfl)) (z_lH_7 (o := 0) (by decide)) i3 rfl dX5_stretch_21 ?_
    refine lv_iconst (v := (1 : Int32)) hx hb dX5_stretch_22 (by decide) ?_
    refine lv_icmp_ne (tgt := 52) hx hb dX5_stretch_23 (by decide) (fun c4 => ?_) (fun c4 => ?_)
    · replace hw := hw.1 c4
      refine lv_bipush (v := (-2 : Int32)) hx hb dX5_stretch_52 (by decide) ?_
      exact z_reti C hP hS hw dX5_stretch_54
    · replace hw := hw.2 c4
      refine lv_aload_n hx hb dX5_stretch_26 rfl (lv_at hl 0 rfl) ?_
      refine z_getr (C := RX5) (T := TX5) (N := 7) (ref := "GauntletHall") (o := 18) (d := 0) hx hb hts hfX5 hown hK hP (hC.2 (18, 0) (List.mem_of_getElem? (i := 12) rfl)) z_l_18_0 rfl 1 (by decide) (hts (.fieldLink RX5 19 "GauntletHall" "hall" "LGauntletHall$Hall;") (by decide +kernel)) rfl rfl dX5_stretch_27 ?_
      refine z_getr (C := RX1) (T := TX1) (N := 13) (ref := "GauntletHall$Hall") (o := 0) (d := 0) hx hb hts hfX1 hown hK hP (hC.1 0 (by decide) (0, 0) (List.mem_of_getElem? (i := 0) rfl)) (z_lH_0 (o := 0) (by decide)) rfl 10 (by decide) (hts (.fieldLink RX5 128 "GauntletHall$Hall" "lies" "[I") (by decide +kernel)) rfl rfl dX5_stretch_30 ?_
      refine lv_iload_n hx hb dX5_stretch_33 rfl (lv_at hl 1 rfl) ?_
      obtain ⟨i5, hw⟩ := hw
      refine z_iald (o := 0) (d := 10) hx hb hK hP (hC.1 0 (by decide) (0, 10) (List.mem_of_getElem? (i := 7) rfl)) (z_lH_10 (o := 0) (by decide)) i5 rfl dX5_stretch_34 ?_
      refine lv_if_eq (tgt := 52) hx hb dX5_stretch_35 (by decide) (fun c6 => ?_) (fun c6 => ?_)
      · replace hw := hw.1 c6
        refine lv_bipush (v := (-2 : Int32)) hx hb dX5_stretch_52 (by decide) ?_
        exact z_reti C hP hS hw dX5_stretch_54
      · replace hw := hw.2 c6
        refine lv_aload_n hx hb dX5_stretch_38 rfl (lv_at hl 0 rfl) ?_
        refine z_getr (C := RX5) (T := TX5) (N := 7) (ref := "GauntletHall") (o := 18) (d := 0) hx hb hts hfX5 hown hK hP (hC.2 (18, 0) (List.mem_of_getElem? (i := 12) rfl)) z_l_18_0 rfl 1 (by decide) (hts (.fieldLink RX5 19 "GauntletHall" "hall" "LGauntletHall$Hall;") (by decide +kernel)) rfl rfl dX5_stretch_39 ?_
        refine z_getr (C := RX1) (T := TX1) (N := 13) (ref := "GauntletHall$Hall") (o := 0) (d := 0) hx hb hts hfX1 hown hK hP (hC.1 0 (by decide) (0, 0) (List.mem_of_getElem? (i := 0) rfl)) (z_lH_0 (o := 0) (by decide)) rfl 8 (by decide) (hts (.fieldLink RX5 109 "GauntletHall$Hall" "size" "[I") (by decide +kernel)) rfl rfl dX5_stretch_42 ?_
        refine lv_iload_n hx hb dX5_stretch_45 rfl (lv_at hl 1 rfl) ?_
        obtain ⟨i7, hw⟩ := hw
        refine z_iald (o := 0) (d := 8) hx hb hK hP (hC.1 0 (by decide) (0, 8) (List.mem_of_getElem? (i := 5) rfl)) (z_lH_8 (o := 0) (by decide)) i7 rfl dX5_stretch_46 ?_
        refine lv_bipush (v := (20 : Int32)) hx hb dX5_stretch_47 (by decide) ?_
        refine lv_icmp_lt (tgt := 55) hx hb dX5_stretch_49 (by decide) (fun c8 => ?_) (fun c8 => ?_)
        · replace hw := hw.1 c8
          refine lv_aload_n hx hb dX5_stretch_55 rfl (lv_at hl 0 rfl) ?_
          refine z_getr (C := RX5) (T := TX5) (N := 7) (ref := "GauntletHall") (o := 18) (d := 0) hx hb hts hfX5 hown hK hP (hC.2 (18, 0) (List.mem_of_getElem? (i := 12) rfl)) z_l_18_0 rfl 3 (by decide) (hts (.fieldLink RX5 31 "GauntletHall" "past" "LGauntletHall$Shelf;") (by decide +kernel)) rfl rfl dX5_stretch_56 ?_
          refine lv_aload_n hx hb dX5_stretch_59 rfl (lv_at hl 0 rfl) ?_
          refine z_getr (C := RX5) (T := TX5) (N := 7) (ref := "GauntletHall") (o := 18) (d := 0) hx hb hts hfX5 hown hK hP (hC.2 (18, 0) (List.mem_of_getElem? (i := 12) rfl)) z_l_18_0 rfl 1 (by decide) (hts (.fieldLink RX5 19 "GauntletHall" "hall" "LGauntletHall$Hall;") (by decide +kernel)) rfl rfl dX5_stretch_60 ?_
          refine z_vv (C := RX3) (T := TX3) (N := 3) (o := 14) (rest := []) ⟨hx, hb, hml, hown, hts⟩ (m_X3_put l hE hC 14 3 8 (z_s14 hC) 0 (by decide) Y _ hw) (cwV 1 hts gX5_stretch_X3_put rfl rfl rfl (by decide +kernel) ⟨Nat.le_of_ble_eq_true rfl, Nat.le_of_ble_eq_true rfl⟩) hK hP hS (hC.2 (14, 0) (List.mem_of_getElem? (i := 3) rfl)) z_l_14_0 rfl rfl hl.1 rfl (Nat.le_of_ble_eq_true rfl) dX5_stretch_63 ⟨Nat.zero_le _, Nat.zero_le _⟩ (fun Y9 H locs hk hP hS => ?_)
          replace hw := hk
          refine lv_aload_n hx hb dX5_stretch_66 rfl (lv_at hl 0 rfl) ?_
          refine z_getr (C := RX5) (T := TX5) (N := 7) (ref := "GauntletHall") (o := 18) (d := 0) hx hb hts hfX5 hown hK hP (hC.2 (18, 0) (List.mem_of_getElem? (i := 12) rfl)) z_l_18_0 rfl 1 (by decide) (hts (.fieldLink RX5 19 "GauntletHall" "hall" "LGauntletHall$Hall;") (by decide +kernel)) rfl rfl dX5_stretch_67 ?_
          refine z_getr (C := RX1) (T := TX1) (N := 13) (ref := "GauntletHall$Hall") (o := 0) (d := 0) hx hb hts hfX1 hown hK hP (hC.1 0 (by decide) (0, 0) (List.mem_of_getElem? (i := 0) rfl)) (z_lH_0 (o := 0) (by decide)) rfl 8 (by decide) (hts (.fieldLink RX5 109 "GauntletHall$Hall" "size" "[I") (by decide +kernel)) rfl rfl dX5_stretch_70 ?_
          refine lv_iload_n hx hb dX5_stretch_73 rfl (lv_at hl 1 rfl) ?_
          refine lv_dup2_11 hx hb dX5_stretch_74 rfl rfl ?_
          obtain ⟨i10, hw⟩ := hw
          refine z_iald (o := 0) (d := 8) hx hb hK hP (hC.1 0 (by decide) (0, 8) (List.mem_of_getElem? (i := 5) rfl)) (z_lH_8 (o := 0) (by decide)) i10 rfl dX5_stretch_75 ?_
          refine lv_iconst (v := (1 : Int32)) hx hb dX5_stretch_76 (by decide) ?_
          refine lv_iadd hx hb dX5_stretch_77 ?_
          obtain ⟨i11, hw⟩ := hw
          obtain ⟨Y12, eY12⟩ : ∃ z : z_X, z = z_up Y9 0 (z_ss (Y9 0) 8 (z_n x1) ((Y9 0 8 (z_n x1)) + (1 : Int32))) := ⟨_, rfl⟩
          replace hw := hw Y12 eY12
          refine z_iast (o := 0) (d := 8) (X' := Y12) hx hb hK hE hP hS (hC.1 0 (by decide) (0, 8) (List.mem_of_getElem? (i := 5) rfl)) (z_lH_8 (o := 0) (by decide)) i11 eY12.symm dX5_stretch_78 (fun H locs hP hS => ?_)
          refine lv_aload_n hx hb dX5_stretch_79 rfl (lv_at hl 0 rfl) ?_
          refine z_getr (C := RX5) (T := TX5) (N := 7) (ref := "GauntletHall") (o := 18) (d := 0) hx hb hts hfX5 hown hK hP (hC.2 (18, 0) (List.mem_of_getElem? (i := 12) rfl)) z_l_18_0 rfl 1 (by decide) (hts (.fieldLink RX5 19 "GauntletHall" "hall" "LGauntletHall$Hall;") (by decide +kernel)) rfl rfl dX5_stretch_80 ?_
          refine z_getr (C := RX1) (T := TX1) (N := 13) (ref := "GauntletHall$Hall") (o := 0) (d := 0) hx hb hts hfX1 hown hK hP (hC.1 0 (by decide) (0, 0) (List.mem_of_getElem? (i := 0) rfl)) (z_lH_0 (o := 0) (by decide)) rfl 8 (by decide) (hts (.fieldLink RX5 109 "GauntletHall$Hall" "size" "[I") (by decide +kernel)) rfl rfl dX5_stretch_83 ?_
          refine lv_iload_n hx hb dX5_stretch_86 rfl (lv_at hl 1 rfl) ?_
          obtain ⟨i13, hw⟩ := hw
          refine z_iald (o := 0) (d := 8) hx hb hK hP (hC.1 0 (by decide) (0, 8) (List.mem_of_getElem? (i := 5) rfl)) (z_lH_8 (o := 0) (by decide)) i13 rfl dX5_stretch_87 ?_
          exact z_reti C hP hS hw dX5_stretch_88
        · replace hw := hw.2 c8
          refine lv_bipush (v := (-2 : Int32)) hx hb dX5_stretch_52 (by decide) ?_
          exact z_reti C hP hS hw dX5_stretch_54
  · replace hw := hw.2 c2
    refine lv_iconst (v := (-1 : Int32)) hx hb dX5_stretch_11 (by decide) ?_
    exact z_reti C hP hS hw dX5_stretch_12
set_option maxHeartbeats 4000000 in
set_option maxRecDepth 100000 in
theorem m_X5_take (l : Launch) {E : z_E} (hE : z_ok E) (hC : z_cls E) (Y : z_X) (x1 : Int32) (K : Int32 → z_X → Prop) (hw : v_X5_take Y x1 K) : z_CI l E yX5_take wsX5_take rX5_take [.ref (z_a E 18 0), .int x1] Y K := by
  refine z_start (cc := cX5_take) (maxL := 2) (ret := (some .int)) hE (by decide) rfl (Nat.le_of_ble_eq_true rfl) ?_
  intro p e s m below meth c C hP hS ls hl
  have C : z_Cx p E s m _ meth c cX5_take 2 wsX5_take RX5 (some .int) := C
  obtain ⟨hx, hb, hml, hr, hlocks, hown, hts, hK, hE⟩ := id C
  have hl : lv_has ls 2 [(0, .ref (z_a E 18 0)), (1, .int x1)] := hl
  have hfX1 : ∀ w ∈ u_ws RX1 TX1 13, w ∈ wsX5_take := by decide +kernel
  have hfX5 : ∀ w ∈ u_ws RX5 TX5 7, w ∈ wsX5_take := by decide +kernel
  unfold v_X5_take at hw
  refine lv_aload_n hx hb dX5_take_0 rfl (lv_at hl 0 rfl) ?_
  refine z_getr (C := RX5) (T := TX5) (N := 7) (ref := "GauntletHall") (o := 18) (d := 0) hx hb hts hfX5 hown hK hP (hC.2 (18, 0) (List.mem_of_getElem? (i := 12) rfl)) z_l_18_0 rfl 1 (by decide) (hts (.fieldLink RX5 19 "GauntletHall" "hall" "LGauntletHall$Hall;") (by decide +kernel)) rfl rfl dX5_take_1 ?_
  refine lv_iload_n hx hb dX5_take_4 rfl (lv_at hl 1 rfl) ?_
  have hPc := z_P_self 0 hP
  refine z_vi (C := RX1) (T := TX1) (N := 13) (o := 0) (rest := []) ⟨hx, hb, hml, hown, hts⟩ (m_X1_isGlove l hE hC 0 (by decide) Y (Y 0) x1 _ hw) (cwV 1 hts gX5_take_X1_isGlove rfl rfl rfl (by decide +kernel) ⟨Nat.le_of_ble_eq_true rfl, Nat.le_of_ble_eq_true rfl⟩) hK hPc hS (hC.1 0 (by decide) (0, 0) (List.mem_of_getElem? (i := 0) rfl)) (z_lH_0 (o := 0) (by decide)) rfl rfl hl.1 rfl (Nat.le_of_ble_eq_true rfl) dX5_take_5 ⟨Nat.zero_le _, Nat.zero_le _⟩ (fun r1 u H locs hk hP hS => ?_)
  obtain ⟨eu, hw⟩ := hk
  rw [eu, z_up_self] at hP
  refine lv_if_ne (tgt := 13) hx hb dX5_take_8 (by decide) (fun c2 => ?_) (fun c2 => ?_)
  · replace hw := hw.1 c2
    refine lv_aload_n hx hb dX5_take_13 rfl (lv_at hl 0 rfl) ?_
    refine z_getr (C := RX5) (T := TX5) (N := 7) (ref := "GauntletHall") (o := 18) (d := 0) hx hb hts hfX5 hown hK hP (hC.2 (18, 0) (List.mem_of_getElem? (i := 12) rfl)) z_l_18_0 rfl 1 (by decide) (hts (.fieldLink RX5 19 "GauntletHall" "hall" "LGauntletHall$Hall;") (by decide +kernel)) rfl rfl dX5_take_14 ?_
    refine z_getr (C := RX1) (T := TX1) (N := 13) (ref := "GauntletHall$Hall") (o := 0) (d := 0) hx hb hts hfX1 hown hK hP (hC.1 0 (by decide) (0, 0) (List.mem_of_getElem? (i := 0) rfl)) (z_lH_0 (o := 0) (by decide)) rfl 10 (by decide) (hts (.fieldLink RX5 128 "GauntletHall$Hall" "lies" "[I") (by decide +kernel)) rfl rfl dX5_take_17 ?_
    refine lv_iload_n hx hb dX5_take_20 rfl (lv_at hl 1 rfl) ?_
    obtain ⟨i3, hw⟩ := hw
    refine z_iald (o := 0) (d := 10) hx hb hK hP (hC.1 0 (by decide) (0, 10) (List.mem_of_getElem? (i := 7) rfl)) (z_lH_10 (o := 0) (by decide)) i3 rfl dX5_take_21 ?_
    refine lv_if_ne (tgt := 28) hx hb dX5_take_22 (by decide) (fun c4 => ?_) (fun c4 => ?_)
    · replace hw := hw.1 c4
      refine lv_aload_n hx hb dX5_take_28 rfl (lv_at hl 0 rfl) ?_
      refine z_getr (C := RX5) (T := TX5) (N := 7) (ref := "GauntletHall") (o := 18) (d := 0) hx hb hts hfX5 hown hK hP (hC.2 (18, 0) (List.mem_of_getElem? (i := 12) rfl)) z_l_18_0 rfl 3 (by decide) (hts (.fieldLink RX5 31 "GauntletHall" "past" "LGauntletHall$Shelf;") (by decide +kernel)) rfl rfl dX5_take_29 ?_
      refine lv_aload_n hx hb dX5_take_32 rfl (lv_at hl 0 rfl) ?_
      refine z_getr (C := RX5) (T := TX5) (N := 7) (ref := "GauntletHall") (o := 18) (d := 0) hx hb hts hfX5 hown hK hP (hC.2 (18, 0) (List.mem_of_getElem? (i := 12) rfl)) z_l_18_0 rfl 1 (by decide) (hts (.fieldLink RX5 19 "GauntletHall" "hall" "LGauntletHall$Hall;") (by decide +kernel)) rfl rfl dX5_take_33 ?_
      refine z_vv (C := RX3) (T := TX3) (N := 3) (o := 14) (rest := []) ⟨hx, hb, hml, hown, hts⟩ (m_X3_put l hE hC 14 3 8 (z_s14 hC) 0 (by decide) Y _ hw) (cwV 1 hts gX5_take_X3_put rfl rfl rfl (by decide +kernel) ⟨Nat.le_of_ble_eq_true rfl, Nat.le_of_ble_eq_true rfl⟩) hK hP hS (hC.2 (14, 0) (List.mem_of_getElem? (i := 3) rfl)) z_l_14_0 rfl rfl hl.1 rfl (Nat.le_of_ble_eq_true rfl) dX5_take_36 ⟨Nat.zero_le _, Nat.zero_le _⟩ (fun Y5 H locs hk hP hS => ?_)
      replace hw := hk
      refine lv_aload_n hx hb dX5_take_39 rfl (lv_at hl 0 rfl) ?_
      refine z_getr (C := RX5) (T := TX5) (N := 7) (ref := "GauntletHall") (o := 18) (d := 0) hx hb hts hfX5 hown hK hP (hC.2 (18, 0) (List.mem_of_getElem? (i := 12) rfl)) z_l_18_0 rfl 1 (by decide) (hts (.fieldLink RX5 19 "GauntletHall" "hall" "LGauntletHall$Hall;") (by decide +kernel)) rfl rfl dX5_take_40 ?_
      refine z_getr (C := RX1) (T := TX1) (N := 13) (ref := "GauntletHall$Hall") (o := 0) (d := 0) hx hb hts hfX1 hown hK hP (hC.1 0 (by decide) (0, 0) (List.mem_of_getElem? (i := 0) rfl)) (z_lH_0 (o := 0) (by decide)) rfl 10 (by decide) (hts (.fieldLink RX5 128 "GauntletHall$Hall" "lies" "[I") (by decide +kernel)) rfl rfl dX5_take_43 ?_
      refine lv_iload_n hx hb dX5_take_46 rfl (lv_at hl 1 rfl) ?_
      refine lv_iconst (v := (0 : Int32)) hx hb dX5_take_47 (by decide) ?_
      obtain ⟨i6, hw⟩ := hw
      obtain ⟨Y7, eY7⟩ : ∃ z : z_X, z = z_up Y5 0 (z_ss (Y5 0) 10 (z_n x1) (0 : Int32)) := ⟨_, rfl⟩
      replace hw := hw Y7 eY7
      refine z_iast (o := 0) (d := 10) (X' := Y7) hx hb hK hE hP hS (hC.1 0 (by decide) (0, 10) (List.mem_of_getElem? (i := 7) rfl)) (z_lH_10 (o := 0) (by decide)) i6 eY7.symm dX5_take_48 (fun H locs hP hS => ?_)
      refine lv_aload_n hx hb dX5_take_49 rfl (lv_at hl 0 rfl) ?_
      refine z_getr (C := RX5) (T := TX5) (N := 7) (ref := "GauntletHall") (o := 18) (d := 0) hx hb hts hfX5 hown hK hP (hC.2 (18, 0) (List.mem_of_getElem? (i := 12) rfl)) z_l_18_0 rfl 1 (by decide) (hts (.fieldLink RX5 19 "GauntletHall" "hall" "LGauntletHall$Hall;") (by decide +kernel)) rfl rfl dX5_take_50 ?_
      have hPc := z_P_self 0 hP
      refine z_vi (C := RX1) (T := TX1) (N := 13) (o := 0) (rest := []) ⟨hx, hb, hml, hown, hts⟩ (m_X1_lyingAsBits l hE hC 0 (by decide) Y7 (Y7 0) _ hw) (cwV 0 hts gX5_take_X1_lyingAsBits rfl rfl rfl (by decide +kernel) ⟨Nat.le_of_ble_eq_true rfl, Nat.le_of_ble_eq_true rfl⟩) hK hPc hS (hC.1 0 (by decide) (0, 0) (List.mem_of_getElem? (i := 0) rfl)) (z_lH_0 (o := 0) (by decide)) rfl rfl hl.1 rfl (Nat.le_of_ble_eq_true rfl) dX5_take_53 ⟨Nat.zero_le _, Nat.zero_le _⟩ (fun r8 u H locs hk hP hS => ?_)
      obtain ⟨eu, hw⟩ := hk
      rw [eu, z_up_self] at hP
      refine z_si (rest := []) ⟨hx, hb, hml, hown, hts⟩ (m_J6_bitCount_0f7a4 l hE Y7 r8 _ hw) (va_cwS 1 hts gX5_take_J6_bitCount_0f7a4 rfl rfl rfl (by decide +kernel) ⟨Nat.le_of_ble_eq_true rfl, Nat.le_of_ble_eq_true rfl⟩) hK hP hS rfl hl.1 rfl (Nat.le_of_ble_eq_true rfl) dX5_take_56 ⟨Nat.zero_le _, Nat.zero_le _⟩ (fun r9 u H locs hk hP hS => ?_)
      obtain ⟨eu, hw⟩ := hk
      rw [eu] at hP
      exact z_reti C hP hS hw dX5_take_59
    · replace hw := hw.2 c4
      refine lv_bipush (v := (-2 : Int32)) hx hb dX5_take_25 (by decide) ?_
      exact z_reti C hP hS hw dX5_take_27
  · replace hw := hw.2 c2
    refine lv_iconst (v := (-1 : Int32)) hx hb dX5_take_11 (by decide) ?_
    exact z_reti C hP hS hw dX5_take_12
set_option maxHeartbeats 4000000 in
set_option maxRecDepth 100000 in
theorem m_X5_time (l : Launch) {E : z_E} (hE : z_ok E) (hC : z_cls E) (Y : z_X) (x1 : Int32) (x2 : Int32) (x3 : Int32) (K : Int32 → z_X → Prop) (hw : v_X5_time Y x1 x2 x3 K) : z_CI l E yX5_time wsX5_time rX5_time [.ref (z_a E 18 0), .int x1, .int x2, .int x3] Y K := by
  refine z_start (cc := cX5_time) (maxL := 5) (ret := (some .int)) hE (by decide) rfl (Nat.le_of_ble_eq_true rfl) ?_
  intro p e s m below meth c C hP hS ls hl
  have C : z_Cx p E s m _ meth c cX5_time 5 wsX5_time RX5 (some .int) := C
  obtain ⟨hx, hb, hml, hr, hlocks, hown, hts, hK, hE⟩ := id C
  have hl : lv_has ls 5 [(0, .ref (z_a E 18 0)), (1, .int x1), (2, .int x2), (3, .int x3)] := hl
  have hfX1 : ∀ w ∈ u_ws RX1 TX1 13, w ∈ wsX5_time := by decide +kernel
  have hfX5 : ∀ w ∈ u_ws RX5 TX5 7, w ∈ wsX5_time := by decide +kernel
  unfold v_X5_time at hw
  refine lv_iload_n hx hb dX5_time_0 rfl (lv_at hl 1 rfl) ?_
  refine lv_iconst (v := (0 : Int32)) hx hb dX5_time_1 (by decide) ?_
  refine lv_sipush (v := (9999 : Int32)) hx hb dX5_time_2 (by decide) ?_
  refine z_si (rest := []) ⟨hx, hb, hml, hown, hts⟩ (m_X5_within l hE Y x1 (0 : Int32) (9999 : Int32) _ hw) (va_cwS 3 hts gX5_time_X5_within rfl rfl rfl (by decide +kernel) ⟨Nat.le_of_ble_eq_true rfl, Nat.le_of_ble_eq_true rfl⟩) hK hP hS rfl hl.1 rfl (Nat.le_of_ble_eq_true rfl) dX5_time_5 ⟨Nat.zero_le _, Nat.zero_le _⟩ (fun r1 u H locs hk hP hS => ?_)
  obtain ⟨eu, hw⟩ := hk
  rw [eu] at hP
  refine lv_if_eq (tgt := 30) hx hb dX5_time_8 (by decide) (fun c2 => ?_) (fun c2 => ?_)
  · replace hw := hw.1 c2
    refine lv_iconst (v := (-1 : Int32)) hx hb dX5_time_30 (by decide) ?_
    exact z_reti C hP hS hw dX5_time_31
  · replace hw := hw.2 c2
    refine lv_iload_n hx hb dX5_time_11 rfl (lv_at hl 2 rfl) ?_
    refine lv_iconst (v := (1 : Int32)) hx hb dX5_time_12 (by decide) ?_
    refine lv_bipush (v := (60 : Int32)) hx hb dX5_time_13 (by decide) ?_
    refine z_si (rest := []) ⟨hx, hb, hml, hown, hts⟩ (m_X5_within l hE Y x2 (1 : Int32) (60 : Int32) _ hw) (va_cwS 3 hts gX5_time_X5_within rfl rfl rfl (by decide +kernel) ⟨Nat.le_of_ble_eq_true rfl, Nat.le_of_ble_eq_true rfl⟩) hK hP hS rfl hl.1 rfl (Nat.le_of_ble_eq_true rfl) dX5_time_15 ⟨Nat.zero_le _, Nat.zero_le _⟩ (fun r3 u H locs hk hP hS => ?_)
    obtain ⟨eu, hw⟩ := hk
    rw [eu] at hP
    refine lv_if_eq (tgt := 30) hx hb dX5_time_18 (by decide) (fun c4 => ?_) (fun c4 => ?_)
    · replace hw := hw.1 c4
      refine lv_iconst (v := (-1 : Int32)) hx hb dX5_time_30 (by decide) ?_
      exact z_reti C hP hS hw dX5_time_31
    · replace hw := hw.2 c4
      refine lv_iload_n hx hb dX5_time_21 rfl (lv_at hl 3 rfl) ?_
      refine lv_iconst (v := (0 : Int32)) hx hb dX5_time_22 (by decide) ?_
      refine lv_iconst (v := (2 : Int32)) hx hb dX5_time_23 (by decide) ?_
      refine z_si (rest := []) ⟨hx, hb, hml, hown, hts⟩ (m_X5_within l hE Y x3 (0 : Int32) (2 : Int32) _ hw) (va_cwS 3 hts gX5_time_X5_within rfl rfl rfl (by decide +kernel) ⟨Nat.le_of_ble_eq_true rfl, Nat.le_of_ble_eq_true rfl⟩) hK hP hS rfl hl.1 rfl (Nat.le_of_ble_eq_true rfl) dX5_time_24 ⟨Nat.zero_le _, Nat.zero_le _⟩ (fun r5 u H locs hk hP hS => ?_)
      obtain ⟨eu, hw⟩ := hk
      rw [eu] at hP
      refine lv_if_ne (tgt := 32) hx hb dX5_time_27 (by decide) (fun c6 => ?_) (fun c6 => ?_)
      · replace hw := hw.1 c6
        refine lv_aload_n hx hb dX5_time_32 rfl (lv_at hl 0 rfl) ?_
        refine z_getr (C := RX5) (T := TX5) (N := 7) (ref := "GauntletHall") (o := 18) (d := 0) hx hb hts hfX5 hown hK hP (hC.2 (18, 0) (List.mem_of_getElem? (i := 12) rfl)) z_l_18_0 rfl 6 (by decide) (hts (.fieldLink RX5 48 "GauntletHall" "forecast" "LGauntletHall$Forecast;") (by decide +kernel)) rfl rfl dX5_time_33 ?_
        refine lv_aload_n hx hb dX5_time_36 rfl (lv_at hl 0 rfl) ?_
        refine z_getr (C := RX5) (T := TX5) (N := 7) (ref := "GauntletHall") (o := 18) (d := 0) hx hb hts hfX5 hown hK hP (hC.2 (18, 0) (List.mem_of_getElem? (i := 12) rfl)) z_l_18_0 rfl 1 (by decide) (hts (.fieldLink RX5 19 "GauntletHall" "hall" "LGauntletHall$Hall;") (by decide +kernel)) rfl rfl dX5_time_37 ?_
        refine lv_iload_n hx hb dX5_time_40 rfl (lv_at hl 1 rfl) ?_
        refine lv_iload_n hx hb dX5_time_41 rfl (lv_at hl 2 rfl) ?_
        refine z_vr (C := RX0) (T := TX0) (N := 1) (o := 17) (rest := []) ⟨hx, hb, hml, hown, hts⟩ (m_X0_hallBehindDraws l hE hC 0 (by decide) Y x1 x2 _ hw) (cwV 3 hts gX5_time_X0_hallBehindDraws rfl rfl rfl (by decide +kernel) ⟨Nat.le_of_ble_eq_true rfl, Nat.le_of_ble_eq_true rfl⟩) hK hP hS (hC.2 (17, 0) (List.mem_of_getElem? (i := 11) rfl)) z_l_17_0 rfl rfl hl.1 rfl (Nat.le_of_ble_eq_true rfl) dX5_time_42 ⟨Nat.zero_le _, Nat.zero_le _⟩ (fun Y7 H locs hk hP hS => ?_)
        replace hw := hk
        refine lv_astore (lv' := [(4, .ref (z_a E 2 0)), (0, .ref (z_a E 18 0)), (1, .int x1), (2, .int x2), (3, .int x3)]) hx hb dX5_time_45 hl (by decide) rfl (fun ls hl => ?_)
        refine lv_iload_n hx hb dX5_time_47 rfl (lv_at hl 4 rfl) ?_
        by_cases c8 : x3 = (0 : Int32)
        · replace hw := hw.1 c8
          refine lv_lookup (x := x3) (off := 28) (tgt := 76) hx hb dX5_time_48 (by decide) (by show Op.lookupswitch.offset [(0, 28), (1, 43)] 52 (x3).toInt = 28; rw [c8]; rfl) (by decide) ?_
          refine lv_aload hx hb dX5_time_76 (lv_at hl 0 rfl) ?_
          refine z_geti (C := RX1) (T := TX1) (N := 13) (ref := "GauntletHall$Hall") (o := 2) (d := 0) hx hb hts hfX1 hown hK hP (hC.1 2 (by decide) (2, 0) (List.mem_of_getElem? (i := 0) rfl)) (z_lH_0 (o := 2) (by decide)) rfl 0 (by decide) (hts (.fieldLink RX5 79 "GauntletHall$Hall" "people" "I") (by decide +kernel)) rfl rfl rfl dX5_time_78 ?_
          refine lv_aload hx hb dX5_time_81 (lv_at hl 0 rfl) ?_
          have hPc := z_P_self 2 hP
          refine z_vi (C := RX1) (T := TX1) (N := 13) (o := 2) (rest := [.int (Y7 2 0 0)]) ⟨hx, hb, hml, hown, hts⟩ (m_X1_standingAsBits l hE hC 2 (by decide) Y7 (Y7 2) _ hw) (cwV 0 hts gX5_time_X1_standingAsBits rfl rfl rfl (by decide +kernel) ⟨Nat.le_of_ble_eq_true rfl, Nat.le_of_ble_eq_true rfl⟩) hK hPc hS (hC.1 2 (by decide) (2, 0) (List.mem_of_getElem? (i := 0) rfl)) (z_lH_0 (o := 2) (by decide)) rfl rfl hl.1 rfl (Nat.le_of_ble_eq_true rfl) dX5_time_83 ⟨Nat.zero_le _, Nat.zero_le _⟩ (fun r9 u H locs hk hP hS => ?_)
          obtain ⟨eu, hw⟩ := hk
          rw [eu, z_up_self] at hP
          refine z_si (rest := [.int (Y7 2 0 0)]) ⟨hx, hb, hml, hown, hts⟩ (m_J6_bitCount_0f7a4 l hE Y7 r9 _ hw) (va_cwS 1 hts gX5_time_J6_bitCount_0f7a4 rfl rfl rfl (by decide +kernel) ⟨Nat.le_of_ble_eq_true rfl, Nat.le_of_ble_eq_true rfl⟩) hK hP hS rfl hl.1 rfl (Nat.le_of_ble_eq_true rfl) dX5_time_86 ⟨Nat.zero_le _, Nat.zero_le _⟩ (fun r10 u H locs hk hP hS => ?_)
          obtain ⟨eu, hw⟩ := hk
          rw [eu] at hP
          refine lv_isub hx hb dX5_time_89 ?_
          exact z_reti C hP hS hw dX5_time_90
        by_cases c11 : x3 = (1 : Int32)
        · replace hw := hw.2.1 c11
          refine lv_lookup (x := x3) (off := 43) (tgt := 91) hx hb dX5_time_48 (by decide) (by show Op.lookupswitch.offset [(0, 28), (1, 43)] 52 (x3).toInt = 43; rw [lv_osw (k := (0 : Int32)) (a := 0) c8 rfl]; rw [c11]; rfl) (by decide) ?_
          refine lv_aload hx hb dX5_time_91 (lv_at hl 0 rfl) ?_
          have hPc := z_P_self 2 hP
          refine z_vi (C := RX1) (T := TX1) (N := 13) (o := 2) (rest := []) ⟨hx, hb, hml, hown, hts⟩ (m_X1_lyingAsBits l hE hC 2 (by decide) Y7 (Y7 2) _ hw) (cwV 0 hts gX5_time_X1_lyingAsBits rfl rfl rfl (by decide +kernel) ⟨Nat.le_of_ble_eq_true rfl, Nat.le_of_ble_eq_true rfl⟩) hK hPc hS (hC.1 2 (by decide) (2, 0) (List.mem_of_getElem? (i := 0) rfl)) (z_lH_0 (o := 2) (by decide)) rfl rfl hl.1 rfl (Nat.le_of_ble_eq_true rfl) dX5_time_93 ⟨Nat.zero_le _, Nat.zero_le _⟩ (fun r12 u H locs hk hP hS => ?_)
          obtain ⟨eu, hw⟩ := hk
          rw [eu, z_up_self] at hP
          refine z_si (rest := []) ⟨hx, hb, hml, hown, hts⟩ (m_J6_bitCount_0f7a4 l hE Y7 r12 _ hw) (va_cwS 1 hts gX5_time_J6_bitCount_0f7a4 rfl rfl rfl (by decide +kernel) ⟨Nat.le_of_ble_eq_true rfl, Nat.le_of_ble_eq_true rfl⟩) hK hP hS rfl hl.1 rfl (Nat.le_of_ble_eq_true rfl) dX5_time_96 ⟨Nat.zero_le _, Nat.zero_le _⟩ (fun r13 u H locs hk hP hS => ?_)
          obtain ⟨eu, hw⟩ := hk
          rw [eu] at hP
          exact z_reti C hP hS hw dX5_time_99
        replace hw := hw.2.2 c8 c11
        refine lv_lookup (x := x3) (off := 52) (tgt := 100) hx hb dX5_time_48 (by decide) (by show Op.lookupswitch.offset [(0, 28), (1, 43)] 52 (x3).toInt = 52; rw [lv_osw (k := (0 : Int32)) (a := 0) c8 rfl]; rw [lv_osw (k := (1 : Int32)) (a := 1) c11 rfl]; rfl) (by decide) ?_
        refine lv_aload hx hb dX5_time_100 (lv_at hl 0 rfl) ?_
        have hPc := z_P_self 2 hP
        refine z_vi (C := RX1) (T := TX1) (N := 13) (o := 2) (rest := []) ⟨hx, hb, hml, hown, hts⟩ (m_X1_mightOfAll l hE hC 2 (by decide) Y7 (Y7 2) _ hw) (cwV 0 hts gX5_time_X1_mightOfAll rfl rfl rfl (by decide +kernel) ⟨Nat.le_of_ble_eq_true rfl, Nat.le_of_ble_eq_true rfl⟩) hK hPc hS (hC.1 2 (by decide) (2, 0) (List.mem_of_getElem? (i := 0) rfl)) (z_lH_0 (o := 2) (by decide)) rfl rfl hl.1 rfl (Nat.le_of_ble_eq_true rfl) dX5_time_102 ⟨Nat.zero_le _, Nat.zero_le _⟩ (fun r14 u H locs hk hP hS => ?_)
        obtain ⟨eu, hw⟩ := hk
        rw [eu, z_up_self] at hP
        exact z_reti C hP hS hw dX5_time_105
      · replace hw := hw.2 c6
        refine lv_iconst (v := (-1 : Int32)) hx hb dX5_time_30 (by decide) ?_
        exact z_reti C hP hS hw dX5_time_31
set_option maxHeartbeats 4000000 in
set_option maxRecDepth 100000 in
theorem m_X5_undo (l : Launch) {E : z_E} (hE : z_ok E) (hC : z_cls E) (Y : z_X) (K : Int32 → z_X → Prop) (hw : v_X5_undo Y K) : z_CI l E yX5_undo wsX5_undo rX5_undo [.ref (z_a E 18 0)] Y K := by
  refine z_start (cc := cX5_undo) (maxL := 1) (ret := (some .int)) hE (by decide) rfl (Nat.le_of_ble_eq_true rfl) ?_
  intro p e s m below meth c C hP hS ls hl
  have C : z_Cx p E s m _ meth c cX5_undo 1 wsX5_undo RX5 (some .int) := C
  obtain ⟨hx, hb, hml, hr, hlocks, hown, hts, hK, hE⟩ := id C
  have hl : lv_has ls 1 [(0, .ref (z_a E 18 0))] := hl
  have hfX3 : ∀ w ∈ u_ws RX3 TX3 3, w ∈ wsX5_undo := by decide +kernel
  have hfX5 : ∀ w ∈ u_ws RX5 TX5 7, w ∈ wsX5_undo := by decide +kernel
  unfold v_X5_undo at hw
  refine lv_aload_n hx hb dX5_undo_0 rfl (lv_at hl 0 rfl) ?_
  refine z_getr (C := RX5) (T := TX5) (N := 7) (ref := "GauntletHall") (o := 18) (d := 0) hx hb hts hfX5 hown hK hP (hC.2 (18, 0) (List.mem_of_getElem? (i := 12) rfl)) z_l_18_0 rfl 3 (by decide) (hts (.fieldLink RX5 31 "GauntletHall" "past" "LGauntletHall$Shelf;") (by decide +kernel)) rfl rfl dX5_undo_1 ?_
  refine lv_aload_n hx hb dX5_undo_4 rfl (lv_at hl 0 rfl) ?_
  refine z_getr (C := RX5) (T := TX5) (N := 7) (ref := "GauntletHall") (o := 18) (d := 0) hx hb hts hfX5 hown hK hP (hC.2 (18, 0) (List.mem_of_getElem? (i := 12) rfl)) z_l_18_0 rfl 1 (by decide) (hts (.fieldLink RX5 19 "GauntletHall" "hall" "LGauntletHall$Hall;") (by decide +kernel)) rfl rfl dX5_undo_5 ?_
  refine z_vi (C := RX3) (T := TX3) (N := 3) (o := 14) (rest := []) ⟨hx, hb, hml, hown, hts⟩ (m_X3_bringBack l hE hC 14 3 8 (z_s14 hC) 0 (by decide) Y _ hw) (cwV 1 hts gX5_undo_X3_bringBack rfl rfl rfl (by decide +kernel) ⟨Nat.le_of_ble_eq_true rfl, Nat.le_of_ble_eq_true rfl⟩) hK hP hS (hC.2 (14, 0) (List.mem_of_getElem? (i := 3) rfl)) z_l_14_0 rfl rfl hl.1 rfl (Nat.le_of_ble_eq_true rfl) dX5_undo_8 ⟨Nat.zero_le _, Nat.zero_le _⟩ (fun r1 Y2 H locs hk hP hS => ?_)
  replace hw := hk
  refine lv_if_eq (tgt := 24) hx hb dX5_undo_11 (by decide) (fun c3 => ?_) (fun c3 => ?_)
  · replace hw := hw.1 c3
    refine lv_bipush (v := (-2 : Int32)) hx hb dX5_undo_24 (by decide) ?_
    exact z_reti C hP hS hw dX5_undo_26
  · replace hw := hw.2 c3
    refine lv_aload_n hx hb dX5_undo_14 rfl (lv_at hl 0 rfl) ?_
    refine z_getr (C := RX5) (T := TX5) (N := 7) (ref := "GauntletHall") (o := 18) (d := 0) hx hb hts hfX5 hown hK hP (hC.2 (18, 0) (List.mem_of_getElem? (i := 12) rfl)) z_l_18_0 rfl 3 (by decide) (hts (.fieldLink RX5 31 "GauntletHall" "past" "LGauntletHall$Shelf;") (by decide +kernel)) rfl rfl dX5_undo_15 ?_
    refine z_geti (C := RX3) (T := TX3) (N := 3) (ref := "GauntletHall$Shelf") (o := 14) (d := 0) hx hb hts hfX3 hown hK hP (hC.2 (14, 0) (List.mem_of_getElem? (i := 3) rfl)) z_l_14_0 rfl 0 (by decide) (hts (.fieldLink RX5 86 "GauntletHall$Shelf" "count" "I") (by decide +kernel)) rfl rfl rfl dX5_undo_18 ?_
    refine lv_goto (tgt := 26) hx hb dX5_undo_21 (by decide) ?_
    exact z_reti C hP hS hw dX5_undo_26
set_option maxHeartbeats 4000000 in
set_option maxRecDepth 100000 in
theorem m_X5_wear (l : Launch) {E : z_E} (hE : z_ok E) (hC : z_cls E) (Y : z_X) (x1 : Int32) (x2 : Int32) (K : Int32 → z_X → Prop) (hw : v_X5_wear Y x1 x2 K) : z_CI l E yX5_wear wsX5_wear rX5_wear [.ref (z_a E 18 0), .int x1, .int x2] Y K := by
  refine z_start (cc := cX5_wear) (maxL := 3) (ret := (some .int)) hE (by decide) rfl (Nat.le_of_ble_eq_true rfl) ?_
  intro p e s m below meth c C hP hS ls hl
  have C : z_Cx p E s m _ meth c cX5_wear 3 wsX5_wear RX5 (some .int) := C
  obtain ⟨hx, hb, hml, hr, hlocks, hown, hts, hK, hE⟩ := id C
  have hl : lv_has ls 3 [(0, .ref (z_a E 18 0)), (1, .int x1), (2, .int x2)] := hl
  have hfX1 : ∀ w ∈ u_ws RX1 TX1 13, w ∈ wsX5_wear := by decide +kernel
  have hfX5 : ∀ w ∈ u_ws RX5 TX5 7, w ∈ wsX5_wear := by decide +kernel
  unfold v_X5_wear at hw
  refine lv_aload_n hx hb dX5_wear_0 rfl (lv_at hl 0 rfl) ?_
  refine z_getr (C := RX5) (T := TX5) (N := 7) (ref := "GauntletHall") (o := 18) (d := 0) hx hb hts hfX5 hown hK hP (hC.2 (18, 0) (List.mem_of_getElem? (i := 12) rfl)) z_l_18_0 rfl 1 (by decide) (hts (.fieldLink RX5 19 "GauntletHall" "hall" "LGauntletHall$Hall;") (by decide +kernel)) rfl rfl dX5_wear_1 ?_
  refine lv_iload_n hx hb dX5_wear_4 rfl (lv_at hl 1 rfl) ?_
  have hPc := z_P_self 0 hP
  refine z_vi (C := RX1) (T := TX1) (N := 13) (o := 0) (rest := []) ⟨hx, hb, hml, hown, hts⟩ (m_X1_isPerson l hE hC 0 (by decide) Y (Y 0) x1 _ hw) (cwV 1 hts gX5_wear_X1_isPerson rfl rfl rfl (by decide +kernel) ⟨Nat.le_of_ble_eq_true rfl, Nat.le_of_ble_eq_true rfl⟩) hK hPc hS (hC.1 0 (by decide) (0, 0) (List.mem_of_getElem? (i := 0) rfl)) (z_lH_0 (o := 0) (by decide)) rfl rfl hl.1 rfl (Nat.le_of_ble_eq_true rfl) dX5_wear_5 ⟨Nat.zero_le _, Nat.zero_le _⟩ (fun r1 u H locs hk hP hS => ?_)
  obtain ⟨eu, hw⟩ := hk
  rw [eu, z_up_self] at hP
  refine lv_if_eq (tgt := 22) hx hb dX5_wear_8 (by decide) (fun c2 => ?_) (fun c2 => ?_)
  · replace hw := hw.1 c2
    refine lv_iconst (v := (-1 : Int32)) hx hb dX5_wear_22 (by decide) ?_
    exact z_reti C hP hS hw dX5_wear_23
  · replace hw := hw.2 c2
    refine lv_aload_n hx hb dX5_wear_11 rfl (lv_at hl 0 rfl) ?_
    refine z_getr (C := RX5) (T := TX5) (N := 7) (ref := "GauntletHall") (o := 18) (d := 0) hx hb hts hfX5 hown hK hP (hC.2 (18, 0) (List.mem_of_getElem? (i := 12) rfl)) z_l_18_0 rfl 1 (by decide) (hts (.fieldLink RX5 19 "GauntletHall" "hall" "LGauntletHall$Hall;") (by decide +kernel)) rfl rfl dX5_wear_12 ?_
    refine lv_iload_n hx hb dX5_wear_15 rfl (lv_at hl 2 rfl) ?_
    have hPc := z_P_self 0 hP
    refine z_vi (C := RX1) (T := TX1) (N := 13) (o := 0) (rest := []) ⟨hx, hb, hml, hown, hts⟩ (m_X1_isGlove l hE hC 0 (by decide) Y (Y 0) x2 _ hw) (cwV 1 hts gX5_wear_X1_isGlove rfl rfl rfl (by decide +kernel) ⟨Nat.le_of_ble_eq_true rfl, Nat.le_of_ble_eq_true rfl⟩) hK hPc hS (hC.1 0 (by decide) (0, 0) (List.mem_of_getElem? (i := 0) rfl)) (z_lH_0 (o := 0) (by decide)) rfl rfl hl.1 rfl (Nat.le_of_ble_eq_true rfl) dX5_wear_16 ⟨Nat.zero_le _, Nat.zero_le _⟩ (fun r3 u H locs hk hP hS => ?_)
    obtain ⟨eu, hw⟩ := hk
    rw [eu, z_up_self] at hP
    refine lv_if_ne (tgt := 24) hx hb dX5_wear_19 (by decide) (fun c4 => ?_) (fun c4 => ?_)
    · replace hw := hw.1 c4
      refine lv_aload_n hx hb dX5_wear_24 rfl (lv_at hl 0 rfl) ?_
      refine z_getr (C := RX5) (T := TX5) (N := 7) (ref := "GauntletHall") (o := 18) (d := 0) hx hb hts hfX5 hown hK hP (hC.2 (18, 0) (List.mem_of_getElem? (i := 12) rfl)) z_l_18_0 rfl 1 (by decide) (hts (.fieldLink RX5 19 "GauntletHall" "hall" "LGauntletHall$Hall;") (by decide +kernel)) rfl rfl dX5_wear_25 ?_
      refine lv_iload_n hx hb dX5_wear_28 rfl (lv_at hl 1 rfl) ?_
      refine lv_iload_n hx hb dX5_wear_29 rfl (lv_at hl 2 rfl) ?_
      have hPc := z_P_self 0 hP
      refine z_vi (C := RX1) (T := TX1) (N := 13) (o := 0) (rest := []) ⟨hx, hb, hml, hown, hts⟩ (m_X1_canTakeUp l hE hC 0 (by decide) Y (Y 0) x1 x2 _ hw) (cwV 2 hts gX5_wear_X1_canTakeUp rfl rfl rfl (by decide +kernel) ⟨Nat.le_of_ble_eq_true rfl, Nat.le_of_ble_eq_true rfl⟩) hK hPc hS (hC.1 0 (by decide) (0, 0) (List.mem_of_getElem? (i := 0) rfl)) (z_lH_0 (o := 0) (by decide)) rfl rfl hl.1 rfl (Nat.le_of_ble_eq_true rfl) dX5_wear_30 ⟨Nat.zero_le _, Nat.zero_le _⟩ (fun r5 u H locs hk hP hS => ?_)
      obtain ⟨eu, hw⟩ := hk
      rw [eu, z_up_self] at hP
      refine lv_if_ne (tgt := 39) hx hb dX5_wear_33 (by decide) (fun c6 => ?_) (fun c6 => ?_)
      · replace hw := hw.1 c6
        refine lv_aload_n hx hb dX5_wear_39 rfl (lv_at hl 0 rfl) ?_
        refine z_getr (C := RX5) (T := TX5) (N := 7) (ref := "GauntletHall") (o := 18) (d := 0) hx hb hts hfX5 hown hK hP (hC.2 (18, 0) (List.mem_of_getElem? (i := 12) rfl)) z_l_18_0 rfl 3 (by decide) (hts (.fieldLink RX5 31 "GauntletHall" "past" "LGauntletHall$Shelf;") (by decide +kernel)) rfl rfl dX5_wear_40 ?_
        refine lv_aload_n hx hb dX5_wear_43 rfl (lv_at hl 0 rfl) ?_
        refine z_getr (C := RX5) (T := TX5) (N := 7) (ref := "GauntletHall") (o := 18) (d := 0) hx hb hts hfX5 hown hK hP (hC.2 (18, 0) (List.mem_of_getElem? (i := 12) rfl)) z_l_18_0 rfl 1 (by decide) (hts (.fieldLink RX5 19 "GauntletHall" "hall" "LGauntletHall$Hall;") (by decide +kernel)) rfl rfl dX5_wear_44 ?_
        refine z_vv (C := RX3) (T := TX3) (N := 3) (o := 14) (rest := []) ⟨hx, hb, hml, hown, hts⟩ (m_X3_put l hE hC 14 3 8 (z_s14 hC) 0 (by decide) Y _ hw) (cwV 1 hts gX5_wear_X3_put rfl rfl rfl (by decide +kernel) ⟨Nat.le_of_ble_eq_true rfl, Nat.le_of_ble_eq_true rfl⟩) hK hP hS (hC.2 (14, 0) (List.mem_of_getElem? (i := 3) rfl)) z_l_14_0 rfl rfl hl.1 rfl (Nat.le_of_ble_eq_true rfl) dX5_wear_47 ⟨Nat.zero_le _, Nat.zero_le _⟩ (fun Y7 H locs hk hP hS => ?_)
        replace hw := hk
        refine lv_aload_n hx hb dX5_wear_50 rfl (lv_at hl 0 rfl) ?_
        refine z_getr (C := RX5) (T := TX5) (N := 7) (ref := "GauntletHall") (o := 18) (d := 0) hx hb hts hfX5 hown hK hP (hC.2 (18, 0) (List.mem_of_getElem? (i := 12) rfl)) z_l_18_0 rfl 1 (by decide) (hts (.fieldLink RX5 19 "GauntletHall" "hall" "LGauntletHall$Hall;") (by decide +kernel)) rfl rfl dX5_wear_51 ?_
        refine lv_iload_n hx hb dX5_wear_54 rfl (lv_at hl 1 rfl) ?_
        refine lv_iload_n hx hb dX5_wear_55 rfl (lv_at hl 2 rfl) ?_
        have hPc := z_P_self 0 hP
        refine z_vv (C := RX1) (T := TX1) (N := 13) (o := 0) (rest := []) ⟨hx, hb, hml, hown, hts⟩ (m_X1_takeUp l hE hC 0 (by decide) Y7 (Y7 0) x1 x2 _ hw) (cwV 2 hts gX5_wear_X1_takeUp rfl rfl rfl (by decide +kernel) ⟨Nat.le_of_ble_eq_true rfl, Nat.le_of_ble_eq_true rfl⟩) hK hPc hS (hC.1 0 (by decide) (0, 0) (List.mem_of_getElem? (i := 0) rfl)) (z_lH_0 (o := 0) (by decide)) rfl rfl hl.1 rfl (Nat.le_of_ble_eq_true rfl) dX5_wear_56 ⟨Nat.zero_le _, Nat.zero_le _⟩ (fun u H locs hk hP hS => ?_)
        obtain ⟨h8, eu, hw⟩ := hk
        rw [eu] at hP
        obtain ⟨Y9, eY9⟩ : ∃ z : z_X, z = z_up Y7 0 h8 := ⟨_, rfl⟩
        replace hw := hw Y9 eY9
        rw [← eY9] at hP
        refine lv_aload_n hx hb dX5_wear_59 rfl (lv_at hl 0 rfl) ?_
        refine z_getr (C := RX5) (T := TX5) (N := 7) (ref := "GauntletHall") (o := 18) (d := 0) hx hb hts hfX5 hown hK hP (hC.2 (18, 0) (List.mem_of_getElem? (i := 12) rfl)) z_l_18_0 rfl 1 (by decide) (hts (.fieldLink RX5 19 "GauntletHall" "hall" "LGauntletHall$Hall;") (by decide +kernel)) rfl rfl dX5_wear_60 ?_
        refine z_getr (C := RX1) (T := TX1) (N := 13) (ref := "GauntletHall$Hall") (o := 0) (d := 0) hx hb hts hfX1 hown hK hP (hC.1 0 (by decide) (0, 0) (List.mem_of_getElem? (i := 0) rfl)) (z_lH_0 (o := 0) (by decide)) rfl 5 (by decide) (hts (.fieldLink RX5 97 "GauntletHall$Hall" "might" "[I") (by decide +kernel)) rfl rfl dX5_wear_63 ?_
        refine lv_iload_n hx hb dX5_wear_66 rfl (lv_at hl 1 rfl) ?_
        obtain ⟨i10, hw⟩ := hw
        refine z_iald (o := 0) (d := 5) hx hb hK hP (hC.1 0 (by decide) (0, 5) (List.mem_of_getElem? (i := 2) rfl)) (z_lH_5 (o := 0) (by decide)) i10 rfl dX5_wear_67 ?_
        exact z_reti C hP hS hw dX5_wear_68
      · replace hw := hw.2 c6
        refine lv_bipush (v := (-2 : Int32)) hx hb dX5_wear_36 (by decide) ?_
        exact z_reti C hP hS hw dX5_wear_38
    · replace hw := hw.2 c4
      refine lv_iconst (v := (-1 : Int32)) hx hb dX5_wear_22 (by decide) ?_
      exact z_reti C hP hS hw dX5_wear_23
set_option maxHeartbeats 4000000 in
set_option maxRecDepth 100000 in
theorem m_X5_wipe (l : Launch) {E : z_E} (hE : z_ok E) (hC : z_cls E) (Y : z_X) (K : Int32 → z_X → Prop) (hw : v_X5_wipe Y K) : z_CI l E yX5_wipe wsX5_wipe rX5_wipe [.ref (z_a E 18 0)] Y K := by
  refine z_start (cc := cX5_wipe) (maxL := 2) (ret := (some .int)) hE (by decide) rfl (Nat.le_of_ble_eq_true rfl) ?_
  intro p e s m below meth c C hP hS ls hl
  have C : z_Cx p E s m _ meth c cX5_wipe 2 wsX5_wipe RX5 (some .int) := C
  obtain ⟨hx, hb, hml, hr, hlocks, hown, hts, hK, hE⟩ := id C
  have hl : lv_has ls 2 [(0, .ref (z_a E 18 0))] := hl
  have hfX2 : ∀ w ∈ u_ws RX2 TX2 4, w ∈ wsX5_wipe := by decide +kernel
  have hfX5 : ∀ w ∈ u_ws RX5 TX5 7, w ∈ wsX5_wipe := by decide +kernel
  unfold v_X5_wipe at hw
  refine lv_aload_n hx hb dX5_wipe_0 rfl (lv_at hl 0 rfl) ?_
  refine z_getr (C := RX5) (T := TX5) (N := 7) (ref := "GauntletHall") (o := 18) (d := 0) hx hb hts hfX5 hown hK hP (hC.2 (18, 0) (List.mem_of_getElem? (i := 12) rfl)) z_l_18_0 rfl 0 (by decide) (hts (.fieldLink RX5 10 "GauntletHall" "text" "LGauntletHall$Scroll;") (by decide +kernel)) rfl rfl dX5_wipe_1 ?_
  refine z_geti (C := RX2) (T := TX2) (N := 4) (ref := "GauntletHall$Scroll") (o := 13) (d := 0) hx hb hts hfX2 hown hK hP (hC.2 (13, 0) (List.mem_of_getElem? (i := 0) rfl)) z_l_13_0 rfl 0 (by decide) (hts (.fieldLink RX5 72 "GauntletHall$Scroll" "length" "I") (by decide +kernel)) rfl rfl rfl dX5_wipe_4 ?_
  refine lv_topi (fun y1 ey1 => ?_)
  replace hw := hw y1 ey1
  refine lv_istore_n (lv' := [(1, .int y1), (0, .ref (z_a E 18 0))]) hx hb dX5_wipe_7 rfl hl (by decide) rfl (fun ls hl => ?_)
  refine lv_aload_n hx hb dX5_wipe_8 rfl (lv_at hl 1 rfl) ?_
  refine z_getr (C := RX5) (T := TX5) (N := 7) (ref := "GauntletHall") (o := 18) (d := 0) hx hb hts hfX5 hown hK hP (hC.2 (18, 0) (List.mem_of_getElem? (i := 12) rfl)) z_l_18_0 rfl 0 (by decide) (hts (.fieldLink RX5 10 "GauntletHall" "text" "LGauntletHall$Scroll;") (by decide +kernel)) rfl rfl dX5_wipe_9 ?_
  refine lv_iconst (v := (0 : Int32)) hx hb dX5_wipe_12 (by decide) ?_
  obtain ⟨Y2, eY2⟩ : ∃ z : z_X, z = z_up Y 13 (z_ss (Y 13) 0 0 (0 : Int32)) := ⟨_, rfl⟩
  replace hw := hw Y2 eY2
  refine z_puti (C := RX2) (T := TX2) (N := 4) (ref := "GauntletHall$Scroll") (o := 13) (d := 0) (X' := Y2) hx hb hts hfX2 tyX2 tyX2_ok nmX2 hown hK hE hP hS (hC.2 (13, 0) (List.mem_of_getElem? (i := 0) rfl)) z_l_13_0 rfl 0 (by decide) (hts (.fieldLink RX5 72 "GauntletHall$Scroll" "length" "I") (by decide +kernel)) rfl rfl (by decide +kernel) rfl eY2.symm dX5_wipe_13 (fun H locs hP hS => ?_)
  refine lv_iload_n hx hb dX5_wipe_16 rfl (lv_at hl 0 rfl) ?_
  exact z_reti C hP hS hw dX5_wipe_17
set_option maxHeartbeats 4000000 in
set_option maxRecDepth 100000 in
theorem m_X5_write (l : Launch) {E : z_E} (hE : z_ok E) (hC : z_cls E) (Y : z_X) (x1 : Int32) (K : Int32 → z_X → Prop) (hw : v_X5_write Y x1 K) : z_CI l E yX5_write wsX5_write rX5_write [.ref (z_a E 18 0), .int x1] Y K := by
  refine z_start (cc := cX5_write) (maxL := 2) (ret := (some .int)) hE (by decide) rfl (Nat.le_of_ble_eq_true rfl) ?_
  intro p e s m below meth c C hP hS ls hl
  have C : z_Cx p E s m _ meth c cX5_write 2 wsX5_write RX5 (some .int) := C
  obtain ⟨hx, hb, hml, hr, hlocks, hown, hts, hK, hE⟩ := id C
  have hl : lv_has ls 2 [(0, .ref (z_a E 18 0)), (1, .int x1)] := hl
  have hfX2 : ∀ w ∈ u_ws RX2 TX2 4, w ∈ wsX5_write := by decide +kernel
  have hfX5 : ∀ w ∈ u_ws RX5 TX5 7, w ∈ wsX5_write := by decide +kernel
  unfold v_X5_write at hw
  refine lv_iload_n hx hb dX5_write_0 rfl (lv_at hl 1 rfl) ?_
  refine lv_bipush (v := (32 : Int32)) hx hb dX5_write_1 (by decide) ?_
  refine lv_bipush (v := (126 : Int32)) hx hb dX5_write_3 (by decide) ?_
  refine z_si (rest := []) ⟨hx, hb, hml, hown, hts⟩ (m_X5_within l hE Y x1 (32 : Int32) (126 : Int32) _ hw) (va_cwS 3 hts gX5_write_X5_within rfl rfl rfl (by decide +kernel) ⟨Nat.le_of_ble_eq_true rfl, Nat.le_of_ble_eq_true rfl⟩) hK hP hS rfl hl.1 rfl (Nat.le_of_ble_eq_true rfl) dX5_write_5 ⟨Nat.zero_le _, Nat.zero_le _⟩ (fun r1 u H locs hk hP hS => ?_)
  obtain ⟨eu, hw⟩ := hk
  rw [eu] at hP
  refine lv_if_ne (tgt := 13) hx hb dX5_write_8 (by decide) (fun c2 => ?_) (fun c2 => ?_)
  · replace hw := hw.1 c2
    refine lv_aload_n hx hb dX5_write_13 rfl (lv_at hl 0 rfl) ?_
    refine z_getr (C := RX5) (T := TX5) (N := 7) (ref := "GauntletHall") (o := 18) (d := 0) hx hb hts hfX5 hown hK hP (hC.2 (18, 0) (List.mem_of_getElem? (i := 12) rfl)) z_l_18_0 rfl 0 (by decide) (hts (.fieldLink RX5 10 "GauntletHall" "text" "LGauntletHall$Scroll;") (by decide +kernel)) rfl rfl dX5_write_14 ?_
    refine lv_iload_n hx hb dX5_write_17 rfl (lv_at hl 1 rfl) ?_
    have hPc := z_P_self 13 hP
    refine z_vi (C := RX2) (T := TX2) (N := 4) (o := 13) (rest := []) ⟨hx, hb, hml, hown, hts⟩ (m_X2_append l hE hC Y (Y 13) x1 _ hw) (cwV 1 hts gX5_write_X2_append rfl rfl rfl (by decide +kernel) ⟨Nat.le_of_ble_eq_true rfl, Nat.le_of_ble_eq_true rfl⟩) hK hPc hS (hC.2 (13, 0) (List.mem_of_getElem? (i := 0) rfl)) z_l_13_0 rfl rfl hl.1 rfl (Nat.le_of_ble_eq_true rfl) dX5_write_18 ⟨Nat.zero_le _, Nat.zero_le _⟩ (fun r3 u H locs hk hP hS => ?_)
    obtain ⟨h4, eu, hw⟩ := hk
    rw [eu] at hP
    obtain ⟨Y5, eY5⟩ : ∃ z : z_X, z = z_up Y 13 h4 := ⟨_, rfl⟩
    replace hw := hw Y5 eY5
    rw [← eY5] at hP
    refine lv_if_eq (tgt := 34) hx hb dX5_write_21 (by decide) (fun c6 => ?_) (fun c6 => ?_)
    · replace hw := hw.1 c6
      refine lv_bipush (v := (-3 : Int32)) hx hb dX5_write_34 (by decide) ?_
      exact z_reti C hP hS hw dX5_write_36
    · replace hw := hw.2 c6
      refine lv_aload_n hx hb dX5_write_24 rfl (lv_at hl 0 rfl) ?_
      refine z_getr (C := RX5) (T := TX5) (N := 7) (ref := "GauntletHall") (o := 18) (d := 0) hx hb hts hfX5 hown hK hP (hC.2 (18, 0) (List.mem_of_getElem? (i := 12) rfl)) z_l_18_0 rfl 0 (by decide) (hts (.fieldLink RX5 10 "GauntletHall" "text" "LGauntletHall$Scroll;") (by decide +kernel)) rfl rfl dX5_write_25 ?_
      refine z_geti (C := RX2) (T := TX2) (N := 4) (ref := "GauntletHall$Scroll") (o := 13) (d := 0) hx hb hts hfX2 hown hK hP (hC.2 (13, 0) (List.mem_of_getElem? (i := 0) rfl)) z_l_13_0 rfl 0 (by decide) (hts (.fieldLink RX5 72 "GauntletHall$Scroll" "length" "I") (by decide +kernel)) rfl rfl rfl dX5_write_28 ?_
      refine lv_goto (tgt := 36) hx hb dX5_write_31 (by decide) ?_
      exact z_reti C hP hS hw dX5_write_36
  · replace hw := hw.2 c2
    refine lv_iconst (v := (-1 : Int32)) hx hb dX5_write_11 (by decide) ?_
    exact z_reti C hP hS hw dX5_write_12
set_option maxHeartbeats 4000000 in
set_option maxRecDepth 100000 in
theorem m_X6_aside_b2_s {p : Program} {l : Launch} {e : Env} {s : State} {m : MethodId} {args : Array Value} {below : List Frame} {meth : Method} {c : Code} {E : z_E} (C : z_Cx p E s m args meth c cX6_aside 2 wsX6_aside RX6 none) (hM : z_mod E) (X : z_X) (K : z_G → Prop) (L2 : z_G → Int32 → Prop) (k2 : ∀ (h : z_G) (x1 : Int32), L2 h x1 → ∀ {H : Heap} {locs : List Loc}, z_P E (z_up X 19 h) H → va_S (z_A E) s.heap H locs → ∀ (ls : Array Slot), lv_has ls 2 [(0, .ref (z_a E 19 0)), (1, .int x1)] → W p l e rX6_aside s m args below meth c H locs 0 0 (MQ below (va_Qv (fun X' => ∃ h', X' = z_up X 19 h' ∧ K h') (fun u t => z_P E u t.heap) (z_A E)) args s 0 0 (z_A E)) (F0 m 2 ls [])) (h : z_G) (x1 : Int32) (hw : v_X6_aside_b2_s K L2 h x1) {H : Heap} {locs : List Loc} (hP : z_P E (z_up X 19 h) H) (hS : va_S (z_A E) s.heap H locs) {ls : Array Slot} (hl : lv_has ls 2 [(0, .ref (z_a E 19 0)), (1, .int x1)]) : W p l e rX6_aside s m args below meth c H locs 0 0 (MQ below (va_Qv (fun X' => ∃ h', X' = z_up X 19 h' ∧ K h') (fun u t => z_P E u t.heap) (z_A E)) args s 0 0 (z_A E)) (F0 m 2 ls []) := by
  obtain ⟨hx, hb, hml, hr, hlocks, hown, hts, hK, hE⟩ := id C
  have hfX6 : ∀ w ∈ u_ws RX6 TX6 15, w ∈ wsX6_aside := by decide +kernel
  unfold v_X6_aside_b2_s at hw
  refine lv_iload_n hx hb dX6_aside_2 rfl (lv_at hl 1 rfl) ?_
  refine lv_bipush (v := (42 : Int32)) hx hb dX6_aside_3 (by decide) ?_
  refine lv_icmp_ge (tgt := 26) hx hb dX6_aside_5 (by decide) (fun c1 => ?_) (fun c1 => ?_)
  · replace hw := hw.1 c1
    exact z_retv C hP hS ⟨_, rfl, hw⟩ dX6_aside_26
  · replace hw := hw.2 c1
    refine lv_aload_n hx hb dX6_aside_8 rfl (lv_at hl 0 rfl) ?_
    refine z_getr (C := RX6) (T := TX6) (N := 15) (ref := "GauntletHallModel") (o := 19) (d := 0) hx hb hts hfX6 hown hK hP (hM (19, 0) (List.mem_of_getElem? (i := 0) rfl)) z_l_19_0 rfl 6 (by decide) (hts (.fieldLink RX6 25 "GauntletHallModel" "side" "[I") (by decide +kernel)) rfl rfl dX6_aside_9 ?_
    refine lv_iload_n hx hb dX6_aside_12 rfl (lv_at hl 1 rfl) ?_
    refine lv_aload_n hx hb dX6_aside_13 rfl (lv_at hl 0 rfl) ?_
    refine z_getr (C := RX6) (T := TX6) (N := 15) (ref := "GauntletHallModel") (o := 19) (d := 0) hx hb hts hfX6 hown hK hP (hM (19, 0) (List.mem_of_getElem? (i := 0) rfl)) z_l_19_0 rfl 5 (by decide) (hts (.fieldLink RX6 22 "GauntletHallModel" "now" "[I") (by decide +kernel)) rfl rfl dX6_aside_14 ?_
    refine lv_iload_n hx hb dX6_aside_17 rfl (lv_at hl 1 rfl) ?_
    obtain ⟨i2, hw⟩ := hw
    refine z_iald (o := 19) (d := 5) hx hb hK hP (hM (19, 5) (List.mem_of_getElem? (i := 5) rfl)) z_l_19_5 i2 (z_up_val X 19 h 5 (z_n x1)) dX6_aside_18 ?_
    obtain ⟨i3, hw⟩ := hw
    obtain ⟨h4, eh4⟩ : ∃ z : z_G, z = z_ss h 6 (z_n x1) (h 5 (z_n x1)) := ⟨_, rfl⟩
    replace hw := hw h4 eh4
    refine z_iast (o := 19) (d := 6) (X' := z_up X 19 h4) hx hb hK hE hP hS (hM (19, 6) (List.mem_of_getElem? (i := 6) rfl)) z_l_19_6 i3 (by rw [eh4]; exact z_up_put X 19 h 6 (z_n x1) _) dX6_aside_19 (fun H locs hP hS => ?_)
    obtain ⟨y5, ey5⟩ : ∃ z : Int32, z = x1 + (1 : Int32) := ⟨_, rfl⟩
    replace hw := hw y5 ey5
    refine lv_iinc (v := y5) (lv' := [(1, .int y5), (0, .ref (z_a E 19 0))]) hx hb dX6_aside_20 hl (k := 1) rfl (by rw [ey5]; rfl) (by decide) rfl (fun ls hl => ?_)
    refine lv_goto (tgt := 2) hx hb dX6_aside_23 (by decide) ?_
    exact k2 h4 y5 hw hP hS _ (lv_sub hl [1, 0] rfl)
theorem m_X6_aside_b2 {p : Program} {l : Launch} {e : Env} {s : State} {m : MethodId} {args : Array Value} {below : List Frame} {meth : Method} {c : Code} {E : z_E} (C : z_Cx p E s m args meth c cX6_aside 2 wsX6_aside RX6 none) (hM : z_mod E) (X : z_X) (K : z_G → Prop) (h : z_G) (x1 : Int32) (hw : v_X6_aside_b2 K h x1) {H : Heap} {locs : List Loc} (hP : z_P E (z_up X 19 h) H) (hS : va_S (z_A E) s.heap H locs) {ls : Array Slot} (hl : lv_has ls 2 [(0, .ref (z_a E 19 0)), (1, .int x1)]) : W p l e rX6_aside s m args below meth c H locs 0 0 (MQ below (va_Qv (fun X' => ∃ h', X' = z_up X 19 h' ∧ K h') (fun u t => z_P E u t.heap) (z_A E)) args s 0 0 (z_A E)) (F0 m 2 ls []) := by
  obtain ⟨n, hw⟩ := hw
  revert hw hP hS hl
  revert h x1 H locs ls
  induction n with
  | zero => intro h x1 H locs ls hP hS hl hw; exact hw.elim
  | succ n ih =>
    intro h x1 H locs ls hP hS hl hw
    exact m_X6_aside_b2_s C hM X K (fun h x1 => z_fp (σ := z_G × Int32) (fun Lp q => v_X6_aside_b2_s K (fun h x1 => Lp (h, x1)) q.1 q.2) n (h, x1)) (fun h x1 h9 H locs hP hS ls hl => ih h x1 hP hS hl h9) h x1 hw hP hS hl
set_option maxHeartbeats 4000000 in
set_option maxRecDepth 100000 in
theorem m_X6_aside (l : Launch) {E : z_E} (hE : z_ok E) (hM : z_mod E) (X : z_X) (h : z_G) (K : z_G → Prop) (hw : v_X6_aside h K) : z_CV l E yX6_aside wsX6_aside rX6_aside [.ref (z_a E 19 0)] (z_up X 19 h) (fun X' => ∃ h', X' = z_up X 19 h' ∧ K h') := by
  refine z_start (cc := cX6_aside) (maxL := 2) (ret := none) hE (by decide) rfl (Nat.le_of_ble_eq_true rfl) ?_
  intro p e s m below meth c C hP hS ls hl
  have C : z_Cx p E s m _ meth c cX6_aside 2 wsX6_aside RX6 none := C
  obtain ⟨hx, hb, hml, hr, hlocks, hown, hts, hK, hE⟩ := id C
  have hl : lv_has ls 2 [(0, .ref (z_a E 19 0))] := hl
  have hfX6 : ∀ w ∈ u_ws RX6 TX6 15, w ∈ wsX6_aside := by decide +kernel
  unfold v_X6_aside at hw
  refine lv_iconst (v := (0 : Int32)) hx hb dX6_aside_0 (by decide) ?_
  refine lv_istore_n (lv' := [(1, .int (0 : Int32)), (0, .ref (z_a E 19 0))]) hx hb dX6_aside_1 rfl hl (by decide) rfl (fun ls hl => ?_)
  exact m_X6_aside_b2 C hM X K h (0 : Int32) hw hP hS (lv_sub hl [1, 0] rfl)
