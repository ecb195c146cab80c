/-! ===== PRINTED (wip/whole/gen/gen.py): the machine meets each definition: X6.settle, X6.hurl, X6.keep, X6.kinds, X6.last, X6.lay, X6.lies ===== -/
set_option maxHeartbeats 4000000 in
set_option maxRecDepth 100000 in
theorem m_X6_settle_b2_s {p : Program} {l : Launch} {e : Env} {s : State} {m : MethodId} {args : Array Value} {below : List Frame} {meth : Method} {c : Code} {E : z_E} (C : z_Cx p E s m args meth c cX6_settle 2 wsX6_settle RX6 none) (hM : z_mod E) (X : z_X) (K : z_G → Prop) (L2 : z_G → Int32 → Prop) (k2 : ∀ (h : z_G) (x1 : Int32), L2 h x1 → ∀ {H : Heap} {locs : List Loc}, z_P E (z_up X 19 h) H → va_S (z_A E) s.heap H locs → ∀ (ls : Array Slot), lv_has ls 2 [(0, .ref (z_a E 19 0)), (1, .int x1)] → W p l e rX6_settle s m args below meth c H locs 0 0 (MQ below (va_Qv (fun X' => ∃ h', X' = z_up X 19 h' ∧ K h') (fun u t => z_P E u t.heap) (z_A E)) args s 0 0 (z_A E)) (F0 m 2 ls [])) (h : z_G) (x1 : Int32) (hw : v_X6_settle_b2_s K L2 h x1) {H : Heap} {locs : List Loc} (hP : z_P E (z_up X 19 h) H) (hS : va_S (z_A E) s.heap H locs) {ls : Array Slot} (hl : lv_has ls 2 [(0, .ref (z_a E 19 0)), (1, .int x1)]) : W p l e rX6_settle s m args below meth c H locs 0 0 (MQ below (va_Qv (fun X' => ∃ h', X' = z_up X 19 h' ∧ K h') (fun u t => z_P E u t.heap) (z_A E)) args s 0 0 (z_A E)) (F0 m 2 ls []) := by
  obtain ⟨hx, hb, hml, hr, hlocks, hown, hts, hK, hE⟩ := id C
  have hfX6 : ∀ w ∈ u_ws RX6 TX6 15, w ∈ wsX6_settle := by decide +kernel
  unfold v_X6_settle_b2_s at hw
  refine lv_iload_n hx hb dX6_settle_2 rfl (lv_at hl 1 rfl) ?_
  refine lv_bipush (v := (42 : Int32)) hx hb dX6_settle_3 (by decide) ?_
  refine lv_icmp_ge (tgt := 26) hx hb dX6_settle_5 (by decide) (fun c1 => ?_) (fun c1 => ?_)
  · replace hw := hw.1 c1
    exact z_retv C hP hS ⟨_, rfl, hw⟩ dX6_settle_26
  · replace hw := hw.2 c1
    refine lv_aload_n hx hb dX6_settle_8 rfl (lv_at hl 0 rfl) ?_
    refine z_getr (C := RX6) (T := TX6) (N := 15) (ref := "GauntletHallModel") (o := 19) (d := 0) hx hb hts hfX6 hown hK hP (hM (19, 0) (List.mem_of_getElem? (i := 0) rfl)) z_l_19_0 rfl 5 (by decide) (hts (.fieldLink RX6 22 "GauntletHallModel" "now" "[I") (by decide +kernel)) rfl rfl dX6_settle_9 ?_
    refine lv_iload_n hx hb dX6_settle_12 rfl (lv_at hl 1 rfl) ?_
    refine lv_aload_n hx hb dX6_settle_13 rfl (lv_at hl 0 rfl) ?_
    refine z_getr (C := RX6) (T := TX6) (N := 15) (ref := "GauntletHallModel") (o := 19) (d := 0) hx hb hts hfX6 hown hK hP (hM (19, 0) (List.mem_of_getElem? (i := 0) rfl)) z_l_19_0 rfl 6 (by decide) (hts (.fieldLink RX6 25 "GauntletHallModel" "side" "[I") (by decide +kernel)) rfl rfl dX6_settle_14 ?_
    refine lv_iload_n hx hb dX6_settle_17 rfl (lv_at hl 1 rfl) ?_
    obtain ⟨i2, hw⟩ := hw
    refine z_iald (o := 19) (d := 6) hx hb hK hP (hM (19, 6) (List.mem_of_getElem? (i := 6) rfl)) z_l_19_6 i2 (z_up_val X 19 h 6 (z_n x1)) dX6_settle_18 ?_
    obtain ⟨i3, hw⟩ := hw
    obtain ⟨h4, eh4⟩ : ∃ z : z_G, z = z_ss h 5 (z_n x1) (h 6 (z_n x1)) := ⟨_, rfl⟩
    replace hw := hw h4 eh4
    refine z_iast (o := 19) (d := 5) (X' := z_up X 19 h4) hx hb hK hE hP hS (hM (19, 5) (List.mem_of_getElem? (i := 5) rfl)) z_l_19_5 i3 (by rw [eh4]; exact z_up_put X 19 h 5 (z_n x1) _) dX6_settle_19 (fun H locs hP hS => ?_)
    obtain ⟨y5, ey5⟩ : ∃ z : Int32, z = x1 + (1 : Int32) := ⟨_, rfl⟩
    replace hw := hw y5 ey5
    refine lv_iinc (v := y5) (lv' := [(1, .int y5), (0, .ref (z_a E 19 0))]) hx hb dX6_settle_20 hl (k := 1) rfl (by rw [ey5]; rfl) (by decide) rfl (fun ls hl => ?_)
    refine lv_goto (tgt := 2) hx hb dX6_settle_23 (by decide) ?_
    exact k2 h4 y5 hw hP hS _ (lv_sub hl [1, 0] rfl)
theorem m_X6_settle_b2 {p : Program} {l : Launch} {e : Env} {s : State} {m : MethodId} {args : Array Value} {below : List Frame} {meth : Method} {c : Code} {E : z_E} (C : z_Cx p E s m args meth c cX6_settle 2 wsX6_settle RX6 none) (hM : z_mod E) (X : z_X) (K : z_G → Prop) (h : z_G) (x1 : Int32) (hw : v_X6_settle_b2 K h x1) {H : Heap} {locs : List Loc} (hP : z_P E (z_up X 19 h) H) (hS : va_S (z_A E) s.heap H locs) {ls : Array Slot} (hl : lv_has ls 2 [(0, .ref (z_a E 19 0)), (1, .int x1)]) : W p l e rX6_settle s m args below meth c H locs 0 0 (MQ below (va_Qv (fun X' => ∃ h', X' = z_up X 19 h' ∧ K h') (fun u t => z_P E u t.heap) (z_A E)) args s 0 0 (z_A E)) (F0 m 2 ls []) := by
  obtain ⟨n, hw⟩ := hw
  revert hw hP hS hl
  revert h x1 H locs ls
  induction n with
  | zero => intro h x1 H locs ls hP hS hl hw; exact hw.elim
  | succ n ih =>
    intro h x1 H locs ls hP hS hl hw
    exact m_X6_settle_b2_s C hM X K (fun h x1 => z_fp (σ := z_G × Int32) (fun Lp q => v_X6_settle_b2_s K (fun h x1 => Lp (h, x1)) q.1 q.2) n (h, x1)) (fun h x1 h9 H locs hP hS ls hl => ih h x1 hP hS hl h9) h x1 hw hP hS hl
set_option maxHeartbeats 4000000 in
set_option maxRecDepth 100000 in
theorem m_X6_settle (l : Launch) {E : z_E} (hE : z_ok E) (hM : z_mod E) (X : z_X) (h : z_G) (K : z_G → Prop) (hw : v_X6_settle h K) : z_CV l E yX6_settle wsX6_settle rX6_settle [.ref (z_a E 19 0)] (z_up X 19 h) (fun X' => ∃ h', X' = z_up X 19 h' ∧ K h') := by
  refine z_start (cc := cX6_settle) (maxL := 2) (ret := none) hE (by decide) rfl (Nat.le_of_ble_eq_true rfl) ?_
  intro p e s m below meth c C hP hS ls hl
  have C : z_Cx p E s m _ meth c cX6_settle 2 wsX6_settle RX6 none := C
  obtain ⟨hx, hb, hml, hr, hlocks, hown, hts, hK, hE⟩ := id C
  have hl : lv_has ls 2 [(0, .ref (z_a E 19 0))] := hl
  have hfX6 : ∀ w ∈ u_ws RX6 TX6 15, w ∈ wsX6_settle := by decide +kernel
  unfold v_X6_settle at hw
  refine lv_iconst (v := (0 : Int32)) hx hb dX6_settle_0 (by decide) ?_
  refine lv_istore_n (lv' := [(1, .int (0 : Int32)), (0, .ref (z_a E 19 0))]) hx hb dX6_settle_1 rfl hl (by decide) rfl (fun ls hl => ?_)
  exact m_X6_settle_b2 C hM X K h (0 : Int32) hw hP hS (lv_sub hl [1, 0] rfl)
set_option maxHeartbeats 4000000 in
set_option maxRecDepth 100000 in
theorem m_X6_hurl (l : Launch) {E : z_E} (hE : z_ok E) (hM : z_mod E) (X : z_X) (h : z_G) (x1 : Int32) (x2 : Int32) (x3 : Int32) (K : Int32 → z_G → Prop) (hw : v_X6_hurl h x1 x2 x3 K) : z_CI l E yX6_hurl wsX6_hurl rX6_hurl [.ref (z_a E 19 0), .int x1, .int x2, .int x3] (z_up X 19 h) (fun r X' => ∃ h', X' = z_up X 19 h' ∧ K r h') := by
  refine z_start (cc := cX6_hurl) (maxL := 4) (ret := (some .int)) hE (by decide) rfl (Nat.le_of_ble_eq_true rfl) ?_
  intro p e s m below meth c C hP hS ls hl
  have C : z_Cx p E s m _ meth c cX6_hurl 4 wsX6_hurl RX6 (some .int) := C
  obtain ⟨hx, hb, hml, hr, hlocks, hown, hts, hK, hE⟩ := id C
  have hl : lv_has ls 4 [(0, .ref (z_a E 19 0)), (1, .int x1), (2, .int x2), (3, .int x3)] := hl
  have hfX6 : ∀ w ∈ u_ws RX6 TX6 15, w ∈ wsX6_hurl := by decide +kernel
  unfold v_X6_hurl at hw
  refine lv_aload_n hx hb dX6_hurl_0 rfl (lv_at hl 0 rfl) ?_
  refine lv_iload_n hx hb dX6_hurl_1 rfl (lv_at hl 1 rfl) ?_
  refine z_vi (C := RX6) (T := TX6) (N := 15) (o := 19) (rest := []) ⟨hx, hb, hml, hown, hts⟩ (m_X6_isPerson l hE hM X h x1 _ hw) (cwV 1 hts gX6_hurl_X6_isPerson rfl rfl rfl (by decide +kernel) ⟨Nat.le_of_ble_eq_true rfl, Nat.le_of_ble_eq_true rfl⟩) hK hP hS (hM (19, 0) (List.mem_of_getElem? (i := 0) rfl)) z_l_19_0 rfl rfl hl.1 rfl (Nat.le_of_ble_eq_true rfl) dX6_hurl_2 ⟨Nat.zero_le _, Nat.zero_le _⟩ (fun r1 u H locs hk hP hS => ?_)
  obtain ⟨eu, hw⟩ := hk
  rw [eu] at hP
  refine lv_if_eq (tgt := 32) hx hb dX6_hurl_5 (by decide) (fun c2 => ?_) (fun c2 => ?_)
  · replace hw := hw.1 c2
    refine lv_iconst (v := (-1 : Int32)) hx hb dX6_hurl_32 (by decide) ?_
    exact z_reti C hP hS ⟨_, rfl, hw⟩ dX6_hurl_33
  · replace hw := hw.2 c2
    refine lv_iload_n hx hb dX6_hurl_8 rfl (lv_at hl 2 rfl) ?_
    refine lv_i2l hx hb dX6_hurl_9 rfl ?_
    refine lv_lconst (v := (0 : Int64)) hx hb dX6_hurl_10 (by decide) ?_
    refine lv_ldc2 hx hb hown (hts (.constantLong RX6 149 (3)) (by decide +kernel)) dX6_hurl_11 ?_
    refine z_si (rest := []) ⟨hx, hb, hml, hown, hts⟩ (m_X6_in l hE (z_up X 19 h) (Int32.toInt64 x2) (0 : Int64) (3 : Int64) _ hw) (va_cwS 3 hts gX6_hurl_X6_in rfl rfl rfl (by decide +kernel) ⟨Nat.le_of_ble_eq_true rfl, Nat.le_of_ble_eq_true rfl⟩) hK hP hS rfl hl.1 rfl (Nat.le_of_ble_eq_true rfl) dX6_hurl_14 ⟨Nat.zero_le _, Nat.zero_le _⟩ (fun r3 u H locs hk hP hS => ?_)
    obtain ⟨eu, hw⟩ := hk
    rw [eu] at hP
    refine lv_if_eq (tgt := 32) hx hb dX6_hurl_17 (by decide) (fun c4 => ?_) (fun c4 => ?_)
    · replace hw := hw.1 c4
      refine lv_iconst (v := (-1 : Int32)) hx hb dX6_hurl_32 (by decide) ?_
      exact z_reti C hP hS ⟨_, rfl, hw⟩ dX6_hurl_33
    · replace hw := hw.2 c4
      refine lv_iload_n hx hb dX6_hurl_20 rfl (lv_at hl 3 rfl) ?_
      refine lv_i2l hx hb dX6_hurl_21 rfl ?_
      refine lv_lconst (v := (1 : Int64)) hx hb dX6_hurl_22 (by decide) ?_
      refine lv_ldc2 hx hb hown (hts (.constantLong RX6 82 (20)) (by decide +kernel)) dX6_hurl_23 ?_
      refine z_si (rest := []) ⟨hx, hb, hml, hown, hts⟩ (m_X6_in l hE (z_up X 19 h) (Int32.toInt64 x3) (1 : Int64) (20 : Int64) _ hw) (va_cwS 3 hts gX6_hurl_X6_in rfl rfl rfl (by decide +kernel) ⟨Nat.le_of_ble_eq_true rfl, Nat.le_of_ble_eq_true rfl⟩) hK hP hS rfl hl.1 rfl (Nat.le_of_ble_eq_true rfl) dX6_hurl_26 ⟨Nat.zero_le _, Nat.zero_le _⟩ (fun r5 u H locs hk hP hS => ?_)
      obtain ⟨eu, hw⟩ := hk
      rw [eu] at hP
      refine lv_if_ne (tgt := 34) hx hb dX6_hurl_29 (by decide) (fun c6 => ?_) (fun c6 => ?_)
      · replace hw := hw.1 c6
        refine lv_aload_n hx hb dX6_hurl_34 rfl (lv_at hl 0 rfl) ?_
        refine z_getr (C := RX6) (T := TX6) (N := 15) (ref := "GauntletHallModel") (o := 19) (d := 0) hx hb hts hfX6 hown hK hP (hM (19, 0) (List.mem_of_getElem? (i := 0) rfl)) z_l_19_0 rfl 5 (by decide) (hts (.fieldLink RX6 22 "GauntletHallModel" "now" "[I") (by decide +kernel)) rfl rfl dX6_hurl_35 ?_
        refine lv_iconst (v := (4 : Int32)) hx hb dX6_hurl_38 (by decide) ?_
        refine lv_iload_n hx hb dX6_hurl_39 rfl (lv_at hl 1 rfl) ?_
        refine lv_iadd hx hb dX6_hurl_40 ?_
        obtain ⟨i7, hw⟩ := hw
        refine z_iald (o := 19) (d := 5) hx hb hK hP (hM (19, 5) (List.mem_of_getElem? (i := 5) rfl)) z_l_19_5 i7 (z_up_val X 19 h 5 (z_n ((4 : Int32) + x1))) dX6_hurl_41 ?_
        refine lv_if_ne (tgt := 48) hx hb dX6_hurl_42 (by decide) (fun c8 => ?_) (fun c8 => ?_)
        · replace hw := hw.1 c8
          refine lv_aload_n hx hb dX6_hurl_48 rfl (lv_at hl 0 rfl) ?_
          refine z_getr (C := RX6) (T := TX6) (N := 15) (ref := "GauntletHallModel") (o := 19) (d := 0) hx hb hts hfX6 hown hK hP (hM (19, 0) (List.mem_of_getElem? (i := 0) rfl)) z_l_19_0 rfl 5 (by decide) (hts (.fieldLink RX6 22 "GauntletHallModel" "now" "[I") (by decide +kernel)) rfl rfl dX6_hurl_49 ?_
          refine lv_iconst (v := (2 : Int32)) hx hb dX6_hurl_52 (by decide) ?_
          obtain ⟨i9, hw⟩ := hw
          refine z_iald (o := 19) (d := 5) hx hb hK hP (hM (19, 5) (List.mem_of_getElem? (i := 5) rfl)) z_l_19_5 i9 (z_up_val X 19 h 5 (z_n (2 : Int32))) dX6_hurl_53 ?_
          refine lv_bipush (v := (8 : Int32)) hx hb dX6_hurl_54 (by decide) ?_
          refine lv_icmp_ne (tgt := 62) hx hb dX6_hurl_56 (by decide) (fun c10 => ?_) (fun c10 => ?_)
          · replace hw := hw.1 c10
            refine lv_aload_n hx hb dX6_hurl_62 rfl (lv_at hl 0 rfl) ?_
            refine z_vv (C := RX6) (T := TX6) (N := 15) (o := 19) (rest := []) ⟨hx, hb, hml, hown, hts⟩ (m_X6_note l hE hM X h _ hw) (cwV 0 hts gX6_hurl_X6_note rfl rfl rfl (by decide +kernel) ⟨Nat.le_of_ble_eq_true rfl, Nat.le_of_ble_eq_true rfl⟩) hK hP hS (hM (19, 0) (List.mem_of_getElem? (i := 0) rfl)) z_l_19_0 rfl rfl hl.1 rfl (Nat.le_of_ble_eq_true rfl) dX6_hurl_63 ⟨Nat.zero_le _, Nat.zero_le _⟩ (fun u H locs hk hP hS => ?_)
            obtain ⟨h11, eu, hw⟩ := hk
            rw [eu] at hP
            refine lv_aload_n hx hb dX6_hurl_66 rfl (lv_at hl 0 rfl) ?_
            refine z_vv (C := RX6) (T := TX6) (N := 15) (o := 19) (rest := []) ⟨hx, hb, hml, hown, hts⟩ (m_X6_aside l hE hM X h11 _ hw) (cwV 0 hts gX6_hurl_X6_aside rfl rfl rfl (by decide +kernel) ⟨Nat.le_of_ble_eq_true rfl, Nat.le_of_ble_eq_true rfl⟩) hK hP hS (hM (19, 0) (List.mem_of_getElem? (i := 0) rfl)) z_l_19_0 rfl rfl hl.1 rfl (Nat.le_of_ble_eq_true rfl) dX6_hurl_67 ⟨Nat.zero_le _, Nat.zero_le _⟩ (fun u H locs hk hP hS => ?_)
            obtain ⟨h12, eu, hw⟩ := hk
            rw [eu] at hP
            refine lv_aload_n hx hb dX6_hurl_70 rfl (lv_at hl 0 rfl) ?_
            refine lv_aload_n hx hb dX6_hurl_71 rfl (lv_at hl 0 rfl) ?_
            refine z_getr (C := RX6) (T := TX6) (N := 15) (ref := "GauntletHallModel") (o := 19) (d := 0) hx hb hts hfX6 hown hK hP (hM (19, 0) (List.mem_of_getElem? (i := 0) rfl)) z_l_19_0 rfl 6 (by decide) (hts (.fieldLink RX6 25 "GauntletHallModel" "side" "[I") (by decide +kernel)) rfl rfl dX6_hurl_72 ?_
            refine lv_iconst (v := (2 : Int32)) hx hb dX6_hurl_75 (by decide) ?_
            obtain ⟨i13, hw⟩ := hw
            refine z_iald (o := 19) (d := 6) hx hb hK hP (hM (19, 6) (List.mem_of_getElem? (i := 6) rfl)) z_l_19_6 i13 (z_up_val X 19 h12 6 (z_n (2 : Int32))) dX6_hurl_76 ?_
            refine lv_iload_n hx hb dX6_hurl_77 rfl (lv_at hl 2 rfl) ?_
            refine lv_iload_n hx hb dX6_hurl_78 rfl (lv_at hl 3 rfl) ?_
            refine lv_iload_n hx hb dX6_hurl_79 rfl (lv_at hl 1 rfl) ?_
            refine z_vv (C := RX6) (T := TX6) (N := 15) (o := 19) (rest := []) ⟨hx, hb, hml, hown, hts⟩ (m_X6_lays l hE hM X h12 (h12 6 (z_n (2 : Int32))) x2 x3 x1 _ hw) (cwV 4 hts gX6_hurl_X6_lays rfl rfl rfl (by decide +kernel) ⟨Nat.le_of_ble_eq_true rfl, Nat.le_of_ble_eq_true rfl⟩) hK hP hS (hM (19, 0) (List.mem_of_getElem? (i := 0) rfl)) z_l_19_0 rfl rfl hl.1 rfl (Nat.le_of_ble_eq_true rfl) dX6_hurl_80 ⟨Nat.zero_le _, Nat.zero_le _⟩ (fun u H locs hk hP hS => ?_)
            obtain ⟨h14, eu, hw⟩ := hk
            rw [eu] at hP
            refine lv_aload_n hx hb dX6_hurl_83 rfl (lv_at hl 0 rfl) ?_
            refine z_getr (C := RX6) (T := TX6) (N := 15) (ref := "GauntletHallModel") (o := 19) (d := 0) hx hb hts hfX6 hown hK hP (hM (19, 0) (List.mem_of_getElem? (i := 0) rfl)) z_l_19_0 rfl 6 (by decide) (hts (.fieldLink RX6 25 "GauntletHallModel" "side" "[I") (by decide +kernel)) rfl rfl dX6_hurl_84 ?_
            refine lv_iconst (v := (2 : Int32)) hx hb dX6_hurl_87 (by decide) ?_
            refine lv_dup2_11 hx hb dX6_hurl_88 rfl rfl ?_
            obtain ⟨i15, hw⟩ := hw
            refine z_iald (o := 19) (d := 6) hx hb hK hP (hM (19, 6) (List.mem_of_getElem? (i := 6) rfl)) z_l_19_6 i15 (z_up_val X 19 h14 6 (z_n (2 : Int32))) dX6_hurl_89 ?_
            refine lv_iconst (v := (1 : Int32)) hx hb dX6_hurl_90 (by decide) ?_
            refine lv_iadd hx hb dX6_hurl_91 ?_
            obtain ⟨i16, hw⟩ := hw
            obtain ⟨h17, eh17⟩ : ∃ z : z_G, z = z_ss h14 6 (z_n (2 : Int32)) ((h14 6 (z_n (2 : Int32))) + (1 : Int32)) := ⟨_, rfl⟩
            replace hw := hw h17 eh17
            refine z_iast (o := 19) (d := 6) (X' := z_up X 19 h17) hx hb hK hE hP hS (hM (19, 6) (List.mem_of_getElem? (i := 6) rfl)) z_l_19_6 i16 (by rw [eh17]; exact z_up_put X 19 h14 6 (z_n (2 : Int32)) _) dX6_hurl_92 (fun H locs hP hS => ?_)
            refine lv_aload_n hx hb dX6_hurl_93 rfl (lv_at hl 0 rfl) ?_
            refine z_vv (C := RX6) (T := TX6) (N := 15) (o := 19) (rest := []) ⟨hx, hb, hml, hown, hts⟩ (m_X6_settle l hE hM X h17 _ hw) (cwV 0 hts gX6_hurl_X6_settle rfl rfl rfl (by decide +kernel) ⟨Nat.le_of_ble_eq_true rfl, Nat.le_of_ble_eq_true rfl⟩) hK hP hS (hM (19, 0) (List.mem_of_getElem? (i := 0) rfl)) z_l_19_0 rfl rfl hl.1 rfl (Nat.le_of_ble_eq_true rfl) dX6_hurl_94 ⟨Nat.zero_le _, Nat.zero_le _⟩ (fun u H locs hk hP hS => ?_)
            obtain ⟨h18, eu, hw⟩ := hk
            rw [eu] at hP
            refine lv_aload_n hx hb dX6_hurl_97 rfl (lv_at hl 0 rfl) ?_
            refine z_getr (C := RX6) (T := TX6) (N := 15) (ref := "GauntletHallModel") (o := 19) (d := 0) hx hb hts hfX6 hown hK hP (hM (19, 0) (List.mem_of_getElem? (i := 0) rfl)) z_l_19_0 rfl 5 (by decide) (hts (.fieldLink RX6 22 "GauntletHallModel" "now" "[I") (by decide +kernel)) rfl rfl dX6_hurl_98 ?_
            refine lv_iconst (v := (2 : Int32)) hx hb dX6_hurl_101 (by decide) ?_
            obtain ⟨i19, hw⟩ := hw
            refine z_iald (o := 19) (d := 5) hx hb hK hP (hM (19, 5) (List.mem_of_getElem? (i := 5) rfl)) z_l_19_5 i19 (z_up_val X 19 h18 5 (z_n (2 : Int32))) dX6_hurl_102 ?_
            refine lv_iconst (v := (1 : Int32)) hx hb dX6_hurl_103 (by decide) ?_
            refine lv_isub hx hb dX6_hurl_104 ?_
            exact z_reti C hP hS ⟨_, rfl, hw⟩ dX6_hurl_105
          · replace hw := hw.2 c10
            refine lv_bipush (v := (-3 : Int32)) hx hb dX6_hurl_59 (by decide) ?_
            exact z_reti C hP hS ⟨_, rfl, hw⟩ dX6_hurl_61
        · replace hw := hw.2 c8
          refine lv_bipush (v := (-2 : Int32)) hx hb dX6_hurl_45 (by decide) ?_
          exact z_reti C hP hS ⟨_, rfl, hw⟩ dX6_hurl_47
      · replace hw := hw.2 c6
        refine lv_iconst (v := (-1 : Int32)) hx hb dX6_hurl_32 (by decide) ?_
        exact z_reti C hP hS ⟨_, rfl, hw⟩ dX6_hurl_33
set_option maxHeartbeats 4000000 in
set_option maxRecDepth 100000 in
theorem m_X6_keep_b13_s {p : Program} {l : Launch} {e : Env} {s : State} {m : MethodId} {args : Array Value} {below : List Frame} {meth : Method} {c : Code} {E : z_E} (C : z_Cx p E s m args meth c cX6_keep 2 wsX6_keep RX6 (some .int)) (hM : z_mod E) (X : z_X) (K : Int32 → z_G → Prop) (L13 : z_G → Int32 → Prop) (k13 : ∀ (h : z_G) (x1 : Int32), L13 h x1 → ∀ {H : Heap} {locs : List Loc}, z_P E (z_up X 19 h) H → va_S (z_A E) s.heap H locs → ∀ (ls : Array Slot), lv_has ls 2 [(0, .ref (z_a E 19 0)), (1, .int x1)] → W p l e rX6_keep s m args below meth c H locs 0 0 (MQ below (va_Qi (fun r X' => ∃ h', X' = z_up X 19 h' ∧ K r h') (fun u t => z_P E u t.heap) (z_A E)) args s 0 0 (z_A E)) (F0 m 13 ls [])) (h : z_G) (x1 : Int32) (hw : v_X6_keep_b13_s K L13 h x1) {H : Heap} {locs : List Loc} (hP : z_P E (z_up X 19 h) H) (hS : va_S (z_A E) s.heap H locs) {ls : Array Slot} (hl : lv_has ls 2 [(0, .ref (z_a E 19 0)), (1, .int x1)]) : W p l e rX6_keep s m args below meth c H locs 0 0 (MQ below (va_Qi (fun r X' => ∃ h', X' = z_up X 19 h' ∧ K r h') (fun u t => z_P E u t.heap) (z_A E)) args s 0 0 (z_A E)) (F0 m 13 ls []) := by
  obtain ⟨hx, hb, hml, hr, hlocks, hown, hts, hK, hE⟩ := id C
  have hfX6 : ∀ w ∈ u_ws RX6 TX6 15, w ∈ wsX6_keep := by decide +kernel
  unfold v_X6_keep_b13_s at hw
  refine lv_iload_n hx hb dX6_keep_13 rfl (lv_at hl 1 rfl) ?_
  refine lv_bipush (v := (42 : Int32)) hx hb dX6_keep_14 (by decide) ?_
  refine lv_icmp_ge (tgt := 45) hx hb dX6_keep_16 (by decide) (fun c2 => ?_) (fun c2 => ?_)
  · replace hw := hw.1 c2
    refine lv_aload_n hx hb dX6_keep_45 rfl (lv_at hl 0 rfl) ?_
    refine lv_dup hx hb dX6_keep_46 rfl ?_
    refine z_geti (C := RX6) (T := TX6) (N := 15) (ref := "GauntletHallModel") (o := 19) (d := 0) hx hb hts hfX6 hown hK hP (hM (19, 0) (List.mem_of_getElem? (i := 0) rfl)) z_l_19_0 rfl 10 (by decide) (hts (.fieldLink RX6 99 "GauntletHallModel" "keptMany" "I") (by decide +kernel)) rfl rfl (z_up_val X 19 h 0 10) dX6_keep_47 ?_
    refine lv_iconst (v := (1 : Int32)) hx hb dX6_keep_50 (by decide) ?_
    refine lv_iadd hx hb dX6_keep_51 ?_
    obtain ⟨h3, eh3⟩ : ∃ z : z_G, z = z_ss h 0 10 ((h 0 10) + (1 : Int32)) := ⟨_, rfl⟩
    replace hw := hw h3 eh3
    refine z_puti (C := RX6) (T := TX6) (N := 15) (ref := "GauntletHallModel") (o := 19) (d := 0) (X' := z_up X 19 h3) hx hb hts hfX6 tyX6 tyX6_ok nmX6 hown hK hE hP hS (hM (19, 0) (List.mem_of_getElem? (i := 0) rfl)) z_l_19_0 rfl 10 (by decide) (hts (.fieldLink RX6 99 "GauntletHallModel" "keptMany" "I") (by decide +kernel)) rfl rfl (by decide +kernel) rfl (by rw [eh3]; exact z_up_put X 19 h 0 10 _) dX6_keep_52 (fun H locs hP hS => ?_)
    refine lv_aload_n hx hb dX6_keep_55 rfl (lv_at hl 0 rfl) ?_
    refine z_geti (C := RX6) (T := TX6) (N := 15) (ref := "GauntletHallModel") (o := 19) (d := 0) hx hb hts hfX6 hown hK hP (hM (19, 0) (List.mem_of_getElem? (i := 0) rfl)) z_l_19_0 rfl 10 (by decide) (hts (.fieldLink RX6 99 "GauntletHallModel" "keptMany" "I") (by decide +kernel)) rfl rfl (z_up_val X 19 h3 0 10) dX6_keep_56 ?_
    exact z_reti C hP hS ⟨_, rfl, hw⟩ dX6_keep_59
  · replace hw := hw.2 c2
    refine lv_aload_n hx hb dX6_keep_19 rfl (lv_at hl 0 rfl) ?_
    refine z_getr (C := RX6) (T := TX6) (N := 15) (ref := "GauntletHallModel") (o := 19) (d := 0) hx hb hts hfX6 hown hK hP (hM (19, 0) (List.mem_of_getElem? (i := 0) rfl)) z_l_19_0 rfl 9 (by decide) (hts (.fieldLink RX6 31 "GauntletHallModel" "kept" "[I") (by decide +kernel)) rfl rfl dX6_keep_20 ?_
    refine lv_bipush (v := (42 : Int32)) hx hb dX6_keep_23 (by decide) ?_
    refine lv_aload_n hx hb dX6_keep_25 rfl (lv_at hl 0 rfl) ?_
    refine z_geti (C := RX6) (T := TX6) (N := 15) (ref := "GauntletHallModel") (o := 19) (d := 0) hx hb hts hfX6 hown hK hP (hM (19, 0) (List.mem_of_getElem? (i := 0) rfl)) z_l_19_0 rfl 10 (by decide) (hts (.fieldLink RX6 99 "GauntletHallModel" "keptMany" "I") (by decide +kernel)) rfl rfl (z_up_val X 19 h 0 10) dX6_keep_26 ?_
    refine lv_imul hx hb dX6_keep_29 ?_
    refine lv_iload_n hx hb dX6_keep_30 rfl (lv_at hl 1 rfl) ?_
    refine lv_iadd hx hb dX6_keep_31 ?_
    refine lv_aload_n hx hb dX6_keep_32 rfl (lv_at hl 0 rfl) ?_
    refine z_getr (C := RX6) (T := TX6) (N := 15) (ref := "GauntletHallModel") (o := 19) (d := 0) hx hb hts hfX6 hown hK hP (hM (19, 0) (List.mem_of_getElem? (i := 0) rfl)) z_l_19_0 rfl 5 (by decide) (hts (.fieldLink RX6 22 "GauntletHallModel" "now" "[I") (by decide +kernel)) rfl rfl dX6_keep_33 ?_
    refine lv_iload_n hx hb dX6_keep_36 rfl (lv_at hl 1 rfl) ?_
    obtain ⟨i4, hw⟩ := hw
    refine z_iald (o := 19) (d := 5) hx hb hK hP (hM (19, 5) (List.mem_of_getElem? (i := 5) rfl)) z_l_19_5 i4 (z_up_val X 19 h 5 (z_n x1)) dX6_keep_37 ?_
    obtain ⟨i5, hw⟩ := hw
    obtain ⟨h6, eh6⟩ : ∃ z : z_G, z = z_ss h 9 (z_n (((42 : Int32) * (h 0 10)) + x1)) (h 5 (z_n x1)) := ⟨_, rfl⟩
    replace hw := hw h6 eh6
    refine z_iast (o := 19) (d := 9) (X' := z_up X 19 h6) hx hb hK hE hP hS (hM (19, 9) (List.mem_of_getElem? (i := 8) rfl)) z_l_19_9 i5 (by rw [eh6]; exact z_up_put X 19 h 9 (z_n (((42 : Int32) * (h 0 10)) + x1)) _) dX6_keep_38 (fun H locs hP hS => ?_)
    obtain ⟨y7, ey7⟩ : ∃ z : Int32, z = x1 + (1 : Int32) := ⟨_, rfl⟩
    replace hw := hw y7 ey7
    refine lv_iinc (v := y7) (lv' := [(1, .int y7), (0, .ref (z_a E 19 0))]) hx hb dX6_keep_39 hl (k := 1) rfl (by rw [ey7]; rfl) (by decide) rfl (fun ls hl => ?_)
    refine lv_goto (tgt := 13) hx hb dX6_keep_42 (by decide) ?_
    exact k13 h6 y7 hw hP hS _ (lv_sub hl [1, 0] rfl)
theorem m_X6_keep_b13 {p : Program} {l : Launch} {e : Env} {s : State} {m : MethodId} {args : Array Value} {below : List Frame} {meth : Method} {c : Code} {E : z_E} (C : z_Cx p E s m args meth c cX6_keep 2 wsX6_keep RX6 (some .int)) (hM : z_mod E) (X : z_X) (K : Int32 → z_G → Prop) (h : z_G) (x1 : Int32) (hw : v_X6_keep_b13 K h x1) {H : Heap} {locs : List Loc} (hP : z_P E (z_up X 19 h) H) (hS : va_S (z_A E) s.heap H locs) {ls : Array Slot} (hl : lv_has ls 2 [(0, .ref (z_a E 19 0)), (1, .int x1)]) : W p l e rX6_keep s m args below meth c H locs 0 0 (MQ below (va_Qi (fun r X' => ∃ h', X' = z_up X 19 h' ∧ K r h') (fun u t => z_P E u t.heap) (z_A E)) args s 0 0 (z_A E)) (F0 m 13 ls []) := by
  obtain ⟨n, hw⟩ := hw
  revert hw hP hS hl
  revert h x1 H locs ls
  induction n with
  | zero => intro h x1 H locs ls hP hS hl hw; exact hw.elim
  | succ n ih =>
    intro h x1 H locs ls hP hS hl hw
    exact m_X6_keep_b13_s C hM X K (fun h x1 => z_fp (σ := z_G × Int32) (fun Lp q => v_X6_keep_b13_s K (fun h x1 => Lp (h, x1)) q.1 q.2) n (h, x1)) (fun h x1 h9 H locs hP hS ls hl => ih h x1 hP hS hl h9) h x1 hw hP hS hl
set_option maxHeartbeats 4000000 in
set_option maxRecDepth 100000 in
theorem m_X6_keep (l : Launch) {E : z_E} (hE : z_ok E) (hM : z_mod E) (X : z_X) (h : z_G) (K : Int32 → z_G → Prop) (hw : v_X6_keep h K) : z_CI l E yX6_keep wsX6_keep rX6_keep [.ref (z_a E 19 0)] (z_up X 19 h) (fun r X' => ∃ h', X' = z_up X 19 h' ∧ K r h') := by
  refine z_start (cc := cX6_keep) (maxL := 2) (ret := (some .int)) hE (by decide) rfl (Nat.le_of_ble_eq_true rfl) ?_
  intro p e s m below meth c C hP hS ls hl
  have C : z_Cx p E s m _ meth c cX6_keep 2 wsX6_keep RX6 (some .int) := C
  obtain ⟨hx, hb, hml, hr, hlocks, hown, hts, hK, hE⟩ := id C
  have hl : lv_has ls 2 [(0, .ref (z_a E 19 0))] := hl
  have hfX6 : ∀ w ∈ u_ws RX6 TX6 15, w ∈ wsX6_keep := by decide +kernel
  unfold v_X6_keep at hw
  refine lv_aload_n hx hb dX6_keep_0 rfl (lv_at hl 0 rfl) ?_
  refine z_geti (C := RX6) (T := TX6) (N := 15) (ref := "GauntletHallModel") (o := 19) (d := 0) hx hb hts hfX6 hown hK hP (hM (19, 0) (List.mem_of_getElem? (i := 0) rfl)) z_l_19_0 rfl 10 (by decide) (hts (.fieldLink RX6 99 "GauntletHallModel" "keptMany" "I") (by decide +kernel)) rfl rfl (z_up_val X 19 h 0 10) dX6_keep_1 ?_
  refine lv_iconst (v := (2 : Int32)) hx hb dX6_keep_4 (by decide) ?_
  refine lv_icmp_ne (tgt := 11) hx hb dX6_keep_5 (by decide) (fun c1 => ?_) (fun c1 => ?_)
  · replace hw := hw.1 c1
    refine lv_iconst (v := (0 : Int32)) hx hb dX6_keep_11 (by decide) ?_
    refine lv_istore_n (lv' := [(1, .int (0 : Int32)), (0, .ref (z_a E 19 0))]) hx hb dX6_keep_12 rfl hl (by decide) rfl (fun ls hl => ?_)
    exact m_X6_keep_b13 C hM X K h (0 : Int32) hw hP hS (lv_sub hl [1, 0] rfl)
  · replace hw := hw.2 c1
    refine lv_bipush (v := (-3 : Int32)) hx hb dX6_keep_8 (by decide) ?_
    exact z_reti C hP hS ⟨_, rfl, hw⟩ dX6_keep_10
set_option maxHeartbeats 4000000 in
set_option maxRecDepth 100000 in
theorem m_X6_kinds_b14_s {p : Program} {l : Launch} {e : Env} {s : State} {m : MethodId} {args : Array Value} {below : List Frame} {meth : Method} {c : Code} {E : z_E} (C : z_Cx p E s m args meth c cX6_kinds 4 wsX6_kinds RX6 (some .int)) (hM : z_mod E) (X : z_X) (h : z_G) (K : Int32 → Prop) (L14 : Int32 → Int32 → Int32 → Prop) (k14 : ∀ (x1 : Int32) (x2 : Int32) (x3 : Int32), L14 x1 x2 x3 → ∀ {H : Heap} {locs : List Loc}, z_P E (z_up X 19 h) H → va_S (z_A E) s.heap H locs → ∀ (ls : Array Slot), lv_has ls 4 [(0, .ref (z_a E 19 0)), (1, .int x1), (2, .int x2), (3, .int x3)] → W p l e rX6_kinds s m args below meth c H locs 0 0 (MQ below (va_Qi (fun r X' => X' = (z_up X 19 h) ∧ K r) (fun u t => z_P E u t.heap) (z_A E)) args s 0 0 (z_A E)) (F0 m 14 ls [])) (x1 : Int32) (x2 : Int32) (x3 : Int32) (hw : v_X6_kinds_b14_s h K L14 x1 x2 x3) {H : Heap} {locs : List Loc} (hP : z_P E (z_up X 19 h) H) (hS : va_S (z_A E) s.heap H locs) {ls : Array Slot} (hl : lv_has ls 4 [(0, .ref (z_a E 19 0)), (1, .int x1), (2, .int x2), (3, .int x3)]) : W p l e rX6_kinds s m args below meth c H locs 0 0 (MQ below (va_Qi (fun r X' => X' = (z_up X 19 h) ∧ K r) (fun u t => z_P E u t.heap) (z_A E)) args s 0 0 (z_A E)) (F0 m 14 ls []) := by
  obtain ⟨hx, hb, hml, hr, hlocks, hown, hts, hK, hE⟩ := id C
  have hfX6 : ∀ w ∈ u_ws RX6 TX6 15, w ∈ wsX6_kinds := by decide +kernel
  unfold v_X6_kinds_b14_s at hw
  refine lv_iload_n hx hb dX6_kinds_14 rfl (lv_at hl 3 rfl) ?_
  refine lv_iconst (v := (4 : Int32)) hx hb dX6_kinds_15 (by decide) ?_
  refine lv_icmp_ge (tgt := 56) hx hb dX6_kinds_16 (by decide) (fun c3 => ?_) (fun c3 => ?_)
  · replace hw := hw.1 c3
    refine lv_iload_n hx hb dX6_kinds_56 rfl (lv_at hl 2 rfl) ?_
    exact z_reti C hP hS ⟨rfl, hw⟩ dX6_kinds_57
  · replace hw := hw.2 c3
    refine lv_iload_n hx hb dX6_kinds_19 rfl (lv_at hl 2 rfl) ?_
    refine lv_aload_n hx hb dX6_kinds_20 rfl (lv_at hl 0 rfl) ?_
    refine lv_bipush (v := (-4 : Int32)) hx hb dX6_kinds_21 (by decide) ?_
    refine lv_iconst (v := (0 : Int32)) hx hb dX6_kinds_23 (by decide) ?_
    refine lv_iload_n hx hb dX6_kinds_24 rfl (lv_at hl 1 rfl) ?_
    refine lv_iload_n hx hb dX6_kinds_25 rfl (lv_at hl 3 rfl) ?_
    refine lv_aload_n hx hb dX6_kinds_26 rfl (lv_at hl 0 rfl) ?_
    refine z_getr (C := RX6) (T := TX6) (N := 15) (ref := "GauntletHallModel") (o := 19) (d := 0) hx hb hts hfX6 hown hK hP (hM (19, 0) (List.mem_of_getElem? (i := 0) rfl)) z_l_19_0 rfl 5 (by decide) (hts (.fieldLink RX6 22 "GauntletHallModel" "now" "[I") (by decide +kernel)) rfl rfl dX6_kinds_27 ?_
    refine lv_bipush (v := (18 : Int32)) hx hb dX6_kinds_30 (by decide) ?_
    refine lv_iload_n hx hb dX6_kinds_32 rfl (lv_at hl 1 rfl) ?_
    refine lv_iadd hx hb dX6_kinds_33 ?_
    obtain ⟨i4, hw⟩ := hw
    refine z_iald (o := 19) (d := 5) hx hb hK hP (hM (19, 5) (List.mem_of_getElem? (i := 5) rfl)) z_l_19_5 i4 (z_up_val X 19 h 5 (z_n ((18 : Int32) + x1))) dX6_kinds_34 ?_
    refine z_vi (C := RX6) (T := TX6) (N := 15) (o := 19) (rest := [.int x2]) ⟨hx, hb, hml, hown, hts⟩ (m_X6_isSeen l hE hM X h (-4 : Int32) (0 : Int32) x1 x3 (h 5 (z_n ((18 : Int32) + x1))) _ hw) (cwV 5 hts gX6_kinds_X6_isSeen rfl rfl rfl (by decide +kernel) ⟨Nat.le_of_ble_eq_true rfl, Nat.le_of_ble_eq_true rfl⟩) hK hP hS (hM (19, 0) (List.mem_of_getElem? (i := 0) rfl)) z_l_19_0 rfl rfl hl.1 rfl (Nat.le_of_ble_eq_true rfl) dX6_kinds_35 ⟨Nat.zero_le _, Nat.zero_le _⟩ (fun r5 u H locs hk hP hS => ?_)
    obtain ⟨eu, hw⟩ := hk
    rw [eu] at hP
    refine lv_if_eq (tgt := 47) hx hb dX6_kinds_38 (by decide) (fun c6 => ?_) (fun c6 => ?_)
    · replace hw := hw.1 c6
      refine lv_iconst (v := (0 : Int32)) hx hb dX6_kinds_47 (by decide) ?_
      refine lv_ior hx hb dX6_kinds_48 ?_
      refine lv_topi (fun y7 ey7 => ?_)
      replace hw := hw y7 ey7
      refine lv_istore_n (lv' := [(2, .int y7), (0, .ref (z_a E 19 0)), (1, .int x1), (3, .int x3)]) hx hb dX6_kinds_49 rfl hl (by decide) rfl (fun ls hl => ?_)
      obtain ⟨y8, ey8⟩ : ∃ z : Int32, z = x3 + (1 : Int32) := ⟨_, rfl⟩
      replace hw := hw y8 ey8
      refine lv_iinc (v := y8) (lv' := [(3, .int y8), (2, .int y7), (0, .ref (z_a E 19 0)), (1, .int x1)]) hx hb dX6_kinds_50 hl (k := 3) rfl (by rw [ey8]; rfl) (by decide) rfl (fun ls hl => ?_)
      refine lv_goto (tgt := 14) hx hb dX6_kinds_53 (by decide) ?_
      exact k14 x1 y7 y8 hw hP hS _ (lv_sub hl [2, 3, 1, 0] rfl)
    · replace hw := hw.2 c6
      refine lv_iconst (v := (1 : Int32)) hx hb dX6_kinds_41 (by decide) ?_
      refine lv_iload_n hx hb dX6_kinds_42 rfl (lv_at hl 3 rfl) ?_
      refine lv_ishl hx hb dX6_kinds_43 ?_
      refine lv_goto (tgt := 48) hx hb dX6_kinds_44 (by decide) ?_
      refine lv_ior hx hb dX6_kinds_48 ?_
      refine lv_topi (fun y9 ey9 => ?_)
      replace hw := hw y9 ey9
      refine lv_istore_n (lv' := [(2, .int y9), (0, .ref (z_a E 19 0)), (1, .int x1), (3, .int x3)]) hx hb dX6_kinds_49 rfl hl (by decide) rfl (fun ls hl => ?_)
      obtain ⟨y10, ey10⟩ : ∃ z : Int32, z = x3 + (1 : Int32) := ⟨_, rfl⟩
      replace hw := hw y10 ey10
      refine lv_iinc (v := y10) (lv' := [(3, .int y10), (2, .int y9), (0, .ref (z_a E 19 0)), (1, .int x1)]) hx hb dX6_kinds_50 hl (k := 3) rfl (by rw [ey10]; rfl) (by decide) rfl (fun ls hl => ?_)
      refine lv_goto (tgt := 14) hx hb dX6_kinds_53 (by decide) ?_
      exact k14 x1 y9 y10 hw hP hS _ (lv_sub hl [2, 3, 1, 0] rfl)
theorem m_X6_kinds_b14 {p : Program} {l : Launch} {e : Env} {s : State} {m : MethodId} {args : Array Value} {below : List Frame} {meth : Method} {c : Code} {E : z_E} (C : z_Cx p E s m args meth c cX6_kinds 4 wsX6_kinds RX6 (some .int)) (hM : z_mod E) (X : z_X) (h : z_G) (K : Int32 → Prop) (x1 : Int32) (x2 : Int32) (x3 : Int32) (hw : v_X6_kinds_b14 h K x1 x2 x3) {H : Heap} {locs : List Loc} (hP : z_P E (z_up X 19 h) H) (hS : va_S (z_A E) s.heap H locs) {ls : Array Slot} (hl : lv_has ls 4 [(0, .ref (z_a E 19 0)), (1, .int x1), (2, .int x2), (3, .int x3)]) : W p l e rX6_kinds s m args below meth c H locs 0 0 (MQ below (va_Qi (fun r X' => X' = (z_up X 19 h) ∧ K r) (fun u t => z_P E u t.heap) (z_A E)) args s 0 0 (z_A E)) (F0 m 14 ls []) := by
  obtain ⟨n, hw⟩ := hw
  revert hw hP hS hl
  revert x1 x2 x3 H locs ls
  induction n with
  | zero => intro x1 x2 x3 H locs ls hP hS hl hw; exact hw.elim
  | succ n ih =>
    intro x1 x2 x3 H locs ls hP hS hl hw
    exact m_X6_kinds_b14_s C hM X h K (fun x1 x2 x3 => z_fp (σ := Int32 × Int32 × Int32) (fun Lp q => v_X6_kinds_b14_s h K (fun x1 x2 x3 => Lp (x1, x2, x3)) q.1 q.2.1 q.2.2) n (x1, x2, x3)) (fun x1 x2 x3 h9 H locs hP hS ls hl => ih x1 x2 x3 hP hS hl h9) x1 x2 x3 hw hP hS hl
set_option maxHeartbeats 4000000 in
set_option maxRecDepth 100000 in
theorem m_X6_kinds (l : Launch) {E : z_E} (hE : z_ok E) (hM : z_mod E) (X : z_X) (h : z_G) (x1 : Int32) (K : Int32 → Prop) (hw : v_X6_kinds h x1 K) : z_CI l E yX6_kinds wsX6_kinds rX6_kinds [.ref (z_a E 19 0), .int x1] (z_up X 19 h) (fun r X' => X' = (z_up X 19 h) ∧ K r) := by
  refine z_start (cc := cX6_kinds) (maxL := 4) (ret := (some .int)) hE (by decide) rfl (Nat.le_of_ble_eq_true rfl) ?_
  intro p e s m below meth c C hP hS ls hl
  have C : z_Cx p E s m _ meth c cX6_kinds 4 wsX6_kinds RX6 (some .int) := C
  obtain ⟨hx, hb, hml, hr, hlocks, hown, hts, hK, hE⟩ := id C
  have hl : lv_has ls 4 [(0, .ref (z_a E 19 0)), (1, .int x1)] := hl
  have hfX6 : ∀ w ∈ u_ws RX6 TX6 15, w ∈ wsX6_kinds := by decide +kernel
  unfold v_X6_kinds at hw
  refine lv_aload_n hx hb dX6_kinds_0 rfl (lv_at hl 0 rfl) ?_
  refine lv_iload_n hx hb dX6_kinds_1 rfl (lv_at hl 1 rfl) ?_
  refine z_vi (C := RX6) (T := TX6) (N := 15) (o := 19) (rest := []) ⟨hx, hb, hml, hown, hts⟩ (m_X6_isGlove l hE hM X h x1 _ hw) (cwV 1 hts gX6_kinds_X6_isGlove rfl rfl rfl (by decide +kernel) ⟨Nat.le_of_ble_eq_true rfl, Nat.le_of_ble_eq_true rfl⟩) hK hP hS (hM (19, 0) (List.mem_of_getElem? (i := 0) rfl)) z_l_19_0 rfl rfl hl.1 rfl (Nat.le_of_ble_eq_true rfl) dX6_kinds_2 ⟨Nat.zero_le _, Nat.zero_le _⟩ (fun r1 u H locs hk hP hS => ?_)
  obtain ⟨eu, hw⟩ := hk
  rw [eu] at hP
  refine lv_if_ne (tgt := 10) hx hb dX6_kinds_5 (by decide) (fun c2 => ?_) (fun c2 => ?_)
  · replace hw := hw.1 c2
    refine lv_iconst (v := (0 : Int32)) hx hb dX6_kinds_10 (by decide) ?_
    refine lv_istore_n (lv' := [(2, .int (0 : Int32)), (0, .ref (z_a E 19 0)), (1, .int x1)]) hx hb dX6_kinds_11 rfl hl (by decide) rfl (fun ls hl => ?_)
    refine lv_iconst (v := (0 : Int32)) hx hb dX6_kinds_12 (by decide) ?_
    refine lv_istore_n (lv' := [(3, .int (0 : Int32)), (2, .int (0 : Int32)), (0, .ref (z_a E 19 0)), (1, .int x1)]) hx hb dX6_kinds_13 rfl hl (by decide) rfl (fun ls hl => ?_)
    exact m_X6_kinds_b14 C hM X h K x1 (0 : Int32) (0 : Int32) hw hP hS (lv_sub hl [2, 3, 1, 0] rfl)
  · replace hw := hw.2 c2
    refine lv_iconst (v := (-1 : Int32)) hx hb dX6_kinds_8 (by decide) ?_
    exact z_reti C hP hS ⟨rfl, hw⟩ dX6_kinds_9
set_option maxHeartbeats 4000000 in
set_option maxRecDepth 100000 in
theorem m_X6_last_b14_s {p : Program} {l : Launch} {e : Env} {s : State} {m : MethodId} {args : Array Value} {below : List Frame} {meth : Method} {c : Code} {E : z_E} (C : z_Cx p E s m args meth c cX6_last 3 wsX6_last RX6 (some .int)) (hM : z_mod E) (X : z_X) (K : Int32 → z_G → Prop) (L14 : z_G → Int32 → Int32 → Prop) (k14 : ∀ (h : z_G) (x1 : Int32) (x2 : Int32), L14 h x1 x2 → ∀ {H : Heap} {locs : List Loc}, z_P E (z_up X 19 h) H → va_S (z_A E) s.heap H locs → ∀ (ls : Array Slot), lv_has ls 3 [(0, .ref (z_a E 19 0)), (1, .int x1), (2, .int x2)] → W p l e rX6_last s m args below meth c H locs 0 0 (MQ below (va_Qi (fun r X' => ∃ h', X' = z_up X 19 h' ∧ K r h') (fun u t => z_P E u t.heap) (z_A E)) args s 0 0 (z_A E)) (F0 m 14 ls [])) (h : z_G) (x1 : Int32) (x2 : Int32) (hw : v_X6_last_b14_s K L14 h x1 x2) {H : Heap} {locs : List Loc} (hP : z_P E (z_up X 19 h) H) (hS : va_S (z_A E) s.heap H locs) {ls : Array Slot} (hl : lv_has ls 3 [(0, .ref (z_a E 19 0)), (1, .int x1), (2, .int x2)]) : W p l e rX6_last s m args below meth c H locs 0 0 (MQ below (va_Qi (fun r X' => ∃ h', X' = z_up X 19 h' ∧ K r h') (fun u t => z_P E u t.heap) (z_A E)) args s 0 0 (z_A E)) (F0 m 14 ls []) := by
  obtain ⟨hx, hb, hml, hr, hlocks, hown, hts, hK, hE⟩ := id C
  have hfX6 : ∀ w ∈ u_ws RX6 TX6 15, w ∈ wsX6_last := by decide +kernel
  unfold v_X6_last_b14_s at hw
  refine lv_iload_n hx hb dX6_last_14 rfl (lv_at hl 2 rfl) ?_
  refine lv_aload_n hx hb dX6_last_15 rfl (lv_at hl 0 rfl) ?_
  refine z_getr (C := RX6) (T := TX6) (N := 15) (ref := "GauntletHallModel") (o := 19) (d := 0) hx hb hts hfX6 hown hK hP (hM (19, 0) (List.mem_of_getElem? (i := 0) rfl)) z_l_19_0 rfl 2 (by decide) (hts (.fieldLink RX6 13 "GauntletHallModel" "told" "[I") (by decide +kernel)) rfl rfl dX6_last_16 ?_
  refine lv_iconst (v := (0 : Int32)) hx hb dX6_last_19 (by decide) ?_
  obtain ⟨i3, hw⟩ := hw
  refine z_iald (o := 19) (d := 2) hx hb hK hP (hM (19, 2) (List.mem_of_getElem? (i := 2) rfl)) z_l_19_2 i3 (z_up_val X 19 h 2 (z_n (0 : Int32))) dX6_last_20 ?_
  refine lv_icmp_ge (tgt := 51) hx hb dX6_last_21 (by decide) (fun c4 => ?_) (fun c4 => ?_)
  · replace hw := hw.1 c4
    refine lv_iload_n hx hb dX6_last_51 rfl (lv_at hl 1 rfl) ?_
    exact z_reti C hP hS ⟨_, rfl, hw⟩ dX6_last_52
  · replace hw := hw.2 c4
    refine lv_iload_n hx hb dX6_last_24 rfl (lv_at hl 1 rfl) ?_
    refine lv_aload_n hx hb dX6_last_25 rfl (lv_at hl 0 rfl) ?_
    refine z_getr (C := RX6) (T := TX6) (N := 15) (ref := "GauntletHallModel") (o := 19) (d := 0) hx hb hts hfX6 hown hK hP (hM (19, 0) (List.mem_of_getElem? (i := 0) rfl)) z_l_19_0 rfl 6 (by decide) (hts (.fieldLink RX6 25 "GauntletHallModel" "side" "[I") (by decide +kernel)) rfl rfl dX6_last_26 ?_
    refine lv_iconst (v := (4 : Int32)) hx hb dX6_last_29 (by decide) ?_
    refine lv_iload_n hx hb dX6_last_30 rfl (lv_at hl 2 rfl) ?_
    refine lv_iadd hx hb dX6_last_31 ?_
    obtain ⟨i5, hw⟩ := hw
    refine z_iald (o := 19) (d := 6) hx hb hK hP (hM (19, 6) (List.mem_of_getElem? (i := 6) rfl)) z_l_19_6 i5 (z_up_val X 19 h 6 (z_n ((4 : Int32) + x2))) dX6_last_32 ?_
    refine lv_if_le (tgt := 42) hx hb dX6_last_33 (by decide) (fun c6 => ?_) (fun c6 => ?_)
    · replace hw := hw.1 c6
      refine lv_iconst (v := (0 : Int32)) hx hb dX6_last_42 (by decide) ?_
      refine lv_ior hx hb dX6_last_43 ?_
      refine lv_topi (fun y7 ey7 => ?_)
      replace hw := hw y7 ey7
      refine lv_istore_n (lv' := [(1, .int y7), (0, .ref (z_a E 19 0)), (2, .int x2)]) hx hb dX6_last_44 rfl hl (by decide) rfl (fun ls hl => ?_)
      obtain ⟨y8, ey8⟩ : ∃ z : Int32, z = x2 + (1 : Int32) := ⟨_, rfl⟩
      replace hw := hw y8 ey8
      refine lv_iinc (v := y8) (lv' := [(2, .int y8), (1, .int y7), (0, .ref (z_a E 19 0))]) hx hb dX6_last_45 hl (k := 2) rfl (by rw [ey8]; rfl) (by decide) rfl (fun ls hl => ?_)
      refine lv_goto (tgt := 14) hx hb dX6_last_48 (by decide) ?_
      exact k14 h y7 y8 hw hP hS _ (lv_sub hl [2, 1, 0] rfl)
    · replace hw := hw.2 c6
      refine lv_iconst (v := (1 : Int32)) hx hb dX6_last_36 (by decide) ?_
      refine lv_iload_n hx hb dX6_last_37 rfl (lv_at hl 2 rfl) ?_
      refine lv_ishl hx hb dX6_last_38 ?_
      refine lv_goto (tgt := 43) hx hb dX6_last_39 (by decide) ?_
      refine lv_ior hx hb dX6_last_43 ?_
      refine lv_topi (fun y9 ey9 => ?_)
      replace hw := hw y9 ey9
      refine lv_istore_n (lv' := [(1, .int y9), (0, .ref (z_a E 19 0)), (2, .int x2)]) hx hb dX6_last_44 rfl hl (by decide) rfl (fun ls hl => ?_)
      obtain ⟨y10, ey10⟩ : ∃ z : Int32, z = x2 + (1 : Int32) := ⟨_, rfl⟩
      replace hw := hw y10 ey10
      refine lv_iinc (v := y10) (lv' := [(2, .int y10), (1, .int y9), (0, .ref (z_a E 19 0))]) hx hb dX6_last_45 hl (k := 2) rfl (by rw [ey10]; rfl) (by decide) rfl (fun ls hl => ?_)
      refine lv_goto (tgt := 14) hx hb dX6_last_48 (by decide) ?_
      exact k14 h y9 y10 hw hP hS _ (lv_sub hl [2, 1, 0] rfl)
theorem m_X6_last_b14 {p : Program} {l : Launch} {e : Env} {s : State} {m : MethodId} {args : Array Value} {below : List Frame} {meth : Method} {c : Code} {E : z_E} (C : z_Cx p E s m args meth c cX6_last 3 wsX6_last RX6 (some .int)) (hM : z_mod E) (X : z_X) (K : Int32 → z_G → Prop) (h : z_G) (x1 : Int32) (x2 : Int32) (hw : v_X6_last_b14 K h x1 x2) {H : Heap} {locs : List Loc} (hP : z_P E (z_up X 19 h) H) (hS : va_S (z_A E) s.heap H locs) {ls : Array Slot} (hl : lv_has ls 3 [(0, .ref (z_a E 19 0)), (1, .int x1), (2, .int x2)]) : W p l e rX6_last s m args below meth c H locs 0 0 (MQ below (va_Qi (fun r X' => ∃ h', X' = z_up X 19 h' ∧ K r h') (fun u t => z_P E u t.heap) (z_A E)) args s 0 0 (z_A E)) (F0 m 14 ls []) := by
  obtain ⟨n, hw⟩ := hw
  revert hw hP hS hl
  revert h x1 x2 H locs ls
  induction n with
  | zero => intro h x1 x2 H locs ls hP hS hl hw; exact hw.elim
  | succ n ih =>
    intro h x1 x2 H locs ls hP hS hl hw
    exact m_X6_last_b14_s C hM X K (fun h x1 x2 => z_fp (σ := z_G × Int32 × Int32) (fun Lp q => v_X6_last_b14_s K (fun h x1 x2 => Lp (h, x1, x2)) q.1 q.2.1 q.2.2) n (h, x1, x2)) (fun h x1 x2 h9 H locs hP hS ls hl => ih h x1 x2 hP hS hl h9) h x1 x2 hw hP hS hl
set_option maxHeartbeats 4000000 in
set_option maxRecDepth 100000 in
theorem m_X6_last (l : Launch) {E : z_E} (hE : z_ok E) (hM : z_mod E) (X : z_X) (h : z_G) (K : Int32 → z_G → Prop) (hw : v_X6_last h K) : z_CI l E yX6_last wsX6_last rX6_last [.ref (z_a E 19 0)] (z_up X 19 h) (fun r X' => ∃ h', X' = z_up X 19 h' ∧ K r h') := by
  refine z_start (cc := cX6_last) (maxL := 3) (ret := (some .int)) hE (by decide) rfl (Nat.le_of_ble_eq_true rfl) ?_
  intro p e s m below meth c C hP hS ls hl
  have C : z_Cx p E s m _ meth c cX6_last 3 wsX6_last RX6 (some .int) := C
  obtain ⟨hx, hb, hml, hr, hlocks, hown, hts, hK, hE⟩ := id C
  have hl : lv_has ls 3 [(0, .ref (z_a E 19 0))] := hl
  have hfX6 : ∀ w ∈ u_ws RX6 TX6 15, w ∈ wsX6_last := by decide +kernel
  unfold v_X6_last at hw
  refine lv_aload_n hx hb dX6_last_0 rfl (lv_at hl 0 rfl) ?_
  refine z_vv (C := RX6) (T := TX6) (N := 15) (o := 19) (rest := []) ⟨hx, hb, hml, hown, hts⟩ (m_X6_aside l hE hM X h _ hw) (cwV 0 hts gX6_last_X6_aside rfl rfl rfl (by decide +kernel) ⟨Nat.le_of_ble_eq_true rfl, Nat.le_of_ble_eq_true rfl⟩) hK hP hS (hM (19, 0) (List.mem_of_getElem? (i := 0) rfl)) z_l_19_0 rfl rfl hl.1 rfl (Nat.le_of_ble_eq_true rfl) dX6_last_1 ⟨Nat.zero_le _, Nat.zero_le _⟩ (fun u H locs hk hP hS => ?_)
  obtain ⟨h1, eu, hw⟩ := hk
  rw [eu] at hP
  refine lv_aload_n hx hb dX6_last_4 rfl (lv_at hl 0 rfl) ?_
  refine lv_bipush (v := (30 : Int32)) hx hb dX6_last_5 (by decide) ?_
  refine z_vv (C := RX6) (T := TX6) (N := 15) (o := 19) (rest := []) ⟨hx, hb, hml, hown, hts⟩ (m_X6_goReigns l hE hM X h1 (30 : Int32) _ hw) (cwV 1 hts gX6_last_X6_goReigns rfl rfl rfl (by decide +kernel) ⟨Nat.le_of_ble_eq_true rfl, Nat.le_of_ble_eq_true rfl⟩) hK hP hS (hM (19, 0) (List.mem_of_getElem? (i := 0) rfl)) z_l_19_0 rfl rfl hl.1 rfl (Nat.le_of_ble_eq_true rfl) dX6_last_7 ⟨Nat.zero_le _, Nat.zero_le _⟩ (fun u H locs hk hP hS => ?_)
  obtain ⟨h2, eu, hw⟩ := hk
  rw [eu] at hP
  refine lv_iconst (v := (0 : Int32)) hx hb dX6_last_10 (by decide) ?_
  refine lv_istore_n (lv' := [(1, .int (0 : Int32)), (0, .ref (z_a E 19 0))]) hx hb dX6_last_11 rfl hl (by decide) rfl (fun ls hl => ?_)
  refine lv_iconst (v := (0 : Int32)) hx hb dX6_last_12 (by decide) ?_
  refine lv_istore_n (lv' := [(2, .int (0 : Int32)), (1, .int (0 : Int32)), (0, .ref (z_a E 19 0))]) hx hb dX6_last_13 rfl hl (by decide) rfl (fun ls hl => ?_)
  exact m_X6_last_b14 C hM X K h2 (0 : Int32) (0 : Int32) hw hP hS (lv_sub hl [2, 1, 0] rfl)
set_option maxHeartbeats 4000000 in
set_option maxRecDepth 100000 in
theorem m_X6_lay (l : Launch) {E : z_E} (hE : z_ok E) (hM : z_mod E) (X : z_X) (h : z_G) (K : Int32 → z_G → Prop) (hw : v_X6_lay h K) : z_CI l E yX6_lay wsX6_lay rX6_lay [.ref (z_a E 19 0)] (z_up X 19 h) (fun r X' => ∃ h', X' = z_up X 19 h' ∧ K r h') := by
  refine z_start (cc := cX6_lay) (maxL := 1) (ret := (some .int)) hE (by decide) rfl (Nat.le_of_ble_eq_true rfl) ?_
  intro p e s m below meth c C hP hS ls hl
  have C : z_Cx p E s m _ meth c cX6_lay 1 wsX6_lay RX6 (some .int) := C
  obtain ⟨hx, hb, hml, hr, hlocks, hown, hts, hK, hE⟩ := id C
  have hl : lv_has ls 1 [(0, .ref (z_a E 19 0))] := hl
  have hfX6 : ∀ w ∈ u_ws RX6 TX6 15, w ∈ wsX6_lay := by decide +kernel
  unfold v_X6_lay at hw
  refine lv_aload_n hx hb dX6_lay_0 rfl (lv_at hl 0 rfl) ?_
  refine z_vi (C := RX6) (T := TX6) (N := 15) (o := 19) (rest := []) ⟨hx, hb, hml, hown, hts⟩ (m_X6_readAll l hE hM X h _ hw) (cwV 0 hts gX6_lay_X6_readAll rfl rfl rfl (by decide +kernel) ⟨Nat.le_of_ble_eq_true rfl, Nat.le_of_ble_eq_true rfl⟩) hK hP hS (hM (19, 0) (List.mem_of_getElem? (i := 0) rfl)) z_l_19_0 rfl rfl hl.1 rfl (Nat.le_of_ble_eq_true rfl) dX6_lay_1 ⟨Nat.zero_le _, Nat.zero_le _⟩ (fun r1 u H locs hk hP hS => ?_)
  obtain ⟨h2, eu, hw⟩ := hk
  rw [eu] at hP
  refine lv_bipush (v := (-4 : Int32)) hx hb dX6_lay_4 (by decide) ?_
  refine lv_icmp_ne (tgt := 19) hx hb dX6_lay_6 (by decide) (fun c3 => ?_) (fun c3 => ?_)
  · replace hw := hw.1 c3
    refine lv_bipush (v := (-2 : Int32)) hx hb dX6_lay_19 (by decide) ?_
    exact z_reti C hP hS ⟨_, rfl, hw⟩ dX6_lay_21
  · replace hw := hw.2 c3
    refine lv_aload_n hx hb dX6_lay_9 rfl (lv_at hl 0 rfl) ?_
    refine z_getr (C := RX6) (T := TX6) (N := 15) (ref := "GauntletHallModel") (o := 19) (d := 0) hx hb hts hfX6 hown hK hP (hM (19, 0) (List.mem_of_getElem? (i := 0) rfl)) z_l_19_0 rfl 3 (by decide) (hts (.fieldLink RX6 16 "GauntletHallModel" "read" "[I") (by decide +kernel)) rfl rfl dX6_lay_10 ?_
    refine lv_iconst (v := (0 : Int32)) hx hb dX6_lay_13 (by decide) ?_
    obtain ⟨i4, hw⟩ := hw
    refine z_iald (o := 19) (d := 3) hx hb hK hP (hM (19, 3) (List.mem_of_getElem? (i := 3) rfl)) z_l_19_3 i4 (z_up_val X 19 h2 3 (z_n (0 : Int32))) dX6_lay_14 ?_
    refine lv_iconst (v := (2 : Int32)) hx hb dX6_lay_15 (by decide) ?_
    refine lv_icmp_ge (tgt := 22) hx hb dX6_lay_16 (by decide) (fun c5 => ?_) (fun c5 => ?_)
    · replace hw := hw.1 c5
      refine lv_aload_n hx hb dX6_lay_22 rfl (lv_at hl 0 rfl) ?_
      refine z_vv (C := RX6) (T := TX6) (N := 15) (o := 19) (rest := []) ⟨hx, hb, hml, hown, hts⟩ (m_X6_begin l hE hM X h2 _ hw) (cwV 0 hts gX6_lay_X6_begin rfl rfl rfl (by decide +kernel) ⟨Nat.le_of_ble_eq_true rfl, Nat.le_of_ble_eq_true rfl⟩) hK hP hS (hM (19, 0) (List.mem_of_getElem? (i := 0) rfl)) z_l_19_0 rfl rfl hl.1 rfl (Nat.le_of_ble_eq_true rfl) dX6_lay_23 ⟨Nat.zero_le _, Nat.zero_le _⟩ (fun u H locs hk hP hS => ?_)
      obtain ⟨h6, eu, hw⟩ := hk
      rw [eu] at hP
      refine lv_aload_n hx hb dX6_lay_26 rfl (lv_at hl 0 rfl) ?_
      refine z_getr (C := RX6) (T := TX6) (N := 15) (ref := "GauntletHallModel") (o := 19) (d := 0) hx hb hts hfX6 hown hK hP (hM (19, 0) (List.mem_of_getElem? (i := 0) rfl)) z_l_19_0 rfl 2 (by decide) (hts (.fieldLink RX6 13 "GauntletHallModel" "told" "[I") (by decide +kernel)) rfl rfl dX6_lay_27 ?_
      refine lv_iconst (v := (0 : Int32)) hx hb dX6_lay_30 (by decide) ?_
      obtain ⟨i7, hw⟩ := hw
      refine z_iald (o := 19) (d := 2) hx hb hK hP (hM (19, 2) (List.mem_of_getElem? (i := 2) rfl)) z_l_19_2 i7 (z_up_val X 19 h6 2 (z_n (0 : Int32))) dX6_lay_31 ?_
      exact z_reti C hP hS ⟨_, rfl, hw⟩ dX6_lay_32
    · replace hw := hw.2 c5
      refine lv_bipush (v := (-2 : Int32)) hx hb dX6_lay_19 (by decide) ?_
      exact z_reti C hP hS ⟨_, rfl, hw⟩ dX6_lay_21
set_option maxHeartbeats 4000000 in
set_option maxRecDepth 100000 in
theorem m_X6_lies_b16_s {p : Program} {l : Launch} {e : Env} {s : State} {m : MethodId} {args : Array Value} {below : List Frame} {meth : Method} {c : Code} {E : z_E} (C : z_Cx p E s m args meth c cX6_lies 3 wsX6_lies RX6 (some .int)) (hM : z_mod E) (X : z_X) (K : Int32 → z_G → Prop) (L16 : z_G → Int32 → Int32 → Prop) (k16 : ∀ (h : z_G) (x1 : Int32) (x2 : Int32), L16 h x1 x2 → ∀ {H : Heap} {locs : List Loc}, z_P E (z_up X 19 h) H → va_S (z_A E) s.heap H locs → ∀ (ls : Array Slot), lv_has ls 3 [(0, .ref (z_a E 19 0)), (1, .int x1), (2, .int x2)] → W p l e rX6_lies s m args below meth c H locs 0 0 (MQ below (va_Qi (fun r X' => ∃ h', X' = z_up X 19 h' ∧ K r h') (fun u t => z_P E u t.heap) (z_A E)) args s 0 0 (z_A E)) (F0 m 16 ls [])) (h : z_G) (x1 : Int32) (x2 : Int32) (hw : v_X6_lies_b16_s K L16 h x1 x2) {H : Heap} {locs : List Loc} (hP : z_P E (z_up X 19 h) H) (hS : va_S (z_A E) s.heap H locs) {ls : Array Slot} (hl : lv_has ls 3 [(0, .ref (z_a E 19 0)), (1, .int x1), (2, .int x2)]) : W p l e rX6_lies s m args below meth c H locs 0 0 (MQ below (va_Qi (fun r X' => ∃ h', X' = z_up X 19 h' ∧ K r h') (fun u t => z_P E u t.heap) (z_A E)) args s 0 0 (z_A E)) (F0 m 16 ls []) := by
  obtain ⟨hx, hb, hml, hr, hlocks, hown, hts, hK, hE⟩ := id C
  have hfX6 : ∀ w ∈ u_ws RX6 TX6 15, w ∈ wsX6_lies := by decide +kernel
  unfold v_X6_lies_b16_s at hw
  refine lv_iload_n hx hb dX6_lies_16 rfl (lv_at hl 2 rfl) ?_
  refine lv_bipush (v := (31 : Int32)) hx hb dX6_lies_17 (by decide) ?_
  refine lv_icmp_ge (tgt := 47) hx hb dX6_lies_19 (by decide) (fun c4 => ?_) (fun c4 => ?_)
  · replace hw := hw.1 c4
    refine lv_bipush (v := (-4 : Int32)) hx hb dX6_lies_47 (by decide) ?_
    exact z_reti C hP hS ⟨_, rfl, hw⟩ dX6_lies_49
  · replace hw := hw.2 c4
    refine lv_aload_n hx hb dX6_lies_22 rfl (lv_at hl 0 rfl) ?_
    refine z_getr (C := RX6) (T := TX6) (N := 15) (ref := "GauntletHallModel") (o := 19) (d := 0) hx hb hts hfX6 hown hK hP (hM (19, 0) (List.mem_of_getElem? (i := 0) rfl)) z_l_19_0 rfl 6 (by decide) (hts (.fieldLink RX6 25 "GauntletHallModel" "side" "[I") (by decide +kernel)) rfl rfl dX6_lies_23 ?_
    refine lv_iconst (v := (3 : Int32)) hx hb dX6_lies_26 (by decide) ?_
    obtain ⟨i5, hw⟩ := hw
    refine z_iald (o := 19) (d := 6) hx hb hK hP (hM (19, 6) (List.mem_of_getElem? (i := 6) rfl)) z_l_19_6 i5 (z_up_val X 19 h 6 (z_n (3 : Int32))) dX6_lies_27 ?_
    refine lv_iload_n hx hb dX6_lies_28 rfl (lv_at hl 1 rfl) ?_
    refine z_si (rest := []) ⟨hx, hb, hml, hown, hts⟩ (m_X6_has l hE (z_up X 19 h) (h 6 (z_n (3 : Int32))) x1 _ hw) (va_cwS 2 hts gX6_lies_X6_has rfl rfl rfl (by decide +kernel) ⟨Nat.le_of_ble_eq_true rfl, Nat.le_of_ble_eq_true rfl⟩) hK hP hS rfl hl.1 rfl (Nat.le_of_ble_eq_true rfl) dX6_lies_29 ⟨Nat.zero_le _, Nat.zero_le _⟩ (fun r6 u H locs hk hP hS => ?_)
    obtain ⟨eu, hw⟩ := hk
    rw [eu] at hP
    refine lv_if_ne (tgt := 37) hx hb dX6_lies_32 (by decide) (fun c7 => ?_) (fun c7 => ?_)
    · replace hw := hw.1 c7
      refine lv_aload_n hx hb dX6_lies_37 rfl (lv_at hl 0 rfl) ?_
      refine z_vv (C := RX6) (T := TX6) (N := 15) (o := 19) (rest := []) ⟨hx, hb, hml, hown, hts⟩ (m_X6_goReign l hE hM X h _ hw) (cwV 0 hts gX6_lies_X6_goReign rfl rfl rfl (by decide +kernel) ⟨Nat.le_of_ble_eq_true rfl, Nat.le_of_ble_eq_true rfl⟩) hK hP hS (hM (19, 0) (List.mem_of_getElem? (i := 0) rfl)) z_l_19_0 rfl rfl hl.1 rfl (Nat.le_of_ble_eq_true rfl) dX6_lies_38 ⟨Nat.zero_le _, Nat.zero_le _⟩ (fun u H locs hk hP hS => ?_)
      obtain ⟨h8, eu, hw⟩ := hk
      rw [eu] at hP
      obtain ⟨y9, ey9⟩ : ∃ z : Int32, z = x2 + (1 : Int32) := ⟨_, rfl⟩
      replace hw := hw y9 ey9
      refine lv_iinc (v := y9) (lv' := [(2, .int y9), (0, .ref (z_a E 19 0)), (1, .int x1)]) hx hb dX6_lies_41 hl (k := 2) rfl (by rw [ey9]; rfl) (by decide) rfl (fun ls hl => ?_)
      refine lv_goto (tgt := 16) hx hb dX6_lies_44 (by decide) ?_
      exact k16 h8 x1 y9 hw hP hS _ (lv_sub hl [1, 2, 0] rfl)
    · replace hw := hw.2 c7
      refine lv_iload_n hx hb dX6_lies_35 rfl (lv_at hl 2 rfl) ?_
      exact z_reti C hP hS ⟨_, rfl, hw⟩ dX6_lies_36
theorem m_X6_lies_b16 {p : Program} {l : Launch} {e : Env} {s : State} {m : MethodId} {args : Array Value} {below : List Frame} {meth : Method} {c : Code} {E : z_E} (C : z_Cx p E s m args meth c cX6_lies 3 wsX6_lies RX6 (some .int)) (hM : z_mod E) (X : z_X) (K : Int32 → z_G → Prop) (h : z_G) (x1 : Int32) (x2 : Int32) (hw : v_X6_lies_b16 K h x1 x2) {H : Heap} {locs : List Loc} (hP : z_P E (z_up X 19 h) H) (hS : va_S (z_A E) s.heap H locs) {ls : Array Slot} (hl : lv_has ls 3 [(0, .ref (z_a E 19 0)), (1, .int x1), (2, .int x2)]) : W p l e rX6_lies s m args below meth c H locs 0 0 (MQ below (va_Qi (fun r X' => ∃ h', X' = z_up X 19 h' ∧ K r h') (fun u t => z_P E u t.heap) (z_A E)) args s 0 0 (z_A E)) (F0 m 16 ls []) := by
  obtain ⟨n, hw⟩ := hw
  revert hw hP hS hl
  revert h x1 x2 H locs ls
  induction n with
  | zero => intro h x1 x2 H locs ls hP hS hl hw; exact hw.elim
  | succ n ih =>
    intro h x1 x2 H locs ls hP hS hl hw
    exact m_X6_lies_b16_s C hM X K (fun h x1 x2 => z_fp (σ := z_G × Int32 × Int32) (fun Lp q => v_X6_lies_b16_s K (fun h x1 x2 => Lp (h, x1, x2)) q.1 q.2.1 q.2.2) n (h, x1, x2)) (fun h x1 x2 h9 H locs hP hS ls hl => ih h x1 x2 hP hS hl h9) h x1 x2 hw hP hS hl
set_option maxHeartbeats 4000000 in
set_option maxRecDepth 100000 in
theorem m_X6_lies (l : Launch) {E : z_E} (hE : z_ok E) (hM : z_mod E) (X : z_X) (h : z_G) (x1 : Int32) (K : Int32 → z_G → Prop) (hw : v_X6_lies h x1 K) : z_CI l E yX6_lies wsX6_lies rX6_lies [.ref (z_a E 19 0), .int x1] (z_up X 19 h) (fun r X' => ∃ h', X' = z_up X 19 h' ∧ K r h') := by
  refine z_start (cc := cX6_lies) (maxL := 3) (ret := (some .int)) hE (by decide) rfl (Nat.le_of_ble_eq_true rfl) ?_
  intro p e s m below meth c C hP hS ls hl
  have C : z_Cx p E s m _ meth c cX6_lies 3 wsX6_lies RX6 (some .int) := C
  obtain ⟨hx, hb, hml, hr, hlocks, hown, hts, hK, hE⟩ := id C
  have hl : lv_has ls 3 [(0, .ref (z_a E 19 0)), (1, .int x1)] := hl
  have hfX6 : ∀ w ∈ u_ws RX6 TX6 15, w ∈ wsX6_lies := by decide +kernel
  unfold v_X6_lies at hw
  refine lv_aload_n hx hb dX6_lies_0 rfl (lv_at hl 0 rfl) ?_
  refine lv_iload_n hx hb dX6_lies_1 rfl (lv_at hl 1 rfl) ?_
  refine z_vi (C := RX6) (T := TX6) (N := 15) (o := 19) (rest := []) ⟨hx, hb, hml, hown, hts⟩ (m_X6_isGlove l hE hM X h x1 _ hw) (cwV 1 hts gX6_lies_X6_isGlove rfl rfl rfl (by decide +kernel) ⟨Nat.le_of_ble_eq_true rfl, Nat.le_of_ble_eq_true rfl⟩) hK hP hS (hM (19, 0) (List.mem_of_getElem? (i := 0) rfl)) z_l_19_0 rfl rfl hl.1 rfl (Nat.le_of_ble_eq_true rfl) dX6_lies_2 ⟨Nat.zero_le _, Nat.zero_le _⟩ (fun r1 u H locs hk hP hS => ?_)
  obtain ⟨eu, hw⟩ := hk
  rw [eu] at hP
  refine lv_if_ne (tgt := 10) hx hb dX6_lies_5 (by decide) (fun c2 => ?_) (fun c2 => ?_)
  · replace hw := hw.1 c2
    refine lv_aload_n hx hb dX6_lies_10 rfl (lv_at hl 0 rfl) ?_
    refine z_vv (C := RX6) (T := TX6) (N := 15) (o := 19) (rest := []) ⟨hx, hb, hml, hown, hts⟩ (m_X6_aside l hE hM X h _ hw) (cwV 0 hts gX6_lies_X6_aside rfl rfl rfl (by decide +kernel) ⟨Nat.le_of_ble_eq_true rfl, Nat.le_of_ble_eq_true rfl⟩) hK hP hS (hM (19, 0) (List.mem_of_getElem? (i := 0) rfl)) z_l_19_0 rfl rfl hl.1 rfl (Nat.le_of_ble_eq_true rfl) dX6_lies_11 ⟨Nat.zero_le _, Nat.zero_le _⟩ (fun u H locs hk hP hS => ?_)
    obtain ⟨h3, eu, hw⟩ := hk
    rw [eu] at hP
    refine lv_iconst (v := (0 : Int32)) hx hb dX6_lies_14 (by decide) ?_
    refine lv_istore_n (lv' := [(2, .int (0 : Int32)), (0, .ref (z_a E 19 0)), (1, .int x1)]) hx hb dX6_lies_15 rfl hl (by decide) rfl (fun ls hl => ?_)
    exact m_X6_lies_b16 C hM X K h3 x1 (0 : Int32) hw hP hS (lv_sub hl [1, 2, 0] rfl)
  · replace hw := hw.2 c2
    refine lv_iconst (v := (-1 : Int32)) hx hb dX6_lies_8 (by decide) ?_
    exact z_reti C hP hS ⟨_, rfl, hw⟩ dX6_lies_9
