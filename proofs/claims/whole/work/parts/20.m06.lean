/-! ===== PRINTED (wip/whole/gen/gen.py): the machine meets each definition: X5.behind, X5.commonDivisor, X5.count, X5.dare, X5.fault, X5.fight, X5.first, X5.fits, X5.forget ===== -/
set_option maxHeartbeats 4000000 in
set_option maxRecDepth 100000 in
theorem m_X5_behind (l : Launch) {E : z_E} (hE : z_ok E) (hC : z_cls E) (Y : z_X) (x1 : Int32) (x2 : Int32) (K : Int32 → z_X → Prop) (hw : v_X5_behind Y x1 x2 K) : z_CI l E yX5_behind wsX5_behind rX5_behind [.ref (z_a E 18 0), .int x1, .int x2] Y K := by
  refine z_start (cc := cX5_behind) (maxL := 3) (ret := (some .int)) hE (by decide) rfl (Nat.le_of_ble_eq_true rfl) ?_
  intro p e s m below meth c C hP hS ls hl
  have C : z_Cx p E s m _ meth c cX5_behind 3 wsX5_behind RX5 (some .int) := C
  obtain ⟨hx, hb, hml, hr, hlocks, hown, hts, hK, hE⟩ := id C
  have hl : lv_has ls 3 [(0, .ref (z_a E 18 0)), (1, .int x1), (2, .int x2)] := hl
  have hfX5 : ∀ w ∈ u_ws RX5 TX5 7, w ∈ wsX5_behind := by decide +kernel
  unfold v_X5_behind at hw
  refine lv_iload_n hx hb dX5_behind_0 rfl (lv_at hl 1 rfl) ?_
  refine lv_iconst (v := (0 : Int32)) hx hb dX5_behind_1 (by decide) ?_
  refine lv_bipush (v := (30 : Int32)) hx hb dX5_behind_2 (by decide) ?_
  refine z_si (rest := []) ⟨hx, hb, hml, hown, hts⟩ (m_X5_within l hE Y x1 (0 : Int32) (30 : Int32) _ hw) (va_cwS 3 hts gX5_behind_X5_within rfl rfl rfl (by decide +kernel) ⟨Nat.le_of_ble_eq_true rfl, Nat.le_of_ble_eq_true rfl⟩) hK hP hS rfl hl.1 rfl (Nat.le_of_ble_eq_true rfl) dX5_behind_4 ⟨Nat.zero_le _, Nat.zero_le _⟩ (fun r1 u H locs hk hP hS => ?_)
  obtain ⟨eu, hw⟩ := hk
  rw [eu] at hP
  refine lv_if_eq (tgt := 21) hx hb dX5_behind_7 (by decide) (fun c2 => ?_) (fun c2 => ?_)
  · replace hw := hw.1 c2
    refine lv_iconst (v := (-1 : Int32)) hx hb dX5_behind_21 (by decide) ?_
    exact z_reti C hP hS hw dX5_behind_22
  · replace hw := hw.2 c2
    refine lv_aload_n hx hb dX5_behind_10 rfl (lv_at hl 0 rfl) ?_
    refine z_getr (C := RX5) (T := TX5) (N := 7) (ref := "GauntletHall") (o := 18) (d := 0) hx hb hts hfX5 hown hK hP (hC.2 (18, 0) (List.mem_of_getElem? (i := 12) rfl)) z_l_18_0 rfl 1 (by decide) (hts (.fieldLink RX5 19 "GauntletHall" "hall" "LGauntletHall$Hall;") (by decide +kernel)) rfl rfl dX5_behind_11 ?_
    refine lv_iload_n hx hb dX5_behind_14 rfl (lv_at hl 2 rfl) ?_
    have hPc := z_P_self 0 hP
    refine z_vi (C := RX1) (T := TX1) (N := 13) (o := 0) (rest := []) ⟨hx, hb, hml, hown, hts⟩ (m_X1_isPerson l hE hC 0 (by decide) Y (Y 0) x2 _ hw) (cwV 1 hts gX5_behind_X1_isPerson rfl rfl rfl (by decide +kernel) ⟨Nat.le_of_ble_eq_true rfl, Nat.le_of_ble_eq_true rfl⟩) hK hPc hS (hC.1 0 (by decide) (0, 0) (List.mem_of_getElem? (i := 0) rfl)) (z_lH_0 (o := 0) (by decide)) rfl rfl hl.1 rfl (Nat.le_of_ble_eq_true rfl) dX5_behind_15 ⟨Nat.zero_le _, Nat.zero_le _⟩ (fun r3 u H locs hk hP hS => ?_)
    obtain ⟨eu, hw⟩ := hk
    rw [eu, z_up_self] at hP
    refine lv_if_ne (tgt := 23) hx hb dX5_behind_18 (by decide) (fun c4 => ?_) (fun c4 => ?_)
    · replace hw := hw.1 c4
      refine lv_aload_n hx hb dX5_behind_23 rfl (lv_at hl 0 rfl) ?_
      refine z_getr (C := RX5) (T := TX5) (N := 7) (ref := "GauntletHall") (o := 18) (d := 0) hx hb hts hfX5 hown hK hP (hC.2 (18, 0) (List.mem_of_getElem? (i := 12) rfl)) z_l_18_0 rfl 6 (by decide) (hts (.fieldLink RX5 48 "GauntletHall" "forecast" "LGauntletHall$Forecast;") (by decide +kernel)) rfl rfl dX5_behind_24 ?_
      refine lv_aload_n hx hb dX5_behind_27 rfl (lv_at hl 0 rfl) ?_
      refine z_getr (C := RX5) (T := TX5) (N := 7) (ref := "GauntletHall") (o := 18) (d := 0) hx hb hts hfX5 hown hK hP (hC.2 (18, 0) (List.mem_of_getElem? (i := 12) rfl)) z_l_18_0 rfl 1 (by decide) (hts (.fieldLink RX5 19 "GauntletHall" "hall" "LGauntletHall$Hall;") (by decide +kernel)) rfl rfl dX5_behind_28 ?_
      refine lv_iload_n hx hb dX5_behind_31 rfl (lv_at hl 1 rfl) ?_
      refine lv_iload_n hx hb dX5_behind_32 rfl (lv_at hl 2 rfl) ?_
      refine z_vi (C := RX0) (T := TX0) (N := 1) (o := 17) (rest := []) ⟨hx, hb, hml, hown, hts⟩ (m_X0_mightBehind l hE hC 0 (by decide) Y x1 x2 _ hw) (cwV 3 hts gX5_behind_X0_mightBehind rfl rfl rfl (by decide +kernel) ⟨Nat.le_of_ble_eq_true rfl, Nat.le_of_ble_eq_true rfl⟩) hK hP hS (hC.2 (17, 0) (List.mem_of_getElem? (i := 11) rfl)) z_l_17_0 rfl rfl hl.1 rfl (Nat.le_of_ble_eq_true rfl) dX5_behind_33 ⟨Nat.zero_le _, Nat.zero_le _⟩ (fun r5 Y6 H locs hk hP hS => ?_)
      replace hw := hk
      exact z_reti C hP hS hw dX5_behind_36
    · replace hw := hw.2 c4
      refine lv_iconst (v := (-1 : Int32)) hx hb dX5_behind_21 (by decide) ?_
      exact z_reti C hP hS hw dX5_behind_22
set_option maxHeartbeats 4000000 in
set_option maxRecDepth 100000 in
theorem m_X5_commonDivisor_b7_s {p : Program} {l : Launch} {e : Env} {s : State} {m : MethodId} {args : Array Value} {below : List Frame} {meth : Method} {c : Code} {E : z_E} (C : z_Cx p E s m args meth c cX5_commonDivisor 6 wsX5_commonDivisor RX5 (some .int)) (X : z_X) (K : Int32 → Prop) (L7 : Int32 → Int32 → Int32 → Prop) (k7 : ∀ (x2 : Int32) (x3 : Int32) (x4 : Int32), L7 x2 x3 x4 → ∀ {H : Heap} {locs : List Loc}, z_P E X H → va_S (z_A E) s.heap H locs → ∀ (ls : Array Slot), lv_has ls 6 [(2, .int x2), (3, .int x3), (4, .int x4)] → W p l e rX5_commonDivisor s m args below meth c H locs 0 0 (MQ below (va_Qi (fun r X' => X' = X ∧ K r) (fun u t => z_P E u t.heap) (z_A E)) args s 0 0 (z_A E)) (F0 m 7 ls [])) (x2 : Int32) (x3 : Int32) (x4 : Int32) (hw : v_X5_commonDivisor_b7_s K L7 x2 x3 x4) {H : Heap} {locs : List Loc} (hP : z_P E X H) (hS : va_S (z_A E) s.heap H locs) {ls : Array Slot} (hl : lv_has ls 6 [(2, .int x2), (3, .int x3), (4, .int x4)]) : W p l e rX5_commonDivisor s m args below meth c H locs 0 0 (MQ below (va_Qi (fun r X' => X' = X ∧ K r) (fun u t => z_P E u t.heap) (z_A E)) args s 0 0 (z_A E)) (F0 m 7 ls []) := by
  obtain ⟨hx, hb, hml, hr, hlocks, hown, hts, hK, hE⟩ := id C
  unfold v_X5_commonDivisor_b7_s at hw
  refine lv_iload hx hb dX5_commonDivisor_7 (lv_at hl 2 rfl) ?_
  refine lv_bipush (v := (100 : Int32)) hx hb dX5_commonDivisor_9 (by decide) ?_
  refine lv_icmp_ge (tgt := 34) hx hb dX5_commonDivisor_11 (by decide) (fun c1 => ?_) (fun c1 => ?_)
  · replace hw := hw.1 c1
    refine lv_iload_n hx hb dX5_commonDivisor_34 rfl (lv_at hl 0 rfl) ?_
    exact z_reti C hP hS ⟨rfl, hw⟩ dX5_commonDivisor_35
  · replace hw := hw.2 c1
    refine lv_iload_n hx hb dX5_commonDivisor_14 rfl (lv_at hl 1 rfl) ?_
    refine lv_if_eq (tgt := 34) hx hb dX5_commonDivisor_15 (by decide) (fun c2 => ?_) (fun c2 => ?_)
    · replace hw := hw.1 c2
      refine lv_iload_n hx hb dX5_commonDivisor_34 rfl (lv_at hl 0 rfl) ?_
      exact z_reti C hP hS ⟨rfl, hw⟩ dX5_commonDivisor_35
    · replace hw := hw.2 c2
      refine lv_iload_n hx hb dX5_commonDivisor_18 rfl (lv_at hl 0 rfl) ?_
      refine lv_iload_n hx hb dX5_commonDivisor_19 rfl (lv_at hl 1 rfl) ?_
      obtain ⟨n3, hw⟩ := hw
      refine lv_irem hx hb dX5_commonDivisor_20 n3 ?_
      refine lv_topi (fun y4 ey4 => ?_)
      replace hw := hw y4 ey4
      refine lv_istore (lv' := [(5, .int y4), (2, .int x2), (3, .int x3), (4, .int x4)]) hx hb dX5_commonDivisor_21 hl (by decide) rfl (fun ls hl => ?_)
      refine lv_iload_n hx hb dX5_commonDivisor_23 rfl (lv_at hl 2 rfl) ?_
      refine lv_istore_n (lv' := [(2, .int x3), (5, .int y4), (3, .int x3), (4, .int x4)]) hx hb dX5_commonDivisor_24 rfl hl (by decide) rfl (fun ls hl => ?_)
      refine lv_iload hx hb dX5_commonDivisor_25 (lv_at hl 1 rfl) ?_
      refine lv_istore_n (lv' := [(3, .int y4), (2, .int x3), (5, .int y4), (4, .int x4)]) hx hb dX5_commonDivisor_27 rfl hl (by decide) rfl (fun ls hl => ?_)
      obtain ⟨y5, ey5⟩ : ∃ z : Int32, z = x4 + (1 : Int32) := ⟨_, rfl⟩
      replace hw := hw y5 ey5
      refine lv_iinc (v := y5) (lv' := [(4, .int y5), (3, .int y4), (2, .int x3), (5, .int y4)]) hx hb dX5_commonDivisor_28 hl (k := 3) rfl (by rw [ey5]; rfl) (by decide) rfl (fun ls hl => ?_)
      refine lv_goto (tgt := 7) hx hb dX5_commonDivisor_31 (by decide) ?_
      exact k7 x3 y4 y5 hw hP hS _ (lv_sub hl [2, 1, 0] rfl)
theorem m_X5_commonDivisor_b7 {p : Program} {l : Launch} {e : Env} {s : State} {m : MethodId} {args : Array Value} {below : List Frame} {meth : Method} {c : Code} {E : z_E} (C : z_Cx p E s m args meth c cX5_commonDivisor 6 wsX5_commonDivisor RX5 (some .int)) (X : z_X) (K : Int32 → Prop) (x2 : Int32) (x3 : Int32) (x4 : Int32) (hw : v_X5_commonDivisor_b7 K x2 x3 x4) {H : Heap} {locs : List Loc} (hP : z_P E X H) (hS : va_S (z_A E) s.heap H locs) {ls : Array Slot} (hl : lv_has ls 6 [(2, .int x2), (3, .int x3), (4, .int x4)]) : W p l e rX5_commonDivisor s m args below meth c H locs 0 0 (MQ below (va_Qi (fun r X' => X' = X ∧ K r) (fun u t => z_P E u t.heap) (z_A E)) args s 0 0 (z_A E)) (F0 m 7 ls []) := by
  obtain ⟨n, hw⟩ := hw
  revert hw hP hS hl
  revert x2 x3 x4 H locs ls
  induction n with
  | zero => intro x2 x3 x4 H locs ls hP hS hl hw; exact hw.elim
  | succ n ih =>
    intro x2 x3 x4 H locs ls hP hS hl hw
    exact m_X5_commonDivisor_b7_s C X K (fun x2 x3 x4 => z_fp (σ := Int32 × Int32 × Int32) (fun Lp q => v_X5_commonDivisor_b7_s K (fun x2 x3 x4 => Lp (x2, x3, x4)) q.1 q.2.1 q.2.2) n (x2, x3, x4)) (fun x2 x3 x4 h9 H locs hP hS ls hl => ih x2 x3 x4 hP hS hl h9) x2 x3 x4 hw hP hS hl
set_option maxHeartbeats 4000000 in
set_option maxRecDepth 100000 in
theorem m_X5_commonDivisor (l : Launch) {E : z_E} (hE : z_ok E) (X : z_X) (x0 : Int32) (x1 : Int32) (K : Int32 → Prop) (hw : v_X5_commonDivisor x0 x1 K) : z_CI l E yX5_commonDivisor wsX5_commonDivisor rX5_commonDivisor [.int x0, .int x1] X (fun r X' => X' = X ∧ K r) := by
  refine z_start (cc := cX5_commonDivisor) (maxL := 6) (ret := (some .int)) hE (by decide) rfl (Nat.le_of_ble_eq_true rfl) ?_
  intro p e s m below meth c C hP hS ls hl
  have C : z_Cx p E s m _ meth c cX5_commonDivisor 6 wsX5_commonDivisor RX5 (some .int) := C
  obtain ⟨hx, hb, hml, hr, hlocks, hown, hts, hK, hE⟩ := id C
  have hl : lv_has ls 6 [(0, .int x0), (1, .int x1)] := hl
  unfold v_X5_commonDivisor at hw
  refine lv_iload_n hx hb dX5_commonDivisor_0 rfl (lv_at hl 0 rfl) ?_
  refine lv_istore_n (lv' := [(2, .int x0), (0, .int x0), (1, .int x1)]) hx hb dX5_commonDivisor_1 rfl hl (by decide) rfl (fun ls hl => ?_)
  refine lv_iload_n hx hb dX5_commonDivisor_2 rfl (lv_at hl 2 rfl) ?_
  refine lv_istore_n (lv' := [(3, .int x1), (2, .int x0), (0, .int x0), (1, .int x1)]) hx hb dX5_commonDivisor_3 rfl hl (by decide) rfl (fun ls hl => ?_)
  refine lv_iconst (v := (0 : Int32)) hx hb dX5_commonDivisor_4 (by decide) ?_
  refine lv_istore (lv' := [(4, .int (0 : Int32)), (3, .int x1), (2, .int x0), (0, .int x0), (1, .int x1)]) hx hb dX5_commonDivisor_5 hl (by decide) rfl (fun ls hl => ?_)
  exact m_X5_commonDivisor_b7 C X K x0 x1 (0 : Int32) hw hP hS (lv_sub hl [2, 1, 0] rfl)
set_option maxHeartbeats 4000000 in
set_option maxRecDepth 100000 in
theorem m_X5_count (l : Launch) {E : z_E} (hE : z_ok E) (hC : z_cls E) (Y : z_X) (x1 : Int32) (K : Int32 → Prop) (hw : v_X5_count Y x1 K) : z_CI l E yX5_count wsX5_count rX5_count [.ref (z_a E 18 0), .int x1] Y (fun r X' => X' = Y ∧ K r) := by
  refine z_start (cc := cX5_count) (maxL := 2) (ret := (some .int)) hE (by decide) rfl (Nat.le_of_ble_eq_true rfl) ?_
  intro p e s m below meth c C hP hS ls hl
  have C : z_Cx p E s m _ meth c cX5_count 2 wsX5_count RX5 (some .int) := C
  obtain ⟨hx, hb, hml, hr, hlocks, hown, hts, hK, hE⟩ := id C
  have hl : lv_has ls 2 [(0, .ref (z_a E 18 0)), (1, .int x1)] := hl
  have hfX1 : ∀ w ∈ u_ws RX1 TX1 13, w ∈ wsX5_count := by decide +kernel
  have hfX2 : ∀ w ∈ u_ws RX2 TX2 4, w ∈ wsX5_count := by decide +kernel
  have hfX3 : ∀ w ∈ u_ws RX3 TX3 3, w ∈ wsX5_count := by decide +kernel
  have hfX4 : ∀ w ∈ u_ws RX4 TX4 4, w ∈ wsX5_count := by decide +kernel
  have hfX5 : ∀ w ∈ u_ws RX5 TX5 7, w ∈ wsX5_count := by decide +kernel
  unfold v_X5_count at hw
  refine lv_iload_n hx hb dX5_count_0 rfl (lv_at hl 1 rfl) ?_
  by_cases c1 : x1 = (0 : Int32)
  · replace hw := hw.1 c1
    refine lv_tableIn (x := x1) (off := 55) (tgt := 56) hx hb dX5_count_1 (by rw [c1]; decide) (by rw [c1]; decide) (by rw [c1]; rfl) (by decide) ?_
    refine lv_aload_n hx hb dX5_count_56 rfl (lv_at hl 0 rfl) ?_
    refine z_getr (C := RX5) (T := TX5) (N := 7) (ref := "GauntletHall") (o := 18) (d := 0) hx hb hts hfX5 hown hK hP (hC.2 (18, 0) (List.mem_of_getElem? (i := 12) rfl)) z_l_18_0 rfl 1 (by decide) (hts (.fieldLink RX5 19 "GauntletHall" "hall" "LGauntletHall$Hall;") (by decide +kernel)) rfl rfl dX5_count_57 ?_
    refine z_geti (C := RX1) (T := TX1) (N := 13) (ref := "GauntletHall$Hall") (o := 0) (d := 0) hx hb hts hfX1 hown hK hP (hC.1 0 (by decide) (0, 0) (List.mem_of_getElem? (i := 0) rfl)) (z_lH_0 (o := 0) (by decide)) rfl 0 (by decide) (hts (.fieldLink RX5 79 "GauntletHall$Hall" "people" "I") (by decide +kernel)) rfl rfl rfl dX5_count_60 ?_
    exact z_reti C hP hS ⟨rfl, hw⟩ dX5_count_63
  by_cases c2 : x1 = (1 : Int32)
  · replace hw := hw.2.1 c2
    refine lv_tableIn (x := x1) (off := 63) (tgt := 64) hx hb dX5_count_1 (by rw [c2]; decide) (by rw [c2]; decide) (by rw [c2]; rfl) (by decide) ?_
    refine lv_aload_n hx hb dX5_count_64 rfl (lv_at hl 0 rfl) ?_
    refine z_getr (C := RX5) (T := TX5) (N := 7) (ref := "GauntletHall") (o := 18) (d := 0) hx hb hts hfX5 hown hK hP (hC.2 (18, 0) (List.mem_of_getElem? (i := 12) rfl)) z_l_18_0 rfl 1 (by decide) (hts (.fieldLink RX5 19 "GauntletHall" "hall" "LGauntletHall$Hall;") (by decide +kernel)) rfl rfl dX5_count_65 ?_
    refine z_geti (C := RX1) (T := TX1) (N := 13) (ref := "GauntletHall$Hall") (o := 0) (d := 0) hx hb hts hfX1 hown hK hP (hC.1 0 (by decide) (0, 0) (List.mem_of_getElem? (i := 0) rfl)) (z_lH_0 (o := 0) (by decide)) rfl 1 (by decide) (hts (.fieldLink RX5 151 "GauntletHall$Hall" "gloves" "I") (by decide +kernel)) rfl rfl rfl dX5_count_68 ?_
    exact z_reti C hP hS ⟨rfl, hw⟩ dX5_count_71
  by_cases c3 : x1 = (2 : Int32)
  · replace hw := hw.2.2.1 c3
    refine lv_tableIn (x := x1) (off := 71) (tgt := 72) hx hb dX5_count_1 (by rw [c3]; decide) (by rw [c3]; decide) (by rw [c3]; rfl) (by decide) ?_
    refine lv_aload_n hx hb dX5_count_72 rfl (lv_at hl 0 rfl) ?_
    refine z_getr (C := RX5) (T := TX5) (N := 7) (ref := "GauntletHall") (o := 18) (d := 0) hx hb hts hfX5 hown hK hP (hC.2 (18, 0) (List.mem_of_getElem? (i := 12) rfl)) z_l_18_0 rfl 1 (by decide) (hts (.fieldLink RX5 19 "GauntletHall" "hall" "LGauntletHall$Hall;") (by decide +kernel)) rfl rfl dX5_count_73 ?_
    refine z_geti (C := RX1) (T := TX1) (N := 13) (ref := "GauntletHall$Hall") (o := 0) (d := 0) hx hb hts hfX1 hown hK hP (hC.1 0 (by decide) (0, 0) (List.mem_of_getElem? (i := 0) rfl)) (z_lH_0 (o := 0) (by decide)) rfl 2 (by decide) (hts (.fieldLink RX5 138 "GauntletHall$Hall" "reign" "I") (by decide +kernel)) rfl rfl rfl dX5_count_76 ?_
    exact z_reti C hP hS ⟨rfl, hw⟩ dX5_count_79
  by_cases c4 : x1 = (3 : Int32)
  · replace hw := hw.2.2.2.1 c4
    refine lv_tableIn (x := x1) (off := 79) (tgt := 80) hx hb dX5_count_1 (by rw [c4]; decide) (by rw [c4]; decide) (by rw [c4]; rfl) (by decide) ?_
    refine lv_aload_n hx hb dX5_count_80 rfl (lv_at hl 0 rfl) ?_
    refine z_getr (C := RX5) (T := TX5) (N := 7) (ref := "GauntletHall") (o := 18) (d := 0) hx hb hts hfX5 hown hK hP (hC.2 (18, 0) (List.mem_of_getElem? (i := 12) rfl)) z_l_18_0 rfl 1 (by decide) (hts (.fieldLink RX5 19 "GauntletHall" "hall" "LGauntletHall$Hall;") (by decide +kernel)) rfl rfl dX5_count_81 ?_
    refine z_geti (C := RX1) (T := TX1) (N := 13) (ref := "GauntletHall$Hall") (o := 0) (d := 0) hx hb hts hfX1 hown hK hP (hC.1 0 (by decide) (0, 0) (List.mem_of_getElem? (i := 0) rfl)) (z_lH_0 (o := 0) (by decide)) rfl 0 (by decide) (hts (.fieldLink RX5 79 "GauntletHall$Hall" "people" "I") (by decide +kernel)) rfl rfl rfl dX5_count_84 ?_
    refine lv_aload_n hx hb dX5_count_87 rfl (lv_at hl 0 rfl) ?_
    refine z_getr (C := RX5) (T := TX5) (N := 7) (ref := "GauntletHall") (o := 18) (d := 0) hx hb hts hfX5 hown hK hP (hC.2 (18, 0) (List.mem_of_getElem? (i := 12) rfl)) z_l_18_0 rfl 1 (by decide) (hts (.fieldLink RX5 19 "GauntletHall" "hall" "LGauntletHall$Hall;") (by decide +kernel)) rfl rfl dX5_count_88 ?_
    have hPc := z_P_self 0 hP
    refine z_vi (C := RX1) (T := TX1) (N := 13) (o := 0) (rest := [.int (Y 0 0 0)]) ⟨hx, hb, hml, hown, hts⟩ (m_X1_standingAsBits l hE hC 0 (by decide) Y (Y 0) _ hw) (cwV 0 hts gX5_count_X1_standingAsBits rfl rfl rfl (by decide +kernel) ⟨Nat.le_of_ble_eq_true rfl, Nat.le_of_ble_eq_true rfl⟩) hK hPc hS (hC.1 0 (by decide) (0, 0) (List.mem_of_getElem? (i := 0) rfl)) (z_lH_0 (o := 0) (by decide)) rfl rfl hl.1 rfl (Nat.le_of_ble_eq_true rfl) dX5_count_91 ⟨Nat.zero_le _, Nat.zero_le _⟩ (fun r5 u H locs hk hP hS => ?_)
    obtain ⟨eu, hw⟩ := hk
    rw [eu, z_up_self] at hP
    refine z_si (rest := [.int (Y 0 0 0)]) ⟨hx, hb, hml, hown, hts⟩ (m_J6_bitCount_0f7a4 l hE Y r5 _ hw) (va_cwS 1 hts gX5_count_J6_bitCount_0f7a4 rfl rfl rfl (by decide +kernel) ⟨Nat.le_of_ble_eq_true rfl, Nat.le_of_ble_eq_true rfl⟩) hK hP hS rfl hl.1 rfl (Nat.le_of_ble_eq_true rfl) dX5_count_94 ⟨Nat.zero_le _, Nat.zero_le _⟩ (fun r6 u H locs hk hP hS => ?_)
    obtain ⟨eu, hw⟩ := hk
    rw [eu] at hP
    refine lv_isub hx hb dX5_count_97 ?_
    exact z_reti C hP hS ⟨rfl, hw⟩ dX5_count_98
  by_cases c7 : x1 = (4 : Int32)
  · replace hw := hw.2.2.2.2.1 c7
    refine lv_tableIn (x := x1) (off := 98) (tgt := 99) hx hb dX5_count_1 (by rw [c7]; decide) (by rw [c7]; decide) (by rw [c7]; rfl) (by decide) ?_
    refine lv_aload_n hx hb dX5_count_99 rfl (lv_at hl 0 rfl) ?_
    refine z_getr (C := RX5) (T := TX5) (N := 7) (ref := "GauntletHall") (o := 18) (d := 0) hx hb hts hfX5 hown hK hP (hC.2 (18, 0) (List.mem_of_getElem? (i := 12) rfl)) z_l_18_0 rfl 1 (by decide) (hts (.fieldLink RX5 19 "GauntletHall" "hall" "LGauntletHall$Hall;") (by decide +kernel)) rfl rfl dX5_count_100 ?_
    have hPc := z_P_self 0 hP
    refine z_vi (C := RX1) (T := TX1) (N := 13) (o := 0) (rest := []) ⟨hx, hb, hml, hown, hts⟩ (m_X1_lyingAsBits l hE hC 0 (by decide) Y (Y 0) _ hw) (cwV 0 hts gX5_count_X1_lyingAsBits rfl rfl rfl (by decide +kernel) ⟨Nat.le_of_ble_eq_true rfl, Nat.le_of_ble_eq_true rfl⟩) hK hPc hS (hC.1 0 (by decide) (0, 0) (List.mem_of_getElem? (i := 0) rfl)) (z_lH_0 (o := 0) (by decide)) rfl rfl hl.1 rfl (Nat.le_of_ble_eq_true rfl) dX5_count_103 ⟨Nat.zero_le _, Nat.zero_le _⟩ (fun r8 u H locs hk hP hS => ?_)
    obtain ⟨eu, hw⟩ := hk
    rw [eu, z_up_self] at hP
    refine z_si (rest := []) ⟨hx, hb, hml, hown, hts⟩ (m_J6_bitCount_0f7a4 l hE Y r8 _ hw) (va_cwS 1 hts gX5_count_J6_bitCount_0f7a4 rfl rfl rfl (by decide +kernel) ⟨Nat.le_of_ble_eq_true rfl, Nat.le_of_ble_eq_true rfl⟩) hK hP hS rfl hl.1 rfl (Nat.le_of_ble_eq_true rfl) dX5_count_106 ⟨Nat.zero_le _, Nat.zero_le _⟩ (fun r9 u H locs hk hP hS => ?_)
    obtain ⟨eu, hw⟩ := hk
    rw [eu] at hP
    exact z_reti C hP hS ⟨rfl, hw⟩ dX5_count_109
  by_cases c10 : x1 = (5 : Int32)
  · replace hw := hw.2.2.2.2.2.1 c10
    refine lv_tableIn (x := x1) (off := 109) (tgt := 110) hx hb dX5_count_1 (by rw [c10]; decide) (by rw [c10]; decide) (by rw [c10]; rfl) (by decide) ?_
    refine lv_aload_n hx hb dX5_count_110 rfl (lv_at hl 0 rfl) ?_
    refine z_getr (C := RX5) (T := TX5) (N := 7) (ref := "GauntletHall") (o := 18) (d := 0) hx hb hts hfX5 hown hK hP (hC.2 (18, 0) (List.mem_of_getElem? (i := 12) rfl)) z_l_18_0 rfl 1 (by decide) (hts (.fieldLink RX5 19 "GauntletHall" "hall" "LGauntletHall$Hall;") (by decide +kernel)) rfl rfl dX5_count_111 ?_
    refine z_geti (C := RX1) (T := TX1) (N := 13) (ref := "GauntletHall$Hall") (o := 0) (d := 0) hx hb hts hfX1 hown hK hP (hC.1 0 (by decide) (0, 0) (List.mem_of_getElem? (i := 0) rfl)) (z_lH_0 (o := 0) (by decide)) rfl 3 (by decide) (hts (.fieldLink RX5 144 "GauntletHall$Hall" "fights" "I") (by decide +kernel)) rfl rfl rfl dX5_count_114 ?_
    exact z_reti C hP hS ⟨rfl, hw⟩ dX5_count_117
  by_cases c11 : x1 = (6 : Int32)
  · replace hw := hw.2.2.2.2.2.2.1 c11
    refine lv_tableIn (x := x1) (off := 117) (tgt := 118) hx hb dX5_count_1 (by rw [c11]; decide) (by rw [c11]; decide) (by rw [c11]; rfl) (by decide) ?_
    refine lv_aload_n hx hb dX5_count_118 rfl (lv_at hl 0 rfl) ?_
    refine z_getr (C := RX5) (T := TX5) (N := 7) (ref := "GauntletHall") (o := 18) (d := 0) hx hb hts hfX5 hown hK hP (hC.2 (18, 0) (List.mem_of_getElem? (i := 12) rfl)) z_l_18_0 rfl 5 (by decide) (hts (.fieldLink RX5 41 "GauntletHall" "sightings" "LGauntletHall$Sightings;") (by decide +kernel)) rfl rfl dX5_count_119 ?_
    refine z_geti (C := RX4) (T := TX4) (N := 4) (ref := "GauntletHall$Sightings") (o := 16) (d := 0) hx hb hts hfX4 hown hK hP (hC.2 (16, 0) (List.mem_of_getElem? (i := 7) rfl)) z_l_16_0 rfl 0 (by decide) (hts (.fieldLink RX5 89 "GauntletHall$Sightings" "count" "I") (by decide +kernel)) rfl rfl rfl dX5_count_122 ?_
    exact z_reti C hP hS ⟨rfl, hw⟩ dX5_count_125
  by_cases c12 : x1 = (7 : Int32)
  · replace hw := hw.2.2.2.2.2.2.2.1 c12
    refine lv_tableIn (x := x1) (off := 125) (tgt := 126) hx hb dX5_count_1 (by rw [c12]; decide) (by rw [c12]; decide) (by rw [c12]; rfl) (by decide) ?_
    refine lv_aload_n hx hb dX5_count_126 rfl (lv_at hl 0 rfl) ?_
    refine z_getr (C := RX5) (T := TX5) (N := 7) (ref := "GauntletHall") (o := 18) (d := 0) hx hb hts hfX5 hown hK hP (hC.2 (18, 0) (List.mem_of_getElem? (i := 12) rfl)) z_l_18_0 rfl 3 (by decide) (hts (.fieldLink RX5 31 "GauntletHall" "past" "LGauntletHall$Shelf;") (by decide +kernel)) rfl rfl dX5_count_127 ?_
    refine z_geti (C := RX3) (T := TX3) (N := 3) (ref := "GauntletHall$Shelf") (o := 14) (d := 0) hx hb hts hfX3 hown hK hP (hC.2 (14, 0) (List.mem_of_getElem? (i := 3) rfl)) z_l_14_0 rfl 0 (by decide) (hts (.fieldLink RX5 86 "GauntletHall$Shelf" "count" "I") (by decide +kernel)) rfl rfl rfl dX5_count_130 ?_
    exact z_reti C hP hS ⟨rfl, hw⟩ dX5_count_133
  by_cases c13 : x1 = (8 : Int32)
  · replace hw := hw.2.2.2.2.2.2.2.2.1 c13
    refine lv_tableIn (x := x1) (off := 133) (tgt := 134) hx hb dX5_count_1 (by rw [c13]; decide) (by rw [c13]; decide) (by rw [c13]; rfl) (by decide) ?_
    refine lv_aload_n hx hb dX5_count_134 rfl (lv_at hl 0 rfl) ?_
    refine z_getr (C := RX5) (T := TX5) (N := 7) (ref := "GauntletHall") (o := 18) (d := 0) hx hb hts hfX5 hown hK hP (hC.2 (18, 0) (List.mem_of_getElem? (i := 12) rfl)) z_l_18_0 rfl 4 (by decide) (hts (.fieldLink RX5 35 "GauntletHall" "kept" "LGauntletHall$Shelf;") (by decide +kernel)) rfl rfl dX5_count_135 ?_
    refine z_geti (C := RX3) (T := TX3) (N := 3) (ref := "GauntletHall$Shelf") (o := 15) (d := 0) hx hb hts hfX3 hown hK hP (hC.2 (15, 0) (List.mem_of_getElem? (i := 5) rfl)) z_l_15_0 rfl 0 (by decide) (hts (.fieldLink RX5 86 "GauntletHall$Shelf" "count" "I") (by decide +kernel)) rfl rfl rfl dX5_count_138 ?_
    exact z_reti C hP hS ⟨rfl, hw⟩ dX5_count_141
  by_cases c14 : x1 = (9 : Int32)
  · replace hw := hw.2.2.2.2.2.2.2.2.2.1 c14
    refine lv_tableIn (x := x1) (off := 141) (tgt := 142) hx hb dX5_count_1 (by rw [c14]; decide) (by rw [c14]; decide) (by rw [c14]; rfl) (by decide) ?_
    refine lv_aload_n hx hb dX5_count_142 rfl (lv_at hl 0 rfl) ?_
    refine z_getr (C := RX5) (T := TX5) (N := 7) (ref := "GauntletHall") (o := 18) (d := 0) hx hb hts hfX5 hown hK hP (hC.2 (18, 0) (List.mem_of_getElem? (i := 12) rfl)) z_l_18_0 rfl 0 (by decide) (hts (.fieldLink RX5 10 "GauntletHall" "text" "LGauntletHall$Scroll;") (by decide +kernel)) rfl rfl dX5_count_143 ?_
    refine z_geti (C := RX2) (T := TX2) (N := 4) (ref := "GauntletHall$Scroll") (o := 13) (d := 0) hx hb hts hfX2 hown hK hP (hC.2 (13, 0) (List.mem_of_getElem? (i := 0) rfl)) z_l_13_0 rfl 0 (by decide) (hts (.fieldLink RX5 72 "GauntletHall$Scroll" "length" "I") (by decide +kernel)) rfl rfl rfl dX5_count_146 ?_
    exact z_reti C hP hS ⟨rfl, hw⟩ dX5_count_149
  replace hw := hw.2.2.2.2.2.2.2.2.2.2 c1 c2 c3 c4 c7 c10 c11 c12 c13 c14
  have hne : (x1).toInt < 0 ∨ 9 < (x1).toInt := by
    have n0 := lv_neT (a := 0) c1 rfl
    have n1 := lv_neT (a := 1) c2 rfl
    have n2 := lv_neT (a := 2) c3 rfl
    have n3 := lv_neT (a := 3) c4 rfl
    have n4 := lv_neT (a := 4) c7 rfl
    have n5 := lv_neT (a := 5) c10 rfl
    have n6 := lv_neT (a := 6) c11 rfl
    have n7 := lv_neT (a := 7) c12 rfl
    have n8 := lv_neT (a := 8) c13 rfl
    have n9 := lv_neT (a := 9) c14 rfl
    omega
  refine lv_tableOut (x := x1) (tgt := 150) hx hb dX5_count_1 hne (by decide) ?_
  refine lv_iconst (v := (-1 : Int32)) hx hb dX5_count_150 (by decide) ?_
  exact z_reti C hP hS ⟨rfl, hw⟩ dX5_count_151
set_option maxHeartbeats 4000000 in
set_option maxRecDepth 100000 in
theorem m_X5_dare (l : Launch) {E : z_E} (hE : z_ok E) (hC : z_cls E) (Y : z_X) (x1 : Int32) (x2 : Int32) (K : Int32 → z_X → Prop) (hw : v_X5_dare Y x1 x2 K) : z_CI l E yX5_dare wsX5_dare rX5_dare [.ref (z_a E 18 0), .int x1, .int x2] Y K := by
  refine z_start (cc := cX5_dare) (maxL := 3) (ret := (some .int)) hE (by decide) rfl (Nat.le_of_ble_eq_true rfl) ?_
  intro p e s m below meth c C hP hS ls hl
  have C : z_Cx p E s m _ meth c cX5_dare 3 wsX5_dare RX5 (some .int) := C
  obtain ⟨hx, hb, hml, hr, hlocks, hown, hts, hK, hE⟩ := id C
  have hl : lv_has ls 3 [(0, .ref (z_a E 18 0)), (1, .int x1), (2, .int x2)] := hl
  have hfX1 : ∀ w ∈ u_ws RX1 TX1 13, w ∈ wsX5_dare := by decide +kernel
  have hfX5 : ∀ w ∈ u_ws RX5 TX5 7, w ∈ wsX5_dare := by decide +kernel
  unfold v_X5_dare at hw
  refine lv_aload_n hx hb dX5_dare_0 rfl (lv_at hl 0 rfl) ?_
  refine z_getr (C := RX5) (T := TX5) (N := 7) (ref := "GauntletHall") (o := 18) (d := 0) hx hb hts hfX5 hown hK hP (hC.2 (18, 0) (List.mem_of_getElem? (i := 12) rfl)) z_l_18_0 rfl 1 (by decide) (hts (.fieldLink RX5 19 "GauntletHall" "hall" "LGauntletHall$Hall;") (by decide +kernel)) rfl rfl dX5_dare_1 ?_
  refine lv_iload_n hx hb dX5_dare_4 rfl (lv_at hl 1 rfl) ?_
  have hPc := z_P_self 0 hP
  refine z_vi (C := RX1) (T := TX1) (N := 13) (o := 0) (rest := []) ⟨hx, hb, hml, hown, hts⟩ (m_X1_isPerson l hE hC 0 (by decide) Y (Y 0) x1 _ hw) (cwV 1 hts gX5_dare_X1_isPerson rfl rfl rfl (by decide +kernel) ⟨Nat.le_of_ble_eq_true rfl, Nat.le_of_ble_eq_true rfl⟩) hK hPc hS (hC.1 0 (by decide) (0, 0) (List.mem_of_getElem? (i := 0) rfl)) (z_lH_0 (o := 0) (by decide)) rfl rfl hl.1 rfl (Nat.le_of_ble_eq_true rfl) dX5_dare_5 ⟨Nat.zero_le _, Nat.zero_le _⟩ (fun r1 u H locs hk hP hS => ?_)
  obtain ⟨eu, hw⟩ := hk
  rw [eu, z_up_self] at hP
  refine lv_if_eq (tgt := 27) hx hb dX5_dare_8 (by decide) (fun c2 => ?_) (fun c2 => ?_)
  · replace hw := hw.1 c2
    refine lv_iconst (v := (-1 : Int32)) hx hb dX5_dare_27 (by decide) ?_
    exact z_reti C hP hS hw dX5_dare_28
  · replace hw := hw.2 c2
    refine lv_aload_n hx hb dX5_dare_11 rfl (lv_at hl 0 rfl) ?_
    refine z_getr (C := RX5) (T := TX5) (N := 7) (ref := "GauntletHall") (o := 18) (d := 0) hx hb hts hfX5 hown hK hP (hC.2 (18, 0) (List.mem_of_getElem? (i := 12) rfl)) z_l_18_0 rfl 1 (by decide) (hts (.fieldLink RX5 19 "GauntletHall" "hall" "LGauntletHall$Hall;") (by decide +kernel)) rfl rfl dX5_dare_12 ?_
    refine lv_iload_n hx hb dX5_dare_15 rfl (lv_at hl 2 rfl) ?_
    have hPc := z_P_self 0 hP
    refine z_vi (C := RX1) (T := TX1) (N := 13) (o := 0) (rest := []) ⟨hx, hb, hml, hown, hts⟩ (m_X1_isPerson l hE hC 0 (by decide) Y (Y 0) x2 _ hw) (cwV 1 hts gX5_dare_X1_isPerson rfl rfl rfl (by decide +kernel) ⟨Nat.le_of_ble_eq_true rfl, Nat.le_of_ble_eq_true rfl⟩) hK hPc hS (hC.1 0 (by decide) (0, 0) (List.mem_of_getElem? (i := 0) rfl)) (z_lH_0 (o := 0) (by decide)) rfl rfl hl.1 rfl (Nat.le_of_ble_eq_true rfl) dX5_dare_16 ⟨Nat.zero_le _, Nat.zero_le _⟩ (fun r3 u H locs hk hP hS => ?_)
    obtain ⟨eu, hw⟩ := hk
    rw [eu, z_up_self] at hP
    refine lv_if_eq (tgt := 27) hx hb dX5_dare_19 (by decide) (fun c4 => ?_) (fun c4 => ?_)
    · replace hw := hw.1 c4
      refine lv_iconst (v := (-1 : Int32)) hx hb dX5_dare_27 (by decide) ?_
      exact z_reti C hP hS hw dX5_dare_28
    · replace hw := hw.2 c4
      refine lv_iload_n hx hb dX5_dare_22 rfl (lv_at hl 1 rfl) ?_
      refine lv_iload_n hx hb dX5_dare_23 rfl (lv_at hl 2 rfl) ?_
      refine lv_icmp_ne (tgt := 29) hx hb dX5_dare_24 (by decide) (fun c5 => ?_) (fun c5 => ?_)
      · replace hw := hw.1 c5
        refine lv_aload_n hx hb dX5_dare_29 rfl (lv_at hl 0 rfl) ?_
        refine z_getr (C := RX5) (T := TX5) (N := 7) (ref := "GauntletHall") (o := 18) (d := 0) hx hb hts hfX5 hown hK hP (hC.2 (18, 0) (List.mem_of_getElem? (i := 12) rfl)) z_l_18_0 rfl 1 (by decide) (hts (.fieldLink RX5 19 "GauntletHall" "hall" "LGauntletHall$Hall;") (by decide +kernel)) rfl rfl dX5_dare_30 ?_
        refine lv_iload_n hx hb dX5_dare_33 rfl (lv_at hl 1 rfl) ?_
        have hPc := z_P_self 0 hP
        refine z_vi (C := RX1) (T := TX1) (N := 13) (o := 0) (rest := []) ⟨hx, hb, hml, hown, hts⟩ (m_X1_isOut l hE hC 0 (by decide) Y (Y 0) x1 _ hw) (cwV 1 hts gX5_dare_X1_isOut rfl rfl rfl (by decide +kernel) ⟨Nat.le_of_ble_eq_true rfl, Nat.le_of_ble_eq_true rfl⟩) hK hPc hS (hC.1 0 (by decide) (0, 0) (List.mem_of_getElem? (i := 0) rfl)) (z_lH_0 (o := 0) (by decide)) rfl rfl hl.1 rfl (Nat.le_of_ble_eq_true rfl) dX5_dare_34 ⟨Nat.zero_le _, Nat.zero_le _⟩ (fun r6 u H locs hk hP hS => ?_)
        obtain ⟨eu, hw⟩ := hk
        rw [eu, z_up_self] at hP
        refine lv_if_ne (tgt := 51) hx hb dX5_dare_37 (by decide) (fun c7 => ?_) (fun c7 => ?_)
        · replace hw := hw.1 c7
          refine lv_bipush (v := (-2 : Int32)) hx hb dX5_dare_51 (by decide) ?_
          exact z_reti C hP hS hw dX5_dare_53
        · replace hw := hw.2 c7
          refine lv_aload_n hx hb dX5_dare_40 rfl (lv_at hl 0 rfl) ?_
          refine z_getr (C := RX5) (T := TX5) (N := 7) (ref := "GauntletHall") (o := 18) (d := 0) hx hb hts hfX5 hown hK hP (hC.2 (18, 0) (List.mem_of_getElem? (i := 12) rfl)) z_l_18_0 rfl 1 (by decide) (hts (.fieldLink RX5 19 "GauntletHall" "hall" "LGauntletHall$Hall;") (by decide +kernel)) rfl rfl dX5_dare_41 ?_
          refine lv_iload_n hx hb dX5_dare_44 rfl (lv_at hl 2 rfl) ?_
          have hPc := z_P_self 0 hP
          refine z_vi (C := RX1) (T := TX1) (N := 13) (o := 0) (rest := []) ⟨hx, hb, hml, hown, hts⟩ (m_X1_isOut l hE hC 0 (by decide) Y (Y 0) x2 _ hw) (cwV 1 hts gX5_dare_X1_isOut rfl rfl rfl (by decide +kernel) ⟨Nat.le_of_ble_eq_true rfl, Nat.le_of_ble_eq_true rfl⟩) hK hPc hS (hC.1 0 (by decide) (0, 0) (List.mem_of_getElem? (i := 0) rfl)) (z_lH_0 (o := 0) (by decide)) rfl rfl hl.1 rfl (Nat.le_of_ble_eq_true rfl) dX5_dare_45 ⟨Nat.zero_le _, Nat.zero_le _⟩ (fun r8 u H locs hk hP hS => ?_)
          obtain ⟨eu, hw⟩ := hk
          rw [eu, z_up_self] at hP
          refine lv_if_eq (tgt := 54) hx hb dX5_dare_48 (by decide) (fun c9 => ?_) (fun c9 => ?_)
          · replace hw := hw.1 c9
            refine lv_aload_n hx hb dX5_dare_54 rfl (lv_at hl 0 rfl) ?_
            refine z_getr (C := RX5) (T := TX5) (N := 7) (ref := "GauntletHall") (o := 18) (d := 0) hx hb hts hfX5 hown hK hP (hC.2 (18, 0) (List.mem_of_getElem? (i := 12) rfl)) z_l_18_0 rfl 1 (by decide) (hts (.fieldLink RX5 19 "GauntletHall" "hall" "LGauntletHall$Hall;") (by decide +kernel)) rfl rfl dX5_dare_55 ?_
            refine z_geti (C := RX1) (T := TX1) (N := 13) (ref := "GauntletHall$Hall") (o := 0) (d := 0) hx hb hts hfX1 hown hK hP (hC.1 0 (by decide) (0, 0) (List.mem_of_getElem? (i := 0) rfl)) (z_lH_0 (o := 0) (by decide)) rfl 1 (by decide) (hts (.fieldLink RX5 151 "GauntletHall$Hall" "gloves" "I") (by decide +kernel)) rfl rfl rfl dX5_dare_58 ?_
            refine lv_bipush (v := (8 : Int32)) hx hb dX5_dare_61 (by decide) ?_
            refine lv_icmp_lt (tgt := 71) hx hb dX5_dare_63 (by decide) (fun c10 => ?_) (fun c10 => ?_)
            · replace hw := hw.1 c10
              refine lv_aload_n hx hb dX5_dare_71 rfl (lv_at hl 0 rfl) ?_
              refine z_getr (C := RX5) (T := TX5) (N := 7) (ref := "GauntletHall") (o := 18) (d := 0) hx hb hts hfX5 hown hK hP (hC.2 (18, 0) (List.mem_of_getElem? (i := 12) rfl)) z_l_18_0 rfl 6 (by decide) (hts (.fieldLink RX5 48 "GauntletHall" "forecast" "LGauntletHall$Forecast;") (by decide +kernel)) rfl rfl dX5_dare_72 ?_
              refine lv_aload_n hx hb dX5_dare_75 rfl (lv_at hl 0 rfl) ?_
              refine z_getr (C := RX5) (T := TX5) (N := 7) (ref := "GauntletHall") (o := 18) (d := 0) hx hb hts hfX5 hown hK hP (hC.2 (18, 0) (List.mem_of_getElem? (i := 12) rfl)) z_l_18_0 rfl 1 (by decide) (hts (.fieldLink RX5 19 "GauntletHall" "hall" "LGauntletHall$Hall;") (by decide +kernel)) rfl rfl dX5_dare_76 ?_
              refine lv_iload_n hx hb dX5_dare_79 rfl (lv_at hl 1 rfl) ?_
              refine lv_iload_n hx hb dX5_dare_80 rfl (lv_at hl 2 rfl) ?_
              refine z_vi (C := RX0) (T := TX0) (N := 1) (o := 17) (rest := []) ⟨hx, hb, hml, hown, hts⟩ (m_X0_gloveToThrow l hE hC 0 (by decide) Y x1 x2 _ hw) (cwV 3 hts gX5_dare_X0_gloveToThrow rfl rfl rfl (by decide +kernel) ⟨Nat.le_of_ble_eq_true rfl, Nat.le_of_ble_eq_true rfl⟩) hK hP hS (hC.2 (17, 0) (List.mem_of_getElem? (i := 11) rfl)) z_l_17_0 rfl rfl hl.1 rfl (Nat.le_of_ble_eq_true rfl) dX5_dare_81 ⟨Nat.zero_le _, Nat.zero_le _⟩ (fun r11 Y12 H locs hk hP hS => ?_)
              replace hw := hk
              exact z_reti C hP hS hw dX5_dare_84
            · replace hw := hw.2 c10
              refine lv_bipush (v := (-4 : Int32)) hx hb dX5_dare_66 (by decide) ?_
              refine lv_goto (tgt := 84) hx hb dX5_dare_68 (by decide) ?_
              exact z_reti C hP hS hw dX5_dare_84
          · replace hw := hw.2 c9
            refine lv_bipush (v := (-2 : Int32)) hx hb dX5_dare_51 (by decide) ?_
            exact z_reti C hP hS hw dX5_dare_53
      · replace hw := hw.2 c5
        refine lv_iconst (v := (-1 : Int32)) hx hb dX5_dare_27 (by decide) ?_
        exact z_reti C hP hS hw dX5_dare_28
set_option maxHeartbeats 4000000 in
set_option maxRecDepth 100000 in
theorem m_X5_fault (l : Launch) {E : z_E} (hE : z_ok E) (hC : z_cls E) (Y : z_X) (K : Int32 → z_X → Prop) (hw : v_X5_fault Y K) : z_CI l E yX5_fault wsX5_fault rX5_fault [.ref (z_a E 18 0)] Y K := by
  refine z_start (cc := cX5_fault) (maxL := 1) (ret := (some .int)) hE (by decide) rfl (Nat.le_of_ble_eq_true rfl) ?_
  intro p e s m below meth c C hP hS ls hl
  have C : z_Cx p E s m _ meth c cX5_fault 1 wsX5_fault RX5 (some .int) := C
  obtain ⟨hx, hb, hml, hr, hlocks, hown, hts, hK, hE⟩ := id C
  have hl : lv_has ls 1 [(0, .ref (z_a E 18 0))] := hl
  have hfX5 : ∀ w ∈ u_ws RX5 TX5 7, w ∈ wsX5_fault := by decide +kernel
  unfold v_X5_fault at hw
  refine lv_aload_n hx hb dX5_fault_0 rfl (lv_at hl 0 rfl) ?_
  refine z_getr (C := RX5) (T := TX5) (N := 7) (ref := "GauntletHall") (o := 18) (d := 0) hx hb hts hfX5 hown hK hP (hC.2 (18, 0) (List.mem_of_getElem? (i := 12) rfl)) z_l_18_0 rfl 0 (by decide) (hts (.fieldLink RX5 10 "GauntletHall" "text" "LGauntletHall$Scroll;") (by decide +kernel)) rfl rfl dX5_fault_1 ?_
  refine lv_aload_n hx hb dX5_fault_4 rfl (lv_at hl 0 rfl) ?_
  refine z_getr (C := RX5) (T := TX5) (N := 7) (ref := "GauntletHall") (o := 18) (d := 0) hx hb hts hfX5 hown hK hP (hC.2 (18, 0) (List.mem_of_getElem? (i := 12) rfl)) z_l_18_0 rfl 2 (by decide) (hts (.fieldLink RX5 23 "GauntletHall" "draft" "LGauntletHall$Hall;") (by decide +kernel)) rfl rfl dX5_fault_5 ?_
  refine z_vi (C := RX2) (T := TX2) (N := 4) (o := 13) (rest := []) ⟨hx, hb, hml, hown, hts⟩ (m_X2_readInto l hE hC 1 (by decide) Y _ hw) (cwV 1 hts gX5_fault_X2_readInto rfl rfl rfl (by decide +kernel) ⟨Nat.le_of_ble_eq_true rfl, Nat.le_of_ble_eq_true rfl⟩) hK hP hS (hC.2 (13, 0) (List.mem_of_getElem? (i := 0) rfl)) z_l_13_0 rfl rfl hl.1 rfl (Nat.le_of_ble_eq_true rfl) dX5_fault_8 ⟨Nat.zero_le _, Nat.zero_le _⟩ (fun r1 Y2 H locs hk hP hS => ?_)
  replace hw := hk
  exact z_reti C hP hS hw dX5_fault_11
set_option maxHeartbeats 4000000 in
set_option maxRecDepth 100000 in
theorem m_X5_fight (l : Launch) {E : z_E} (hE : z_ok E) (hC : z_cls E) (Y : z_X) (x1 : Int32) (x2 : Int32) (K : Int32 → Prop) (hw : v_X5_fight Y x1 x2 K) : z_CI l E yX5_fight wsX5_fight rX5_fight [.ref (z_a E 18 0), .int x1, .int x2] Y (fun r X' => X' = Y ∧ K r) := by
  refine z_start (cc := cX5_fight) (maxL := 3) (ret := (some .int)) hE (by decide) rfl (Nat.le_of_ble_eq_true rfl) ?_
  intro p e s m below meth c C hP hS ls hl
  have C : z_Cx p E s m _ meth c cX5_fight 3 wsX5_fight RX5 (some .int) := C
  obtain ⟨hx, hb, hml, hr, hlocks, hown, hts, hK, hE⟩ := id C
  have hl : lv_has ls 3 [(0, .ref (z_a E 18 0)), (1, .int x1), (2, .int x2)] := hl
  have hfX1 : ∀ w ∈ u_ws RX1 TX1 13, w ∈ wsX5_fight := by decide +kernel
  have hfX5 : ∀ w ∈ u_ws RX5 TX5 7, w ∈ wsX5_fight := by decide +kernel
  unfold v_X5_fight at hw
  refine lv_aload_n hx hb dX5_fight_0 rfl (lv_at hl 0 rfl) ?_
  refine z_getr (C := RX5) (T := TX5) (N := 7) (ref := "GauntletHall") (o := 18) (d := 0) hx hb hts hfX5 hown hK hP (hC.2 (18, 0) (List.mem_of_getElem? (i := 12) rfl)) z_l_18_0 rfl 1 (by decide) (hts (.fieldLink RX5 19 "GauntletHall" "hall" "LGauntletHall$Hall;") (by decide +kernel)) rfl rfl dX5_fight_1 ?_
  refine lv_iload_n hx hb dX5_fight_4 rfl (lv_at hl 1 rfl) ?_
  have hPc := z_P_self 0 hP
  refine z_vi (C := RX1) (T := TX1) (N := 13) (o := 0) (rest := []) ⟨hx, hb, hml, hown, hts⟩ (m_X1_isPerson l hE hC 0 (by decide) Y (Y 0) x1 _ hw) (cwV 1 hts gX5_fight_X1_isPerson rfl rfl rfl (by decide +kernel) ⟨Nat.le_of_ble_eq_true rfl, Nat.le_of_ble_eq_true rfl⟩) hK hPc hS (hC.1 0 (by decide) (0, 0) (List.mem_of_getElem? (i := 0) rfl)) (z_lH_0 (o := 0) (by decide)) rfl rfl hl.1 rfl (Nat.le_of_ble_eq_true rfl) dX5_fight_5 ⟨Nat.zero_le _, Nat.zero_le _⟩ (fun r1 u H locs hk hP hS => ?_)
  obtain ⟨eu, hw⟩ := hk
  rw [eu, z_up_self] at hP
  refine lv_if_eq (tgt := 27) hx hb dX5_fight_8 (by decide) (fun c2 => ?_) (fun c2 => ?_)
  · replace hw := hw.1 c2
    refine lv_iconst (v := (-1 : Int32)) hx hb dX5_fight_27 (by decide) ?_
    exact z_reti C hP hS ⟨rfl, hw⟩ dX5_fight_28
  · replace hw := hw.2 c2
    refine lv_aload_n hx hb dX5_fight_11 rfl (lv_at hl 0 rfl) ?_
    refine z_getr (C := RX5) (T := TX5) (N := 7) (ref := "GauntletHall") (o := 18) (d := 0) hx hb hts hfX5 hown hK hP (hC.2 (18, 0) (List.mem_of_getElem? (i := 12) rfl)) z_l_18_0 rfl 1 (by decide) (hts (.fieldLink RX5 19 "GauntletHall" "hall" "LGauntletHall$Hall;") (by decide +kernel)) rfl rfl dX5_fight_12 ?_
    refine lv_iload_n hx hb dX5_fight_15 rfl (lv_at hl 2 rfl) ?_
    have hPc := z_P_self 0 hP
    refine z_vi (C := RX1) (T := TX1) (N := 13) (o := 0) (rest := []) ⟨hx, hb, hml, hown, hts⟩ (m_X1_isPerson l hE hC 0 (by decide) Y (Y 0) x2 _ hw) (cwV 1 hts gX5_fight_X1_isPerson rfl rfl rfl (by decide +kernel) ⟨Nat.le_of_ble_eq_true rfl, Nat.le_of_ble_eq_true rfl⟩) hK hPc hS (hC.1 0 (by decide) (0, 0) (List.mem_of_getElem? (i := 0) rfl)) (z_lH_0 (o := 0) (by decide)) rfl rfl hl.1 rfl (Nat.le_of_ble_eq_true rfl) dX5_fight_16 ⟨Nat.zero_le _, Nat.zero_le _⟩ (fun r3 u H locs hk hP hS => ?_)
    obtain ⟨eu, hw⟩ := hk
    rw [eu, z_up_self] at hP
    refine lv_if_eq (tgt := 27) hx hb dX5_fight_19 (by decide) (fun c4 => ?_) (fun c4 => ?_)
    · replace hw := hw.1 c4
      refine lv_iconst (v := (-1 : Int32)) hx hb dX5_fight_27 (by decide) ?_
      exact z_reti C hP hS ⟨rfl, hw⟩ dX5_fight_28
    · replace hw := hw.2 c4
      refine lv_iload_n hx hb dX5_fight_22 rfl (lv_at hl 1 rfl) ?_
      refine lv_iload_n hx hb dX5_fight_23 rfl (lv_at hl 2 rfl) ?_
      refine lv_icmp_ne (tgt := 29) hx hb dX5_fight_24 (by decide) (fun c5 => ?_) (fun c5 => ?_)
      · replace hw := hw.1 c5
        refine lv_aload_n hx hb dX5_fight_29 rfl (lv_at hl 0 rfl) ?_
        refine z_getr (C := RX5) (T := TX5) (N := 7) (ref := "GauntletHall") (o := 18) (d := 0) hx hb hts hfX5 hown hK hP (hC.2 (18, 0) (List.mem_of_getElem? (i := 12) rfl)) z_l_18_0 rfl 1 (by decide) (hts (.fieldLink RX5 19 "GauntletHall" "hall" "LGauntletHall$Hall;") (by decide +kernel)) rfl rfl dX5_fight_30 ?_
        refine lv_iload_n hx hb dX5_fight_33 rfl (lv_at hl 1 rfl) ?_
        have hPc := z_P_self 0 hP
        refine z_vi (C := RX1) (T := TX1) (N := 13) (o := 0) (rest := []) ⟨hx, hb, hml, hown, hts⟩ (m_X1_isOut l hE hC 0 (by decide) Y (Y 0) x1 _ hw) (cwV 1 hts gX5_fight_X1_isOut rfl rfl rfl (by decide +kernel) ⟨Nat.le_of_ble_eq_true rfl, Nat.le_of_ble_eq_true rfl⟩) hK hPc hS (hC.1 0 (by decide) (0, 0) (List.mem_of_getElem? (i := 0) rfl)) (z_lH_0 (o := 0) (by decide)) rfl rfl hl.1 rfl (Nat.le_of_ble_eq_true rfl) dX5_fight_34 ⟨Nat.zero_le _, Nat.zero_le _⟩ (fun r6 u H locs hk hP hS => ?_)
        obtain ⟨eu, hw⟩ := hk
        rw [eu, z_up_self] at hP
        refine lv_if_ne (tgt := 51) hx hb dX5_fight_37 (by decide) (fun c7 => ?_) (fun c7 => ?_)
        · replace hw := hw.1 c7
          refine lv_bipush (v := (-2 : Int32)) hx hb dX5_fight_51 (by decide) ?_
          exact z_reti C hP hS ⟨rfl, hw⟩ dX5_fight_53
        · replace hw := hw.2 c7
          refine lv_aload_n hx hb dX5_fight_40 rfl (lv_at hl 0 rfl) ?_
          refine z_getr (C := RX5) (T := TX5) (N := 7) (ref := "GauntletHall") (o := 18) (d := 0) hx hb hts hfX5 hown hK hP (hC.2 (18, 0) (List.mem_of_getElem? (i := 12) rfl)) z_l_18_0 rfl 1 (by decide) (hts (.fieldLink RX5 19 "GauntletHall" "hall" "LGauntletHall$Hall;") (by decide +kernel)) rfl rfl dX5_fight_41 ?_
          refine lv_iload_n hx hb dX5_fight_44 rfl (lv_at hl 2 rfl) ?_
          have hPc := z_P_self 0 hP
          refine z_vi (C := RX1) (T := TX1) (N := 13) (o := 0) (rest := []) ⟨hx, hb, hml, hown, hts⟩ (m_X1_isOut l hE hC 0 (by decide) Y (Y 0) x2 _ hw) (cwV 1 hts gX5_fight_X1_isOut rfl rfl rfl (by decide +kernel) ⟨Nat.le_of_ble_eq_true rfl, Nat.le_of_ble_eq_true rfl⟩) hK hPc hS (hC.1 0 (by decide) (0, 0) (List.mem_of_getElem? (i := 0) rfl)) (z_lH_0 (o := 0) (by decide)) rfl rfl hl.1 rfl (Nat.le_of_ble_eq_true rfl) dX5_fight_45 ⟨Nat.zero_le _, Nat.zero_le _⟩ (fun r8 u H locs hk hP hS => ?_)
          obtain ⟨eu, hw⟩ := hk
          rw [eu, z_up_self] at hP
          refine lv_if_eq (tgt := 54) hx hb dX5_fight_48 (by decide) (fun c9 => ?_) (fun c9 => ?_)
          · replace hw := hw.1 c9
            refine lv_aload_n hx hb dX5_fight_54 rfl (lv_at hl 0 rfl) ?_
            refine z_getr (C := RX5) (T := TX5) (N := 7) (ref := "GauntletHall") (o := 18) (d := 0) hx hb hts hfX5 hown hK hP (hC.2 (18, 0) (List.mem_of_getElem? (i := 12) rfl)) z_l_18_0 rfl 1 (by decide) (hts (.fieldLink RX5 19 "GauntletHall" "hall" "LGauntletHall$Hall;") (by decide +kernel)) rfl rfl dX5_fight_55 ?_
            refine z_getr (C := RX1) (T := TX1) (N := 13) (ref := "GauntletHall$Hall") (o := 0) (d := 0) hx hb hts hfX1 hown hK hP (hC.1 0 (by decide) (0, 0) (List.mem_of_getElem? (i := 0) rfl)) (z_lH_0 (o := 0) (by decide)) rfl 5 (by decide) (hts (.fieldLink RX5 97 "GauntletHall$Hall" "might" "[I") (by decide +kernel)) rfl rfl dX5_fight_58 ?_
            refine lv_iload_n hx hb dX5_fight_61 rfl (lv_at hl 1 rfl) ?_
            obtain ⟨i10, hw⟩ := hw
            refine z_iald (o := 0) (d := 5) hx hb hK hP (hC.1 0 (by decide) (0, 5) (List.mem_of_getElem? (i := 2) rfl)) (z_lH_5 (o := 0) (by decide)) i10 rfl dX5_fight_62 ?_
            refine lv_aload_n hx hb dX5_fight_63 rfl (lv_at hl 0 rfl) ?_
            refine z_getr (C := RX5) (T := TX5) (N := 7) (ref := "GauntletHall") (o := 18) (d := 0) hx hb hts hfX5 hown hK hP (hC.2 (18, 0) (List.mem_of_getElem? (i := 12) rfl)) z_l_18_0 rfl 1 (by decide) (hts (.fieldLink RX5 19 "GauntletHall" "hall" "LGauntletHall$Hall;") (by decide +kernel)) rfl rfl dX5_fight_64 ?_
            refine z_getr (C := RX1) (T := TX1) (N := 13) (ref := "GauntletHall$Hall") (o := 0) (d := 0) hx hb hts hfX1 hown hK hP (hC.1 0 (by decide) (0, 0) (List.mem_of_getElem? (i := 0) rfl)) (z_lH_0 (o := 0) (by decide)) rfl 5 (by decide) (hts (.fieldLink RX5 97 "GauntletHall$Hall" "might" "[I") (by decide +kernel)) rfl rfl dX5_fight_67 ?_
            refine lv_iload_n hx hb dX5_fight_70 rfl (lv_at hl 2 rfl) ?_
            obtain ⟨i11, hw⟩ := hw
            refine z_iald (o := 0) (d := 5) hx hb hK hP (hC.1 0 (by decide) (0, 5) (List.mem_of_getElem? (i := 2) rfl)) (z_lH_5 (o := 0) (by decide)) i11 rfl dX5_fight_71 ?_
            refine lv_icmp_ne (tgt := 77) hx hb dX5_fight_72 (by decide) (fun c12 => ?_) (fun c12 => ?_)
            · replace hw := hw.1 c12
              refine lv_aload_n hx hb dX5_fight_77 rfl (lv_at hl 0 rfl) ?_
              refine z_getr (C := RX5) (T := TX5) (N := 7) (ref := "GauntletHall") (o := 18) (d := 0) hx hb hts hfX5 hown hK hP (hC.2 (18, 0) (List.mem_of_getElem? (i := 12) rfl)) z_l_18_0 rfl 1 (by decide) (hts (.fieldLink RX5 19 "GauntletHall" "hall" "LGauntletHall$Hall;") (by decide +kernel)) rfl rfl dX5_fight_78 ?_
              refine z_getr (C := RX1) (T := TX1) (N := 13) (ref := "GauntletHall$Hall") (o := 0) (d := 0) hx hb hts hfX1 hown hK hP (hC.1 0 (by decide) (0, 0) (List.mem_of_getElem? (i := 0) rfl)) (z_lH_0 (o := 0) (by decide)) rfl 5 (by decide) (hts (.fieldLink RX5 97 "GauntletHall$Hall" "might" "[I") (by decide +kernel)) rfl rfl dX5_fight_81 ?_
              refine lv_iload_n hx hb dX5_fight_84 rfl (lv_at hl 1 rfl) ?_
              obtain ⟨i13, hw⟩ := hw
              refine z_iald (o := 0) (d := 5) hx hb hK hP (hC.1 0 (by decide) (0, 5) (List.mem_of_getElem? (i := 2) rfl)) (z_lH_5 (o := 0) (by decide)) i13 rfl dX5_fight_85 ?_
              refine lv_aload_n hx hb dX5_fight_86 rfl (lv_at hl 0 rfl) ?_
              refine z_getr (C := RX5) (T := TX5) (N := 7) (ref := "GauntletHall") (o := 18) (d := 0) hx hb hts hfX5 hown hK hP (hC.2 (18, 0) (List.mem_of_getElem? (i := 12) rfl)) z_l_18_0 rfl 1 (by decide) (hts (.fieldLink RX5 19 "GauntletHall" "hall" "LGauntletHall$Hall;") (by decide +kernel)) rfl rfl dX5_fight_87 ?_
              refine z_getr (C := RX1) (T := TX1) (N := 13) (ref := "GauntletHall$Hall") (o := 0) (d := 0) hx hb hts hfX1 hown hK hP (hC.1 0 (by decide) (0, 0) (List.mem_of_getElem? (i := 0) rfl)) (z_lH_0 (o := 0) (by decide)) rfl 5 (by decide) (hts (.fieldLink RX5 97 "GauntletHall$Hall" "might" "[I") (by decide +kernel)) rfl rfl dX5_fight_90 ?_
              refine lv_iload_n hx hb dX5_fight_93 rfl (lv_at hl 2 rfl) ?_
              obtain ⟨i14, hw⟩ := hw
              refine z_iald (o := 0) (d := 5) hx hb hK hP (hC.1 0 (by decide) (0, 5) (List.mem_of_getElem? (i := 2) rfl)) (z_lH_5 (o := 0) (by decide)) i14 rfl dX5_fight_94 ?_
              refine lv_icmp_le (tgt := 102) hx hb dX5_fight_95 (by decide) (fun c15 => ?_) (fun c15 => ?_)
              · replace hw := hw.1 c15
                refine lv_iconst (v := (0 : Int32)) hx hb dX5_fight_102 (by decide) ?_
                exact z_reti C hP hS ⟨rfl, hw⟩ dX5_fight_103
              · replace hw := hw.2 c15
                refine lv_iconst (v := (1 : Int32)) hx hb dX5_fight_98 (by decide) ?_
                refine lv_goto (tgt := 103) hx hb dX5_fight_99 (by decide) ?_
                exact z_reti C hP hS ⟨rfl, hw⟩ dX5_fight_103
            · replace hw := hw.2 c12
              refine lv_iconst (v := (2 : Int32)) hx hb dX5_fight_75 (by decide) ?_
              exact z_reti C hP hS ⟨rfl, hw⟩ dX5_fight_76
          · replace hw := hw.2 c9
            refine lv_bipush (v := (-2 : Int32)) hx hb dX5_fight_51 (by decide) ?_
            exact z_reti C hP hS ⟨rfl, hw⟩ dX5_fight_53
      · replace hw := hw.2 c5
        refine lv_iconst (v := (-1 : Int32)) hx hb dX5_fight_27 (by decide) ?_
        exact z_reti C hP hS ⟨rfl, hw⟩ dX5_fight_28
set_option maxHeartbeats 4000000 in
set_option maxRecDepth 100000 in
theorem m_X5_first_b32_s {p : Program} {l : Launch} {e : Env} {s : State} {m : MethodId} {args : Array Value} {below : List Frame} {meth : Method} {c : Code} {E : z_E} (C : z_Cx p E s m args meth c cX5_first 6 wsX5_first RX5 (some .int)) (hC : z_cls E) (Y : z_X) (K : Int32 → Prop) (L32 : Int32 → Int32 → Int32 → Int32 → Int32 → Prop) (k32 : ∀ (x1 : Int32) (x2 : Int32) (x3 : Int32) (x4 : Int32) (x5 : Int32), L32 x1 x2 x3 x4 x5 → ∀ {H : Heap} {locs : List Loc}, z_P E Y H → va_S (z_A E) s.heap H locs → ∀ (ls : Array Slot), lv_has ls 6 [(0, .ref (z_a E 18 0)), (1, .int x1), (2, .int x2), (3, .int x3), (4, .int x4), (5, .int x5)] → W p l e rX5_first s m args below meth c H locs 0 0 (MQ below (va_Qi (fun r X' => X' = Y ∧ K r) (fun u t => z_P E u t.heap) (z_A E)) args s 0 0 (z_A E)) (F0 m 32 ls [])) (x1 : Int32) (x2 : Int32) (x3 : Int32) (x4 : Int32) (x5 : Int32) (hw : v_X5_first_b32_s Y K L32 x1 x2 x3 x4 x5) {H : Heap} {locs : List Loc} (hP : z_P E Y H) (hS : va_S (z_A E) s.heap H locs) {ls : Array Slot} (hl : lv_has ls 6 [(0, .ref (z_a E 18 0)), (1, .int x1), (2, .int x2), (3, .int x3), (4, .int x4), (5, .int x5)]) : W p l e rX5_first s m args below meth c H locs 0 0 (MQ below (va_Qi (fun r X' => X' = Y ∧ K r) (fun u t => z_P E u t.heap) (z_A E)) args s 0 0 (z_A E)) (F0 m 32 ls []) := by
  obtain ⟨hx, hb, hml, hr, hlocks, hown, hts, hK, hE⟩ := id C
  have hfX1 : ∀ w ∈ u_ws RX1 TX1 13, w ∈ wsX5_first := by decide +kernel
  have hfX5 : ∀ w ∈ u_ws RX5 TX5 7, w ∈ wsX5_first := by decide +kernel
  unfold v_X5_first_b32_s at hw
  refine lv_iload hx hb dX5_first_32 (lv_at hl 5 rfl) ?_
  refine lv_aload_n hx hb dX5_first_34 rfl (lv_at hl 0 rfl) ?_
  refine z_getr (C := RX5) (T := TX5) (N := 7) (ref := "GauntletHall") (o := 18) (d := 0) hx hb hts hfX5 hown hK hP (hC.2 (18, 0) (List.mem_of_getElem? (i := 12) rfl)) z_l_18_0 rfl 1 (by decide) (hts (.fieldLink RX5 19 "GauntletHall" "hall" "LGauntletHall$Hall;") (by decide +kernel)) rfl rfl dX5_first_35 ?_
  refine z_geti (C := RX1) (T := TX1) (N := 13) (ref := "GauntletHall$Hall") (o := 0) (d := 0) hx hb hts hfX1 hown hK hP (hC.1 0 (by decide) (0, 0) (List.mem_of_getElem? (i := 0) rfl)) (z_lH_0 (o := 0) (by decide)) rfl 1 (by decide) (hts (.fieldLink RX5 151 "GauntletHall$Hall" "gloves" "I") (by decide +kernel)) rfl rfl rfl dX5_first_38 ?_
  refine lv_icmp_ge (tgt := 93) hx hb dX5_first_41 (by decide) (fun c5 => ?_) (fun c5 => ?_)
  · replace hw := hw.1 c5
    refine lv_iload_n hx hb dX5_first_93 rfl (lv_at hl 2 rfl) ?_
    refine lv_if_ne (tgt := 101) hx hb dX5_first_94 (by decide) (fun c6 => ?_) (fun c6 => ?_)
    · replace hw := hw.1 c6
      refine lv_iload hx hb dX5_first_101 (lv_at hl 4 rfl) ?_
      exact z_reti C hP hS ⟨rfl, hw⟩ dX5_first_103
    · replace hw := hw.2 c6
      refine lv_iload_n hx hb dX5_first_97 rfl (lv_at hl 3 rfl) ?_
      refine lv_goto (tgt := 103) hx hb dX5_first_98 (by decide) ?_
      exact z_reti C hP hS ⟨rfl, hw⟩ dX5_first_103
  · replace hw := hw.2 c5
    refine lv_aload_n hx hb dX5_first_44 rfl (lv_at hl 0 rfl) ?_
    refine z_getr (C := RX5) (T := TX5) (N := 7) (ref := "GauntletHall") (o := 18) (d := 0) hx hb hts hfX5 hown hK hP (hC.2 (18, 0) (List.mem_of_getElem? (i := 12) rfl)) z_l_18_0 rfl 1 (by decide) (hts (.fieldLink RX5 19 "GauntletHall" "hall" "LGauntletHall$Hall;") (by decide +kernel)) rfl rfl dX5_first_45 ?_
    refine lv_iload_n hx hb dX5_first_48 rfl (lv_at hl 1 rfl) ?_
    refine lv_iload hx hb dX5_first_49 (lv_at hl 5 rfl) ?_
    have hPc := z_P_self 0 hP
    refine z_vi (C := RX1) (T := TX1) (N := 13) (o := 0) (rest := []) ⟨hx, hb, hml, hown, hts⟩ (m_X1_canTakeUp l hE hC 0 (by decide) Y (Y 0) x1 x5 _ hw) (cwV 2 hts gX5_first_X1_canTakeUp rfl rfl rfl (by decide +kernel) ⟨Nat.le_of_ble_eq_true rfl, Nat.le_of_ble_eq_true rfl⟩) hK hPc hS (hC.1 0 (by decide) (0, 0) (List.mem_of_getElem? (i := 0) rfl)) (z_lH_0 (o := 0) (by decide)) rfl rfl hl.1 rfl (Nat.le_of_ble_eq_true rfl) dX5_first_51 ⟨Nat.zero_le _, Nat.zero_le _⟩ (fun r7 u H locs hk hP hS => ?_)
    obtain ⟨eu, hw⟩ := hk
    rw [eu, z_up_self] at hP
    refine lv_if_eq (tgt := 87) hx hb dX5_first_54 (by decide) (fun c8 => ?_) (fun c8 => ?_)
    · replace hw := hw.1 c8
      obtain ⟨y9, ey9⟩ : ∃ z : Int32, z = x5 + (1 : Int32) := ⟨_, rfl⟩
      replace hw := hw y9 ey9
      refine lv_iinc (v := y9) (lv' := [(5, .int y9), (0, .ref (z_a E 18 0)), (1, .int x1), (2, .int x2), (3, .int x3), (4, .int x4)]) hx hb dX5_first_87 hl (k := 5) rfl (by rw [ey9]; rfl) (by decide) rfl (fun ls hl => ?_)
      refine lv_goto (tgt := 32) hx hb dX5_first_90 (by decide) ?_
      exact k32 x1 x2 x3 x4 y9 hw hP hS _ (lv_sub hl [1, 2, 3, 4, 5, 0] rfl)
    · replace hw := hw.2 c8
      refine lv_aload_n hx hb dX5_first_57 rfl (lv_at hl 0 rfl) ?_
      refine z_getr (C := RX5) (T := TX5) (N := 7) (ref := "GauntletHall") (o := 18) (d := 0) hx hb hts hfX5 hown hK hP (hC.2 (18, 0) (List.mem_of_getElem? (i := 12) rfl)) z_l_18_0 rfl 1 (by decide) (hts (.fieldLink RX5 19 "GauntletHall" "hall" "LGauntletHall$Hall;") (by decide +kernel)) rfl rfl dX5_first_58 ?_
      refine lv_iload_n hx hb dX5_first_61 rfl (lv_at hl 1 rfl) ?_
      refine lv_iload hx hb dX5_first_62 (lv_at hl 5 rfl) ?_
      have hPc := z_P_self 0 hP
      refine z_vi (C := RX1) (T := TX1) (N := 13) (o := 0) (rest := []) ⟨hx, hb, hml, hown, hts⟩ (m_X1_mightByTaking l hE hC 0 (by decide) Y (Y 0) x1 x5 _ hw) (cwV 2 hts gX5_first_X1_mightByTaking rfl rfl rfl (by decide +kernel) ⟨Nat.le_of_ble_eq_true rfl, Nat.le_of_ble_eq_true rfl⟩) hK hPc hS (hC.1 0 (by decide) (0, 0) (List.mem_of_getElem? (i := 0) rfl)) (z_lH_0 (o := 0) (by decide)) rfl rfl hl.1 rfl (Nat.le_of_ble_eq_true rfl) dX5_first_64 ⟨Nat.zero_le _, Nat.zero_le _⟩ (fun r10 u H locs hk hP hS => ?_)
      obtain ⟨eu, hw⟩ := hk
      rw [eu, z_up_self] at hP
      refine lv_iload hx hb dX5_first_67 (lv_at hl 4 rfl) ?_
      refine lv_icmp_le (tgt := 87) hx hb dX5_first_69 (by decide) (fun c11 => ?_) (fun c11 => ?_)
      · replace hw := hw.1 c11
        obtain ⟨y12, ey12⟩ : ∃ z : Int32, z = x5 + (1 : Int32) := ⟨_, rfl⟩
        replace hw := hw y12 ey12
        refine lv_iinc (v := y12) (lv' := [(5, .int y12), (0, .ref (z_a E 18 0)), (1, .int x1), (2, .int x2), (3, .int x3), (4, .int x4)]) hx hb dX5_first_87 hl (k := 5) rfl (by rw [ey12]; rfl) (by decide) rfl (fun ls hl => ?_)
        refine lv_goto (tgt := 32) hx hb dX5_first_90 (by decide) ?_
        exact k32 x1 x2 x3 x4 y12 hw hP hS _ (lv_sub hl [1, 2, 3, 4, 5, 0] rfl)
      · replace hw := hw.2 c11
        refine lv_iload hx hb dX5_first_72 (lv_at hl 5 rfl) ?_
        refine lv_istore_n (lv' := [(3, .int x5), (0, .ref (z_a E 18 0)), (1, .int x1), (2, .int x2), (4, .int x4), (5, .int x5)]) hx hb dX5_first_74 rfl hl (by decide) rfl (fun ls hl => ?_)
        refine lv_aload_n hx hb dX5_first_75 rfl (lv_at hl 1 rfl) ?_
        refine z_getr (C := RX5) (T := TX5) (N := 7) (ref := "GauntletHall") (o := 18) (d := 0) hx hb hts hfX5 hown hK hP (hC.2 (18, 0) (List.mem_of_getElem? (i := 12) rfl)) z_l_18_0 rfl 1 (by decide) (hts (.fieldLink RX5 19 "GauntletHall" "hall" "LGauntletHall$Hall;") (by decide +kernel)) rfl rfl dX5_first_76 ?_
        refine lv_iload_n hx hb dX5_first_79 rfl (lv_at hl 2 rfl) ?_
        refine lv_iload hx hb dX5_first_80 (lv_at hl 5 rfl) ?_
        have hPc := z_P_self 0 hP
        refine z_vi (C := RX1) (T := TX1) (N := 13) (o := 0) (rest := []) ⟨hx, hb, hml, hown, hts⟩ (m_X1_mightByTaking l hE hC 0 (by decide) Y (Y 0) x1 x5 _ hw) (cwV 2 hts gX5_first_X1_mightByTaking rfl rfl rfl (by decide +kernel) ⟨Nat.le_of_ble_eq_true rfl, Nat.le_of_ble_eq_true rfl⟩) hK hPc hS (hC.1 0 (by decide) (0, 0) (List.mem_of_getElem? (i := 0) rfl)) (z_lH_0 (o := 0) (by decide)) rfl rfl hl.1 rfl (Nat.le_of_ble_eq_true rfl) dX5_first_82 ⟨Nat.zero_le _, Nat.zero_le _⟩ (fun r13 u H locs hk hP hS => ?_)
        obtain ⟨eu, hw⟩ := hk
        rw [eu, z_up_self] at hP
        refine lv_istore (lv' := [(4, .int r13), (3, .int x5), (0, .ref (z_a E 18 0)), (1, .int x1), (2, .int x2), (5, .int x5)]) hx hb dX5_first_85 hl (by decide) rfl (fun ls hl => ?_)
        obtain ⟨y14, ey14⟩ : ∃ z : Int32, z = x5 + (1 : Int32) := ⟨_, rfl⟩
        replace hw := hw y14 ey14
        refine lv_iinc (v := y14) (lv' := [(5, .int y14), (4, .int r13), (3, .int x5), (0, .ref (z_a E 18 0)), (1, .int x1), (2, .int x2)]) hx hb dX5_first_87 hl (k := 5) rfl (by rw [ey14]; rfl) (by decide) rfl (fun ls hl => ?_)
        refine lv_goto (tgt := 32) hx hb dX5_first_90 (by decide) ?_
        exact k32 x1 x2 x5 r13 y14 hw hP hS _ (lv_sub hl [3, 4, 5, 2, 1, 0] rfl)
theorem m_X5_first_b32 {p : Program} {l : Launch} {e : Env} {s : State} {m : MethodId} {args : Array Value} {below : List Frame} {meth : Method} {c : Code} {E : z_E} (C : z_Cx p E s m args meth c cX5_first 6 wsX5_first RX5 (some .int)) (hC : z_cls E) (Y : z_X) (K : Int32 → Prop) (x1 : Int32) (x2 : Int32) (x3 : Int32) (x4 : Int32) (x5 : Int32) (hw : v_X5_first_b32 Y K x1 x2 x3 x4 x5) {H : Heap} {locs : List Loc} (hP : z_P E Y H) (hS : va_S (z_A E) s.heap H locs) {ls : Array Slot} (hl : lv_has ls 6 [(0, .ref (z_a E 18 0)), (1, .int x1), (2, .int x2), (3, .int x3), (4, .int x4), (5, .int x5)]) : W p l e rX5_first s m args below meth c H locs 0 0 (MQ below (va_Qi (fun r X' => X' = Y ∧ K r) (fun u t => z_P E u t.heap) (z_A E)) args s 0 0 (z_A E)) (F0 m 32 ls []) := by
  obtain ⟨n, hw⟩ := hw
  revert hw hP hS hl
  revert x1 x2 x3 x4 x5 H locs ls
  induction n with
  | zero => intro x1 x2 x3 x4 x5 H locs ls hP hS hl hw; exact hw.elim
  | succ n ih =>
    intro x1 x2 x3 x4 x5 H locs ls hP hS hl hw
    exact m_X5_first_b32_s C hC Y K (fun x1 x2 x3 x4 x5 => z_fp (σ := Int32 × Int32 × Int32 × Int32 × Int32) (fun Lp q => v_X5_first_b32_s Y K (fun x1 x2 x3 x4 x5 => Lp (x1, x2, x3, x4, x5)) q.1 q.2.1 q.2.2.1 q.2.2.2.1 q.2.2.2.2) n (x1, x2, x3, x4, x5)) (fun x1 x2 x3 x4 x5 h9 H locs hP hS ls hl => ih x1 x2 x3 x4 x5 hP hS hl h9) x1 x2 x3 x4 x5 hw hP hS hl
set_option maxHeartbeats 4000000 in
set_option maxRecDepth 100000 in
theorem m_X5_first (l : Launch) {E : z_E} (hE : z_ok E) (hC : z_cls E) (Y : z_X) (x1 : Int32) (x2 : Int32) (K : Int32 → Prop) (hw : v_X5_first Y x1 x2 K) : z_CI l E yX5_first wsX5_first rX5_first [.ref (z_a E 18 0), .int x1, .int x2] Y (fun r X' => X' = Y ∧ K r) := by
  refine z_start (cc := cX5_first) (maxL := 6) (ret := (some .int)) hE (by decide) rfl (Nat.le_of_ble_eq_true rfl) ?_
  intro p e s m below meth c C hP hS ls hl
  have C : z_Cx p E s m _ meth c cX5_first 6 wsX5_first RX5 (some .int) := C
  obtain ⟨hx, hb, hml, hr, hlocks, hown, hts, hK, hE⟩ := id C
  have hl : lv_has ls 6 [(0, .ref (z_a E 18 0)), (1, .int x1), (2, .int x2)] := hl
  have hfX1 : ∀ w ∈ u_ws RX1 TX1 13, w ∈ wsX5_first := by decide +kernel
  have hfX5 : ∀ w ∈ u_ws RX5 TX5 7, w ∈ wsX5_first := by decide +kernel
  unfold v_X5_first at hw
  refine lv_aload_n hx hb dX5_first_0 rfl (lv_at hl 0 rfl) ?_
  refine z_getr (C := RX5) (T := TX5) (N := 7) (ref := "GauntletHall") (o := 18) (d := 0) hx hb hts hfX5 hown hK hP (hC.2 (18, 0) (List.mem_of_getElem? (i := 12) rfl)) z_l_18_0 rfl 1 (by decide) (hts (.fieldLink RX5 19 "GauntletHall" "hall" "LGauntletHall$Hall;") (by decide +kernel)) rfl rfl dX5_first_1 ?_
  refine lv_iload_n hx hb dX5_first_4 rfl (lv_at hl 1 rfl) ?_
  have hPc := z_P_self 0 hP
  refine z_vi (C := RX1) (T := TX1) (N := 13) (o := 0) (rest := []) ⟨hx, hb, hml, hown, hts⟩ (m_X1_isPerson l hE hC 0 (by decide) Y (Y 0) x1 _ hw) (cwV 1 hts gX5_first_X1_isPerson rfl rfl rfl (by decide +kernel) ⟨Nat.le_of_ble_eq_true rfl, Nat.le_of_ble_eq_true rfl⟩) hK hPc hS (hC.1 0 (by decide) (0, 0) (List.mem_of_getElem? (i := 0) rfl)) (z_lH_0 (o := 0) (by decide)) rfl rfl hl.1 rfl (Nat.le_of_ble_eq_true rfl) dX5_first_5 ⟨Nat.zero_le _, Nat.zero_le _⟩ (fun r1 u H locs hk hP hS => ?_)
  obtain ⟨eu, hw⟩ := hk
  rw [eu, z_up_self] at hP
  refine lv_if_eq (tgt := 20) hx hb dX5_first_8 (by decide) (fun c2 => ?_) (fun c2 => ?_)
  · replace hw := hw.1 c2
    refine lv_iconst (v := (-1 : Int32)) hx hb dX5_first_20 (by decide) ?_
    exact z_reti C hP hS ⟨rfl, hw⟩ dX5_first_21
  · replace hw := hw.2 c2
    refine lv_iload_n hx hb dX5_first_11 rfl (lv_at hl 2 rfl) ?_
    refine lv_iconst (v := (0 : Int32)) hx hb dX5_first_12 (by decide) ?_
    refine lv_iconst (v := (1 : Int32)) hx hb dX5_first_13 (by decide) ?_
    refine z_si (rest := []) ⟨hx, hb, hml, hown, hts⟩ (m_X5_within l hE Y x2 (0 : Int32) (1 : Int32) _ hw) (va_cwS 3 hts gX5_first_X5_within rfl rfl rfl (by decide +kernel) ⟨Nat.le_of_ble_eq_true rfl, Nat.le_of_ble_eq_true rfl⟩) hK hP hS rfl hl.1 rfl (Nat.le_of_ble_eq_true rfl) dX5_first_14 ⟨Nat.zero_le _, Nat.zero_le _⟩ (fun r3 u H locs hk hP hS => ?_)
    obtain ⟨eu, hw⟩ := hk
    rw [eu] at hP
    refine lv_if_ne (tgt := 22) hx hb dX5_first_17 (by decide) (fun c4 => ?_) (fun c4 => ?_)
    · replace hw := hw.1 c4
      refine lv_bipush (v := (-4 : Int32)) hx hb dX5_first_22 (by decide) ?_
      refine lv_istore_n (lv' := [(3, .int (-4 : Int32)), (0, .ref (z_a E 18 0)), (1, .int x1), (2, .int x2)]) hx hb dX5_first_24 rfl hl (by decide) rfl (fun ls hl => ?_)
      refine lv_bipush (v := (-4 : Int32)) hx hb dX5_first_25 (by decide) ?_
      refine lv_istore (lv' := [(4, .int (-4 : Int32)), (3, .int (-4 : Int32)), (0, .ref (z_a E 18 0)), (1, .int x1), (2, .int x2)]) hx hb dX5_first_27 hl (by decide) rfl (fun ls hl => ?_)
      refine lv_iconst (v := (0 : Int32)) hx hb dX5_first_29 (by decide) ?_
      refine lv_istore (lv' := [(5, .int (0 : Int32)), (4, .int (-4 : Int32)), (3, .int (-4 : Int32)), (0, .ref (z_a E 18 0)), (1, .int x1), (2, .int x2)]) hx hb dX5_first_30 hl (by decide) rfl (fun ls hl => ?_)
      exact m_X5_first_b32 C hC Y K x1 x2 (-4 : Int32) (-4 : Int32) (0 : Int32) hw hP hS (lv_sub hl [3, 4, 5, 2, 1, 0] rfl)
    · replace hw := hw.2 c4
      refine lv_iconst (v := (-1 : Int32)) hx hb dX5_first_20 (by decide) ?_
      exact z_reti C hP hS ⟨rfl, hw⟩ dX5_first_21
set_option maxHeartbeats 4000000 in
set_option maxRecDepth 100000 in
theorem m_X5_fits (l : Launch) {E : z_E} (hE : z_ok E) (hC : z_cls E) (Y : z_X) (x1 : Int32) (x2 : Int32) (K : Int32 → Prop) (hw : v_X5_fits Y x1 x2 K) : z_CI l E yX5_fits wsX5_fits rX5_fits [.ref (z_a E 18 0), .int x1, .int x2] Y (fun r X' => X' = Y ∧ K r) := by
  refine z_start (cc := cX5_fits) (maxL := 3) (ret := (some .int)) hE (by decide) rfl (Nat.le_of_ble_eq_true rfl) ?_
  intro p e s m below meth c C hP hS ls hl
  have C : z_Cx p E s m _ meth c cX5_fits 3 wsX5_fits RX5 (some .int) := C
  obtain ⟨hx, hb, hml, hr, hlocks, hown, hts, hK, hE⟩ := id C
  have hl : lv_has ls 3 [(0, .ref (z_a E 18 0)), (1, .int x1), (2, .int x2)] := hl
  have hfX5 : ∀ w ∈ u_ws RX5 TX5 7, w ∈ wsX5_fits := by decide +kernel
  unfold v_X5_fits at hw
  refine lv_aload_n hx hb dX5_fits_0 rfl (lv_at hl 0 rfl) ?_
  refine z_getr (C := RX5) (T := TX5) (N := 7) (ref := "GauntletHall") (o := 18) (d := 0) hx hb hts hfX5 hown hK hP (hC.2 (18, 0) (List.mem_of_getElem? (i := 12) rfl)) z_l_18_0 rfl 1 (by decide) (hts (.fieldLink RX5 19 "GauntletHall" "hall" "LGauntletHall$Hall;") (by decide +kernel)) rfl rfl dX5_fits_1 ?_
  refine lv_iload_n hx hb dX5_fits_4 rfl (lv_at hl 1 rfl) ?_
  have hPc := z_P_self 0 hP
  refine z_vi (C := RX1) (T := TX1) (N := 13) (o := 0) (rest := []) ⟨hx, hb, hml, hown, hts⟩ (m_X1_isGlove l hE hC 0 (by decide) Y (Y 0) x1 _ hw) (cwV 1 hts gX5_fits_X1_isGlove rfl rfl rfl (by decide +kernel) ⟨Nat.le_of_ble_eq_true rfl, Nat.le_of_ble_eq_true rfl⟩) hK hPc hS (hC.1 0 (by decide) (0, 0) (List.mem_of_getElem? (i := 0) rfl)) (z_lH_0 (o := 0) (by decide)) rfl rfl hl.1 rfl (Nat.le_of_ble_eq_true rfl) dX5_fits_5 ⟨Nat.zero_le _, Nat.zero_le _⟩ (fun r1 u H locs hk hP hS => ?_)
  obtain ⟨eu, hw⟩ := hk
  rw [eu, z_up_self] at hP
  refine lv_if_eq (tgt := 22) hx hb dX5_fits_8 (by decide) (fun c2 => ?_) (fun c2 => ?_)
  · replace hw := hw.1 c2
    refine lv_iconst (v := (-1 : Int32)) hx hb dX5_fits_22 (by decide) ?_
    exact z_reti C hP hS ⟨rfl, hw⟩ dX5_fits_23
  · replace hw := hw.2 c2
    refine lv_aload_n hx hb dX5_fits_11 rfl (lv_at hl 0 rfl) ?_
    refine z_getr (C := RX5) (T := TX5) (N := 7) (ref := "GauntletHall") (o := 18) (d := 0) hx hb hts hfX5 hown hK hP (hC.2 (18, 0) (List.mem_of_getElem? (i := 12) rfl)) z_l_18_0 rfl 1 (by decide) (hts (.fieldLink RX5 19 "GauntletHall" "hall" "LGauntletHall$Hall;") (by decide +kernel)) rfl rfl dX5_fits_12 ?_
    refine lv_iload_n hx hb dX5_fits_15 rfl (lv_at hl 2 rfl) ?_
    have hPc := z_P_self 0 hP
    refine z_vi (C := RX1) (T := TX1) (N := 13) (o := 0) (rest := []) ⟨hx, hb, hml, hown, hts⟩ (m_X1_isPerson l hE hC 0 (by decide) Y (Y 0) x2 _ hw) (cwV 1 hts gX5_fits_X1_isPerson rfl rfl rfl (by decide +kernel) ⟨Nat.le_of_ble_eq_true rfl, Nat.le_of_ble_eq_true rfl⟩) hK hPc hS (hC.1 0 (by decide) (0, 0) (List.mem_of_getElem? (i := 0) rfl)) (z_lH_0 (o := 0) (by decide)) rfl rfl hl.1 rfl (Nat.le_of_ble_eq_true rfl) dX5_fits_16 ⟨Nat.zero_le _, Nat.zero_le _⟩ (fun r3 u H locs hk hP hS => ?_)
    obtain ⟨eu, hw⟩ := hk
    rw [eu, z_up_self] at hP
    refine lv_if_ne (tgt := 24) hx hb dX5_fits_19 (by decide) (fun c4 => ?_) (fun c4 => ?_)
    · replace hw := hw.1 c4
      refine lv_aload_n hx hb dX5_fits_24 rfl (lv_at hl 0 rfl) ?_
      refine z_getr (C := RX5) (T := TX5) (N := 7) (ref := "GauntletHall") (o := 18) (d := 0) hx hb hts hfX5 hown hK hP (hC.2 (18, 0) (List.mem_of_getElem? (i := 12) rfl)) z_l_18_0 rfl 1 (by decide) (hts (.fieldLink RX5 19 "GauntletHall" "hall" "LGauntletHall$Hall;") (by decide +kernel)) rfl rfl dX5_fits_25 ?_
      refine lv_iload_n hx hb dX5_fits_28 rfl (lv_at hl 2 rfl) ?_
      refine lv_iload_n hx hb dX5_fits_29 rfl (lv_at hl 1 rfl) ?_
      have hPc := z_P_self 0 hP
      refine z_vi (C := RX1) (T := TX1) (N := 13) (o := 0) (rest := []) ⟨hx, hb, hml, hown, hts⟩ (m_X1_canTakeUp l hE hC 0 (by decide) Y (Y 0) x2 x1 _ hw) (cwV 2 hts gX5_fits_X1_canTakeUp rfl rfl rfl (by decide +kernel) ⟨Nat.le_of_ble_eq_true rfl, Nat.le_of_ble_eq_true rfl⟩) hK hPc hS (hC.1 0 (by decide) (0, 0) (List.mem_of_getElem? (i := 0) rfl)) (z_lH_0 (o := 0) (by decide)) rfl rfl hl.1 rfl (Nat.le_of_ble_eq_true rfl) dX5_fits_30 ⟨Nat.zero_le _, Nat.zero_le _⟩ (fun r5 u H locs hk hP hS => ?_)
      obtain ⟨eu, hw⟩ := hk
      rw [eu, z_up_self] at hP
      refine lv_if_eq (tgt := 40) hx hb dX5_fits_33 (by decide) (fun c6 => ?_) (fun c6 => ?_)
      · replace hw := hw.1 c6
        refine lv_iconst (v := (0 : Int32)) hx hb dX5_fits_40 (by decide) ?_
        exact z_reti C hP hS ⟨rfl, hw⟩ dX5_fits_41
      · replace hw := hw.2 c6
        refine lv_iconst (v := (1 : Int32)) hx hb dX5_fits_36 (by decide) ?_
        refine lv_goto (tgt := 41) hx hb dX5_fits_37 (by decide) ?_
        exact z_reti C hP hS ⟨rfl, hw⟩ dX5_fits_41
    · replace hw := hw.2 c4
      refine lv_iconst (v := (-1 : Int32)) hx hb dX5_fits_22 (by decide) ?_
      exact z_reti C hP hS ⟨rfl, hw⟩ dX5_fits_23
set_option maxHeartbeats 4000000 in
set_option maxRecDepth 100000 in
theorem m_X5_forget (l : Launch) {E : z_E} (hE : z_ok E) (hC : z_cls E) (Y : z_X) (K : Int32 → z_X → Prop) (hw : v_X5_forget Y K) : z_CI l E yX5_forget wsX5_forget rX5_forget [.ref (z_a E 18 0)] Y K := by
  refine z_start (cc := cX5_forget) (maxL := 2) (ret := (some .int)) hE (by decide) rfl (Nat.le_of_ble_eq_true rfl) ?_
  intro p e s m below meth c C hP hS ls hl
  have C : z_Cx p E s m _ meth c cX5_forget 2 wsX5_forget RX5 (some .int) := C
  obtain ⟨hx, hb, hml, hr, hlocks, hown, hts, hK, hE⟩ := id C
  have hl : lv_has ls 2 [(0, .ref (z_a E 18 0))] := hl
  have hfX4 : ∀ w ∈ u_ws RX4 TX4 4, w ∈ wsX5_forget := by decide +kernel
  have hfX5 : ∀ w ∈ u_ws RX5 TX5 7, w ∈ wsX5_forget := by decide +kernel
  unfold v_X5_forget at hw
  refine lv_aload_n hx hb dX5_forget_0 rfl (lv_at hl 0 rfl) ?_
  refine z_getr (C := RX5) (T := TX5) (N := 7) (ref := "GauntletHall") (o := 18) (d := 0) hx hb hts hfX5 hown hK hP (hC.2 (18, 0) (List.mem_of_getElem? (i := 12) rfl)) z_l_18_0 rfl 5 (by decide) (hts (.fieldLink RX5 41 "GauntletHall" "sightings" "LGauntletHall$Sightings;") (by decide +kernel)) rfl rfl dX5_forget_1 ?_
  refine z_geti (C := RX4) (T := TX4) (N := 4) (ref := "GauntletHall$Sightings") (o := 16) (d := 0) hx hb hts hfX4 hown hK hP (hC.2 (16, 0) (List.mem_of_getElem? (i := 7) rfl)) z_l_16_0 rfl 0 (by decide) (hts (.fieldLink RX5 89 "GauntletHall$Sightings" "count" "I") (by decide +kernel)) rfl rfl rfl dX5_forget_4 ?_
  refine lv_topi (fun y1 ey1 => ?_)
  replace hw := hw y1 ey1
  refine lv_istore_n (lv' := [(1, .int y1), (0, .ref (z_a E 18 0))]) hx hb dX5_forget_7 rfl hl (by decide) rfl (fun ls hl => ?_)
  refine lv_aload_n hx hb dX5_forget_8 rfl (lv_at hl 1 rfl) ?_
  refine z_getr (C := RX5) (T := TX5) (N := 7) (ref := "GauntletHall") (o := 18) (d := 0) hx hb hts hfX5 hown hK hP (hC.2 (18, 0) (List.mem_of_getElem? (i := 12) rfl)) z_l_18_0 rfl 5 (by decide) (hts (.fieldLink RX5 41 "GauntletHall" "sightings" "LGauntletHall$Sightings;") (by decide +kernel)) rfl rfl dX5_forget_9 ?_
  refine lv_iconst (v := (0 : Int32)) hx hb dX5_forget_12 (by decide) ?_
  obtain ⟨Y2, eY2⟩ : ∃ z : z_X, z = z_up Y 16 (z_ss (Y 16) 0 0 (0 : Int32)) := ⟨_, rfl⟩
  replace hw := hw Y2 eY2
  refine z_puti (C := RX4) (T := TX4) (N := 4) (ref := "GauntletHall$Sightings") (o := 16) (d := 0) (X' := Y2) hx hb hts hfX4 tyX4 tyX4_ok nmX4 hown hK hE hP hS (hC.2 (16, 0) (List.mem_of_getElem? (i := 7) rfl)) z_l_16_0 rfl 0 (by decide) (hts (.fieldLink RX5 89 "GauntletHall$Sightings" "count" "I") (by decide +kernel)) rfl rfl (by decide +kernel) rfl eY2.symm dX5_forget_13 (fun H locs hP hS => ?_)
  refine lv_iload_n hx hb dX5_forget_16 rfl (lv_at hl 0 rfl) ?_
  exact z_reti C hP hS hw dX5_forget_17
