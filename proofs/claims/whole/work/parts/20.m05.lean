/-! ===== PRINTED (wip/whole/gen/gen.py): the machine meets each definition: X2.readInto, X3.bringBack, X3.put, X4.add, X4.allowGlove, X4.allowHand, X5.back ===== -/
set_option maxHeartbeats 4000000 in
set_option maxRecDepth 100000 in
theorem m_X2_readInto_b11_s {p : Program} {l : Launch} {e : Env} {s : State} {m : MethodId} {args : Array Value} {below : List Frame} {meth : Method} {c : Code} {E : z_E} (C : z_Cx p E s m args meth c cX2_readInto 4 wsX2_readInto RX2 (some .int)) (hC : z_cls E) (o : Nat) (ho : o < 13) (K : Int32 → z_X → Prop) (L11 : z_X → Int32 → Prop) (k11 : ∀ (Y : z_X) (x2 : Int32), L11 Y x2 → ∀ {H : Heap} {locs : List Loc}, z_P E Y H → va_S (z_A E) s.heap H locs → ∀ (ls : Array Slot), lv_has ls 4 [(0, .ref (z_a E 13 0)), (1, .ref (z_a E o 0)), (2, .int x2)] → W p l e rX2_readInto s m args below meth c H locs 0 0 (MQ below (va_Qi K (fun u t => z_P E u t.heap) (z_A E)) args s 0 0 (z_A E)) (F0 m 11 ls [])) (Y : z_X) (x2 : Int32) (hw : v_X2_readInto_b11_s o K L11 Y x2) {H : Heap} {locs : List Loc} (hP : z_P E Y H) (hS : va_S (z_A E) s.heap H locs) {ls : Array Slot} (hl : lv_has ls 4 [(0, .ref (z_a E 13 0)), (1, .ref (z_a E o 0)), (2, .int x2)]) : W p l e rX2_readInto s m args below meth c H locs 0 0 (MQ below (va_Qi K (fun u t => z_P E u t.heap) (z_A E)) args s 0 0 (z_A E)) (F0 m 11 ls []) := by
  obtain ⟨hx, hb, hml, hr, hlocks, hown, hts, hK, hE⟩ := id C
  have hfX2 : ∀ w ∈ u_ws RX2 TX2 4, w ∈ wsX2_readInto := by decide +kernel
  unfold v_X2_readInto_b11_s at hw
  refine lv_iload_n hx hb dX2_readInto_11 rfl (lv_at hl 2 rfl) ?_
  refine lv_sipush (v := (200 : Int32)) hx hb dX2_readInto_12 (by decide) ?_
  refine lv_icmp_ge (tgt := 50) hx hb dX2_readInto_15 (by decide) (fun c4 => ?_) (fun c4 => ?_)
  · replace hw := hw.1 c4
    refine lv_bipush (v := (-4 : Int32)) hx hb dX2_readInto_50 (by decide) ?_
    exact z_reti C hP hS hw dX2_readInto_52
  · replace hw := hw.2 c4
    refine lv_aload_n hx hb dX2_readInto_18 rfl (lv_at hl 0 rfl) ?_
    refine z_geti (C := RX2) (T := TX2) (N := 4) (ref := "GauntletHall$Scroll") (o := 13) (d := 0) hx hb hts hfX2 hown hK hP (hC.2 (13, 0) (List.mem_of_getElem? (i := 0) rfl)) z_l_13_0 rfl 1 (by decide) (hts (.fieldLink RX2 15 "GauntletHall$Scroll" "place" "I") (by decide +kernel)) rfl rfl rfl dX2_readInto_19 ?_
    refine lv_aload_n hx hb dX2_readInto_22 rfl (lv_at hl 0 rfl) ?_
    refine z_geti (C := RX2) (T := TX2) (N := 4) (ref := "GauntletHall$Scroll") (o := 13) (d := 0) hx hb hts hfX2 hown hK hP (hC.2 (13, 0) (List.mem_of_getElem? (i := 0) rfl)) z_l_13_0 rfl 0 (by decide) (hts (.fieldLink RX2 9 "GauntletHall$Scroll" "length" "I") (by decide +kernel)) rfl rfl rfl dX2_readInto_23 ?_
    refine lv_icmp_ge (tgt := 50) hx hb dX2_readInto_26 (by decide) (fun c5 => ?_) (fun c5 => ?_)
    · replace hw := hw.1 c5
      refine lv_bipush (v := (-4 : Int32)) hx hb dX2_readInto_50 (by decide) ?_
      exact z_reti C hP hS hw dX2_readInto_52
    · replace hw := hw.2 c5
      refine lv_aload_n hx hb dX2_readInto_29 rfl (lv_at hl 0 rfl) ?_
      refine z_geti (C := RX2) (T := TX2) (N := 4) (ref := "GauntletHall$Scroll") (o := 13) (d := 0) hx hb hts hfX2 hown hK hP (hC.2 (13, 0) (List.mem_of_getElem? (i := 0) rfl)) z_l_13_0 rfl 1 (by decide) (hts (.fieldLink RX2 15 "GauntletHall$Scroll" "place" "I") (by decide +kernel)) rfl rfl rfl dX2_readInto_30 ?_
      refine lv_topi (fun y6 ey6 => ?_)
      replace hw := hw y6 ey6
      refine lv_istore_n (lv' := [(3, .int y6), (0, .ref (z_a E 13 0)), (1, .ref (z_a E o 0)), (2, .int x2)]) hx hb dX2_readInto_33 rfl hl (by decide) rfl (fun ls hl => ?_)
      refine lv_aload_n hx hb dX2_readInto_34 rfl (lv_at hl 1 rfl) ?_
      refine lv_aload_n hx hb dX2_readInto_35 rfl (lv_at hl 2 rfl) ?_
      refine z_vi (C := RX2) (T := TX2) (N := 4) (o := 13) (rest := []) ⟨hx, hb, hml, hown, hts⟩ (m_X2_readItem l hE hC o ho Y _ hw) (cwV 1 hts gX2_readInto_X2_readItem rfl rfl rfl (by decide +kernel) ⟨Nat.le_of_ble_eq_true rfl, Nat.le_of_ble_eq_true rfl⟩) hK hP hS (hC.2 (13, 0) (List.mem_of_getElem? (i := 0) rfl)) z_l_13_0 rfl rfl hl.1 rfl (Nat.le_of_ble_eq_true rfl) dX2_readInto_36 ⟨Nat.zero_le _, Nat.zero_le _⟩ (fun r7 Y8 H locs hk hP hS => ?_)
      replace hw := hk
      refine lv_if_ne (tgt := 44) hx hb dX2_readInto_39 (by decide) (fun c9 => ?_) (fun c9 => ?_)
      · replace hw := hw.1 c9
        obtain ⟨y10, ey10⟩ : ∃ z : Int32, z = x2 + (1 : Int32) := ⟨_, rfl⟩
        replace hw := hw y10 ey10
        refine lv_iinc (v := y10) (lv' := [(2, .int y10), (3, .int y6), (0, .ref (z_a E 13 0)), (1, .ref (z_a E o 0))]) hx hb dX2_readInto_44 hl (k := 3) rfl (by rw [ey10]; rfl) (by decide) rfl (fun ls hl => ?_)
        refine lv_goto (tgt := 11) hx hb dX2_readInto_47 (by decide) ?_
        exact k11 Y8 y10 hw hP hS _ (lv_sub hl [2, 3, 0] rfl)
      · replace hw := hw.2 c9
        refine lv_iload_n hx hb dX2_readInto_42 rfl (lv_at hl 0 rfl) ?_
        exact z_reti C hP hS hw dX2_readInto_43
theorem m_X2_readInto_b11 {p : Program} {l : Launch} {e : Env} {s : State} {m : MethodId} {args : Array Value} {below : List Frame} {meth : Method} {c : Code} {E : z_E} (C : z_Cx p E s m args meth c cX2_readInto 4 wsX2_readInto RX2 (some .int)) (hC : z_cls E) (o : Nat) (ho : o < 13) (K : Int32 → z_X → Prop) (Y : z_X) (x2 : Int32) (hw : v_X2_readInto_b11 o K Y x2) {H : Heap} {locs : List Loc} (hP : z_P E Y H) (hS : va_S (z_A E) s.heap H locs) {ls : Array Slot} (hl : lv_has ls 4 [(0, .ref (z_a E 13 0)), (1, .ref (z_a E o 0)), (2, .int x2)]) : W p l e rX2_readInto s m args below meth c H locs 0 0 (MQ below (va_Qi K (fun u t => z_P E u t.heap) (z_A E)) args s 0 0 (z_A E)) (F0 m 11 ls []) := by
  obtain ⟨n, hw⟩ := hw
  revert hw hP hS hl
  revert Y x2 H locs ls
  induction n with
  | zero => intro Y x2 H locs ls hP hS hl hw; exact hw.elim
  | succ n ih =>
    intro Y x2 H locs ls hP hS hl hw
    exact m_X2_readInto_b11_s C hC o ho K (fun Y x2 => z_fp (σ := z_X × Int32) (fun Lp q => v_X2_readInto_b11_s o K (fun Y x2 => Lp (Y, x2)) q.1 q.2) n (Y, x2)) (fun Y x2 h9 H locs hP hS ls hl => ih Y x2 hP hS hl h9) Y x2 hw hP hS hl
set_option maxHeartbeats 4000000 in
set_option maxRecDepth 100000 in
theorem m_X2_readInto (l : Launch) {E : z_E} (hE : z_ok E) (hC : z_cls E) (o : Nat) (ho : o < 13) (Y : z_X) (K : Int32 → z_X → Prop) (hw : v_X2_readInto o Y K) : z_CI l E yX2_readInto wsX2_readInto rX2_readInto [.ref (z_a E 13 0), .ref (z_a E o 0)] Y K := by
  refine z_start (cc := cX2_readInto) (maxL := 4) (ret := (some .int)) hE (by decide) rfl (Nat.le_of_ble_eq_true rfl) ?_
  intro p e s m below meth c C hP hS ls hl
  have C : z_Cx p E s m _ meth c cX2_readInto 4 wsX2_readInto RX2 (some .int) := C
  obtain ⟨hx, hb, hml, hr, hlocks, hown, hts, hK, hE⟩ := id C
  have hl : lv_has ls 4 [(0, .ref (z_a E 13 0)), (1, .ref (z_a E o 0))] := hl
  have hfX2 : ∀ w ∈ u_ws RX2 TX2 4, w ∈ wsX2_readInto := by decide +kernel
  unfold v_X2_readInto at hw
  refine lv_aload_n hx hb dX2_readInto_0 rfl (lv_at hl 1 rfl) ?_
  have hPc := z_P_self o hP
  refine z_vv (C := RX1) (T := TX1) (N := 13) (o := o) (rest := []) ⟨hx, hb, hml, hown, hts⟩ (m_X1_empty l hE hC o ho Y (Y o) _ hw) (cwV 0 hts gX2_readInto_X1_empty rfl rfl rfl (by decide +kernel) ⟨Nat.le_of_ble_eq_true rfl, Nat.le_of_ble_eq_true rfl⟩) hK hPc hS (hC.1 o ho (o, 0) (List.mem_of_getElem? (i := 0) rfl)) (z_lH_0 (o := o) ho) rfl rfl hl.1 rfl (Nat.le_of_ble_eq_true rfl) dX2_readInto_1 ⟨Nat.zero_le _, Nat.zero_le _⟩ (fun u H locs hk hP hS => ?_)
  obtain ⟨h1, eu, hw⟩ := hk
  rw [eu] at hP
  obtain ⟨Y2, eY2⟩ : ∃ z : z_X, z = z_up Y o h1 := ⟨_, rfl⟩
  replace hw := hw Y2 eY2
  rw [← eY2] at hP
  refine lv_aload_n hx hb dX2_readInto_4 rfl (lv_at hl 0 rfl) ?_
  refine lv_iconst (v := (0 : Int32)) hx hb dX2_readInto_5 (by decide) ?_
  obtain ⟨Y3, eY3⟩ : ∃ z : z_X, z = z_up Y2 13 (z_ss (Y2 13) 0 1 (0 : Int32)) := ⟨_, rfl⟩
  replace hw := hw Y3 eY3
  refine z_puti (C := RX2) (T := TX2) (N := 4) (ref := "GauntletHall$Scroll") (o := 13) (d := 0) (X' := Y3) hx hb hts hfX2 tyX2 tyX2_ok nmX2 hown hK hE hP hS (hC.2 (13, 0) (List.mem_of_getElem? (i := 0) rfl)) z_l_13_0 rfl 1 (by decide) (hts (.fieldLink RX2 15 "GauntletHall$Scroll" "place" "I") (by decide +kernel)) rfl rfl (by decide +kernel) rfl eY3.symm dX2_readInto_6 (fun H locs hP hS => ?_)
  refine lv_iconst (v := (0 : Int32)) hx hb dX2_readInto_9 (by decide) ?_
  refine lv_istore_n (lv' := [(2, .int (0 : Int32)), (0, .ref (z_a E 13 0)), (1, .ref (z_a E o 0))]) hx hb dX2_readInto_10 rfl hl (by decide) rfl (fun ls hl => ?_)
  exact m_X2_readInto_b11 C hC o ho K Y3 (0 : Int32) hw hP hS (lv_sub hl [1, 2, 0] rfl)
set_option maxHeartbeats 4000000 in
set_option maxRecDepth 100000 in
theorem m_X3_bringBack_b33 {p : Program} {l : Launch} {e : Env} {s : State} {m : MethodId} {args : Array Value} {below : List Frame} {meth : Method} {c : Code} {E : z_E} (C : z_Cx p E s m args meth c cX3_bringBack 2 wsX3_bringBack RX3 (some .boolean)) (hC : z_cls E) (sg sb sn : Nat) (hsg : z_Sh E sg sb sn) (o2 : Nat) (ho2 : o2 < 13) (K : Int32 → z_X → Prop) (Y : z_X) (t1 : Int32) (hw : v_X3_bringBack_b33 sg sb sn o2 K Y t1) {H : Heap} {locs : List Loc} (hP : z_P E Y H) (hS : va_S (z_A E) s.heap H locs) {ls : Array Slot} (hl : lv_has ls 2 [(0, .ref (z_a E sg 0)), (1, .ref (z_a E o2 0))]) : W p l e rX3_bringBack s m args below meth c H locs 0 0 (MQ below (va_Qi K (fun u t => z_P E u t.heap) (z_A E)) args s 0 0 (z_A E)) (F0 m 33 ls [.int t1, .ref (z_a E sg 0)]) := by
  obtain ⟨hx, hb, hml, hr, hlocks, hown, hts, hK, hE⟩ := id C
  obtain ⟨rs, hs0, hs2, hsL0, hsL2, hrl, hrs, hsb⟩ := id hsg
  have hfX3 : ∀ w ∈ u_ws RX3 TX3 3, w ∈ wsX3_bringBack := by decide +kernel
  unfold v_X3_bringBack_b33 at hw
  obtain ⟨Y3, eY3⟩ : ∃ z : z_X, z = z_up Y sg (z_ss (Y sg) 0 1 t1) := ⟨_, rfl⟩
  replace hw := hw Y3 eY3
  refine z_puti (C := RX3) (T := TX3) (N := 3) (ref := "GauntletHall$Shelf") (o := sg) (d := 0) (X' := Y3) hx hb hts hfX3 tyX3 tyX3_ok nmX3 hown hK hE hP hS hs0 hsL0 rfl 1 (by decide) (hts (.fieldLink RX3 13 "GauntletHall$Shelf" "next" "I") (by decide +kernel)) rfl rfl (by decide +kernel) rfl eY3.symm dX3_bringBack_33 (fun H locs hP hS => ?_)
  refine lv_aload_n hx hb dX3_bringBack_36 rfl (lv_at hl 0 rfl) ?_
  refine lv_dup hx hb dX3_bringBack_37 rfl ?_
  refine z_geti (C := RX3) (T := TX3) (N := 3) (ref := "GauntletHall$Shelf") (o := sg) (d := 0) hx hb hts hfX3 hown hK hP hs0 hsL0 rfl 0 (by decide) (hts (.fieldLink RX3 7 "GauntletHall$Shelf" "count" "I") (by decide +kernel)) rfl rfl rfl dX3_bringBack_38 ?_
  refine lv_iconst (v := (1 : Int32)) hx hb dX3_bringBack_41 (by decide) ?_
  refine lv_isub hx hb dX3_bringBack_42 ?_
  obtain ⟨Y4, eY4⟩ : ∃ z : z_X, z = z_up Y3 sg (z_ss (Y3 sg) 0 0 ((Y3 sg 0 0) - (1 : Int32))) := ⟨_, rfl⟩
  replace hw := hw Y4 eY4
  refine z_puti (C := RX3) (T := TX3) (N := 3) (ref := "GauntletHall$Shelf") (o := sg) (d := 0) (X' := Y4) hx hb hts hfX3 tyX3 tyX3_ok nmX3 hown hK hE hP hS hs0 hsL0 rfl 0 (by decide) (hts (.fieldLink RX3 7 "GauntletHall$Shelf" "count" "I") (by decide +kernel)) rfl rfl (by decide +kernel) rfl eY4.symm dX3_bringBack_43 (fun H locs hP hS => ?_)
  refine lv_aload_n hx hb dX3_bringBack_46 rfl (lv_at hl 1 rfl) ?_
  refine lv_aload_n hx hb dX3_bringBack_47 rfl (lv_at hl 0 rfl) ?_
  refine z_getr (C := RX3) (T := TX3) (N := 3) (ref := "GauntletHall$Shelf") (o := sg) (d := 0) hx hb hts hfX3 hown hK hP hs0 hsL0 rfl 2 (by decide) (hts (.fieldLink RX3 24 "GauntletHall$Shelf" "halls" "[LGauntletHall$Hall;") (by decide +kernel)) rfl rfl dX3_bringBack_48 ?_
  refine lv_aload_n hx hb dX3_bringBack_51 rfl (lv_at hl 0 rfl) ?_
  refine z_geti (C := RX3) (T := TX3) (N := 3) (ref := "GauntletHall$Shelf") (o := sg) (d := 0) hx hb hts hfX3 hown hK hP hs0 hsL0 rfl 1 (by decide) (hts (.fieldLink RX3 13 "GauntletHall$Shelf" "next" "I") (by decide +kernel)) rfl rfl rfl dX3_bringBack_52 ?_
  obtain ⟨i5, hw⟩ := hw
  have hlt : z_n (Y4 sg 0 1) < sn := Nat.not_le.mp fun q => i5 (Or.inr q)
  have hg : (sb + z_n (Y4 sg 0 1)) < 13 := by omega
  refine z_aald (o := sg) (d := 2) hx hb hK hP hs2 hsL2 (by rw [hrl]; exact i5) (hrs _ hlt) dX3_bringBack_55 ?_
  refine z_vv (C := RX1) (T := TX1) (N := 13) (o := o2) (rest := []) ⟨hx, hb, hml, hown, hts⟩ (m_X1_copyFrom l hE hC o2 ho2 (sb + z_n (Y4 sg 0 1)) hg Y4 _ hw) (cwV 1 hts gX3_bringBack_X1_copyFrom rfl rfl rfl (by decide +kernel) ⟨Nat.le_of_ble_eq_true rfl, Nat.le_of_ble_eq_true rfl⟩) hK hP hS (hC.1 o2 ho2 (o2, 0) (List.mem_of_getElem? (i := 0) rfl)) (z_lH_0 (o := o2) ho2) rfl rfl hl.1 rfl (Nat.le_of_ble_eq_true rfl) dX3_bringBack_56 ⟨Nat.zero_le _, Nat.zero_le _⟩ (fun Y6 H locs hk hP hS => ?_)
  replace hw := hk
  refine lv_iconst (v := (1 : Int32)) hx hb dX3_bringBack_59 (by decide) ?_
  exact z_retz C (Or.inr rfl) hP hS hw dX3_bringBack_60
set_option maxHeartbeats 4000000 in
set_option maxRecDepth 100000 in
theorem m_X3_bringBack (l : Launch) {E : z_E} (hE : z_ok E) (hC : z_cls E) (sg sb sn : Nat) (hsg : z_Sh E sg sb sn) (o2 : Nat) (ho2 : o2 < 13) (Y : z_X) (K : Int32 → z_X → Prop) (hw : v_X3_bringBack sg sb sn o2 Y K) : z_CI l E yX3_bringBack wsX3_bringBack rX3_bringBack [.ref (z_a E sg 0), .ref (z_a E o2 0)] Y K := by
  refine z_start (cc := cX3_bringBack) (maxL := 2) (ret := (some .boolean)) hE (by decide) rfl (Nat.le_of_ble_eq_true rfl) ?_
  intro p e s m below meth c C hP hS ls hl
  have C : z_Cx p E s m _ meth c cX3_bringBack 2 wsX3_bringBack RX3 (some .boolean) := C
  obtain ⟨hx, hb, hml, hr, hlocks, hown, hts, hK, hE⟩ := id C
  have hl : lv_has ls 2 [(0, .ref (z_a E sg 0)), (1, .ref (z_a E o2 0))] := hl
  obtain ⟨rs, hs0, hs2, hsL0, hsL2, hrl, hrs, hsb⟩ := id hsg
  have hfX3 : ∀ w ∈ u_ws RX3 TX3 3, w ∈ wsX3_bringBack := by decide +kernel
  unfold v_X3_bringBack at hw
  refine lv_aload_n hx hb dX3_bringBack_0 rfl (lv_at hl 0 rfl) ?_
  refine z_geti (C := RX3) (T := TX3) (N := 3) (ref := "GauntletHall$Shelf") (o := sg) (d := 0) hx hb hts hfX3 hown hK hP hs0 hsL0 rfl 0 (by decide) (hts (.fieldLink RX3 7 "GauntletHall$Shelf" "count" "I") (by decide +kernel)) rfl rfl rfl dX3_bringBack_1 ?_
  refine lv_if_ne (tgt := 9) hx hb dX3_bringBack_4 (by decide) (fun c1 => ?_) (fun c1 => ?_)
  · replace hw := hw.1 c1
    refine lv_aload_n hx hb dX3_bringBack_9 rfl (lv_at hl 0 rfl) ?_
    refine lv_aload_n hx hb dX3_bringBack_10 rfl (lv_at hl 0 rfl) ?_
    refine z_geti (C := RX3) (T := TX3) (N := 3) (ref := "GauntletHall$Shelf") (o := sg) (d := 0) hx hb hts hfX3 hown hK hP hs0 hsL0 rfl 1 (by decide) (hts (.fieldLink RX3 13 "GauntletHall$Shelf" "next" "I") (by decide +kernel)) rfl rfl rfl dX3_bringBack_11 ?_
    refine lv_if_le (tgt := 26) hx hb dX3_bringBack_14 (by decide) (fun c2 => ?_) (fun c2 => ?_)
    · replace hw := hw.1 c2
      refine lv_aload_n hx hb dX3_bringBack_26 rfl (lv_at hl 0 rfl) ?_
      refine z_getr (C := RX3) (T := TX3) (N := 3) (ref := "GauntletHall$Shelf") (o := sg) (d := 0) hx hb hts hfX3 hown hK hP hs0 hsL0 rfl 2 (by decide) (hts (.fieldLink RX3 24 "GauntletHall$Shelf" "halls" "[LGauntletHall$Hall;") (by decide +kernel)) rfl rfl dX3_bringBack_27 ?_
      refine z_alenq (o := sg) (d := 2) (v := nI sn) hx hb hK hP hs2 hsL2 (by rw [hrl]; rfl) dX3_bringBack_30 ?_
      refine lv_iconst (v := (1 : Int32)) hx hb dX3_bringBack_31 (by decide) ?_
      refine lv_isub hx hb dX3_bringBack_32 ?_
      exact m_X3_bringBack_b33 C hC sg sb sn hsg o2 ho2 K Y ((nI sn) - (1 : Int32)) hw hP hS (lv_sub hl [0, 1] rfl)
    · replace hw := hw.2 c2
      refine lv_aload_n hx hb dX3_bringBack_17 rfl (lv_at hl 0 rfl) ?_
      refine z_geti (C := RX3) (T := TX3) (N := 3) (ref := "GauntletHall$Shelf") (o := sg) (d := 0) hx hb hts hfX3 hown hK hP hs0 hsL0 rfl 1 (by decide) (hts (.fieldLink RX3 13 "GauntletHall$Shelf" "next" "I") (by decide +kernel)) rfl rfl rfl dX3_bringBack_18 ?_
      refine lv_iconst (v := (1 : Int32)) hx hb dX3_bringBack_21 (by decide) ?_
      refine lv_isub hx hb dX3_bringBack_22 ?_
      refine lv_goto (tgt := 33) hx hb dX3_bringBack_23 (by decide) ?_
      exact m_X3_bringBack_b33 C hC sg sb sn hsg o2 ho2 K Y ((Y sg 0 1) - (1 : Int32)) hw hP hS (lv_sub hl [0, 1] rfl)
  · replace hw := hw.2 c1
    refine lv_iconst (v := (0 : Int32)) hx hb dX3_bringBack_7 (by decide) ?_
    exact z_retz C (Or.inl rfl) hP hS hw dX3_bringBack_8
set_option maxHeartbeats 4000000 in
set_option maxRecDepth 100000 in
theorem m_X3_put_b45 {p : Program} {l : Launch} {e : Env} {s : State} {m : MethodId} {args : Array Value} {below : List Frame} {meth : Method} {c : Code} {E : z_E} (C : z_Cx p E s m args meth c cX3_put 3 wsX3_put RX3 none) (hC : z_cls E) (sg sb sn : Nat) (hsg : z_Sh E sg sb sn) (o2 : Nat) (ho2 : o2 < 13) (K : z_X → Prop) (Y : z_X) (t1 : Int32) (hw : v_X3_put_b45 sg sb sn o2 K Y t1) {H : Heap} {locs : List Loc} (hP : z_P E Y H) (hS : va_S (z_A E) s.heap H locs) {ls : Array Slot} (hl : lv_has ls 3 [(0, .ref (z_a E sg 0))]) : W p l e rX3_put s m args below meth c H locs 0 0 (MQ below (va_Qv K (fun u t => z_P E u t.heap) (z_A E)) args s 0 0 (z_A E)) (F0 m 45 ls [.int t1, .ref (z_a E sg 0)]) := by
  obtain ⟨hx, hb, hml, hr, hlocks, hown, hts, hK, hE⟩ := id C
  obtain ⟨rs, hs0, hs2, hsL0, hsL2, hrl, hrs, hsb⟩ := id hsg
  have hfX3 : ∀ w ∈ u_ws RX3 TX3 3, w ∈ wsX3_put := by decide +kernel
  unfold v_X3_put_b45 at hw
  obtain ⟨Y4, eY4⟩ : ∃ z : z_X, z = z_up Y sg (z_ss (Y sg) 0 1 t1) := ⟨_, rfl⟩
  replace hw := hw Y4 eY4
  refine z_puti (C := RX3) (T := TX3) (N := 3) (ref := "GauntletHall$Shelf") (o := sg) (d := 0) (X' := Y4) hx hb hts hfX3 tyX3 tyX3_ok nmX3 hown hK hE hP hS hs0 hsL0 rfl 1 (by decide) (hts (.fieldLink RX3 13 "GauntletHall$Shelf" "next" "I") (by decide +kernel)) rfl rfl (by decide +kernel) rfl eY4.symm dX3_put_45 (fun H locs hP hS => ?_)
  refine lv_aload_n hx hb dX3_put_48 rfl (lv_at hl 0 rfl) ?_
  refine lv_aload_n hx hb dX3_put_49 rfl (lv_at hl 0 rfl) ?_
  refine z_geti (C := RX3) (T := TX3) (N := 3) (ref := "GauntletHall$Shelf") (o := sg) (d := 0) hx hb hts hfX3 hown hK hP hs0 hsL0 rfl 0 (by decide) (hts (.fieldLink RX3 7 "GauntletHall$Shelf" "count" "I") (by decide +kernel)) rfl rfl rfl dX3_put_50 ?_
  refine lv_iconst (v := (1 : Int32)) hx hb dX3_put_53 (by decide) ?_
  refine lv_iadd hx hb dX3_put_54 ?_
  refine lv_aload_n hx hb dX3_put_55 rfl (lv_at hl 0 rfl) ?_
  refine z_getr (C := RX3) (T := TX3) (N := 3) (ref := "GauntletHall$Shelf") (o := sg) (d := 0) hx hb hts hfX3 hown hK hP hs0 hsL0 rfl 2 (by decide) (hts (.fieldLink RX3 24 "GauntletHall$Shelf" "halls" "[LGauntletHall$Hall;") (by decide +kernel)) rfl rfl dX3_put_56 ?_
  refine z_alenq (o := sg) (d := 2) (v := nI sn) hx hb hK hP hs2 hsL2 (by rw [hrl]; rfl) dX3_put_59 ?_
  refine va_mmin hx hb (hml.trans hl.1.symm) hown (hts (.methodLink RX3 33 Lib.Math.min.name) (by decide +kernel)) (hts (.static Lib.Math.min.name) (by decide +kernel)) (hts (.initialized "java/lang/Math") (by decide +kernel)) (hts (.code Lib.Math.min.name Lib.Math.min.code 2 (some .int)) (by decide +kernel)) (Nat.le_of_ble_eq_true rfl) (Nat.le_of_ble_eq_true rfl) (Nat.zero_le _) (Nat.zero_le _) dX3_put_60 ?_
  obtain ⟨Y5, eY5⟩ : ∃ z : z_X, z = z_up Y4 sg (z_ss (Y4 sg) 0 0 (if (nI sn) < ((Y4 sg 0 0) + (1 : Int32)) then (nI sn) else ((Y4 sg 0 0) + (1 : Int32)))) := ⟨_, rfl⟩
  replace hw := hw Y5 eY5
  refine z_puti (C := RX3) (T := TX3) (N := 3) (ref := "GauntletHall$Shelf") (o := sg) (d := 0) (X' := Y5) hx hb hts hfX3 tyX3 tyX3_ok nmX3 hown hK hE hP hS hs0 hsL0 rfl 0 (by decide) (hts (.fieldLink RX3 7 "GauntletHall$Shelf" "count" "I") (by decide +kernel)) rfl rfl (by decide +kernel) rfl eY5.symm dX3_put_63 (fun H locs hP hS => ?_)
  exact z_retv C hP hS hw dX3_put_66
set_option maxHeartbeats 4000000 in
set_option maxRecDepth 100000 in
theorem m_X3_put (l : Launch) {E : z_E} (hE : z_ok E) (hC : z_cls E) (sg sb sn : Nat) (hsg : z_Sh E sg sb sn) (o2 : Nat) (ho2 : o2 < 13) (Y : z_X) (K : z_X → Prop) (hw : v_X3_put sg sb sn o2 Y K) : z_CV l E yX3_put wsX3_put rX3_put [.ref (z_a E sg 0), .ref (z_a E o2 0)] Y K := by
  refine z_start (cc := cX3_put) (maxL := 3) (ret := none) hE (by decide) rfl (Nat.le_of_ble_eq_true rfl) ?_
  intro p e s m below meth c C hP hS ls hl
  have C : z_Cx p E s m _ meth c cX3_put 3 wsX3_put RX3 none := C
  obtain ⟨hx, hb, hml, hr, hlocks, hown, hts, hK, hE⟩ := id C
  have hl : lv_has ls 3 [(0, .ref (z_a E sg 0)), (1, .ref (z_a E o2 0))] := hl
  obtain ⟨rs, hs0, hs2, hsL0, hsL2, hrl, hrs, hsb⟩ := id hsg
  have hfX3 : ∀ w ∈ u_ws RX3 TX3 3, w ∈ wsX3_put := by decide +kernel
  unfold v_X3_put at hw
  refine lv_aload_n hx hb dX3_put_0 rfl (lv_at hl 0 rfl) ?_
  refine z_getr (C := RX3) (T := TX3) (N := 3) (ref := "GauntletHall$Shelf") (o := sg) (d := 0) hx hb hts hfX3 hown hK hP hs0 hsL0 rfl 2 (by decide) (hts (.fieldLink RX3 24 "GauntletHall$Shelf" "halls" "[LGauntletHall$Hall;") (by decide +kernel)) rfl rfl dX3_put_1 ?_
  refine lv_aload_n hx hb dX3_put_4 rfl (lv_at hl 0 rfl) ?_
  refine z_geti (C := RX3) (T := TX3) (N := 3) (ref := "GauntletHall$Shelf") (o := sg) (d := 0) hx hb hts hfX3 hown hK hP hs0 hsL0 rfl 1 (by decide) (hts (.fieldLink RX3 13 "GauntletHall$Shelf" "next" "I") (by decide +kernel)) rfl rfl rfl dX3_put_5 ?_
  obtain ⟨i1, hw⟩ := hw
  have hlt : z_n (Y sg 0 1) < sn := Nat.not_le.mp fun q => i1 (Or.inr q)
  have hg : (sb + z_n (Y sg 0 1)) < 13 := by omega
  refine z_aald (o := sg) (d := 2) hx hb hK hP hs2 hsL2 (by rw [hrl]; exact i1) (hrs _ hlt) dX3_put_8 ?_
  refine lv_astore_n (lv' := [(2, .ref (z_a E (sb + z_n (Y sg 0 1)) 0)), (0, .ref (z_a E sg 0)), (1, .ref (z_a E o2 0))]) hx hb dX3_put_9 rfl hl (by decide) rfl (fun ls hl => ?_)
  refine lv_aload_n hx hb dX3_put_10 rfl (lv_at hl 0 rfl) ?_
  refine lv_ifnonnull (tgt := 15) hx hb dX3_put_11 (by decide) ?_
  refine lv_aload_n hx hb dX3_put_15 rfl (lv_at hl 0 rfl) ?_
  refine lv_aload_n hx hb dX3_put_16 rfl (lv_at hl 2 rfl) ?_
  refine z_vv (C := RX1) (T := TX1) (N := 13) (o := (sb + z_n (Y sg 0 1))) (rest := []) ⟨hx, hb, hml, hown, hts⟩ (m_X1_copyFrom l hE hC (sb + z_n (Y sg 0 1)) hg o2 ho2 Y _ hw) (cwV 1 hts gX3_put_X1_copyFrom rfl rfl rfl (by decide +kernel) ⟨Nat.le_of_ble_eq_true rfl, Nat.le_of_ble_eq_true rfl⟩) hK hP hS (hC.1 (sb + z_n (Y sg 0 1)) hg ((sb + z_n (Y sg 0 1)), 0) (List.mem_of_getElem? (i := 0) rfl)) (z_lH_0 (o := (sb + z_n (Y sg 0 1))) hg) rfl rfl hl.1 rfl (Nat.le_of_ble_eq_true rfl) dX3_put_17 ⟨Nat.zero_le _, Nat.zero_le _⟩ (fun Y2 H locs hk hP hS => ?_)
  replace hw := hk
  refine lv_aload_n hx hb dX3_put_20 rfl (lv_at hl 1 rfl) ?_
  refine lv_aload_n hx hb dX3_put_21 rfl (lv_at hl 1 rfl) ?_
  refine z_geti (C := RX3) (T := TX3) (N := 3) (ref := "GauntletHall$Shelf") (o := sg) (d := 0) hx hb hts hfX3 hown hK hP hs0 hsL0 rfl 1 (by decide) (hts (.fieldLink RX3 13 "GauntletHall$Shelf" "next" "I") (by decide +kernel)) rfl rfl rfl dX3_put_22 ?_
  refine lv_iconst (v := (1 : Int32)) hx hb dX3_put_25 (by decide) ?_
  refine lv_iadd hx hb dX3_put_26 ?_
  refine lv_aload_n hx hb dX3_put_27 rfl (lv_at hl 1 rfl) ?_
  refine z_getr (C := RX3) (T := TX3) (N := 3) (ref := "GauntletHall$Shelf") (o := sg) (d := 0) hx hb hts hfX3 hown hK hP hs0 hsL0 rfl 2 (by decide) (hts (.fieldLink RX3 24 "GauntletHall$Shelf" "halls" "[LGauntletHall$Hall;") (by decide +kernel)) rfl rfl dX3_put_28 ?_
  refine z_alenq (o := sg) (d := 2) (v := nI sn) hx hb hK hP hs2 hsL2 (by rw [hrl]; rfl) dX3_put_31 ?_
  refine lv_icmp_ge (tgt := 44) hx hb dX3_put_32 (by decide) (fun c3 => ?_) (fun c3 => ?_)
  · replace hw := hw.1 c3
    refine lv_iconst (v := (0 : Int32)) hx hb dX3_put_44 (by decide) ?_
    exact m_X3_put_b45 C hC sg sb sn hsg o2 ho2 K Y2 (0 : Int32) hw hP hS (lv_sub hl [1] rfl)
  · replace hw := hw.2 c3
    refine lv_aload_n hx hb dX3_put_35 rfl (lv_at hl 1 rfl) ?_
    refine z_geti (C := RX3) (T := TX3) (N := 3) (ref := "GauntletHall$Shelf") (o := sg) (d := 0) hx hb hts hfX3 hown hK hP hs0 hsL0 rfl 1 (by decide) (hts (.fieldLink RX3 13 "GauntletHall$Shelf" "next" "I") (by decide +kernel)) rfl rfl rfl dX3_put_36 ?_
    refine lv_iconst (v := (1 : Int32)) hx hb dX3_put_39 (by decide) ?_
    refine lv_iadd hx hb dX3_put_40 ?_
    refine lv_goto (tgt := 45) hx hb dX3_put_41 (by decide) ?_
    exact m_X3_put_b45 C hC sg sb sn hsg o2 ho2 K Y2 ((Y2 sg 0 1) + (1 : Int32)) hw hP hS (lv_sub hl [1] rfl)
set_option maxHeartbeats 4000000 in
set_option maxRecDepth 100000 in
theorem m_X4_add (l : Launch) {E : z_E} (hE : z_ok E) (hC : z_cls E) (X : z_X) (h : z_G) (x1 : Int32) (x2 : Int32) (x3 : Int32) (K : Int32 → z_G → Prop) (hw : v_X4_add h x1 x2 x3 K) : z_CI l E yX4_add wsX4_add rX4_add [.ref (z_a E 16 0), .int x1, .int x2, .int x3] (z_up X 16 h) (fun r X' => ∃ h', X' = z_up X 16 h' ∧ K r h') := by
  refine z_start (cc := cX4_add) (maxL := 4) (ret := (some .boolean)) hE (by decide) rfl (Nat.le_of_ble_eq_true rfl) ?_
  intro p e s m below meth c C hP hS ls hl
  have C : z_Cx p E s m _ meth c cX4_add 4 wsX4_add RX4 (some .boolean) := C
  obtain ⟨hx, hb, hml, hr, hlocks, hown, hts, hK, hE⟩ := id C
  have hl : lv_has ls 4 [(0, .ref (z_a E 16 0)), (1, .int x1), (2, .int x2), (3, .int x3)] := hl
  have hfX4 : ∀ w ∈ u_ws RX4 TX4 4, w ∈ wsX4_add := by decide +kernel
  unfold v_X4_add at hw
  refine lv_aload_n hx hb dX4_add_0 rfl (lv_at hl 0 rfl) ?_
  refine z_geti (C := RX4) (T := TX4) (N := 4) (ref := "GauntletHall$Sightings") (o := 16) (d := 0) hx hb hts hfX4 hown hK hP (hC.2 (16, 0) (List.mem_of_getElem? (i := 7) rfl)) z_l_16_0 rfl 0 (by decide) (hts (.fieldLink RX4 9 "GauntletHall$Sightings" "count" "I") (by decide +kernel)) rfl rfl (z_up_val X 16 h 0 0) dX4_add_1 ?_
  refine lv_bipush (v := (6 : Int32)) hx hb dX4_add_4 (by decide) ?_
  refine lv_icmp_lt (tgt := 11) hx hb dX4_add_6 (by decide) (fun c1 => ?_) (fun c1 => ?_)
  · replace hw := hw.1 c1
    refine lv_aload_n hx hb dX4_add_11 rfl (lv_at hl 0 rfl) ?_
    refine z_getr (C := RX4) (T := TX4) (N := 4) (ref := "GauntletHall$Sightings") (o := 16) (d := 0) hx hb hts hfX4 hown hK hP (hC.2 (16, 0) (List.mem_of_getElem? (i := 7) rfl)) z_l_16_0 rfl 1 (by decide) (hts (.fieldLink RX4 15 "GauntletHall$Sightings" "glove" "[I") (by decide +kernel)) rfl rfl dX4_add_12 ?_
    refine lv_aload_n hx hb dX4_add_15 rfl (lv_at hl 0 rfl) ?_
    refine z_geti (C := RX4) (T := TX4) (N := 4) (ref := "GauntletHall$Sightings") (o := 16) (d := 0) hx hb hts hfX4 hown hK hP (hC.2 (16, 0) (List.mem_of_getElem? (i := 7) rfl)) z_l_16_0 rfl 0 (by decide) (hts (.fieldLink RX4 9 "GauntletHall$Sightings" "count" "I") (by decide +kernel)) rfl rfl (z_up_val X 16 h 0 0) dX4_add_16 ?_
    refine lv_iload_n hx hb dX4_add_19 rfl (lv_at hl 1 rfl) ?_
    obtain ⟨i2, hw⟩ := hw
    obtain ⟨h3, eh3⟩ : ∃ z : z_G, z = z_ss h 1 (z_n (h 0 0)) x1 := ⟨_, rfl⟩
    replace hw := hw h3 eh3
    refine z_iast (o := 16) (d := 1) (X' := z_up X 16 h3) hx hb hK hE hP hS (hC.2 (16, 1) (List.mem_of_getElem? (i := 8) rfl)) z_l_16_1 i2 (by rw [eh3]; exact z_up_put X 16 h 1 (z_n (h 0 0)) _) dX4_add_20 (fun H locs hP hS => ?_)
    refine lv_aload_n hx hb dX4_add_21 rfl (lv_at hl 0 rfl) ?_
    refine z_getr (C := RX4) (T := TX4) (N := 4) (ref := "GauntletHall$Sightings") (o := 16) (d := 0) hx hb hts hfX4 hown hK hP (hC.2 (16, 0) (List.mem_of_getElem? (i := 7) rfl)) z_l_16_0 rfl 2 (by decide) (hts (.fieldLink RX4 19 "GauntletHall$Sightings" "person" "[I") (by decide +kernel)) rfl rfl dX4_add_22 ?_
    refine lv_aload_n hx hb dX4_add_25 rfl (lv_at hl 0 rfl) ?_
    refine z_geti (C := RX4) (T := TX4) (N := 4) (ref := "GauntletHall$Sightings") (o := 16) (d := 0) hx hb hts hfX4 hown hK hP (hC.2 (16, 0) (List.mem_of_getElem? (i := 7) rfl)) z_l_16_0 rfl 0 (by decide) (hts (.fieldLink RX4 9 "GauntletHall$Sightings" "count" "I") (by decide +kernel)) rfl rfl (z_up_val X 16 h3 0 0) dX4_add_26 ?_
    refine lv_iload_n hx hb dX4_add_29 rfl (lv_at hl 2 rfl) ?_
    obtain ⟨i4, hw⟩ := hw
    obtain ⟨h5, eh5⟩ : ∃ z : z_G, z = z_ss h3 2 (z_n (h3 0 0)) x2 := ⟨_, rfl⟩
    replace hw := hw h5 eh5
    refine z_iast (o := 16) (d := 2) (X' := z_up X 16 h5) hx hb hK hE hP hS (hC.2 (16, 2) (List.mem_of_getElem? (i := 9) rfl)) z_l_16_2 i4 (by rw [eh5]; exact z_up_put X 16 h3 2 (z_n (h3 0 0)) _) dX4_add_30 (fun H locs hP hS => ?_)
    refine lv_aload_n hx hb dX4_add_31 rfl (lv_at hl 0 rfl) ?_
    refine z_getr (C := RX4) (T := TX4) (N := 4) (ref := "GauntletHall$Sightings") (o := 16) (d := 0) hx hb hts hfX4 hown hK hP (hC.2 (16, 0) (List.mem_of_getElem? (i := 7) rfl)) z_l_16_0 rfl 3 (by decide) (hts (.fieldLink RX4 22 "GauntletHall$Sightings" "fitted" "[I") (by decide +kernel)) rfl rfl dX4_add_32 ?_
    refine lv_aload_n hx hb dX4_add_35 rfl (lv_at hl 0 rfl) ?_
    refine z_geti (C := RX4) (T := TX4) (N := 4) (ref := "GauntletHall$Sightings") (o := 16) (d := 0) hx hb hts hfX4 hown hK hP (hC.2 (16, 0) (List.mem_of_getElem? (i := 7) rfl)) z_l_16_0 rfl 0 (by decide) (hts (.fieldLink RX4 9 "GauntletHall$Sightings" "count" "I") (by decide +kernel)) rfl rfl (z_up_val X 16 h5 0 0) dX4_add_36 ?_
    refine lv_iload_n hx hb dX4_add_39 rfl (lv_at hl 3 rfl) ?_
    obtain ⟨i6, hw⟩ := hw
    obtain ⟨h7, eh7⟩ : ∃ z : z_G, z = z_ss h5 3 (z_n (h5 0 0)) x3 := ⟨_, rfl⟩
    replace hw := hw h7 eh7
    refine z_iast (o := 16) (d := 3) (X' := z_up X 16 h7) hx hb hK hE hP hS (hC.2 (16, 3) (List.mem_of_getElem? (i := 10) rfl)) z_l_16_3 i6 (by rw [eh7]; exact z_up_put X 16 h5 3 (z_n (h5 0 0)) _) dX4_add_40 (fun H locs hP hS => ?_)
    refine lv_aload_n hx hb dX4_add_41 rfl (lv_at hl 0 rfl) ?_
    refine lv_dup hx hb dX4_add_42 rfl ?_
    refine z_geti (C := RX4) (T := TX4) (N := 4) (ref := "GauntletHall$Sightings") (o := 16) (d := 0) hx hb hts hfX4 hown hK hP (hC.2 (16, 0) (List.mem_of_getElem? (i := 7) rfl)) z_l_16_0 rfl 0 (by decide) (hts (.fieldLink RX4 9 "GauntletHall$Sightings" "count" "I") (by decide +kernel)) rfl rfl (z_up_val X 16 h7 0 0) dX4_add_43 ?_
    refine lv_iconst (v := (1 : Int32)) hx hb dX4_add_46 (by decide) ?_
    refine lv_iadd hx hb dX4_add_47 ?_
    obtain ⟨h8, eh8⟩ : ∃ z : z_G, z = z_ss h7 0 0 ((h7 0 0) + (1 : Int32)) := ⟨_, rfl⟩
    replace hw := hw h8 eh8
    refine z_puti (C := RX4) (T := TX4) (N := 4) (ref := "GauntletHall$Sightings") (o := 16) (d := 0) (X' := z_up X 16 h8) hx hb hts hfX4 tyX4 tyX4_ok nmX4 hown hK hE hP hS (hC.2 (16, 0) (List.mem_of_getElem? (i := 7) rfl)) z_l_16_0 rfl 0 (by decide) (hts (.fieldLink RX4 9 "GauntletHall$Sightings" "count" "I") (by decide +kernel)) rfl rfl (by decide +kernel) rfl (by rw [eh8]; exact z_up_put X 16 h7 0 0 _) dX4_add_48 (fun H locs hP hS => ?_)
    refine lv_iconst (v := (1 : Int32)) hx hb dX4_add_51 (by decide) ?_
    exact z_retz C (Or.inr rfl) hP hS ⟨_, rfl, hw⟩ dX4_add_52
  · replace hw := hw.2 c1
    refine lv_iconst (v := (0 : Int32)) hx hb dX4_add_9 (by decide) ?_
    exact z_retz C (Or.inl rfl) hP hS ⟨_, rfl, hw⟩ dX4_add_10
set_option maxHeartbeats 4000000 in
set_option maxRecDepth 100000 in
theorem m_X4_allowGlove_b87 {p : Program} {l : Launch} {e : Env} {s : State} {m : MethodId} {args : Array Value} {below : List Frame} {meth : Method} {c : Code} {E : z_E} (C : z_Cx p E s m args meth c cX4_allowGlove 8 wsX4_allowGlove RX4 (some .boolean)) (hC : z_cls E) (o : Nat) (ho : o < 13) (Y : z_X) (K : Int32 → Prop) (L3 : Int32 → Int32 → Int32 → Int32 → Prop) (k3 : ∀ (x2 : Int32) (x3 : Int32) (x4 : Int32) (x5 : Int32), L3 x2 x3 x4 x5 → ∀ {H : Heap} {locs : List Loc}, z_P E Y H → va_S (z_A E) s.heap H locs → ∀ (ls : Array Slot), lv_has ls 8 [(0, .ref (z_a E 16 0)), (1, .ref (z_a E o 0)), (2, .int x2), (3, .int x3), (4, .int x4), (5, .int x5)] → W p l e rX4_allowGlove s m args below meth c H locs 0 0 (MQ below (va_Qi (fun r X' => X' = Y ∧ K r) (fun u t => z_P E u t.heap) (z_A E)) args s 0 0 (z_A E)) (F0 m 3 ls [])) (x2 : Int32) (x3 : Int32) (x4 : Int32) (x5 : Int32) (t0 : Int32) (t1 : Int32) (hw : v_X4_allowGlove_b87 o Y K L3 x2 x3 x4 x5 t0 t1) {H : Heap} {locs : List Loc} (hP : z_P E Y H) (hS : va_S (z_A E) s.heap H locs) {ls : Array Slot} (hl : lv_has ls 8 [(0, .ref (z_a E 16 0)), (1, .ref (z_a E o 0)), (2, .int x2), (3, .int x3), (4, .int x4), (5, .int x5)]) : W p l e rX4_allowGlove s m args below meth c H locs 0 0 (MQ below (va_Qi (fun r X' => X' = Y ∧ K r) (fun u t => z_P E u t.heap) (z_A E)) args s 0 0 (z_A E)) (F0 m 87 ls [.int t1, .int t0]) := by
  obtain ⟨hx, hb, hml, hr, hlocks, hown, hts, hK, hE⟩ := id C
  have hfX1 : ∀ w ∈ u_ws RX1 TX1 13, w ∈ wsX4_allowGlove := by decide +kernel
  have hfX4 : ∀ w ∈ u_ws RX4 TX4 4, w ∈ wsX4_allowGlove := by decide +kernel
  unfold v_X4_allowGlove_b87 at hw
  refine lv_icmp_eq (tgt := 92) hx hb dX4_allowGlove_87 (by decide) (fun c15 => ?_) (fun c15 => ?_)
  · replace hw := hw.1 c15
    obtain ⟨y16, ey16⟩ : ∃ z : Int32, z = x5 + (1 : Int32) := ⟨_, rfl⟩
    replace hw := hw y16 ey16
    refine lv_iinc (v := y16) (lv' := [(5, .int y16), (0, .ref (z_a E 16 0)), (1, .ref (z_a E o 0)), (2, .int x2), (3, .int x3), (4, .int x4)]) hx hb dX4_allowGlove_92 hl (k := 5) rfl (by rw [ey16]; rfl) (by decide) rfl (fun ls hl => ?_)
    refine lv_goto (tgt := 3) hx hb dX4_allowGlove_95 (by decide) ?_
    exact k3 x2 x3 x4 y16 hw hP hS _ (lv_sub hl [1, 2, 3, 4, 5, 0] rfl)
  · replace hw := hw.2 c15
    refine lv_iconst (v := (0 : Int32)) hx hb dX4_allowGlove_90 (by decide) ?_
    exact z_retz C (Or.inl rfl) hP hS ⟨rfl, hw⟩ dX4_allowGlove_91
set_option maxHeartbeats 4000000 in
set_option maxRecDepth 100000 in
theorem m_X4_allowGlove_b3_s {p : Program} {l : Launch} {e : Env} {s : State} {m : MethodId} {args : Array Value} {below : List Frame} {meth : Method} {c : Code} {E : z_E} (C : z_Cx p E s m args meth c cX4_allowGlove 8 wsX4_allowGlove RX4 (some .boolean)) (hC : z_cls E) (o : Nat) (ho : o < 13) (Y : z_X) (K : Int32 → Prop) (L3 : Int32 → Int32 → Int32 → Int32 → Prop) (k3 : ∀ (x2 : Int32) (x3 : Int32) (x4 : Int32) (x5 : Int32), L3 x2 x3 x4 x5 → ∀ {H : Heap} {locs : List Loc}, z_P E Y H → va_S (z_A E) s.heap H locs → ∀ (ls : Array Slot), lv_has ls 8 [(0, .ref (z_a E 16 0)), (1, .ref (z_a E o 0)), (2, .int x2), (3, .int x3), (4, .int x4), (5, .int x5)] → W p l e rX4_allowGlove s m args below meth c H locs 0 0 (MQ below (va_Qi (fun r X' => X' = Y ∧ K r) (fun u t => z_P E u t.heap) (z_A E)) args s 0 0 (z_A E)) (F0 m 3 ls [])) (x2 : Int32) (x3 : Int32) (x4 : Int32) (x5 : Int32) (hw : v_X4_allowGlove_b3_s o Y K L3 x2 x3 x4 x5) {H : Heap} {locs : List Loc} (hP : z_P E Y H) (hS : va_S (z_A E) s.heap H locs) {ls : Array Slot} (hl : lv_has ls 8 [(0, .ref (z_a E 16 0)), (1, .ref (z_a E o 0)), (2, .int x2), (3, .int x3), (4, .int x4), (5, .int x5)]) : W p l e rX4_allowGlove s m args below meth c H locs 0 0 (MQ below (va_Qi (fun r X' => X' = Y ∧ K r) (fun u t => z_P E u t.heap) (z_A E)) args s 0 0 (z_A E)) (F0 m 3 ls []) := by
  obtain ⟨hx, hb, hml, hr, hlocks, hown, hts, hK, hE⟩ := id C
  have hfX1 : ∀ w ∈ u_ws RX1 TX1 13, w ∈ wsX4_allowGlove := by decide +kernel
  have hfX4 : ∀ w ∈ u_ws RX4 TX4 4, w ∈ wsX4_allowGlove := by decide +kernel
  unfold v_X4_allowGlove_b3_s at hw
  refine lv_iload hx hb dX4_allowGlove_3 (lv_at hl 5 rfl) ?_
  refine lv_aload_n hx hb dX4_allowGlove_5 rfl (lv_at hl 0 rfl) ?_
  refine z_geti (C := RX4) (T := TX4) (N := 4) (ref := "GauntletHall$Sightings") (o := 16) (d := 0) hx hb hts hfX4 hown hK hP (hC.2 (16, 0) (List.mem_of_getElem? (i := 7) rfl)) z_l_16_0 rfl 0 (by decide) (hts (.fieldLink RX4 9 "GauntletHall$Sightings" "count" "I") (by decide +kernel)) rfl rfl rfl dX4_allowGlove_6 ?_
  refine lv_icmp_ge (tgt := 98) hx hb dX4_allowGlove_9 (by decide) (fun c1 => ?_) (fun c1 => ?_)
  · replace hw := hw.1 c1
    refine lv_iconst (v := (1 : Int32)) hx hb dX4_allowGlove_98 (by decide) ?_
    exact z_retz C (Or.inr rfl) hP hS ⟨rfl, hw⟩ dX4_allowGlove_99
  · replace hw := hw.2 c1
    refine lv_aload_n hx hb dX4_allowGlove_12 rfl (lv_at hl 0 rfl) ?_
    refine z_getr (C := RX4) (T := TX4) (N := 4) (ref := "GauntletHall$Sightings") (o := 16) (d := 0) hx hb hts hfX4 hown hK hP (hC.2 (16, 0) (List.mem_of_getElem? (i := 7) rfl)) z_l_16_0 rfl 2 (by decide) (hts (.fieldLink RX4 19 "GauntletHall$Sightings" "person" "[I") (by decide +kernel)) rfl rfl dX4_allowGlove_13 ?_
    refine lv_iload hx hb dX4_allowGlove_16 (lv_at hl 5 rfl) ?_
    obtain ⟨i2, hw⟩ := hw
    refine z_iald (o := 16) (d := 2) hx hb hK hP (hC.2 (16, 2) (List.mem_of_getElem? (i := 9) rfl)) z_l_16_2 i2 rfl dX4_allowGlove_18 ?_
    refine lv_topi (fun y3 ey3 => ?_)
    replace hw := hw y3 ey3
    refine lv_istore (lv' := [(6, .int y3), (0, .ref (z_a E 16 0)), (1, .ref (z_a E o 0)), (2, .int x2), (3, .int x3), (4, .int x4), (5, .int x5)]) hx hb dX4_allowGlove_19 hl (by decide) rfl (fun ls hl => ?_)
    refine lv_aload_n hx hb dX4_allowGlove_21 rfl (lv_at hl 1 rfl) ?_
    refine z_getr (C := RX4) (T := TX4) (N := 4) (ref := "GauntletHall$Sightings") (o := 16) (d := 0) hx hb hts hfX4 hown hK hP (hC.2 (16, 0) (List.mem_of_getElem? (i := 7) rfl)) z_l_16_0 rfl 1 (by decide) (hts (.fieldLink RX4 15 "GauntletHall$Sightings" "glove" "[I") (by decide +kernel)) rfl rfl dX4_allowGlove_22 ?_
    refine lv_iload hx hb dX4_allowGlove_25 (lv_at hl 6 rfl) ?_
    obtain ⟨i4, hw⟩ := hw
    refine z_iald (o := 16) (d := 1) hx hb hK hP (hC.2 (16, 1) (List.mem_of_getElem? (i := 8) rfl)) z_l_16_1 i4 rfl dX4_allowGlove_27 ?_
    refine lv_iload_n hx hb dX4_allowGlove_28 rfl (lv_at hl 3 rfl) ?_
    refine lv_icmp_ne (tgt := 92) hx hb dX4_allowGlove_29 (by decide) (fun c5 => ?_) (fun c5 => ?_)
    · replace hw := hw.1 c5
      obtain ⟨y6, ey6⟩ : ∃ z : Int32, z = x5 + (1 : Int32) := ⟨_, rfl⟩
      replace hw := hw y6 ey6
      refine lv_iinc (v := y6) (lv' := [(5, .int y6), (6, .int y3), (0, .ref (z_a E 16 0)), (1, .ref (z_a E o 0)), (2, .int x2), (3, .int x3), (4, .int x4)]) hx hb dX4_allowGlove_92 hl (k := 6) rfl (by rw [ey6]; rfl) (by decide) rfl (fun ls hl => ?_)
      refine lv_goto (tgt := 3) hx hb dX4_allowGlove_95 (by decide) ?_
      exact k3 x2 x3 x4 y6 hw hP hS _ (lv_sub hl [2, 3, 4, 5, 6, 0] rfl)
    · replace hw := hw.2 c5
      refine lv_aload_n hx hb dX4_allowGlove_32 rfl (lv_at hl 2 rfl) ?_
      refine lv_iload hx hb dX4_allowGlove_33 (lv_at hl 0 rfl) ?_
      have hPc := z_P_self o hP
      refine z_vi (C := RX1) (T := TX1) (N := 13) (o := o) (rest := []) ⟨hx, hb, hml, hown, hts⟩ (m_X1_isPerson l hE hC o ho Y (Y o) y3 _ hw) (cwV 1 hts gX4_allowGlove_X1_isPerson rfl rfl rfl (by decide +kernel) ⟨Nat.le_of_ble_eq_true rfl, Nat.le_of_ble_eq_true rfl⟩) hK hPc hS (hC.1 o ho (o, 0) (List.mem_of_getElem? (i := 0) rfl)) (z_lH_0 (o := o) ho) rfl rfl hl.1 rfl (Nat.le_of_ble_eq_true rfl) dX4_allowGlove_35 ⟨Nat.zero_le _, Nat.zero_le _⟩ (fun r7 u H locs hk hP hS => ?_)
      obtain ⟨eu, hw⟩ := hk
      rw [eu, z_up_self] at hP
      refine lv_if_ne (tgt := 44) hx hb dX4_allowGlove_38 (by decide) (fun c8 => ?_) (fun c8 => ?_)
      · replace hw := hw.1 c8
        refine lv_iload_n hx hb dX4_allowGlove_44 rfl (lv_at hl 4 rfl) ?_
        refine lv_iload hx hb dX4_allowGlove_45 (lv_at hl 5 rfl) ?_
        refine lv_aload_n hx hb dX4_allowGlove_47 rfl (lv_at hl 2 rfl) ?_
        refine z_getr (C := RX1) (T := TX1) (N := 13) (ref := "GauntletHall$Hall") (o := o) (d := 0) hx hb hts hfX1 hown hK hP (hC.1 o ho (o, 0) (List.mem_of_getElem? (i := 0) rfl)) (z_lH_0 (o := o) ho) rfl 11 (by decide) (hts (.fieldLink RX4 37 "GauntletHall$Hall" "lain" "[I") (by decide +kernel)) rfl rfl dX4_allowGlove_48 ?_
        refine lv_iload_n hx hb dX4_allowGlove_51 rfl (lv_at hl 3 rfl) ?_
        obtain ⟨i9, hw⟩ := hw
        refine z_iald (o := o) (d := 11) hx hb hK hP (hC.1 o ho (o, 11) (List.mem_of_getElem? (i := 8) rfl)) (z_lH_11 (o := o) ho) i9 rfl dX4_allowGlove_52 ?_
        refine z_sn (host := "GauntletHall") (rest := []) ⟨hx, hb, hml, hown, hts⟩ (m_X5_sizeByNow l hE Y x3 x4 (Y o 11 (z_n x2)) _ hw) (va_cnB 3 hts gX4_allowGlove_X5_sizeByNow_n40 rfl rfl rfl (hK.2 _ (List.mem_of_getElem? (i := 7) rfl)) (hts (.initialized RX5) (by decide +kernel)) (by decide +kernel) ⟨Nat.le_of_ble_eq_true rfl, Nat.le_of_ble_eq_true rfl⟩) (hts (.static yX5_sizeByNow) (by decide +kernel)) hK hP hS rfl hl.1 rfl (Nat.le_of_ble_eq_true rfl) dX4_allowGlove_53 ⟨Nat.zero_le _, Nat.zero_le _⟩ (fun r10 u H locs hk hP hS => ?_)
        obtain ⟨eu, hw⟩ := hk
        rw [eu] at hP
        refine lv_istore (lv' := [(7, .int r10), (6, .int y3), (0, .ref (z_a E 16 0)), (1, .ref (z_a E o 0)), (2, .int x2), (3, .int x3), (4, .int x4), (5, .int x5)]) hx hb dX4_allowGlove_56 hl (by decide) rfl (fun ls hl => ?_)
        refine lv_iload_n hx hb dX4_allowGlove_58 rfl (lv_at hl 5 rfl) ?_
        refine lv_iload hx hb dX4_allowGlove_59 (lv_at hl 0 rfl) ?_
        refine lv_aload_n hx hb dX4_allowGlove_61 rfl (lv_at hl 3 rfl) ?_
        refine z_getr (C := RX1) (T := TX1) (N := 13) (ref := "GauntletHall$Hall") (o := o) (d := 0) hx hb hts hfX1 hown hK hP (hC.1 o ho (o, 0) (List.mem_of_getElem? (i := 0) rfl)) (z_lH_0 (o := o) ho) rfl 4 (by decide) (hts (.fieldLink RX4 51 "GauntletHall$Hall" "hand" "[I") (by decide +kernel)) rfl rfl dX4_allowGlove_62 ?_
        refine lv_iload hx hb dX4_allowGlove_65 (lv_at hl 1 rfl) ?_
        obtain ⟨i11, hw⟩ := hw
        refine z_iald (o := o) (d := 4) hx hb hK hP (hC.1 o ho (o, 4) (List.mem_of_getElem? (i := 1) rfl)) (z_lH_4 (o := o) ho) i11 rfl dX4_allowGlove_67 ?_
        refine z_sn (host := "GauntletHall") (rest := []) ⟨hx, hb, hml, hown, hts⟩ (m_X5_isAsLarge l hE Y x3 r10 (Y o 4 (z_n y3)) _ hw) (va_cnB 3 hts gX4_allowGlove_X5_isAsLarge_n44 rfl rfl rfl (hK.2 _ (List.mem_of_getElem? (i := 8) rfl)) (hts (.initialized RX5) (by decide +kernel)) (by decide +kernel) ⟨Nat.le_of_ble_eq_true rfl, Nat.le_of_ble_eq_true rfl⟩) (hts (.static yX5_isAsLarge) (by decide +kernel)) hK hP hS rfl hl.1 rfl (Nat.le_of_ble_eq_true rfl) dX4_allowGlove_68 ⟨Nat.zero_le _, Nat.zero_le _⟩ (fun r12 u H locs hk hP hS => ?_)
        obtain ⟨eu, hw⟩ := hk
        rw [eu] at hP
        refine lv_aload_n hx hb dX4_allowGlove_71 rfl (lv_at hl 2 rfl) ?_
        refine z_getr (C := RX4) (T := TX4) (N := 4) (ref := "GauntletHall$Sightings") (o := 16) (d := 0) hx hb hts hfX4 hown hK hP (hC.2 (16, 0) (List.mem_of_getElem? (i := 7) rfl)) z_l_16_0 rfl 3 (by decide) (hts (.fieldLink RX4 22 "GauntletHall$Sightings" "fitted" "[I") (by decide +kernel)) rfl rfl dX4_allowGlove_72 ?_
        refine lv_iload hx hb dX4_allowGlove_75 (lv_at hl 7 rfl) ?_
        obtain ⟨i13, hw⟩ := hw
        refine z_iald (o := 16) (d := 3) hx hb hK hP (hC.2 (16, 3) (List.mem_of_getElem? (i := 10) rfl)) z_l_16_3 i13 rfl dX4_allowGlove_77 ?_
        refine lv_iconst (v := (1 : Int32)) hx hb dX4_allowGlove_78 (by decide) ?_
        refine lv_icmp_ne (tgt := 86) hx hb dX4_allowGlove_79 (by decide) (fun c14 => ?_) (fun c14 => ?_)
        · replace hw := hw.1 c14
          refine lv_iconst (v := (0 : Int32)) hx hb dX4_allowGlove_86 (by decide) ?_
          exact m_X4_allowGlove_b87 C hC o ho Y K L3 k3 x2 x3 x4 x5 r12 (0 : Int32) hw hP hS (lv_sub hl [2, 3, 4, 5, 6, 7] rfl)
        · replace hw := hw.2 c14
          refine lv_iconst (v := (1 : Int32)) hx hb dX4_allowGlove_82 (by decide) ?_
          refine lv_goto (tgt := 87) hx hb dX4_allowGlove_83 (by decide) ?_
          exact m_X4_allowGlove_b87 C hC o ho Y K L3 k3 x2 x3 x4 x5 r12 (1 : Int32) hw hP hS (lv_sub hl [2, 3, 4, 5, 6, 7] rfl)
      · replace hw := hw.2 c8
        refine lv_goto (tgt := 92) hx hb dX4_allowGlove_41 (by decide) ?_
        obtain ⟨y17, ey17⟩ : ∃ z : Int32, z = x5 + (1 : Int32) := ⟨_, rfl⟩
        replace hw := hw y17 ey17
        refine lv_iinc (v := y17) (lv' := [(5, .int y17), (6, .int y3), (0, .ref (z_a E 16 0)), (1, .ref (z_a E o 0)), (2, .int x2), (3, .int x3), (4, .int x4)]) hx hb dX4_allowGlove_92 hl (k := 6) rfl (by rw [ey17]; rfl) (by decide) rfl (fun ls hl => ?_)
        refine lv_goto (tgt := 3) hx hb dX4_allowGlove_95 (by decide) ?_
        exact k3 x2 x3 x4 y17 hw hP hS _ (lv_sub hl [2, 3, 4, 5, 6, 0] rfl)
theorem m_X4_allowGlove_b3 {p : Program} {l : Launch} {e : Env} {s : State} {m : MethodId} {args : Array Value} {below : List Frame} {meth : Method} {c : Code} {E : z_E} (C : z_Cx p E s m args meth c cX4_allowGlove 8 wsX4_allowGlove RX4 (some .boolean)) (hC : z_cls E) (o : Nat) (ho : o < 13) (Y : z_X) (K : Int32 → Prop) (x2 : Int32) (x3 : Int32) (x4 : Int32) (x5 : Int32) (hw : v_X4_allowGlove_b3 o Y K x2 x3 x4 x5) {H : Heap} {locs : List Loc} (hP : z_P E Y H) (hS : va_S (z_A E) s.heap H locs) {ls : Array Slot} (hl : lv_has ls 8 [(0, .ref (z_a E 16 0)), (1, .ref (z_a E o 0)), (2, .int x2), (3, .int x3), (4, .int x4), (5, .int x5)]) : W p l e rX4_allowGlove s m args below meth c H locs 0 0 (MQ below (va_Qi (fun r X' => X' = Y ∧ K r) (fun u t => z_P E u t.heap) (z_A E)) args s 0 0 (z_A E)) (F0 m 3 ls []) := by
  obtain ⟨n, hw⟩ := hw
  revert hw hP hS hl
  revert x2 x3 x4 x5 H locs ls
  induction n with
  | zero => intro x2 x3 x4 x5 H locs ls hP hS hl hw; exact hw.elim
  | succ n ih =>
    intro x2 x3 x4 x5 H locs ls hP hS hl hw
    exact m_X4_allowGlove_b3_s C hC o ho Y K (fun x2 x3 x4 x5 => z_fp (σ := Int32 × Int32 × Int32 × Int32) (fun Lp q => v_X4_allowGlove_b3_s o Y K (fun x2 x3 x4 x5 => Lp (x2, x3, x4, x5)) q.1 q.2.1 q.2.2.1 q.2.2.2) n (x2, x3, x4, x5)) (fun x2 x3 x4 x5 h9 H locs hP hS ls hl => ih x2 x3 x4 x5 hP hS hl h9) x2 x3 x4 x5 hw hP hS hl
set_option maxHeartbeats 4000000 in
set_option maxRecDepth 100000 in
theorem m_X4_allowGlove (l : Launch) {E : z_E} (hE : z_ok E) (hC : z_cls E) (o : Nat) (ho : o < 13) (Y : z_X) (x2 : Int32) (x3 : Int32) (x4 : Int32) (K : Int32 → Prop) (hw : v_X4_allowGlove o Y x2 x3 x4 K) : z_CI l E yX4_allowGlove wsX4_allowGlove rX4_allowGlove [.ref (z_a E 16 0), .ref (z_a E o 0), .int x2, .int x3, .int x4] Y (fun r X' => X' = Y ∧ K r) := by
  refine z_start (cc := cX4_allowGlove) (maxL := 8) (ret := (some .boolean)) hE (by decide) rfl (Nat.le_of_ble_eq_true rfl) ?_
  intro p e s m below meth c C hP hS ls hl
  have C : z_Cx p E s m _ meth c cX4_allowGlove 8 wsX4_allowGlove RX4 (some .boolean) := C
  obtain ⟨hx, hb, hml, hr, hlocks, hown, hts, hK, hE⟩ := id C
  have hl : lv_has ls 8 [(0, .ref (z_a E 16 0)), (1, .ref (z_a E o 0)), (2, .int x2), (3, .int x3), (4, .int x4)] := hl
  have hfX1 : ∀ w ∈ u_ws RX1 TX1 13, w ∈ wsX4_allowGlove := by decide +kernel
  have hfX4 : ∀ w ∈ u_ws RX4 TX4 4, w ∈ wsX4_allowGlove := by decide +kernel
  unfold v_X4_allowGlove at hw
  refine lv_iconst (v := (0 : Int32)) hx hb dX4_allowGlove_0 (by decide) ?_
  refine lv_istore (lv' := [(5, .int (0 : Int32)), (0, .ref (z_a E 16 0)), (1, .ref (z_a E o 0)), (2, .int x2), (3, .int x3), (4, .int x4)]) hx hb dX4_allowGlove_1 hl (by decide) rfl (fun ls hl => ?_)
  exact m_X4_allowGlove_b3 C hC o ho Y K x2 x3 x4 (0 : Int32) hw hP hS (lv_sub hl [1, 2, 3, 4, 5, 0] rfl)
set_option maxHeartbeats 4000000 in
set_option maxRecDepth 100000 in
theorem m_X4_allowHand_b99 {p : Program} {l : Launch} {e : Env} {s : State} {m : MethodId} {args : Array Value} {below : List Frame} {meth : Method} {c : Code} {E : z_E} (C : z_Cx p E s m args meth c cX4_allowHand 7 wsX4_allowHand RX4 (some .boolean)) (hC : z_cls E) (o : Nat) (ho : o < 13) (Y : z_X) (K : Int32 → Prop) (L3 : Int32 → Int32 → Int32 → Prop) (k3 : ∀ (x2 : Int32) (x3 : Int32) (x4 : Int32), L3 x2 x3 x4 → ∀ {H : Heap} {locs : List Loc}, z_P E Y H → va_S (z_A E) s.heap H locs → ∀ (ls : Array Slot), lv_has ls 7 [(0, .ref (z_a E 16 0)), (1, .ref (z_a E o 0)), (2, .int x2), (3, .int x3), (4, .int x4)] → W p l e rX4_allowHand s m args below meth c H locs 0 0 (MQ below (va_Qi (fun r X' => X' = Y ∧ K r) (fun u t => z_P E u t.heap) (z_A E)) args s 0 0 (z_A E)) (F0 m 3 ls [])) (x2 : Int32) (x3 : Int32) (x4 : Int32) (t0 : Int32) (t1 : Int32) (hw : v_X4_allowHand_b99 o Y K L3 x2 x3 x4 t0 t1) {H : Heap} {locs : List Loc} (hP : z_P E Y H) (hS : va_S (z_A E) s.heap H locs) {ls : Array Slot} (hl : lv_has ls 7 [(0, .ref (z_a E 16 0)), (1, .ref (z_a E o 0)), (2, .int x2), (3, .int x3), (4, .int x4)]) : W p l e rX4_allowHand s m args below meth c H locs 0 0 (MQ below (va_Qi (fun r X' => X' = Y ∧ K r) (fun u t => z_P E u t.heap) (z_A E)) args s 0 0 (z_A E)) (F0 m 99 ls [.int t1, .int t0]) := by
  obtain ⟨hx, hb, hml, hr, hlocks, hown, hts, hK, hE⟩ := id C
  have hfX1 : ∀ w ∈ u_ws RX1 TX1 13, w ∈ wsX4_allowHand := by decide +kernel
  have hfX4 : ∀ w ∈ u_ws RX4 TX4 4, w ∈ wsX4_allowHand := by decide +kernel
  unfold v_X4_allowHand_b99 at hw
  refine lv_icmp_eq (tgt := 104) hx hb dX4_allowHand_99 (by decide) (fun c17 => ?_) (fun c17 => ?_)
  · replace hw := hw.1 c17
    obtain ⟨y18, ey18⟩ : ∃ z : Int32, z = x4 + (1 : Int32) := ⟨_, rfl⟩
    replace hw := hw y18 ey18
    refine lv_iinc (v := y18) (lv' := [(4, .int y18), (0, .ref (z_a E 16 0)), (1, .ref (z_a E o 0)), (2, .int x2), (3, .int x3)]) hx hb dX4_allowHand_104 hl (k := 4) rfl (by rw [ey18]; rfl) (by decide) rfl (fun ls hl => ?_)
    refine lv_goto (tgt := 3) hx hb dX4_allowHand_107 (by decide) ?_
    exact k3 x2 x3 y18 hw hP hS _ (lv_sub hl [1, 2, 3, 4, 0] rfl)
  · replace hw := hw.2 c17
    refine lv_iconst (v := (0 : Int32)) hx hb dX4_allowHand_102 (by decide) ?_
    exact z_retz C (Or.inl rfl) hP hS ⟨rfl, hw⟩ dX4_allowHand_103
set_option maxHeartbeats 4000000 in
set_option maxRecDepth 100000 in
theorem m_X4_allowHand_b3_s {p : Program} {l : Launch} {e : Env} {s : State} {m : MethodId} {args : Array Value} {below : List Frame} {meth : Method} {c : Code} {E : z_E} (C : z_Cx p E s m args meth c cX4_allowHand 7 wsX4_allowHand RX4 (some .boolean)) (hC : z_cls E) (o : Nat) (ho : o < 13) (Y : z_X) (K : Int32 → Prop) (L3 : Int32 → Int32 → Int32 → Prop) (k3 : ∀ (x2 : Int32) (x3 : Int32) (x4 : Int32), L3 x2 x3 x4 → ∀ {H : Heap} {locs : List Loc}, z_P E Y H → va_S (z_A E) s.heap H locs → ∀ (ls : Array Slot), lv_has ls 7 [(0, .ref (z_a E 16 0)), (1, .ref (z_a E o 0)), (2, .int x2), (3, .int x3), (4, .int x4)] → W p l e rX4_allowHand s m args below meth c H locs 0 0 (MQ below (va_Qi (fun r X' => X' = Y ∧ K r) (fun u t => z_P E u t.heap) (z_A E)) args s 0 0 (z_A E)) (F0 m 3 ls [])) (x2 : Int32) (x3 : Int32) (x4 : Int32) (hw : v_X4_allowHand_b3_s o Y K L3 x2 x3 x4) {H : Heap} {locs : List Loc} (hP : z_P E Y H) (hS : va_S (z_A E) s.heap H locs) {ls : Array Slot} (hl : lv_has ls 7 [(0, .ref (z_a E 16 0)), (1, .ref (z_a E o 0)), (2, .int x2), (3, .int x3), (4, .int x4)]) : W p l e rX4_allowHand s m args below meth c H locs 0 0 (MQ below (va_Qi (fun r X' => X' = Y ∧ K r) (fun u t => z_P E u t.heap) (z_A E)) args s 0 0 (z_A E)) (F0 m 3 ls []) := by
  obtain ⟨hx, hb, hml, hr, hlocks, hown, hts, hK, hE⟩ := id C
  have hfX1 : ∀ w ∈ u_ws RX1 TX1 13, w ∈ wsX4_allowHand := by decide +kernel
  have hfX4 : ∀ w ∈ u_ws RX4 TX4 4, w ∈ wsX4_allowHand := by decide +kernel
  unfold v_X4_allowHand_b3_s at hw
  refine lv_iload hx hb dX4_allowHand_3 (lv_at hl 4 rfl) ?_
  refine lv_aload_n hx hb dX4_allowHand_5 rfl (lv_at hl 0 rfl) ?_
  refine z_geti (C := RX4) (T := TX4) (N := 4) (ref := "GauntletHall$Sightings") (o := 16) (d := 0) hx hb hts hfX4 hown hK hP (hC.2 (16, 0) (List.mem_of_getElem? (i := 7) rfl)) z_l_16_0 rfl 0 (by decide) (hts (.fieldLink RX4 9 "GauntletHall$Sightings" "count" "I") (by decide +kernel)) rfl rfl rfl dX4_allowHand_6 ?_
  refine lv_icmp_ge (tgt := 110) hx hb dX4_allowHand_9 (by decide) (fun c1 => ?_) (fun c1 => ?_)
  · replace hw := hw.1 c1
    refine lv_iconst (v := (1 : Int32)) hx hb dX4_allowHand_110 (by decide) ?_
    exact z_retz C (Or.inr rfl) hP hS ⟨rfl, hw⟩ dX4_allowHand_111
  · replace hw := hw.2 c1
    refine lv_aload_n hx hb dX4_allowHand_12 rfl (lv_at hl 0 rfl) ?_
    refine z_getr (C := RX4) (T := TX4) (N := 4) (ref := "GauntletHall$Sightings") (o := 16) (d := 0) hx hb hts hfX4 hown hK hP (hC.2 (16, 0) (List.mem_of_getElem? (i := 7) rfl)) z_l_16_0 rfl 1 (by decide) (hts (.fieldLink RX4 15 "GauntletHall$Sightings" "glove" "[I") (by decide +kernel)) rfl rfl dX4_allowHand_13 ?_
    refine lv_iload hx hb dX4_allowHand_16 (lv_at hl 4 rfl) ?_
    obtain ⟨i2, hw⟩ := hw
    refine z_iald (o := 16) (d := 1) hx hb hK hP (hC.2 (16, 1) (List.mem_of_getElem? (i := 8) rfl)) z_l_16_1 i2 rfl dX4_allowHand_18 ?_
    refine lv_topi (fun y3 ey3 => ?_)
    replace hw := hw y3 ey3
    refine lv_istore (lv' := [(5, .int y3), (0, .ref (z_a E 16 0)), (1, .ref (z_a E o 0)), (2, .int x2), (3, .int x3), (4, .int x4)]) hx hb dX4_allowHand_19 hl (by decide) rfl (fun ls hl => ?_)
    refine lv_aload_n hx hb dX4_allowHand_21 rfl (lv_at hl 1 rfl) ?_
    refine z_getr (C := RX4) (T := TX4) (N := 4) (ref := "GauntletHall$Sightings") (o := 16) (d := 0) hx hb hts hfX4 hown hK hP (hC.2 (16, 0) (List.mem_of_getElem? (i := 7) rfl)) z_l_16_0 rfl 2 (by decide) (hts (.fieldLink RX4 19 "GauntletHall$Sightings" "person" "[I") (by decide +kernel)) rfl rfl dX4_allowHand_22 ?_
    refine lv_iload hx hb dX4_allowHand_25 (lv_at hl 5 rfl) ?_
    obtain ⟨i4, hw⟩ := hw
    refine z_iald (o := 16) (d := 2) hx hb hK hP (hC.2 (16, 2) (List.mem_of_getElem? (i := 9) rfl)) z_l_16_2 i4 rfl dX4_allowHand_27 ?_
    refine lv_iload_n hx hb dX4_allowHand_28 rfl (lv_at hl 3 rfl) ?_
    refine lv_icmp_ne (tgt := 104) hx hb dX4_allowHand_29 (by decide) (fun c5 => ?_) (fun c5 => ?_)
    · replace hw := hw.1 c5
      obtain ⟨y6, ey6⟩ : ∃ z : Int32, z = x4 + (1 : Int32) := ⟨_, rfl⟩
      replace hw := hw y6 ey6
      refine lv_iinc (v := y6) (lv' := [(4, .int y6), (5, .int y3), (0, .ref (z_a E 16 0)), (1, .ref (z_a E o 0)), (2, .int x2), (3, .int x3)]) hx hb dX4_allowHand_104 hl (k := 5) rfl (by rw [ey6]; rfl) (by decide) rfl (fun ls hl => ?_)
      refine lv_goto (tgt := 3) hx hb dX4_allowHand_107 (by decide) ?_
      exact k3 x2 x3 y6 hw hP hS _ (lv_sub hl [2, 3, 4, 5, 0] rfl)
    · replace hw := hw.2 c5
      refine lv_aload_n hx hb dX4_allowHand_32 rfl (lv_at hl 2 rfl) ?_
      refine lv_iload hx hb dX4_allowHand_33 (lv_at hl 0 rfl) ?_
      have hPc := z_P_self o hP
      refine z_vi (C := RX1) (T := TX1) (N := 13) (o := o) (rest := []) ⟨hx, hb, hml, hown, hts⟩ (m_X1_isGlove l hE hC o ho Y (Y o) y3 _ hw) (cwV 1 hts gX4_allowHand_X1_isGlove rfl rfl rfl (by decide +kernel) ⟨Nat.le_of_ble_eq_true rfl, Nat.le_of_ble_eq_true rfl⟩) hK hPc hS (hC.1 o ho (o, 0) (List.mem_of_getElem? (i := 0) rfl)) (z_lH_0 (o := o) ho) rfl rfl hl.1 rfl (Nat.le_of_ble_eq_true rfl) dX4_allowHand_35 ⟨Nat.zero_le _, Nat.zero_le _⟩ (fun r7 u H locs hk hP hS => ?_)
      obtain ⟨eu, hw⟩ := hk
      rw [eu, z_up_self] at hP
      refine lv_if_ne (tgt := 44) hx hb dX4_allowHand_38 (by decide) (fun c8 => ?_) (fun c8 => ?_)
      · replace hw := hw.1 c8
        refine lv_aload_n hx hb dX4_allowHand_44 rfl (lv_at hl 2 rfl) ?_
        refine z_getr (C := RX1) (T := TX1) (N := 13) (ref := "GauntletHall$Hall") (o := o) (d := 0) hx hb hts hfX1 hown hK hP (hC.1 o ho (o, 0) (List.mem_of_getElem? (i := 0) rfl)) (z_lH_0 (o := o) ho) rfl 7 (by decide) (hts (.fieldLink RX4 31 "GauntletHall$Hall" "kind" "[I") (by decide +kernel)) rfl rfl dX4_allowHand_45 ?_
        refine lv_iload hx hb dX4_allowHand_48 (lv_at hl 0 rfl) ?_
        obtain ⟨i9, hw⟩ := hw
        refine z_iald (o := o) (d := 7) hx hb hK hP (hC.1 o ho (o, 7) (List.mem_of_getElem? (i := 4) rfl)) (z_lH_7 (o := o) ho) i9 rfl dX4_allowHand_50 ?_
        refine lv_aload_n hx hb dX4_allowHand_51 rfl (lv_at hl 2 rfl) ?_
        refine z_getr (C := RX1) (T := TX1) (N := 13) (ref := "GauntletHall$Hall") (o := o) (d := 0) hx hb hts hfX1 hown hK hP (hC.1 o ho (o, 0) (List.mem_of_getElem? (i := 0) rfl)) (z_lH_0 (o := o) ho) rfl 8 (by decide) (hts (.fieldLink RX4 34 "GauntletHall$Hall" "size" "[I") (by decide +kernel)) rfl rfl dX4_allowHand_52 ?_
        refine lv_iload hx hb dX4_allowHand_55 (lv_at hl 0 rfl) ?_
        obtain ⟨i10, hw⟩ := hw
        refine z_iald (o := o) (d := 8) hx hb hK hP (hC.1 o ho (o, 8) (List.mem_of_getElem? (i := 5) rfl)) (z_lH_8 (o := o) ho) i10 rfl dX4_allowHand_57 ?_
        refine lv_aload_n hx hb dX4_allowHand_58 rfl (lv_at hl 2 rfl) ?_
        refine z_getr (C := RX1) (T := TX1) (N := 13) (ref := "GauntletHall$Hall") (o := o) (d := 0) hx hb hts hfX1 hown hK hP (hC.1 o ho (o, 0) (List.mem_of_getElem? (i := 0) rfl)) (z_lH_0 (o := o) ho) rfl 11 (by decide) (hts (.fieldLink RX4 37 "GauntletHall$Hall" "lain" "[I") (by decide +kernel)) rfl rfl dX4_allowHand_59 ?_
        refine lv_iload hx hb dX4_allowHand_62 (lv_at hl 0 rfl) ?_
        obtain ⟨i11, hw⟩ := hw
        refine z_iald (o := o) (d := 11) hx hb hK hP (hC.1 o ho (o, 11) (List.mem_of_getElem? (i := 8) rfl)) (z_lH_11 (o := o) ho) i11 rfl dX4_allowHand_64 ?_
        refine z_sn (host := "GauntletHall") (rest := []) ⟨hx, hb, hml, hown, hts⟩ (m_X5_sizeByNow l hE Y (Y o 7 (z_n y3)) (Y o 8 (z_n y3)) (Y o 11 (z_n y3)) _ hw) (va_cnB 3 hts gX4_allowHand_X5_sizeByNow_n40 rfl rfl rfl (hK.2 _ (List.mem_of_getElem? (i := 7) rfl)) (hts (.initialized RX5) (by decide +kernel)) (by decide +kernel) ⟨Nat.le_of_ble_eq_true rfl, Nat.le_of_ble_eq_true rfl⟩) (hts (.static yX5_sizeByNow) (by decide +kernel)) hK hP hS rfl hl.1 rfl (Nat.le_of_ble_eq_true rfl) dX4_allowHand_65 ⟨Nat.zero_le _, Nat.zero_le _⟩ (fun r12 u H locs hk hP hS => ?_)
        obtain ⟨eu, hw⟩ := hk
        rw [eu] at hP
        refine lv_istore (lv' := [(6, .int r12), (5, .int y3), (0, .ref (z_a E 16 0)), (1, .ref (z_a E o 0)), (2, .int x2), (3, .int x3), (4, .int x4)]) hx hb dX4_allowHand_68 hl (by decide) rfl (fun ls hl => ?_)
        refine lv_aload_n hx hb dX4_allowHand_70 rfl (lv_at hl 3 rfl) ?_
        refine z_getr (C := RX1) (T := TX1) (N := 13) (ref := "GauntletHall$Hall") (o := o) (d := 0) hx hb hts hfX1 hown hK hP (hC.1 o ho (o, 0) (List.mem_of_getElem? (i := 0) rfl)) (z_lH_0 (o := o) ho) rfl 7 (by decide) (hts (.fieldLink RX4 31 "GauntletHall$Hall" "kind" "[I") (by decide +kernel)) rfl rfl dX4_allowHand_71 ?_
        refine lv_iload hx hb dX4_allowHand_74 (lv_at hl 1 rfl) ?_
        obtain ⟨i13, hw⟩ := hw
        refine z_iald (o := o) (d := 7) hx hb hK hP (hC.1 o ho (o, 7) (List.mem_of_getElem? (i := 4) rfl)) (z_lH_7 (o := o) ho) i13 rfl dX4_allowHand_76 ?_
        refine lv_iload hx hb dX4_allowHand_77 (lv_at hl 0 rfl) ?_
        refine lv_iload_n hx hb dX4_allowHand_79 rfl (lv_at hl 5 rfl) ?_
        refine z_sn (host := "GauntletHall") (rest := []) ⟨hx, hb, hml, hown, hts⟩ (m_X5_isAsLarge l hE Y (Y o 7 (z_n y3)) r12 x3 _ hw) (va_cnB 3 hts gX4_allowHand_X5_isAsLarge_n44 rfl rfl rfl (hK.2 _ (List.mem_of_getElem? (i := 8) rfl)) (hts (.initialized RX5) (by decide +kernel)) (by decide +kernel) ⟨Nat.le_of_ble_eq_true rfl, Nat.le_of_ble_eq_true rfl⟩) (hts (.static yX5_isAsLarge) (by decide +kernel)) hK hP hS rfl hl.1 rfl (Nat.le_of_ble_eq_true rfl) dX4_allowHand_80 ⟨Nat.zero_le _, Nat.zero_le _⟩ (fun r14 u H locs hk hP hS => ?_)
        obtain ⟨eu, hw⟩ := hk
        rw [eu] at hP
        refine lv_aload_n hx hb dX4_allowHand_83 rfl (lv_at hl 2 rfl) ?_
        refine z_getr (C := RX4) (T := TX4) (N := 4) (ref := "GauntletHall$Sightings") (o := 16) (d := 0) hx hb hts hfX4 hown hK hP (hC.2 (16, 0) (List.mem_of_getElem? (i := 7) rfl)) z_l_16_0 rfl 3 (by decide) (hts (.fieldLink RX4 22 "GauntletHall$Sightings" "fitted" "[I") (by decide +kernel)) rfl rfl dX4_allowHand_84 ?_
        refine lv_iload hx hb dX4_allowHand_87 (lv_at hl 6 rfl) ?_
        obtain ⟨i15, hw⟩ := hw
        refine z_iald (o := 16) (d := 3) hx hb hK hP (hC.2 (16, 3) (List.mem_of_getElem? (i := 10) rfl)) z_l_16_3 i15 rfl dX4_allowHand_89 ?_
        refine lv_iconst (v := (1 : Int32)) hx hb dX4_allowHand_90 (by decide) ?_
        refine lv_icmp_ne (tgt := 98) hx hb dX4_allowHand_91 (by decide) (fun c16 => ?_) (fun c16 => ?_)
        · replace hw := hw.1 c16
          refine lv_iconst (v := (0 : Int32)) hx hb dX4_allowHand_98 (by decide) ?_
          exact m_X4_allowHand_b99 C hC o ho Y K L3 k3 x2 x3 x4 r14 (0 : Int32) hw hP hS (lv_sub hl [2, 3, 4, 5, 6] rfl)
        · replace hw := hw.2 c16
          refine lv_iconst (v := (1 : Int32)) hx hb dX4_allowHand_94 (by decide) ?_
          refine lv_goto (tgt := 99) hx hb dX4_allowHand_95 (by decide) ?_
          exact m_X4_allowHand_b99 C hC o ho Y K L3 k3 x2 x3 x4 r14 (1 : Int32) hw hP hS (lv_sub hl [2, 3, 4, 5, 6] rfl)
      · replace hw := hw.2 c8
        refine lv_goto (tgt := 104) hx hb dX4_allowHand_41 (by decide) ?_
        obtain ⟨y19, ey19⟩ : ∃ z : Int32, z = x4 + (1 : Int32) := ⟨_, rfl⟩
        replace hw := hw y19 ey19
        refine lv_iinc (v := y19) (lv' := [(4, .int y19), (5, .int y3), (0, .ref (z_a E 16 0)), (1, .ref (z_a E o 0)), (2, .int x2), (3, .int x3)]) hx hb dX4_allowHand_104 hl (k := 5) rfl (by rw [ey19]; rfl) (by decide) rfl (fun ls hl => ?_)
        refine lv_goto (tgt := 3) hx hb dX4_allowHand_107 (by decide) ?_
        exact k3 x2 x3 y19 hw hP hS _ (lv_sub hl [2, 3, 4, 5, 0] rfl)
theorem m_X4_allowHand_b3 {p : Program} {l : Launch} {e : Env} {s : State} {m : MethodId} {args : Array Value} {below : List Frame} {meth : Method} {c : Code} {E : z_E} (C : z_Cx p E s m args meth c cX4_allowHand 7 wsX4_allowHand RX4 (some .boolean)) (hC : z_cls E) (o : Nat) (ho : o < 13) (Y : z_X) (K : Int32 → Prop) (x2 : Int32) (x3 : Int32) (x4 : Int32) (hw : v_X4_allowHand_b3 o Y K x2 x3 x4) {H : Heap} {locs : List Loc} (hP : z_P E Y H) (hS : va_S (z_A E) s.heap H locs) {ls : Array Slot} (hl : lv_has ls 7 [(0, .ref (z_a E 16 0)), (1, .ref (z_a E o 0)), (2, .int x2), (3, .int x3), (4, .int x4)]) : W p l e rX4_allowHand s m args below meth c H locs 0 0 (MQ below (va_Qi (fun r X' => X' = Y ∧ K r) (fun u t => z_P E u t.heap) (z_A E)) args s 0 0 (z_A E)) (F0 m 3 ls []) := by
  obtain ⟨n, hw⟩ := hw
  revert hw hP hS hl
  revert x2 x3 x4 H locs ls
  induction n with
  | zero => intro x2 x3 x4 H locs ls hP hS hl hw; exact hw.elim
  | succ n ih =>
    intro x2 x3 x4 H locs ls hP hS hl hw
    exact m_X4_allowHand_b3_s C hC o ho Y K (fun x2 x3 x4 => z_fp (σ := Int32 × Int32 × Int32) (fun Lp q => v_X4_allowHand_b3_s o Y K (fun x2 x3 x4 => Lp (x2, x3, x4)) q.1 q.2.1 q.2.2) n (x2, x3, x4)) (fun x2 x3 x4 h9 H locs hP hS ls hl => ih x2 x3 x4 hP hS hl h9) x2 x3 x4 hw hP hS hl
set_option maxHeartbeats 4000000 in
set_option maxRecDepth 100000 in
theorem m_X4_allowHand (l : Launch) {E : z_E} (hE : z_ok E) (hC : z_cls E) (o : Nat) (ho : o < 13) (Y : z_X) (x2 : Int32) (x3 : Int32) (K : Int32 → Prop) (hw : v_X4_allowHand o Y x2 x3 K) : z_CI l E yX4_allowHand wsX4_allowHand rX4_allowHand [.ref (z_a E 16 0), .ref (z_a E o 0), .int x2, .int x3] Y (fun r X' => X' = Y ∧ K r) := by
  refine z_start (cc := cX4_allowHand) (maxL := 7) (ret := (some .boolean)) hE (by decide) rfl (Nat.le_of_ble_eq_true rfl) ?_
  intro p e s m below meth c C hP hS ls hl
  have C : z_Cx p E s m _ meth c cX4_allowHand 7 wsX4_allowHand RX4 (some .boolean) := C
  obtain ⟨hx, hb, hml, hr, hlocks, hown, hts, hK, hE⟩ := id C
  have hl : lv_has ls 7 [(0, .ref (z_a E 16 0)), (1, .ref (z_a E o 0)), (2, .int x2), (3, .int x3)] := hl
  have hfX1 : ∀ w ∈ u_ws RX1 TX1 13, w ∈ wsX4_allowHand := by decide +kernel
  have hfX4 : ∀ w ∈ u_ws RX4 TX4 4, w ∈ wsX4_allowHand := by decide +kernel
  unfold v_X4_allowHand at hw
  refine lv_iconst (v := (0 : Int32)) hx hb dX4_allowHand_0 (by decide) ?_
  refine lv_istore (lv' := [(4, .int (0 : Int32)), (0, .ref (z_a E 16 0)), (1, .ref (z_a E o 0)), (2, .int x2), (3, .int x3)]) hx hb dX4_allowHand_1 hl (by decide) rfl (fun ls hl => ?_)
  exact m_X4_allowHand_b3 C hC o ho Y K x2 x3 (0 : Int32) hw hP hS (lv_sub hl [1, 2, 3, 4, 0] rfl)
set_option maxHeartbeats 4000000 in
set_option maxRecDepth 100000 in
theorem m_X5_back (l : Launch) {E : z_E} (hE : z_ok E) (hC : z_cls E) (Y : z_X) (K : Int32 → z_X → Prop) (hw : v_X5_back Y K) : z_CI l E yX5_back wsX5_back rX5_back [.ref (z_a E 18 0)] Y K := by
  refine z_start (cc := cX5_back) (maxL := 1) (ret := (some .int)) hE (by decide) rfl (Nat.le_of_ble_eq_true rfl) ?_
  intro p e s m below meth c C hP hS ls hl
  have C : z_Cx p E s m _ meth c cX5_back 1 wsX5_back RX5 (some .int) := C
  obtain ⟨hx, hb, hml, hr, hlocks, hown, hts, hK, hE⟩ := id C
  have hl : lv_has ls 1 [(0, .ref (z_a E 18 0))] := hl
  have hfX3 : ∀ w ∈ u_ws RX3 TX3 3, w ∈ wsX5_back := by decide +kernel
  have hfX5 : ∀ w ∈ u_ws RX5 TX5 7, w ∈ wsX5_back := by decide +kernel
  unfold v_X5_back at hw
  refine lv_aload_n hx hb dX5_back_0 rfl (lv_at hl 0 rfl) ?_
  refine z_getr (C := RX5) (T := TX5) (N := 7) (ref := "GauntletHall") (o := 18) (d := 0) hx hb hts hfX5 hown hK hP (hC.2 (18, 0) (List.mem_of_getElem? (i := 12) rfl)) z_l_18_0 rfl 4 (by decide) (hts (.fieldLink RX5 35 "GauntletHall" "kept" "LGauntletHall$Shelf;") (by decide +kernel)) rfl rfl dX5_back_1 ?_
  refine lv_aload_n hx hb dX5_back_4 rfl (lv_at hl 0 rfl) ?_
  refine z_getr (C := RX5) (T := TX5) (N := 7) (ref := "GauntletHall") (o := 18) (d := 0) hx hb hts hfX5 hown hK hP (hC.2 (18, 0) (List.mem_of_getElem? (i := 12) rfl)) z_l_18_0 rfl 1 (by decide) (hts (.fieldLink RX5 19 "GauntletHall" "hall" "LGauntletHall$Hall;") (by decide +kernel)) rfl rfl dX5_back_5 ?_
  refine z_vi (C := RX3) (T := TX3) (N := 3) (o := 15) (rest := []) ⟨hx, hb, hml, hown, hts⟩ (m_X3_bringBack l hE hC 15 11 2 (z_s15 hC) 0 (by decide) Y _ hw) (cwV 1 hts gX5_back_X3_bringBack rfl rfl rfl (by decide +kernel) ⟨Nat.le_of_ble_eq_true rfl, Nat.le_of_ble_eq_true rfl⟩) hK hP hS (hC.2 (15, 0) (List.mem_of_getElem? (i := 5) rfl)) z_l_15_0 rfl rfl hl.1 rfl (Nat.le_of_ble_eq_true rfl) dX5_back_8 ⟨Nat.zero_le _, Nat.zero_le _⟩ (fun r1 Y2 H locs hk hP hS => ?_)
  replace hw := hk
  refine lv_if_ne (tgt := 17) hx hb dX5_back_11 (by decide) (fun c3 => ?_) (fun c3 => ?_)
  · replace hw := hw.1 c3
    refine lv_aload_n hx hb dX5_back_17 rfl (lv_at hl 0 rfl) ?_
    refine z_getr (C := RX5) (T := TX5) (N := 7) (ref := "GauntletHall") (o := 18) (d := 0) hx hb hts hfX5 hown hK hP (hC.2 (18, 0) (List.mem_of_getElem? (i := 12) rfl)) z_l_18_0 rfl 3 (by decide) (hts (.fieldLink RX5 31 "GauntletHall" "past" "LGauntletHall$Shelf;") (by decide +kernel)) rfl rfl dX5_back_18 ?_
    refine lv_iconst (v := (0 : Int32)) hx hb dX5_back_21 (by decide) ?_
    obtain ⟨Y4, eY4⟩ : ∃ z : z_X, z = z_up Y2 14 (z_ss (Y2 14) 0 0 (0 : Int32)) := ⟨_, rfl⟩
    replace hw := hw Y4 eY4
    refine z_puti (C := RX3) (T := TX3) (N := 3) (ref := "GauntletHall$Shelf") (o := 14) (d := 0) (X' := Y4) hx hb hts hfX3 tyX3 tyX3_ok nmX3 hown hK hE hP hS (hC.2 (14, 0) (List.mem_of_getElem? (i := 3) rfl)) z_l_14_0 rfl 0 (by decide) (hts (.fieldLink RX5 86 "GauntletHall$Shelf" "count" "I") (by decide +kernel)) rfl rfl (by decide +kernel) rfl eY4.symm dX5_back_22 (fun H locs hP hS => ?_)
    refine lv_aload_n hx hb dX5_back_25 rfl (lv_at hl 0 rfl) ?_
    refine z_getr (C := RX5) (T := TX5) (N := 7) (ref := "GauntletHall") (o := 18) (d := 0) hx hb hts hfX5 hown hK hP (hC.2 (18, 0) (List.mem_of_getElem? (i := 12) rfl)) z_l_18_0 rfl 4 (by decide) (hts (.fieldLink RX5 35 "GauntletHall" "kept" "LGauntletHall$Shelf;") (by decide +kernel)) rfl rfl dX5_back_26 ?_
    refine z_geti (C := RX3) (T := TX3) (N := 3) (ref := "GauntletHall$Shelf") (o := 15) (d := 0) hx hb hts hfX3 hown hK hP (hC.2 (15, 0) (List.mem_of_getElem? (i := 5) rfl)) z_l_15_0 rfl 0 (by decide) (hts (.fieldLink RX5 86 "GauntletHall$Shelf" "count" "I") (by decide +kernel)) rfl rfl rfl dX5_back_29 ?_
    exact z_reti C hP hS hw dX5_back_32
  · replace hw := hw.2 c3
    refine lv_bipush (v := (-2 : Int32)) hx hb dX5_back_14 (by decide) ?_
    exact z_reti C hP hS hw dX5_back_16
