/-! ===== PRINTED (wip/whole/gen/gen.py): the machine meets each definition: J6.bitCount_0f7a4, X1.lowestWith, X1.isOut, X1.putGlove, X0.throwByDraw, X0.actByDraw, X1.lyingAsBits, X1.copyFrom, X1.takeAway ===== -/
set_option maxHeartbeats 4000000 in
set_option maxRecDepth 100000 in
theorem m_J6_bitCount_0f7a4 (l : Launch) {E : z_E} (hE : z_ok E) (X : z_X) (x0 : Int32) (K : Int32 → Prop) (hw : v_J6_bitCount_0f7a4 x0 K) : z_CI l E yJ6_bitCount_0f7a4 wsJ6_bitCount_0f7a4 rJ6_bitCount_0f7a4 [.int x0] X (fun r X' => X' = X ∧ K r) := by
  refine z_start (cc := cJ6_bitCount_0f7a4) (maxL := 1) (ret := (some .int)) hE (by decide) rfl (Nat.le_of_ble_eq_true rfl) ?_
  intro p e s m below meth c C hP hS ls hl
  have C : z_Cx p E s m _ meth c cJ6_bitCount_0f7a4 1 wsJ6_bitCount_0f7a4 RJ6 (some .int) := C
  obtain ⟨hx, hb, hml, hr, hlocks, hown, hts, hK, hE⟩ := id C
  have hl : lv_has ls 1 [(0, .int x0)] := hl
  unfold v_J6_bitCount_0f7a4 at hw
  refine lv_iload_n hx hb dJ6_bitCount_0f7a4_0 rfl (lv_at hl 0 rfl) ?_
  refine lv_iload_n hx hb dJ6_bitCount_0f7a4_1 rfl (lv_at hl 0 rfl) ?_
  refine lv_iconst (v := (1 : Int32)) hx hb dJ6_bitCount_0f7a4_2 (by decide) ?_
  refine lv_iushr hx hb dJ6_bitCount_0f7a4_3 rfl ?_
  refine lv_ldcw hx hb hown (hts (.constant RJ6 265 (1431655765)) (by decide +kernel)) dJ6_bitCount_0f7a4_4 ?_
  refine lv_iand hx hb dJ6_bitCount_0f7a4_7 ?_
  refine lv_isub hx hb dJ6_bitCount_0f7a4_8 ?_
  refine lv_topi (fun y1 ey1 => ?_)
  replace hw := hw y1 ey1
  refine lv_istore_n (lv' := [(0, .int y1)]) hx hb dJ6_bitCount_0f7a4_9 rfl hl (by decide) rfl (fun ls hl => ?_)
  refine lv_iload_n hx hb dJ6_bitCount_0f7a4_10 rfl (lv_at hl 0 rfl) ?_
  refine lv_ldcw hx hb hown (hts (.constant RJ6 266 (858993459)) (by decide +kernel)) dJ6_bitCount_0f7a4_11 ?_
  refine lv_iand hx hb dJ6_bitCount_0f7a4_14 ?_
  refine lv_iload_n hx hb dJ6_bitCount_0f7a4_15 rfl (lv_at hl 0 rfl) ?_
  refine lv_iconst (v := (2 : Int32)) hx hb dJ6_bitCount_0f7a4_16 (by decide) ?_
  refine lv_iushr hx hb dJ6_bitCount_0f7a4_17 rfl ?_
  refine lv_ldcw hx hb hown (hts (.constant RJ6 266 (858993459)) (by decide +kernel)) dJ6_bitCount_0f7a4_18 ?_
  refine lv_iand hx hb dJ6_bitCount_0f7a4_21 ?_
  refine lv_iadd hx hb dJ6_bitCount_0f7a4_22 ?_
  refine lv_topi (fun y2 ey2 => ?_)
  replace hw := hw y2 ey2
  refine lv_istore_n (lv' := [(0, .int y2)]) hx hb dJ6_bitCount_0f7a4_23 rfl hl (by decide) rfl (fun ls hl => ?_)
  refine lv_iload_n hx hb dJ6_bitCount_0f7a4_24 rfl (lv_at hl 0 rfl) ?_
  refine lv_iload_n hx hb dJ6_bitCount_0f7a4_25 rfl (lv_at hl 0 rfl) ?_
  refine lv_iconst (v := (4 : Int32)) hx hb dJ6_bitCount_0f7a4_26 (by decide) ?_
  refine lv_iushr hx hb dJ6_bitCount_0f7a4_27 rfl ?_
  refine lv_iadd hx hb dJ6_bitCount_0f7a4_28 ?_
  refine lv_ldcw hx hb hown (hts (.constant RJ6 267 (252645135)) (by decide +kernel)) dJ6_bitCount_0f7a4_29 ?_
  refine lv_iand hx hb dJ6_bitCount_0f7a4_32 ?_
  refine lv_topi (fun y3 ey3 => ?_)
  replace hw := hw y3 ey3
  refine lv_istore_n (lv' := [(0, .int y3)]) hx hb dJ6_bitCount_0f7a4_33 rfl hl (by decide) rfl (fun ls hl => ?_)
  refine lv_iload_n hx hb dJ6_bitCount_0f7a4_34 rfl (lv_at hl 0 rfl) ?_
  refine lv_iload_n hx hb dJ6_bitCount_0f7a4_35 rfl (lv_at hl 0 rfl) ?_
  refine lv_bipush (v := (8 : Int32)) hx hb dJ6_bitCount_0f7a4_36 (by decide) ?_
  refine lv_iushr hx hb dJ6_bitCount_0f7a4_38 rfl ?_
  refine lv_iadd hx hb dJ6_bitCount_0f7a4_39 ?_
  refine lv_topi (fun y4 ey4 => ?_)
  replace hw := hw y4 ey4
  refine lv_istore_n (lv' := [(0, .int y4)]) hx hb dJ6_bitCount_0f7a4_40 rfl hl (by decide) rfl (fun ls hl => ?_)
  refine lv_iload_n hx hb dJ6_bitCount_0f7a4_41 rfl (lv_at hl 0 rfl) ?_
  refine lv_iload_n hx hb dJ6_bitCount_0f7a4_42 rfl (lv_at hl 0 rfl) ?_
  refine lv_bipush (v := (16 : Int32)) hx hb dJ6_bitCount_0f7a4_43 (by decide) ?_
  refine lv_iushr hx hb dJ6_bitCount_0f7a4_45 rfl ?_
  refine lv_iadd hx hb dJ6_bitCount_0f7a4_46 ?_
  refine lv_topi (fun y5 ey5 => ?_)
  replace hw := hw y5 ey5
  refine lv_istore_n (lv' := [(0, .int y5)]) hx hb dJ6_bitCount_0f7a4_47 rfl hl (by decide) rfl (fun ls hl => ?_)
  refine lv_iload_n hx hb dJ6_bitCount_0f7a4_48 rfl (lv_at hl 0 rfl) ?_
  refine lv_bipush (v := (63 : Int32)) hx hb dJ6_bitCount_0f7a4_49 (by decide) ?_
  refine lv_iand hx hb dJ6_bitCount_0f7a4_51 ?_
  exact z_reti C hP hS ⟨rfl, hw⟩ dJ6_bitCount_0f7a4_52
set_option maxHeartbeats 4000000 in
set_option maxRecDepth 100000 in
theorem m_X1_lowestWith_b2_s {p : Program} {l : Launch} {e : Env} {s : State} {m : MethodId} {args : Array Value} {below : List Frame} {meth : Method} {c : Code} {E : z_E} (C : z_Cx p E s m args meth c cX1_lowestWith 3 wsX1_lowestWith RX1 (some .int)) (hC : z_cls E) (o : Nat) (ho : o < 13) (X : z_X) (h : z_G) (K : Int32 → Prop) (L2 : Int32 → Int32 → Prop) (k2 : ∀ (x1 : Int32) (x2 : Int32), L2 x1 x2 → ∀ {H : Heap} {locs : List Loc}, z_P E (z_up X o h) H → va_S (z_A E) s.heap H locs → ∀ (ls : Array Slot), lv_has ls 3 [(0, .ref (z_a E o 0)), (1, .int x1), (2, .int x2)] → W p l e rX1_lowestWith s m args below meth c H locs 0 0 (MQ below (va_Qi (fun r X' => X' = (z_up X o h) ∧ K r) (fun u t => z_P E u t.heap) (z_A E)) args s 0 0 (z_A E)) (F0 m 2 ls [])) (x1 : Int32) (x2 : Int32) (hw : v_X1_lowestWith_b2_s h K L2 x1 x2) {H : Heap} {locs : List Loc} (hP : z_P E (z_up X o h) H) (hS : va_S (z_A E) s.heap H locs) {ls : Array Slot} (hl : lv_has ls 3 [(0, .ref (z_a E o 0)), (1, .int x1), (2, .int x2)]) : W p l e rX1_lowestWith s m args below meth c H locs 0 0 (MQ below (va_Qi (fun r X' => X' = (z_up X o h) ∧ K r) (fun u t => z_P E u t.heap) (z_A E)) args s 0 0 (z_A E)) (F0 m 2 ls []) := by
  obtain ⟨hx, hb, hml, hr, hlocks, hown, hts, hK, hE⟩ := id C
  have hfX1 : ∀ w ∈ u_ws RX1 TX1 13, w ∈ wsX1_lowestWith := by decide +kernel
  unfold v_X1_lowestWith_b2_s at hw
  refine lv_iload_n hx hb dX1_lowestWith_2 rfl (lv_at hl 2 rfl) ?_
  refine lv_aload_n hx hb dX1_lowestWith_3 rfl (lv_at hl 0 rfl) ?_
  refine z_geti (C := RX1) (T := TX1) (N := 13) (ref := "GauntletHall$Hall") (o := o) (d := 0) hx hb hts hfX1 hown hK hP (hC.1 o ho (o, 0) (List.mem_of_getElem? (i := 0) rfl)) (z_lH_0 (o := o) ho) rfl 1 (by decide) (hts (.fieldLink RX1 15 "GauntletHall$Hall" "gloves" "I") (by decide +kernel)) rfl rfl (z_up_val X o h 0 1) dX1_lowestWith_4 ?_
  refine lv_icmp_ge (tgt := 28) hx hb dX1_lowestWith_7 (by decide) (fun c1 => ?_) (fun c1 => ?_)
  · replace hw := hw.1 c1
    refine lv_bipush (v := (-4 : Int32)) hx hb dX1_lowestWith_28 (by decide) ?_
    exact z_reti C hP hS ⟨rfl, hw⟩ dX1_lowestWith_30
  · replace hw := hw.2 c1
    refine lv_aload_n hx hb dX1_lowestWith_10 rfl (lv_at hl 0 rfl) ?_
    refine z_getr (C := RX1) (T := TX1) (N := 13) (ref := "GauntletHall$Hall") (o := o) (d := 0) hx hb hts hfX1 hown hK hP (hC.1 o ho (o, 0) (List.mem_of_getElem? (i := 0) rfl)) (z_lH_0 (o := o) ho) rfl 10 (by decide) (hts (.fieldLink RX1 43 "GauntletHall$Hall" "lies" "[I") (by decide +kernel)) rfl rfl dX1_lowestWith_11 ?_
    refine lv_iload_n hx hb dX1_lowestWith_14 rfl (lv_at hl 2 rfl) ?_
    obtain ⟨i2, hw⟩ := hw
    refine z_iald (o := o) (d := 10) hx hb hK hP (hC.1 o ho (o, 10) (List.mem_of_getElem? (i := 7) rfl)) (z_lH_10 (o := o) ho) i2 (z_up_val X o h 10 (z_n x2)) dX1_lowestWith_15 ?_
    refine lv_iload_n hx hb dX1_lowestWith_16 rfl (lv_at hl 1 rfl) ?_
    refine lv_icmp_ne (tgt := 22) hx hb dX1_lowestWith_17 (by decide) (fun c3 => ?_) (fun c3 => ?_)
    · replace hw := hw.1 c3
      obtain ⟨y4, ey4⟩ : ∃ z : Int32, z = x2 + (1 : Int32) := ⟨_, rfl⟩
      replace hw := hw y4 ey4
      refine lv_iinc (v := y4) (lv' := [(2, .int y4), (0, .ref (z_a E o 0)), (1, .int x1)]) hx hb dX1_lowestWith_22 hl (k := 2) rfl (by rw [ey4]; rfl) (by decide) rfl (fun ls hl => ?_)
      refine lv_goto (tgt := 2) hx hb dX1_lowestWith_25 (by decide) ?_
      exact k2 x1 y4 hw hP hS _ (lv_sub hl [1, 2, 0] rfl)
    · replace hw := hw.2 c3
      refine lv_iload_n hx hb dX1_lowestWith_20 rfl (lv_at hl 2 rfl) ?_
      exact z_reti C hP hS ⟨rfl, hw⟩ dX1_lowestWith_21
theorem m_X1_lowestWith_b2 {p : Program} {l : Launch} {e : Env} {s : State} {m : MethodId} {args : Array Value} {below : List Frame} {meth : Method} {c : Code} {E : z_E} (C : z_Cx p E s m args meth c cX1_lowestWith 3 wsX1_lowestWith RX1 (some .int)) (hC : z_cls E) (o : Nat) (ho : o < 13) (X : z_X) (h : z_G) (K : Int32 → Prop) (x1 : Int32) (x2 : Int32) (hw : v_X1_lowestWith_b2 h K x1 x2) {H : Heap} {locs : List Loc} (hP : z_P E (z_up X o h) H) (hS : va_S (z_A E) s.heap H locs) {ls : Array Slot} (hl : lv_has ls 3 [(0, .ref (z_a E o 0)), (1, .int x1), (2, .int x2)]) : W p l e rX1_lowestWith s m args below meth c H locs 0 0 (MQ below (va_Qi (fun r X' => X' = (z_up X o h) ∧ K r) (fun u t => z_P E u t.heap) (z_A E)) args s 0 0 (z_A E)) (F0 m 2 ls []) := by
  obtain ⟨n, hw⟩ := hw
  revert hw hP hS hl
  revert x1 x2 H locs ls
  induction n with
  | zero => intro x1 x2 H locs ls hP hS hl hw; exact hw.elim
  | succ n ih =>
    intro x1 x2 H locs ls hP hS hl hw
    exact m_X1_lowestWith_b2_s C hC o ho X h K (fun x1 x2 => z_fp (σ := Int32 × Int32) (fun Lp q => v_X1_lowestWith_b2_s h K (fun x1 x2 => Lp (x1, x2)) q.1 q.2) n (x1, x2)) (fun x1 x2 h9 H locs hP hS ls hl => ih x1 x2 hP hS hl h9) x1 x2 hw hP hS hl
set_option maxHeartbeats 4000000 in
set_option maxRecDepth 100000 in
theorem m_X1_lowestWith (l : Launch) {E : z_E} (hE : z_ok E) (hC : z_cls E) (o : Nat) (ho : o < 13) (X : z_X) (h : z_G) (x1 : Int32) (K : Int32 → Prop) (hw : v_X1_lowestWith h x1 K) : z_CI l E yX1_lowestWith wsX1_lowestWith rX1_lowestWith [.ref (z_a E o 0), .int x1] (z_up X o h) (fun r X' => X' = (z_up X o h) ∧ K r) := by
  refine z_start (cc := cX1_lowestWith) (maxL := 3) (ret := (some .int)) hE (by decide) rfl (Nat.le_of_ble_eq_true rfl) ?_
  intro p e s m below meth c C hP hS ls hl
  have C : z_Cx p E s m _ meth c cX1_lowestWith 3 wsX1_lowestWith RX1 (some .int) := C
  obtain ⟨hx, hb, hml, hr, hlocks, hown, hts, hK, hE⟩ := id C
  have hl : lv_has ls 3 [(0, .ref (z_a E o 0)), (1, .int x1)] := hl
  have hfX1 : ∀ w ∈ u_ws RX1 TX1 13, w ∈ wsX1_lowestWith := by decide +kernel
  unfold v_X1_lowestWith at hw
  refine lv_iconst (v := (0 : Int32)) hx hb dX1_lowestWith_0 (by decide) ?_
  refine lv_istore_n (lv' := [(2, .int (0 : Int32)), (0, .ref (z_a E o 0)), (1, .int x1)]) hx hb dX1_lowestWith_1 rfl hl (by decide) rfl (fun ls hl => ?_)
  exact m_X1_lowestWith_b2 C hC o ho X h K x1 (0 : Int32) hw hP hS (lv_sub hl [1, 2, 0] rfl)
set_option maxHeartbeats 4000000 in
set_option maxRecDepth 100000 in
theorem m_X1_isOut (l : Launch) {E : z_E} (hE : z_ok E) (hC : z_cls E) (o : Nat) (ho : o < 13) (X : z_X) (h : z_G) (x1 : Int32) (K : Int32 → Prop) (hw : v_X1_isOut h x1 K) : z_CI l E yX1_isOut wsX1_isOut rX1_isOut [.ref (z_a E o 0), .int x1] (z_up X o h) (fun r X' => X' = (z_up X o h) ∧ K r) := by
  refine z_start (cc := cX1_isOut) (maxL := 2) (ret := (some .boolean)) hE (by decide) rfl (Nat.le_of_ble_eq_true rfl) ?_
  intro p e s m below meth c C hP hS ls hl
  have C : z_Cx p E s m _ meth c cX1_isOut 2 wsX1_isOut RX1 (some .boolean) := C
  obtain ⟨hx, hb, hml, hr, hlocks, hown, hts, hK, hE⟩ := id C
  have hl : lv_has ls 2 [(0, .ref (z_a E o 0)), (1, .int x1)] := hl
  have hfX1 : ∀ w ∈ u_ws RX1 TX1 13, w ∈ wsX1_isOut := by decide +kernel
  unfold v_X1_isOut at hw
  refine lv_aload_n hx hb dX1_isOut_0 rfl (lv_at hl 0 rfl) ?_
  refine z_getr (C := RX1) (T := TX1) (N := 13) (ref := "GauntletHall$Hall") (o := o) (d := 0) hx hb hts hfX1 hown hK hP (hC.1 o ho (o, 0) (List.mem_of_getElem? (i := 0) rfl)) (z_lH_0 (o := o) ho) rfl 5 (by decide) (hts (.fieldLink RX1 28 "GauntletHall$Hall" "might" "[I") (by decide +kernel)) rfl rfl dX1_isOut_1 ?_
  refine lv_iload_n hx hb dX1_isOut_4 rfl (lv_at hl 1 rfl) ?_
  obtain ⟨i1, hw⟩ := hw
  refine z_iald (o := o) (d := 5) hx hb hK hP (hC.1 o ho (o, 5) (List.mem_of_getElem? (i := 2) rfl)) (z_lH_5 (o := o) ho) i1 (z_up_val X o h 5 (z_n x1)) dX1_isOut_5 ?_
  refine lv_if_ne (tgt := 13) hx hb dX1_isOut_6 (by decide) (fun c2 => ?_) (fun c2 => ?_)
  · replace hw := hw.1 c2
    refine lv_iconst (v := (0 : Int32)) hx hb dX1_isOut_13 (by decide) ?_
    exact z_retz C (Or.inl rfl) hP hS ⟨rfl, hw⟩ dX1_isOut_14
  · replace hw := hw.2 c2
    refine lv_iconst (v := (1 : Int32)) hx hb dX1_isOut_9 (by decide) ?_
    refine lv_goto (tgt := 14) hx hb dX1_isOut_10 (by decide) ?_
    exact z_retz C (Or.inr rfl) hP hS ⟨rfl, hw⟩ dX1_isOut_14
set_option maxHeartbeats 4000000 in
set_option maxRecDepth 100000 in
theorem m_X1_putGlove (l : Launch) {E : z_E} (hE : z_ok E) (hC : z_cls E) (o : Nat) (ho : o < 13) (X : z_X) (h : z_G) (x1 : Int32) (x2 : Int32) (x3 : Int32) (x4 : Int32) (K : z_G → Prop) (hw : v_X1_putGlove h x1 x2 x3 x4 K) : z_CV l E yX1_putGlove wsX1_putGlove rX1_putGlove [.ref (z_a E o 0), .int x1, .int x2, .int x3, .int x4] (z_up X o h) (fun X' => ∃ h', X' = z_up X o h' ∧ K h') := by
  refine z_start (cc := cX1_putGlove) (maxL := 5) (ret := none) hE (by decide) rfl (Nat.le_of_ble_eq_true rfl) ?_
  intro p e s m below meth c C hP hS ls hl
  have C : z_Cx p E s m _ meth c cX1_putGlove 5 wsX1_putGlove RX1 none := C
  obtain ⟨hx, hb, hml, hr, hlocks, hown, hts, hK, hE⟩ := id C
  have hl : lv_has ls 5 [(0, .ref (z_a E o 0)), (1, .int x1), (2, .int x2), (3, .int x3), (4, .int x4)] := hl
  have hfX1 : ∀ w ∈ u_ws RX1 TX1 13, w ∈ wsX1_putGlove := by decide +kernel
  unfold v_X1_putGlove at hw
  refine lv_aload_n hx hb dX1_putGlove_0 rfl (lv_at hl 0 rfl) ?_
  refine z_getr (C := RX1) (T := TX1) (N := 13) (ref := "GauntletHall$Hall") (o := o) (d := 0) hx hb hts hfX1 hown hK hP (hC.1 o ho (o, 0) (List.mem_of_getElem? (i := 0) rfl)) (z_lH_0 (o := o) ho) rfl 7 (by decide) (hts (.fieldLink RX1 34 "GauntletHall$Hall" "kind" "[I") (by decide +kernel)) rfl rfl dX1_putGlove_1 ?_
  refine lv_iload_n hx hb dX1_putGlove_4 rfl (lv_at hl 1 rfl) ?_
  refine lv_iload_n hx hb dX1_putGlove_5 rfl (lv_at hl 2 rfl) ?_
  obtain ⟨i1, hw⟩ := hw
  obtain ⟨h2, eh2⟩ : ∃ z : z_G, z = z_ss h 7 (z_n x1) x2 := ⟨_, rfl⟩
  replace hw := hw h2 eh2
  refine z_iast (o := o) (d := 7) (X' := z_up X o h2) hx hb hK hE hP hS (hC.1 o ho (o, 7) (List.mem_of_getElem? (i := 4) rfl)) (z_lH_7 (o := o) ho) i1 (by rw [eh2]; exact z_up_put X o h 7 (z_n x1) _) dX1_putGlove_6 (fun H locs hP hS => ?_)
  refine lv_aload_n hx hb dX1_putGlove_7 rfl (lv_at hl 0 rfl) ?_
  refine z_getr (C := RX1) (T := TX1) (N := 13) (ref := "GauntletHall$Hall") (o := o) (d := 0) hx hb hts hfX1 hown hK hP (hC.1 o ho (o, 0) (List.mem_of_getElem? (i := 0) rfl)) (z_lH_0 (o := o) ho) rfl 8 (by decide) (hts (.fieldLink RX1 37 "GauntletHall$Hall" "size" "[I") (by decide +kernel)) rfl rfl dX1_putGlove_8 ?_
  refine lv_iload_n hx hb dX1_putGlove_11 rfl (lv_at hl 1 rfl) ?_
  refine lv_iload_n hx hb dX1_putGlove_12 rfl (lv_at hl 3 rfl) ?_
  obtain ⟨i3, hw⟩ := hw
  obtain ⟨h4, eh4⟩ : ∃ z : z_G, z = z_ss h2 8 (z_n x1) x3 := ⟨_, rfl⟩
  replace hw := hw h4 eh4
  refine z_iast (o := o) (d := 8) (X' := z_up X o h4) hx hb hK hE hP hS (hC.1 o ho (o, 8) (List.mem_of_getElem? (i := 5) rfl)) (z_lH_8 (o := o) ho) i3 (by rw [eh4]; exact z_up_put X o h2 8 (z_n x1) _) dX1_putGlove_13 (fun H locs hP hS => ?_)
  refine lv_aload_n hx hb dX1_putGlove_14 rfl (lv_at hl 0 rfl) ?_
  refine z_getr (C := RX1) (T := TX1) (N := 13) (ref := "GauntletHall$Hall") (o := o) (d := 0) hx hb hts hfX1 hown hK hP (hC.1 o ho (o, 0) (List.mem_of_getElem? (i := 0) rfl)) (z_lH_0 (o := o) ho) rfl 9 (by decide) (hts (.fieldLink RX1 40 "GauntletHall$Hall" "owner" "[I") (by decide +kernel)) rfl rfl dX1_putGlove_15 ?_
  refine lv_iload_n hx hb dX1_putGlove_18 rfl (lv_at hl 1 rfl) ?_
  refine lv_iload hx hb dX1_putGlove_19 (lv_at hl 4 rfl) ?_
  obtain ⟨i5, hw⟩ := hw
  obtain ⟨h6, eh6⟩ : ∃ z : z_G, z = z_ss h4 9 (z_n x1) x4 := ⟨_, rfl⟩
  replace hw := hw h6 eh6
  refine z_iast (o := o) (d := 9) (X' := z_up X o h6) hx hb hK hE hP hS (hC.1 o ho (o, 9) (List.mem_of_getElem? (i := 6) rfl)) (z_lH_9 (o := o) ho) i5 (by rw [eh6]; exact z_up_put X o h4 9 (z_n x1) _) dX1_putGlove_21 (fun H locs hP hS => ?_)
  refine lv_aload_n hx hb dX1_putGlove_22 rfl (lv_at hl 0 rfl) ?_
  refine z_getr (C := RX1) (T := TX1) (N := 13) (ref := "GauntletHall$Hall") (o := o) (d := 0) hx hb hts hfX1 hown hK hP (hC.1 o ho (o, 0) (List.mem_of_getElem? (i := 0) rfl)) (z_lH_0 (o := o) ho) rfl 10 (by decide) (hts (.fieldLink RX1 43 "GauntletHall$Hall" "lies" "[I") (by decide +kernel)) rfl rfl dX1_putGlove_23 ?_
  refine lv_iload_n hx hb dX1_putGlove_26 rfl (lv_at hl 1 rfl) ?_
  refine lv_iconst (v := (1 : Int32)) hx hb dX1_putGlove_27 (by decide) ?_
  obtain ⟨i7, hw⟩ := hw
  obtain ⟨h8, eh8⟩ : ∃ z : z_G, z = z_ss h6 10 (z_n x1) (1 : Int32) := ⟨_, rfl⟩
  replace hw := hw h8 eh8
  refine z_iast (o := o) (d := 10) (X' := z_up X o h8) hx hb hK hE hP hS (hC.1 o ho (o, 10) (List.mem_of_getElem? (i := 7) rfl)) (z_lH_10 (o := o) ho) i7 (by rw [eh8]; exact z_up_put X o h6 10 (z_n x1) _) dX1_putGlove_28 (fun H locs hP hS => ?_)
  refine lv_aload_n hx hb dX1_putGlove_29 rfl (lv_at hl 0 rfl) ?_
  refine z_getr (C := RX1) (T := TX1) (N := 13) (ref := "GauntletHall$Hall") (o := o) (d := 0) hx hb hts hfX1 hown hK hP (hC.1 o ho (o, 0) (List.mem_of_getElem? (i := 0) rfl)) (z_lH_0 (o := o) ho) rfl 11 (by decide) (hts (.fieldLink RX1 46 "GauntletHall$Hall" "lain" "[I") (by decide +kernel)) rfl rfl dX1_putGlove_30 ?_
  refine lv_iload_n hx hb dX1_putGlove_33 rfl (lv_at hl 1 rfl) ?_
  refine lv_iconst (v := (0 : Int32)) hx hb dX1_putGlove_34 (by decide) ?_
  obtain ⟨i9, hw⟩ := hw
  obtain ⟨h10, eh10⟩ : ∃ z : z_G, z = z_ss h8 11 (z_n x1) (0 : Int32) := ⟨_, rfl⟩
  replace hw := hw h10 eh10
  refine z_iast (o := o) (d := 11) (X' := z_up X o h10) hx hb hK hE hP hS (hC.1 o ho (o, 11) (List.mem_of_getElem? (i := 8) rfl)) (z_lH_11 (o := o) ho) i9 (by rw [eh10]; exact z_up_put X o h8 11 (z_n x1) _) dX1_putGlove_35 (fun H locs hP hS => ?_)
  refine lv_aload_n hx hb dX1_putGlove_36 rfl (lv_at hl 0 rfl) ?_
  refine z_getr (C := RX1) (T := TX1) (N := 13) (ref := "GauntletHall$Hall") (o := o) (d := 0) hx hb hts hfX1 hown hK hP (hC.1 o ho (o, 0) (List.mem_of_getElem? (i := 0) rfl)) (z_lH_0 (o := o) ho) rfl 12 (by decide) (hts (.fieldLink RX1 49 "GauntletHall$Hall" "taker" "[I") (by decide +kernel)) rfl rfl dX1_putGlove_37 ?_
  refine lv_iload_n hx hb dX1_putGlove_40 rfl (lv_at hl 1 rfl) ?_
  refine lv_bipush (v := (-4 : Int32)) hx hb dX1_putGlove_41 (by decide) ?_
  obtain ⟨i11, hw⟩ := hw
  obtain ⟨h12, eh12⟩ : ∃ z : z_G, z = z_ss h10 12 (z_n x1) (-4 : Int32) := ⟨_, rfl⟩
  replace hw := hw h12 eh12
  refine z_iast (o := o) (d := 12) (X' := z_up X o h12) hx hb hK hE hP hS (hC.1 o ho (o, 12) (List.mem_of_getElem? (i := 9) rfl)) (z_lH_12 (o := o) ho) i11 (by rw [eh12]; exact z_up_put X o h10 12 (z_n x1) _) dX1_putGlove_43 (fun H locs hP hS => ?_)
  exact z_retv C hP hS ⟨_, rfl, hw⟩ dX1_putGlove_44
set_option maxHeartbeats 4000000 in
set_option maxRecDepth 100000 in
theorem m_X0_throwByDraw (l : Launch) {E : z_E} (hE : z_ok E) (hC : z_cls E) (X : z_X) (h : z_G) (x1 : Int32) (x2 : Int32) (K : z_G → Prop) (hw : v_X0_throwByDraw h x1 x2 K) : z_CV l E yX0_throwByDraw wsX0_throwByDraw rX0_throwByDraw [.ref (z_a E 17 0), .int x1, .int x2] (z_up X 2 h) (fun X' => ∃ h', X' = z_up X 2 h' ∧ K h') := by
  refine z_start (cc := cX0_throwByDraw) (maxL := 4) (ret := none) hE (by decide) rfl (Nat.le_of_ble_eq_true rfl) ?_
  intro p e s m below meth c C hP hS ls hl
  have C : z_Cx p E s m _ meth c cX0_throwByDraw 4 wsX0_throwByDraw RX0 none := C
  obtain ⟨hx, hb, hml, hr, hlocks, hown, hts, hK, hE⟩ := id C
  have hl : lv_has ls 4 [(0, .ref (z_a E 17 0)), (1, .int x1), (2, .int x2)] := hl
  have hfX0 : ∀ w ∈ u_ws RX0 TX0 1, w ∈ wsX0_throwByDraw := by decide +kernel
  unfold v_X0_throwByDraw at hw
  refine lv_aload_n hx hb dX0_throwByDraw_0 rfl (lv_at hl 0 rfl) ?_
  refine z_getr (C := RX0) (T := TX0) (N := 1) (ref := "GauntletHall$Forecast") (o := 17) (d := 0) hx hb hts hfX0 hown hK hP (hC.2 (17, 0) (List.mem_of_getElem? (i := 11) rfl)) z_l_17_0 rfl 0 (by decide) (hts (.fieldLink RX0 12 "GauntletHall$Forecast" "ahead" "LGauntletHall$Hall;") (by decide +kernel)) rfl rfl dX0_throwByDraw_1 ?_
  refine lv_iconst (v := (0 : Int32)) hx hb dX0_throwByDraw_4 (by decide) ?_
  refine z_vi (C := RX1) (T := TX1) (N := 13) (o := 2) (rest := []) ⟨hx, hb, hml, hown, hts⟩ (m_X1_lowestWith l hE hC 2 (by decide) X h (0 : Int32) _ hw) (cwV 1 hts gX0_throwByDraw_X1_lowestWith rfl rfl rfl (by decide +kernel) ⟨Nat.le_of_ble_eq_true rfl, Nat.le_of_ble_eq_true rfl⟩) hK hP hS (hC.1 2 (by decide) (2, 0) (List.mem_of_getElem? (i := 0) rfl)) (z_lH_0 (o := 2) (by decide)) rfl rfl hl.1 rfl (Nat.le_of_ble_eq_true rfl) dX0_throwByDraw_5 ⟨Nat.zero_le _, Nat.zero_le _⟩ (fun r1 u H locs hk hP hS => ?_)
  obtain ⟨eu, hw⟩ := hk
  rw [eu] at hP
  refine lv_istore_n (lv' := [(3, .int r1), (0, .ref (z_a E 17 0)), (1, .int x1), (2, .int x2)]) hx hb dX0_throwByDraw_8 rfl hl (by decide) rfl (fun ls hl => ?_)
  refine lv_iload_n hx hb dX0_throwByDraw_9 rfl (lv_at hl 0 rfl) ?_
  refine lv_bipush (v := (-4 : Int32)) hx hb dX0_throwByDraw_10 (by decide) ?_
  refine lv_icmp_eq (tgt := 51) hx hb dX0_throwByDraw_12 (by decide) (fun c2 => ?_) (fun c2 => ?_)
  · replace hw := hw.1 c2
    exact z_retv C hP hS ⟨_, rfl, hw⟩ dX0_throwByDraw_51
  · replace hw := hw.2 c2
    refine lv_aload_n hx hb dX0_throwByDraw_15 rfl (lv_at hl 1 rfl) ?_
    refine z_getr (C := RX0) (T := TX0) (N := 1) (ref := "GauntletHall$Forecast") (o := 17) (d := 0) hx hb hts hfX0 hown hK hP (hC.2 (17, 0) (List.mem_of_getElem? (i := 11) rfl)) z_l_17_0 rfl 0 (by decide) (hts (.fieldLink RX0 12 "GauntletHall$Forecast" "ahead" "LGauntletHall$Hall;") (by decide +kernel)) rfl rfl dX0_throwByDraw_16 ?_
    refine lv_iload_n hx hb dX0_throwByDraw_19 rfl (lv_at hl 3 rfl) ?_
    refine z_vi (C := RX1) (T := TX1) (N := 13) (o := 2) (rest := []) ⟨hx, hb, hml, hown, hts⟩ (m_X1_isOut l hE hC 2 (by decide) X h x2 _ hw) (cwV 1 hts gX0_throwByDraw_X1_isOut rfl rfl rfl (by decide +kernel) ⟨Nat.le_of_ble_eq_true rfl, Nat.le_of_ble_eq_true rfl⟩) hK hP hS (hC.1 2 (by decide) (2, 0) (List.mem_of_getElem? (i := 0) rfl)) (z_lH_0 (o := 2) (by decide)) rfl rfl hl.1 rfl (Nat.le_of_ble_eq_true rfl) dX0_throwByDraw_20 ⟨Nat.zero_le _, Nat.zero_le _⟩ (fun r3 u H locs hk hP hS => ?_)
    obtain ⟨eu, hw⟩ := hk
    rw [eu] at hP
    refine lv_if_ne (tgt := 51) hx hb dX0_throwByDraw_23 (by decide) (fun c4 => ?_) (fun c4 => ?_)
    · replace hw := hw.1 c4
      exact z_retv C hP hS ⟨_, rfl, hw⟩ dX0_throwByDraw_51
    · replace hw := hw.2 c4
      refine lv_aload_n hx hb dX0_throwByDraw_26 rfl (lv_at hl 1 rfl) ?_
      refine z_getr (C := RX0) (T := TX0) (N := 1) (ref := "GauntletHall$Forecast") (o := 17) (d := 0) hx hb hts hfX0 hown hK hP (hC.2 (17, 0) (List.mem_of_getElem? (i := 11) rfl)) z_l_17_0 rfl 0 (by decide) (hts (.fieldLink RX0 12 "GauntletHall$Forecast" "ahead" "LGauntletHall$Hall;") (by decide +kernel)) rfl rfl dX0_throwByDraw_27 ?_
      refine lv_iload_n hx hb dX0_throwByDraw_30 rfl (lv_at hl 0 rfl) ?_
      refine lv_iload_n hx hb dX0_throwByDraw_31 rfl (lv_at hl 2 rfl) ?_
      refine lv_bipush (v := (32 : Int32)) hx hb dX0_throwByDraw_32 (by decide) ?_
      refine lv_idiv hx hb dX0_throwByDraw_34 (by decide) ?_
      refine lv_iconst (v := (4 : Int32)) hx hb dX0_throwByDraw_35 (by decide) ?_
      refine lv_irem hx hb dX0_throwByDraw_36 (by decide) ?_
      refine lv_iload_n hx hb dX0_throwByDraw_37 rfl (lv_at hl 2 rfl) ?_
      refine lv_sipush (v := (128 : Int32)) hx hb dX0_throwByDraw_38 (by decide) ?_
      refine lv_idiv hx hb dX0_throwByDraw_41 (by decide) ?_
      refine lv_bipush (v := (20 : Int32)) hx hb dX0_throwByDraw_42 (by decide) ?_
      refine lv_irem hx hb dX0_throwByDraw_44 (by decide) ?_
      refine lv_iconst (v := (1 : Int32)) hx hb dX0_throwByDraw_45 (by decide) ?_
      refine lv_iadd hx hb dX0_throwByDraw_46 ?_
      refine lv_iload_n hx hb dX0_throwByDraw_47 rfl (lv_at hl 3 rfl) ?_
      refine z_vv (C := RX1) (T := TX1) (N := 13) (o := 2) (rest := []) ⟨hx, hb, hml, hown, hts⟩ (m_X1_putGlove l hE hC 2 (by decide) X h r1 ((x1 / (32 : Int32)) - (x1 / (32 : Int32)) / (4 : Int32) * (4 : Int32)) (((x1 / (128 : Int32)) - (x1 / (128 : Int32)) / (20 : Int32) * (20 : Int32)) + (1 : Int32)) x2 _ hw) (cwV 4 hts gX0_throwByDraw_X1_putGlove rfl rfl rfl (by decide +kernel) ⟨Nat.le_of_ble_eq_true rfl, Nat.le_of_ble_eq_true rfl⟩) hK hP hS (hC.1 2 (by decide) (2, 0) (List.mem_of_getElem? (i := 0) rfl)) (z_lH_0 (o := 2) (by decide)) rfl rfl hl.1 rfl (Nat.le_of_ble_eq_true rfl) dX0_throwByDraw_48 ⟨Nat.zero_le _, Nat.zero_le _⟩ (fun u H locs hk hP hS => ?_)
      obtain ⟨h5, eu, hw⟩ := hk
      rw [eu] at hP
      exact z_retv C hP hS ⟨_, rfl, hw⟩ dX0_throwByDraw_51
set_option maxHeartbeats 4000000 in
set_option maxRecDepth 100000 in
theorem m_X0_actByDraw_b70 {p : Program} {l : Launch} {e : Env} {s : State} {m : MethodId} {args : Array Value} {below : List Frame} {meth : Method} {c : Code} {E : z_E} (C : z_Cx p E s m args meth c cX0_actByDraw 8 wsX0_actByDraw RX0 none) (hC : z_cls E) (X : z_X) (K : z_G → Prop) (h : z_G) (x6 : Int32) (hw : v_X0_actByDraw_b70 K h x6) {H : Heap} {locs : List Loc} (hP : z_P E (z_up X 2 h) H) (hS : va_S (z_A E) s.heap H locs) {ls : Array Slot} (hl : lv_has ls 8 [(0, .ref (z_a E 17 0)), (6, .int x6)]) : W p l e rX0_actByDraw s m args below meth c H locs 0 0 (MQ below (va_Qv (fun X' => ∃ h', X' = z_up X 2 h' ∧ K h') (fun u t => z_P E u t.heap) (z_A E)) args s 0 0 (z_A E)) (F0 m 70 ls []) := by
  obtain ⟨hx, hb, hml, hr, hlocks, hown, hts, hK, hE⟩ := id C
  have hfX0 : ∀ w ∈ u_ws RX0 TX0 1, w ∈ wsX0_actByDraw := by decide +kernel
  have hfX1 : ∀ w ∈ u_ws RX1 TX1 13, w ∈ wsX0_actByDraw := by decide +kernel
  unfold v_X0_actByDraw_b70 at hw
  refine lv_iload hx hb dX0_actByDraw_70 (lv_at hl 1 rfl) ?_
  refine lv_iconst (v := (1 : Int32)) hx hb dX0_actByDraw_72 (by decide) ?_
  refine lv_icmp_ne (tgt := 104) hx hb dX0_actByDraw_73 (by decide) (fun c5 => ?_) (fun c5 => ?_)
  · replace hw := hw.1 c5
    exact z_retv C hP hS ⟨_, rfl, hw⟩ dX0_actByDraw_104
  · replace hw := hw.2 c5
    refine lv_aload_n hx hb dX0_actByDraw_76 rfl (lv_at hl 0 rfl) ?_
    refine z_getr (C := RX0) (T := TX0) (N := 1) (ref := "GauntletHall$Forecast") (o := 17) (d := 0) hx hb hts hfX0 hown hK hP (hC.2 (17, 0) (List.mem_of_getElem? (i := 11) rfl)) z_l_17_0 rfl 0 (by decide) (hts (.fieldLink RX0 12 "GauntletHall$Forecast" "ahead" "LGauntletHall$Hall;") (by decide +kernel)) rfl rfl dX0_actByDraw_77 ?_
    refine lv_iconst (v := (1 : Int32)) hx hb dX0_actByDraw_80 (by decide) ?_
    refine z_vi (C := RX1) (T := TX1) (N := 13) (o := 2) (rest := []) ⟨hx, hb, hml, hown, hts⟩ (m_X1_lowestWith l hE hC 2 (by decide) X h (1 : Int32) _ hw) (cwV 1 hts gX0_actByDraw_X1_lowestWith rfl rfl rfl (by decide +kernel) ⟨Nat.le_of_ble_eq_true rfl, Nat.le_of_ble_eq_true rfl⟩) hK hP hS (hC.1 2 (by decide) (2, 0) (List.mem_of_getElem? (i := 0) rfl)) (z_lH_0 (o := 2) (by decide)) rfl rfl hl.1 rfl (Nat.le_of_ble_eq_true rfl) dX0_actByDraw_81 ⟨Nat.zero_le _, Nat.zero_le _⟩ (fun r6 u H locs hk hP hS => ?_)
    obtain ⟨eu, hw⟩ := hk
    rw [eu] at hP
    refine lv_istore (lv' := [(7, .int r6), (0, .ref (z_a E 17 0)), (6, .int x6)]) hx hb dX0_actByDraw_84 hl (by decide) rfl (fun ls hl => ?_)
    refine lv_iload hx hb dX0_actByDraw_86 (lv_at hl 0 rfl) ?_
    refine lv_bipush (v := (-4 : Int32)) hx hb dX0_actByDraw_88 (by decide) ?_
    refine lv_icmp_eq (tgt := 104) hx hb dX0_actByDraw_90 (by decide) (fun c7 => ?_) (fun c7 => ?_)
    · replace hw := hw.1 c7
      exact z_retv C hP hS ⟨_, rfl, hw⟩ dX0_actByDraw_104
    · replace hw := hw.2 c7
      refine lv_aload_n hx hb dX0_actByDraw_93 rfl (lv_at hl 1 rfl) ?_
      refine z_getr (C := RX0) (T := TX0) (N := 1) (ref := "GauntletHall$Forecast") (o := 17) (d := 0) hx hb hts hfX0 hown hK hP (hC.2 (17, 0) (List.mem_of_getElem? (i := 11) rfl)) z_l_17_0 rfl 0 (by decide) (hts (.fieldLink RX0 12 "GauntletHall$Forecast" "ahead" "LGauntletHall$Hall;") (by decide +kernel)) rfl rfl dX0_actByDraw_94 ?_
      refine z_getr (C := RX1) (T := TX1) (N := 13) (ref := "GauntletHall$Hall") (o := 2) (d := 0) hx hb hts hfX1 hown hK hP (hC.1 2 (by decide) (2, 0) (List.mem_of_getElem? (i := 0) rfl)) (z_lH_0 (o := 2) (by decide)) rfl 10 (by decide) (hts (.fieldLink RX0 38 "GauntletHall$Hall" "lies" "[I") (by decide +kernel)) rfl rfl dX0_actByDraw_97 ?_
      refine lv_iload hx hb dX0_actByDraw_100 (lv_at hl 0 rfl) ?_
      refine lv_iconst (v := (0 : Int32)) hx hb dX0_actByDraw_102 (by decide) ?_
      obtain ⟨i8, hw⟩ := hw
      obtain ⟨h9, eh9⟩ : ∃ z : z_G, z = z_ss h 10 (z_n r6) (0 : Int32) := ⟨_, rfl⟩
      replace hw := hw h9 eh9
      refine z_iast (o := 2) (d := 10) (X' := z_up X 2 h9) hx hb hK hE hP hS (hC.1 2 (by decide) (2, 10) (List.mem_of_getElem? (i := 7) rfl)) (z_lH_10 (o := 2) (by decide)) i8 (by rw [eh9]; exact z_up_put X 2 h 10 (z_n r6) _) dX0_actByDraw_103 (fun H locs hP hS => ?_)
      exact z_retv C hP hS ⟨_, rfl, hw⟩ dX0_actByDraw_104
set_option maxHeartbeats 4000000 in
set_option maxRecDepth 100000 in
theorem m_X0_actByDraw (l : Launch) {E : z_E} (hE : z_ok E) (hC : z_cls E) (X : z_X) (h : z_G) (x1 : Int32) (x2 : Int32) (K : z_G → Prop) (hw : v_X0_actByDraw h x1 x2 K) : z_CV l E yX0_actByDraw wsX0_actByDraw rX0_actByDraw [.ref (z_a E 17 0), .int x1, .int x2] (z_up X 2 h) (fun X' => ∃ h', X' = z_up X 2 h' ∧ K h') := by
  refine z_start (cc := cX0_actByDraw) (maxL := 8) (ret := none) hE (by decide) rfl (Nat.le_of_ble_eq_true rfl) ?_
  intro p e s m below meth c C hP hS ls hl
  have C : z_Cx p E s m _ meth c cX0_actByDraw 8 wsX0_actByDraw RX0 none := C
  obtain ⟨hx, hb, hml, hr, hlocks, hown, hts, hK, hE⟩ := id C
  have hl : lv_has ls 8 [(0, .ref (z_a E 17 0)), (1, .int x1), (2, .int x2)] := hl
  have hfX0 : ∀ w ∈ u_ws RX0 TX0 1, w ∈ wsX0_actByDraw := by decide +kernel
  have hfX1 : ∀ w ∈ u_ws RX1 TX1 13, w ∈ wsX0_actByDraw := by decide +kernel
  unfold v_X0_actByDraw at hw
  refine lv_ldc2 hx hb hown (hts (.constantLong RX0 93 (7919)) (by decide +kernel)) dX0_actByDraw_0 ?_
  refine lv_iload_n hx hb dX0_actByDraw_3 rfl (lv_at hl 1 rfl) ?_
  refine lv_i2l hx hb dX0_actByDraw_4 rfl ?_
  refine lv_lmul hx hb dX0_actByDraw_5 ?_
  refine lv_ldc2 hx hb hown (hts (.constantLong RX0 95 (6151)) (by decide +kernel)) dX0_actByDraw_6 ?_
  refine lv_iload_n hx hb dX0_actByDraw_9 rfl (lv_at hl 2 rfl) ?_
  refine lv_i2l hx hb dX0_actByDraw_10 rfl ?_
  refine lv_lmul hx hb dX0_actByDraw_11 ?_
  refine lv_ladd hx hb dX0_actByDraw_12 ?_
  refine lv_lconst (v := (1 : Int64)) hx hb dX0_actByDraw_13 (by decide) ?_
  refine lv_ladd hx hb dX0_actByDraw_14 ?_
  refine lv_topl (fun y1 ey1 => ?_)
  replace hw := hw y1 ey1
  refine lv_lstore_n (lv' := [(3, .long y1), (0, .ref (z_a E 17 0)), (1, .int x1), (2, .int x2)]) hx hb dX0_actByDraw_15 rfl hl (by decide) rfl (fun ls hl => ?_)
  refine lv_lload_n hx hb dX0_actByDraw_16 rfl (lv_at hl 0 rfl) ?_
  refine lv_lload_n hx hb dX0_actByDraw_17 rfl (lv_at hl 0 rfl) ?_
  refine lv_lmul hx hb dX0_actByDraw_18 ?_
  refine lv_ldc2 hx hb hown (hts (.constantLong RX0 97 (65521)) (by decide +kernel)) dX0_actByDraw_19 ?_
  refine lv_lrem hx hb dX0_actByDraw_22 (by decide) ?_
  refine lv_ldc2 hx hb hown (hts (.constantLong RX0 99 (2)) (by decide +kernel)) dX0_actByDraw_23 ?_
  refine lv_ldiv hx hb dX0_actByDraw_26 (by decide) ?_
  refine lv_l2i hx hb dX0_actByDraw_27 rfl ?_
  refine lv_topi (fun y2 ey2 => ?_)
  replace hw := hw y2 ey2
  refine lv_istore (lv' := [(5, .int y2), (3, .long y1), (0, .ref (z_a E 17 0)), (1, .int x1), (2, .int x2)]) hx hb dX0_actByDraw_28 hl (by decide) rfl (fun ls hl => ?_)
  refine lv_iload hx hb dX0_actByDraw_30 (lv_at hl 0 rfl) ?_
  refine lv_bipush (v := (8 : Int32)) hx hb dX0_actByDraw_32 (by decide) ?_
  refine lv_idiv hx hb dX0_actByDraw_34 (by decide) ?_
  refine lv_iconst (v := (4 : Int32)) hx hb dX0_actByDraw_35 (by decide) ?_
  refine lv_irem hx hb dX0_actByDraw_36 (by decide) ?_
  refine lv_topi (fun y3 ey3 => ?_)
  replace hw := hw y3 ey3
  refine lv_istore (lv' := [(6, .int y3), (5, .int y2), (3, .long y1), (0, .ref (z_a E 17 0)), (1, .int x1), (2, .int x2)]) hx hb dX0_actByDraw_37 hl (by decide) rfl (fun ls hl => ?_)
  refine lv_iload hx hb dX0_actByDraw_39 (lv_at hl 0 rfl) ?_
  refine lv_if_ne (tgt := 70) hx hb dX0_actByDraw_41 (by decide) (fun c4 => ?_) (fun c4 => ?_)
  · replace hw := hw.1 c4
    exact m_X0_actByDraw_b70 C hC X K h y3 hw hP hS (lv_sub hl [3, 0] rfl)
  · replace hw := hw.2 c4
    refine lv_aload_n hx hb dX0_actByDraw_44 rfl (lv_at hl 3 rfl) ?_
    refine z_getr (C := RX0) (T := TX0) (N := 1) (ref := "GauntletHall$Forecast") (o := 17) (d := 0) hx hb hts hfX0 hown hK hP (hC.2 (17, 0) (List.mem_of_getElem? (i := 11) rfl)) z_l_17_0 rfl 0 (by decide) (hts (.fieldLink RX0 12 "GauntletHall$Forecast" "ahead" "LGauntletHall$Hall;") (by decide +kernel)) rfl rfl dX0_actByDraw_45 ?_
    refine z_geti (C := RX1) (T := TX1) (N := 13) (ref := "GauntletHall$Hall") (o := 2) (d := 0) hx hb hts hfX1 hown hK hP (hC.1 2 (by decide) (2, 0) (List.mem_of_getElem? (i := 0) rfl)) (z_lH_0 (o := 2) (by decide)) rfl 0 (by decide) (hts (.fieldLink RX0 101 "GauntletHall$Hall" "people" "I") (by decide +kernel)) rfl rfl (z_up_val X 2 h 0 0) dX0_actByDraw_48 ?_
    refine lv_if_le (tgt := 70) hx hb dX0_actByDraw_51 (by decide) (fun c10 => ?_) (fun c10 => ?_)
    · replace hw := hw.1 c10
      exact m_X0_actByDraw_b70 C hC X K h y3 hw hP hS (lv_sub hl [3, 0] rfl)
    · replace hw := hw.2 c10
      refine lv_aload_n hx hb dX0_actByDraw_54 rfl (lv_at hl 3 rfl) ?_
      refine lv_iload hx hb dX0_actByDraw_55 (lv_at hl 1 rfl) ?_
      refine lv_iload hx hb dX0_actByDraw_57 (lv_at hl 1 rfl) ?_
      refine lv_aload_n hx hb dX0_actByDraw_59 rfl (lv_at hl 3 rfl) ?_
      refine z_getr (C := RX0) (T := TX0) (N := 1) (ref := "GauntletHall$Forecast") (o := 17) (d := 0) hx hb hts hfX0 hown hK hP (hC.2 (17, 0) (List.mem_of_getElem? (i := 11) rfl)) z_l_17_0 rfl 0 (by decide) (hts (.fieldLink RX0 12 "GauntletHall$Forecast" "ahead" "LGauntletHall$Hall;") (by decide +kernel)) rfl rfl dX0_actByDraw_60 ?_
      refine z_geti (C := RX1) (T := TX1) (N := 13) (ref := "GauntletHall$Hall") (o := 2) (d := 0) hx hb hts hfX1 hown hK hP (hC.1 2 (by decide) (2, 0) (List.mem_of_getElem? (i := 0) rfl)) (z_lH_0 (o := 2) (by decide)) rfl 0 (by decide) (hts (.fieldLink RX0 101 "GauntletHall$Hall" "people" "I") (by decide +kernel)) rfl rfl (z_up_val X 2 h 0 0) dX0_actByDraw_63 ?_
      obtain ⟨n11, hw⟩ := hw
      refine lv_irem hx hb dX0_actByDraw_66 n11 ?_
      refine z_vv (C := RX0) (T := TX0) (N := 1) (o := 17) (rest := []) ⟨hx, hb, hml, hown, hts⟩ (m_X0_throwByDraw l hE hC X h y2 (y2 - y2 / (h 0 0) * (h 0 0)) _ hw) (cwV 2 hts gX0_actByDraw_X0_throwByDraw rfl rfl rfl (by decide +kernel) ⟨Nat.le_of_ble_eq_true rfl, Nat.le_of_ble_eq_true rfl⟩) hK hP hS (hC.2 (17, 0) (List.mem_of_getElem? (i := 11) rfl)) z_l_17_0 rfl rfl hl.1 rfl (Nat.le_of_ble_eq_true rfl) dX0_actByDraw_67 ⟨Nat.zero_le _, Nat.zero_le _⟩ (fun u H locs hk hP hS => ?_)
      obtain ⟨h12, eu, hw⟩ := hk
      rw [eu] at hP
      exact m_X0_actByDraw_b70 C hC X K h12 y3 hw hP hS (lv_sub hl [3, 0] rfl)
set_option maxHeartbeats 4000000 in
set_option maxRecDepth 100000 in
theorem m_X1_lyingAsBits_b4_s {p : Program} {l : Launch} {e : Env} {s : State} {m : MethodId} {args : Array Value} {below : List Frame} {meth : Method} {c : Code} {E : z_E} (C : z_Cx p E s m args meth c cX1_lyingAsBits 3 wsX1_lyingAsBits RX1 (some .int)) (hC : z_cls E) (o : Nat) (ho : o < 13) (X : z_X) (h : z_G) (K : Int32 → Prop) (L4 : Int32 → Int32 → Prop) (k4 : ∀ (x1 : Int32) (x2 : Int32), L4 x1 x2 → ∀ {H : Heap} {locs : List Loc}, z_P E (z_up X o h) H → va_S (z_A E) s.heap H locs → ∀ (ls : Array Slot), lv_has ls 3 [(0, .ref (z_a E o 0)), (1, .int x1), (2, .int x2)] → W p l e rX1_lyingAsBits s m args below meth c H locs 0 0 (MQ below (va_Qi (fun r X' => X' = (z_up X o h) ∧ K r) (fun u t => z_P E u t.heap) (z_A E)) args s 0 0 (z_A E)) (F0 m 4 ls [])) (x1 : Int32) (x2 : Int32) (hw : v_X1_lyingAsBits_b4_s h K L4 x1 x2) {H : Heap} {locs : List Loc} (hP : z_P E (z_up X o h) H) (hS : va_S (z_A E) s.heap H locs) {ls : Array Slot} (hl : lv_has ls 3 [(0, .ref (z_a E o 0)), (1, .int x1), (2, .int x2)]) : W p l e rX1_lyingAsBits s m args below meth c H locs 0 0 (MQ below (va_Qi (fun r X' => X' = (z_up X o h) ∧ K r) (fun u t => z_P E u t.heap) (z_A E)) args s 0 0 (z_A E)) (F0 m 4 ls []) := by
  obtain ⟨hx, hb, hml, hr, hlocks, hown, hts, hK, hE⟩ := id C
  have hfX1 : ∀ w ∈ u_ws RX1 TX1 13, w ∈ wsX1_lyingAsBits := by decide +kernel
  unfold v_X1_lyingAsBits_b4_s at hw
  refine lv_iload_n hx hb dX1_lyingAsBits_4 rfl (lv_at hl 2 rfl) ?_
  refine lv_aload_n hx hb dX1_lyingAsBits_5 rfl (lv_at hl 0 rfl) ?_
  refine z_geti (C := RX1) (T := TX1) (N := 13) (ref := "GauntletHall$Hall") (o := o) (d := 0) hx hb hts hfX1 hown hK hP (hC.1 o ho (o, 0) (List.mem_of_getElem? (i := 0) rfl)) (z_lH_0 (o := o) ho) rfl 1 (by decide) (hts (.fieldLink RX1 15 "GauntletHall$Hall" "gloves" "I") (by decide +kernel)) rfl rfl (z_up_val X o h 0 1) dX1_lyingAsBits_6 ?_
  refine lv_icmp_ge (tgt := 29) hx hb dX1_lyingAsBits_9 (by decide) (fun c1 => ?_) (fun c1 => ?_)
  · replace hw := hw.1 c1
    refine lv_iload_n hx hb dX1_lyingAsBits_29 rfl (lv_at hl 1 rfl) ?_
    exact z_reti C hP hS ⟨rfl, hw⟩ dX1_lyingAsBits_30
  · replace hw := hw.2 c1
    refine lv_iload_n hx hb dX1_lyingAsBits_12 rfl (lv_at hl 1 rfl) ?_
    refine lv_aload_n hx hb dX1_lyingAsBits_13 rfl (lv_at hl 0 rfl) ?_
    refine z_getr (C := RX1) (T := TX1) (N := 13) (ref := "GauntletHall$Hall") (o := o) (d := 0) hx hb hts hfX1 hown hK hP (hC.1 o ho (o, 0) (List.mem_of_getElem? (i := 0) rfl)) (z_lH_0 (o := o) ho) rfl 10 (by decide) (hts (.fieldLink RX1 43 "GauntletHall$Hall" "lies" "[I") (by decide +kernel)) rfl rfl dX1_lyingAsBits_14 ?_
    refine lv_iload_n hx hb dX1_lyingAsBits_17 rfl (lv_at hl 2 rfl) ?_
    obtain ⟨i2, hw⟩ := hw
    refine z_iald (o := o) (d := 10) hx hb hK hP (hC.1 o ho (o, 10) (List.mem_of_getElem? (i := 7) rfl)) (z_lH_10 (o := o) ho) i2 (z_up_val X o h 10 (z_n x2)) dX1_lyingAsBits_18 ?_
    refine lv_iload_n hx hb dX1_lyingAsBits_19 rfl (lv_at hl 2 rfl) ?_
    refine lv_ishl hx hb dX1_lyingAsBits_20 ?_
    refine lv_ior hx hb dX1_lyingAsBits_21 ?_
    refine lv_topi (fun y3 ey3 => ?_)
    replace hw := hw y3 ey3
    refine lv_istore_n (lv' := [(1, .int y3), (0, .ref (z_a E o 0)), (2, .int x2)]) hx hb dX1_lyingAsBits_22 rfl hl (by decide) rfl (fun ls hl => ?_)
    obtain ⟨y4, ey4⟩ : ∃ z : Int32, z = x2 + (1 : Int32) := ⟨_, rfl⟩
    replace hw := hw y4 ey4
    refine lv_iinc (v := y4) (lv' := [(2, .int y4), (1, .int y3), (0, .ref (z_a E o 0))]) hx hb dX1_lyingAsBits_23 hl (k := 2) rfl (by rw [ey4]; rfl) (by decide) rfl (fun ls hl => ?_)
    refine lv_goto (tgt := 4) hx hb dX1_lyingAsBits_26 (by decide) ?_
    exact k4 y3 y4 hw hP hS _ (lv_sub hl [2, 1, 0] rfl)
theorem m_X1_lyingAsBits_b4 {p : Program} {l : Launch} {e : Env} {s : State} {m : MethodId} {args : Array Value} {below : List Frame} {meth : Method} {c : Code} {E : z_E} (C : z_Cx p E s m args meth c cX1_lyingAsBits 3 wsX1_lyingAsBits RX1 (some .int)) (hC : z_cls E) (o : Nat) (ho : o < 13) (X : z_X) (h : z_G) (K : Int32 → Prop) (x1 : Int32) (x2 : Int32) (hw : v_X1_lyingAsBits_b4 h K x1 x2) {H : Heap} {locs : List Loc} (hP : z_P E (z_up X o h) H) (hS : va_S (z_A E) s.heap H locs) {ls : Array Slot} (hl : lv_has ls 3 [(0, .ref (z_a E o 0)), (1, .int x1), (2, .int x2)]) : W p l e rX1_lyingAsBits s m args below meth c H locs 0 0 (MQ below (va_Qi (fun r X' => X' = (z_up X o h) ∧ K r) (fun u t => z_P E u t.heap) (z_A E)) args s 0 0 (z_A E)) (F0 m 4 ls []) := by
  obtain ⟨n, hw⟩ := hw
  revert hw hP hS hl
  revert x1 x2 H locs ls
  induction n with
  | zero => intro x1 x2 H locs ls hP hS hl hw; exact hw.elim
  | succ n ih =>
    intro x1 x2 H locs ls hP hS hl hw
    exact m_X1_lyingAsBits_b4_s C hC o ho X h K (fun x1 x2 => z_fp (σ := Int32 × Int32) (fun Lp q => v_X1_lyingAsBits_b4_s h K (fun x1 x2 => Lp (x1, x2)) q.1 q.2) n (x1, x2)) (fun x1 x2 h9 H locs hP hS ls hl => ih x1 x2 hP hS hl h9) x1 x2 hw hP hS hl
set_option maxHeartbeats 4000000 in
set_option maxRecDepth 100000 in
theorem m_X1_lyingAsBits (l : Launch) {E : z_E} (hE : z_ok E) (hC : z_cls E) (o : Nat) (ho : o < 13) (X : z_X) (h : z_G) (K : Int32 → Prop) (hw : v_X1_lyingAsBits h K) : z_CI l E yX1_lyingAsBits wsX1_lyingAsBits rX1_lyingAsBits [.ref (z_a E o 0)] (z_up X o h) (fun r X' => X' = (z_up X o h) ∧ K r) := by
  refine z_start (cc := cX1_lyingAsBits) (maxL := 3) (ret := (some .int)) hE (by decide) rfl (Nat.le_of_ble_eq_true rfl) ?_
  intro p e s m below meth c C hP hS ls hl
  have C : z_Cx p E s m _ meth c cX1_lyingAsBits 3 wsX1_lyingAsBits RX1 (some .int) := C
  obtain ⟨hx, hb, hml, hr, hlocks, hown, hts, hK, hE⟩ := id C
  have hl : lv_has ls 3 [(0, .ref (z_a E o 0))] := hl
  have hfX1 : ∀ w ∈ u_ws RX1 TX1 13, w ∈ wsX1_lyingAsBits := by decide +kernel
  unfold v_X1_lyingAsBits at hw
  refine lv_iconst (v := (0 : Int32)) hx hb dX1_lyingAsBits_0 (by decide) ?_
  refine lv_istore_n (lv' := [(1, .int (0 : Int32)), (0, .ref (z_a E o 0))]) hx hb dX1_lyingAsBits_1 rfl hl (by decide) rfl (fun ls hl => ?_)
  refine lv_iconst (v := (0 : Int32)) hx hb dX1_lyingAsBits_2 (by decide) ?_
  refine lv_istore_n (lv' := [(2, .int (0 : Int32)), (1, .int (0 : Int32)), (0, .ref (z_a E o 0))]) hx hb dX1_lyingAsBits_3 rfl hl (by decide) rfl (fun ls hl => ?_)
  exact m_X1_lyingAsBits_b4 C hC o ho X h K (0 : Int32) (0 : Int32) hw hP hS (lv_sub hl [2, 1, 0] rfl)
set_option maxHeartbeats 4000000 in
set_option maxRecDepth 100000 in
theorem m_X1_copyFrom (l : Launch) {E : z_E} (hE : z_ok E) (hC : z_cls E) (o : Nat) (ho : o < 13) (o2 : Nat) (ho2 : o2 < 13) (Y : z_X) (K : z_X → Prop) (hw : v_X1_copyFrom o o2 Y K) : z_CV l E yX1_copyFrom wsX1_copyFrom rX1_copyFrom [.ref (z_a E o 0), .ref (z_a E o2 0)] Y K := by
  refine z_start (cc := cX1_copyFrom) (maxL := 2) (ret := none) hE (by decide) rfl (Nat.le_of_ble_eq_true rfl) ?_
  intro p e s m below meth c C hP hS ls hl
  have C : z_Cx p E s m _ meth c cX1_copyFrom 2 wsX1_copyFrom RX1 none := C
  obtain ⟨hx, hb, hml, hr, hlocks, hown, hts, hK, hE⟩ := id C
  have hl : lv_has ls 2 [(0, .ref (z_a E o 0)), (1, .ref (z_a E o2 0))] := hl
  have hfX1 : ∀ w ∈ u_ws RX1 TX1 13, w ∈ wsX1_copyFrom := by decide +kernel
  unfold v_X1_copyFrom at hw
  refine lv_aload_n hx hb dX1_copyFrom_0 rfl (lv_at hl 1 rfl) ?_
  refine lv_ifnonnull (tgt := 5) hx hb dX1_copyFrom_1 (by decide) ?_
  refine lv_aload_n hx hb dX1_copyFrom_5 rfl (lv_at hl 0 rfl) ?_
  refine lv_aload_n hx hb dX1_copyFrom_6 rfl (lv_at hl 1 rfl) ?_
  refine z_geti (C := RX1) (T := TX1) (N := 13) (ref := "GauntletHall$Hall") (o := o2) (d := 0) hx hb hts hfX1 hown hK hP (hC.1 o2 ho2 (o2, 0) (List.mem_of_getElem? (i := 0) rfl)) (z_lH_0 (o := o2) ho2) rfl 0 (by decide) (hts (.fieldLink RX1 9 "GauntletHall$Hall" "people" "I") (by decide +kernel)) rfl rfl rfl dX1_copyFrom_7 ?_
  obtain ⟨Y1, eY1⟩ : ∃ z : z_X, z = z_up Y o (z_ss (Y o) 0 0 (Y o2 0 0)) := ⟨_, rfl⟩
  replace hw := hw Y1 eY1
  refine z_puti (C := RX1) (T := TX1) (N := 13) (ref := "GauntletHall$Hall") (o := o) (d := 0) (X' := Y1) hx hb hts hfX1 tyX1 tyX1_ok nmX1 hown hK hE hP hS (hC.1 o ho (o, 0) (List.mem_of_getElem? (i := 0) rfl)) (z_lH_0 (o := o) ho) rfl 0 (by decide) (hts (.fieldLink RX1 9 "GauntletHall$Hall" "people" "I") (by decide +kernel)) rfl rfl (by decide +kernel) rfl eY1.symm dX1_copyFrom_10 (fun H locs hP hS => ?_)
  refine lv_aload_n hx hb dX1_copyFrom_13 rfl (lv_at hl 0 rfl) ?_
  refine lv_aload_n hx hb dX1_copyFrom_14 rfl (lv_at hl 1 rfl) ?_
  refine z_geti (C := RX1) (T := TX1) (N := 13) (ref := "GauntletHall$Hall") (o := o2) (d := 0) hx hb hts hfX1 hown hK hP (hC.1 o2 ho2 (o2, 0) (List.mem_of_getElem? (i := 0) rfl)) (z_lH_0 (o := o2) ho2) rfl 1 (by decide) (hts (.fieldLink RX1 15 "GauntletHall$Hall" "gloves" "I") (by decide +kernel)) rfl rfl rfl dX1_copyFrom_15 ?_
  obtain ⟨Y2, eY2⟩ : ∃ z : z_X, z = z_up Y1 o (z_ss (Y1 o) 0 1 (Y1 o2 0 1)) := ⟨_, rfl⟩
  replace hw := hw Y2 eY2
  refine z_puti (C := RX1) (T := TX1) (N := 13) (ref := "GauntletHall$Hall") (o := o) (d := 0) (X' := Y2) hx hb hts hfX1 tyX1 tyX1_ok nmX1 hown hK hE hP hS (hC.1 o ho (o, 0) (List.mem_of_getElem? (i := 0) rfl)) (z_lH_0 (o := o) ho) rfl 1 (by decide) (hts (.fieldLink RX1 15 "GauntletHall$Hall" "gloves" "I") (by decide +kernel)) rfl rfl (by decide +kernel) rfl eY2.symm dX1_copyFrom_18 (fun H locs hP hS => ?_)
  refine lv_aload_n hx hb dX1_copyFrom_21 rfl (lv_at hl 0 rfl) ?_
  refine lv_aload_n hx hb dX1_copyFrom_22 rfl (lv_at hl 1 rfl) ?_
  refine z_geti (C := RX1) (T := TX1) (N := 13) (ref := "GauntletHall$Hall") (o := o2) (d := 0) hx hb hts hfX1 hown hK hP (hC.1 o2 ho2 (o2, 0) (List.mem_of_getElem? (i := 0) rfl)) (z_lH_0 (o := o2) ho2) rfl 2 (by decide) (hts (.fieldLink RX1 18 "GauntletHall$Hall" "reign" "I") (by decide +kernel)) rfl rfl rfl dX1_copyFrom_23 ?_
  obtain ⟨Y3, eY3⟩ : ∃ z : z_X, z = z_up Y2 o (z_ss (Y2 o) 0 2 (Y2 o2 0 2)) := ⟨_, rfl⟩
  replace hw := hw Y3 eY3
  refine z_puti (C := RX1) (T := TX1) (N := 13) (ref := "GauntletHall$Hall") (o := o) (d := 0) (X' := Y3) hx hb hts hfX1 tyX1 tyX1_ok nmX1 hown hK hE hP hS (hC.1 o ho (o, 0) (List.mem_of_getElem? (i := 0) rfl)) (z_lH_0 (o := o) ho) rfl 2 (by decide) (hts (.fieldLink RX1 18 "GauntletHall$Hall" "reign" "I") (by decide +kernel)) rfl rfl (by decide +kernel) rfl eY3.symm dX1_copyFrom_26 (fun H locs hP hS => ?_)
  refine lv_aload_n hx hb dX1_copyFrom_29 rfl (lv_at hl 0 rfl) ?_
  refine lv_aload_n hx hb dX1_copyFrom_30 rfl (lv_at hl 1 rfl) ?_
  refine z_geti (C := RX1) (T := TX1) (N := 13) (ref := "GauntletHall$Hall") (o := o2) (d := 0) hx hb hts hfX1 hown hK hP (hC.1 o2 ho2 (o2, 0) (List.mem_of_getElem? (i := 0) rfl)) (z_lH_0 (o := o2) ho2) rfl 3 (by decide) (hts (.fieldLink RX1 21 "GauntletHall$Hall" "fights" "I") (by decide +kernel)) rfl rfl rfl dX1_copyFrom_31 ?_
  obtain ⟨Y4, eY4⟩ : ∃ z : z_X, z = z_up Y3 o (z_ss (Y3 o) 0 3 (Y3 o2 0 3)) := ⟨_, rfl⟩
  replace hw := hw Y4 eY4
  refine z_puti (C := RX1) (T := TX1) (N := 13) (ref := "GauntletHall$Hall") (o := o) (d := 0) (X' := Y4) hx hb hts hfX1 tyX1 tyX1_ok nmX1 hown hK hE hP hS (hC.1 o ho (o, 0) (List.mem_of_getElem? (i := 0) rfl)) (z_lH_0 (o := o) ho) rfl 3 (by decide) (hts (.fieldLink RX1 21 "GauntletHall$Hall" "fights" "I") (by decide +kernel)) rfl rfl (by decide +kernel) rfl eY4.symm dX1_copyFrom_34 (fun H locs hP hS => ?_)
  refine lv_aload_n hx hb dX1_copyFrom_37 rfl (lv_at hl 1 rfl) ?_
  refine z_getr (C := RX1) (T := TX1) (N := 13) (ref := "GauntletHall$Hall") (o := o2) (d := 0) hx hb hts hfX1 hown hK hP (hC.1 o2 ho2 (o2, 0) (List.mem_of_getElem? (i := 0) rfl)) (z_lH_0 (o := o2) ho2) rfl 4 (by decide) (hts (.fieldLink RX1 24 "GauntletHall$Hall" "hand" "[I") (by decide +kernel)) rfl rfl dX1_copyFrom_38 ?_
  refine lv_iconst (v := (0 : Int32)) hx hb dX1_copyFrom_41 (by decide) ?_
  refine lv_aload_n hx hb dX1_copyFrom_42 rfl (lv_at hl 0 rfl) ?_
  refine z_getr (C := RX1) (T := TX1) (N := 13) (ref := "GauntletHall$Hall") (o := o) (d := 0) hx hb hts hfX1 hown hK hP (hC.1 o ho (o, 0) (List.mem_of_getElem? (i := 0) rfl)) (z_lH_0 (o := o) ho) rfl 4 (by decide) (hts (.fieldLink RX1 24 "GauntletHall$Hall" "hand" "[I") (by decide +kernel)) rfl rfl dX1_copyFrom_43 ?_
  refine lv_iconst (v := (0 : Int32)) hx hb dX1_copyFrom_46 (by decide) ?_
  refine lv_bipush (v := (6 : Int32)) hx hb dX1_copyFrom_47 (by decide) ?_
  obtain ⟨Y5, eY5⟩ : ∃ z : z_X, z = z_up Y4 o (z_sa (Y4 o) 4 (va_cpy (Y4 o2 4) (Y4 o 4) 0 0 6)) := ⟨_, rfl⟩
  replace hw := hw Y5 eY5
  refine z_copy (o := o2) (d := 4) (o2 := o) (d2 := 4) (n := 6) (X' := Y5) hx hb (hml.trans hl.1.symm) hown (hts (.methodLink RX1 52 arraycopyName) (by decide +kernel)) (hts (.native arraycopyName) (by decide +kernel)) (hts (.static arraycopyName) (by decide +kernel)) (hts (.initialized "java/lang/System") (by decide +kernel)) hK hE hP hS (hC.1 o2 ho2 (o2, 4) (List.mem_of_getElem? (i := 1) rfl)) (z_lH_4 (o := o2) ho2) (hC.1 o ho (o, 4) (List.mem_of_getElem? (i := 1) rfl)) (z_lH_4 (o := o) ho) (by decide) rfl (Nat.le_of_ble_eq_true rfl) (Nat.le_of_ble_eq_true rfl) eY5.symm dX1_copyFrom_49 (fun H locs hP hS => ?_)
  refine lv_aload_n hx hb dX1_copyFrom_52 rfl (lv_at hl 1 rfl) ?_
  refine z_getr (C := RX1) (T := TX1) (N := 13) (ref := "GauntletHall$Hall") (o := o2) (d := 0) hx hb hts hfX1 hown hK hP (hC.1 o2 ho2 (o2, 0) (List.mem_of_getElem? (i := 0) rfl)) (z_lH_0 (o := o2) ho2) rfl 5 (by decide) (hts (.fieldLink RX1 28 "GauntletHall$Hall" "might" "[I") (by decide +kernel)) rfl rfl dX1_copyFrom_53 ?_
  refine lv_iconst (v := (0 : Int32)) hx hb dX1_copyFrom_56 (by decide) ?_
  refine lv_aload_n hx hb dX1_copyFrom_57 rfl (lv_at hl 0 rfl) ?_
  refine z_getr (C := RX1) (T := TX1) (N := 13) (ref := "GauntletHall$Hall") (o := o) (d := 0) hx hb hts hfX1 hown hK hP (hC.1 o ho (o, 0) (List.mem_of_getElem? (i := 0) rfl)) (z_lH_0 (o := o) ho) rfl 5 (by decide) (hts (.fieldLink RX1 28 "GauntletHall$Hall" "might" "[I") (by decide +kernel)) rfl rfl dX1_copyFrom_58 ?_
  refine lv_iconst (v := (0 : Int32)) hx hb dX1_copyFrom_61 (by decide) ?_
  refine lv_bipush (v := (6 : Int32)) hx hb dX1_copyFrom_62 (by decide) ?_
  obtain ⟨Y6, eY6⟩ : ∃ z : z_X, z = z_up Y5 o (z_sa (Y5 o) 5 (va_cpy (Y5 o2 5) (Y5 o 5) 0 0 6)) := ⟨_, rfl⟩
  replace hw := hw Y6 eY6
  refine z_copy (o := o2) (d := 5) (o2 := o) (d2 := 5) (n := 6) (X' := Y6) hx hb (hml.trans hl.1.symm) hown (hts (.methodLink RX1 52 arraycopyName) (by decide +kernel)) (hts (.native arraycopyName) (by decide +kernel)) (hts (.static arraycopyName) (by decide +kernel)) (hts (.initialized "java/lang/System") (by decide +kernel)) hK hE hP hS (hC.1 o2 ho2 (o2, 5) (List.mem_of_getElem? (i := 2) rfl)) (z_lH_5 (o := o2) ho2) (hC.1 o ho (o, 5) (List.mem_of_getElem? (i := 2) rfl)) (z_lH_5 (o := o) ho) (by decide) rfl (Nat.le_of_ble_eq_true rfl) (Nat.le_of_ble_eq_true rfl) eY6.symm dX1_copyFrom_64 (fun H locs hP hS => ?_)
  refine lv_aload_n hx hb dX1_copyFrom_67 rfl (lv_at hl 1 rfl) ?_
  refine z_getr (C := RX1) (T := TX1) (N := 13) (ref := "GauntletHall$Hall") (o := o2) (d := 0) hx hb hts hfX1 hown hK hP (hC.1 o2 ho2 (o2, 0) (List.mem_of_getElem? (i := 0) rfl)) (z_lH_0 (o := o2) ho2) rfl 6 (by decide) (hts (.fieldLink RX1 31 "GauntletHall$Hall" "stoops" "[I") (by decide +kernel)) rfl rfl dX1_copyFrom_68 ?_
  refine lv_iconst (v := (0 : Int32)) hx hb dX1_copyFrom_71 (by decide) ?_
  refine lv_aload_n hx hb dX1_copyFrom_72 rfl (lv_at hl 0 rfl) ?_
  refine z_getr (C := RX1) (T := TX1) (N := 13) (ref := "GauntletHall$Hall") (o := o) (d := 0) hx hb hts hfX1 hown hK hP (hC.1 o ho (o, 0) (List.mem_of_getElem? (i := 0) rfl)) (z_lH_0 (o := o) ho) rfl 6 (by decide) (hts (.fieldLink RX1 31 "GauntletHall$Hall" "stoops" "[I") (by decide +kernel)) rfl rfl dX1_copyFrom_73 ?_
  refine lv_iconst (v := (0 : Int32)) hx hb dX1_copyFrom_76 (by decide) ?_
  refine lv_bipush (v := (6 : Int32)) hx hb dX1_copyFrom_77 (by decide) ?_
  obtain ⟨Y7, eY7⟩ : ∃ z : z_X, z = z_up Y6 o (z_sa (Y6 o) 6 (va_cpy (Y6 o2 6) (Y6 o 6) 0 0 6)) := ⟨_, rfl⟩
  replace hw := hw Y7 eY7
  refine z_copy (o := o2) (d := 6) (o2 := o) (d2 := 6) (n := 6) (X' := Y7) hx hb (hml.trans hl.1.symm) hown (hts (.methodLink RX1 52 arraycopyName) (by decide +kernel)) (hts (.native arraycopyName) (by decide +kernel)) (hts (.static arraycopyName) (by decide +kernel)) (hts (.initialized "java/lang/System") (by decide +kernel)) hK hE hP hS (hC.1 o2 ho2 (o2, 6) (List.mem_of_getElem? (i := 3) rfl)) (z_lH_6 (o := o2) ho2) (hC.1 o ho (o, 6) (List.mem_of_getElem? (i := 3) rfl)) (z_lH_6 (o := o) ho) (by decide) rfl (Nat.le_of_ble_eq_true rfl) (Nat.le_of_ble_eq_true rfl) eY7.symm dX1_copyFrom_79 (fun H locs hP hS => ?_)
  refine lv_aload_n hx hb dX1_copyFrom_82 rfl (lv_at hl 1 rfl) ?_
  refine z_getr (C := RX1) (T := TX1) (N := 13) (ref := "GauntletHall$Hall") (o := o2) (d := 0) hx hb hts hfX1 hown hK hP (hC.1 o2 ho2 (o2, 0) (List.mem_of_getElem? (i := 0) rfl)) (z_lH_0 (o := o2) ho2) rfl 7 (by decide) (hts (.fieldLink RX1 34 "GauntletHall$Hall" "kind" "[I") (by decide +kernel)) rfl rfl dX1_copyFrom_83 ?_
  refine lv_iconst (v := (0 : Int32)) hx hb dX1_copyFrom_86 (by decide) ?_
  refine lv_aload_n hx hb dX1_copyFrom_87 rfl (lv_at hl 0 rfl) ?_
  refine z_getr (C := RX1) (T := TX1) (N := 13) (ref := "GauntletHall$Hall") (o := o) (d := 0) hx hb hts hfX1 hown hK hP (hC.1 o ho (o, 0) (List.mem_of_getElem? (i := 0) rfl)) (z_lH_0 (o := o) ho) rfl 7 (by decide) (hts (.fieldLink RX1 34 "GauntletHall$Hall" "kind" "[I") (by decide +kernel)) rfl rfl dX1_copyFrom_88 ?_
  refine lv_iconst (v := (0 : Int32)) hx hb dX1_copyFrom_91 (by decide) ?_
  refine lv_bipush (v := (8 : Int32)) hx hb dX1_copyFrom_92 (by decide) ?_
  obtain ⟨Y8, eY8⟩ : ∃ z : z_X, z = z_up Y7 o (z_sa (Y7 o) 7 (va_cpy (Y7 o2 7) (Y7 o 7) 0 0 8)) := ⟨_, rfl⟩
  replace hw := hw Y8 eY8
  refine z_copy (o := o2) (d := 7) (o2 := o) (d2 := 7) (n := 8) (X' := Y8) hx hb (hml.trans hl.1.symm) hown (hts (.methodLink RX1 52 arraycopyName) (by decide +kernel)) (hts (.native arraycopyName) (by decide +kernel)) (hts (.static arraycopyName) (by decide +kernel)) (hts (.initialized "java/lang/System") (by decide +kernel)) hK hE hP hS (hC.1 o2 ho2 (o2, 7) (List.mem_of_getElem? (i := 4) rfl)) (z_lH_7 (o := o2) ho2) (hC.1 o ho (o, 7) (List.mem_of_getElem? (i := 4) rfl)) (z_lH_7 (o := o) ho) (by decide) rfl (Nat.le_of_ble_eq_true rfl) (Nat.le_of_ble_eq_true rfl) eY8.symm dX1_copyFrom_94 (fun H locs hP hS => ?_)
  refine lv_aload_n hx hb dX1_copyFrom_97 rfl (lv_at hl 1 rfl) ?_
  refine z_getr (C := RX1) (T := TX1) (N := 13) (ref := "GauntletHall$Hall") (o := o2) (d := 0) hx hb hts hfX1 hown hK hP (hC.1 o2 ho2 (o2, 0) (List.mem_of_getElem? (i := 0) rfl)) (z_lH_0 (o := o2) ho2) rfl 8 (by decide) (hts (.fieldLink RX1 37 "GauntletHall$Hall" "size" "[I") (by decide +kernel)) rfl rfl dX1_copyFrom_98 ?_
  refine lv_iconst (v := (0 : Int32)) hx hb dX1_copyFrom_101 (by decide) ?_
  refine lv_aload_n hx hb dX1_copyFrom_102 rfl (lv_at hl 0 rfl) ?_
  refine z_getr (C := RX1) (T := TX1) (N := 13) (ref := "GauntletHall$Hall") (o := o) (d := 0) hx hb hts hfX1 hown hK hP (hC.1 o ho (o, 0) (List.mem_of_getElem? (i := 0) rfl)) (z_lH_0 (o := o) ho) rfl 8 (by decide) (hts (.fieldLink RX1 37 "GauntletHall$Hall" "size" "[I") (by decide +kernel)) rfl rfl dX1_copyFrom_103 ?_
  refine lv_iconst (v := (0 : Int32)) hx hb dX1_copyFrom_106 (by decide) ?_
  refine lv_bipush (v := (8 : Int32)) hx hb dX1_copyFrom_107 (by decide) ?_
  obtain ⟨Y9, eY9⟩ : ∃ z : z_X, z = z_up Y8 o (z_sa (Y8 o) 8 (va_cpy (Y8 o2 8) (Y8 o 8) 0 0 8)) := ⟨_, rfl⟩
  replace hw := hw Y9 eY9
  refine z_copy (o := o2) (d := 8) (o2 := o) (d2 := 8) (n := 8) (X' := Y9) hx hb (hml.trans hl.1.symm) hown (hts (.methodLink RX1 52 arraycopyName) (by decide +kernel)) (hts (.native arraycopyName) (by decide +kernel)) (hts (.static arraycopyName) (by decide +kernel)) (hts (.initialized "java/lang/System") (by decide +kernel)) hK hE hP hS (hC.1 o2 ho2 (o2, 8) (List.mem_of_getElem? (i := 5) rfl)) (z_lH_8 (o := o2) ho2) (hC.1 o ho (o, 8) (List.mem_of_getElem? (i := 5) rfl)) (z_lH_8 (o := o) ho) (by decide) rfl (Nat.le_of_ble_eq_true rfl) (Nat.le_of_ble_eq_true rfl) eY9.symm dX1_copyFrom_109 (fun H locs hP hS => ?_)
  refine lv_aload_n hx hb dX1_copyFrom_112 rfl (lv_at hl 1 rfl) ?_
  refine z_getr (C := RX1) (T := TX1) (N := 13) (ref := "GauntletHall$Hall") (o := o2) (d := 0) hx hb hts hfX1 hown hK hP (hC.1 o2 ho2 (o2, 0) (List.mem_of_getElem? (i := 0) rfl)) (z_lH_0 (o := o2) ho2) rfl 9 (by decide) (hts (.fieldLink RX1 40 "GauntletHall$Hall" "owner" "[I") (by decide +kernel)) rfl rfl dX1_copyFrom_113 ?_
  refine lv_iconst (v := (0 : Int32)) hx hb dX1_copyFrom_116 (by decide) ?_
  refine lv_aload_n hx hb dX1_copyFrom_117 rfl (lv_at hl 0 rfl) ?_
  refine z_getr (C := RX1) (T := TX1) (N := 13) (ref := "GauntletHall$Hall") (o := o) (d := 0) hx hb hts hfX1 hown hK hP (hC.1 o ho (o, 0) (List.mem_of_getElem? (i := 0) rfl)) (z_lH_0 (o := o) ho) rfl 9 (by decide) (hts (.fieldLink RX1 40 "GauntletHall$Hall" "owner" "[I") (by decide +kernel)) rfl rfl dX1_copyFrom_118 ?_
  refine lv_iconst (v := (0 : Int32)) hx hb dX1_copyFrom_121 (by decide) ?_
  refine lv_bipush (v := (8 : Int32)) hx hb dX1_copyFrom_122 (by decide) ?_
  obtain ⟨Y10, eY10⟩ : ∃ z : z_X, z = z_up Y9 o (z_sa (Y9 o) 9 (va_cpy (Y9 o2 9) (Y9 o 9) 0 0 8)) := ⟨_, rfl⟩
  replace hw := hw Y10 eY10
  refine z_copy (o := o2) (d := 9) (o2 := o) (d2 := 9) (n := 8) (X' := Y10) hx hb (hml.trans hl.1.symm) hown (hts (.methodLink RX1 52 arraycopyName) (by decide +kernel)) (hts (.native arraycopyName) (by decide +kernel)) (hts (.static arraycopyName) (by decide +kernel)) (hts (.initialized "java/lang/System") (by decide +kernel)) hK hE hP hS (hC.1 o2 ho2 (o2, 9) (List.mem_of_getElem? (i := 6) rfl)) (z_lH_9 (o := o2) ho2) (hC.1 o ho (o, 9) (List.mem_of_getElem? (i := 6) rfl)) (z_lH_9 (o := o) ho) (by decide) rfl (Nat.le_of_ble_eq_true rfl) (Nat.le_of_ble_eq_true rfl) eY10.symm dX1_copyFrom_124 (fun H locs hP hS => ?_)
  refine lv_aload_n hx hb dX1_copyFrom_127 rfl (lv_at hl 1 rfl) ?_
  refine z_getr (C := RX1) (T := TX1) (N := 13) (ref := "GauntletHall$Hall") (o := o2) (d := 0) hx hb hts hfX1 hown hK hP (hC.1 o2 ho2 (o2, 0) (List.mem_of_getElem? (i := 0) rfl)) (z_lH_0 (o := o2) ho2) rfl 10 (by decide) (hts (.fieldLink RX1 43 "GauntletHall$Hall" "lies" "[I") (by decide +kernel)) rfl rfl dX1_copyFrom_128 ?_
  refine lv_iconst (v := (0 : Int32)) hx hb dX1_copyFrom_131 (by decide) ?_
  refine lv_aload_n hx hb dX1_copyFrom_132 rfl (lv_at hl 0 rfl) ?_
  refine z_getr (C := RX1) (T := TX1) (N := 13) (ref := "GauntletHall$Hall") (o := o) (d := 0) hx hb hts hfX1 hown hK hP (hC.1 o ho (o, 0) (List.mem_of_getElem? (i := 0) rfl)) (z_lH_0 (o := o) ho) rfl 10 (by decide) (hts (.fieldLink RX1 43 "GauntletHall$Hall" "lies" "[I") (by decide +kernel)) rfl rfl dX1_copyFrom_133 ?_
  refine lv_iconst (v := (0 : Int32)) hx hb dX1_copyFrom_136 (by decide) ?_
  refine lv_bipush (v := (8 : Int32)) hx hb dX1_copyFrom_137 (by decide) ?_
  obtain ⟨Y11, eY11⟩ : ∃ z : z_X, z = z_up Y10 o (z_sa (Y10 o) 10 (va_cpy (Y10 o2 10) (Y10 o 10) 0 0 8)) := ⟨_, rfl⟩
  replace hw := hw Y11 eY11
  refine z_copy (o := o2) (d := 10) (o2 := o) (d2 := 10) (n := 8) (X' := Y11) hx hb (hml.trans hl.1.symm) hown (hts (.methodLink RX1 52 arraycopyName) (by decide +kernel)) (hts (.native arraycopyName) (by decide +kernel)) (hts (.static arraycopyName) (by decide +kernel)) (hts (.initialized "java/lang/System") (by decide +kernel)) hK hE hP hS (hC.1 o2 ho2 (o2, 10) (List.mem_of_getElem? (i := 7) rfl)) (z_lH_10 (o := o2) ho2) (hC.1 o ho (o, 10) (List.mem_of_getElem? (i := 7) rfl)) (z_lH_10 (o := o) ho) (by decide) rfl (Nat.le_of_ble_eq_true rfl) (Nat.le_of_ble_eq_true rfl) eY11.symm dX1_copyFrom_139 (fun H locs hP hS => ?_)
  refine lv_aload_n hx hb dX1_copyFrom_142 rfl (lv_at hl 1 rfl) ?_
  refine z_getr (C := RX1) (T := TX1) (N := 13) (ref := "GauntletHall$Hall") (o := o2) (d := 0) hx hb hts hfX1 hown hK hP (hC.1 o2 ho2 (o2, 0) (List.mem_of_getElem? (i := 0) rfl)) (z_lH_0 (o := o2) ho2) rfl 11 (by decide) (hts (.fieldLink RX1 46 "GauntletHall$Hall" "lain" "[I") (by decide +kernel)) rfl rfl dX1_copyFrom_143 ?_
  refine lv_iconst (v := (0 : Int32)) hx hb dX1_copyFrom_146 (by decide) ?_
  refine lv_aload_n hx hb dX1_copyFrom_147 rfl (lv_at hl 0 rfl) ?_
  refine z_getr (C := RX1) (T := TX1) (N := 13) (ref := "GauntletHall$Hall") (o := o) (d := 0) hx hb hts hfX1 hown hK hP (hC.1 o ho (o, 0) (List.mem_of_getElem? (i := 0) rfl)) (z_lH_0 (o := o) ho) rfl 11 (by decide) (hts (.fieldLink RX1 46 "GauntletHall$Hall" "lain" "[I") (by decide +kernel)) rfl rfl dX1_copyFrom_148 ?_
  refine lv_iconst (v := (0 : Int32)) hx hb dX1_copyFrom_151 (by decide) ?_
  refine lv_bipush (v := (8 : Int32)) hx hb dX1_copyFrom_152 (by decide) ?_
  obtain ⟨Y12, eY12⟩ : ∃ z : z_X, z = z_up Y11 o (z_sa (Y11 o) 11 (va_cpy (Y11 o2 11) (Y11 o 11) 0 0 8)) := ⟨_, rfl⟩
  replace hw := hw Y12 eY12
  refine z_copy (o := o2) (d := 11) (o2 := o) (d2 := 11) (n := 8) (X' := Y12) hx hb (hml.trans hl.1.symm) hown (hts (.methodLink RX1 52 arraycopyName) (by decide +kernel)) (hts (.native arraycopyName) (by decide +kernel)) (hts (.static arraycopyName) (by decide +kernel)) (hts (.initialized "java/lang/System") (by decide +kernel)) hK hE hP hS (hC.1 o2 ho2 (o2, 11) (List.mem_of_getElem? (i := 8) rfl)) (z_lH_11 (o := o2) ho2) (hC.1 o ho (o, 11) (List.mem_of_getElem? (i := 8) rfl)) (z_lH_11 (o := o) ho) (by decide) rfl (Nat.le_of_ble_eq_true rfl) (Nat.le_of_ble_eq_true rfl) eY12.symm dX1_copyFrom_154 (fun H locs hP hS => ?_)
  refine lv_aload_n hx hb dX1_copyFrom_157 rfl (lv_at hl 1 rfl) ?_
  refine z_getr (C := RX1) (T := TX1) (N := 13) (ref := "GauntletHall$Hall") (o := o2) (d := 0) hx hb hts hfX1 hown hK hP (hC.1 o2 ho2 (o2, 0) (List.mem_of_getElem? (i := 0) rfl)) (z_lH_0 (o := o2) ho2) rfl 12 (by decide) (hts (.fieldLink RX1 49 "GauntletHall$Hall" "taker" "[I") (by decide +kernel)) rfl rfl dX1_copyFrom_158 ?_
  refine lv_iconst (v := (0 : Int32)) hx hb dX1_copyFrom_161 (by decide) ?_
  refine lv_aload_n hx hb dX1_copyFrom_162 rfl (lv_at hl 0 rfl) ?_
  refine z_getr (C := RX1) (T := TX1) (N := 13) (ref := "GauntletHall$Hall") (o := o) (d := 0) hx hb hts hfX1 hown hK hP (hC.1 o ho (o, 0) (List.mem_of_getElem? (i := 0) rfl)) (z_lH_0 (o := o) ho) rfl 12 (by decide) (hts (.fieldLink RX1 49 "GauntletHall$Hall" "taker" "[I") (by decide +kernel)) rfl rfl dX1_copyFrom_163 ?_
  refine lv_iconst (v := (0 : Int32)) hx hb dX1_copyFrom_166 (by decide) ?_
  refine lv_bipush (v := (8 : Int32)) hx hb dX1_copyFrom_167 (by decide) ?_
  obtain ⟨Y13, eY13⟩ : ∃ z : z_X, z = z_up Y12 o (z_sa (Y12 o) 12 (va_cpy (Y12 o2 12) (Y12 o 12) 0 0 8)) := ⟨_, rfl⟩
  replace hw := hw Y13 eY13
  refine z_copy (o := o2) (d := 12) (o2 := o) (d2 := 12) (n := 8) (X' := Y13) hx hb (hml.trans hl.1.symm) hown (hts (.methodLink RX1 52 arraycopyName) (by decide +kernel)) (hts (.native arraycopyName) (by decide +kernel)) (hts (.static arraycopyName) (by decide +kernel)) (hts (.initialized "java/lang/System") (by decide +kernel)) hK hE hP hS (hC.1 o2 ho2 (o2, 12) (List.mem_of_getElem? (i := 9) rfl)) (z_lH_12 (o := o2) ho2) (hC.1 o ho (o, 12) (List.mem_of_getElem? (i := 9) rfl)) (z_lH_12 (o := o) ho) (by decide) rfl (Nat.le_of_ble_eq_true rfl) (Nat.le_of_ble_eq_true rfl) eY13.symm dX1_copyFrom_169 (fun H locs hP hS => ?_)
  exact z_retv C hP hS hw dX1_copyFrom_172
set_option maxHeartbeats 4000000 in
set_option maxRecDepth 100000 in
theorem m_X1_takeAway_b2_s {p : Program} {l : Launch} {e : Env} {s : State} {m : MethodId} {args : Array Value} {below : List Frame} {meth : Method} {c : Code} {E : z_E} (C : z_Cx p E s m args meth c cX1_takeAway 3 wsX1_takeAway RX1 none) (hC : z_cls E) (o : Nat) (ho : o < 13) (X : z_X) (K : z_G → Prop) (L2 : z_G → Int32 → Int32 → Prop) (k2 : ∀ (h : z_G) (x1 : Int32) (x2 : Int32), L2 h x1 x2 → ∀ {H : Heap} {locs : List Loc}, z_P E (z_up X o h) H → va_S (z_A E) s.heap H locs → ∀ (ls : Array Slot), lv_has ls 3 [(0, .ref (z_a E o 0)), (1, .int x1), (2, .int x2)] → W p l e rX1_takeAway s m args below meth c H locs 0 0 (MQ below (va_Qv (fun X' => ∃ h', X' = z_up X o h' ∧ K h') (fun u t => z_P E u t.heap) (z_A E)) args s 0 0 (z_A E)) (F0 m 2 ls [])) (h : z_G) (x1 : Int32) (x2 : Int32) (hw : v_X1_takeAway_b2_s K L2 h x1 x2) {H : Heap} {locs : List Loc} (hP : z_P E (z_up X o h) H) (hS : va_S (z_A E) s.heap H locs) {ls : Array Slot} (hl : lv_has ls 3 [(0, .ref (z_a E o 0)), (1, .int x1), (2, .int x2)]) : W p l e rX1_takeAway s m args below meth c H locs 0 0 (MQ below (va_Qv (fun X' => ∃ h', X' = z_up X o h' ∧ K h') (fun u t => z_P E u t.heap) (z_A E)) args s 0 0 (z_A E)) (F0 m 2 ls []) := by
  obtain ⟨hx, hb, hml, hr, hlocks, hown, hts, hK, hE⟩ := id C
  have hfX1 : ∀ w ∈ u_ws RX1 TX1 13, w ∈ wsX1_takeAway := by decide +kernel
  unfold v_X1_takeAway_b2_s at hw
  refine lv_iload_n hx hb dX1_takeAway_2 rfl (lv_at hl 2 rfl) ?_
  refine lv_aload_n hx hb dX1_takeAway_3 rfl (lv_at hl 0 rfl) ?_
  refine z_geti (C := RX1) (T := TX1) (N := 13) (ref := "GauntletHall$Hall") (o := o) (d := 0) hx hb hts hfX1 hown hK hP (hC.1 o ho (o, 0) (List.mem_of_getElem? (i := 0) rfl)) (z_lH_0 (o := o) ho) rfl 1 (by decide) (hts (.fieldLink RX1 15 "GauntletHall$Hall" "gloves" "I") (by decide +kernel)) rfl rfl (z_up_val X o h 0 1) dX1_takeAway_4 ?_
  refine lv_icmp_ge (tgt := 32) hx hb dX1_takeAway_7 (by decide) (fun c1 => ?_) (fun c1 => ?_)
  · replace hw := hw.1 c1
    exact z_retv C hP hS ⟨_, rfl, hw⟩ dX1_takeAway_32
  · replace hw := hw.2 c1
    refine lv_iload_n hx hb dX1_takeAway_10 rfl (lv_at hl 1 rfl) ?_
    refine lv_iload_n hx hb dX1_takeAway_11 rfl (lv_at hl 2 rfl) ?_
    refine lv_ishr hx hb dX1_takeAway_12 ?_
    refine lv_iconst (v := (1 : Int32)) hx hb dX1_takeAway_13 (by decide) ?_
    refine lv_iand hx hb dX1_takeAway_14 ?_
    refine lv_iconst (v := (1 : Int32)) hx hb dX1_takeAway_15 (by decide) ?_
    refine lv_icmp_ne (tgt := 26) hx hb dX1_takeAway_16 (by decide) (fun c2 => ?_) (fun c2 => ?_)
    · replace hw := hw.1 c2
      obtain ⟨y3, ey3⟩ : ∃ z : Int32, z = x2 + (1 : Int32) := ⟨_, rfl⟩
      replace hw := hw y3 ey3
      refine lv_iinc (v := y3) (lv' := [(2, .int y3), (0, .ref (z_a E o 0)), (1, .int x1)]) hx hb dX1_takeAway_26 hl (k := 2) rfl (by rw [ey3]; rfl) (by decide) rfl (fun ls hl => ?_)
      refine lv_goto (tgt := 2) hx hb dX1_takeAway_29 (by decide) ?_
      exact k2 h x1 y3 hw hP hS _ (lv_sub hl [1, 2, 0] rfl)
    · replace hw := hw.2 c2
      refine lv_aload_n hx hb dX1_takeAway_19 rfl (lv_at hl 0 rfl) ?_
      refine z_getr (C := RX1) (T := TX1) (N := 13) (ref := "GauntletHall$Hall") (o := o) (d := 0) hx hb hts hfX1 hown hK hP (hC.1 o ho (o, 0) (List.mem_of_getElem? (i := 0) rfl)) (z_lH_0 (o := o) ho) rfl 10 (by decide) (hts (.fieldLink RX1 43 "GauntletHall$Hall" "lies" "[I") (by decide +kernel)) rfl rfl dX1_takeAway_20 ?_
      refine lv_iload_n hx hb dX1_takeAway_23 rfl (lv_at hl 2 rfl) ?_
      refine lv_iconst (v := (0 : Int32)) hx hb dX1_takeAway_24 (by decide) ?_
      obtain ⟨i4, hw⟩ := hw
      obtain ⟨h5, eh5⟩ : ∃ z : z_G, z = z_ss h 10 (z_n x2) (0 : Int32) := ⟨_, rfl⟩
      replace hw := hw h5 eh5
      refine z_iast (o := o) (d := 10) (X' := z_up X o h5) hx hb hK hE hP hS (hC.1 o ho (o, 10) (List.mem_of_getElem? (i := 7) rfl)) (z_lH_10 (o := o) ho) i4 (by rw [eh5]; exact z_up_put X o h 10 (z_n x2) _) dX1_takeAway_25 (fun H locs hP hS => ?_)
      obtain ⟨y6, ey6⟩ : ∃ z : Int32, z = x2 + (1 : Int32) := ⟨_, rfl⟩
      replace hw := hw y6 ey6
      refine lv_iinc (v := y6) (lv' := [(2, .int y6), (0, .ref (z_a E o 0)), (1, .int x1)]) hx hb dX1_takeAway_26 hl (k := 2) rfl (by rw [ey6]; rfl) (by decide) rfl (fun ls hl => ?_)
      refine lv_goto (tgt := 2) hx hb dX1_takeAway_29 (by decide) ?_
      exact k2 h5 x1 y6 hw hP hS _ (lv_sub hl [1, 2, 0] rfl)
theorem m_X1_takeAway_b2 {p : Program} {l : Launch} {e : Env} {s : State} {m : MethodId} {args : Array Value} {below : List Frame} {meth : Method} {c : Code} {E : z_E} (C : z_Cx p E s m args meth c cX1_takeAway 3 wsX1_takeAway RX1 none) (hC : z_cls E) (o : Nat) (ho : o < 13) (X : z_X) (K : z_G → Prop) (h : z_G) (x1 : Int32) (x2 : Int32) (hw : v_X1_takeAway_b2 K h x1 x2) {H : Heap} {locs : List Loc} (hP : z_P E (z_up X o h) H) (hS : va_S (z_A E) s.heap H locs) {ls : Array Slot} (hl : lv_has ls 3 [(0, .ref (z_a E o 0)), (1, .int x1), (2, .int x2)]) : W p l e rX1_takeAway s m args below meth c H locs 0 0 (MQ below (va_Qv (fun X' => ∃ h', X' = z_up X o h' ∧ K h') (fun u t => z_P E u t.heap) (z_A E)) args s 0 0 (z_A E)) (F0 m 2 ls []) := by
  obtain ⟨n, hw⟩ := hw
  revert hw hP hS hl
  revert h x1 x2 H locs ls
  induction n with
  | zero => intro h x1 x2 H locs ls hP hS hl hw; exact hw.elim
  | succ n ih =>
    intro h x1 x2 H locs ls hP hS hl hw
    exact m_X1_takeAway_b2_s C hC o ho X K (fun h x1 x2 => z_fp (σ := z_G × Int32 × Int32) (fun Lp q => v_X1_takeAway_b2_s K (fun h x1 x2 => Lp (h, x1, x2)) q.1 q.2.1 q.2.2) n (h, x1, x2)) (fun h x1 x2 h9 H locs hP hS ls hl => ih h x1 x2 hP hS hl h9) h x1 x2 hw hP hS hl
set_option maxHeartbeats 4000000 in
set_option maxRecDepth 100000 in
theorem m_X1_takeAway (l : Launch) {E : z_E} (hE : z_ok E) (hC : z_cls E) (o : Nat) (ho : o < 13) (X : z_X) (h : z_G) (x1 : Int32) (K : z_G → Prop) (hw : v_X1_takeAway h x1 K) : z_CV l E yX1_takeAway wsX1_takeAway rX1_takeAway [.ref (z_a E o 0), .int x1] (z_up X o h) (fun X' => ∃ h', X' = z_up X o h' ∧ K h') := by
  refine z_start (cc := cX1_takeAway) (maxL := 3) (ret := none) hE (by decide) rfl (Nat.le_of_ble_eq_true rfl) ?_
  intro p e s m below meth c C hP hS ls hl
  have C : z_Cx p E s m _ meth c cX1_takeAway 3 wsX1_takeAway RX1 none := C
  obtain ⟨hx, hb, hml, hr, hlocks, hown, hts, hK, hE⟩ := id C
  have hl : lv_has ls 3 [(0, .ref (z_a E o 0)), (1, .int x1)] := hl
  have hfX1 : ∀ w ∈ u_ws RX1 TX1 13, w ∈ wsX1_takeAway := by decide +kernel
  unfold v_X1_takeAway at hw
  refine lv_iconst (v := (0 : Int32)) hx hb dX1_takeAway_0 (by decide) ?_
  refine lv_istore_n (lv' := [(2, .int (0 : Int32)), (0, .ref (z_a E o 0)), (1, .int x1)]) hx hb dX1_takeAway_1 rfl hl (by decide) rfl (fun ls hl => ?_)
  exact m_X1_takeAway_b2 C hC o ho X K h x1 (0 : Int32) hw hP hS (lv_sub hl [1, 2, 0] rfl)
