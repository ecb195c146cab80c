/-! ===== PRINTED (wip/whole/gen/gen.py): the machine meets each definition: X1.mightByTaking, X1.mightOfAll, X1.ownersWithin, X2.append, X2.readSign, X2.readNumber, X2.readItem ===== -/
set_option maxHeartbeats 4000000 in
set_option maxRecDepth 100000 in
theorem m_X1_mightByTaking (l : Launch) {E : z_E} (hE : z_ok E) (hC : z_cls E) (o : Nat) (ho : o < 13) (X : z_X) (h : z_G) (x1 : Int32) (x2 : Int32) (K : Int32 → Prop) (hw : v_X1_mightByTaking h x1 x2 K) : z_CI l E yX1_mightByTaking wsX1_mightByTaking rX1_mightByTaking [.ref (z_a E o 0), .int x1, .int x2] (z_up X o h) (fun r X' => X' = (z_up X o h) ∧ K r) := by
  refine z_start (cc := cX1_mightByTaking) (maxL := 4) (ret := (some .int)) hE (by decide) rfl (Nat.le_of_ble_eq_true rfl) ?_
  intro p e s m below meth c C hP hS ls hl
  have C : z_Cx p E s m _ meth c cX1_mightByTaking 4 wsX1_mightByTaking RX1 (some .int) := C
  obtain ⟨hx, hb, hml, hr, hlocks, hown, hts, hK, hE⟩ := id C
  have hl : lv_has ls 4 [(0, .ref (z_a E o 0)), (1, .int x1), (2, .int x2)] := hl
  have hfX1 : ∀ w ∈ u_ws RX1 TX1 13, w ∈ wsX1_mightByTaking := by decide +kernel
  unfold v_X1_mightByTaking at hw
  refine lv_aload_n hx hb dX1_mightByTaking_0 rfl (lv_at hl 0 rfl) ?_
  refine z_getr (C := RX1) (T := TX1) (N := 13) (ref := "GauntletHall$Hall") (o := o) (d := 0) hx hb hts hfX1 hown hK hP (hC.1 o ho (o, 0) (List.mem_of_getElem? (i := 0) rfl)) (z_lH_0 (o := o) ho) rfl 5 (by decide) (hts (.fieldLink RX1 28 "GauntletHall$Hall" "might" "[I") (by decide +kernel)) rfl rfl dX1_mightByTaking_1 ?_
  refine lv_aload_n hx hb dX1_mightByTaking_4 rfl (lv_at hl 0 rfl) ?_
  refine z_getr (C := RX1) (T := TX1) (N := 13) (ref := "GauntletHall$Hall") (o := o) (d := 0) hx hb hts hfX1 hown hK hP (hC.1 o ho (o, 0) (List.mem_of_getElem? (i := 0) rfl)) (z_lH_0 (o := o) ho) rfl 9 (by decide) (hts (.fieldLink RX1 40 "GauntletHall$Hall" "owner" "[I") (by decide +kernel)) rfl rfl dX1_mightByTaking_5 ?_
  refine lv_iload_n hx hb dX1_mightByTaking_8 rfl (lv_at hl 2 rfl) ?_
  obtain ⟨i1, hw⟩ := hw
  refine z_iald (o := o) (d := 9) hx hb hK hP (hC.1 o ho (o, 9) (List.mem_of_getElem? (i := 6) rfl)) (z_lH_9 (o := o) ho) i1 (z_up_val X o h 9 (z_n x2)) dX1_mightByTaking_9 ?_
  obtain ⟨i2, hw⟩ := hw
  refine z_iald (o := o) (d := 5) hx hb hK hP (hC.1 o ho (o, 5) (List.mem_of_getElem? (i := 2) rfl)) (z_lH_5 (o := o) ho) i2 (z_up_val X o h 5 (z_n (h 9 (z_n x2)))) dX1_mightByTaking_10 ?_
  refine lv_topi (fun y3 ey3 => ?_)
  replace hw := hw y3 ey3
  refine lv_istore_n (lv' := [(3, .int y3), (0, .ref (z_a E o 0)), (1, .int x1), (2, .int x2)]) hx hb dX1_mightByTaking_11 rfl hl (by decide) rfl (fun ls hl => ?_)
  refine lv_iload_n hx hb dX1_mightByTaking_12 rfl (lv_at hl 0 rfl) ?_
  refine lv_if_ne (tgt := 25) hx hb dX1_mightByTaking_13 (by decide) (fun c4 => ?_) (fun c4 => ?_)
  · replace hw := hw.1 c4
    refine lv_aload_n hx hb dX1_mightByTaking_25 rfl (lv_at hl 1 rfl) ?_
    refine z_getr (C := RX1) (T := TX1) (N := 13) (ref := "GauntletHall$Hall") (o := o) (d := 0) hx hb hts hfX1 hown hK hP (hC.1 o ho (o, 0) (List.mem_of_getElem? (i := 0) rfl)) (z_lH_0 (o := o) ho) rfl 5 (by decide) (hts (.fieldLink RX1 28 "GauntletHall$Hall" "might" "[I") (by decide +kernel)) rfl rfl dX1_mightByTaking_26 ?_
    refine lv_iload_n hx hb dX1_mightByTaking_29 rfl (lv_at hl 2 rfl) ?_
    obtain ⟨i5, hw⟩ := hw
    refine z_iald (o := o) (d := 5) hx hb hK hP (hC.1 o ho (o, 5) (List.mem_of_getElem? (i := 2) rfl)) (z_lH_5 (o := o) ho) i5 (z_up_val X o h 5 (z_n x1)) dX1_mightByTaking_30 ?_
    refine lv_iload_n hx hb dX1_mightByTaking_31 rfl (lv_at hl 0 rfl) ?_
    refine z_sn (host := "GauntletHall") (rest := []) ⟨hx, hb, hml, hown, hts⟩ (m_X5_mightByFight l hE (z_up X o h) (h 5 (z_n x1)) y3 _ hw) (va_cnB 2 hts gX1_mightByTaking_X5_mightByFight_n77 rfl rfl rfl (hK.2 _ (List.mem_of_getElem? (i := 4) rfl)) (hts (.initialized RX5) (by decide +kernel)) (by decide +kernel) ⟨Nat.le_of_ble_eq_true rfl, Nat.le_of_ble_eq_true rfl⟩) (hts (.static yX5_mightByFight) (by decide +kernel)) hK hP hS rfl hl.1 rfl (Nat.le_of_ble_eq_true rfl) dX1_mightByTaking_32 ⟨Nat.zero_le _, Nat.zero_le _⟩ (fun r6 u H locs hk hP hS => ?_)
    obtain ⟨eu, hw⟩ := hk
    rw [eu] at hP
    exact z_reti C hP hS ⟨rfl, hw⟩ dX1_mightByTaking_35
  · replace hw := hw.2 c4
    refine lv_aload_n hx hb dX1_mightByTaking_16 rfl (lv_at hl 1 rfl) ?_
    refine z_getr (C := RX1) (T := TX1) (N := 13) (ref := "GauntletHall$Hall") (o := o) (d := 0) hx hb hts hfX1 hown hK hP (hC.1 o ho (o, 0) (List.mem_of_getElem? (i := 0) rfl)) (z_lH_0 (o := o) ho) rfl 5 (by decide) (hts (.fieldLink RX1 28 "GauntletHall$Hall" "might" "[I") (by decide +kernel)) rfl rfl dX1_mightByTaking_17 ?_
    refine lv_iload_n hx hb dX1_mightByTaking_20 rfl (lv_at hl 2 rfl) ?_
    obtain ⟨i7, hw⟩ := hw
    refine z_iald (o := o) (d := 5) hx hb hK hP (hC.1 o ho (o, 5) (List.mem_of_getElem? (i := 2) rfl)) (z_lH_5 (o := o) ho) i7 (z_up_val X o h 5 (z_n x1)) dX1_mightByTaking_21 ?_
    refine lv_goto (tgt := 35) hx hb dX1_mightByTaking_22 (by decide) ?_
    exact z_reti C hP hS ⟨rfl, hw⟩ dX1_mightByTaking_35
set_option maxHeartbeats 4000000 in
set_option maxRecDepth 100000 in
theorem m_X1_mightOfAll_b4_s {p : Program} {l : Launch} {e : Env} {s : State} {m : MethodId} {args : Array Value} {below : List Frame} {meth : Method} {c : Code} {E : z_E} (C : z_Cx p E s m args meth c cX1_mightOfAll 3 wsX1_mightOfAll RX1 (some .int)) (hC : z_cls E) (o : Nat) (ho : o < 13) (X : z_X) (h : z_G) (K : Int32 → Prop) (L4 : Int32 → Int32 → Prop) (k4 : ∀ (x1 : Int32) (x2 : Int32), L4 x1 x2 → ∀ {H : Heap} {locs : List Loc}, z_P E (z_up X o h) H → va_S (z_A E) s.heap H locs → ∀ (ls : Array Slot), lv_has ls 3 [(0, .ref (z_a E o 0)), (1, .int x1), (2, .int x2)] → W p l e rX1_mightOfAll s m args below meth c H locs 0 0 (MQ below (va_Qi (fun r X' => X' = (z_up X o h) ∧ K r) (fun u t => z_P E u t.heap) (z_A E)) args s 0 0 (z_A E)) (F0 m 4 ls [])) (x1 : Int32) (x2 : Int32) (hw : v_X1_mightOfAll_b4_s h K L4 x1 x2) {H : Heap} {locs : List Loc} (hP : z_P E (z_up X o h) H) (hS : va_S (z_A E) s.heap H locs) {ls : Array Slot} (hl : lv_has ls 3 [(0, .ref (z_a E o 0)), (1, .int x1), (2, .int x2)]) : W p l e rX1_mightOfAll s m args below meth c H locs 0 0 (MQ below (va_Qi (fun r X' => X' = (z_up X o h) ∧ K r) (fun u t => z_P E u t.heap) (z_A E)) args s 0 0 (z_A E)) (F0 m 4 ls []) := by
  obtain ⟨hx, hb, hml, hr, hlocks, hown, hts, hK, hE⟩ := id C
  have hfX1 : ∀ w ∈ u_ws RX1 TX1 13, w ∈ wsX1_mightOfAll := by decide +kernel
  unfold v_X1_mightOfAll_b4_s at hw
  refine lv_iload_n hx hb dX1_mightOfAll_4 rfl (lv_at hl 2 rfl) ?_
  refine lv_aload_n hx hb dX1_mightOfAll_5 rfl (lv_at hl 0 rfl) ?_
  refine z_geti (C := RX1) (T := TX1) (N := 13) (ref := "GauntletHall$Hall") (o := o) (d := 0) hx hb hts hfX1 hown hK hP (hC.1 o ho (o, 0) (List.mem_of_getElem? (i := 0) rfl)) (z_lH_0 (o := o) ho) rfl 0 (by decide) (hts (.fieldLink RX1 9 "GauntletHall$Hall" "people" "I") (by decide +kernel)) rfl rfl (z_up_val X o h 0 0) dX1_mightOfAll_6 ?_
  refine lv_icmp_ge (tgt := 27) hx hb dX1_mightOfAll_9 (by decide) (fun c1 => ?_) (fun c1 => ?_)
  · replace hw := hw.1 c1
    refine lv_iload_n hx hb dX1_mightOfAll_27 rfl (lv_at hl 1 rfl) ?_
    exact z_reti C hP hS ⟨rfl, hw⟩ dX1_mightOfAll_28
  · replace hw := hw.2 c1
    refine lv_iload_n hx hb dX1_mightOfAll_12 rfl (lv_at hl 1 rfl) ?_
    refine lv_aload_n hx hb dX1_mightOfAll_13 rfl (lv_at hl 0 rfl) ?_
    refine z_getr (C := RX1) (T := TX1) (N := 13) (ref := "GauntletHall$Hall") (o := o) (d := 0) hx hb hts hfX1 hown hK hP (hC.1 o ho (o, 0) (List.mem_of_getElem? (i := 0) rfl)) (z_lH_0 (o := o) ho) rfl 5 (by decide) (hts (.fieldLink RX1 28 "GauntletHall$Hall" "might" "[I") (by decide +kernel)) rfl rfl dX1_mightOfAll_14 ?_
    refine lv_iload_n hx hb dX1_mightOfAll_17 rfl (lv_at hl 2 rfl) ?_
    obtain ⟨i2, hw⟩ := hw
    refine z_iald (o := o) (d := 5) hx hb hK hP (hC.1 o ho (o, 5) (List.mem_of_getElem? (i := 2) rfl)) (z_lH_5 (o := o) ho) i2 (z_up_val X o h 5 (z_n x2)) dX1_mightOfAll_18 ?_
    refine lv_iadd hx hb dX1_mightOfAll_19 ?_
    refine lv_topi (fun y3 ey3 => ?_)
    replace hw := hw y3 ey3
    refine lv_istore_n (lv' := [(1, .int y3), (0, .ref (z_a E o 0)), (2, .int x2)]) hx hb dX1_mightOfAll_20 rfl hl (by decide) rfl (fun ls hl => ?_)
    obtain ⟨y4, ey4⟩ : ∃ z : Int32, z = x2 + (1 : Int32) := ⟨_, rfl⟩
    replace hw := hw y4 ey4
    refine lv_iinc (v := y4) (lv' := [(2, .int y4), (1, .int y3), (0, .ref (z_a E o 0))]) hx hb dX1_mightOfAll_21 hl (k := 2) rfl (by rw [ey4]; rfl) (by decide) rfl (fun ls hl => ?_)
    refine lv_goto (tgt := 4) hx hb dX1_mightOfAll_24 (by decide) ?_
    exact k4 y3 y4 hw hP hS _ (lv_sub hl [2, 1, 0] rfl)
theorem m_X1_mightOfAll_b4 {p : Program} {l : Launch} {e : Env} {s : State} {m : MethodId} {args : Array Value} {below : List Frame} {meth : Method} {c : Code} {E : z_E} (C : z_Cx p E s m args meth c cX1_mightOfAll 3 wsX1_mightOfAll RX1 (some .int)) (hC : z_cls E) (o : Nat) (ho : o < 13) (X : z_X) (h : z_G) (K : Int32 → Prop) (x1 : Int32) (x2 : Int32) (hw : v_X1_mightOfAll_b4 h K x1 x2) {H : Heap} {locs : List Loc} (hP : z_P E (z_up X o h) H) (hS : va_S (z_A E) s.heap H locs) {ls : Array Slot} (hl : lv_has ls 3 [(0, .ref (z_a E o 0)), (1, .int x1), (2, .int x2)]) : W p l e rX1_mightOfAll s m args below meth c H locs 0 0 (MQ below (va_Qi (fun r X' => X' = (z_up X o h) ∧ K r) (fun u t => z_P E u t.heap) (z_A E)) args s 0 0 (z_A E)) (F0 m 4 ls []) := by
  obtain ⟨n, hw⟩ := hw
  revert hw hP hS hl
  revert x1 x2 H locs ls
  induction n with
  | zero => intro x1 x2 H locs ls hP hS hl hw; exact hw.elim
  | succ n ih =>
    intro x1 x2 H locs ls hP hS hl hw
    exact m_X1_mightOfAll_b4_s C hC o ho X h K (fun x1 x2 => z_fp (σ := Int32 × Int32) (fun Lp q => v_X1_mightOfAll_b4_s h K (fun x1 x2 => Lp (x1, x2)) q.1 q.2) n (x1, x2)) (fun x1 x2 h9 H locs hP hS ls hl => ih x1 x2 hP hS hl h9) x1 x2 hw hP hS hl
set_option maxHeartbeats 4000000 in
set_option maxRecDepth 100000 in
theorem m_X1_mightOfAll (l : Launch) {E : z_E} (hE : z_ok E) (hC : z_cls E) (o : Nat) (ho : o < 13) (X : z_X) (h : z_G) (K : Int32 → Prop) (hw : v_X1_mightOfAll h K) : z_CI l E yX1_mightOfAll wsX1_mightOfAll rX1_mightOfAll [.ref (z_a E o 0)] (z_up X o h) (fun r X' => X' = (z_up X o h) ∧ K r) := by
  refine z_start (cc := cX1_mightOfAll) (maxL := 3) (ret := (some .int)) hE (by decide) rfl (Nat.le_of_ble_eq_true rfl) ?_
  intro p e s m below meth c C hP hS ls hl
  have C : z_Cx p E s m _ meth c cX1_mightOfAll 3 wsX1_mightOfAll RX1 (some .int) := C
  obtain ⟨hx, hb, hml, hr, hlocks, hown, hts, hK, hE⟩ := id C
  have hl : lv_has ls 3 [(0, .ref (z_a E o 0))] := hl
  have hfX1 : ∀ w ∈ u_ws RX1 TX1 13, w ∈ wsX1_mightOfAll := by decide +kernel
  unfold v_X1_mightOfAll at hw
  refine lv_iconst (v := (0 : Int32)) hx hb dX1_mightOfAll_0 (by decide) ?_
  refine lv_istore_n (lv' := [(1, .int (0 : Int32)), (0, .ref (z_a E o 0))]) hx hb dX1_mightOfAll_1 rfl hl (by decide) rfl (fun ls hl => ?_)
  refine lv_iconst (v := (0 : Int32)) hx hb dX1_mightOfAll_2 (by decide) ?_
  refine lv_istore_n (lv' := [(2, .int (0 : Int32)), (1, .int (0 : Int32)), (0, .ref (z_a E o 0))]) hx hb dX1_mightOfAll_3 rfl hl (by decide) rfl (fun ls hl => ?_)
  exact m_X1_mightOfAll_b4 C hC o ho X h K (0 : Int32) (0 : Int32) hw hP hS (lv_sub hl [2, 1, 0] rfl)
set_option maxHeartbeats 4000000 in
set_option maxRecDepth 100000 in
theorem m_X1_ownersWithin_b15_s {p : Program} {l : Launch} {e : Env} {s : State} {m : MethodId} {args : Array Value} {below : List Frame} {meth : Method} {c : Code} {E : z_E} (C : z_Cx p E s m args meth c cX1_ownersWithin 5 wsX1_ownersWithin RX1 (some .int)) (hC : z_cls E) (o : Nat) (ho : o < 13) (X : z_X) (h : z_G) (K : Int32 → Prop) (L4 : Int32 → Int32 → Int32 → Prop) (k4 : ∀ (x1 : Int32) (x2 : Int32) (x3 : Int32), L4 x1 x2 x3 → ∀ {H : Heap} {locs : List Loc}, z_P E (z_up X o h) H → va_S (z_A E) s.heap H locs → ∀ (ls : Array Slot), lv_has ls 5 [(0, .ref (z_a E o 0)), (1, .int x1), (2, .int x2), (3, .int x3)] → W p l e rX1_ownersWithin s m args below meth c H locs 0 0 (MQ below (va_Qi (fun r X' => X' = (z_up X o h) ∧ K r) (fun u t => z_P E u t.heap) (z_A E)) args s 0 0 (z_A E)) (F0 m 4 ls [])) (L15 : Int32 → Int32 → Int32 → Int32 → Prop) (k15 : ∀ (x1 : Int32) (x2 : Int32) (x3 : Int32) (x4 : Int32), L15 x1 x2 x3 x4 → ∀ {H : Heap} {locs : List Loc}, z_P E (z_up X o h) H → va_S (z_A E) s.heap H locs → ∀ (ls : Array Slot), lv_has ls 5 [(0, .ref (z_a E o 0)), (1, .int x1), (2, .int x2), (3, .int x3), (4, .int x4)] → W p l e rX1_ownersWithin s m args below meth c H locs 0 0 (MQ below (va_Qi (fun r X' => X' = (z_up X o h) ∧ K r) (fun u t => z_P E u t.heap) (z_A E)) args s 0 0 (z_A E)) (F0 m 15 ls [])) (x1 : Int32) (x2 : Int32) (x3 : Int32) (x4 : Int32) (hw : v_X1_ownersWithin_b15_s h K L4 L15 x1 x2 x3 x4) {H : Heap} {locs : List Loc} (hP : z_P E (z_up X o h) H) (hS : va_S (z_A E) s.heap H locs) {ls : Array Slot} (hl : lv_has ls 5 [(0, .ref (z_a E o 0)), (1, .int x1), (2, .int x2), (3, .int x3), (4, .int x4)]) : W p l e rX1_ownersWithin s m args below meth c H locs 0 0 (MQ below (va_Qi (fun r X' => X' = (z_up X o h) ∧ K r) (fun u t => z_P E u t.heap) (z_A E)) args s 0 0 (z_A E)) (F0 m 15 ls []) := by
  obtain ⟨hx, hb, hml, hr, hlocks, hown, hts, hK, hE⟩ := id C
  have hfX1 : ∀ w ∈ u_ws RX1 TX1 13, w ∈ wsX1_ownersWithin := by decide +kernel
  unfold v_X1_ownersWithin_b15_s at hw
  refine lv_iload hx hb dX1_ownersWithin_15 (lv_at hl 4 rfl) ?_
  refine lv_aload_n hx hb dX1_ownersWithin_17 rfl (lv_at hl 0 rfl) ?_
  refine z_geti (C := RX1) (T := TX1) (N := 13) (ref := "GauntletHall$Hall") (o := o) (d := 0) hx hb hts hfX1 hown hK hP (hC.1 o ho (o, 0) (List.mem_of_getElem? (i := 0) rfl)) (z_lH_0 (o := o) ho) rfl 1 (by decide) (hts (.fieldLink RX1 15 "GauntletHall$Hall" "gloves" "I") (by decide +kernel)) rfl rfl (z_up_val X o h 0 1) dX1_ownersWithin_18 ?_
  refine lv_icmp_ge (tgt := 61) hx hb dX1_ownersWithin_21 (by decide) (fun c2 => ?_) (fun c2 => ?_)
  · replace hw := hw.1 c2
    obtain ⟨y3, ey3⟩ : ∃ z : Int32, z = x3 + (1 : Int32) := ⟨_, rfl⟩
    replace hw := hw y3 ey3
    refine lv_iinc (v := y3) (lv' := [(3, .int y3), (0, .ref (z_a E o 0)), (1, .int x1), (2, .int x2), (4, .int x4)]) hx hb dX1_ownersWithin_61 hl (k := 3) rfl (by rw [ey3]; rfl) (by decide) rfl (fun ls hl => ?_)
    refine lv_goto (tgt := 4) hx hb dX1_ownersWithin_64 (by decide) ?_
    exact k4 x1 x2 y3 hw hP hS _ (lv_sub hl [1, 2, 3, 0] rfl)
  · replace hw := hw.2 c2
    refine lv_iload_n hx hb dX1_ownersWithin_24 rfl (lv_at hl 1 rfl) ?_
    refine lv_iload_n hx hb dX1_ownersWithin_25 rfl (lv_at hl 3 rfl) ?_
    refine lv_ishr hx hb dX1_ownersWithin_26 ?_
    refine lv_iconst (v := (1 : Int32)) hx hb dX1_ownersWithin_27 (by decide) ?_
    refine lv_iand hx hb dX1_ownersWithin_28 ?_
    refine lv_iconst (v := (1 : Int32)) hx hb dX1_ownersWithin_29 (by decide) ?_
    refine lv_icmp_ne (tgt := 55) hx hb dX1_ownersWithin_30 (by decide) (fun c4 => ?_) (fun c4 => ?_)
    · replace hw := hw.1 c4
      obtain ⟨y5, ey5⟩ : ∃ z : Int32, z = x4 + (1 : Int32) := ⟨_, rfl⟩
      replace hw := hw y5 ey5
      refine lv_iinc (v := y5) (lv' := [(4, .int y5), (0, .ref (z_a E o 0)), (1, .int x1), (2, .int x2), (3, .int x3)]) hx hb dX1_ownersWithin_55 hl (k := 4) rfl (by rw [ey5]; rfl) (by decide) rfl (fun ls hl => ?_)
      refine lv_goto (tgt := 15) hx hb dX1_ownersWithin_58 (by decide) ?_
      exact k15 x1 x2 x3 y5 hw hP hS _ (lv_sub hl [1, 2, 3, 4, 0] rfl)
    · replace hw := hw.2 c4
      refine lv_aload_n hx hb dX1_ownersWithin_33 rfl (lv_at hl 0 rfl) ?_
      refine lv_iload_n hx hb dX1_ownersWithin_34 rfl (lv_at hl 3 rfl) ?_
      refine lv_iload hx hb dX1_ownersWithin_35 (lv_at hl 4 rfl) ?_
      refine z_vi (C := RX1) (T := TX1) (N := 13) (o := o) (rest := []) ⟨hx, hb, hml, hown, hts⟩ (m_X1_canTakeUp l hE hC o ho X h x3 x4 _ hw) (cwV 2 hts gX1_ownersWithin_X1_canTakeUp rfl rfl rfl (by decide +kernel) ⟨Nat.le_of_ble_eq_true rfl, Nat.le_of_ble_eq_true rfl⟩) hK hP hS (hC.1 o ho (o, 0) (List.mem_of_getElem? (i := 0) rfl)) (z_lH_0 (o := o) ho) rfl rfl hl.1 rfl (Nat.le_of_ble_eq_true rfl) dX1_ownersWithin_37 ⟨Nat.zero_le _, Nat.zero_le _⟩ (fun r6 u H locs hk hP hS => ?_)
      obtain ⟨eu, hw⟩ := hk
      rw [eu] at hP
      refine lv_if_eq (tgt := 55) hx hb dX1_ownersWithin_40 (by decide) (fun c7 => ?_) (fun c7 => ?_)
      · replace hw := hw.1 c7
        obtain ⟨y8, ey8⟩ : ∃ z : Int32, z = x4 + (1 : Int32) := ⟨_, rfl⟩
        replace hw := hw y8 ey8
        refine lv_iinc (v := y8) (lv' := [(4, .int y8), (0, .ref (z_a E o 0)), (1, .int x1), (2, .int x2), (3, .int x3)]) hx hb dX1_ownersWithin_55 hl (k := 4) rfl (by rw [ey8]; rfl) (by decide) rfl (fun ls hl => ?_)
        refine lv_goto (tgt := 15) hx hb dX1_ownersWithin_58 (by decide) ?_
        exact k15 x1 x2 x3 y8 hw hP hS _ (lv_sub hl [1, 2, 3, 4, 0] rfl)
      · replace hw := hw.2 c7
        refine lv_iload_n hx hb dX1_ownersWithin_43 rfl (lv_at hl 2 rfl) ?_
        refine lv_iconst (v := (1 : Int32)) hx hb dX1_ownersWithin_44 (by decide) ?_
        refine lv_aload_n hx hb dX1_ownersWithin_45 rfl (lv_at hl 0 rfl) ?_
        refine z_getr (C := RX1) (T := TX1) (N := 13) (ref := "GauntletHall$Hall") (o := o) (d := 0) hx hb hts hfX1 hown hK hP (hC.1 o ho (o, 0) (List.mem_of_getElem? (i := 0) rfl)) (z_lH_0 (o := o) ho) rfl 9 (by decide) (hts (.fieldLink RX1 40 "GauntletHall$Hall" "owner" "[I") (by decide +kernel)) rfl rfl dX1_ownersWithin_46 ?_
        refine lv_iload hx hb dX1_ownersWithin_49 (lv_at hl 4 rfl) ?_
        obtain ⟨i9, hw⟩ := hw
        refine z_iald (o := o) (d := 9) hx hb hK hP (hC.1 o ho (o, 9) (List.mem_of_getElem? (i := 6) rfl)) (z_lH_9 (o := o) ho) i9 (z_up_val X o h 9 (z_n x4)) dX1_ownersWithin_51 ?_
        refine lv_ishl hx hb dX1_ownersWithin_52 ?_
        refine lv_ior hx hb dX1_ownersWithin_53 ?_
        refine lv_topi (fun y10 ey10 => ?_)
        replace hw := hw y10 ey10
        refine lv_istore_n (lv' := [(2, .int y10), (0, .ref (z_a E o 0)), (1, .int x1), (3, .int x3), (4, .int x4)]) hx hb dX1_ownersWithin_54 rfl hl (by decide) rfl (fun ls hl => ?_)
        obtain ⟨y11, ey11⟩ : ∃ z : Int32, z = x4 + (1 : Int32) := ⟨_, rfl⟩
        replace hw := hw y11 ey11
        refine lv_iinc (v := y11) (lv' := [(4, .int y11), (2, .int y10), (0, .ref (z_a E o 0)), (1, .int x1), (3, .int x3)]) hx hb dX1_ownersWithin_55 hl (k := 4) rfl (by rw [ey11]; rfl) (by decide) rfl (fun ls hl => ?_)
        refine lv_goto (tgt := 15) hx hb dX1_ownersWithin_58 (by decide) ?_
        exact k15 x1 y10 x3 y11 hw hP hS _ (lv_sub hl [2, 3, 1, 4, 0] rfl)
theorem m_X1_ownersWithin_b15 {p : Program} {l : Launch} {e : Env} {s : State} {m : MethodId} {args : Array Value} {below : List Frame} {meth : Method} {c : Code} {E : z_E} (C : z_Cx p E s m args meth c cX1_ownersWithin 5 wsX1_ownersWithin RX1 (some .int)) (hC : z_cls E) (o : Nat) (ho : o < 13) (X : z_X) (h : z_G) (K : Int32 → Prop) (L4 : Int32 → Int32 → Int32 → Prop) (k4 : ∀ (x1 : Int32) (x2 : Int32) (x3 : Int32), L4 x1 x2 x3 → ∀ {H : Heap} {locs : List Loc}, z_P E (z_up X o h) H → va_S (z_A E) s.heap H locs → ∀ (ls : Array Slot), lv_has ls 5 [(0, .ref (z_a E o 0)), (1, .int x1), (2, .int x2), (3, .int x3)] → W p l e rX1_ownersWithin s m args below meth c H locs 0 0 (MQ below (va_Qi (fun r X' => X' = (z_up X o h) ∧ K r) (fun u t => z_P E u t.heap) (z_A E)) args s 0 0 (z_A E)) (F0 m 4 ls [])) (x1 : Int32) (x2 : Int32) (x3 : Int32) (x4 : Int32) (hw : v_X1_ownersWithin_b15 h K L4 x1 x2 x3 x4) {H : Heap} {locs : List Loc} (hP : z_P E (z_up X o h) H) (hS : va_S (z_A E) s.heap H locs) {ls : Array Slot} (hl : lv_has ls 5 [(0, .ref (z_a E o 0)), (1, .int x1), (2, .int x2), (3, .int x3), (4, .int x4)]) : W p l e rX1_ownersWithin s m args below meth c H locs 0 0 (MQ below (va_Qi (fun r X' => X' = (z_up X o h) ∧ K r) (fun u t => z_P E u t.heap) (z_A E)) args s 0 0 (z_A E)) (F0 m 15 ls []) := by
  obtain ⟨n, hw⟩ := hw
  revert hw hP hS hl
  revert x1 x2 x3 x4 H locs ls
  induction n with
  | zero => intro x1 x2 x3 x4 H locs ls hP hS hl hw; exact hw.elim
  | succ n ih =>
    intro x1 x2 x3 x4 H locs ls hP hS hl hw
    exact m_X1_ownersWithin_b15_s C hC o ho X h K L4 k4 (fun x1 x2 x3 x4 => z_fp (σ := Int32 × Int32 × Int32 × Int32) (fun Lp q => v_X1_ownersWithin_b15_s h K L4 (fun x1 x2 x3 x4 => Lp (x1, x2, x3, x4)) q.1 q.2.1 q.2.2.1 q.2.2.2) n (x1, x2, x3, x4)) (fun x1 x2 x3 x4 h9 H locs hP hS ls hl => ih x1 x2 x3 x4 hP hS hl h9) x1 x2 x3 x4 hw hP hS hl
set_option maxHeartbeats 4000000 in
set_option maxRecDepth 100000 in
theorem m_X1_ownersWithin_b4_s {p : Program} {l : Launch} {e : Env} {s : State} {m : MethodId} {args : Array Value} {below : List Frame} {meth : Method} {c : Code} {E : z_E} (C : z_Cx p E s m args meth c cX1_ownersWithin 5 wsX1_ownersWithin RX1 (some .int)) (hC : z_cls E) (o : Nat) (ho : o < 13) (X : z_X) (h : z_G) (K : Int32 → Prop) (L4 : Int32 → Int32 → Int32 → Prop) (k4 : ∀ (x1 : Int32) (x2 : Int32) (x3 : Int32), L4 x1 x2 x3 → ∀ {H : Heap} {locs : List Loc}, z_P E (z_up X o h) H → va_S (z_A E) s.heap H locs → ∀ (ls : Array Slot), lv_has ls 5 [(0, .ref (z_a E o 0)), (1, .int x1), (2, .int x2), (3, .int x3)] → W p l e rX1_ownersWithin s m args below meth c H locs 0 0 (MQ below (va_Qi (fun r X' => X' = (z_up X o h) ∧ K r) (fun u t => z_P E u t.heap) (z_A E)) args s 0 0 (z_A E)) (F0 m 4 ls [])) (x1 : Int32) (x2 : Int32) (x3 : Int32) (hw : v_X1_ownersWithin_b4_s h K L4 x1 x2 x3) {H : Heap} {locs : List Loc} (hP : z_P E (z_up X o h) H) (hS : va_S (z_A E) s.heap H locs) {ls : Array Slot} (hl : lv_has ls 5 [(0, .ref (z_a E o 0)), (1, .int x1), (2, .int x2), (3, .int x3)]) : W p l e rX1_ownersWithin s m args below meth c H locs 0 0 (MQ below (va_Qi (fun r X' => X' = (z_up X o h) ∧ K r) (fun u t => z_P E u t.heap) (z_A E)) args s 0 0 (z_A E)) (F0 m 4 ls []) := by
  obtain ⟨hx, hb, hml, hr, hlocks, hown, hts, hK, hE⟩ := id C
  have hfX1 : ∀ w ∈ u_ws RX1 TX1 13, w ∈ wsX1_ownersWithin := by decide +kernel
  unfold v_X1_ownersWithin_b4_s at hw
  refine lv_iload_n hx hb dX1_ownersWithin_4 rfl (lv_at hl 3 rfl) ?_
  refine lv_aload_n hx hb dX1_ownersWithin_5 rfl (lv_at hl 0 rfl) ?_
  refine z_geti (C := RX1) (T := TX1) (N := 13) (ref := "GauntletHall$Hall") (o := o) (d := 0) hx hb hts hfX1 hown hK hP (hC.1 o ho (o, 0) (List.mem_of_getElem? (i := 0) rfl)) (z_lH_0 (o := o) ho) rfl 0 (by decide) (hts (.fieldLink RX1 9 "GauntletHall$Hall" "people" "I") (by decide +kernel)) rfl rfl (z_up_val X o h 0 0) dX1_ownersWithin_6 ?_
  refine lv_icmp_ge (tgt := 67) hx hb dX1_ownersWithin_9 (by decide) (fun c1 => ?_) (fun c1 => ?_)
  · replace hw := hw.1 c1
    refine lv_iload_n hx hb dX1_ownersWithin_67 rfl (lv_at hl 2 rfl) ?_
    exact z_reti C hP hS ⟨rfl, hw⟩ dX1_ownersWithin_68
  · replace hw := hw.2 c1
    refine lv_iconst (v := (0 : Int32)) hx hb dX1_ownersWithin_12 (by decide) ?_
    refine lv_istore (lv' := [(4, .int (0 : Int32)), (0, .ref (z_a E o 0)), (1, .int x1), (2, .int x2), (3, .int x3)]) hx hb dX1_ownersWithin_13 hl (by decide) rfl (fun ls hl => ?_)
    exact m_X1_ownersWithin_b15 C hC o ho X h K L4 k4 x1 x2 x3 (0 : Int32) hw hP hS (lv_sub hl [1, 2, 3, 4, 0] rfl)
theorem m_X1_ownersWithin_b4 {p : Program} {l : Launch} {e : Env} {s : State} {m : MethodId} {args : Array Value} {below : List Frame} {meth : Method} {c : Code} {E : z_E} (C : z_Cx p E s m args meth c cX1_ownersWithin 5 wsX1_ownersWithin RX1 (some .int)) (hC : z_cls E) (o : Nat) (ho : o < 13) (X : z_X) (h : z_G) (K : Int32 → Prop) (x1 : Int32) (x2 : Int32) (x3 : Int32) (hw : v_X1_ownersWithin_b4 h K x1 x2 x3) {H : Heap} {locs : List Loc} (hP : z_P E (z_up X o h) H) (hS : va_S (z_A E) s.heap H locs) {ls : Array Slot} (hl : lv_has ls 5 [(0, .ref (z_a E o 0)), (1, .int x1), (2, .int x2), (3, .int x3)]) : W p l e rX1_ownersWithin s m args below meth c H locs 0 0 (MQ below (va_Qi (fun r X' => X' = (z_up X o h) ∧ K r) (fun u t => z_P E u t.heap) (z_A E)) args s 0 0 (z_A E)) (F0 m 4 ls []) := by
  obtain ⟨n, hw⟩ := hw
  revert hw hP hS hl
  revert x1 x2 x3 H locs ls
  induction n with
  | zero => intro x1 x2 x3 H locs ls hP hS hl hw; exact hw.elim
  | succ n ih =>
    intro x1 x2 x3 H locs ls hP hS hl hw
    exact m_X1_ownersWithin_b4_s C hC o ho X h K (fun x1 x2 x3 => z_fp (σ := Int32 × Int32 × Int32) (fun Lp q => v_X1_ownersWithin_b4_s h K (fun x1 x2 x3 => Lp (x1, x2, x3)) q.1 q.2.1 q.2.2) n (x1, x2, x3)) (fun x1 x2 x3 h9 H locs hP hS ls hl => ih x1 x2 x3 hP hS hl h9) x1 x2 x3 hw hP hS hl
set_option maxHeartbeats 4000000 in
set_option maxRecDepth 100000 in
theorem m_X1_ownersWithin (l : Launch) {E : z_E} (hE : z_ok E) (hC : z_cls E) (o : Nat) (ho : o < 13) (X : z_X) (h : z_G) (x1 : Int32) (K : Int32 → Prop) (hw : v_X1_ownersWithin h x1 K) : z_CI l E yX1_ownersWithin wsX1_ownersWithin rX1_ownersWithin [.ref (z_a E o 0), .int x1] (z_up X o h) (fun r X' => X' = (z_up X o h) ∧ K r) := by
  refine z_start (cc := cX1_ownersWithin) (maxL := 5) (ret := (some .int)) hE (by decide) rfl (Nat.le_of_ble_eq_true rfl) ?_
  intro p e s m below meth c C hP hS ls hl
  have C : z_Cx p E s m _ meth c cX1_ownersWithin 5 wsX1_ownersWithin RX1 (some .int) := C
  obtain ⟨hx, hb, hml, hr, hlocks, hown, hts, hK, hE⟩ := id C
  have hl : lv_has ls 5 [(0, .ref (z_a E o 0)), (1, .int x1)] := hl
  have hfX1 : ∀ w ∈ u_ws RX1 TX1 13, w ∈ wsX1_ownersWithin := by decide +kernel
  unfold v_X1_ownersWithin at hw
  refine lv_iconst (v := (0 : Int32)) hx hb dX1_ownersWithin_0 (by decide) ?_
  refine lv_istore_n (lv' := [(2, .int (0 : Int32)), (0, .ref (z_a E o 0)), (1, .int x1)]) hx hb dX1_ownersWithin_1 rfl hl (by decide) rfl (fun ls hl => ?_)
  refine lv_iconst (v := (0 : Int32)) hx hb dX1_ownersWithin_2 (by decide) ?_
  refine lv_istore_n (lv' := [(3, .int (0 : Int32)), (2, .int (0 : Int32)), (0, .ref (z_a E o 0)), (1, .int x1)]) hx hb dX1_ownersWithin_3 rfl hl (by decide) rfl (fun ls hl => ?_)
  exact m_X1_ownersWithin_b4 C hC o ho X h K x1 (0 : Int32) (0 : Int32) hw hP hS (lv_sub hl [2, 3, 1, 0] rfl)
set_option maxHeartbeats 4000000 in
set_option maxRecDepth 100000 in
theorem m_X2_append (l : Launch) {E : z_E} (hE : z_ok E) (hC : z_cls E) (X : z_X) (h : z_G) (x1 : Int32) (K : Int32 → z_G → Prop) (hw : v_X2_append h x1 K) : z_CI l E yX2_append wsX2_append rX2_append [.ref (z_a E 13 0), .int x1] (z_up X 13 h) (fun r X' => ∃ h', X' = z_up X 13 h' ∧ K r h') := by
  refine z_start (cc := cX2_append) (maxL := 2) (ret := (some .boolean)) hE (by decide) rfl (Nat.le_of_ble_eq_true rfl) ?_
  intro p e s m below meth c C hP hS ls hl
  have C : z_Cx p E s m _ meth c cX2_append 2 wsX2_append RX2 (some .boolean) := C
  obtain ⟨hx, hb, hml, hr, hlocks, hown, hts, hK, hE⟩ := id C
  have hl : lv_has ls 2 [(0, .ref (z_a E 13 0)), (1, .int x1)] := hl
  have hfX2 : ∀ w ∈ u_ws RX2 TX2 4, w ∈ wsX2_append := by decide +kernel
  unfold v_X2_append at hw
  refine lv_aload_n hx hb dX2_append_0 rfl (lv_at hl 0 rfl) ?_
  refine z_geti (C := RX2) (T := TX2) (N := 4) (ref := "GauntletHall$Scroll") (o := 13) (d := 0) hx hb hts hfX2 hown hK hP (hC.2 (13, 0) (List.mem_of_getElem? (i := 0) rfl)) z_l_13_0 rfl 0 (by decide) (hts (.fieldLink RX2 9 "GauntletHall$Scroll" "length" "I") (by decide +kernel)) rfl rfl (z_up_val X 13 h 0 0) dX2_append_1 ?_
  refine lv_sipush (v := (200 : Int32)) hx hb dX2_append_4 (by decide) ?_
  refine lv_icmp_lt (tgt := 12) hx hb dX2_append_7 (by decide) (fun c1 => ?_) (fun c1 => ?_)
  · replace hw := hw.1 c1
    refine lv_aload_n hx hb dX2_append_12 rfl (lv_at hl 0 rfl) ?_
    refine z_getr (C := RX2) (T := TX2) (N := 4) (ref := "GauntletHall$Scroll") (o := 13) (d := 0) hx hb hts hfX2 hown hK hP (hC.2 (13, 0) (List.mem_of_getElem? (i := 0) rfl)) z_l_13_0 rfl 2 (by decide) (hts (.fieldLink RX2 18 "GauntletHall$Scroll" "letters" "[I") (by decide +kernel)) rfl rfl dX2_append_13 ?_
    refine lv_aload_n hx hb dX2_append_16 rfl (lv_at hl 0 rfl) ?_
    refine z_geti (C := RX2) (T := TX2) (N := 4) (ref := "GauntletHall$Scroll") (o := 13) (d := 0) hx hb hts hfX2 hown hK hP (hC.2 (13, 0) (List.mem_of_getElem? (i := 0) rfl)) z_l_13_0 rfl 0 (by decide) (hts (.fieldLink RX2 9 "GauntletHall$Scroll" "length" "I") (by decide +kernel)) rfl rfl (z_up_val X 13 h 0 0) dX2_append_17 ?_
    refine lv_iload_n hx hb dX2_append_20 rfl (lv_at hl 1 rfl) ?_
    obtain ⟨i2, hw⟩ := hw
    obtain ⟨h3, eh3⟩ : ∃ z : z_G, z = z_ss h 2 (z_n (h 0 0)) x1 := ⟨_, rfl⟩
    replace hw := hw h3 eh3
    refine z_iast (o := 13) (d := 2) (X' := z_up X 13 h3) hx hb hK hE hP hS (hC.2 (13, 2) (List.mem_of_getElem? (i := 1) rfl)) z_l_13_2 i2 (by rw [eh3]; exact z_up_put X 13 h 2 (z_n (h 0 0)) _) dX2_append_21 (fun H locs hP hS => ?_)
    refine lv_aload_n hx hb dX2_append_22 rfl (lv_at hl 0 rfl) ?_
    refine lv_dup hx hb dX2_append_23 rfl ?_
    refine z_geti (C := RX2) (T := TX2) (N := 4) (ref := "GauntletHall$Scroll") (o := 13) (d := 0) hx hb hts hfX2 hown hK hP (hC.2 (13, 0) (List.mem_of_getElem? (i := 0) rfl)) z_l_13_0 rfl 0 (by decide) (hts (.fieldLink RX2 9 "GauntletHall$Scroll" "length" "I") (by decide +kernel)) rfl rfl (z_up_val X 13 h3 0 0) dX2_append_24 ?_
    refine lv_iconst (v := (1 : Int32)) hx hb dX2_append_27 (by decide) ?_
    refine lv_iadd hx hb dX2_append_28 ?_
    obtain ⟨h4, eh4⟩ : ∃ z : z_G, z = z_ss h3 0 0 ((h3 0 0) + (1 : Int32)) := ⟨_, rfl⟩
    replace hw := hw h4 eh4
    refine z_puti (C := RX2) (T := TX2) (N := 4) (ref := "GauntletHall$Scroll") (o := 13) (d := 0) (X' := z_up X 13 h4) hx hb hts hfX2 tyX2 tyX2_ok nmX2 hown hK hE hP hS (hC.2 (13, 0) (List.mem_of_getElem? (i := 0) rfl)) z_l_13_0 rfl 0 (by decide) (hts (.fieldLink RX2 9 "GauntletHall$Scroll" "length" "I") (by decide +kernel)) rfl rfl (by decide +kernel) rfl (by rw [eh4]; exact z_up_put X 13 h3 0 0 _) dX2_append_29 (fun H locs hP hS => ?_)
    refine lv_iconst (v := (1 : Int32)) hx hb dX2_append_32 (by decide) ?_
    exact z_retz C (Or.inr rfl) hP hS ⟨_, rfl, hw⟩ dX2_append_33
  · replace hw := hw.2 c1
    refine lv_iconst (v := (0 : Int32)) hx hb dX2_append_10 (by decide) ?_
    exact z_retz C (Or.inl rfl) hP hS ⟨_, rfl, hw⟩ dX2_append_11
set_option maxHeartbeats 4000000 in
set_option maxRecDepth 100000 in
theorem m_X2_readSign (l : Launch) {E : z_E} (hE : z_ok E) (hC : z_cls E) (X : z_X) (h : z_G) (x1 : Int32) (K : Int32 → z_G → Prop) (hw : v_X2_readSign h x1 K) : z_CI l E yX2_readSign wsX2_readSign rX2_readSign [.ref (z_a E 13 0), .int x1] (z_up X 13 h) (fun r X' => ∃ h', X' = z_up X 13 h' ∧ K r h') := by
  refine z_start (cc := cX2_readSign) (maxL := 2) (ret := (some .boolean)) hE (by decide) rfl (Nat.le_of_ble_eq_true rfl) ?_
  intro p e s m below meth c C hP hS ls hl
  have C : z_Cx p E s m _ meth c cX2_readSign 2 wsX2_readSign RX2 (some .boolean) := C
  obtain ⟨hx, hb, hml, hr, hlocks, hown, hts, hK, hE⟩ := id C
  have hl : lv_has ls 2 [(0, .ref (z_a E 13 0)), (1, .int x1)] := hl
  have hfX2 : ∀ w ∈ u_ws RX2 TX2 4, w ∈ wsX2_readSign := by decide +kernel
  unfold v_X2_readSign at hw
  refine lv_aload_n hx hb dX2_readSign_0 rfl (lv_at hl 0 rfl) ?_
  refine z_geti (C := RX2) (T := TX2) (N := 4) (ref := "GauntletHall$Scroll") (o := 13) (d := 0) hx hb hts hfX2 hown hK hP (hC.2 (13, 0) (List.mem_of_getElem? (i := 0) rfl)) z_l_13_0 rfl 1 (by decide) (hts (.fieldLink RX2 15 "GauntletHall$Scroll" "place" "I") (by decide +kernel)) rfl rfl (z_up_val X 13 h 0 1) dX2_readSign_1 ?_
  refine lv_aload_n hx hb dX2_readSign_4 rfl (lv_at hl 0 rfl) ?_
  refine z_geti (C := RX2) (T := TX2) (N := 4) (ref := "GauntletHall$Scroll") (o := 13) (d := 0) hx hb hts hfX2 hown hK hP (hC.2 (13, 0) (List.mem_of_getElem? (i := 0) rfl)) z_l_13_0 rfl 0 (by decide) (hts (.fieldLink RX2 9 "GauntletHall$Scroll" "length" "I") (by decide +kernel)) rfl rfl (z_up_val X 13 h 0 0) dX2_readSign_5 ?_
  refine lv_icmp_ge (tgt := 24) hx hb dX2_readSign_8 (by decide) (fun c1 => ?_) (fun c1 => ?_)
  · replace hw := hw.1 c1
    refine lv_iconst (v := (0 : Int32)) hx hb dX2_readSign_24 (by decide) ?_
    exact z_retz C (Or.inl rfl) hP hS ⟨_, rfl, hw⟩ dX2_readSign_25
  · replace hw := hw.2 c1
    refine lv_aload_n hx hb dX2_readSign_11 rfl (lv_at hl 0 rfl) ?_
    refine z_getr (C := RX2) (T := TX2) (N := 4) (ref := "GauntletHall$Scroll") (o := 13) (d := 0) hx hb hts hfX2 hown hK hP (hC.2 (13, 0) (List.mem_of_getElem? (i := 0) rfl)) z_l_13_0 rfl 2 (by decide) (hts (.fieldLink RX2 18 "GauntletHall$Scroll" "letters" "[I") (by decide +kernel)) rfl rfl dX2_readSign_12 ?_
    refine lv_aload_n hx hb dX2_readSign_15 rfl (lv_at hl 0 rfl) ?_
    refine z_geti (C := RX2) (T := TX2) (N := 4) (ref := "GauntletHall$Scroll") (o := 13) (d := 0) hx hb hts hfX2 hown hK hP (hC.2 (13, 0) (List.mem_of_getElem? (i := 0) rfl)) z_l_13_0 rfl 1 (by decide) (hts (.fieldLink RX2 15 "GauntletHall$Scroll" "place" "I") (by decide +kernel)) rfl rfl (z_up_val X 13 h 0 1) dX2_readSign_16 ?_
    obtain ⟨i2, hw⟩ := hw
    refine z_iald (o := 13) (d := 2) hx hb hK hP (hC.2 (13, 2) (List.mem_of_getElem? (i := 1) rfl)) z_l_13_2 i2 (z_up_val X 13 h 2 (z_n (h 0 1))) dX2_readSign_19 ?_
    refine lv_iload_n hx hb dX2_readSign_20 rfl (lv_at hl 1 rfl) ?_
    refine lv_icmp_eq (tgt := 26) hx hb dX2_readSign_21 (by decide) (fun c3 => ?_) (fun c3 => ?_)
    · replace hw := hw.1 c3
      refine lv_aload_n hx hb dX2_readSign_26 rfl (lv_at hl 0 rfl) ?_
      refine lv_dup hx hb dX2_readSign_27 rfl ?_
      refine z_geti (C := RX2) (T := TX2) (N := 4) (ref := "GauntletHall$Scroll") (o := 13) (d := 0) hx hb hts hfX2 hown hK hP (hC.2 (13, 0) (List.mem_of_getElem? (i := 0) rfl)) z_l_13_0 rfl 1 (by decide) (hts (.fieldLink RX2 15 "GauntletHall$Scroll" "place" "I") (by decide +kernel)) rfl rfl (z_up_val X 13 h 0 1) dX2_readSign_28 ?_
      refine lv_iconst (v := (1 : Int32)) hx hb dX2_readSign_31 (by decide) ?_
      refine lv_iadd hx hb dX2_readSign_32 ?_
      obtain ⟨h4, eh4⟩ : ∃ z : z_G, z = z_ss h 0 1 ((h 0 1) + (1 : Int32)) := ⟨_, rfl⟩
      replace hw := hw h4 eh4
      refine z_puti (C := RX2) (T := TX2) (N := 4) (ref := "GauntletHall$Scroll") (o := 13) (d := 0) (X' := z_up X 13 h4) hx hb hts hfX2 tyX2 tyX2_ok nmX2 hown hK hE hP hS (hC.2 (13, 0) (List.mem_of_getElem? (i := 0) rfl)) z_l_13_0 rfl 1 (by decide) (hts (.fieldLink RX2 15 "GauntletHall$Scroll" "place" "I") (by decide +kernel)) rfl rfl (by decide +kernel) rfl (by rw [eh4]; exact z_up_put X 13 h 0 1 _) dX2_readSign_33 (fun H locs hP hS => ?_)
      refine lv_iconst (v := (1 : Int32)) hx hb dX2_readSign_36 (by decide) ?_
      exact z_retz C (Or.inr rfl) hP hS ⟨_, rfl, hw⟩ dX2_readSign_37
    · replace hw := hw.2 c3
      refine lv_iconst (v := (0 : Int32)) hx hb dX2_readSign_24 (by decide) ?_
      exact z_retz C (Or.inl rfl) hP hS ⟨_, rfl, hw⟩ dX2_readSign_25
set_option maxHeartbeats 4000000 in
set_option maxRecDepth 100000 in
theorem m_X2_readNumber_b4_s {p : Program} {l : Launch} {e : Env} {s : State} {m : MethodId} {args : Array Value} {below : List Frame} {meth : Method} {c : Code} {E : z_E} (C : z_Cx p E s m args meth c cX2_readNumber 3 wsX2_readNumber RX2 (some .int)) (hC : z_cls E) (X : z_X) (K : Int32 → z_G → Prop) (L4 : z_G → Int32 → Int32 → Prop) (k4 : ∀ (h : z_G) (x1 : Int32) (x2 : Int32), L4 h x1 x2 → ∀ {H : Heap} {locs : List Loc}, z_P E (z_up X 13 h) H → va_S (z_A E) s.heap H locs → ∀ (ls : Array Slot), lv_has ls 3 [(0, .ref (z_a E 13 0)), (1, .int x1), (2, .int x2)] → W p l e rX2_readNumber s m args below meth c H locs 0 0 (MQ below (va_Qi (fun r X' => ∃ h', X' = z_up X 13 h' ∧ K r h') (fun u t => z_P E u t.heap) (z_A E)) args s 0 0 (z_A E)) (F0 m 4 ls [])) (h : z_G) (x1 : Int32) (x2 : Int32) (hw : v_X2_readNumber_b4_s K L4 h x1 x2) {H : Heap} {locs : List Loc} (hP : z_P E (z_up X 13 h) H) (hS : va_S (z_A E) s.heap H locs) {ls : Array Slot} (hl : lv_has ls 3 [(0, .ref (z_a E 13 0)), (1, .int x1), (2, .int x2)]) : W p l e rX2_readNumber s m args below meth c H locs 0 0 (MQ below (va_Qi (fun r X' => ∃ h', X' = z_up X 13 h' ∧ K r h') (fun u t => z_P E u t.heap) (z_A E)) args s 0 0 (z_A E)) (F0 m 4 ls []) := by
  obtain ⟨hx, hb, hml, hr, hlocks, hown, hts, hK, hE⟩ := id C
  have hfX2 : ∀ w ∈ u_ws RX2 TX2 4, w ∈ wsX2_readNumber := by decide +kernel
  unfold v_X2_readNumber_b4_s at hw
  refine lv_iload_n hx hb dX2_readNumber_4 rfl (lv_at hl 2 rfl) ?_
  refine lv_iconst (v := (2 : Int32)) hx hb dX2_readNumber_5 (by decide) ?_
  refine lv_icmp_ge (tgt := 77) hx hb dX2_readNumber_6 (by decide) (fun c1 => ?_) (fun c1 => ?_)
  · replace hw := hw.1 c1
    refine lv_iload_n hx hb dX2_readNumber_77 rfl (lv_at hl 1 rfl) ?_
    exact z_reti C hP hS ⟨_, rfl, hw⟩ dX2_readNumber_78
  · replace hw := hw.2 c1
    refine lv_aload_n hx hb dX2_readNumber_9 rfl (lv_at hl 0 rfl) ?_
    refine z_geti (C := RX2) (T := TX2) (N := 4) (ref := "GauntletHall$Scroll") (o := 13) (d := 0) hx hb hts hfX2 hown hK hP (hC.2 (13, 0) (List.mem_of_getElem? (i := 0) rfl)) z_l_13_0 rfl 1 (by decide) (hts (.fieldLink RX2 15 "GauntletHall$Scroll" "place" "I") (by decide +kernel)) rfl rfl (z_up_val X 13 h 0 1) dX2_readNumber_10 ?_
    refine lv_aload_n hx hb dX2_readNumber_13 rfl (lv_at hl 0 rfl) ?_
    refine z_geti (C := RX2) (T := TX2) (N := 4) (ref := "GauntletHall$Scroll") (o := 13) (d := 0) hx hb hts hfX2 hown hK hP (hC.2 (13, 0) (List.mem_of_getElem? (i := 0) rfl)) z_l_13_0 rfl 0 (by decide) (hts (.fieldLink RX2 9 "GauntletHall$Scroll" "length" "I") (by decide +kernel)) rfl rfl (z_up_val X 13 h 0 0) dX2_readNumber_14 ?_
    refine lv_icmp_ge (tgt := 77) hx hb dX2_readNumber_17 (by decide) (fun c2 => ?_) (fun c2 => ?_)
    · replace hw := hw.1 c2
      refine lv_iload_n hx hb dX2_readNumber_77 rfl (lv_at hl 1 rfl) ?_
      exact z_reti C hP hS ⟨_, rfl, hw⟩ dX2_readNumber_78
    · replace hw := hw.2 c2
      refine lv_aload_n hx hb dX2_readNumber_20 rfl (lv_at hl 0 rfl) ?_
      refine z_getr (C := RX2) (T := TX2) (N := 4) (ref := "GauntletHall$Scroll") (o := 13) (d := 0) hx hb hts hfX2 hown hK hP (hC.2 (13, 0) (List.mem_of_getElem? (i := 0) rfl)) z_l_13_0 rfl 2 (by decide) (hts (.fieldLink RX2 18 "GauntletHall$Scroll" "letters" "[I") (by decide +kernel)) rfl rfl dX2_readNumber_21 ?_
      refine lv_aload_n hx hb dX2_readNumber_24 rfl (lv_at hl 0 rfl) ?_
      refine z_geti (C := RX2) (T := TX2) (N := 4) (ref := "GauntletHall$Scroll") (o := 13) (d := 0) hx hb hts hfX2 hown hK hP (hC.2 (13, 0) (List.mem_of_getElem? (i := 0) rfl)) z_l_13_0 rfl 1 (by decide) (hts (.fieldLink RX2 15 "GauntletHall$Scroll" "place" "I") (by decide +kernel)) rfl rfl (z_up_val X 13 h 0 1) dX2_readNumber_25 ?_
      obtain ⟨i3, hw⟩ := hw
      refine z_iald (o := 13) (d := 2) hx hb hK hP (hC.2 (13, 2) (List.mem_of_getElem? (i := 1) rfl)) z_l_13_2 i3 (z_up_val X 13 h 2 (z_n (h 0 1))) dX2_readNumber_28 ?_
      refine lv_bipush (v := (48 : Int32)) hx hb dX2_readNumber_29 (by decide) ?_
      refine lv_bipush (v := (57 : Int32)) hx hb dX2_readNumber_31 (by decide) ?_
      refine z_sn (host := "GauntletHall") (rest := []) ⟨hx, hb, hml, hown, hts⟩ (m_X5_within l hE (z_up X 13 h) (h 2 (z_n (h 0 1))) (48 : Int32) (57 : Int32) _ hw) (va_cnB 3 hts gX2_readNumber_X5_within_n49 rfl rfl rfl (hK.2 _ (List.mem_of_getElem? (i := 0) rfl)) (hts (.initialized RX5) (by decide +kernel)) (by decide +kernel) ⟨Nat.le_of_ble_eq_true rfl, Nat.le_of_ble_eq_true rfl⟩) (hts (.static yX5_within) (by decide +kernel)) hK hP hS rfl hl.1 rfl (Nat.le_of_ble_eq_true rfl) dX2_readNumber_33 ⟨Nat.zero_le _, Nat.zero_le _⟩ (fun r4 u H locs hk hP hS => ?_)
      obtain ⟨eu, hw⟩ := hk
      rw [eu] at hP
      refine lv_if_eq (tgt := 77) hx hb dX2_readNumber_36 (by decide) (fun c5 => ?_) (fun c5 => ?_)
      · replace hw := hw.1 c5
        refine lv_iload_n hx hb dX2_readNumber_77 rfl (lv_at hl 1 rfl) ?_
        exact z_reti C hP hS ⟨_, rfl, hw⟩ dX2_readNumber_78
      · replace hw := hw.2 c5
        refine lv_iload_n hx hb dX2_readNumber_39 rfl (lv_at hl 1 rfl) ?_
        refine lv_iconst (v := (0 : Int32)) hx hb dX2_readNumber_40 (by decide) ?_
        refine va_mmax hx hb (hml.trans hl.1.symm) hown (hts (.methodLink RX2 52 Lib.Math.max.name) (by decide +kernel)) (hts (.static Lib.Math.max.name) (by decide +kernel)) (hts (.initialized "java/lang/Math") (by decide +kernel)) (hts (.code Lib.Math.max.name Lib.Math.max.code 2 (some .int)) (by decide +kernel)) (Nat.le_of_ble_eq_true rfl) (Nat.le_of_ble_eq_true rfl) (Nat.zero_le _) (Nat.zero_le _) dX2_readNumber_41 ?_
        refine lv_bipush (v := (10 : Int32)) hx hb dX2_readNumber_44 (by decide) ?_
        refine lv_imul hx hb dX2_readNumber_46 ?_
        refine lv_aload_n hx hb dX2_readNumber_47 rfl (lv_at hl 0 rfl) ?_
        refine z_getr (C := RX2) (T := TX2) (N := 4) (ref := "GauntletHall$Scroll") (o := 13) (d := 0) hx hb hts hfX2 hown hK hP (hC.2 (13, 0) (List.mem_of_getElem? (i := 0) rfl)) z_l_13_0 rfl 2 (by decide) (hts (.fieldLink RX2 18 "GauntletHall$Scroll" "letters" "[I") (by decide +kernel)) rfl rfl dX2_readNumber_48 ?_
        refine lv_aload_n hx hb dX2_readNumber_51 rfl (lv_at hl 0 rfl) ?_
        refine z_geti (C := RX2) (T := TX2) (N := 4) (ref := "GauntletHall$Scroll") (o := 13) (d := 0) hx hb hts hfX2 hown hK hP (hC.2 (13, 0) (List.mem_of_getElem? (i := 0) rfl)) z_l_13_0 rfl 1 (by decide) (hts (.fieldLink RX2 15 "GauntletHall$Scroll" "place" "I") (by decide +kernel)) rfl rfl (z_up_val X 13 h 0 1) dX2_readNumber_52 ?_
        obtain ⟨i6, hw⟩ := hw
        refine z_iald (o := 13) (d := 2) hx hb hK hP (hC.2 (13, 2) (List.mem_of_getElem? (i := 1) rfl)) z_l_13_2 i6 (z_up_val X 13 h 2 (z_n (h 0 1))) dX2_readNumber_55 ?_
        refine lv_iadd hx hb dX2_readNumber_56 ?_
        refine lv_bipush (v := (48 : Int32)) hx hb dX2_readNumber_57 (by decide) ?_
        refine lv_isub hx hb dX2_readNumber_59 ?_
        refine lv_topi (fun y7 ey7 => ?_)
        replace hw := hw y7 ey7
        refine lv_istore_n (lv' := [(1, .int y7), (0, .ref (z_a E 13 0)), (2, .int x2)]) hx hb dX2_readNumber_60 rfl hl (by decide) rfl (fun ls hl => ?_)
        refine lv_aload_n hx hb dX2_readNumber_61 rfl (lv_at hl 1 rfl) ?_
        refine lv_dup hx hb dX2_readNumber_62 rfl ?_
        refine z_geti (C := RX2) (T := TX2) (N := 4) (ref := "GauntletHall$Scroll") (o := 13) (d := 0) hx hb hts hfX2 hown hK hP (hC.2 (13, 0) (List.mem_of_getElem? (i := 0) rfl)) z_l_13_0 rfl 1 (by decide) (hts (.fieldLink RX2 15 "GauntletHall$Scroll" "place" "I") (by decide +kernel)) rfl rfl (z_up_val X 13 h 0 1) dX2_readNumber_63 ?_
        refine lv_iconst (v := (1 : Int32)) hx hb dX2_readNumber_66 (by decide) ?_
        refine lv_iadd hx hb dX2_readNumber_67 ?_
        obtain ⟨h8, eh8⟩ : ∃ z : z_G, z = z_ss h 0 1 ((h 0 1) + (1 : Int32)) := ⟨_, rfl⟩
        replace hw := hw h8 eh8
        refine z_puti (C := RX2) (T := TX2) (N := 4) (ref := "GauntletHall$Scroll") (o := 13) (d := 0) (X' := z_up X 13 h8) hx hb hts hfX2 tyX2 tyX2_ok nmX2 hown hK hE hP hS (hC.2 (13, 0) (List.mem_of_getElem? (i := 0) rfl)) z_l_13_0 rfl 1 (by decide) (hts (.fieldLink RX2 15 "GauntletHall$Scroll" "place" "I") (by decide +kernel)) rfl rfl (by decide +kernel) rfl (by rw [eh8]; exact z_up_put X 13 h 0 1 _) dX2_readNumber_68 (fun H locs hP hS => ?_)
        obtain ⟨y9, ey9⟩ : ∃ z : Int32, z = x2 + (1 : Int32) := ⟨_, rfl⟩
        replace hw := hw y9 ey9
        refine lv_iinc (v := y9) (lv' := [(2, .int y9), (1, .int y7), (0, .ref (z_a E 13 0))]) hx hb dX2_readNumber_71 hl (k := 2) rfl (by rw [ey9]; rfl) (by decide) rfl (fun ls hl => ?_)
        refine lv_goto (tgt := 4) hx hb dX2_readNumber_74 (by decide) ?_
        exact k4 h8 y7 y9 hw hP hS _ (lv_sub hl [2, 1, 0] rfl)
theorem m_X2_readNumber_b4 {p : Program} {l : Launch} {e : Env} {s : State} {m : MethodId} {args : Array Value} {below : List Frame} {meth : Method} {c : Code} {E : z_E} (C : z_Cx p E s m args meth c cX2_readNumber 3 wsX2_readNumber RX2 (some .int)) (hC : z_cls E) (X : z_X) (K : Int32 → z_G → Prop) (h : z_G) (x1 : Int32) (x2 : Int32) (hw : v_X2_readNumber_b4 K h x1 x2) {H : Heap} {locs : List Loc} (hP : z_P E (z_up X 13 h) H) (hS : va_S (z_A E) s.heap H locs) {ls : Array Slot} (hl : lv_has ls 3 [(0, .ref (z_a E 13 0)), (1, .int x1), (2, .int x2)]) : W p l e rX2_readNumber s m args below meth c H locs 0 0 (MQ below (va_Qi (fun r X' => ∃ h', X' = z_up X 13 h' ∧ K r h') (fun u t => z_P E u t.heap) (z_A E)) args s 0 0 (z_A E)) (F0 m 4 ls []) := by
  obtain ⟨n, hw⟩ := hw
  revert hw hP hS hl
  revert h x1 x2 H locs ls
  induction n with
  | zero => intro h x1 x2 H locs ls hP hS hl hw; exact hw.elim
  | succ n ih =>
    intro h x1 x2 H locs ls hP hS hl hw
    exact m_X2_readNumber_b4_s C hC X K (fun h x1 x2 => z_fp (σ := z_G × Int32 × Int32) (fun Lp q => v_X2_readNumber_b4_s K (fun h x1 x2 => Lp (h, x1, x2)) q.1 q.2.1 q.2.2) n (h, x1, x2)) (fun h x1 x2 h9 H locs hP hS ls hl => ih h x1 x2 hP hS hl h9) h x1 x2 hw hP hS hl
set_option maxHeartbeats 4000000 in
set_option maxRecDepth 100000 in
theorem m_X2_readNumber (l : Launch) {E : z_E} (hE : z_ok E) (hC : z_cls E) (X : z_X) (h : z_G) (K : Int32 → z_G → Prop) (hw : v_X2_readNumber h K) : z_CI l E yX2_readNumber wsX2_readNumber rX2_readNumber [.ref (z_a E 13 0)] (z_up X 13 h) (fun r X' => ∃ h', X' = z_up X 13 h' ∧ K r h') := by
  refine z_start (cc := cX2_readNumber) (maxL := 3) (ret := (some .int)) hE (by decide) rfl (Nat.le_of_ble_eq_true rfl) ?_
  intro p e s m below meth c C hP hS ls hl
  have C : z_Cx p E s m _ meth c cX2_readNumber 3 wsX2_readNumber RX2 (some .int) := C
  obtain ⟨hx, hb, hml, hr, hlocks, hown, hts, hK, hE⟩ := id C
  have hl : lv_has ls 3 [(0, .ref (z_a E 13 0))] := hl
  have hfX2 : ∀ w ∈ u_ws RX2 TX2 4, w ∈ wsX2_readNumber := by decide +kernel
  unfold v_X2_readNumber at hw
  refine lv_iconst (v := (-1 : Int32)) hx hb dX2_readNumber_0 (by decide) ?_
  refine lv_istore_n (lv' := [(1, .int (-1 : Int32)), (0, .ref (z_a E 13 0))]) hx hb dX2_readNumber_1 rfl hl (by decide) rfl (fun ls hl => ?_)
  refine lv_iconst (v := (0 : Int32)) hx hb dX2_readNumber_2 (by decide) ?_
  refine lv_istore_n (lv' := [(2, .int (0 : Int32)), (1, .int (-1 : Int32)), (0, .ref (z_a E 13 0))]) hx hb dX2_readNumber_3 rfl hl (by decide) rfl (fun ls hl => ?_)
  exact m_X2_readNumber_b4 C hC X K h (-1 : Int32) (0 : Int32) hw hP hS (lv_sub hl [2, 1, 0] rfl)
set_option maxHeartbeats 4000000 in
set_option maxRecDepth 100000 in
theorem m_X2_readItem_b61 {p : Program} {l : Launch} {e : Env} {s : State} {m : MethodId} {args : Array Value} {below : List Frame} {meth : Method} {c : Code} {E : z_E} (C : z_Cx p E s m args meth c cX2_readItem 4 wsX2_readItem RX2 (some .boolean)) (hC : z_cls E) (o : Nat) (ho : o < 13) (K : Int32 → z_X → Prop) (L24 : z_X → Int32 → Int32 → Prop) (k24 : ∀ (Y : z_X) (x2 : Int32) (x3 : Int32), L24 Y x2 x3 → ∀ {H : Heap} {locs : List Loc}, z_P E Y H → va_S (z_A E) s.heap H locs → ∀ (ls : Array Slot), lv_has ls 4 [(0, .ref (z_a E 13 0)), (1, .ref (z_a E o 0)), (2, .int x2), (3, .int x3)] → W p l e rX2_readItem s m args below meth c H locs 0 0 (MQ below (va_Qi K (fun u t => z_P E u t.heap) (z_A E)) args s 0 0 (z_A E)) (F0 m 24 ls [])) (Y : z_X) (x2 : Int32) (x3 : Int32) (t1 : Int32) (hw : v_X2_readItem_b61 o K L24 Y x2 x3 t1) {H : Heap} {locs : List Loc} (hP : z_P E Y H) (hS : va_S (z_A E) s.heap H locs) {ls : Array Slot} (hl : lv_has ls 4 [(0, .ref (z_a E 13 0)), (1, .ref (z_a E o 0)), (2, .int x2), (3, .int x3)]) : W p l e rX2_readItem s m args below meth c H locs 0 0 (MQ below (va_Qi K (fun u t => z_P E u t.heap) (z_A E)) args s 0 0 (z_A E)) (F0 m 61 ls [.int t1, .ref (z_a E 13 0)]) := by
  obtain ⟨hx, hb, hml, hr, hlocks, hown, hts, hK, hE⟩ := id C
  have hfX2 : ∀ w ∈ u_ws RX2 TX2 4, w ∈ wsX2_readItem := by decide +kernel
  unfold v_X2_readItem_b61 at hw
  have hPc := z_P_self 13 hP
  refine z_vi (C := RX2) (T := TX2) (N := 4) (o := 13) (rest := []) ⟨hx, hb, hml, hown, hts⟩ (m_X2_readSign l hE hC Y (Y 13) t1 _ hw) (cwV 1 hts gX2_readItem_X2_readSign rfl rfl rfl (by decide +kernel) ⟨Nat.le_of_ble_eq_true rfl, Nat.le_of_ble_eq_true rfl⟩) hK hPc hS (hC.2 (13, 0) (List.mem_of_getElem? (i := 0) rfl)) z_l_13_0 rfl rfl hl.1 rfl (Nat.le_of_ble_eq_true rfl) dX2_readItem_61 ⟨Nat.zero_le _, Nat.zero_le _⟩ (fun r27 u H locs hk hP hS => ?_)
  obtain ⟨h28, eu, hw⟩ := hk
  rw [eu] at hP
  obtain ⟨Y29, eY29⟩ : ∃ z : z_X, z = z_up Y 13 h28 := ⟨_, rfl⟩
  replace hw := hw Y29 eY29
  rw [← eY29] at hP
  refine lv_if_ne (tgt := 69) hx hb dX2_readItem_64 (by decide) (fun c30 => ?_) (fun c30 => ?_)
  · replace hw := hw.1 c30
    obtain ⟨y31, ey31⟩ : ∃ z : Int32, z = x3 + (1 : Int32) := ⟨_, rfl⟩
    replace hw := hw y31 ey31
    refine lv_iinc (v := y31) (lv' := [(3, .int y31), (0, .ref (z_a E 13 0)), (1, .ref (z_a E o 0)), (2, .int x2)]) hx hb dX2_readItem_69 hl (k := 3) rfl (by rw [ey31]; rfl) (by decide) rfl (fun ls hl => ?_)
    refine lv_goto (tgt := 24) hx hb dX2_readItem_72 (by decide) ?_
    exact k24 Y29 x2 y31 hw hP hS _ (lv_sub hl [1, 2, 3, 0] rfl)
  · replace hw := hw.2 c30
    refine lv_iconst (v := (0 : Int32)) hx hb dX2_readItem_67 (by decide) ?_
    exact z_retz C (Or.inl rfl) hP hS hw dX2_readItem_68
set_option maxHeartbeats 4000000 in
set_option maxRecDepth 100000 in
theorem m_X2_readItem_b24_s {p : Program} {l : Launch} {e : Env} {s : State} {m : MethodId} {args : Array Value} {below : List Frame} {meth : Method} {c : Code} {E : z_E} (C : z_Cx p E s m args meth c cX2_readItem 4 wsX2_readItem RX2 (some .boolean)) (hC : z_cls E) (o : Nat) (ho : o < 13) (K : Int32 → z_X → Prop) (L24 : z_X → Int32 → Int32 → Prop) (k24 : ∀ (Y : z_X) (x2 : Int32) (x3 : Int32), L24 Y x2 x3 → ∀ {H : Heap} {locs : List Loc}, z_P E Y H → va_S (z_A E) s.heap H locs → ∀ (ls : Array Slot), lv_has ls 4 [(0, .ref (z_a E 13 0)), (1, .ref (z_a E o 0)), (2, .int x2), (3, .int x3)] → W p l e rX2_readItem s m args below meth c H locs 0 0 (MQ below (va_Qi K (fun u t => z_P E u t.heap) (z_A E)) args s 0 0 (z_A E)) (F0 m 24 ls [])) (Y : z_X) (x2 : Int32) (x3 : Int32) (hw : v_X2_readItem_b24_s o K L24 Y x2 x3) {H : Heap} {locs : List Loc} (hP : z_P E Y H) (hS : va_S (z_A E) s.heap H locs) {ls : Array Slot} (hl : lv_has ls 4 [(0, .ref (z_a E 13 0)), (1, .ref (z_a E o 0)), (2, .int x2), (3, .int x3)]) : W p l e rX2_readItem s m args below meth c H locs 0 0 (MQ below (va_Qi K (fun u t => z_P E u t.heap) (z_A E)) args s 0 0 (z_A E)) (F0 m 24 ls []) := by
  obtain ⟨hx, hb, hml, hr, hlocks, hown, hts, hK, hE⟩ := id C
  have hfX2 : ∀ w ∈ u_ws RX2 TX2 4, w ∈ wsX2_readItem := by decide +kernel
  unfold v_X2_readItem_b24_s at hw
  refine lv_iload_n hx hb dX2_readItem_24 rfl (lv_at hl 3 rfl) ?_
  refine lv_iconst (v := (3 : Int32)) hx hb dX2_readItem_25 (by decide) ?_
  refine lv_icmp_ge (tgt := 75) hx hb dX2_readItem_26 (by decide) (fun c5 => ?_) (fun c5 => ?_)
  · replace hw := hw.1 c5
    refine lv_iload_n hx hb dX2_readItem_75 rfl (lv_at hl 2 rfl) ?_
    refine lv_if_eq (tgt := 104) hx hb dX2_readItem_76 (by decide) (fun c6 => ?_) (fun c6 => ?_)
    · replace hw := hw.1 c6
      refine lv_aload_n hx hb dX2_readItem_104 rfl (lv_at hl 1 rfl) ?_
      refine lv_aload_n hx hb dX2_readItem_105 rfl (lv_at hl 0 rfl) ?_
      refine z_getr (C := RX2) (T := TX2) (N := 4) (ref := "GauntletHall$Scroll") (o := 13) (d := 0) hx hb hts hfX2 hown hK hP (hC.2 (13, 0) (List.mem_of_getElem? (i := 0) rfl)) z_l_13_0 rfl 3 (by decide) (hts (.fieldLink RX2 22 "GauntletHall$Scroll" "numbers" "[I") (by decide +kernel)) rfl rfl dX2_readItem_106 ?_
      refine lv_iconst (v := (0 : Int32)) hx hb dX2_readItem_109 (by decide) ?_
      obtain ⟨i7, hw⟩ := hw
      refine z_iald (o := 13) (d := 3) hx hb hK hP (hC.2 (13, 3) (List.mem_of_getElem? (i := 2) rfl)) z_l_13_3 i7 rfl dX2_readItem_110 ?_
      refine lv_aload_n hx hb dX2_readItem_111 rfl (lv_at hl 0 rfl) ?_
      refine z_getr (C := RX2) (T := TX2) (N := 4) (ref := "GauntletHall$Scroll") (o := 13) (d := 0) hx hb hts hfX2 hown hK hP (hC.2 (13, 0) (List.mem_of_getElem? (i := 0) rfl)) z_l_13_0 rfl 3 (by decide) (hts (.fieldLink RX2 22 "GauntletHall$Scroll" "numbers" "[I") (by decide +kernel)) rfl rfl dX2_readItem_112 ?_
      refine lv_iconst (v := (1 : Int32)) hx hb dX2_readItem_115 (by decide) ?_
      obtain ⟨i8, hw⟩ := hw
      refine z_iald (o := 13) (d := 3) hx hb hK hP (hC.2 (13, 3) (List.mem_of_getElem? (i := 2) rfl)) z_l_13_3 i8 rfl dX2_readItem_116 ?_
      refine lv_aload_n hx hb dX2_readItem_117 rfl (lv_at hl 0 rfl) ?_
      refine z_getr (C := RX2) (T := TX2) (N := 4) (ref := "GauntletHall$Scroll") (o := 13) (d := 0) hx hb hts hfX2 hown hK hP (hC.2 (13, 0) (List.mem_of_getElem? (i := 0) rfl)) z_l_13_0 rfl 3 (by decide) (hts (.fieldLink RX2 22 "GauntletHall$Scroll" "numbers" "[I") (by decide +kernel)) rfl rfl dX2_readItem_118 ?_
      refine lv_iconst (v := (2 : Int32)) hx hb dX2_readItem_121 (by decide) ?_
      obtain ⟨i9, hw⟩ := hw
      refine z_iald (o := 13) (d := 3) hx hb hK hP (hC.2 (13, 3) (List.mem_of_getElem? (i := 2) rfl)) z_l_13_3 i9 rfl dX2_readItem_122 ?_
      have hPc := z_P_self o hP
      refine z_vi (C := RX1) (T := TX1) (N := 13) (o := o) (rest := []) ⟨hx, hb, hml, hown, hts⟩ (m_X1_addGlove l hE hC o ho Y (Y o) (Y 13 3 (z_n (0 : Int32))) (Y 13 3 (z_n (1 : Int32))) (Y 13 3 (z_n (2 : Int32))) _ hw) (cwV 3 hts gX2_readItem_X1_addGlove rfl rfl rfl (by decide +kernel) ⟨Nat.le_of_ble_eq_true rfl, Nat.le_of_ble_eq_true rfl⟩) hK hPc hS (hC.1 o ho (o, 0) (List.mem_of_getElem? (i := 0) rfl)) (z_lH_0 (o := o) ho) rfl rfl hl.1 rfl (Nat.le_of_ble_eq_true rfl) dX2_readItem_123 ⟨Nat.zero_le _, Nat.zero_le _⟩ (fun r10 u H locs hk hP hS => ?_)
      obtain ⟨h11, eu, hw⟩ := hk
      rw [eu] at hP
      obtain ⟨Y12, eY12⟩ : ∃ z : z_X, z = z_up Y o h11 := ⟨_, rfl⟩
      replace hw := hw Y12 eY12
      rw [← eY12] at hP
      obtain ⟨hz, hw⟩ := hw
      exact z_retz C hz hP hS hw dX2_readItem_126
    · replace hw := hw.2 c6
      refine lv_aload_n hx hb dX2_readItem_79 rfl (lv_at hl 1 rfl) ?_
      refine lv_aload_n hx hb dX2_readItem_80 rfl (lv_at hl 0 rfl) ?_
      refine z_getr (C := RX2) (T := TX2) (N := 4) (ref := "GauntletHall$Scroll") (o := 13) (d := 0) hx hb hts hfX2 hown hK hP (hC.2 (13, 0) (List.mem_of_getElem? (i := 0) rfl)) z_l_13_0 rfl 3 (by decide) (hts (.fieldLink RX2 22 "GauntletHall$Scroll" "numbers" "[I") (by decide +kernel)) rfl rfl dX2_readItem_81 ?_
      refine lv_iconst (v := (0 : Int32)) hx hb dX2_readItem_84 (by decide) ?_
      obtain ⟨i13, hw⟩ := hw
      refine z_iald (o := 13) (d := 3) hx hb hK hP (hC.2 (13, 3) (List.mem_of_getElem? (i := 2) rfl)) z_l_13_3 i13 rfl dX2_readItem_85 ?_
      refine lv_aload_n hx hb dX2_readItem_86 rfl (lv_at hl 0 rfl) ?_
      refine z_getr (C := RX2) (T := TX2) (N := 4) (ref := "GauntletHall$Scroll") (o := 13) (d := 0) hx hb hts hfX2 hown hK hP (hC.2 (13, 0) (List.mem_of_getElem? (i := 0) rfl)) z_l_13_0 rfl 3 (by decide) (hts (.fieldLink RX2 22 "GauntletHall$Scroll" "numbers" "[I") (by decide +kernel)) rfl rfl dX2_readItem_87 ?_
      refine lv_iconst (v := (1 : Int32)) hx hb dX2_readItem_90 (by decide) ?_
      obtain ⟨i14, hw⟩ := hw
      refine z_iald (o := 13) (d := 3) hx hb hK hP (hC.2 (13, 3) (List.mem_of_getElem? (i := 2) rfl)) z_l_13_3 i14 rfl dX2_readItem_91 ?_
      refine lv_aload_n hx hb dX2_readItem_92 rfl (lv_at hl 0 rfl) ?_
      refine z_getr (C := RX2) (T := TX2) (N := 4) (ref := "GauntletHall$Scroll") (o := 13) (d := 0) hx hb hts hfX2 hown hK hP (hC.2 (13, 0) (List.mem_of_getElem? (i := 0) rfl)) z_l_13_0 rfl 3 (by decide) (hts (.fieldLink RX2 22 "GauntletHall$Scroll" "numbers" "[I") (by decide +kernel)) rfl rfl dX2_readItem_93 ?_
      refine lv_iconst (v := (2 : Int32)) hx hb dX2_readItem_96 (by decide) ?_
      obtain ⟨i15, hw⟩ := hw
      refine z_iald (o := 13) (d := 3) hx hb hK hP (hC.2 (13, 3) (List.mem_of_getElem? (i := 2) rfl)) z_l_13_3 i15 rfl dX2_readItem_97 ?_
      have hPc := z_P_self o hP
      refine z_vi (C := RX1) (T := TX1) (N := 13) (o := o) (rest := []) ⟨hx, hb, hml, hown, hts⟩ (m_X1_addPerson l hE hC o ho Y (Y o) (Y 13 3 (z_n (0 : Int32))) (Y 13 3 (z_n (1 : Int32))) (Y 13 3 (z_n (2 : Int32))) _ hw) (cwV 3 hts gX2_readItem_X1_addPerson rfl rfl rfl (by decide +kernel) ⟨Nat.le_of_ble_eq_true rfl, Nat.le_of_ble_eq_true rfl⟩) hK hPc hS (hC.1 o ho (o, 0) (List.mem_of_getElem? (i := 0) rfl)) (z_lH_0 (o := o) ho) rfl rfl hl.1 rfl (Nat.le_of_ble_eq_true rfl) dX2_readItem_98 ⟨Nat.zero_le _, Nat.zero_le _⟩ (fun r16 u H locs hk hP hS => ?_)
      obtain ⟨h17, eu, hw⟩ := hk
      rw [eu] at hP
      obtain ⟨Y18, eY18⟩ : ∃ z : z_X, z = z_up Y o h17 := ⟨_, rfl⟩
      replace hw := hw Y18 eY18
      rw [← eY18] at hP
      refine lv_goto (tgt := 126) hx hb dX2_readItem_101 (by decide) ?_
      obtain ⟨hz, hw⟩ := hw
      exact z_retz C hz hP hS hw dX2_readItem_126
  · replace hw := hw.2 c5
    refine lv_aload_n hx hb dX2_readItem_29 rfl (lv_at hl 0 rfl) ?_
    refine z_getr (C := RX2) (T := TX2) (N := 4) (ref := "GauntletHall$Scroll") (o := 13) (d := 0) hx hb hts hfX2 hown hK hP (hC.2 (13, 0) (List.mem_of_getElem? (i := 0) rfl)) z_l_13_0 rfl 3 (by decide) (hts (.fieldLink RX2 22 "GauntletHall$Scroll" "numbers" "[I") (by decide +kernel)) rfl rfl dX2_readItem_30 ?_
    refine lv_iload_n hx hb dX2_readItem_33 rfl (lv_at hl 3 rfl) ?_
    refine lv_aload_n hx hb dX2_readItem_34 rfl (lv_at hl 0 rfl) ?_
    have hPc := z_P_self 13 hP
    refine z_vi (C := RX2) (T := TX2) (N := 4) (o := 13) (rest := [.int x3, .ref (z_a E 13 3)]) ⟨hx, hb, hml, hown, hts⟩ (m_X2_readNumber l hE hC Y (Y 13) _ hw) (cwV 0 hts gX2_readItem_X2_readNumber rfl rfl rfl (by decide +kernel) ⟨Nat.le_of_ble_eq_true rfl, Nat.le_of_ble_eq_true rfl⟩) hK hPc hS (hC.2 (13, 0) (List.mem_of_getElem? (i := 0) rfl)) z_l_13_0 rfl rfl hl.1 rfl (Nat.le_of_ble_eq_true rfl) dX2_readItem_35 ⟨Nat.zero_le _, Nat.zero_le _⟩ (fun r19 u H locs hk hP hS => ?_)
    obtain ⟨h20, eu, hw⟩ := hk
    rw [eu] at hP
    obtain ⟨Y21, eY21⟩ : ∃ z : z_X, z = z_up Y 13 h20 := ⟨_, rfl⟩
    replace hw := hw Y21 eY21
    rw [← eY21] at hP
    obtain ⟨i22, hw⟩ := hw
    obtain ⟨Y23, eY23⟩ : ∃ z : z_X, z = z_up Y21 13 (z_ss (Y21 13) 3 (z_n x3) r19) := ⟨_, rfl⟩
    replace hw := hw Y23 eY23
    refine z_iast (o := 13) (d := 3) (X' := Y23) hx hb hK hE hP hS (hC.2 (13, 3) (List.mem_of_getElem? (i := 2) rfl)) z_l_13_3 i22 eY23.symm dX2_readItem_38 (fun H locs hP hS => ?_)
    refine lv_aload_n hx hb dX2_readItem_39 rfl (lv_at hl 0 rfl) ?_
    refine z_getr (C := RX2) (T := TX2) (N := 4) (ref := "GauntletHall$Scroll") (o := 13) (d := 0) hx hb hts hfX2 hown hK hP (hC.2 (13, 0) (List.mem_of_getElem? (i := 0) rfl)) z_l_13_0 rfl 3 (by decide) (hts (.fieldLink RX2 22 "GauntletHall$Scroll" "numbers" "[I") (by decide +kernel)) rfl rfl dX2_readItem_40 ?_
    refine lv_iload_n hx hb dX2_readItem_43 rfl (lv_at hl 3 rfl) ?_
    obtain ⟨i24, hw⟩ := hw
    refine z_iald (o := 13) (d := 3) hx hb hK hP (hC.2 (13, 3) (List.mem_of_getElem? (i := 2) rfl)) z_l_13_3 i24 rfl dX2_readItem_44 ?_
    refine lv_if_lt (tgt := 67) hx hb dX2_readItem_45 (by decide) (fun c25 => ?_) (fun c25 => ?_)
    · replace hw := hw.1 c25
      refine lv_iconst (v := (0 : Int32)) hx hb dX2_readItem_67 (by decide) ?_
      exact z_retz C (Or.inl rfl) hP hS hw dX2_readItem_68
    · replace hw := hw.2 c25
      refine lv_aload_n hx hb dX2_readItem_48 rfl (lv_at hl 0 rfl) ?_
      refine lv_iload_n hx hb dX2_readItem_49 rfl (lv_at hl 3 rfl) ?_
      refine lv_iconst (v := (2 : Int32)) hx hb dX2_readItem_50 (by decide) ?_
      refine lv_icmp_ge (tgt := 59) hx hb dX2_readItem_51 (by decide) (fun c26 => ?_) (fun c26 => ?_)
      · replace hw := hw.1 c26
        refine lv_bipush (v := (59 : Int32)) hx hb dX2_readItem_59 (by decide) ?_
        exact m_X2_readItem_b61 C hC o ho K L24 k24 Y23 x2 x3 (59 : Int32) hw hP hS (lv_sub hl [0, 1, 2, 3] rfl)
      · replace hw := hw.2 c26
        refine lv_bipush (v := (44 : Int32)) hx hb dX2_readItem_54 (by decide) ?_
        refine lv_goto (tgt := 61) hx hb dX2_readItem_56 (by decide) ?_
        exact m_X2_readItem_b61 C hC o ho K L24 k24 Y23 x2 x3 (44 : Int32) hw hP hS (lv_sub hl [0, 1, 2, 3] rfl)
theorem m_X2_readItem_b24 {p : Program} {l : Launch} {e : Env} {s : State} {m : MethodId} {args : Array Value} {below : List Frame} {meth : Method} {c : Code} {E : z_E} (C : z_Cx p E s m args meth c cX2_readItem 4 wsX2_readItem RX2 (some .boolean)) (hC : z_cls E) (o : Nat) (ho : o < 13) (K : Int32 → z_X → Prop) (Y : z_X) (x2 : Int32) (x3 : Int32) (hw : v_X2_readItem_b24 o K Y x2 x3) {H : Heap} {locs : List Loc} (hP : z_P E Y H) (hS : va_S (z_A E) s.heap H locs) {ls : Array Slot} (hl : lv_has ls 4 [(0, .ref (z_a E 13 0)), (1, .ref (z_a E o 0)), (2, .int x2), (3, .int x3)]) : W p l e rX2_readItem s m args below meth c H locs 0 0 (MQ below (va_Qi K (fun u t => z_P E u t.heap) (z_A E)) args s 0 0 (z_A E)) (F0 m 24 ls []) := by
  obtain ⟨n, hw⟩ := hw
  revert hw hP hS hl
  revert Y x2 x3 H locs ls
  induction n with
  | zero => intro Y x2 x3 H locs ls hP hS hl hw; exact hw.elim
  | succ n ih =>
    intro Y x2 x3 H locs ls hP hS hl hw
    exact m_X2_readItem_b24_s C hC o ho K (fun Y x2 x3 => z_fp (σ := z_X × Int32 × Int32) (fun Lp q => v_X2_readItem_b24_s o K (fun Y x2 x3 => Lp (Y, x2, x3)) q.1 q.2.1 q.2.2) n (Y, x2, x3)) (fun Y x2 x3 h9 H locs hP hS ls hl => ih Y x2 x3 hP hS hl h9) Y x2 x3 hw hP hS hl
set_option maxHeartbeats 4000000 in
set_option maxRecDepth 100000 in
theorem m_X2_readItem (l : Launch) {E : z_E} (hE : z_ok E) (hC : z_cls E) (o : Nat) (ho : o < 13) (Y : z_X) (K : Int32 → z_X → Prop) (hw : v_X2_readItem o Y K) : z_CI l E yX2_readItem wsX2_readItem rX2_readItem [.ref (z_a E 13 0), .ref (z_a E o 0)] Y K := by
  refine z_start (cc := cX2_readItem) (maxL := 4) (ret := (some .boolean)) hE (by decide) rfl (Nat.le_of_ble_eq_true rfl) ?_
  intro p e s m below meth c C hP hS ls hl
  have C : z_Cx p E s m _ meth c cX2_readItem 4 wsX2_readItem RX2 (some .boolean) := C
  obtain ⟨hx, hb, hml, hr, hlocks, hown, hts, hK, hE⟩ := id C
  have hl : lv_has ls 4 [(0, .ref (z_a E 13 0)), (1, .ref (z_a E o 0))] := hl
  have hfX2 : ∀ w ∈ u_ws RX2 TX2 4, w ∈ wsX2_readItem := by decide +kernel
  unfold v_X2_readItem at hw
  refine lv_aload_n hx hb dX2_readItem_0 rfl (lv_at hl 0 rfl) ?_
  refine lv_bipush (v := (112 : Int32)) hx hb dX2_readItem_1 (by decide) ?_
  have hPc := z_P_self 13 hP
  refine z_vi (C := RX2) (T := TX2) (N := 4) (o := 13) (rest := []) ⟨hx, hb, hml, hown, hts⟩ (m_X2_readSign l hE hC Y (Y 13) (112 : Int32) _ hw) (cwV 1 hts gX2_readItem_X2_readSign rfl rfl rfl (by decide +kernel) ⟨Nat.le_of_ble_eq_true rfl, Nat.le_of_ble_eq_true rfl⟩) hK hPc hS (hC.2 (13, 0) (List.mem_of_getElem? (i := 0) rfl)) z_l_13_0 rfl rfl hl.1 rfl (Nat.le_of_ble_eq_true rfl) dX2_readItem_3 ⟨Nat.zero_le _, Nat.zero_le _⟩ (fun r1 u H locs hk hP hS => ?_)
  obtain ⟨h2, eu, hw⟩ := hk
  rw [eu] at hP
  obtain ⟨Y3, eY3⟩ : ∃ z : z_X, z = z_up Y 13 h2 := ⟨_, rfl⟩
  replace hw := hw Y3 eY3
  rw [← eY3] at hP
  refine lv_istore_n (lv' := [(2, .int r1), (0, .ref (z_a E 13 0)), (1, .ref (z_a E o 0))]) hx hb dX2_readItem_6 rfl hl (by decide) rfl (fun ls hl => ?_)
  refine lv_iload_n hx hb dX2_readItem_7 rfl (lv_at hl 0 rfl) ?_
  refine lv_if_ne (tgt := 22) hx hb dX2_readItem_8 (by decide) (fun c4 => ?_) (fun c4 => ?_)
  · replace hw := hw.1 c4
    refine lv_iconst (v := (0 : Int32)) hx hb dX2_readItem_22 (by decide) ?_
    refine lv_istore_n (lv' := [(3, .int (0 : Int32)), (2, .int r1), (0, .ref (z_a E 13 0)), (1, .ref (z_a E o 0))]) hx hb dX2_readItem_23 rfl hl (by decide) rfl (fun ls hl => ?_)
    exact m_X2_readItem_b24 C hC o ho K Y3 r1 (0 : Int32) hw hP hS (lv_sub hl [2, 3, 1, 0] rfl)
  · replace hw := hw.2 c4
    refine lv_aload_n hx hb dX2_readItem_11 rfl (lv_at hl 1 rfl) ?_
    refine lv_bipush (v := (103 : Int32)) hx hb dX2_readItem_12 (by decide) ?_
    have hPc := z_P_self 13 hP
    refine z_vi (C := RX2) (T := TX2) (N := 4) (o := 13) (rest := []) ⟨hx, hb, hml, hown, hts⟩ (m_X2_readSign l hE hC Y3 (Y3 13) (103 : Int32) _ hw) (cwV 1 hts gX2_readItem_X2_readSign rfl rfl rfl (by decide +kernel) ⟨Nat.le_of_ble_eq_true rfl, Nat.le_of_ble_eq_true rfl⟩) hK hPc hS (hC.2 (13, 0) (List.mem_of_getElem? (i := 0) rfl)) z_l_13_0 rfl rfl hl.1 rfl (Nat.le_of_ble_eq_true rfl) dX2_readItem_14 ⟨Nat.zero_le _, Nat.zero_le _⟩ (fun r32 u H locs hk hP hS => ?_)
    obtain ⟨h33, eu, hw⟩ := hk
    rw [eu] at hP
    obtain ⟨Y34, eY34⟩ : ∃ z : z_X, z = z_up Y3 13 h33 := ⟨_, rfl⟩
    replace hw := hw Y34 eY34
    rw [← eY34] at hP
    refine lv_if_ne (tgt := 22) hx hb dX2_readItem_17 (by decide) (fun c35 => ?_) (fun c35 => ?_)
    · replace hw := hw.1 c35
      refine lv_iconst (v := (0 : Int32)) hx hb dX2_readItem_22 (by decide) ?_
      refine lv_istore_n (lv' := [(3, .int (0 : Int32)), (2, .int r1), (0, .ref (z_a E 13 0)), (1, .ref (z_a E o 0))]) hx hb dX2_readItem_23 rfl hl (by decide) rfl (fun ls hl => ?_)
      exact m_X2_readItem_b24 C hC o ho K Y34 r1 (0 : Int32) hw hP hS (lv_sub hl [2, 3, 1, 0] rfl)
    · replace hw := hw.2 c35
      refine lv_iconst (v := (0 : Int32)) hx hb dX2_readItem_20 (by decide) ?_
      exact z_retz C (Or.inl rfl) hP hS hw dX2_readItem_21
