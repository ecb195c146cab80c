/-! ===== PRINTED (wip/whole/gen/gen.py): the machine meets each definition: X0.gloveToThrow, X0.goOn, X0.hallBehindDraws, X0.mightBehind, X1.standingAsBits, X0.standingAtLast, X0.whenGone, X1.addPerson, X1.empty, X1.isGlove ===== -/
set_option maxHeartbeats 4000000 in
set_option maxRecDepth 100000 in
theorem m_X0_gloveToThrow_b12_s {p : Program} {l : Launch} {e : Env} {s : State} {m : MethodId} {args : Array Value} {below : List Frame} {meth : Method} {c : Code} {E : z_E} (C : z_Cx p E s m args meth c cX0_gloveToThrow 6 wsX0_gloveToThrow RX0 (some .int)) (hC : z_cls E) (o : Nat) (ho : o < 13) (K : Int32 → z_X → Prop) (L3 : z_X → Int32 → Int32 → Int32 → Prop) (k3 : ∀ (Y : z_X) (x2 : Int32) (x3 : Int32) (x4 : Int32), L3 Y x2 x3 x4 → ∀ {H : Heap} {locs : List Loc}, z_P E Y H → va_S (z_A E) s.heap H locs → ∀ (ls : Array Slot), lv_has ls 6 [(0, .ref (z_a E 17 0)), (1, .ref (z_a E o 0)), (2, .int x2), (3, .int x3), (4, .int x4)] → W p l e rX0_gloveToThrow s m args below meth c H locs 0 0 (MQ below (va_Qi K (fun u t => z_P E u t.heap) (z_A E)) args s 0 0 (z_A E)) (F0 m 3 ls [])) (L12 : z_X → Int32 → Int32 → Int32 → Int32 → Prop) (k12 : ∀ (Y : z_X) (x2 : Int32) (x3 : Int32) (x4 : Int32) (x5 : Int32), L12 Y x2 x3 x4 x5 → ∀ {H : Heap} {locs : List Loc}, z_P E Y H → va_S (z_A E) s.heap H locs → ∀ (ls : Array Slot), lv_has ls 6 [(0, .ref (z_a E 17 0)), (1, .ref (z_a E o 0)), (2, .int x2), (3, .int x3), (4, .int x4), (5, .int x5)] → W p l e rX0_gloveToThrow s m args below meth c H locs 0 0 (MQ below (va_Qi K (fun u t => z_P E u t.heap) (z_A E)) args s 0 0 (z_A E)) (F0 m 12 ls [])) (Y : z_X) (x2 : Int32) (x3 : Int32) (x4 : Int32) (x5 : Int32) (hw : v_X0_gloveToThrow_b12_s o K L3 L12 Y x2 x3 x4 x5) {H : Heap} {locs : List Loc} (hP : z_P E Y H) (hS : va_S (z_A E) s.heap H locs) {ls : Array Slot} (hl : lv_has ls 6 [(0, .ref (z_a E 17 0)), (1, .ref (z_a E o 0)), (2, .int x2), (3, .int x3), (4, .int x4), (5, .int x5)]) : W p l e rX0_gloveToThrow s m args below meth c H locs 0 0 (MQ below (va_Qi K (fun u t => z_P E u t.heap) (z_A E)) args s 0 0 (z_A E)) (F0 m 12 ls []) := by
  obtain ⟨hx, hb, hml, hr, hlocks, hown, hts, hK, hE⟩ := id C
  have hfX1 : ∀ w ∈ u_ws RX1 TX1 13, w ∈ wsX0_gloveToThrow := by decide +kernel
  unfold v_X0_gloveToThrow_b12_s at hw
  refine lv_iload hx hb dX0_gloveToThrow_12 (lv_at hl 5 rfl) ?_
  refine lv_bipush (v := (20 : Int32)) hx hb dX0_gloveToThrow_14 (by decide) ?_
  refine lv_icmp_gt (tgt := 64) hx hb dX0_gloveToThrow_16 (by decide) (fun c2 => ?_) (fun c2 => ?_)
  · replace hw := hw.1 c2
    obtain ⟨y3, ey3⟩ : ∃ z : Int32, z = x4 + (1 : Int32) := ⟨_, rfl⟩
    replace hw := hw y3 ey3
    refine lv_iinc (v := y3) (lv' := [(4, .int y3), (0, .ref (z_a E 17 0)), (1, .ref (z_a E o 0)), (2, .int x2), (3, .int x3), (5, .int x5)]) hx hb dX0_gloveToThrow_64 hl (k := 4) rfl (by rw [ey3]; rfl) (by decide) rfl (fun ls hl => ?_)
    refine lv_goto (tgt := 3) hx hb dX0_gloveToThrow_67 (by decide) ?_
    exact k3 Y x2 x3 y3 hw hP hS _ (lv_sub hl [1, 2, 3, 4, 0] rfl)
  · replace hw := hw.2 c2
    refine lv_iload hx hb dX0_gloveToThrow_19 (lv_at hl 4 rfl) ?_
    refine lv_iload hx hb dX0_gloveToThrow_21 (lv_at hl 5 rfl) ?_
    refine lv_aload_n hx hb dX0_gloveToThrow_23 rfl (lv_at hl 1 rfl) ?_
    refine z_getr (C := RX1) (T := TX1) (N := 13) (ref := "GauntletHall$Hall") (o := o) (d := 0) hx hb hts hfX1 hown hK hP (hC.1 o ho (o, 0) (List.mem_of_getElem? (i := 0) rfl)) (z_lH_0 (o := o) ho) rfl 4 (by decide) (hts (.fieldLink RX0 61 "GauntletHall$Hall" "hand" "[I") (by decide +kernel)) rfl rfl dX0_gloveToThrow_24 ?_
    refine lv_iload_n hx hb dX0_gloveToThrow_27 rfl (lv_at hl 3 rfl) ?_
    obtain ⟨i4, hw⟩ := hw
    refine z_iald (o := o) (d := 4) hx hb hK hP (hC.1 o ho (o, 4) (List.mem_of_getElem? (i := 1) rfl)) (z_lH_4 (o := o) ho) i4 rfl dX0_gloveToThrow_28 ?_
    refine z_si (rest := []) ⟨hx, hb, hml, hown, hts⟩ (m_X0_mayFitInTime l hE Y x4 x5 (Y o 4 (z_n x3)) _ hw) (va_cwS 3 hts gX0_gloveToThrow_X0_mayFitInTime rfl rfl rfl (by decide +kernel) ⟨Nat.le_of_ble_eq_true rfl, Nat.le_of_ble_eq_true rfl⟩) hK hP hS rfl hl.1 rfl (Nat.le_of_ble_eq_true rfl) dX0_gloveToThrow_29 ⟨Nat.zero_le _, Nat.zero_le _⟩ (fun r5 u H locs hk hP hS => ?_)
    obtain ⟨eu, hw⟩ := hk
    rw [eu] at hP
    refine lv_if_eq (tgt := 58) hx hb dX0_gloveToThrow_32 (by decide) (fun c6 => ?_) (fun c6 => ?_)
    · replace hw := hw.1 c6
      obtain ⟨y7, ey7⟩ : ∃ z : Int32, z = x5 + (1 : Int32) := ⟨_, rfl⟩
      replace hw := hw y7 ey7
      refine lv_iinc (v := y7) (lv' := [(5, .int y7), (0, .ref (z_a E 17 0)), (1, .ref (z_a E o 0)), (2, .int x2), (3, .int x3), (4, .int x4)]) hx hb dX0_gloveToThrow_58 hl (k := 5) rfl (by rw [ey7]; rfl) (by decide) rfl (fun ls hl => ?_)
      refine lv_goto (tgt := 12) hx hb dX0_gloveToThrow_61 (by decide) ?_
      exact k12 Y x2 x3 x4 y7 hw hP hS _ (lv_sub hl [1, 2, 3, 4, 5, 0] rfl)
    · replace hw := hw.2 c6
      refine lv_aload_n hx hb dX0_gloveToThrow_35 rfl (lv_at hl 0 rfl) ?_
      refine lv_aload_n hx hb dX0_gloveToThrow_36 rfl (lv_at hl 1 rfl) ?_
      refine lv_iload hx hb dX0_gloveToThrow_37 (lv_at hl 4 rfl) ?_
      refine lv_iload hx hb dX0_gloveToThrow_39 (lv_at hl 5 rfl) ?_
      refine lv_iload_n hx hb dX0_gloveToThrow_41 rfl (lv_at hl 2 rfl) ?_
      refine lv_iload_n hx hb dX0_gloveToThrow_42 rfl (lv_at hl 3 rfl) ?_
      refine z_vi (C := RX0) (T := TX0) (N := 1) (o := 17) (rest := []) ⟨hx, hb, hml, hown, hts⟩ (m_X0_isTakenUp l hE hC o ho Y x4 x5 x2 x3 _ hw) (cwV 5 hts gX0_gloveToThrow_X0_isTakenUp rfl rfl rfl (by decide +kernel) ⟨Nat.le_of_ble_eq_true rfl, Nat.le_of_ble_eq_true rfl⟩) hK hP hS (hC.2 (17, 0) (List.mem_of_getElem? (i := 11) rfl)) z_l_17_0 rfl rfl hl.1 rfl (Nat.le_of_ble_eq_true rfl) dX0_gloveToThrow_43 ⟨Nat.zero_le _, Nat.zero_le _⟩ (fun r8 Y9 H locs hk hP hS => ?_)
      replace hw := hk
      refine lv_if_eq (tgt := 58) hx hb dX0_gloveToThrow_46 (by decide) (fun c10 => ?_) (fun c10 => ?_)
      · replace hw := hw.1 c10
        obtain ⟨y11, ey11⟩ : ∃ z : Int32, z = x5 + (1 : Int32) := ⟨_, rfl⟩
        replace hw := hw y11 ey11
        refine lv_iinc (v := y11) (lv' := [(5, .int y11), (0, .ref (z_a E 17 0)), (1, .ref (z_a E o 0)), (2, .int x2), (3, .int x3), (4, .int x4)]) hx hb dX0_gloveToThrow_58 hl (k := 5) rfl (by rw [ey11]; rfl) (by decide) rfl (fun ls hl => ?_)
        refine lv_goto (tgt := 12) hx hb dX0_gloveToThrow_61 (by decide) ?_
        exact k12 Y9 x2 x3 x4 y11 hw hP hS _ (lv_sub hl [1, 2, 3, 4, 5, 0] rfl)
      · replace hw := hw.2 c10
        refine lv_bipush (v := (100 : Int32)) hx hb dX0_gloveToThrow_49 (by decide) ?_
        refine lv_iload hx hb dX0_gloveToThrow_51 (lv_at hl 4 rfl) ?_
        refine lv_imul hx hb dX0_gloveToThrow_53 ?_
        refine lv_iload hx hb dX0_gloveToThrow_54 (lv_at hl 5 rfl) ?_
        refine lv_iadd hx hb dX0_gloveToThrow_56 ?_
        exact z_reti C hP hS hw dX0_gloveToThrow_57
theorem m_X0_gloveToThrow_b12 {p : Program} {l : Launch} {e : Env} {s : State} {m : MethodId} {args : Array Value} {below : List Frame} {meth : Method} {c : Code} {E : z_E} (C : z_Cx p E s m args meth c cX0_gloveToThrow 6 wsX0_gloveToThrow RX0 (some .int)) (hC : z_cls E) (o : Nat) (ho : o < 13) (K : Int32 → z_X → Prop) (L3 : z_X → Int32 → Int32 → Int32 → Prop) (k3 : ∀ (Y : z_X) (x2 : Int32) (x3 : Int32) (x4 : Int32), L3 Y x2 x3 x4 → ∀ {H : Heap} {locs : List Loc}, z_P E Y H → va_S (z_A E) s.heap H locs → ∀ (ls : Array Slot), lv_has ls 6 [(0, .ref (z_a E 17 0)), (1, .ref (z_a E o 0)), (2, .int x2), (3, .int x3), (4, .int x4)] → W p l e rX0_gloveToThrow s m args below meth c H locs 0 0 (MQ below (va_Qi K (fun u t => z_P E u t.heap) (z_A E)) args s 0 0 (z_A E)) (F0 m 3 ls [])) (Y : z_X) (x2 : Int32) (x3 : Int32) (x4 : Int32) (x5 : Int32) (hw : v_X0_gloveToThrow_b12 o K L3 Y x2 x3 x4 x5) {H : Heap} {locs : List Loc} (hP : z_P E Y H) (hS : va_S (z_A E) s.heap H locs) {ls : Array Slot} (hl : lv_has ls 6 [(0, .ref (z_a E 17 0)), (1, .ref (z_a E o 0)), (2, .int x2), (3, .int x3), (4, .int x4), (5, .int x5)]) : W p l e rX0_gloveToThrow s m args below meth c H locs 0 0 (MQ below (va_Qi K (fun u t => z_P E u t.heap) (z_A E)) args s 0 0 (z_A E)) (F0 m 12 ls []) := by
  obtain ⟨n, hw⟩ := hw
  revert hw hP hS hl
  revert Y x2 x3 x4 x5 H locs ls
  induction n with
  | zero => intro Y x2 x3 x4 x5 H locs ls hP hS hl hw; exact hw.elim
  | succ n ih =>
    intro Y x2 x3 x4 x5 H locs ls hP hS hl hw
    exact m_X0_gloveToThrow_b12_s C hC o ho K L3 k3 (fun Y x2 x3 x4 x5 => z_fp (σ := z_X × Int32 × Int32 × Int32 × Int32) (fun Lp q => v_X0_gloveToThrow_b12_s o K L3 (fun Y x2 x3 x4 x5 => Lp (Y, x2, x3, x4, x5)) q.1 q.2.1 q.2.2.1 q.2.2.2.1 q.2.2.2.2) n (Y, x2, x3, x4, x5)) (fun Y x2 x3 x4 x5 h9 H locs hP hS ls hl => ih Y x2 x3 x4 x5 hP hS hl h9) Y x2 x3 x4 x5 hw hP hS hl
set_option maxHeartbeats 4000000 in
set_option maxRecDepth 100000 in
theorem m_X0_gloveToThrow_b3_s {p : Program} {l : Launch} {e : Env} {s : State} {m : MethodId} {args : Array Value} {below : List Frame} {meth : Method} {c : Code} {E : z_E} (C : z_Cx p E s m args meth c cX0_gloveToThrow 6 wsX0_gloveToThrow RX0 (some .int)) (hC : z_cls E) (o : Nat) (ho : o < 13) (K : Int32 → z_X → Prop) (L3 : z_X → Int32 → Int32 → Int32 → Prop) (k3 : ∀ (Y : z_X) (x2 : Int32) (x3 : Int32) (x4 : Int32), L3 Y x2 x3 x4 → ∀ {H : Heap} {locs : List Loc}, z_P E Y H → va_S (z_A E) s.heap H locs → ∀ (ls : Array Slot), lv_has ls 6 [(0, .ref (z_a E 17 0)), (1, .ref (z_a E o 0)), (2, .int x2), (3, .int x3), (4, .int x4)] → W p l e rX0_gloveToThrow s m args below meth c H locs 0 0 (MQ below (va_Qi K (fun u t => z_P E u t.heap) (z_A E)) args s 0 0 (z_A E)) (F0 m 3 ls [])) (Y : z_X) (x2 : Int32) (x3 : Int32) (x4 : Int32) (hw : v_X0_gloveToThrow_b3_s o K L3 Y x2 x3 x4) {H : Heap} {locs : List Loc} (hP : z_P E Y H) (hS : va_S (z_A E) s.heap H locs) {ls : Array Slot} (hl : lv_has ls 6 [(0, .ref (z_a E 17 0)), (1, .ref (z_a E o 0)), (2, .int x2), (3, .int x3), (4, .int x4)]) : W p l e rX0_gloveToThrow s m args below meth c H locs 0 0 (MQ below (va_Qi K (fun u t => z_P E u t.heap) (z_A E)) args s 0 0 (z_A E)) (F0 m 3 ls []) := by
  obtain ⟨hx, hb, hml, hr, hlocks, hown, hts, hK, hE⟩ := id C
  have hfX1 : ∀ w ∈ u_ws RX1 TX1 13, w ∈ wsX0_gloveToThrow := by decide +kernel
  unfold v_X0_gloveToThrow_b3_s at hw
  refine lv_iload hx hb dX0_gloveToThrow_3 (lv_at hl 4 rfl) ?_
  refine lv_iconst (v := (4 : Int32)) hx hb dX0_gloveToThrow_5 (by decide) ?_
  refine lv_icmp_ge (tgt := 70) hx hb dX0_gloveToThrow_6 (by decide) (fun c1 => ?_) (fun c1 => ?_)
  · replace hw := hw.1 c1
    refine lv_bipush (v := (-4 : Int32)) hx hb dX0_gloveToThrow_70 (by decide) ?_
    exact z_reti C hP hS hw dX0_gloveToThrow_72
  · replace hw := hw.2 c1
    refine lv_iconst (v := (1 : Int32)) hx hb dX0_gloveToThrow_9 (by decide) ?_
    refine lv_istore (lv' := [(5, .int (1 : Int32)), (0, .ref (z_a E 17 0)), (1, .ref (z_a E o 0)), (2, .int x2), (3, .int x3), (4, .int x4)]) hx hb dX0_gloveToThrow_10 hl (by decide) rfl (fun ls hl => ?_)
    exact m_X0_gloveToThrow_b12 C hC o ho K L3 k3 Y x2 x3 x4 (1 : Int32) hw hP hS (lv_sub hl [1, 2, 3, 4, 5, 0] rfl)
theorem m_X0_gloveToThrow_b3 {p : Program} {l : Launch} {e : Env} {s : State} {m : MethodId} {args : Array Value} {below : List Frame} {meth : Method} {c : Code} {E : z_E} (C : z_Cx p E s m args meth c cX0_gloveToThrow 6 wsX0_gloveToThrow RX0 (some .int)) (hC : z_cls E) (o : Nat) (ho : o < 13) (K : Int32 → z_X → Prop) (Y : z_X) (x2 : Int32) (x3 : Int32) (x4 : Int32) (hw : v_X0_gloveToThrow_b3 o K Y x2 x3 x4) {H : Heap} {locs : List Loc} (hP : z_P E Y H) (hS : va_S (z_A E) s.heap H locs) {ls : Array Slot} (hl : lv_has ls 6 [(0, .ref (z_a E 17 0)), (1, .ref (z_a E o 0)), (2, .int x2), (3, .int x3), (4, .int x4)]) : W p l e rX0_gloveToThrow s m args below meth c H locs 0 0 (MQ below (va_Qi K (fun u t => z_P E u t.heap) (z_A E)) args s 0 0 (z_A E)) (F0 m 3 ls []) := by
  obtain ⟨n, hw⟩ := hw
  revert hw hP hS hl
  revert Y x2 x3 x4 H locs ls
  induction n with
  | zero => intro Y x2 x3 x4 H locs ls hP hS hl hw; exact hw.elim
  | succ n ih =>
    intro Y x2 x3 x4 H locs ls hP hS hl hw
    exact m_X0_gloveToThrow_b3_s C hC o ho K (fun Y x2 x3 x4 => z_fp (σ := z_X × Int32 × Int32 × Int32) (fun Lp q => v_X0_gloveToThrow_b3_s o K (fun Y x2 x3 x4 => Lp (Y, x2, x3, x4)) q.1 q.2.1 q.2.2.1 q.2.2.2) n (Y, x2, x3, x4)) (fun Y x2 x3 x4 h9 H locs hP hS ls hl => ih Y x2 x3 x4 hP hS hl h9) Y x2 x3 x4 hw hP hS hl
set_option maxHeartbeats 4000000 in
set_option maxRecDepth 100000 in
theorem m_X0_gloveToThrow (l : Launch) {E : z_E} (hE : z_ok E) (hC : z_cls E) (o : Nat) (ho : o < 13) (Y : z_X) (x2 : Int32) (x3 : Int32) (K : Int32 → z_X → Prop) (hw : v_X0_gloveToThrow o Y x2 x3 K) : z_CI l E yX0_gloveToThrow wsX0_gloveToThrow rX0_gloveToThrow [.ref (z_a E 17 0), .ref (z_a E o 0), .int x2, .int x3] Y K := by
  refine z_start (cc := cX0_gloveToThrow) (maxL := 6) (ret := (some .int)) hE (by decide) rfl (Nat.le_of_ble_eq_true rfl) ?_
  intro p e s m below meth c C hP hS ls hl
  have C : z_Cx p E s m _ meth c cX0_gloveToThrow 6 wsX0_gloveToThrow RX0 (some .int) := C
  obtain ⟨hx, hb, hml, hr, hlocks, hown, hts, hK, hE⟩ := id C
  have hl : lv_has ls 6 [(0, .ref (z_a E 17 0)), (1, .ref (z_a E o 0)), (2, .int x2), (3, .int x3)] := hl
  have hfX1 : ∀ w ∈ u_ws RX1 TX1 13, w ∈ wsX0_gloveToThrow := by decide +kernel
  unfold v_X0_gloveToThrow at hw
  refine lv_iconst (v := (0 : Int32)) hx hb dX0_gloveToThrow_0 (by decide) ?_
  refine lv_istore (lv' := [(4, .int (0 : Int32)), (0, .ref (z_a E 17 0)), (1, .ref (z_a E o 0)), (2, .int x2), (3, .int x3)]) hx hb dX0_gloveToThrow_1 hl (by decide) rfl (fun ls hl => ?_)
  exact m_X0_gloveToThrow_b3 C hC o ho K Y x2 x3 (0 : Int32) hw hP hS (lv_sub hl [1, 2, 3, 4, 0] rfl)
set_option maxHeartbeats 4000000 in
set_option maxRecDepth 100000 in
theorem m_X0_goOn_b4_s {p : Program} {l : Launch} {e : Env} {s : State} {m : MethodId} {args : Array Value} {below : List Frame} {meth : Method} {c : Code} {E : z_E} (C : z_Cx p E s m args meth c cX0_goOn 4 wsX0_goOn RX0 none) (hC : z_cls E) (X : z_X) (K : z_G → Prop) (L4 : z_G → Int32 → Int32 → Int32 → Prop) (k4 : ∀ (h : z_G) (x1 : Int32) (x2 : Int32) (x3 : Int32), L4 h x1 x2 x3 → ∀ {H : Heap} {locs : List Loc}, z_P E (z_up X 2 h) H → va_S (z_A E) s.heap H locs → ∀ (ls : Array Slot), lv_has ls 4 [(0, .ref (z_a E 17 0)), (1, .int x1), (2, .int x2), (3, .int x3)] → W p l e rX0_goOn s m args below meth c H locs 0 0 (MQ below (va_Qv (fun X' => ∃ h', X' = z_up X 2 h' ∧ K h') (fun u t => z_P E u t.heap) (z_A E)) args s 0 0 (z_A E)) (F0 m 4 ls [])) (h : z_G) (x1 : Int32) (x2 : Int32) (x3 : Int32) (hw : v_X0_goOn_b4_s K L4 h x1 x2 x3) {H : Heap} {locs : List Loc} (hP : z_P E (z_up X 2 h) H) (hS : va_S (z_A E) s.heap H locs) {ls : Array Slot} (hl : lv_has ls 4 [(0, .ref (z_a E 17 0)), (1, .int x1), (2, .int x2), (3, .int x3)]) : W p l e rX0_goOn s m args below meth c H locs 0 0 (MQ below (va_Qv (fun X' => ∃ h', X' = z_up X 2 h' ∧ K h') (fun u t => z_P E u t.heap) (z_A E)) args s 0 0 (z_A E)) (F0 m 4 ls []) := by
  obtain ⟨hx, hb, hml, hr, hlocks, hown, hts, hK, hE⟩ := id C
  have hfX0 : ∀ w ∈ u_ws RX0 TX0 1, w ∈ wsX0_goOn := by decide +kernel
  unfold v_X0_goOn_b4_s at hw
  refine lv_iload_n hx hb dX0_goOn_4 rfl (lv_at hl 3 rfl) ?_
  refine lv_iload_n hx hb dX0_goOn_5 rfl (lv_at hl 1 rfl) ?_
  refine lv_icmp_ge (tgt := 27) hx hb dX0_goOn_6 (by decide) (fun c1 => ?_) (fun c1 => ?_)
  · replace hw := hw.1 c1
    exact z_retv C hP hS ⟨_, rfl, hw⟩ dX0_goOn_27
  · replace hw := hw.2 c1
    refine lv_iload_n hx hb dX0_goOn_9 rfl (lv_at hl 2 rfl) ?_
    refine lv_if_eq (tgt := 27) hx hb dX0_goOn_10 (by decide) (fun c2 => ?_) (fun c2 => ?_)
    · replace hw := hw.1 c2
      exact z_retv C hP hS ⟨_, rfl, hw⟩ dX0_goOn_27
    · replace hw := hw.2 c2
      refine lv_aload_n hx hb dX0_goOn_13 rfl (lv_at hl 0 rfl) ?_
      refine z_getr (C := RX0) (T := TX0) (N := 1) (ref := "GauntletHall$Forecast") (o := 17) (d := 0) hx hb hts hfX0 hown hK hP (hC.2 (17, 0) (List.mem_of_getElem? (i := 11) rfl)) z_l_17_0 rfl 0 (by decide) (hts (.fieldLink RX0 12 "GauntletHall$Forecast" "ahead" "LGauntletHall$Hall;") (by decide +kernel)) rfl rfl dX0_goOn_14 ?_
      refine z_vi (C := RX1) (T := TX1) (N := 13) (o := 2) (rest := []) ⟨hx, hb, hml, hown, hts⟩ (m_X1_reignGoesBy l hE hC 2 (by decide) X h _ hw) (cwV 0 hts gX0_goOn_X1_reignGoesBy rfl rfl rfl (by decide +kernel) ⟨Nat.le_of_ble_eq_true rfl, Nat.le_of_ble_eq_true rfl⟩) hK hP hS (hC.1 2 (by decide) (2, 0) (List.mem_of_getElem? (i := 0) rfl)) (z_lH_0 (o := 2) (by decide)) rfl rfl hl.1 rfl (Nat.le_of_ble_eq_true rfl) dX0_goOn_17 ⟨Nat.zero_le _, Nat.zero_le _⟩ (fun r3 u H locs hk hP hS => ?_)
      obtain ⟨h4, eu, hw⟩ := hk
      rw [eu] at hP
      refine lv_istore_n (lv' := [(2, .int r3), (0, .ref (z_a E 17 0)), (1, .int x1), (3, .int x3)]) hx hb dX0_goOn_20 rfl hl (by decide) rfl (fun ls hl => ?_)
      obtain ⟨y5, ey5⟩ : ∃ z : Int32, z = x3 + (1 : Int32) := ⟨_, rfl⟩
      replace hw := hw y5 ey5
      refine lv_iinc (v := y5) (lv' := [(3, .int y5), (2, .int r3), (0, .ref (z_a E 17 0)), (1, .int x1)]) hx hb dX0_goOn_21 hl (k := 3) rfl (by rw [ey5]; rfl) (by decide) rfl (fun ls hl => ?_)
      refine lv_goto (tgt := 4) hx hb dX0_goOn_24 (by decide) ?_
      exact k4 h4 x1 r3 y5 hw hP hS _ (lv_sub hl [2, 3, 1, 0] rfl)
theorem m_X0_goOn_b4 {p : Program} {l : Launch} {e : Env} {s : State} {m : MethodId} {args : Array Value} {below : List Frame} {meth : Method} {c : Code} {E : z_E} (C : z_Cx p E s m args meth c cX0_goOn 4 wsX0_goOn RX0 none) (hC : z_cls E) (X : z_X) (K : z_G → Prop) (h : z_G) (x1 : Int32) (x2 : Int32) (x3 : Int32) (hw : v_X0_goOn_b4 K h x1 x2 x3) {H : Heap} {locs : List Loc} (hP : z_P E (z_up X 2 h) H) (hS : va_S (z_A E) s.heap H locs) {ls : Array Slot} (hl : lv_has ls 4 [(0, .ref (z_a E 17 0)), (1, .int x1), (2, .int x2), (3, .int x3)]) : W p l e rX0_goOn s m args below meth c H locs 0 0 (MQ below (va_Qv (fun X' => ∃ h', X' = z_up X 2 h' ∧ K h') (fun u t => z_P E u t.heap) (z_A E)) args s 0 0 (z_A E)) (F0 m 4 ls []) := by
  obtain ⟨n, hw⟩ := hw
  revert hw hP hS hl
  revert h x1 x2 x3 H locs ls
  induction n with
  | zero => intro h x1 x2 x3 H locs ls hP hS hl hw; exact hw.elim
  | succ n ih =>
    intro h x1 x2 x3 H locs ls hP hS hl hw
    exact m_X0_goOn_b4_s C hC X K (fun h x1 x2 x3 => z_fp (σ := z_G × Int32 × Int32 × Int32) (fun Lp q => v_X0_goOn_b4_s K (fun h x1 x2 x3 => Lp (h, x1, x2, x3)) q.1 q.2.1 q.2.2.1 q.2.2.2) n (h, x1, x2, x3)) (fun h x1 x2 x3 h9 H locs hP hS ls hl => ih h x1 x2 x3 hP hS hl h9) h x1 x2 x3 hw hP hS hl
set_option maxHeartbeats 4000000 in
set_option maxRecDepth 100000 in
theorem m_X0_goOn (l : Launch) {E : z_E} (hE : z_ok E) (hC : z_cls E) (X : z_X) (h : z_G) (x1 : Int32) (K : z_G → Prop) (hw : v_X0_goOn h x1 K) : z_CV l E yX0_goOn wsX0_goOn rX0_goOn [.ref (z_a E 17 0), .int x1] (z_up X 2 h) (fun X' => ∃ h', X' = z_up X 2 h' ∧ K h') := by
  refine z_start (cc := cX0_goOn) (maxL := 4) (ret := none) hE (by decide) rfl (Nat.le_of_ble_eq_true rfl) ?_
  intro p e s m below meth c C hP hS ls hl
  have C : z_Cx p E s m _ meth c cX0_goOn 4 wsX0_goOn RX0 none := C
  obtain ⟨hx, hb, hml, hr, hlocks, hown, hts, hK, hE⟩ := id C
  have hl : lv_has ls 4 [(0, .ref (z_a E 17 0)), (1, .int x1)] := hl
  have hfX0 : ∀ w ∈ u_ws RX0 TX0 1, w ∈ wsX0_goOn := by decide +kernel
  unfold v_X0_goOn at hw
  refine lv_iconst (v := (1 : Int32)) hx hb dX0_goOn_0 (by decide) ?_
  refine lv_istore_n (lv' := [(2, .int (1 : Int32)), (0, .ref (z_a E 17 0)), (1, .int x1)]) hx hb dX0_goOn_1 rfl hl (by decide) rfl (fun ls hl => ?_)
  refine lv_iconst (v := (0 : Int32)) hx hb dX0_goOn_2 (by decide) ?_
  refine lv_istore_n (lv' := [(3, .int (0 : Int32)), (2, .int (1 : Int32)), (0, .ref (z_a E 17 0)), (1, .int x1)]) hx hb dX0_goOn_3 rfl hl (by decide) rfl (fun ls hl => ?_)
  exact m_X0_goOn_b4 C hC X K h x1 (1 : Int32) (0 : Int32) hw hP hS (lv_sub hl [2, 3, 1, 0] rfl)
set_option maxHeartbeats 4000000 in
set_option maxRecDepth 100000 in
theorem m_X0_hallBehindDraws_b11_s {p : Program} {l : Launch} {e : Env} {s : State} {m : MethodId} {args : Array Value} {below : List Frame} {meth : Method} {c : Code} {E : z_E} (C : z_Cx p E s m args meth c cX0_hallBehindDraws 5 wsX0_hallBehindDraws RX0 (some (.object "GauntletHall$Hall"))) (hC : z_cls E) (o : Nat) (ho : o < 13) (K : z_X → Prop) (L11 : z_X → Int32 → Int32 → Int32 → Prop) (k11 : ∀ (Y : z_X) (x2 : Int32) (x3 : Int32) (x4 : Int32), L11 Y x2 x3 x4 → ∀ {H : Heap} {locs : List Loc}, z_P E Y H → va_S (z_A E) s.heap H locs → ∀ (ls : Array Slot), lv_has ls 5 [(0, .ref (z_a E 17 0)), (2, .int x2), (3, .int x3), (4, .int x4)] → W p l e rX0_hallBehindDraws s m args below meth c H locs 0 0 (MQ below (va_Qr K (fun u a t => a = z_a E 2 0 ∧ z_P E u t.heap) (z_A E)) args s 0 0 (z_A E)) (F0 m 11 ls [])) (Y : z_X) (x2 : Int32) (x3 : Int32) (x4 : Int32) (hw : v_X0_hallBehindDraws_b11_s o K L11 Y x2 x3 x4) {H : Heap} {locs : List Loc} (hP : z_P E Y H) (hS : va_S (z_A E) s.heap H locs) {ls : Array Slot} (hl : lv_has ls 5 [(0, .ref (z_a E 17 0)), (2, .int x2), (3, .int x3), (4, .int x4)]) : W p l e rX0_hallBehindDraws s m args below meth c H locs 0 0 (MQ below (va_Qr K (fun u a t => a = z_a E 2 0 ∧ z_P E u t.heap) (z_A E)) args s 0 0 (z_A E)) (F0 m 11 ls []) := by
  obtain ⟨hx, hb, hml, hr, hlocks, hown, hts, hK, hE⟩ := id C
  have hfX0 : ∀ w ∈ u_ws RX0 TX0 1, w ∈ wsX0_hallBehindDraws := by decide +kernel
  unfold v_X0_hallBehindDraws_b11_s at hw
  refine lv_iload hx hb dX0_hallBehindDraws_11 (lv_at hl 3 rfl) ?_
  refine lv_iload_n hx hb dX0_hallBehindDraws_13 rfl (lv_at hl 2 rfl) ?_
  refine lv_icmp_ge (tgt := 38) hx hb dX0_hallBehindDraws_14 (by decide) (fun c2 => ?_) (fun c2 => ?_)
  · replace hw := hw.1 c2
    refine lv_aload_n hx hb dX0_hallBehindDraws_38 rfl (lv_at hl 0 rfl) ?_
    refine z_getr (C := RX0) (T := TX0) (N := 1) (ref := "GauntletHall$Forecast") (o := 17) (d := 0) hx hb hts hfX0 hown hK hP (hC.2 (17, 0) (List.mem_of_getElem? (i := 11) rfl)) z_l_17_0 rfl 0 (by decide) (hts (.fieldLink RX0 12 "GauntletHall$Forecast" "ahead" "LGauntletHall$Hall;") (by decide +kernel)) rfl rfl dX0_hallBehindDraws_39 ?_
    exact z_reta C hP hS hw dX0_hallBehindDraws_42
  · replace hw := hw.2 c2
    refine lv_aload_n hx hb dX0_hallBehindDraws_17 rfl (lv_at hl 0 rfl) ?_
    refine lv_iload_n hx hb dX0_hallBehindDraws_18 rfl (lv_at hl 1 rfl) ?_
    refine lv_iload hx hb dX0_hallBehindDraws_19 (lv_at hl 3 rfl) ?_
    have hPc := z_P_self 2 hP
    refine z_vv (C := RX0) (T := TX0) (N := 1) (o := 17) (rest := []) ⟨hx, hb, hml, hown, hts⟩ (m_X0_actByDraw l hE hC Y (Y 2) x2 x4 _ hw) (cwV 2 hts gX0_hallBehindDraws_X0_actByDraw rfl rfl rfl (by decide +kernel) ⟨Nat.le_of_ble_eq_true rfl, Nat.le_of_ble_eq_true rfl⟩) hK hPc hS (hC.2 (17, 0) (List.mem_of_getElem? (i := 11) rfl)) z_l_17_0 rfl rfl hl.1 rfl (Nat.le_of_ble_eq_true rfl) dX0_hallBehindDraws_21 ⟨Nat.zero_le _, Nat.zero_le _⟩ (fun u H locs hk hP hS => ?_)
    obtain ⟨h3, eu, hw⟩ := hk
    rw [eu] at hP
    obtain ⟨Y4, eY4⟩ : ∃ z : z_X, z = z_up Y 2 h3 := ⟨_, rfl⟩
    replace hw := hw Y4 eY4
    rw [← eY4] at hP
    refine lv_aload_n hx hb dX0_hallBehindDraws_24 rfl (lv_at hl 0 rfl) ?_
    refine z_getr (C := RX0) (T := TX0) (N := 1) (ref := "GauntletHall$Forecast") (o := 17) (d := 0) hx hb hts hfX0 hown hK hP (hC.2 (17, 0) (List.mem_of_getElem? (i := 11) rfl)) z_l_17_0 rfl 0 (by decide) (hts (.fieldLink RX0 12 "GauntletHall$Forecast" "ahead" "LGauntletHall$Hall;") (by decide +kernel)) rfl rfl dX0_hallBehindDraws_25 ?_
    have hPc := z_P_self 2 hP
    refine z_vi (C := RX1) (T := TX1) (N := 13) (o := 2) (rest := []) ⟨hx, hb, hml, hown, hts⟩ (m_X1_reignGoesBy l hE hC 2 (by decide) Y4 (Y4 2) _ hw) (cwV 0 hts gX0_hallBehindDraws_X1_reignGoesBy rfl rfl rfl (by decide +kernel) ⟨Nat.le_of_ble_eq_true rfl, Nat.le_of_ble_eq_true rfl⟩) hK hPc hS (hC.1 2 (by decide) (2, 0) (List.mem_of_getElem? (i := 0) rfl)) (z_lH_0 (o := 2) (by decide)) rfl rfl hl.1 rfl (Nat.le_of_ble_eq_true rfl) dX0_hallBehindDraws_28 ⟨Nat.zero_le _, Nat.zero_le _⟩ (fun r5 u H locs hk hP hS => ?_)
    obtain ⟨h6, eu, hw⟩ := hk
    rw [eu] at hP
    obtain ⟨Y7, eY7⟩ : ∃ z : z_X, z = z_up Y4 2 h6 := ⟨_, rfl⟩
    replace hw := hw Y7 eY7
    rw [← eY7] at hP
    refine lv_pop hx hb dX0_hallBehindDraws_31 rfl ?_
    obtain ⟨y8, ey8⟩ : ∃ z : Int32, z = x4 + (1 : Int32) := ⟨_, rfl⟩
    replace hw := hw y8 ey8
    refine lv_iinc (v := y8) (lv' := [(4, .int y8), (0, .ref (z_a E 17 0)), (2, .int x2), (3, .int x3)]) hx hb dX0_hallBehindDraws_32 hl (k := 3) rfl (by rw [ey8]; rfl) (by decide) rfl (fun ls hl => ?_)
    refine lv_goto (tgt := 11) hx hb dX0_hallBehindDraws_35 (by decide) ?_
    exact k11 Y7 x2 x3 y8 hw hP hS _ (lv_sub hl [1, 2, 3, 0] rfl)
theorem m_X0_hallBehindDraws_b11 {p : Program} {l : Launch} {e : Env} {s : State} {m : MethodId} {args : Array Value} {below : List Frame} {meth : Method} {c : Code} {E : z_E} (C : z_Cx p E s m args meth c cX0_hallBehindDraws 5 wsX0_hallBehindDraws RX0 (some (.object "GauntletHall$Hall"))) (hC : z_cls E) (o : Nat) (ho : o < 13) (K : z_X → Prop) (Y : z_X) (x2 : Int32) (x3 : Int32) (x4 : Int32) (hw : v_X0_hallBehindDraws_b11 o K Y x2 x3 x4) {H : Heap} {locs : List Loc} (hP : z_P E Y H) (hS : va_S (z_A E) s.heap H locs) {ls : Array Slot} (hl : lv_has ls 5 [(0, .ref (z_a E 17 0)), (2, .int x2), (3, .int x3), (4, .int x4)]) : W p l e rX0_hallBehindDraws s m args below meth c H locs 0 0 (MQ below (va_Qr K (fun u a t => a = z_a E 2 0 ∧ z_P E u t.heap) (z_A E)) args s 0 0 (z_A E)) (F0 m 11 ls []) := by
  obtain ⟨n, hw⟩ := hw
  revert hw hP hS hl
  revert Y x2 x3 x4 H locs ls
  induction n with
  | zero => intro Y x2 x3 x4 H locs ls hP hS hl hw; exact hw.elim
  | succ n ih =>
    intro Y x2 x3 x4 H locs ls hP hS hl hw
    exact m_X0_hallBehindDraws_b11_s C hC o ho K (fun Y x2 x3 x4 => z_fp (σ := z_X × Int32 × Int32 × Int32) (fun Lp q => v_X0_hallBehindDraws_b11_s o K (fun Y x2 x3 x4 => Lp (Y, x2, x3, x4)) q.1 q.2.1 q.2.2.1 q.2.2.2) n (Y, x2, x3, x4)) (fun Y x2 x3 x4 h9 H locs hP hS ls hl => ih Y x2 x3 x4 hP hS hl h9) Y x2 x3 x4 hw hP hS hl
set_option maxHeartbeats 4000000 in
set_option maxRecDepth 100000 in
theorem m_X0_hallBehindDraws (l : Launch) {E : z_E} (hE : z_ok E) (hC : z_cls E) (o : Nat) (ho : o < 13) (Y : z_X) (x2 : Int32) (x3 : Int32) (K : z_X → Prop) (hw : v_X0_hallBehindDraws o Y x2 x3 K) : z_CR l E yX0_hallBehindDraws wsX0_hallBehindDraws rX0_hallBehindDraws [.ref (z_a E 17 0), .ref (z_a E o 0), .int x2, .int x3] Y 2 K := by
  refine z_start (cc := cX0_hallBehindDraws) (maxL := 5) (ret := (some (.object "GauntletHall$Hall"))) hE (by decide) rfl (Nat.le_of_ble_eq_true rfl) ?_
  intro p e s m below meth c C hP hS ls hl
  have C : z_Cx p E s m _ meth c cX0_hallBehindDraws 5 wsX0_hallBehindDraws RX0 (some (.object "GauntletHall$Hall")) := C
  obtain ⟨hx, hb, hml, hr, hlocks, hown, hts, hK, hE⟩ := id C
  have hl : lv_has ls 5 [(0, .ref (z_a E 17 0)), (1, .ref (z_a E o 0)), (2, .int x2), (3, .int x3)] := hl
  have hfX0 : ∀ w ∈ u_ws RX0 TX0 1, w ∈ wsX0_hallBehindDraws := by decide +kernel
  unfold v_X0_hallBehindDraws at hw
  refine lv_aload_n hx hb dX0_hallBehindDraws_0 rfl (lv_at hl 0 rfl) ?_
  refine z_getr (C := RX0) (T := TX0) (N := 1) (ref := "GauntletHall$Forecast") (o := 17) (d := 0) hx hb hts hfX0 hown hK hP (hC.2 (17, 0) (List.mem_of_getElem? (i := 11) rfl)) z_l_17_0 rfl 0 (by decide) (hts (.fieldLink RX0 12 "GauntletHall$Forecast" "ahead" "LGauntletHall$Hall;") (by decide +kernel)) rfl rfl dX0_hallBehindDraws_1 ?_
  refine lv_aload_n hx hb dX0_hallBehindDraws_4 rfl (lv_at hl 1 rfl) ?_
  refine z_vv (C := RX1) (T := TX1) (N := 13) (o := 2) (rest := []) ⟨hx, hb, hml, hown, hts⟩ (m_X1_copyFrom l hE hC 2 (by decide) o ho Y _ hw) (cwV 1 hts gX0_hallBehindDraws_X1_copyFrom rfl rfl rfl (by decide +kernel) ⟨Nat.le_of_ble_eq_true rfl, Nat.le_of_ble_eq_true rfl⟩) hK hP hS (hC.1 2 (by decide) (2, 0) (List.mem_of_getElem? (i := 0) rfl)) (z_lH_0 (o := 2) (by decide)) rfl rfl hl.1 rfl (Nat.le_of_ble_eq_true rfl) dX0_hallBehindDraws_5 ⟨Nat.zero_le _, Nat.zero_le _⟩ (fun Y1 H locs hk hP hS => ?_)
  replace hw := hk
  refine lv_iconst (v := (0 : Int32)) hx hb dX0_hallBehindDraws_8 (by decide) ?_
  refine lv_istore (lv' := [(4, .int (0 : Int32)), (0, .ref (z_a E 17 0)), (1, .ref (z_a E o 0)), (2, .int x2), (3, .int x3)]) hx hb dX0_hallBehindDraws_9 hl (by decide) rfl (fun ls hl => ?_)
  exact m_X0_hallBehindDraws_b11 C hC o ho K Y1 x2 x3 (0 : Int32) hw hP hS (lv_sub hl [1, 3, 4, 0] rfl)
set_option maxHeartbeats 4000000 in
set_option maxRecDepth 100000 in
theorem m_X0_mightBehind (l : Launch) {E : z_E} (hE : z_ok E) (hC : z_cls E) (o : Nat) (ho : o < 13) (Y : z_X) (x2 : Int32) (x3 : Int32) (K : Int32 → z_X → Prop) (hw : v_X0_mightBehind o Y x2 x3 K) : z_CI l E yX0_mightBehind wsX0_mightBehind rX0_mightBehind [.ref (z_a E 17 0), .ref (z_a E o 0), .int x2, .int x3] Y K := by
  refine z_start (cc := cX0_mightBehind) (maxL := 4) (ret := (some .int)) hE (by decide) rfl (Nat.le_of_ble_eq_true rfl) ?_
  intro p e s m below meth c C hP hS ls hl
  have C : z_Cx p E s m _ meth c cX0_mightBehind 4 wsX0_mightBehind RX0 (some .int) := C
  obtain ⟨hx, hb, hml, hr, hlocks, hown, hts, hK, hE⟩ := id C
  have hl : lv_has ls 4 [(0, .ref (z_a E 17 0)), (1, .ref (z_a E o 0)), (2, .int x2), (3, .int x3)] := hl
  have hfX0 : ∀ w ∈ u_ws RX0 TX0 1, w ∈ wsX0_mightBehind := by decide +kernel
  have hfX1 : ∀ w ∈ u_ws RX1 TX1 13, w ∈ wsX0_mightBehind := by decide +kernel
  unfold v_X0_mightBehind at hw
  refine lv_aload_n hx hb dX0_mightBehind_0 rfl (lv_at hl 0 rfl) ?_
  refine z_getr (C := RX0) (T := TX0) (N := 1) (ref := "GauntletHall$Forecast") (o := 17) (d := 0) hx hb hts hfX0 hown hK hP (hC.2 (17, 0) (List.mem_of_getElem? (i := 11) rfl)) z_l_17_0 rfl 0 (by decide) (hts (.fieldLink RX0 12 "GauntletHall$Forecast" "ahead" "LGauntletHall$Hall;") (by decide +kernel)) rfl rfl dX0_mightBehind_1 ?_
  refine lv_aload_n hx hb dX0_mightBehind_4 rfl (lv_at hl 1 rfl) ?_
  refine z_vv (C := RX1) (T := TX1) (N := 13) (o := 2) (rest := []) ⟨hx, hb, hml, hown, hts⟩ (m_X1_copyFrom l hE hC 2 (by decide) o ho Y _ hw) (cwV 1 hts gX0_mightBehind_X1_copyFrom rfl rfl rfl (by decide +kernel) ⟨Nat.le_of_ble_eq_true rfl, Nat.le_of_ble_eq_true rfl⟩) hK hP hS (hC.1 2 (by decide) (2, 0) (List.mem_of_getElem? (i := 0) rfl)) (z_lH_0 (o := 2) (by decide)) rfl rfl hl.1 rfl (Nat.le_of_ble_eq_true rfl) dX0_mightBehind_5 ⟨Nat.zero_le _, Nat.zero_le _⟩ (fun Y1 H locs hk hP hS => ?_)
  replace hw := hk
  refine lv_aload_n hx hb dX0_mightBehind_8 rfl (lv_at hl 0 rfl) ?_
  refine lv_iload_n hx hb dX0_mightBehind_9 rfl (lv_at hl 2 rfl) ?_
  have hPc := z_P_self 2 hP
  refine z_vv (C := RX0) (T := TX0) (N := 1) (o := 17) (rest := []) ⟨hx, hb, hml, hown, hts⟩ (m_X0_goOn l hE hC Y1 (Y1 2) x2 _ hw) (cwV 1 hts gX0_mightBehind_X0_goOn rfl rfl rfl (by decide +kernel) ⟨Nat.le_of_ble_eq_true rfl, Nat.le_of_ble_eq_true rfl⟩) hK hPc hS (hC.2 (17, 0) (List.mem_of_getElem? (i := 11) rfl)) z_l_17_0 rfl rfl hl.1 rfl (Nat.le_of_ble_eq_true rfl) dX0_mightBehind_10 ⟨Nat.zero_le _, Nat.zero_le _⟩ (fun u H locs hk hP hS => ?_)
  obtain ⟨h2, eu, hw⟩ := hk
  rw [eu] at hP
  obtain ⟨Y3, eY3⟩ : ∃ z : z_X, z = z_up Y1 2 h2 := ⟨_, rfl⟩
  replace hw := hw Y3 eY3
  rw [← eY3] at hP
  refine lv_aload_n hx hb dX0_mightBehind_13 rfl (lv_at hl 0 rfl) ?_
  refine z_getr (C := RX0) (T := TX0) (N := 1) (ref := "GauntletHall$Forecast") (o := 17) (d := 0) hx hb hts hfX0 hown hK hP (hC.2 (17, 0) (List.mem_of_getElem? (i := 11) rfl)) z_l_17_0 rfl 0 (by decide) (hts (.fieldLink RX0 12 "GauntletHall$Forecast" "ahead" "LGauntletHall$Hall;") (by decide +kernel)) rfl rfl dX0_mightBehind_14 ?_
  refine z_getr (C := RX1) (T := TX1) (N := 13) (ref := "GauntletHall$Hall") (o := 2) (d := 0) hx hb hts hfX1 hown hK hP (hC.1 2 (by decide) (2, 0) (List.mem_of_getElem? (i := 0) rfl)) (z_lH_0 (o := 2) (by decide)) rfl 5 (by decide) (hts (.fieldLink RX0 30 "GauntletHall$Hall" "might" "[I") (by decide +kernel)) rfl rfl dX0_mightBehind_17 ?_
  refine lv_iload_n hx hb dX0_mightBehind_20 rfl (lv_at hl 3 rfl) ?_
  obtain ⟨i4, hw⟩ := hw
  refine z_iald (o := 2) (d := 5) hx hb hK hP (hC.1 2 (by decide) (2, 5) (List.mem_of_getElem? (i := 2) rfl)) (z_lH_5 (o := 2) (by decide)) i4 rfl dX0_mightBehind_21 ?_
  exact z_reti C hP hS hw dX0_mightBehind_22
set_option maxHeartbeats 4000000 in
set_option maxRecDepth 100000 in
theorem m_X1_standingAsBits_b4_s {p : Program} {l : Launch} {e : Env} {s : State} {m : MethodId} {args : Array Value} {below : List Frame} {meth : Method} {c : Code} {E : z_E} (C : z_Cx p E s m args meth c cX1_standingAsBits 3 wsX1_standingAsBits RX1 (some .int)) (hC : z_cls E) (o : Nat) (ho : o < 13) (X : z_X) (h : z_G) (K : Int32 → Prop) (L4 : Int32 → Int32 → Prop) (k4 : ∀ (x1 : Int32) (x2 : Int32), L4 x1 x2 → ∀ {H : Heap} {locs : List Loc}, z_P E (z_up X o h) H → va_S (z_A E) s.heap H locs → ∀ (ls : Array Slot), lv_has ls 3 [(0, .ref (z_a E o 0)), (1, .int x1), (2, .int x2)] → W p l e rX1_standingAsBits s m args below meth c H locs 0 0 (MQ below (va_Qi (fun r X' => X' = (z_up X o h) ∧ K r) (fun u t => z_P E u t.heap) (z_A E)) args s 0 0 (z_A E)) (F0 m 4 ls [])) (x1 : Int32) (x2 : Int32) (hw : v_X1_standingAsBits_b4_s h K L4 x1 x2) {H : Heap} {locs : List Loc} (hP : z_P E (z_up X o h) H) (hS : va_S (z_A E) s.heap H locs) {ls : Array Slot} (hl : lv_has ls 3 [(0, .ref (z_a E o 0)), (1, .int x1), (2, .int x2)]) : W p l e rX1_standingAsBits s m args below meth c H locs 0 0 (MQ below (va_Qi (fun r X' => X' = (z_up X o h) ∧ K r) (fun u t => z_P E u t.heap) (z_A E)) args s 0 0 (z_A E)) (F0 m 4 ls []) := by
  obtain ⟨hx, hb, hml, hr, hlocks, hown, hts, hK, hE⟩ := id C
  have hfX1 : ∀ w ∈ u_ws RX1 TX1 13, w ∈ wsX1_standingAsBits := by decide +kernel
  unfold v_X1_standingAsBits_b4_s at hw
  refine lv_iload_n hx hb dX1_standingAsBits_4 rfl (lv_at hl 2 rfl) ?_
  refine lv_aload_n hx hb dX1_standingAsBits_5 rfl (lv_at hl 0 rfl) ?_
  refine z_geti (C := RX1) (T := TX1) (N := 13) (ref := "GauntletHall$Hall") (o := o) (d := 0) hx hb hts hfX1 hown hK hP (hC.1 o ho (o, 0) (List.mem_of_getElem? (i := 0) rfl)) (z_lH_0 (o := o) ho) rfl 0 (by decide) (hts (.fieldLink RX1 9 "GauntletHall$Hall" "people" "I") (by decide +kernel)) rfl rfl (z_up_val X o h 0 0) dX1_standingAsBits_6 ?_
  refine lv_icmp_ge (tgt := 33) hx hb dX1_standingAsBits_9 (by decide) (fun c1 => ?_) (fun c1 => ?_)
  · replace hw := hw.1 c1
    refine lv_iload_n hx hb dX1_standingAsBits_33 rfl (lv_at hl 1 rfl) ?_
    exact z_reti C hP hS ⟨rfl, hw⟩ dX1_standingAsBits_34
  · replace hw := hw.2 c1
    refine lv_aload_n hx hb dX1_standingAsBits_12 rfl (lv_at hl 0 rfl) ?_
    refine z_getr (C := RX1) (T := TX1) (N := 13) (ref := "GauntletHall$Hall") (o := o) (d := 0) hx hb hts hfX1 hown hK hP (hC.1 o ho (o, 0) (List.mem_of_getElem? (i := 0) rfl)) (z_lH_0 (o := o) ho) rfl 5 (by decide) (hts (.fieldLink RX1 28 "GauntletHall$Hall" "might" "[I") (by decide +kernel)) rfl rfl dX1_standingAsBits_13 ?_
    refine lv_iload_n hx hb dX1_standingAsBits_16 rfl (lv_at hl 2 rfl) ?_
    obtain ⟨i2, hw⟩ := hw
    refine z_iald (o := o) (d := 5) hx hb hK hP (hC.1 o ho (o, 5) (List.mem_of_getElem? (i := 2) rfl)) (z_lH_5 (o := o) ho) i2 (z_up_val X o h 5 (z_n x2)) dX1_standingAsBits_17 ?_
    refine lv_if_le (tgt := 27) hx hb dX1_standingAsBits_18 (by decide) (fun c3 => ?_) (fun c3 => ?_)
    · replace hw := hw.1 c3
      obtain ⟨y4, ey4⟩ : ∃ z : Int32, z = x2 + (1 : Int32) := ⟨_, rfl⟩
      replace hw := hw y4 ey4
      refine lv_iinc (v := y4) (lv' := [(2, .int y4), (0, .ref (z_a E o 0)), (1, .int x1)]) hx hb dX1_standingAsBits_27 hl (k := 2) rfl (by rw [ey4]; rfl) (by decide) rfl (fun ls hl => ?_)
      refine lv_goto (tgt := 4) hx hb dX1_standingAsBits_30 (by decide) ?_
      exact k4 x1 y4 hw hP hS _ (lv_sub hl [1, 2, 0] rfl)
    · replace hw := hw.2 c3
      refine lv_iload_n hx hb dX1_standingAsBits_21 rfl (lv_at hl 1 rfl) ?_
      refine lv_iconst (v := (1 : Int32)) hx hb dX1_standingAsBits_22 (by decide) ?_
      refine lv_iload_n hx hb dX1_standingAsBits_23 rfl (lv_at hl 2 rfl) ?_
      refine lv_ishl hx hb dX1_standingAsBits_24 ?_
      refine lv_ior hx hb dX1_standingAsBits_25 ?_
      refine lv_topi (fun y5 ey5 => ?_)
      replace hw := hw y5 ey5
      refine lv_istore_n (lv' := [(1, .int y5), (0, .ref (z_a E o 0)), (2, .int x2)]) hx hb dX1_standingAsBits_26 rfl hl (by decide) rfl (fun ls hl => ?_)
      obtain ⟨y6, ey6⟩ : ∃ z : Int32, z = x2 + (1 : Int32) := ⟨_, rfl⟩
      replace hw := hw y6 ey6
      refine lv_iinc (v := y6) (lv' := [(2, .int y6), (1, .int y5), (0, .ref (z_a E o 0))]) hx hb dX1_standingAsBits_27 hl (k := 2) rfl (by rw [ey6]; rfl) (by decide) rfl (fun ls hl => ?_)
      refine lv_goto (tgt := 4) hx hb dX1_standingAsBits_30 (by decide) ?_
      exact k4 y5 y6 hw hP hS _ (lv_sub hl [2, 1, 0] rfl)
theorem m_X1_standingAsBits_b4 {p : Program} {l : Launch} {e : Env} {s : State} {m : MethodId} {args : Array Value} {below : List Frame} {meth : Method} {c : Code} {E : z_E} (C : z_Cx p E s m args meth c cX1_standingAsBits 3 wsX1_standingAsBits RX1 (some .int)) (hC : z_cls E) (o : Nat) (ho : o < 13) (X : z_X) (h : z_G) (K : Int32 → Prop) (x1 : Int32) (x2 : Int32) (hw : v_X1_standingAsBits_b4 h K x1 x2) {H : Heap} {locs : List Loc} (hP : z_P E (z_up X o h) H) (hS : va_S (z_A E) s.heap H locs) {ls : Array Slot} (hl : lv_has ls 3 [(0, .ref (z_a E o 0)), (1, .int x1), (2, .int x2)]) : W p l e rX1_standingAsBits s m args below meth c H locs 0 0 (MQ below (va_Qi (fun r X' => X' = (z_up X o h) ∧ K r) (fun u t => z_P E u t.heap) (z_A E)) args s 0 0 (z_A E)) (F0 m 4 ls []) := by
  obtain ⟨n, hw⟩ := hw
  revert hw hP hS hl
  revert x1 x2 H locs ls
  induction n with
  | zero => intro x1 x2 H locs ls hP hS hl hw; exact hw.elim
  | succ n ih =>
    intro x1 x2 H locs ls hP hS hl hw
    exact m_X1_standingAsBits_b4_s C hC o ho X h K (fun x1 x2 => z_fp (σ := Int32 × Int32) (fun Lp q => v_X1_standingAsBits_b4_s h K (fun x1 x2 => Lp (x1, x2)) q.1 q.2) n (x1, x2)) (fun x1 x2 h9 H locs hP hS ls hl => ih x1 x2 hP hS hl h9) x1 x2 hw hP hS hl
set_option maxHeartbeats 4000000 in
set_option maxRecDepth 100000 in
theorem m_X1_standingAsBits (l : Launch) {E : z_E} (hE : z_ok E) (hC : z_cls E) (o : Nat) (ho : o < 13) (X : z_X) (h : z_G) (K : Int32 → Prop) (hw : v_X1_standingAsBits h K) : z_CI l E yX1_standingAsBits wsX1_standingAsBits rX1_standingAsBits [.ref (z_a E o 0)] (z_up X o h) (fun r X' => X' = (z_up X o h) ∧ K r) := by
  refine z_start (cc := cX1_standingAsBits) (maxL := 3) (ret := (some .int)) hE (by decide) rfl (Nat.le_of_ble_eq_true rfl) ?_
  intro p e s m below meth c C hP hS ls hl
  have C : z_Cx p E s m _ meth c cX1_standingAsBits 3 wsX1_standingAsBits RX1 (some .int) := C
  obtain ⟨hx, hb, hml, hr, hlocks, hown, hts, hK, hE⟩ := id C
  have hl : lv_has ls 3 [(0, .ref (z_a E o 0))] := hl
  have hfX1 : ∀ w ∈ u_ws RX1 TX1 13, w ∈ wsX1_standingAsBits := by decide +kernel
  unfold v_X1_standingAsBits at hw
  refine lv_iconst (v := (0 : Int32)) hx hb dX1_standingAsBits_0 (by decide) ?_
  refine lv_istore_n (lv' := [(1, .int (0 : Int32)), (0, .ref (z_a E o 0))]) hx hb dX1_standingAsBits_1 rfl hl (by decide) rfl (fun ls hl => ?_)
  refine lv_iconst (v := (0 : Int32)) hx hb dX1_standingAsBits_2 (by decide) ?_
  refine lv_istore_n (lv' := [(2, .int (0 : Int32)), (1, .int (0 : Int32)), (0, .ref (z_a E o 0))]) hx hb dX1_standingAsBits_3 rfl hl (by decide) rfl (fun ls hl => ?_)
  exact m_X1_standingAsBits_b4 C hC o ho X h K (0 : Int32) (0 : Int32) hw hP hS (lv_sub hl [2, 1, 0] rfl)
set_option maxHeartbeats 4000000 in
set_option maxRecDepth 100000 in
theorem m_X0_standingAtLast (l : Launch) {E : z_E} (hE : z_ok E) (hC : z_cls E) (o : Nat) (ho : o < 13) (Y : z_X) (K : Int32 → z_X → Prop) (hw : v_X0_standingAtLast o Y K) : z_CI l E yX0_standingAtLast wsX0_standingAtLast rX0_standingAtLast [.ref (z_a E 17 0), .ref (z_a E o 0)] Y K := by
  refine z_start (cc := cX0_standingAtLast) (maxL := 2) (ret := (some .int)) hE (by decide) rfl (Nat.le_of_ble_eq_true rfl) ?_
  intro p e s m below meth c C hP hS ls hl
  have C : z_Cx p E s m _ meth c cX0_standingAtLast 2 wsX0_standingAtLast RX0 (some .int) := C
  obtain ⟨hx, hb, hml, hr, hlocks, hown, hts, hK, hE⟩ := id C
  have hl : lv_has ls 2 [(0, .ref (z_a E 17 0)), (1, .ref (z_a E o 0))] := hl
  have hfX0 : ∀ w ∈ u_ws RX0 TX0 1, w ∈ wsX0_standingAtLast := by decide +kernel
  unfold v_X0_standingAtLast at hw
  refine lv_aload_n hx hb dX0_standingAtLast_0 rfl (lv_at hl 0 rfl) ?_
  refine z_getr (C := RX0) (T := TX0) (N := 1) (ref := "GauntletHall$Forecast") (o := 17) (d := 0) hx hb hts hfX0 hown hK hP (hC.2 (17, 0) (List.mem_of_getElem? (i := 11) rfl)) z_l_17_0 rfl 0 (by decide) (hts (.fieldLink RX0 12 "GauntletHall$Forecast" "ahead" "LGauntletHall$Hall;") (by decide +kernel)) rfl rfl dX0_standingAtLast_1 ?_
  refine lv_aload_n hx hb dX0_standingAtLast_4 rfl (lv_at hl 1 rfl) ?_
  refine z_vv (C := RX1) (T := TX1) (N := 13) (o := 2) (rest := []) ⟨hx, hb, hml, hown, hts⟩ (m_X1_copyFrom l hE hC 2 (by decide) o ho Y _ hw) (cwV 1 hts gX0_standingAtLast_X1_copyFrom rfl rfl rfl (by decide +kernel) ⟨Nat.le_of_ble_eq_true rfl, Nat.le_of_ble_eq_true rfl⟩) hK hP hS (hC.1 2 (by decide) (2, 0) (List.mem_of_getElem? (i := 0) rfl)) (z_lH_0 (o := 2) (by decide)) rfl rfl hl.1 rfl (Nat.le_of_ble_eq_true rfl) dX0_standingAtLast_5 ⟨Nat.zero_le _, Nat.zero_le _⟩ (fun Y1 H locs hk hP hS => ?_)
  replace hw := hk
  refine lv_aload_n hx hb dX0_standingAtLast_8 rfl (lv_at hl 0 rfl) ?_
  refine lv_bipush (v := (30 : Int32)) hx hb dX0_standingAtLast_9 (by decide) ?_
  have hPc := z_P_self 2 hP
  refine z_vv (C := RX0) (T := TX0) (N := 1) (o := 17) (rest := []) ⟨hx, hb, hml, hown, hts⟩ (m_X0_goOn l hE hC Y1 (Y1 2) (30 : Int32) _ hw) (cwV 1 hts gX0_standingAtLast_X0_goOn rfl rfl rfl (by decide +kernel) ⟨Nat.le_of_ble_eq_true rfl, Nat.le_of_ble_eq_true rfl⟩) hK hPc hS (hC.2 (17, 0) (List.mem_of_getElem? (i := 11) rfl)) z_l_17_0 rfl rfl hl.1 rfl (Nat.le_of_ble_eq_true rfl) dX0_standingAtLast_11 ⟨Nat.zero_le _, Nat.zero_le _⟩ (fun u H locs hk hP hS => ?_)
  obtain ⟨h2, eu, hw⟩ := hk
  rw [eu] at hP
  obtain ⟨Y3, eY3⟩ : ∃ z : z_X, z = z_up Y1 2 h2 := ⟨_, rfl⟩
  replace hw := hw Y3 eY3
  rw [← eY3] at hP
  refine lv_aload_n hx hb dX0_standingAtLast_14 rfl (lv_at hl 0 rfl) ?_
  refine z_getr (C := RX0) (T := TX0) (N := 1) (ref := "GauntletHall$Forecast") (o := 17) (d := 0) hx hb hts hfX0 hown hK hP (hC.2 (17, 0) (List.mem_of_getElem? (i := 11) rfl)) z_l_17_0 rfl 0 (by decide) (hts (.fieldLink RX0 12 "GauntletHall$Forecast" "ahead" "LGauntletHall$Hall;") (by decide +kernel)) rfl rfl dX0_standingAtLast_15 ?_
  have hPc := z_P_self 2 hP
  refine z_vi (C := RX1) (T := TX1) (N := 13) (o := 2) (rest := []) ⟨hx, hb, hml, hown, hts⟩ (m_X1_standingAsBits l hE hC 2 (by decide) Y3 (Y3 2) _ hw) (cwV 0 hts gX0_standingAtLast_X1_standingAsBits rfl rfl rfl (by decide +kernel) ⟨Nat.le_of_ble_eq_true rfl, Nat.le_of_ble_eq_true rfl⟩) hK hPc hS (hC.1 2 (by decide) (2, 0) (List.mem_of_getElem? (i := 0) rfl)) (z_lH_0 (o := 2) (by decide)) rfl rfl hl.1 rfl (Nat.le_of_ble_eq_true rfl) dX0_standingAtLast_18 ⟨Nat.zero_le _, Nat.zero_le _⟩ (fun r4 u H locs hk hP hS => ?_)
  obtain ⟨eu, hw⟩ := hk
  rw [eu, z_up_self] at hP
  exact z_reti C hP hS hw dX0_standingAtLast_21
set_option maxHeartbeats 4000000 in
set_option maxRecDepth 100000 in
theorem m_X0_whenGone_b13_s {p : Program} {l : Launch} {e : Env} {s : State} {m : MethodId} {args : Array Value} {below : List Frame} {meth : Method} {c : Code} {E : z_E} (C : z_Cx p E s m args meth c cX0_whenGone 5 wsX0_whenGone RX0 (some .int)) (hC : z_cls E) (o : Nat) (ho : o < 13) (K : Int32 → z_X → Prop) (L13 : z_X → Int32 → Int32 → Int32 → Prop) (k13 : ∀ (Y : z_X) (x2 : Int32) (x3 : Int32) (x4 : Int32), L13 Y x2 x3 x4 → ∀ {H : Heap} {locs : List Loc}, z_P E Y H → va_S (z_A E) s.heap H locs → ∀ (ls : Array Slot), lv_has ls 5 [(0, .ref (z_a E 17 0)), (2, .int x2), (3, .int x3), (4, .int x4)] → W p l e rX0_whenGone s m args below meth c H locs 0 0 (MQ below (va_Qi K (fun u t => z_P E u t.heap) (z_A E)) args s 0 0 (z_A E)) (F0 m 13 ls [])) (Y : z_X) (x2 : Int32) (x3 : Int32) (x4 : Int32) (hw : v_X0_whenGone_b13_s o K L13 Y x2 x3 x4) {H : Heap} {locs : List Loc} (hP : z_P E Y H) (hS : va_S (z_A E) s.heap H locs) {ls : Array Slot} (hl : lv_has ls 5 [(0, .ref (z_a E 17 0)), (2, .int x2), (3, .int x3), (4, .int x4)]) : W p l e rX0_whenGone s m args below meth c H locs 0 0 (MQ below (va_Qi K (fun u t => z_P E u t.heap) (z_A E)) args s 0 0 (z_A E)) (F0 m 13 ls []) := by
  obtain ⟨hx, hb, hml, hr, hlocks, hown, hts, hK, hE⟩ := id C
  have hfX0 : ∀ w ∈ u_ws RX0 TX0 1, w ∈ wsX0_whenGone := by decide +kernel
  have hfX1 : ∀ w ∈ u_ws RX1 TX1 13, w ∈ wsX0_whenGone := by decide +kernel
  unfold v_X0_whenGone_b13_s at hw
  refine lv_iload hx hb dX0_whenGone_13 (lv_at hl 3 rfl) ?_
  refine lv_bipush (v := (30 : Int32)) hx hb dX0_whenGone_15 (by decide) ?_
  refine lv_icmp_gt (tgt := 53) hx hb dX0_whenGone_17 (by decide) (fun c2 => ?_) (fun c2 => ?_)
  · replace hw := hw.1 c2
    refine lv_bipush (v := (-4 : Int32)) hx hb dX0_whenGone_53 (by decide) ?_
    exact z_reti C hP hS hw dX0_whenGone_55
  · replace hw := hw.2 c2
    refine lv_iload_n hx hb dX0_whenGone_20 rfl (lv_at hl 2 rfl) ?_
    refine lv_if_eq (tgt := 53) hx hb dX0_whenGone_21 (by decide) (fun c3 => ?_) (fun c3 => ?_)
    · replace hw := hw.1 c3
      refine lv_bipush (v := (-4 : Int32)) hx hb dX0_whenGone_53 (by decide) ?_
      exact z_reti C hP hS hw dX0_whenGone_55
    · replace hw := hw.2 c3
      refine lv_aload_n hx hb dX0_whenGone_24 rfl (lv_at hl 0 rfl) ?_
      refine z_getr (C := RX0) (T := TX0) (N := 1) (ref := "GauntletHall$Forecast") (o := 17) (d := 0) hx hb hts hfX0 hown hK hP (hC.2 (17, 0) (List.mem_of_getElem? (i := 11) rfl)) z_l_17_0 rfl 0 (by decide) (hts (.fieldLink RX0 12 "GauntletHall$Forecast" "ahead" "LGauntletHall$Hall;") (by decide +kernel)) rfl rfl dX0_whenGone_25 ?_
      refine z_getr (C := RX1) (T := TX1) (N := 13) (ref := "GauntletHall$Hall") (o := 2) (d := 0) hx hb hts hfX1 hown hK hP (hC.1 2 (by decide) (2, 0) (List.mem_of_getElem? (i := 0) rfl)) (z_lH_0 (o := 2) (by decide)) rfl 10 (by decide) (hts (.fieldLink RX0 38 "GauntletHall$Hall" "lies" "[I") (by decide +kernel)) rfl rfl dX0_whenGone_28 ?_
      refine lv_iload_n hx hb dX0_whenGone_31 rfl (lv_at hl 1 rfl) ?_
      obtain ⟨i4, hw⟩ := hw
      refine z_iald (o := 2) (d := 10) hx hb hK hP (hC.1 2 (by decide) (2, 10) (List.mem_of_getElem? (i := 7) rfl)) (z_lH_10 (o := 2) (by decide)) i4 rfl dX0_whenGone_32 ?_
      refine lv_if_ne (tgt := 39) hx hb dX0_whenGone_33 (by decide) (fun c5 => ?_) (fun c5 => ?_)
      · replace hw := hw.1 c5
        refine lv_aload_n hx hb dX0_whenGone_39 rfl (lv_at hl 0 rfl) ?_
        refine z_getr (C := RX0) (T := TX0) (N := 1) (ref := "GauntletHall$Forecast") (o := 17) (d := 0) hx hb hts hfX0 hown hK hP (hC.2 (17, 0) (List.mem_of_getElem? (i := 11) rfl)) z_l_17_0 rfl 0 (by decide) (hts (.fieldLink RX0 12 "GauntletHall$Forecast" "ahead" "LGauntletHall$Hall;") (by decide +kernel)) rfl rfl dX0_whenGone_40 ?_
        have hPc := z_P_self 2 hP
        refine z_vi (C := RX1) (T := TX1) (N := 13) (o := 2) (rest := []) ⟨hx, hb, hml, hown, hts⟩ (m_X1_reignGoesBy l hE hC 2 (by decide) Y (Y 2) _ hw) (cwV 0 hts gX0_whenGone_X1_reignGoesBy rfl rfl rfl (by decide +kernel) ⟨Nat.le_of_ble_eq_true rfl, Nat.le_of_ble_eq_true rfl⟩) hK hPc hS (hC.1 2 (by decide) (2, 0) (List.mem_of_getElem? (i := 0) rfl)) (z_lH_0 (o := 2) (by decide)) rfl rfl hl.1 rfl (Nat.le_of_ble_eq_true rfl) dX0_whenGone_43 ⟨Nat.zero_le _, Nat.zero_le _⟩ (fun r6 u H locs hk hP hS => ?_)
        obtain ⟨h7, eu, hw⟩ := hk
        rw [eu] at hP
        obtain ⟨Y8, eY8⟩ : ∃ z : z_X, z = z_up Y 2 h7 := ⟨_, rfl⟩
        replace hw := hw Y8 eY8
        rw [← eY8] at hP
        refine lv_istore_n (lv' := [(3, .int r6), (0, .ref (z_a E 17 0)), (2, .int x2), (4, .int x4)]) hx hb dX0_whenGone_46 rfl hl (by decide) rfl (fun ls hl => ?_)
        obtain ⟨y9, ey9⟩ : ∃ z : Int32, z = x4 + (1 : Int32) := ⟨_, rfl⟩
        replace hw := hw y9 ey9
        refine lv_iinc (v := y9) (lv' := [(4, .int y9), (3, .int r6), (0, .ref (z_a E 17 0)), (2, .int x2)]) hx hb dX0_whenGone_47 hl (k := 3) rfl (by rw [ey9]; rfl) (by decide) rfl (fun ls hl => ?_)
        refine lv_goto (tgt := 13) hx hb dX0_whenGone_50 (by decide) ?_
        exact k13 Y8 x2 r6 y9 hw hP hS _ (lv_sub hl [2, 3, 1, 0] rfl)
      · replace hw := hw.2 c5
        refine lv_iload hx hb dX0_whenGone_36 (lv_at hl 3 rfl) ?_
        exact z_reti C hP hS hw dX0_whenGone_38
theorem m_X0_whenGone_b13 {p : Program} {l : Launch} {e : Env} {s : State} {m : MethodId} {args : Array Value} {below : List Frame} {meth : Method} {c : Code} {E : z_E} (C : z_Cx p E s m args meth c cX0_whenGone 5 wsX0_whenGone RX0 (some .int)) (hC : z_cls E) (o : Nat) (ho : o < 13) (K : Int32 → z_X → Prop) (Y : z_X) (x2 : Int32) (x3 : Int32) (x4 : Int32) (hw : v_X0_whenGone_b13 o K Y x2 x3 x4) {H : Heap} {locs : List Loc} (hP : z_P E Y H) (hS : va_S (z_A E) s.heap H locs) {ls : Array Slot} (hl : lv_has ls 5 [(0, .ref (z_a E 17 0)), (2, .int x2), (3, .int x3), (4, .int x4)]) : W p l e rX0_whenGone s m args below meth c H locs 0 0 (MQ below (va_Qi K (fun u t => z_P E u t.heap) (z_A E)) args s 0 0 (z_A E)) (F0 m 13 ls []) := by
  obtain ⟨n, hw⟩ := hw
  revert hw hP hS hl
  revert Y x2 x3 x4 H locs ls
  induction n with
  | zero => intro Y x2 x3 x4 H locs ls hP hS hl hw; exact hw.elim
  | succ n ih =>
    intro Y x2 x3 x4 H locs ls hP hS hl hw
    exact m_X0_whenGone_b13_s C hC o ho K (fun Y x2 x3 x4 => z_fp (σ := z_X × Int32 × Int32 × Int32) (fun Lp q => v_X0_whenGone_b13_s o K (fun Y x2 x3 x4 => Lp (Y, x2, x3, x4)) q.1 q.2.1 q.2.2.1 q.2.2.2) n (Y, x2, x3, x4)) (fun Y x2 x3 x4 h9 H locs hP hS ls hl => ih Y x2 x3 x4 hP hS hl h9) Y x2 x3 x4 hw hP hS hl
set_option maxHeartbeats 4000000 in
set_option maxRecDepth 100000 in
theorem m_X0_whenGone (l : Launch) {E : z_E} (hE : z_ok E) (hC : z_cls E) (o : Nat) (ho : o < 13) (Y : z_X) (x2 : Int32) (K : Int32 → z_X → Prop) (hw : v_X0_whenGone o Y x2 K) : z_CI l E yX0_whenGone wsX0_whenGone rX0_whenGone [.ref (z_a E 17 0), .ref (z_a E o 0), .int x2] Y K := by
  refine z_start (cc := cX0_whenGone) (maxL := 5) (ret := (some .int)) hE (by decide) rfl (Nat.le_of_ble_eq_true rfl) ?_
  intro p e s m below meth c C hP hS ls hl
  have C : z_Cx p E s m _ meth c cX0_whenGone 5 wsX0_whenGone RX0 (some .int) := C
  obtain ⟨hx, hb, hml, hr, hlocks, hown, hts, hK, hE⟩ := id C
  have hl : lv_has ls 5 [(0, .ref (z_a E 17 0)), (1, .ref (z_a E o 0)), (2, .int x2)] := hl
  have hfX0 : ∀ w ∈ u_ws RX0 TX0 1, w ∈ wsX0_whenGone := by decide +kernel
  have hfX1 : ∀ w ∈ u_ws RX1 TX1 13, w ∈ wsX0_whenGone := by decide +kernel
  unfold v_X0_whenGone at hw
  refine lv_aload_n hx hb dX0_whenGone_0 rfl (lv_at hl 0 rfl) ?_
  refine z_getr (C := RX0) (T := TX0) (N := 1) (ref := "GauntletHall$Forecast") (o := 17) (d := 0) hx hb hts hfX0 hown hK hP (hC.2 (17, 0) (List.mem_of_getElem? (i := 11) rfl)) z_l_17_0 rfl 0 (by decide) (hts (.fieldLink RX0 12 "GauntletHall$Forecast" "ahead" "LGauntletHall$Hall;") (by decide +kernel)) rfl rfl dX0_whenGone_1 ?_
  refine lv_aload_n hx hb dX0_whenGone_4 rfl (lv_at hl 1 rfl) ?_
  refine z_vv (C := RX1) (T := TX1) (N := 13) (o := 2) (rest := []) ⟨hx, hb, hml, hown, hts⟩ (m_X1_copyFrom l hE hC 2 (by decide) o ho Y _ hw) (cwV 1 hts gX0_whenGone_X1_copyFrom rfl rfl rfl (by decide +kernel) ⟨Nat.le_of_ble_eq_true rfl, Nat.le_of_ble_eq_true rfl⟩) hK hP hS (hC.1 2 (by decide) (2, 0) (List.mem_of_getElem? (i := 0) rfl)) (z_lH_0 (o := 2) (by decide)) rfl rfl hl.1 rfl (Nat.le_of_ble_eq_true rfl) dX0_whenGone_5 ⟨Nat.zero_le _, Nat.zero_le _⟩ (fun Y1 H locs hk hP hS => ?_)
  replace hw := hk
  refine lv_iconst (v := (1 : Int32)) hx hb dX0_whenGone_8 (by decide) ?_
  refine lv_istore_n (lv' := [(3, .int (1 : Int32)), (0, .ref (z_a E 17 0)), (1, .ref (z_a E o 0)), (2, .int x2)]) hx hb dX0_whenGone_9 rfl hl (by decide) rfl (fun ls hl => ?_)
  refine lv_iconst (v := (0 : Int32)) hx hb dX0_whenGone_10 (by decide) ?_
  refine lv_istore (lv' := [(4, .int (0 : Int32)), (3, .int (1 : Int32)), (0, .ref (z_a E 17 0)), (1, .ref (z_a E o 0)), (2, .int x2)]) hx hb dX0_whenGone_11 hl (by decide) rfl (fun ls hl => ?_)
  exact m_X0_whenGone_b13 C hC o ho K Y1 x2 (1 : Int32) (0 : Int32) hw hP hS (lv_sub hl [2, 4, 1, 0] rfl)
set_option maxHeartbeats 4000000 in
set_option maxRecDepth 100000 in
theorem m_X1_addPerson (l : Launch) {E : z_E} (hE : z_ok E) (hC : z_cls E) (o : Nat) (ho : o < 13) (X : z_X) (h : z_G) (x1 : Int32) (x2 : Int32) (x3 : Int32) (K : Int32 → z_G → Prop) (hw : v_X1_addPerson h x1 x2 x3 K) : z_CI l E yX1_addPerson wsX1_addPerson rX1_addPerson [.ref (z_a E o 0), .int x1, .int x2, .int x3] (z_up X o h) (fun r X' => ∃ h', X' = z_up X o h' ∧ K r h') := by
  refine z_start (cc := cX1_addPerson) (maxL := 4) (ret := (some .boolean)) hE (by decide) rfl (Nat.le_of_ble_eq_true rfl) ?_
  intro p e s m below meth c C hP hS ls hl
  have C : z_Cx p E s m _ meth c cX1_addPerson 4 wsX1_addPerson RX1 (some .boolean) := C
  obtain ⟨hx, hb, hml, hr, hlocks, hown, hts, hK, hE⟩ := id C
  have hl : lv_has ls 4 [(0, .ref (z_a E o 0)), (1, .int x1), (2, .int x2), (3, .int x3)] := hl
  have hfX1 : ∀ w ∈ u_ws RX1 TX1 13, w ∈ wsX1_addPerson := by decide +kernel
  unfold v_X1_addPerson at hw
  refine lv_aload_n hx hb dX1_addPerson_0 rfl (lv_at hl 0 rfl) ?_
  refine z_geti (C := RX1) (T := TX1) (N := 13) (ref := "GauntletHall$Hall") (o := o) (d := 0) hx hb hts hfX1 hown hK hP (hC.1 o ho (o, 0) (List.mem_of_getElem? (i := 0) rfl)) (z_lH_0 (o := o) ho) rfl 0 (by decide) (hts (.fieldLink RX1 9 "GauntletHall$Hall" "people" "I") (by decide +kernel)) rfl rfl (z_up_val X o h 0 0) dX1_addPerson_1 ?_
  refine lv_bipush (v := (6 : Int32)) hx hb dX1_addPerson_4 (by decide) ?_
  refine lv_icmp_ge (tgt := 38) hx hb dX1_addPerson_6 (by decide) (fun c1 => ?_) (fun c1 => ?_)
  · replace hw := hw.1 c1
    refine lv_iconst (v := (0 : Int32)) hx hb dX1_addPerson_38 (by decide) ?_
    exact z_retz C (Or.inl rfl) hP hS ⟨_, rfl, hw⟩ dX1_addPerson_39
  · replace hw := hw.2 c1
    refine lv_iload_n hx hb dX1_addPerson_9 rfl (lv_at hl 1 rfl) ?_
    refine lv_iconst (v := (1 : Int32)) hx hb dX1_addPerson_10 (by decide) ?_
    refine lv_bipush (v := (20 : Int32)) hx hb dX1_addPerson_11 (by decide) ?_
    refine z_sn (host := "GauntletHall") (rest := []) ⟨hx, hb, hml, hown, hts⟩ (m_X5_within l hE (z_up X o h) x1 (1 : Int32) (20 : Int32) _ hw) (va_cnB 3 hts gX1_addPerson_X5_within_n58 rfl rfl rfl (hK.2 _ (List.mem_of_getElem? (i := 1) rfl)) (hts (.initialized RX5) (by decide +kernel)) (by decide +kernel) ⟨Nat.le_of_ble_eq_true rfl, Nat.le_of_ble_eq_true rfl⟩) (hts (.static yX5_within) (by decide +kernel)) hK hP hS rfl hl.1 rfl (Nat.le_of_ble_eq_true rfl) dX1_addPerson_13 ⟨Nat.zero_le _, Nat.zero_le _⟩ (fun r2 u H locs hk hP hS => ?_)
    obtain ⟨eu, hw⟩ := hk
    rw [eu] at hP
    refine lv_if_eq (tgt := 38) hx hb dX1_addPerson_16 (by decide) (fun c3 => ?_) (fun c3 => ?_)
    · replace hw := hw.1 c3
      refine lv_iconst (v := (0 : Int32)) hx hb dX1_addPerson_38 (by decide) ?_
      exact z_retz C (Or.inl rfl) hP hS ⟨_, rfl, hw⟩ dX1_addPerson_39
    · replace hw := hw.2 c3
      refine lv_iload_n hx hb dX1_addPerson_19 rfl (lv_at hl 2 rfl) ?_
      refine lv_iconst (v := (1 : Int32)) hx hb dX1_addPerson_20 (by decide) ?_
      refine lv_bipush (v := (40 : Int32)) hx hb dX1_addPerson_21 (by decide) ?_
      refine z_sn (host := "GauntletHall") (rest := []) ⟨hx, hb, hml, hown, hts⟩ (m_X5_within l hE (z_up X o h) x2 (1 : Int32) (40 : Int32) _ hw) (va_cnB 3 hts gX1_addPerson_X5_within_n58 rfl rfl rfl (hK.2 _ (List.mem_of_getElem? (i := 1) rfl)) (hts (.initialized RX5) (by decide +kernel)) (by decide +kernel) ⟨Nat.le_of_ble_eq_true rfl, Nat.le_of_ble_eq_true rfl⟩) (hts (.static yX5_within) (by decide +kernel)) hK hP hS rfl hl.1 rfl (Nat.le_of_ble_eq_true rfl) dX1_addPerson_23 ⟨Nat.zero_le _, Nat.zero_le _⟩ (fun r4 u H locs hk hP hS => ?_)
      obtain ⟨eu, hw⟩ := hk
      rw [eu] at hP
      refine lv_if_eq (tgt := 38) hx hb dX1_addPerson_26 (by decide) (fun c5 => ?_) (fun c5 => ?_)
      · replace hw := hw.1 c5
        refine lv_iconst (v := (0 : Int32)) hx hb dX1_addPerson_38 (by decide) ?_
        exact z_retz C (Or.inl rfl) hP hS ⟨_, rfl, hw⟩ dX1_addPerson_39
      · replace hw := hw.2 c5
        refine lv_iload_n hx hb dX1_addPerson_29 rfl (lv_at hl 3 rfl) ?_
        refine lv_iconst (v := (0 : Int32)) hx hb dX1_addPerson_30 (by decide) ?_
        refine lv_iconst (v := (1 : Int32)) hx hb dX1_addPerson_31 (by decide) ?_
        refine z_sn (host := "GauntletHall") (rest := []) ⟨hx, hb, hml, hown, hts⟩ (m_X5_within l hE (z_up X o h) x3 (0 : Int32) (1 : Int32) _ hw) (va_cnB 3 hts gX1_addPerson_X5_within_n58 rfl rfl rfl (hK.2 _ (List.mem_of_getElem? (i := 1) rfl)) (hts (.initialized RX5) (by decide +kernel)) (by decide +kernel) ⟨Nat.le_of_ble_eq_true rfl, Nat.le_of_ble_eq_true rfl⟩) (hts (.static yX5_within) (by decide +kernel)) hK hP hS rfl hl.1 rfl (Nat.le_of_ble_eq_true rfl) dX1_addPerson_32 ⟨Nat.zero_le _, Nat.zero_le _⟩ (fun r6 u H locs hk hP hS => ?_)
        obtain ⟨eu, hw⟩ := hk
        rw [eu] at hP
        refine lv_if_ne (tgt := 40) hx hb dX1_addPerson_35 (by decide) (fun c7 => ?_) (fun c7 => ?_)
        · replace hw := hw.1 c7
          refine lv_aload_n hx hb dX1_addPerson_40 rfl (lv_at hl 0 rfl) ?_
          refine z_getr (C := RX1) (T := TX1) (N := 13) (ref := "GauntletHall$Hall") (o := o) (d := 0) hx hb hts hfX1 hown hK hP (hC.1 o ho (o, 0) (List.mem_of_getElem? (i := 0) rfl)) (z_lH_0 (o := o) ho) rfl 4 (by decide) (hts (.fieldLink RX1 24 "GauntletHall$Hall" "hand" "[I") (by decide +kernel)) rfl rfl dX1_addPerson_41 ?_
          refine lv_aload_n hx hb dX1_addPerson_44 rfl (lv_at hl 0 rfl) ?_
          refine z_geti (C := RX1) (T := TX1) (N := 13) (ref := "GauntletHall$Hall") (o := o) (d := 0) hx hb hts hfX1 hown hK hP (hC.1 o ho (o, 0) (List.mem_of_getElem? (i := 0) rfl)) (z_lH_0 (o := o) ho) rfl 0 (by decide) (hts (.fieldLink RX1 9 "GauntletHall$Hall" "people" "I") (by decide +kernel)) rfl rfl (z_up_val X o h 0 0) dX1_addPerson_45 ?_
          refine lv_iload_n hx hb dX1_addPerson_48 rfl (lv_at hl 1 rfl) ?_
          obtain ⟨i8, hw⟩ := hw
          obtain ⟨h9, eh9⟩ : ∃ z : z_G, z = z_ss h 4 (z_n (h 0 0)) x1 := ⟨_, rfl⟩
          replace hw := hw h9 eh9
          refine z_iast (o := o) (d := 4) (X' := z_up X o h9) hx hb hK hE hP hS (hC.1 o ho (o, 4) (List.mem_of_getElem? (i := 1) rfl)) (z_lH_4 (o := o) ho) i8 (by rw [eh9]; exact z_up_put X o h 4 (z_n (h 0 0)) _) dX1_addPerson_49 (fun H locs hP hS => ?_)
          refine lv_aload_n hx hb dX1_addPerson_50 rfl (lv_at hl 0 rfl) ?_
          refine z_getr (C := RX1) (T := TX1) (N := 13) (ref := "GauntletHall$Hall") (o := o) (d := 0) hx hb hts hfX1 hown hK hP (hC.1 o ho (o, 0) (List.mem_of_getElem? (i := 0) rfl)) (z_lH_0 (o := o) ho) rfl 5 (by decide) (hts (.fieldLink RX1 28 "GauntletHall$Hall" "might" "[I") (by decide +kernel)) rfl rfl dX1_addPerson_51 ?_
          refine lv_aload_n hx hb dX1_addPerson_54 rfl (lv_at hl 0 rfl) ?_
          refine z_geti (C := RX1) (T := TX1) (N := 13) (ref := "GauntletHall$Hall") (o := o) (d := 0) hx hb hts hfX1 hown hK hP (hC.1 o ho (o, 0) (List.mem_of_getElem? (i := 0) rfl)) (z_lH_0 (o := o) ho) rfl 0 (by decide) (hts (.fieldLink RX1 9 "GauntletHall$Hall" "people" "I") (by decide +kernel)) rfl rfl (z_up_val X o h9 0 0) dX1_addPerson_55 ?_
          refine lv_iload_n hx hb dX1_addPerson_58 rfl (lv_at hl 2 rfl) ?_
          obtain ⟨i10, hw⟩ := hw
          obtain ⟨h11, eh11⟩ : ∃ z : z_G, z = z_ss h9 5 (z_n (h9 0 0)) x2 := ⟨_, rfl⟩
          replace hw := hw h11 eh11
          refine z_iast (o := o) (d := 5) (X' := z_up X o h11) hx hb hK hE hP hS (hC.1 o ho (o, 5) (List.mem_of_getElem? (i := 2) rfl)) (z_lH_5 (o := o) ho) i10 (by rw [eh11]; exact z_up_put X o h9 5 (z_n (h9 0 0)) _) dX1_addPerson_59 (fun H locs hP hS => ?_)
          refine lv_aload_n hx hb dX1_addPerson_60 rfl (lv_at hl 0 rfl) ?_
          refine z_getr (C := RX1) (T := TX1) (N := 13) (ref := "GauntletHall$Hall") (o := o) (d := 0) hx hb hts hfX1 hown hK hP (hC.1 o ho (o, 0) (List.mem_of_getElem? (i := 0) rfl)) (z_lH_0 (o := o) ho) rfl 6 (by decide) (hts (.fieldLink RX1 31 "GauntletHall$Hall" "stoops" "[I") (by decide +kernel)) rfl rfl dX1_addPerson_61 ?_
          refine lv_aload_n hx hb dX1_addPerson_64 rfl (lv_at hl 0 rfl) ?_
          refine z_geti (C := RX1) (T := TX1) (N := 13) (ref := "GauntletHall$Hall") (o := o) (d := 0) hx hb hts hfX1 hown hK hP (hC.1 o ho (o, 0) (List.mem_of_getElem? (i := 0) rfl)) (z_lH_0 (o := o) ho) rfl 0 (by decide) (hts (.fieldLink RX1 9 "GauntletHall$Hall" "people" "I") (by decide +kernel)) rfl rfl (z_up_val X o h11 0 0) dX1_addPerson_65 ?_
          refine lv_iload_n hx hb dX1_addPerson_68 rfl (lv_at hl 3 rfl) ?_
          obtain ⟨i12, hw⟩ := hw
          obtain ⟨h13, eh13⟩ : ∃ z : z_G, z = z_ss h11 6 (z_n (h11 0 0)) x3 := ⟨_, rfl⟩
          replace hw := hw h13 eh13
          refine z_iast (o := o) (d := 6) (X' := z_up X o h13) hx hb hK hE hP hS (hC.1 o ho (o, 6) (List.mem_of_getElem? (i := 3) rfl)) (z_lH_6 (o := o) ho) i12 (by rw [eh13]; exact z_up_put X o h11 6 (z_n (h11 0 0)) _) dX1_addPerson_69 (fun H locs hP hS => ?_)
          refine lv_aload_n hx hb dX1_addPerson_70 rfl (lv_at hl 0 rfl) ?_
          refine lv_dup hx hb dX1_addPerson_71 rfl ?_
          refine z_geti (C := RX1) (T := TX1) (N := 13) (ref := "GauntletHall$Hall") (o := o) (d := 0) hx hb hts hfX1 hown hK hP (hC.1 o ho (o, 0) (List.mem_of_getElem? (i := 0) rfl)) (z_lH_0 (o := o) ho) rfl 0 (by decide) (hts (.fieldLink RX1 9 "GauntletHall$Hall" "people" "I") (by decide +kernel)) rfl rfl (z_up_val X o h13 0 0) dX1_addPerson_72 ?_
          refine lv_iconst (v := (1 : Int32)) hx hb dX1_addPerson_75 (by decide) ?_
          refine lv_iadd hx hb dX1_addPerson_76 ?_
          obtain ⟨h14, eh14⟩ : ∃ z : z_G, z = z_ss h13 0 0 ((h13 0 0) + (1 : Int32)) := ⟨_, rfl⟩
          replace hw := hw h14 eh14
          refine z_puti (C := RX1) (T := TX1) (N := 13) (ref := "GauntletHall$Hall") (o := o) (d := 0) (X' := z_up X o h14) hx hb hts hfX1 tyX1 tyX1_ok nmX1 hown hK hE hP hS (hC.1 o ho (o, 0) (List.mem_of_getElem? (i := 0) rfl)) (z_lH_0 (o := o) ho) rfl 0 (by decide) (hts (.fieldLink RX1 9 "GauntletHall$Hall" "people" "I") (by decide +kernel)) rfl rfl (by decide +kernel) rfl (by rw [eh14]; exact z_up_put X o h13 0 0 _) dX1_addPerson_77 (fun H locs hP hS => ?_)
          refine lv_iconst (v := (1 : Int32)) hx hb dX1_addPerson_80 (by decide) ?_
          exact z_retz C (Or.inr rfl) hP hS ⟨_, rfl, hw⟩ dX1_addPerson_81
        · replace hw := hw.2 c7
          refine lv_iconst (v := (0 : Int32)) hx hb dX1_addPerson_38 (by decide) ?_
          exact z_retz C (Or.inl rfl) hP hS ⟨_, rfl, hw⟩ dX1_addPerson_39
set_option maxHeartbeats 4000000 in
set_option maxRecDepth 100000 in
theorem m_X1_empty (l : Launch) {E : z_E} (hE : z_ok E) (hC : z_cls E) (o : Nat) (ho : o < 13) (X : z_X) (h : z_G) (K : z_G → Prop) (hw : v_X1_empty h K) : z_CV l E yX1_empty wsX1_empty rX1_empty [.ref (z_a E o 0)] (z_up X o h) (fun X' => ∃ h', X' = z_up X o h' ∧ K h') := by
  refine z_start (cc := cX1_empty) (maxL := 1) (ret := none) hE (by decide) rfl (Nat.le_of_ble_eq_true rfl) ?_
  intro p e s m below meth c C hP hS ls hl
  have C : z_Cx p E s m _ meth c cX1_empty 1 wsX1_empty RX1 none := C
  obtain ⟨hx, hb, hml, hr, hlocks, hown, hts, hK, hE⟩ := id C
  have hl : lv_has ls 1 [(0, .ref (z_a E o 0))] := hl
  have hfX1 : ∀ w ∈ u_ws RX1 TX1 13, w ∈ wsX1_empty := by decide +kernel
  unfold v_X1_empty at hw
  refine lv_aload_n hx hb dX1_empty_0 rfl (lv_at hl 0 rfl) ?_
  refine lv_iconst (v := (0 : Int32)) hx hb dX1_empty_1 (by decide) ?_
  obtain ⟨h1, eh1⟩ : ∃ z : z_G, z = z_ss h 0 0 (0 : Int32) := ⟨_, rfl⟩
  replace hw := hw h1 eh1
  refine z_puti (C := RX1) (T := TX1) (N := 13) (ref := "GauntletHall$Hall") (o := o) (d := 0) (X' := z_up X o h1) hx hb hts hfX1 tyX1 tyX1_ok nmX1 hown hK hE hP hS (hC.1 o ho (o, 0) (List.mem_of_getElem? (i := 0) rfl)) (z_lH_0 (o := o) ho) rfl 0 (by decide) (hts (.fieldLink RX1 9 "GauntletHall$Hall" "people" "I") (by decide +kernel)) rfl rfl (by decide +kernel) rfl (by rw [eh1]; exact z_up_put X o h 0 0 _) dX1_empty_2 (fun H locs hP hS => ?_)
  refine lv_aload_n hx hb dX1_empty_5 rfl (lv_at hl 0 rfl) ?_
  refine lv_iconst (v := (0 : Int32)) hx hb dX1_empty_6 (by decide) ?_
  obtain ⟨h2, eh2⟩ : ∃ z : z_G, z = z_ss h1 0 1 (0 : Int32) := ⟨_, rfl⟩
  replace hw := hw h2 eh2
  refine z_puti (C := RX1) (T := TX1) (N := 13) (ref := "GauntletHall$Hall") (o := o) (d := 0) (X' := z_up X o h2) hx hb hts hfX1 tyX1 tyX1_ok nmX1 hown hK hE hP hS (hC.1 o ho (o, 0) (List.mem_of_getElem? (i := 0) rfl)) (z_lH_0 (o := o) ho) rfl 1 (by decide) (hts (.fieldLink RX1 15 "GauntletHall$Hall" "gloves" "I") (by decide +kernel)) rfl rfl (by decide +kernel) rfl (by rw [eh2]; exact z_up_put X o h1 0 1 _) dX1_empty_7 (fun H locs hP hS => ?_)
  refine lv_aload_n hx hb dX1_empty_10 rfl (lv_at hl 0 rfl) ?_
  refine lv_iconst (v := (0 : Int32)) hx hb dX1_empty_11 (by decide) ?_
  obtain ⟨h3, eh3⟩ : ∃ z : z_G, z = z_ss h2 0 2 (0 : Int32) := ⟨_, rfl⟩
  replace hw := hw h3 eh3
  refine z_puti (C := RX1) (T := TX1) (N := 13) (ref := "GauntletHall$Hall") (o := o) (d := 0) (X' := z_up X o h3) hx hb hts hfX1 tyX1 tyX1_ok nmX1 hown hK hE hP hS (hC.1 o ho (o, 0) (List.mem_of_getElem? (i := 0) rfl)) (z_lH_0 (o := o) ho) rfl 2 (by decide) (hts (.fieldLink RX1 18 "GauntletHall$Hall" "reign" "I") (by decide +kernel)) rfl rfl (by decide +kernel) rfl (by rw [eh3]; exact z_up_put X o h2 0 2 _) dX1_empty_12 (fun H locs hP hS => ?_)
  refine lv_aload_n hx hb dX1_empty_15 rfl (lv_at hl 0 rfl) ?_
  refine lv_iconst (v := (0 : Int32)) hx hb dX1_empty_16 (by decide) ?_
  obtain ⟨h4, eh4⟩ : ∃ z : z_G, z = z_ss h3 0 3 (0 : Int32) := ⟨_, rfl⟩
  replace hw := hw h4 eh4
  refine z_puti (C := RX1) (T := TX1) (N := 13) (ref := "GauntletHall$Hall") (o := o) (d := 0) (X' := z_up X o h4) hx hb hts hfX1 tyX1 tyX1_ok nmX1 hown hK hE hP hS (hC.1 o ho (o, 0) (List.mem_of_getElem? (i := 0) rfl)) (z_lH_0 (o := o) ho) rfl 3 (by decide) (hts (.fieldLink RX1 21 "GauntletHall$Hall" "fights" "I") (by decide +kernel)) rfl rfl (by decide +kernel) rfl (by rw [eh4]; exact z_up_put X o h3 0 3 _) dX1_empty_17 (fun H locs hP hS => ?_)
  exact z_retv C hP hS ⟨_, rfl, hw⟩ dX1_empty_20
set_option maxHeartbeats 4000000 in
set_option maxRecDepth 100000 in
theorem m_X1_isGlove (l : Launch) {E : z_E} (hE : z_ok E) (hC : z_cls E) (o : Nat) (ho : o < 13) (X : z_X) (h : z_G) (x1 : Int32) (K : Int32 → Prop) (hw : v_X1_isGlove h x1 K) : z_CI l E yX1_isGlove wsX1_isGlove rX1_isGlove [.ref (z_a E o 0), .int x1] (z_up X o h) (fun r X' => X' = (z_up X o h) ∧ K r) := by
  refine z_start (cc := cX1_isGlove) (maxL := 2) (ret := (some .boolean)) hE (by decide) rfl (Nat.le_of_ble_eq_true rfl) ?_
  intro p e s m below meth c C hP hS ls hl
  have C : z_Cx p E s m _ meth c cX1_isGlove 2 wsX1_isGlove RX1 (some .boolean) := C
  obtain ⟨hx, hb, hml, hr, hlocks, hown, hts, hK, hE⟩ := id C
  have hl : lv_has ls 2 [(0, .ref (z_a E o 0)), (1, .int x1)] := hl
  have hfX1 : ∀ w ∈ u_ws RX1 TX1 13, w ∈ wsX1_isGlove := by decide +kernel
  unfold v_X1_isGlove at hw
  refine lv_iload_n hx hb dX1_isGlove_0 rfl (lv_at hl 1 rfl) ?_
  refine lv_iconst (v := (0 : Int32)) hx hb dX1_isGlove_1 (by decide) ?_
  refine lv_aload_n hx hb dX1_isGlove_2 rfl (lv_at hl 0 rfl) ?_
  refine z_geti (C := RX1) (T := TX1) (N := 13) (ref := "GauntletHall$Hall") (o := o) (d := 0) hx hb hts hfX1 hown hK hP (hC.1 o ho (o, 0) (List.mem_of_getElem? (i := 0) rfl)) (z_lH_0 (o := o) ho) rfl 1 (by decide) (hts (.fieldLink RX1 15 "GauntletHall$Hall" "gloves" "I") (by decide +kernel)) rfl rfl (z_up_val X o h 0 1) dX1_isGlove_3 ?_
  refine lv_iconst (v := (1 : Int32)) hx hb dX1_isGlove_6 (by decide) ?_
  refine lv_isub hx hb dX1_isGlove_7 ?_
  refine z_sn (host := "GauntletHall") (rest := []) ⟨hx, hb, hml, hown, hts⟩ (m_X5_within l hE (z_up X o h) x1 (0 : Int32) ((h 0 1) - (1 : Int32)) _ hw) (va_cnB 3 hts gX1_isGlove_X5_within_n58 rfl rfl rfl (hK.2 _ (List.mem_of_getElem? (i := 1) rfl)) (hts (.initialized RX5) (by decide +kernel)) (by decide +kernel) ⟨Nat.le_of_ble_eq_true rfl, Nat.le_of_ble_eq_true rfl⟩) (hts (.static yX5_within) (by decide +kernel)) hK hP hS rfl hl.1 rfl (Nat.le_of_ble_eq_true rfl) dX1_isGlove_8 ⟨Nat.zero_le _, Nat.zero_le _⟩ (fun r1 u H locs hk hP hS => ?_)
  obtain ⟨eu, hw⟩ := hk
  rw [eu] at hP
  obtain ⟨hz, hw⟩ := hw
  exact z_retz C hz hP hS ⟨rfl, hw⟩ dX1_isGlove_11
