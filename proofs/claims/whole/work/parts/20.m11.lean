/-! ===== PRINTED (wip/whole/gen/gen.py): the machine meets each definition: X6.goReign, X6.goReigns, X6.behind, X6.outMany, X6.ones, X6.count, X6.lays ===== -/
set_option maxHeartbeats 4000000 in
set_option maxRecDepth 100000 in
theorem m_X6_goReign_b94 {p : Program} {l : Launch} {e : Env} {s : State} {m : MethodId} {args : Array Value} {below : List Frame} {meth : Method} {c : Code} {E : z_E} (C : z_Cx p E s m args meth c cX6_goReign 3 wsX6_goReign RX6 none) (hM : z_mod E) (X : z_X) (K : z_G → Prop) (L56 : z_G → Int32 → Prop) (k56 : ∀ (h : z_G) (x1 : Int32), L56 h x1 → ∀ {H : Heap} {locs : List Loc}, z_P E (z_up X 19 h) H → va_S (z_A E) s.heap H locs → ∀ (ls : Array Slot), lv_has ls 3 [(0, .ref (z_a E 19 0)), (1, .int x1)] → W p l e rX6_goReign s m args below meth c H locs 0 0 (MQ below (va_Qv (fun X' => ∃ h', X' = z_up X 19 h' ∧ K h') (fun u t => z_P E u t.heap) (z_A E)) args s 0 0 (z_A E)) (F0 m 56 ls [])) (h : z_G) (x1 : Int32) (t1 : Int32) (t2 : Int32) (t3 : Int32) (hw : v_X6_goReign_b94 K L56 h x1 t1 t2 t3) {H : Heap} {locs : List Loc} (hP : z_P E (z_up X 19 h) H) (hS : va_S (z_A E) s.heap H locs) {ls : Array Slot} (hl : lv_has ls 3 [(0, .ref (z_a E 19 0)), (1, .int x1)]) : W p l e rX6_goReign s m args below meth c H locs 0 0 (MQ below (va_Qv (fun X' => ∃ h', X' = z_up X 19 h' ∧ K h') (fun u t => z_P E u t.heap) (z_A E)) args s 0 0 (z_A E)) (F0 m 94 ls [.int t3, .int t2, .int t1, .ref (z_a E 19 6)]) := by
  obtain ⟨hx, hb, hml, hr, hlocks, hown, hts, hK, hE⟩ := id C
  have hfX6 : ∀ w ∈ u_ws RX6 TX6 15, w ∈ wsX6_goReign := by decide +kernel
  unfold v_X6_goReign_b94 at hw
  refine lv_iadd hx hb dX6_goReign_94 ?_
  obtain ⟨i12, hw⟩ := hw
  obtain ⟨h13, eh13⟩ : ∃ z : z_G, z = z_ss h 6 (z_n t1) (t2 + t3) := ⟨_, rfl⟩
  replace hw := hw h13 eh13
  refine z_iast (o := 19) (d := 6) (X' := z_up X 19 h13) hx hb hK hE hP hS (hM (19, 6) (List.mem_of_getElem? (i := 6) rfl)) z_l_19_6 i12 (by rw [eh13]; exact z_up_put X 19 h 6 (z_n t1) _) dX6_goReign_95 (fun H locs hP hS => ?_)
  obtain ⟨y14, ey14⟩ : ∃ z : Int32, z = x1 + (1 : Int32) := ⟨_, rfl⟩
  replace hw := hw y14 ey14
  refine lv_iinc (v := y14) (lv' := [(1, .int y14), (0, .ref (z_a E 19 0))]) hx hb dX6_goReign_96 hl (k := 1) rfl (by rw [ey14]; rfl) (by decide) rfl (fun ls hl => ?_)
  refine lv_goto (tgt := 56) hx hb dX6_goReign_99 (by decide) ?_
  exact k56 h13 y14 hw hP hS _ (lv_sub hl [1, 0] rfl)
set_option maxHeartbeats 4000000 in
set_option maxRecDepth 100000 in
theorem m_X6_goReign_b56_s {p : Program} {l : Launch} {e : Env} {s : State} {m : MethodId} {args : Array Value} {below : List Frame} {meth : Method} {c : Code} {E : z_E} (C : z_Cx p E s m args meth c cX6_goReign 3 wsX6_goReign RX6 none) (hM : z_mod E) (X : z_X) (K : z_G → Prop) (L56 : z_G → Int32 → Prop) (k56 : ∀ (h : z_G) (x1 : Int32), L56 h x1 → ∀ {H : Heap} {locs : List Loc}, z_P E (z_up X 19 h) H → va_S (z_A E) s.heap H locs → ∀ (ls : Array Slot), lv_has ls 3 [(0, .ref (z_a E 19 0)), (1, .int x1)] → W p l e rX6_goReign s m args below meth c H locs 0 0 (MQ below (va_Qv (fun X' => ∃ h', X' = z_up X 19 h' ∧ K h') (fun u t => z_P E u t.heap) (z_A E)) args s 0 0 (z_A E)) (F0 m 56 ls [])) (h : z_G) (x1 : Int32) (hw : v_X6_goReign_b56_s K L56 h x1) {H : Heap} {locs : List Loc} (hP : z_P E (z_up X 19 h) H) (hS : va_S (z_A E) s.heap H locs) {ls : Array Slot} (hl : lv_has ls 3 [(0, .ref (z_a E 19 0)), (1, .int x1)]) : W p l e rX6_goReign s m args below meth c H locs 0 0 (MQ below (va_Qv (fun X' => ∃ h', X' = z_up X 19 h' ∧ K h') (fun u t => z_P E u t.heap) (z_A E)) args s 0 0 (z_A E)) (F0 m 56 ls []) := by
  obtain ⟨hx, hb, hml, hr, hlocks, hown, hts, hK, hE⟩ := id C
  have hfX6 : ∀ w ∈ u_ws RX6 TX6 15, w ∈ wsX6_goReign := by decide +kernel
  unfold v_X6_goReign_b56_s at hw
  refine lv_iload_n hx hb dX6_goReign_56 rfl (lv_at hl 1 rfl) ?_
  refine lv_aload_n hx hb dX6_goReign_57 rfl (lv_at hl 0 rfl) ?_
  refine z_getr (C := RX6) (T := TX6) (N := 15) (ref := "GauntletHallModel") (o := 19) (d := 0) hx hb hts hfX6 hown hK hP (hM (19, 0) (List.mem_of_getElem? (i := 0) rfl)) z_l_19_0 rfl 6 (by decide) (hts (.fieldLink RX6 25 "GauntletHallModel" "side" "[I") (by decide +kernel)) rfl rfl dX6_goReign_58 ?_
  refine lv_iconst (v := (2 : Int32)) hx hb dX6_goReign_61 (by decide) ?_
  obtain ⟨i3, hw⟩ := hw
  refine z_iald (o := 19) (d := 6) hx hb hK hP (hM (19, 6) (List.mem_of_getElem? (i := 6) rfl)) z_l_19_6 i3 (z_up_val X 19 h 6 (z_n (2 : Int32))) dX6_goReign_62 ?_
  refine lv_icmp_ge (tgt := 102) hx hb dX6_goReign_63 (by decide) (fun c4 => ?_) (fun c4 => ?_)
  · replace hw := hw.1 c4
    refine lv_aload_n hx hb dX6_goReign_102 rfl (lv_at hl 0 rfl) ?_
    refine z_getr (C := RX6) (T := TX6) (N := 15) (ref := "GauntletHallModel") (o := 19) (d := 0) hx hb hts hfX6 hown hK hP (hM (19, 0) (List.mem_of_getElem? (i := 0) rfl)) z_l_19_0 rfl 6 (by decide) (hts (.fieldLink RX6 25 "GauntletHallModel" "side" "[I") (by decide +kernel)) rfl rfl dX6_goReign_103 ?_
    refine lv_iconst (v := (0 : Int32)) hx hb dX6_goReign_106 (by decide) ?_
    refine lv_dup2_11 hx hb dX6_goReign_107 rfl rfl ?_
    obtain ⟨i5, hw⟩ := hw
    refine z_iald (o := 19) (d := 6) hx hb hK hP (hM (19, 6) (List.mem_of_getElem? (i := 6) rfl)) z_l_19_6 i5 (z_up_val X 19 h 6 (z_n (0 : Int32))) dX6_goReign_108 ?_
    refine lv_iconst (v := (1 : Int32)) hx hb dX6_goReign_109 (by decide) ?_
    refine lv_iadd hx hb dX6_goReign_110 ?_
    obtain ⟨i6, hw⟩ := hw
    obtain ⟨h7, eh7⟩ : ∃ z : z_G, z = z_ss h 6 (z_n (0 : Int32)) ((h 6 (z_n (0 : Int32))) + (1 : Int32)) := ⟨_, rfl⟩
    replace hw := hw h7 eh7
    refine z_iast (o := 19) (d := 6) (X' := z_up X 19 h7) hx hb hK hE hP hS (hM (19, 6) (List.mem_of_getElem? (i := 6) rfl)) z_l_19_6 i6 (by rw [eh7]; exact z_up_put X 19 h 6 (z_n (0 : Int32)) _) dX6_goReign_111 (fun H locs hP hS => ?_)
    exact z_retv C hP hS ⟨_, rfl, hw⟩ dX6_goReign_112
  · replace hw := hw.2 c4
    refine lv_aload_n hx hb dX6_goReign_66 rfl (lv_at hl 0 rfl) ?_
    refine z_getr (C := RX6) (T := TX6) (N := 15) (ref := "GauntletHallModel") (o := 19) (d := 0) hx hb hts hfX6 hown hK hP (hM (19, 0) (List.mem_of_getElem? (i := 0) rfl)) z_l_19_0 rfl 6 (by decide) (hts (.fieldLink RX6 25 "GauntletHallModel" "side" "[I") (by decide +kernel)) rfl rfl dX6_goReign_67 ?_
    refine lv_bipush (v := (34 : Int32)) hx hb dX6_goReign_70 (by decide) ?_
    refine lv_iload_n hx hb dX6_goReign_72 rfl (lv_at hl 1 rfl) ?_
    refine lv_iadd hx hb dX6_goReign_73 ?_
    refine lv_dup2_11 hx hb dX6_goReign_74 rfl rfl ?_
    obtain ⟨i8, hw⟩ := hw
    refine z_iald (o := 19) (d := 6) hx hb hK hP (hM (19, 6) (List.mem_of_getElem? (i := 6) rfl)) z_l_19_6 i8 (z_up_val X 19 h 6 (z_n ((34 : Int32) + x1))) dX6_goReign_75 ?_
    refine lv_aload_n hx hb dX6_goReign_76 rfl (lv_at hl 0 rfl) ?_
    refine z_getr (C := RX6) (T := TX6) (N := 15) (ref := "GauntletHallModel") (o := 19) (d := 0) hx hb hts hfX6 hown hK hP (hM (19, 0) (List.mem_of_getElem? (i := 0) rfl)) z_l_19_0 rfl 6 (by decide) (hts (.fieldLink RX6 25 "GauntletHallModel" "side" "[I") (by decide +kernel)) rfl rfl dX6_goReign_77 ?_
    refine lv_iconst (v := (3 : Int32)) hx hb dX6_goReign_80 (by decide) ?_
    obtain ⟨i9, hw⟩ := hw
    refine z_iald (o := 19) (d := 6) hx hb hK hP (hM (19, 6) (List.mem_of_getElem? (i := 6) rfl)) z_l_19_6 i9 (z_up_val X 19 h 6 (z_n (3 : Int32))) dX6_goReign_81 ?_
    refine lv_iload_n hx hb dX6_goReign_82 rfl (lv_at hl 1 rfl) ?_
    refine z_si (rest := [.int (h 6 (z_n ((34 : Int32) + x1))), .int ((34 : Int32) + x1), .ref (z_a E 19 6)]) ⟨hx, hb, hml, hown, hts⟩ (m_X6_has l hE (z_up X 19 h) (h 6 (z_n (3 : Int32))) x1 _ hw) (va_cwS 2 hts gX6_goReign_X6_has rfl rfl rfl (by decide +kernel) ⟨Nat.le_of_ble_eq_true rfl, Nat.le_of_ble_eq_true rfl⟩) hK hP hS rfl hl.1 rfl (Nat.le_of_ble_eq_true rfl) dX6_goReign_83 ⟨Nat.zero_le _, Nat.zero_le _⟩ (fun r10 u H locs hk hP hS => ?_)
    obtain ⟨eu, hw⟩ := hk
    rw [eu] at hP
    refine lv_if_eq (tgt := 93) hx hb dX6_goReign_86 (by decide) (fun c11 => ?_) (fun c11 => ?_)
    · replace hw := hw.1 c11
      refine lv_iconst (v := (0 : Int32)) hx hb dX6_goReign_93 (by decide) ?_
      exact m_X6_goReign_b94 C hM X K L56 k56 h x1 ((34 : Int32) + x1) (h 6 (z_n ((34 : Int32) + x1))) (0 : Int32) hw hP hS (lv_sub hl [0, 1] rfl)
    · replace hw := hw.2 c11
      refine lv_iconst (v := (1 : Int32)) hx hb dX6_goReign_89 (by decide) ?_
      refine lv_goto (tgt := 94) hx hb dX6_goReign_90 (by decide) ?_
      exact m_X6_goReign_b94 C hM X K L56 k56 h x1 ((34 : Int32) + x1) (h 6 (z_n ((34 : Int32) + x1))) (1 : Int32) hw hP hS (lv_sub hl [0, 1] rfl)
theorem m_X6_goReign_b56 {p : Program} {l : Launch} {e : Env} {s : State} {m : MethodId} {args : Array Value} {below : List Frame} {meth : Method} {c : Code} {E : z_E} (C : z_Cx p E s m args meth c cX6_goReign 3 wsX6_goReign RX6 none) (hM : z_mod E) (X : z_X) (K : z_G → Prop) (h : z_G) (x1 : Int32) (hw : v_X6_goReign_b56 K h x1) {H : Heap} {locs : List Loc} (hP : z_P E (z_up X 19 h) H) (hS : va_S (z_A E) s.heap H locs) {ls : Array Slot} (hl : lv_has ls 3 [(0, .ref (z_a E 19 0)), (1, .int x1)]) : W p l e rX6_goReign s m args below meth c H locs 0 0 (MQ below (va_Qv (fun X' => ∃ h', X' = z_up X 19 h' ∧ K h') (fun u t => z_P E u t.heap) (z_A E)) args s 0 0 (z_A E)) (F0 m 56 ls []) := by
  obtain ⟨n, hw⟩ := hw
  revert hw hP hS hl
  revert h x1 H locs ls
  induction n with
  | zero => intro h x1 H locs ls hP hS hl hw; exact hw.elim
  | succ n ih =>
    intro h x1 H locs ls hP hS hl hw
    exact m_X6_goReign_b56_s C hM X K (fun h x1 => z_fp (σ := z_G × Int32) (fun Lp q => v_X6_goReign_b56_s K (fun h x1 => Lp (h, x1)) q.1 q.2) n (h, x1)) (fun h x1 h9 H locs hP hS ls hl => ih h x1 hP hS hl h9) h x1 hw hP hS hl
set_option maxHeartbeats 4000000 in
set_option maxRecDepth 100000 in
theorem m_X6_goReign_b35 {p : Program} {l : Launch} {e : Env} {s : State} {m : MethodId} {args : Array Value} {below : List Frame} {meth : Method} {c : Code} {E : z_E} (C : z_Cx p E s m args meth c cX6_goReign 3 wsX6_goReign RX6 none) (hM : z_mod E) (X : z_X) (K : z_G → Prop) (L2 : z_G → Int32 → Prop) (k2 : ∀ (h : z_G) (x1 : Int32), L2 h x1 → ∀ {H : Heap} {locs : List Loc}, z_P E (z_up X 19 h) H → va_S (z_A E) s.heap H locs → ∀ (ls : Array Slot), lv_has ls 3 [(0, .ref (z_a E 19 0)), (1, .int x1)] → W p l e rX6_goReign s m args below meth c H locs 0 0 (MQ below (va_Qv (fun X' => ∃ h', X' = z_up X 19 h' ∧ K h') (fun u t => z_P E u t.heap) (z_A E)) args s 0 0 (z_A E)) (F0 m 2 ls [])) (h : z_G) (x1 : Int32) (t0 : Int32) (hw : v_X6_goReign_b35 K L2 h x1 t0) {H : Heap} {locs : List Loc} (hP : z_P E (z_up X 19 h) H) (hS : va_S (z_A E) s.heap H locs) {ls : Array Slot} (hl : lv_has ls 3 [(0, .ref (z_a E 19 0)), (1, .int x1)]) : W p l e rX6_goReign s m args below meth c H locs 0 0 (MQ below (va_Qv (fun X' => ∃ h', X' = z_up X 19 h' ∧ K h') (fun u t => z_P E u t.heap) (z_A E)) args s 0 0 (z_A E)) (F0 m 35 ls [.int t0]) := by
  obtain ⟨hx, hb, hml, hr, hlocks, hown, hts, hK, hE⟩ := id C
  have hfX6 : ∀ w ∈ u_ws RX6 TX6 15, w ∈ wsX6_goReign := by decide +kernel
  unfold v_X6_goReign_b35 at hw
  refine lv_istore_n (lv' := [(2, .int t0), (0, .ref (z_a E 19 0)), (1, .int x1)]) hx hb dX6_goReign_35 rfl hl (by decide) rfl (fun ls hl => ?_)
  refine lv_iload_n hx hb dX6_goReign_36 rfl (lv_at hl 0 rfl) ?_
  refine lv_bipush (v := (-4 : Int32)) hx hb dX6_goReign_37 (by decide) ?_
  refine lv_icmp_eq (tgt := 48) hx hb dX6_goReign_39 (by decide) (fun c17 => ?_) (fun c17 => ?_)
  · replace hw := hw.1 c17
    obtain ⟨y18, ey18⟩ : ∃ z : Int32, z = x1 + (1 : Int32) := ⟨_, rfl⟩
    replace hw := hw y18 ey18
    refine lv_iinc (v := y18) (lv' := [(1, .int y18), (2, .int t0), (0, .ref (z_a E 19 0))]) hx hb dX6_goReign_48 hl (k := 2) rfl (by rw [ey18]; rfl) (by decide) rfl (fun ls hl => ?_)
    refine lv_goto (tgt := 2) hx hb dX6_goReign_51 (by decide) ?_
    exact k2 h y18 hw hP hS _ (lv_sub hl [2, 0] rfl)
  · replace hw := hw.2 c17
    refine lv_aload_n hx hb dX6_goReign_42 rfl (lv_at hl 1 rfl) ?_
    refine lv_iload_n hx hb dX6_goReign_43 rfl (lv_at hl 2 rfl) ?_
    refine lv_iload_n hx hb dX6_goReign_44 rfl (lv_at hl 0 rfl) ?_
    refine z_vv (C := RX6) (T := TX6) (N := 15) (o := 19) (rest := []) ⟨hx, hb, hml, hown, hts⟩ (m_X6_goWear l hE hM X h x1 t0 _ hw) (cwV 2 hts gX6_goReign_X6_goWear rfl rfl rfl (by decide +kernel) ⟨Nat.le_of_ble_eq_true rfl, Nat.le_of_ble_eq_true rfl⟩) hK hP hS (hM (19, 0) (List.mem_of_getElem? (i := 0) rfl)) z_l_19_0 rfl rfl hl.1 rfl (Nat.le_of_ble_eq_true rfl) dX6_goReign_45 ⟨Nat.zero_le _, Nat.zero_le _⟩ (fun u H locs hk hP hS => ?_)
    obtain ⟨h19, eu, hw⟩ := hk
    rw [eu] at hP
    obtain ⟨y20, ey20⟩ : ∃ z : Int32, z = x1 + (1 : Int32) := ⟨_, rfl⟩
    replace hw := hw y20 ey20
    refine lv_iinc (v := y20) (lv' := [(1, .int y20), (2, .int t0), (0, .ref (z_a E 19 0))]) hx hb dX6_goReign_48 hl (k := 2) rfl (by rw [ey20]; rfl) (by decide) rfl (fun ls hl => ?_)
    refine lv_goto (tgt := 2) hx hb dX6_goReign_51 (by decide) ?_
    exact k2 h19 y20 hw hP hS _ (lv_sub hl [2, 0] rfl)
set_option maxHeartbeats 4000000 in
set_option maxRecDepth 100000 in
theorem m_X6_goReign_b2_s {p : Program} {l : Launch} {e : Env} {s : State} {m : MethodId} {args : Array Value} {below : List Frame} {meth : Method} {c : Code} {E : z_E} (C : z_Cx p E s m args meth c cX6_goReign 3 wsX6_goReign RX6 none) (hM : z_mod E) (X : z_X) (K : z_G → Prop) (L2 : z_G → Int32 → Prop) (k2 : ∀ (h : z_G) (x1 : Int32), L2 h x1 → ∀ {H : Heap} {locs : List Loc}, z_P E (z_up X 19 h) H → va_S (z_A E) s.heap H locs → ∀ (ls : Array Slot), lv_has ls 3 [(0, .ref (z_a E 19 0)), (1, .int x1)] → W p l e rX6_goReign s m args below meth c H locs 0 0 (MQ below (va_Qv (fun X' => ∃ h', X' = z_up X 19 h' ∧ K h') (fun u t => z_P E u t.heap) (z_A E)) args s 0 0 (z_A E)) (F0 m 2 ls [])) (h : z_G) (x1 : Int32) (hw : v_X6_goReign_b2_s K L2 h x1) {H : Heap} {locs : List Loc} (hP : z_P E (z_up X 19 h) H) (hS : va_S (z_A E) s.heap H locs) {ls : Array Slot} (hl : lv_has ls 3 [(0, .ref (z_a E 19 0)), (1, .int x1)]) : W p l e rX6_goReign s m args below meth c H locs 0 0 (MQ below (va_Qv (fun X' => ∃ h', X' = z_up X 19 h' ∧ K h') (fun u t => z_P E u t.heap) (z_A E)) args s 0 0 (z_A E)) (F0 m 2 ls []) := by
  obtain ⟨hx, hb, hml, hr, hlocks, hown, hts, hK, hE⟩ := id C
  have hfX6 : ∀ w ∈ u_ws RX6 TX6 15, w ∈ wsX6_goReign := by decide +kernel
  unfold v_X6_goReign_b2_s at hw
  refine lv_iload_n hx hb dX6_goReign_2 rfl (lv_at hl 1 rfl) ?_
  refine lv_aload_n hx hb dX6_goReign_3 rfl (lv_at hl 0 rfl) ?_
  refine z_getr (C := RX6) (T := TX6) (N := 15) (ref := "GauntletHallModel") (o := 19) (d := 0) hx hb hts hfX6 hown hK hP (hM (19, 0) (List.mem_of_getElem? (i := 0) rfl)) z_l_19_0 rfl 2 (by decide) (hts (.fieldLink RX6 13 "GauntletHallModel" "told" "[I") (by decide +kernel)) rfl rfl dX6_goReign_4 ?_
  refine lv_iconst (v := (0 : Int32)) hx hb dX6_goReign_7 (by decide) ?_
  obtain ⟨i1, hw⟩ := hw
  refine z_iald (o := 19) (d := 2) hx hb hK hP (hM (19, 2) (List.mem_of_getElem? (i := 2) rfl)) z_l_19_2 i1 (z_up_val X 19 h 2 (z_n (0 : Int32))) dX6_goReign_8 ?_
  refine lv_icmp_ge (tgt := 54) hx hb dX6_goReign_9 (by decide) (fun c2 => ?_) (fun c2 => ?_)
  · replace hw := hw.1 c2
    refine lv_iconst (v := (0 : Int32)) hx hb dX6_goReign_54 (by decide) ?_
    refine lv_istore_n (lv' := [(1, .int (0 : Int32)), (0, .ref (z_a E 19 0))]) hx hb dX6_goReign_55 rfl hl (by decide) rfl (fun ls hl => ?_)
    exact m_X6_goReign_b56 C hM X K h (0 : Int32) hw hP hS (lv_sub hl [1, 0] rfl)
  · replace hw := hw.2 c2
    refine lv_aload_n hx hb dX6_goReign_12 rfl (lv_at hl 0 rfl) ?_
    refine z_getr (C := RX6) (T := TX6) (N := 15) (ref := "GauntletHallModel") (o := 19) (d := 0) hx hb hts hfX6 hown hK hP (hM (19, 0) (List.mem_of_getElem? (i := 0) rfl)) z_l_19_0 rfl 2 (by decide) (hts (.fieldLink RX6 13 "GauntletHallModel" "told" "[I") (by decide +kernel)) rfl rfl dX6_goReign_13 ?_
    refine lv_bipush (v := (7 : Int32)) hx hb dX6_goReign_16 (by decide) ?_
    refine lv_iload_n hx hb dX6_goReign_18 rfl (lv_at hl 1 rfl) ?_
    refine lv_iadd hx hb dX6_goReign_19 ?_
    obtain ⟨i15, hw⟩ := hw
    refine z_iald (o := 19) (d := 2) hx hb hK hP (hM (19, 2) (List.mem_of_getElem? (i := 2) rfl)) z_l_19_2 i15 (z_up_val X 19 h 2 (z_n ((7 : Int32) + x1))) dX6_goReign_20 ?_
    refine lv_iconst (v := (1 : Int32)) hx hb dX6_goReign_21 (by decide) ?_
    refine lv_icmp_ne (tgt := 33) hx hb dX6_goReign_22 (by decide) (fun c16 => ?_) (fun c16 => ?_)
    · replace hw := hw.1 c16
      refine lv_bipush (v := (-4 : Int32)) hx hb dX6_goReign_33 (by decide) ?_
      exact m_X6_goReign_b35 C hM X K L2 k2 h x1 (-4 : Int32) hw hP hS (lv_sub hl [0, 1] rfl)
    · replace hw := hw.2 c16
      refine lv_aload_n hx hb dX6_goReign_25 rfl (lv_at hl 0 rfl) ?_
      refine lv_iload_n hx hb dX6_goReign_26 rfl (lv_at hl 1 rfl) ?_
      refine z_vi (C := RX6) (T := TX6) (N := 15) (o := 19) (rest := []) ⟨hx, hb, hml, hown, hts⟩ (m_X6_lowestFit l hE hM X h x1 _ hw) (cwV 1 hts gX6_goReign_X6_lowestFit rfl rfl rfl (by decide +kernel) ⟨Nat.le_of_ble_eq_true rfl, Nat.le_of_ble_eq_true rfl⟩) hK hP hS (hM (19, 0) (List.mem_of_getElem? (i := 0) rfl)) z_l_19_0 rfl rfl hl.1 rfl (Nat.le_of_ble_eq_true rfl) dX6_goReign_27 ⟨Nat.zero_le _, Nat.zero_le _⟩ (fun r21 u H locs hk hP hS => ?_)
      obtain ⟨eu, hw⟩ := hk
      rw [eu] at hP
      refine lv_goto (tgt := 35) hx hb dX6_goReign_30 (by decide) ?_
      exact m_X6_goReign_b35 C hM X K L2 k2 h x1 r21 hw hP hS (lv_sub hl [0, 1] rfl)
theorem m_X6_goReign_b2 {p : Program} {l : Launch} {e : Env} {s : State} {m : MethodId} {args : Array Value} {below : List Frame} {meth : Method} {c : Code} {E : z_E} (C : z_Cx p E s m args meth c cX6_goReign 3 wsX6_goReign RX6 none) (hM : z_mod E) (X : z_X) (K : z_G → Prop) (h : z_G) (x1 : Int32) (hw : v_X6_goReign_b2 K h x1) {H : Heap} {locs : List Loc} (hP : z_P E (z_up X 19 h) H) (hS : va_S (z_A E) s.heap H locs) {ls : Array Slot} (hl : lv_has ls 3 [(0, .ref (z_a E 19 0)), (1, .int x1)]) : W p l e rX6_goReign s m args below meth c H locs 0 0 (MQ below (va_Qv (fun X' => ∃ h', X' = z_up X 19 h' ∧ K h') (fun u t => z_P E u t.heap) (z_A E)) args s 0 0 (z_A E)) (F0 m 2 ls []) := by
  obtain ⟨n, hw⟩ := hw
  revert hw hP hS hl
  revert h x1 H locs ls
  induction n with
  | zero => intro h x1 H locs ls hP hS hl hw; exact hw.elim
  | succ n ih =>
    intro h x1 H locs ls hP hS hl hw
    exact m_X6_goReign_b2_s C hM X K (fun h x1 => z_fp (σ := z_G × Int32) (fun Lp q => v_X6_goReign_b2_s K (fun h x1 => Lp (h, x1)) q.1 q.2) n (h, x1)) (fun h x1 h9 H locs hP hS ls hl => ih h x1 hP hS hl h9) h x1 hw hP hS hl
set_option maxHeartbeats 4000000 in
set_option maxRecDepth 100000 in
theorem m_X6_goReign (l : Launch) {E : z_E} (hE : z_ok E) (hM : z_mod E) (X : z_X) (h : z_G) (K : z_G → Prop) (hw : v_X6_goReign h K) : z_CV l E yX6_goReign wsX6_goReign rX6_goReign [.ref (z_a E 19 0)] (z_up X 19 h) (fun X' => ∃ h', X' = z_up X 19 h' ∧ K h') := by
  refine z_start (cc := cX6_goReign) (maxL := 3) (ret := none) hE (by decide) rfl (Nat.le_of_ble_eq_true rfl) ?_
  intro p e s m below meth c C hP hS ls hl
  have C : z_Cx p E s m _ meth c cX6_goReign 3 wsX6_goReign RX6 none := C
  obtain ⟨hx, hb, hml, hr, hlocks, hown, hts, hK, hE⟩ := id C
  have hl : lv_has ls 3 [(0, .ref (z_a E 19 0))] := hl
  have hfX6 : ∀ w ∈ u_ws RX6 TX6 15, w ∈ wsX6_goReign := by decide +kernel
  unfold v_X6_goReign at hw
  refine lv_iconst (v := (0 : Int32)) hx hb dX6_goReign_0 (by decide) ?_
  refine lv_istore_n (lv' := [(1, .int (0 : Int32)), (0, .ref (z_a E 19 0))]) hx hb dX6_goReign_1 rfl hl (by decide) rfl (fun ls hl => ?_)
  exact m_X6_goReign_b2 C hM X K h (0 : Int32) hw hP hS (lv_sub hl [1, 0] rfl)
set_option maxHeartbeats 4000000 in
set_option maxRecDepth 100000 in
theorem m_X6_goReigns_b2_s {p : Program} {l : Launch} {e : Env} {s : State} {m : MethodId} {args : Array Value} {below : List Frame} {meth : Method} {c : Code} {E : z_E} (C : z_Cx p E s m args meth c cX6_goReigns 3 wsX6_goReigns RX6 none) (hM : z_mod E) (X : z_X) (K : z_G → Prop) (L2 : z_G → Int32 → Int32 → Prop) (k2 : ∀ (h : z_G) (x1 : Int32) (x2 : Int32), L2 h x1 x2 → ∀ {H : Heap} {locs : List Loc}, z_P E (z_up X 19 h) H → va_S (z_A E) s.heap H locs → ∀ (ls : Array Slot), lv_has ls 3 [(0, .ref (z_a E 19 0)), (1, .int x1), (2, .int x2)] → W p l e rX6_goReigns s m args below meth c H locs 0 0 (MQ below (va_Qv (fun X' => ∃ h', X' = z_up X 19 h' ∧ K h') (fun u t => z_P E u t.heap) (z_A E)) args s 0 0 (z_A E)) (F0 m 2 ls [])) (h : z_G) (x1 : Int32) (x2 : Int32) (hw : v_X6_goReigns_b2_s K L2 h x1 x2) {H : Heap} {locs : List Loc} (hP : z_P E (z_up X 19 h) H) (hS : va_S (z_A E) s.heap H locs) {ls : Array Slot} (hl : lv_has ls 3 [(0, .ref (z_a E 19 0)), (1, .int x1), (2, .int x2)]) : W p l e rX6_goReigns s m args below meth c H locs 0 0 (MQ below (va_Qv (fun X' => ∃ h', X' = z_up X 19 h' ∧ K h') (fun u t => z_P E u t.heap) (z_A E)) args s 0 0 (z_A E)) (F0 m 2 ls []) := by
  obtain ⟨hx, hb, hml, hr, hlocks, hown, hts, hK, hE⟩ := id C
  unfold v_X6_goReigns_b2_s at hw
  refine lv_iload_n hx hb dX6_goReigns_2 rfl (lv_at hl 2 rfl) ?_
  refine lv_iload_n hx hb dX6_goReigns_3 rfl (lv_at hl 1 rfl) ?_
  refine lv_icmp_ge (tgt := 17) hx hb dX6_goReigns_4 (by decide) (fun c1 => ?_) (fun c1 => ?_)
  · replace hw := hw.1 c1
    exact z_retv C hP hS ⟨_, rfl, hw⟩ dX6_goReigns_17
  · replace hw := hw.2 c1
    refine lv_aload_n hx hb dX6_goReigns_7 rfl (lv_at hl 0 rfl) ?_
    refine z_vv (C := RX6) (T := TX6) (N := 15) (o := 19) (rest := []) ⟨hx, hb, hml, hown, hts⟩ (m_X6_goReign l hE hM X h _ hw) (cwV 0 hts gX6_goReigns_X6_goReign rfl rfl rfl (by decide +kernel) ⟨Nat.le_of_ble_eq_true rfl, Nat.le_of_ble_eq_true rfl⟩) hK hP hS (hM (19, 0) (List.mem_of_getElem? (i := 0) rfl)) z_l_19_0 rfl rfl hl.1 rfl (Nat.le_of_ble_eq_true rfl) dX6_goReigns_8 ⟨Nat.zero_le _, Nat.zero_le _⟩ (fun u H locs hk hP hS => ?_)
    obtain ⟨h2, eu, hw⟩ := hk
    rw [eu] at hP
    obtain ⟨y3, ey3⟩ : ∃ z : Int32, z = x2 + (1 : Int32) := ⟨_, rfl⟩
    replace hw := hw y3 ey3
    refine lv_iinc (v := y3) (lv' := [(2, .int y3), (0, .ref (z_a E 19 0)), (1, .int x1)]) hx hb dX6_goReigns_11 hl (k := 2) rfl (by rw [ey3]; rfl) (by decide) rfl (fun ls hl => ?_)
    refine lv_goto (tgt := 2) hx hb dX6_goReigns_14 (by decide) ?_
    exact k2 h2 x1 y3 hw hP hS _ (lv_sub hl [1, 2, 0] rfl)
theorem m_X6_goReigns_b2 {p : Program} {l : Launch} {e : Env} {s : State} {m : MethodId} {args : Array Value} {below : List Frame} {meth : Method} {c : Code} {E : z_E} (C : z_Cx p E s m args meth c cX6_goReigns 3 wsX6_goReigns RX6 none) (hM : z_mod E) (X : z_X) (K : z_G → Prop) (h : z_G) (x1 : Int32) (x2 : Int32) (hw : v_X6_goReigns_b2 K h x1 x2) {H : Heap} {locs : List Loc} (hP : z_P E (z_up X 19 h) H) (hS : va_S (z_A E) s.heap H locs) {ls : Array Slot} (hl : lv_has ls 3 [(0, .ref (z_a E 19 0)), (1, .int x1), (2, .int x2)]) : W p l e rX6_goReigns s m args below meth c H locs 0 0 (MQ below (va_Qv (fun X' => ∃ h', X' = z_up X 19 h' ∧ K h') (fun u t => z_P E u t.heap) (z_A E)) args s 0 0 (z_A E)) (F0 m 2 ls []) := by
  obtain ⟨n, hw⟩ := hw
  revert hw hP hS hl
  revert h x1 x2 H locs ls
  induction n with
  | zero => intro h x1 x2 H locs ls hP hS hl hw; exact hw.elim
  | succ n ih =>
    intro h x1 x2 H locs ls hP hS hl hw
    exact m_X6_goReigns_b2_s C hM X K (fun h x1 x2 => z_fp (σ := z_G × Int32 × Int32) (fun Lp q => v_X6_goReigns_b2_s K (fun h x1 x2 => Lp (h, x1, x2)) q.1 q.2.1 q.2.2) n (h, x1, x2)) (fun h x1 x2 h9 H locs hP hS ls hl => ih h x1 x2 hP hS hl h9) h x1 x2 hw hP hS hl
set_option maxHeartbeats 4000000 in
set_option maxRecDepth 100000 in
theorem m_X6_goReigns (l : Launch) {E : z_E} (hE : z_ok E) (hM : z_mod E) (X : z_X) (h : z_G) (x1 : Int32) (K : z_G → Prop) (hw : v_X6_goReigns h x1 K) : z_CV l E yX6_goReigns wsX6_goReigns rX6_goReigns [.ref (z_a E 19 0), .int x1] (z_up X 19 h) (fun X' => ∃ h', X' = z_up X 19 h' ∧ K h') := by
  refine z_start (cc := cX6_goReigns) (maxL := 3) (ret := none) hE (by decide) rfl (Nat.le_of_ble_eq_true rfl) ?_
  intro p e s m below meth c C hP hS ls hl
  have C : z_Cx p E s m _ meth c cX6_goReigns 3 wsX6_goReigns RX6 none := C
  obtain ⟨hx, hb, hml, hr, hlocks, hown, hts, hK, hE⟩ := id C
  have hl : lv_has ls 3 [(0, .ref (z_a E 19 0)), (1, .int x1)] := hl
  unfold v_X6_goReigns at hw
  refine lv_iconst (v := (0 : Int32)) hx hb dX6_goReigns_0 (by decide) ?_
  refine lv_istore_n (lv' := [(2, .int (0 : Int32)), (0, .ref (z_a E 19 0)), (1, .int x1)]) hx hb dX6_goReigns_1 rfl hl (by decide) rfl (fun ls hl => ?_)
  exact m_X6_goReigns_b2 C hM X K h x1 (0 : Int32) hw hP hS (lv_sub hl [1, 2, 0] rfl)
set_option maxHeartbeats 4000000 in
set_option maxRecDepth 100000 in
theorem m_X6_behind (l : Launch) {E : z_E} (hE : z_ok E) (hM : z_mod E) (X : z_X) (h : z_G) (x1 : Int32) (x2 : Int32) (K : Int32 → z_G → Prop) (hw : v_X6_behind h x1 x2 K) : z_CI l E yX6_behind wsX6_behind rX6_behind [.ref (z_a E 19 0), .int x1, .int x2] (z_up X 19 h) (fun r X' => ∃ h', X' = z_up X 19 h' ∧ K r h') := by
  refine z_start (cc := cX6_behind) (maxL := 3) (ret := (some .int)) hE (by decide) rfl (Nat.le_of_ble_eq_true rfl) ?_
  intro p e s m below meth c C hP hS ls hl
  have C : z_Cx p E s m _ meth c cX6_behind 3 wsX6_behind RX6 (some .int) := C
  obtain ⟨hx, hb, hml, hr, hlocks, hown, hts, hK, hE⟩ := id C
  have hl : lv_has ls 3 [(0, .ref (z_a E 19 0)), (1, .int x1), (2, .int x2)] := hl
  have hfX6 : ∀ w ∈ u_ws RX6 TX6 15, w ∈ wsX6_behind := by decide +kernel
  unfold v_X6_behind at hw
  refine lv_iload_n hx hb dX6_behind_0 rfl (lv_at hl 1 rfl) ?_
  refine lv_i2l hx hb dX6_behind_1 rfl ?_
  refine lv_lconst (v := (0 : Int64)) hx hb dX6_behind_2 (by decide) ?_
  refine lv_ldc2 hx hb hown (hts (.constantLong RX6 158 (30)) (by decide +kernel)) dX6_behind_3 ?_
  refine z_si (rest := []) ⟨hx, hb, hml, hown, hts⟩ (m_X6_in l hE (z_up X 19 h) (Int32.toInt64 x1) (0 : Int64) (30 : Int64) _ hw) (va_cwS 3 hts gX6_behind_X6_in rfl rfl rfl (by decide +kernel) ⟨Nat.le_of_ble_eq_true rfl, Nat.le_of_ble_eq_true rfl⟩) hK hP hS rfl hl.1 rfl (Nat.le_of_ble_eq_true rfl) dX6_behind_6 ⟨Nat.zero_le _, Nat.zero_le _⟩ (fun r1 u H locs hk hP hS => ?_)
  obtain ⟨eu, hw⟩ := hk
  rw [eu] at hP
  refine lv_if_eq (tgt := 20) hx hb dX6_behind_9 (by decide) (fun c2 => ?_) (fun c2 => ?_)
  · replace hw := hw.1 c2
    refine lv_iconst (v := (-1 : Int32)) hx hb dX6_behind_20 (by decide) ?_
    exact z_reti C hP hS ⟨_, rfl, hw⟩ dX6_behind_21
  · replace hw := hw.2 c2
    refine lv_aload_n hx hb dX6_behind_12 rfl (lv_at hl 0 rfl) ?_
    refine lv_iload_n hx hb dX6_behind_13 rfl (lv_at hl 2 rfl) ?_
    refine z_vi (C := RX6) (T := TX6) (N := 15) (o := 19) (rest := []) ⟨hx, hb, hml, hown, hts⟩ (m_X6_isPerson l hE hM X h x2 _ hw) (cwV 1 hts gX6_behind_X6_isPerson rfl rfl rfl (by decide +kernel) ⟨Nat.le_of_ble_eq_true rfl, Nat.le_of_ble_eq_true rfl⟩) hK hP hS (hM (19, 0) (List.mem_of_getElem? (i := 0) rfl)) z_l_19_0 rfl rfl hl.1 rfl (Nat.le_of_ble_eq_true rfl) dX6_behind_14 ⟨Nat.zero_le _, Nat.zero_le _⟩ (fun r3 u H locs hk hP hS => ?_)
    obtain ⟨eu, hw⟩ := hk
    rw [eu] at hP
    refine lv_if_ne (tgt := 22) hx hb dX6_behind_17 (by decide) (fun c4 => ?_) (fun c4 => ?_)
    · replace hw := hw.1 c4
      refine lv_aload_n hx hb dX6_behind_22 rfl (lv_at hl 0 rfl) ?_
      refine z_vv (C := RX6) (T := TX6) (N := 15) (o := 19) (rest := []) ⟨hx, hb, hml, hown, hts⟩ (m_X6_aside l hE hM X h _ hw) (cwV 0 hts gX6_behind_X6_aside rfl rfl rfl (by decide +kernel) ⟨Nat.le_of_ble_eq_true rfl, Nat.le_of_ble_eq_true rfl⟩) hK hP hS (hM (19, 0) (List.mem_of_getElem? (i := 0) rfl)) z_l_19_0 rfl rfl hl.1 rfl (Nat.le_of_ble_eq_true rfl) dX6_behind_23 ⟨Nat.zero_le _, Nat.zero_le _⟩ (fun u H locs hk hP hS => ?_)
      obtain ⟨h5, eu, hw⟩ := hk
      rw [eu] at hP
      refine lv_aload_n hx hb dX6_behind_26 rfl (lv_at hl 0 rfl) ?_
      refine lv_iload_n hx hb dX6_behind_27 rfl (lv_at hl 1 rfl) ?_
      refine z_vv (C := RX6) (T := TX6) (N := 15) (o := 19) (rest := []) ⟨hx, hb, hml, hown, hts⟩ (m_X6_goReigns l hE hM X h5 x1 _ hw) (cwV 1 hts gX6_behind_X6_goReigns rfl rfl rfl (by decide +kernel) ⟨Nat.le_of_ble_eq_true rfl, Nat.le_of_ble_eq_true rfl⟩) hK hP hS (hM (19, 0) (List.mem_of_getElem? (i := 0) rfl)) z_l_19_0 rfl rfl hl.1 rfl (Nat.le_of_ble_eq_true rfl) dX6_behind_28 ⟨Nat.zero_le _, Nat.zero_le _⟩ (fun u H locs hk hP hS => ?_)
      obtain ⟨h6, eu, hw⟩ := hk
      rw [eu] at hP
      refine lv_aload_n hx hb dX6_behind_31 rfl (lv_at hl 0 rfl) ?_
      refine z_getr (C := RX6) (T := TX6) (N := 15) (ref := "GauntletHallModel") (o := 19) (d := 0) hx hb hts hfX6 hown hK hP (hM (19, 0) (List.mem_of_getElem? (i := 0) rfl)) z_l_19_0 rfl 6 (by decide) (hts (.fieldLink RX6 25 "GauntletHallModel" "side" "[I") (by decide +kernel)) rfl rfl dX6_behind_32 ?_
      refine lv_iconst (v := (4 : Int32)) hx hb dX6_behind_35 (by decide) ?_
      refine lv_iload_n hx hb dX6_behind_36 rfl (lv_at hl 2 rfl) ?_
      refine lv_iadd hx hb dX6_behind_37 ?_
      obtain ⟨i7, hw⟩ := hw
      refine z_iald (o := 19) (d := 6) hx hb hK hP (hM (19, 6) (List.mem_of_getElem? (i := 6) rfl)) z_l_19_6 i7 (z_up_val X 19 h6 6 (z_n ((4 : Int32) + x2))) dX6_behind_38 ?_
      exact z_reti C hP hS ⟨_, rfl, hw⟩ dX6_behind_39
    · replace hw := hw.2 c4
      refine lv_iconst (v := (-1 : Int32)) hx hb dX6_behind_20 (by decide) ?_
      exact z_reti C hP hS ⟨_, rfl, hw⟩ dX6_behind_21
set_option maxHeartbeats 4000000 in
set_option maxRecDepth 100000 in
theorem m_X6_outMany_b4_s {p : Program} {l : Launch} {e : Env} {s : State} {m : MethodId} {args : Array Value} {below : List Frame} {meth : Method} {c : Code} {E : z_E} (C : z_Cx p E s m args meth c cX6_outMany 3 wsX6_outMany RX6 (some .int)) (hM : z_mod E) (X : z_X) (h : z_G) (K : Int32 → Prop) (L4 : Int32 → Int32 → Prop) (k4 : ∀ (x1 : Int32) (x2 : Int32), L4 x1 x2 → ∀ {H : Heap} {locs : List Loc}, z_P E (z_up X 19 h) H → va_S (z_A E) s.heap H locs → ∀ (ls : Array Slot), lv_has ls 3 [(0, .ref (z_a E 19 0)), (1, .int x1), (2, .int x2)] → W p l e rX6_outMany s m args below meth c H locs 0 0 (MQ below (va_Qi (fun r X' => X' = (z_up X 19 h) ∧ K r) (fun u t => z_P E u t.heap) (z_A E)) args s 0 0 (z_A E)) (F0 m 4 ls [])) (x1 : Int32) (x2 : Int32) (hw : v_X6_outMany_b4_s h K L4 x1 x2) {H : Heap} {locs : List Loc} (hP : z_P E (z_up X 19 h) H) (hS : va_S (z_A E) s.heap H locs) {ls : Array Slot} (hl : lv_has ls 3 [(0, .ref (z_a E 19 0)), (1, .int x1), (2, .int x2)]) : W p l e rX6_outMany s m args below meth c H locs 0 0 (MQ below (va_Qi (fun r X' => X' = (z_up X 19 h) ∧ K r) (fun u t => z_P E u t.heap) (z_A E)) args s 0 0 (z_A E)) (F0 m 4 ls []) := by
  obtain ⟨hx, hb, hml, hr, hlocks, hown, hts, hK, hE⟩ := id C
  have hfX6 : ∀ w ∈ u_ws RX6 TX6 15, w ∈ wsX6_outMany := by decide +kernel
  unfold v_X6_outMany_b4_s at hw
  refine lv_iload_n hx hb dX6_outMany_4 rfl (lv_at hl 2 rfl) ?_
  refine lv_aload_n hx hb dX6_outMany_5 rfl (lv_at hl 0 rfl) ?_
  refine z_getr (C := RX6) (T := TX6) (N := 15) (ref := "GauntletHallModel") (o := 19) (d := 0) hx hb hts hfX6 hown hK hP (hM (19, 0) (List.mem_of_getElem? (i := 0) rfl)) z_l_19_0 rfl 2 (by decide) (hts (.fieldLink RX6 13 "GauntletHallModel" "told" "[I") (by decide +kernel)) rfl rfl dX6_outMany_6 ?_
  refine lv_iconst (v := (0 : Int32)) hx hb dX6_outMany_9 (by decide) ?_
  obtain ⟨i1, hw⟩ := hw
  refine z_iald (o := 19) (d := 2) hx hb hK hP (hM (19, 2) (List.mem_of_getElem? (i := 2) rfl)) z_l_19_2 i1 (z_up_val X 19 h 2 (z_n (0 : Int32))) dX6_outMany_10 ?_
  refine lv_icmp_ge (tgt := 39) hx hb dX6_outMany_11 (by decide) (fun c2 => ?_) (fun c2 => ?_)
  · replace hw := hw.1 c2
    refine lv_iload_n hx hb dX6_outMany_39 rfl (lv_at hl 1 rfl) ?_
    exact z_reti C hP hS ⟨rfl, hw⟩ dX6_outMany_40
  · replace hw := hw.2 c2
    refine lv_iload_n hx hb dX6_outMany_14 rfl (lv_at hl 1 rfl) ?_
    refine lv_aload_n hx hb dX6_outMany_15 rfl (lv_at hl 0 rfl) ?_
    refine z_getr (C := RX6) (T := TX6) (N := 15) (ref := "GauntletHallModel") (o := 19) (d := 0) hx hb hts hfX6 hown hK hP (hM (19, 0) (List.mem_of_getElem? (i := 0) rfl)) z_l_19_0 rfl 5 (by decide) (hts (.fieldLink RX6 22 "GauntletHallModel" "now" "[I") (by decide +kernel)) rfl rfl dX6_outMany_16 ?_
    refine lv_iconst (v := (4 : Int32)) hx hb dX6_outMany_19 (by decide) ?_
    refine lv_iload_n hx hb dX6_outMany_20 rfl (lv_at hl 2 rfl) ?_
    refine lv_iadd hx hb dX6_outMany_21 ?_
    obtain ⟨i3, hw⟩ := hw
    refine z_iald (o := 19) (d := 5) hx hb hK hP (hM (19, 5) (List.mem_of_getElem? (i := 5) rfl)) z_l_19_5 i3 (z_up_val X 19 h 5 (z_n ((4 : Int32) + x2))) dX6_outMany_22 ?_
    refine lv_if_ne (tgt := 30) hx hb dX6_outMany_23 (by decide) (fun c4 => ?_) (fun c4 => ?_)
    · replace hw := hw.1 c4
      refine lv_iconst (v := (0 : Int32)) hx hb dX6_outMany_30 (by decide) ?_
      refine lv_iadd hx hb dX6_outMany_31 ?_
      refine lv_topi (fun y5 ey5 => ?_)
      replace hw := hw y5 ey5
      refine lv_istore_n (lv' := [(1, .int y5), (0, .ref (z_a E 19 0)), (2, .int x2)]) hx hb dX6_outMany_32 rfl hl (by decide) rfl (fun ls hl => ?_)
      obtain ⟨y6, ey6⟩ : ∃ z : Int32, z = x2 + (1 : Int32) := ⟨_, rfl⟩
      replace hw := hw y6 ey6
      refine lv_iinc (v := y6) (lv' := [(2, .int y6), (1, .int y5), (0, .ref (z_a E 19 0))]) hx hb dX6_outMany_33 hl (k := 2) rfl (by rw [ey6]; rfl) (by decide) rfl (fun ls hl => ?_)
      refine lv_goto (tgt := 4) hx hb dX6_outMany_36 (by decide) ?_
      exact k4 y5 y6 hw hP hS _ (lv_sub hl [2, 1, 0] rfl)
    · replace hw := hw.2 c4
      refine lv_iconst (v := (1 : Int32)) hx hb dX6_outMany_26 (by decide) ?_
      refine lv_goto (tgt := 31) hx hb dX6_outMany_27 (by decide) ?_
      refine lv_iadd hx hb dX6_outMany_31 ?_
      refine lv_topi (fun y7 ey7 => ?_)
      replace hw := hw y7 ey7
      refine lv_istore_n (lv' := [(1, .int y7), (0, .ref (z_a E 19 0)), (2, .int x2)]) hx hb dX6_outMany_32 rfl hl (by decide) rfl (fun ls hl => ?_)
      obtain ⟨y8, ey8⟩ : ∃ z : Int32, z = x2 + (1 : Int32) := ⟨_, rfl⟩
      replace hw := hw y8 ey8
      refine lv_iinc (v := y8) (lv' := [(2, .int y8), (1, .int y7), (0, .ref (z_a E 19 0))]) hx hb dX6_outMany_33 hl (k := 2) rfl (by rw [ey8]; rfl) (by decide) rfl (fun ls hl => ?_)
      refine lv_goto (tgt := 4) hx hb dX6_outMany_36 (by decide) ?_
      exact k4 y7 y8 hw hP hS _ (lv_sub hl [2, 1, 0] rfl)
theorem m_X6_outMany_b4 {p : Program} {l : Launch} {e : Env} {s : State} {m : MethodId} {args : Array Value} {below : List Frame} {meth : Method} {c : Code} {E : z_E} (C : z_Cx p E s m args meth c cX6_outMany 3 wsX6_outMany RX6 (some .int)) (hM : z_mod E) (X : z_X) (h : z_G) (K : Int32 → Prop) (x1 : Int32) (x2 : Int32) (hw : v_X6_outMany_b4 h K x1 x2) {H : Heap} {locs : List Loc} (hP : z_P E (z_up X 19 h) H) (hS : va_S (z_A E) s.heap H locs) {ls : Array Slot} (hl : lv_has ls 3 [(0, .ref (z_a E 19 0)), (1, .int x1), (2, .int x2)]) : W p l e rX6_outMany s m args below meth c H locs 0 0 (MQ below (va_Qi (fun r X' => X' = (z_up X 19 h) ∧ K r) (fun u t => z_P E u t.heap) (z_A E)) args s 0 0 (z_A E)) (F0 m 4 ls []) := by
  obtain ⟨n, hw⟩ := hw
  revert hw hP hS hl
  revert x1 x2 H locs ls
  induction n with
  | zero => intro x1 x2 H locs ls hP hS hl hw; exact hw.elim
  | succ n ih =>
    intro x1 x2 H locs ls hP hS hl hw
    exact m_X6_outMany_b4_s C hM X h K (fun x1 x2 => z_fp (σ := Int32 × Int32) (fun Lp q => v_X6_outMany_b4_s h K (fun x1 x2 => Lp (x1, x2)) q.1 q.2) n (x1, x2)) (fun x1 x2 h9 H locs hP hS ls hl => ih x1 x2 hP hS hl h9) x1 x2 hw hP hS hl
set_option maxHeartbeats 4000000 in
set_option maxRecDepth 100000 in
theorem m_X6_outMany (l : Launch) {E : z_E} (hE : z_ok E) (hM : z_mod E) (X : z_X) (h : z_G) (K : Int32 → Prop) (hw : v_X6_outMany h K) : z_CI l E yX6_outMany wsX6_outMany rX6_outMany [.ref (z_a E 19 0)] (z_up X 19 h) (fun r X' => X' = (z_up X 19 h) ∧ K r) := by
  refine z_start (cc := cX6_outMany) (maxL := 3) (ret := (some .int)) hE (by decide) rfl (Nat.le_of_ble_eq_true rfl) ?_
  intro p e s m below meth c C hP hS ls hl
  have C : z_Cx p E s m _ meth c cX6_outMany 3 wsX6_outMany RX6 (some .int) := C
  obtain ⟨hx, hb, hml, hr, hlocks, hown, hts, hK, hE⟩ := id C
  have hl : lv_has ls 3 [(0, .ref (z_a E 19 0))] := hl
  have hfX6 : ∀ w ∈ u_ws RX6 TX6 15, w ∈ wsX6_outMany := by decide +kernel
  unfold v_X6_outMany at hw
  refine lv_iconst (v := (0 : Int32)) hx hb dX6_outMany_0 (by decide) ?_
  refine lv_istore_n (lv' := [(1, .int (0 : Int32)), (0, .ref (z_a E 19 0))]) hx hb dX6_outMany_1 rfl hl (by decide) rfl (fun ls hl => ?_)
  refine lv_iconst (v := (0 : Int32)) hx hb dX6_outMany_2 (by decide) ?_
  refine lv_istore_n (lv' := [(2, .int (0 : Int32)), (1, .int (0 : Int32)), (0, .ref (z_a E 19 0))]) hx hb dX6_outMany_3 rfl hl (by decide) rfl (fun ls hl => ?_)
  exact m_X6_outMany_b4 C hM X h K (0 : Int32) (0 : Int32) hw hP hS (lv_sub hl [2, 1, 0] rfl)
set_option maxHeartbeats 4000000 in
set_option maxRecDepth 100000 in
theorem m_X6_ones_b4_s {p : Program} {l : Launch} {e : Env} {s : State} {m : MethodId} {args : Array Value} {below : List Frame} {meth : Method} {c : Code} {E : z_E} (C : z_Cx p E s m args meth c cX6_ones 3 wsX6_ones RX6 (some .int)) (X : z_X) (K : Int32 → Prop) (L4 : Int32 → Int32 → Prop) (k4 : ∀ (x1 : Int32) (x2 : Int32), L4 x1 x2 → ∀ {H : Heap} {locs : List Loc}, z_P E X H → va_S (z_A E) s.heap H locs → ∀ (ls : Array Slot), lv_has ls 3 [(1, .int x1), (2, .int x2)] → W p l e rX6_ones s m args below meth c H locs 0 0 (MQ below (va_Qi (fun r X' => X' = X ∧ K r) (fun u t => z_P E u t.heap) (z_A E)) args s 0 0 (z_A E)) (F0 m 4 ls [])) (x1 : Int32) (x2 : Int32) (hw : v_X6_ones_b4_s K L4 x1 x2) {H : Heap} {locs : List Loc} (hP : z_P E X H) (hS : va_S (z_A E) s.heap H locs) {ls : Array Slot} (hl : lv_has ls 3 [(1, .int x1), (2, .int x2)]) : W p l e rX6_ones s m args below meth c H locs 0 0 (MQ below (va_Qi (fun r X' => X' = X ∧ K r) (fun u t => z_P E u t.heap) (z_A E)) args s 0 0 (z_A E)) (F0 m 4 ls []) := by
  obtain ⟨hx, hb, hml, hr, hlocks, hown, hts, hK, hE⟩ := id C
  unfold v_X6_ones_b4_s at hw
  refine lv_iload_n hx hb dX6_ones_4 rfl (lv_at hl 1 rfl) ?_
  refine lv_if_eq (tgt := 20) hx hb dX6_ones_5 (by decide) (fun c1 => ?_) (fun c1 => ?_)
  · replace hw := hw.1 c1
    refine lv_iload_n hx hb dX6_ones_20 rfl (lv_at hl 0 rfl) ?_
    exact z_reti C hP hS ⟨rfl, hw⟩ dX6_ones_21
  · replace hw := hw.2 c1
    obtain ⟨y2, ey2⟩ : ∃ z : Int32, z = x1 + (1 : Int32) := ⟨_, rfl⟩
    replace hw := hw y2 ey2
    refine lv_iinc (v := y2) (lv' := [(1, .int y2), (2, .int x2)]) hx hb dX6_ones_8 hl (k := 0) rfl (by rw [ey2]; rfl) (by decide) rfl (fun ls hl => ?_)
    refine lv_iload_n hx hb dX6_ones_11 rfl (lv_at hl 1 rfl) ?_
    refine lv_iload_n hx hb dX6_ones_12 rfl (lv_at hl 1 rfl) ?_
    refine lv_iconst (v := (1 : Int32)) hx hb dX6_ones_13 (by decide) ?_
    refine lv_isub hx hb dX6_ones_14 ?_
    refine lv_iand hx hb dX6_ones_15 ?_
    refine lv_topi (fun y3 ey3 => ?_)
    replace hw := hw y3 ey3
    refine lv_istore_n (lv' := [(2, .int y3), (1, .int y2)]) hx hb dX6_ones_16 rfl hl (by decide) rfl (fun ls hl => ?_)
    refine lv_goto (tgt := 4) hx hb dX6_ones_17 (by decide) ?_
    exact k4 y2 y3 hw hP hS _ (lv_sub hl [1, 0] rfl)
theorem m_X6_ones_b4 {p : Program} {l : Launch} {e : Env} {s : State} {m : MethodId} {args : Array Value} {below : List Frame} {meth : Method} {c : Code} {E : z_E} (C : z_Cx p E s m args meth c cX6_ones 3 wsX6_ones RX6 (some .int)) (X : z_X) (K : Int32 → Prop) (x1 : Int32) (x2 : Int32) (hw : v_X6_ones_b4 K x1 x2) {H : Heap} {locs : List Loc} (hP : z_P E X H) (hS : va_S (z_A E) s.heap H locs) {ls : Array Slot} (hl : lv_has ls 3 [(1, .int x1), (2, .int x2)]) : W p l e rX6_ones s m args below meth c H locs 0 0 (MQ below (va_Qi (fun r X' => X' = X ∧ K r) (fun u t => z_P E u t.heap) (z_A E)) args s 0 0 (z_A E)) (F0 m 4 ls []) := by
  obtain ⟨n, hw⟩ := hw
  revert hw hP hS hl
  revert x1 x2 H locs ls
  induction n with
  | zero => intro x1 x2 H locs ls hP hS hl hw; exact hw.elim
  | succ n ih =>
    intro x1 x2 H locs ls hP hS hl hw
    exact m_X6_ones_b4_s C X K (fun x1 x2 => z_fp (σ := Int32 × Int32) (fun Lp q => v_X6_ones_b4_s K (fun x1 x2 => Lp (x1, x2)) q.1 q.2) n (x1, x2)) (fun x1 x2 h9 H locs hP hS ls hl => ih x1 x2 hP hS hl h9) x1 x2 hw hP hS hl
set_option maxHeartbeats 4000000 in
set_option maxRecDepth 100000 in
theorem m_X6_ones (l : Launch) {E : z_E} (hE : z_ok E) (X : z_X) (x0 : Int32) (K : Int32 → Prop) (hw : v_X6_ones x0 K) : z_CI l E yX6_ones wsX6_ones rX6_ones [.int x0] X (fun r X' => X' = X ∧ K r) := by
  refine z_start (cc := cX6_ones) (maxL := 3) (ret := (some .int)) hE (by decide) rfl (Nat.le_of_ble_eq_true rfl) ?_
  intro p e s m below meth c C hP hS ls hl
  have C : z_Cx p E s m _ meth c cX6_ones 3 wsX6_ones RX6 (some .int) := C
  obtain ⟨hx, hb, hml, hr, hlocks, hown, hts, hK, hE⟩ := id C
  have hl : lv_has ls 3 [(0, .int x0)] := hl
  unfold v_X6_ones at hw
  refine lv_iconst (v := (0 : Int32)) hx hb dX6_ones_0 (by decide) ?_
  refine lv_istore_n (lv' := [(1, .int (0 : Int32)), (0, .int x0)]) hx hb dX6_ones_1 rfl hl (by decide) rfl (fun ls hl => ?_)
  refine lv_iload_n hx hb dX6_ones_2 rfl (lv_at hl 1 rfl) ?_
  refine lv_istore_n (lv' := [(2, .int x0), (1, .int (0 : Int32)), (0, .int x0)]) hx hb dX6_ones_3 rfl hl (by decide) rfl (fun ls hl => ?_)
  exact m_X6_ones_b4 C X K (0 : Int32) x0 hw hP hS (lv_sub hl [1, 0] rfl)
set_option maxHeartbeats 4000000 in
set_option maxRecDepth 100000 in
theorem m_X6_count (l : Launch) {E : z_E} (hE : z_ok E) (hM : z_mod E) (X : z_X) (h : z_G) (x1 : Int32) (K : Int32 → Prop) (hw : v_X6_count h x1 K) : z_CI l E yX6_count wsX6_count rX6_count [.ref (z_a E 19 0), .int x1] (z_up X 19 h) (fun r X' => X' = (z_up X 19 h) ∧ K r) := by
  refine z_start (cc := cX6_count) (maxL := 2) (ret := (some .int)) hE (by decide) rfl (Nat.le_of_ble_eq_true rfl) ?_
  intro p e s m below meth c C hP hS ls hl
  have C : z_Cx p E s m _ meth c cX6_count 2 wsX6_count RX6 (some .int) := C
  obtain ⟨hx, hb, hml, hr, hlocks, hown, hts, hK, hE⟩ := id C
  have hl : lv_has ls 2 [(0, .ref (z_a E 19 0)), (1, .int x1)] := hl
  have hfX6 : ∀ w ∈ u_ws RX6 TX6 15, w ∈ wsX6_count := by decide +kernel
  unfold v_X6_count at hw
  refine lv_iload_n hx hb dX6_count_0 rfl (lv_at hl 1 rfl) ?_
  by_cases c1 : x1 = (0 : Int32)
  · replace hw := hw.1 c1
    refine lv_tableIn (x := x1) (off := 55) (tgt := 56) hx hb dX6_count_1 (by rw [c1]; decide) (by rw [c1]; decide) (by rw [c1]; rfl) (by decide) ?_
    refine lv_aload_n hx hb dX6_count_56 rfl (lv_at hl 0 rfl) ?_
    refine z_getr (C := RX6) (T := TX6) (N := 15) (ref := "GauntletHallModel") (o := 19) (d := 0) hx hb hts hfX6 hown hK hP (hM (19, 0) (List.mem_of_getElem? (i := 0) rfl)) z_l_19_0 rfl 2 (by decide) (hts (.fieldLink RX6 13 "GauntletHallModel" "told" "[I") (by decide +kernel)) rfl rfl dX6_count_57 ?_
    refine lv_iconst (v := (0 : Int32)) hx hb dX6_count_60 (by decide) ?_
    obtain ⟨i2, hw⟩ := hw
    refine z_iald (o := 19) (d := 2) hx hb hK hP (hM (19, 2) (List.mem_of_getElem? (i := 2) rfl)) z_l_19_2 i2 (z_up_val X 19 h 2 (z_n (0 : Int32))) dX6_count_61 ?_
    exact z_reti C hP hS ⟨rfl, hw⟩ dX6_count_62
  by_cases c3 : x1 = (1 : Int32)
  · replace hw := hw.2.1 c3
    refine lv_tableIn (x := x1) (off := 62) (tgt := 63) hx hb dX6_count_1 (by rw [c3]; decide) (by rw [c3]; decide) (by rw [c3]; rfl) (by decide) ?_
    refine lv_aload_n hx hb dX6_count_63 rfl (lv_at hl 0 rfl) ?_
    refine z_getr (C := RX6) (T := TX6) (N := 15) (ref := "GauntletHallModel") (o := 19) (d := 0) hx hb hts hfX6 hown hK hP (hM (19, 0) (List.mem_of_getElem? (i := 0) rfl)) z_l_19_0 rfl 5 (by decide) (hts (.fieldLink RX6 22 "GauntletHallModel" "now" "[I") (by decide +kernel)) rfl rfl dX6_count_64 ?_
    refine lv_iconst (v := (2 : Int32)) hx hb dX6_count_67 (by decide) ?_
    obtain ⟨i4, hw⟩ := hw
    refine z_iald (o := 19) (d := 5) hx hb hK hP (hM (19, 5) (List.mem_of_getElem? (i := 5) rfl)) z_l_19_5 i4 (z_up_val X 19 h 5 (z_n (2 : Int32))) dX6_count_68 ?_
    exact z_reti C hP hS ⟨rfl, hw⟩ dX6_count_69
  by_cases c5 : x1 = (2 : Int32)
  · replace hw := hw.2.2.1 c5
    refine lv_tableIn (x := x1) (off := 69) (tgt := 70) hx hb dX6_count_1 (by rw [c5]; decide) (by rw [c5]; decide) (by rw [c5]; rfl) (by decide) ?_
    refine lv_aload_n hx hb dX6_count_70 rfl (lv_at hl 0 rfl) ?_
    refine z_getr (C := RX6) (T := TX6) (N := 15) (ref := "GauntletHallModel") (o := 19) (d := 0) hx hb hts hfX6 hown hK hP (hM (19, 0) (List.mem_of_getElem? (i := 0) rfl)) z_l_19_0 rfl 5 (by decide) (hts (.fieldLink RX6 22 "GauntletHallModel" "now" "[I") (by decide +kernel)) rfl rfl dX6_count_71 ?_
    refine lv_iconst (v := (0 : Int32)) hx hb dX6_count_74 (by decide) ?_
    obtain ⟨i6, hw⟩ := hw
    refine z_iald (o := 19) (d := 5) hx hb hK hP (hM (19, 5) (List.mem_of_getElem? (i := 5) rfl)) z_l_19_5 i6 (z_up_val X 19 h 5 (z_n (0 : Int32))) dX6_count_75 ?_
    exact z_reti C hP hS ⟨rfl, hw⟩ dX6_count_76
  by_cases c7 : x1 = (3 : Int32)
  · replace hw := hw.2.2.2.1 c7
    refine lv_tableIn (x := x1) (off := 76) (tgt := 77) hx hb dX6_count_1 (by rw [c7]; decide) (by rw [c7]; decide) (by rw [c7]; rfl) (by decide) ?_
    refine lv_aload_n hx hb dX6_count_77 rfl (lv_at hl 0 rfl) ?_
    refine z_vi (C := RX6) (T := TX6) (N := 15) (o := 19) (rest := []) ⟨hx, hb, hml, hown, hts⟩ (m_X6_outMany l hE hM X h _ hw) (cwV 0 hts gX6_count_X6_outMany rfl rfl rfl (by decide +kernel) ⟨Nat.le_of_ble_eq_true rfl, Nat.le_of_ble_eq_true rfl⟩) hK hP hS (hM (19, 0) (List.mem_of_getElem? (i := 0) rfl)) z_l_19_0 rfl rfl hl.1 rfl (Nat.le_of_ble_eq_true rfl) dX6_count_78 ⟨Nat.zero_le _, Nat.zero_le _⟩ (fun r8 u H locs hk hP hS => ?_)
    obtain ⟨eu, hw⟩ := hk
    rw [eu] at hP
    exact z_reti C hP hS ⟨rfl, hw⟩ dX6_count_81
  by_cases c9 : x1 = (4 : Int32)
  · replace hw := hw.2.2.2.2.1 c9
    refine lv_tableIn (x := x1) (off := 81) (tgt := 82) hx hb dX6_count_1 (by rw [c9]; decide) (by rw [c9]; decide) (by rw [c9]; rfl) (by decide) ?_
    refine lv_aload_n hx hb dX6_count_82 rfl (lv_at hl 0 rfl) ?_
    refine z_getr (C := RX6) (T := TX6) (N := 15) (ref := "GauntletHallModel") (o := 19) (d := 0) hx hb hts hfX6 hown hK hP (hM (19, 0) (List.mem_of_getElem? (i := 0) rfl)) z_l_19_0 rfl 5 (by decide) (hts (.fieldLink RX6 22 "GauntletHallModel" "now" "[I") (by decide +kernel)) rfl rfl dX6_count_83 ?_
    refine lv_iconst (v := (3 : Int32)) hx hb dX6_count_86 (by decide) ?_
    obtain ⟨i10, hw⟩ := hw
    refine z_iald (o := 19) (d := 5) hx hb hK hP (hM (19, 5) (List.mem_of_getElem? (i := 5) rfl)) z_l_19_5 i10 (z_up_val X 19 h 5 (z_n (3 : Int32))) dX6_count_87 ?_
    refine z_si (rest := []) ⟨hx, hb, hml, hown, hts⟩ (m_X6_ones l hE (z_up X 19 h) (h 5 (z_n (3 : Int32))) _ hw) (va_cwS 1 hts gX6_count_X6_ones rfl rfl rfl (by decide +kernel) ⟨Nat.le_of_ble_eq_true rfl, Nat.le_of_ble_eq_true rfl⟩) hK hP hS rfl hl.1 rfl (Nat.le_of_ble_eq_true rfl) dX6_count_88 ⟨Nat.zero_le _, Nat.zero_le _⟩ (fun r11 u H locs hk hP hS => ?_)
    obtain ⟨eu, hw⟩ := hk
    rw [eu] at hP
    exact z_reti C hP hS ⟨rfl, hw⟩ dX6_count_91
  by_cases c12 : x1 = (5 : Int32)
  · replace hw := hw.2.2.2.2.2.1 c12
    refine lv_tableIn (x := x1) (off := 91) (tgt := 92) hx hb dX6_count_1 (by rw [c12]; decide) (by rw [c12]; decide) (by rw [c12]; rfl) (by decide) ?_
    refine lv_aload_n hx hb dX6_count_92 rfl (lv_at hl 0 rfl) ?_
    refine z_getr (C := RX6) (T := TX6) (N := 15) (ref := "GauntletHallModel") (o := 19) (d := 0) hx hb hts hfX6 hown hK hP (hM (19, 0) (List.mem_of_getElem? (i := 0) rfl)) z_l_19_0 rfl 5 (by decide) (hts (.fieldLink RX6 22 "GauntletHallModel" "now" "[I") (by decide +kernel)) rfl rfl dX6_count_93 ?_
    refine lv_iconst (v := (1 : Int32)) hx hb dX6_count_96 (by decide) ?_
    obtain ⟨i13, hw⟩ := hw
    refine z_iald (o := 19) (d := 5) hx hb hK hP (hM (19, 5) (List.mem_of_getElem? (i := 5) rfl)) z_l_19_5 i13 (z_up_val X 19 h 5 (z_n (1 : Int32))) dX6_count_97 ?_
    exact z_reti C hP hS ⟨rfl, hw⟩ dX6_count_98
  by_cases c14 : x1 = (6 : Int32)
  · replace hw := hw.2.2.2.2.2.2.1 c14
    refine lv_tableIn (x := x1) (off := 98) (tgt := 99) hx hb dX6_count_1 (by rw [c14]; decide) (by rw [c14]; decide) (by rw [c14]; rfl) (by decide) ?_
    refine lv_aload_n hx hb dX6_count_99 rfl (lv_at hl 0 rfl) ?_
    refine z_geti (C := RX6) (T := TX6) (N := 15) (ref := "GauntletHallModel") (o := 19) (d := 0) hx hb hts hfX6 hown hK hP (hM (19, 0) (List.mem_of_getElem? (i := 0) rfl)) z_l_19_0 rfl 12 (by decide) (hts (.fieldLink RX6 93 "GauntletHallModel" "seenMany" "I") (by decide +kernel)) rfl rfl (z_up_val X 19 h 0 12) dX6_count_100 ?_
    exact z_reti C hP hS ⟨rfl, hw⟩ dX6_count_103
  by_cases c15 : x1 = (7 : Int32)
  · replace hw := hw.2.2.2.2.2.2.2.1 c15
    refine lv_tableIn (x := x1) (off := 103) (tgt := 104) hx hb dX6_count_1 (by rw [c15]; decide) (by rw [c15]; decide) (by rw [c15]; rfl) (by decide) ?_
    refine lv_aload_n hx hb dX6_count_104 rfl (lv_at hl 0 rfl) ?_
    refine z_geti (C := RX6) (T := TX6) (N := 15) (ref := "GauntletHallModel") (o := 19) (d := 0) hx hb hts hfX6 hown hK hP (hM (19, 0) (List.mem_of_getElem? (i := 0) rfl)) z_l_19_0 rfl 8 (by decide) (hts (.fieldLink RX6 96 "GauntletHallModel" "undoMany" "I") (by decide +kernel)) rfl rfl (z_up_val X 19 h 0 8) dX6_count_105 ?_
    exact z_reti C hP hS ⟨rfl, hw⟩ dX6_count_108
  by_cases c16 : x1 = (8 : Int32)
  · replace hw := hw.2.2.2.2.2.2.2.2.1 c16
    refine lv_tableIn (x := x1) (off := 108) (tgt := 109) hx hb dX6_count_1 (by rw [c16]; decide) (by rw [c16]; decide) (by rw [c16]; rfl) (by decide) ?_
    refine lv_aload_n hx hb dX6_count_109 rfl (lv_at hl 0 rfl) ?_
    refine z_geti (C := RX6) (T := TX6) (N := 15) (ref := "GauntletHallModel") (o := 19) (d := 0) hx hb hts hfX6 hown hK hP (hM (19, 0) (List.mem_of_getElem? (i := 0) rfl)) z_l_19_0 rfl 10 (by decide) (hts (.fieldLink RX6 99 "GauntletHallModel" "keptMany" "I") (by decide +kernel)) rfl rfl (z_up_val X 19 h 0 10) dX6_count_110 ?_
    exact z_reti C hP hS ⟨rfl, hw⟩ dX6_count_113
  by_cases c17 : x1 = (9 : Int32)
  · replace hw := hw.2.2.2.2.2.2.2.2.2.1 c17
    refine lv_tableIn (x := x1) (off := 113) (tgt := 114) hx hb dX6_count_1 (by rw [c17]; decide) (by rw [c17]; decide) (by rw [c17]; rfl) (by decide) ?_
    refine lv_aload_n hx hb dX6_count_114 rfl (lv_at hl 0 rfl) ?_
    refine z_geti (C := RX6) (T := TX6) (N := 15) (ref := "GauntletHallModel") (o := 19) (d := 0) hx hb hts hfX6 hown hK hP (hM (19, 0) (List.mem_of_getElem? (i := 0) rfl)) z_l_19_0 rfl 0 (by decide) (hts (.fieldLink RX6 61 "GauntletHallModel" "length" "I") (by decide +kernel)) rfl rfl (z_up_val X 19 h 0 0) dX6_count_115 ?_
    exact z_reti C hP hS ⟨rfl, hw⟩ dX6_count_118
  replace hw := hw.2.2.2.2.2.2.2.2.2.2 c1 c3 c5 c7 c9 c12 c14 c15 c16 c17
  have hne : (x1).toInt < 0 ∨ 9 < (x1).toInt := by
    have n0 := lv_neT (a := 0) c1 rfl
    have n1 := lv_neT (a := 1) c3 rfl
    have n2 := lv_neT (a := 2) c5 rfl
    have n3 := lv_neT (a := 3) c7 rfl
    have n4 := lv_neT (a := 4) c9 rfl
    have n5 := lv_neT (a := 5) c12 rfl
    have n6 := lv_neT (a := 6) c14 rfl
    have n7 := lv_neT (a := 7) c15 rfl
    have n8 := lv_neT (a := 8) c16 rfl
    have n9 := lv_neT (a := 9) c17 rfl
    omega
  refine lv_tableOut (x := x1) (tgt := 119) hx hb dX6_count_1 hne (by decide) ?_
  refine lv_iconst (v := (-1 : Int32)) hx hb dX6_count_119 (by decide) ?_
  exact z_reti C hP hS ⟨rfl, hw⟩ dX6_count_120
set_option maxHeartbeats 4000000 in
set_option maxRecDepth 100000 in
theorem m_X6_lays (l : Launch) {E : z_E} (hE : z_ok E) (hM : z_mod E) (X : z_X) (h : z_G) (x1 : Int32) (x2 : Int32) (x3 : Int32) (x4 : Int32) (K : z_G → Prop) (hw : v_X6_lays h x1 x2 x3 x4 K) : z_CV l E yX6_lays wsX6_lays rX6_lays [.ref (z_a E 19 0), .int x1, .int x2, .int x3, .int x4] (z_up X 19 h) (fun X' => ∃ h', X' = z_up X 19 h' ∧ K h') := by
  refine z_start (cc := cX6_lays) (maxL := 5) (ret := none) hE (by decide) rfl (Nat.le_of_ble_eq_true rfl) ?_
  intro p e s m below meth c C hP hS ls hl
  have C : z_Cx p E s m _ meth c cX6_lays 5 wsX6_lays RX6 none := C
  obtain ⟨hx, hb, hml, hr, hlocks, hown, hts, hK, hE⟩ := id C
  have hl : lv_has ls 5 [(0, .ref (z_a E 19 0)), (1, .int x1), (2, .int x2), (3, .int x3), (4, .int x4)] := hl
  have hfX6 : ∀ w ∈ u_ws RX6 TX6 15, w ∈ wsX6_lays := by decide +kernel
  unfold v_X6_lays at hw
  refine lv_aload_n hx hb dX6_lays_0 rfl (lv_at hl 0 rfl) ?_
  refine z_getr (C := RX6) (T := TX6) (N := 15) (ref := "GauntletHallModel") (o := 19) (d := 0) hx hb hts hfX6 hown hK hP (hM (19, 0) (List.mem_of_getElem? (i := 0) rfl)) z_l_19_0 rfl 6 (by decide) (hts (.fieldLink RX6 25 "GauntletHallModel" "side" "[I") (by decide +kernel)) rfl rfl dX6_lays_1 ?_
  refine lv_bipush (v := (10 : Int32)) hx hb dX6_lays_4 (by decide) ?_
  refine lv_iload_n hx hb dX6_lays_6 rfl (lv_at hl 1 rfl) ?_
  refine lv_iadd hx hb dX6_lays_7 ?_
  refine lv_iload_n hx hb dX6_lays_8 rfl (lv_at hl 2 rfl) ?_
  obtain ⟨i1, hw⟩ := hw
  obtain ⟨h2, eh2⟩ : ∃ z : z_G, z = z_ss h 6 (z_n ((10 : Int32) + x1)) x2 := ⟨_, rfl⟩
  replace hw := hw h2 eh2
  refine z_iast (o := 19) (d := 6) (X' := z_up X 19 h2) hx hb hK hE hP hS (hM (19, 6) (List.mem_of_getElem? (i := 6) rfl)) z_l_19_6 i1 (by rw [eh2]; exact z_up_put X 19 h 6 (z_n ((10 : Int32) + x1)) _) dX6_lays_9 (fun H locs hP hS => ?_)
  refine lv_aload_n hx hb dX6_lays_10 rfl (lv_at hl 0 rfl) ?_
  refine z_getr (C := RX6) (T := TX6) (N := 15) (ref := "GauntletHallModel") (o := 19) (d := 0) hx hb hts hfX6 hown hK hP (hM (19, 0) (List.mem_of_getElem? (i := 0) rfl)) z_l_19_0 rfl 6 (by decide) (hts (.fieldLink RX6 25 "GauntletHallModel" "side" "[I") (by decide +kernel)) rfl rfl dX6_lays_11 ?_
  refine lv_bipush (v := (18 : Int32)) hx hb dX6_lays_14 (by decide) ?_
  refine lv_iload_n hx hb dX6_lays_16 rfl (lv_at hl 1 rfl) ?_
  refine lv_iadd hx hb dX6_lays_17 ?_
  refine lv_iload_n hx hb dX6_lays_18 rfl (lv_at hl 3 rfl) ?_
  obtain ⟨i3, hw⟩ := hw
  obtain ⟨h4, eh4⟩ : ∃ z : z_G, z = z_ss h2 6 (z_n ((18 : Int32) + x1)) x3 := ⟨_, rfl⟩
  replace hw := hw h4 eh4
  refine z_iast (o := 19) (d := 6) (X' := z_up X 19 h4) hx hb hK hE hP hS (hM (19, 6) (List.mem_of_getElem? (i := 6) rfl)) z_l_19_6 i3 (by rw [eh4]; exact z_up_put X 19 h2 6 (z_n ((18 : Int32) + x1)) _) dX6_lays_19 (fun H locs hP hS => ?_)
  refine lv_aload_n hx hb dX6_lays_20 rfl (lv_at hl 0 rfl) ?_
  refine z_getr (C := RX6) (T := TX6) (N := 15) (ref := "GauntletHallModel") (o := 19) (d := 0) hx hb hts hfX6 hown hK hP (hM (19, 0) (List.mem_of_getElem? (i := 0) rfl)) z_l_19_0 rfl 6 (by decide) (hts (.fieldLink RX6 25 "GauntletHallModel" "side" "[I") (by decide +kernel)) rfl rfl dX6_lays_21 ?_
  refine lv_bipush (v := (26 : Int32)) hx hb dX6_lays_24 (by decide) ?_
  refine lv_iload_n hx hb dX6_lays_26 rfl (lv_at hl 1 rfl) ?_
  refine lv_iadd hx hb dX6_lays_27 ?_
  refine lv_iload hx hb dX6_lays_28 (lv_at hl 4 rfl) ?_
  obtain ⟨i5, hw⟩ := hw
  obtain ⟨h6, eh6⟩ : ∃ z : z_G, z = z_ss h4 6 (z_n ((26 : Int32) + x1)) x4 := ⟨_, rfl⟩
  replace hw := hw h6 eh6
  refine z_iast (o := 19) (d := 6) (X' := z_up X 19 h6) hx hb hK hE hP hS (hM (19, 6) (List.mem_of_getElem? (i := 6) rfl)) z_l_19_6 i5 (by rw [eh6]; exact z_up_put X 19 h4 6 (z_n ((26 : Int32) + x1)) _) dX6_lays_30 (fun H locs hP hS => ?_)
  refine lv_aload_n hx hb dX6_lays_31 rfl (lv_at hl 0 rfl) ?_
  refine z_getr (C := RX6) (T := TX6) (N := 15) (ref := "GauntletHallModel") (o := 19) (d := 0) hx hb hts hfX6 hown hK hP (hM (19, 0) (List.mem_of_getElem? (i := 0) rfl)) z_l_19_0 rfl 6 (by decide) (hts (.fieldLink RX6 25 "GauntletHallModel" "side" "[I") (by decide +kernel)) rfl rfl dX6_lays_32 ?_
  refine lv_bipush (v := (34 : Int32)) hx hb dX6_lays_35 (by decide) ?_
  refine lv_iload_n hx hb dX6_lays_37 rfl (lv_at hl 1 rfl) ?_
  refine lv_iadd hx hb dX6_lays_38 ?_
  refine lv_iconst (v := (0 : Int32)) hx hb dX6_lays_39 (by decide) ?_
  obtain ⟨i7, hw⟩ := hw
  obtain ⟨h8, eh8⟩ : ∃ z : z_G, z = z_ss h6 6 (z_n ((34 : Int32) + x1)) (0 : Int32) := ⟨_, rfl⟩
  replace hw := hw h8 eh8
  refine z_iast (o := 19) (d := 6) (X' := z_up X 19 h8) hx hb hK hE hP hS (hM (19, 6) (List.mem_of_getElem? (i := 6) rfl)) z_l_19_6 i7 (by rw [eh8]; exact z_up_put X 19 h6 6 (z_n ((34 : Int32) + x1)) _) dX6_lays_40 (fun H locs hP hS => ?_)
  refine lv_aload_n hx hb dX6_lays_41 rfl (lv_at hl 0 rfl) ?_
  refine z_getr (C := RX6) (T := TX6) (N := 15) (ref := "GauntletHallModel") (o := 19) (d := 0) hx hb hts hfX6 hown hK hP (hM (19, 0) (List.mem_of_getElem? (i := 0) rfl)) z_l_19_0 rfl 6 (by decide) (hts (.fieldLink RX6 25 "GauntletHallModel" "side" "[I") (by decide +kernel)) rfl rfl dX6_lays_42 ?_
  refine lv_iconst (v := (3 : Int32)) hx hb dX6_lays_45 (by decide) ?_
  refine lv_dup2_11 hx hb dX6_lays_46 rfl rfl ?_
  obtain ⟨i9, hw⟩ := hw
  refine z_iald (o := 19) (d := 6) hx hb hK hP (hM (19, 6) (List.mem_of_getElem? (i := 6) rfl)) z_l_19_6 i9 (z_up_val X 19 h8 6 (z_n (3 : Int32))) dX6_lays_47 ?_
  refine lv_iconst (v := (1 : Int32)) hx hb dX6_lays_48 (by decide) ?_
  refine lv_iload_n hx hb dX6_lays_49 rfl (lv_at hl 1 rfl) ?_
  refine lv_ishl hx hb dX6_lays_50 ?_
  refine lv_ior hx hb dX6_lays_51 ?_
  obtain ⟨i10, hw⟩ := hw
  obtain ⟨h11, eh11⟩ : ∃ z : z_G, z = z_ss h8 6 (z_n (3 : Int32)) ((h8 6 (z_n (3 : Int32))) ||| ((1 : Int32) <<< (x1 &&& (31 : Int32)))) := ⟨_, rfl⟩
  replace hw := hw h11 eh11
  refine z_iast (o := 19) (d := 6) (X' := z_up X 19 h11) hx hb hK hE hP hS (hM (19, 6) (List.mem_of_getElem? (i := 6) rfl)) z_l_19_6 i10 (by rw [eh11]; exact z_up_put X 19 h8 6 (z_n (3 : Int32)) _) dX6_lays_52 (fun H locs hP hS => ?_)
  exact z_retv C hP hS ⟨_, rfl, hw⟩ dX6_lays_53
