/-! ===== PRINTED (wip/whole/gen/gen.py): the machine meets each definition: X6.isTakenBy, X6.dare, X6.empty, X6.letterAt ===== -/
set_option maxHeartbeats 4000000 in
set_option maxRecDepth 100000 in
theorem m_X6_isTakenBy_b132 {p : Program} {l : Launch} {e : Env} {s : State} {m : MethodId} {args : Array Value} {below : List Frame} {meth : Method} {c : Code} {E : z_E} (C : z_Cx p E s m args meth c cX6_isTakenBy 6 wsX6_isTakenBy RX6 (some .boolean)) (hM : z_mod E) (X : z_X) (K : Int32 → z_G → Prop) (L2 : z_G → Int32 → Int32 → Int32 → Prop) (k2 : ∀ (h : z_G) (x1 : Int32) (x2 : Int32) (x3 : Int32), L2 h x1 x2 x3 → ∀ {H : Heap} {locs : List Loc}, z_P E (z_up X 19 h) H → va_S (z_A E) s.heap H locs → ∀ (ls : Array Slot), lv_has ls 6 [(0, .ref (z_a E 19 0)), (1, .int x1), (2, .int x2), (3, .int x3)] → W p l e rX6_isTakenBy s m args below meth c H locs 0 0 (MQ below (va_Qi (fun r X' => ∃ h', X' = z_up X 19 h' ∧ K r h') (fun u t => z_P E u t.heap) (z_A E)) args s 0 0 (z_A E)) (F0 m 2 ls [])) (L91 : z_G → Int32 → Int32 → Int32 → Int32 → Prop) (k91 : ∀ (h : z_G) (x1 : Int32) (x2 : Int32) (x3 : Int32) (x4 : Int32), L91 h x1 x2 x3 x4 → ∀ {H : Heap} {locs : List Loc}, z_P E (z_up X 19 h) H → va_S (z_A E) s.heap H locs → ∀ (ls : Array Slot), lv_has ls 6 [(0, .ref (z_a E 19 0)), (1, .int x1), (2, .int x2), (3, .int x3), (4, .int x4)] → W p l e rX6_isTakenBy s m args below meth c H locs 0 0 (MQ below (va_Qi (fun r X' => ∃ h', X' = z_up X 19 h' ∧ K r h') (fun u t => z_P E u t.heap) (z_A E)) args s 0 0 (z_A E)) (F0 m 91 ls [])) (h : z_G) (x1 : Int32) (x2 : Int32) (x3 : Int32) (x4 : Int32) (t1 : Int32) (t2 : Int32) (t3 : Int32) (hw : v_X6_isTakenBy_b132 K L2 L91 h x1 x2 x3 x4 t1 t2 t3) {H : Heap} {locs : List Loc} (hP : z_P E (z_up X 19 h) H) (hS : va_S (z_A E) s.heap H locs) {ls : Array Slot} (hl : lv_has ls 6 [(0, .ref (z_a E 19 0)), (1, .int x1), (2, .int x2), (3, .int x3), (4, .int x4)]) : W p l e rX6_isTakenBy s m args below meth c H locs 0 0 (MQ below (va_Qi (fun r X' => ∃ h', X' = z_up X 19 h' ∧ K r h') (fun u t => z_P E u t.heap) (z_A E)) args s 0 0 (z_A E)) (F0 m 132 ls [.int t3, .int t2, .int t1, .ref (z_a E 19 6)]) := by
  obtain ⟨hx, hb, hml, hr, hlocks, hown, hts, hK, hE⟩ := id C
  have hfX6 : ∀ w ∈ u_ws RX6 TX6 15, w ∈ wsX6_isTakenBy := by decide +kernel
  unfold v_X6_isTakenBy_b132 at hw
  refine lv_iadd hx hb dX6_isTakenBy_132 ?_
  obtain ⟨i11, hw⟩ := hw
  obtain ⟨h12, eh12⟩ : ∃ z : z_G, z = z_ss h 6 (z_n t1) (t2 + t3) := ⟨_, rfl⟩
  replace hw := hw h12 eh12
  refine z_iast (o := 19) (d := 6) (X' := z_up X 19 h12) hx hb hK hE hP hS (hM (19, 6) (List.mem_of_getElem? (i := 6) rfl)) z_l_19_6 i11 (by rw [eh12]; exact z_up_put X 19 h 6 (z_n t1) _) dX6_isTakenBy_133 (fun H locs hP hS => ?_)
  obtain ⟨y13, ey13⟩ : ∃ z : Int32, z = x4 + (1 : Int32) := ⟨_, rfl⟩
  replace hw := hw y13 ey13
  refine lv_iinc (v := y13) (lv' := [(4, .int y13), (0, .ref (z_a E 19 0)), (1, .int x1), (2, .int x2), (3, .int x3)]) hx hb dX6_isTakenBy_134 hl (k := 4) rfl (by rw [ey13]; rfl) (by decide) rfl (fun ls hl => ?_)
  refine lv_goto (tgt := 91) hx hb dX6_isTakenBy_137 (by decide) ?_
  exact k91 h12 x1 x2 x3 y13 hw hP hS _ (lv_sub hl [1, 2, 3, 4, 0] rfl)
set_option maxHeartbeats 4000000 in
set_option maxRecDepth 100000 in
theorem m_X6_isTakenBy_b91_s {p : Program} {l : Launch} {e : Env} {s : State} {m : MethodId} {args : Array Value} {below : List Frame} {meth : Method} {c : Code} {E : z_E} (C : z_Cx p E s m args meth c cX6_isTakenBy 6 wsX6_isTakenBy RX6 (some .boolean)) (hM : z_mod E) (X : z_X) (K : Int32 → z_G → Prop) (L2 : z_G → Int32 → Int32 → Int32 → Prop) (k2 : ∀ (h : z_G) (x1 : Int32) (x2 : Int32) (x3 : Int32), L2 h x1 x2 x3 → ∀ {H : Heap} {locs : List Loc}, z_P E (z_up X 19 h) H → va_S (z_A E) s.heap H locs → ∀ (ls : Array Slot), lv_has ls 6 [(0, .ref (z_a E 19 0)), (1, .int x1), (2, .int x2), (3, .int x3)] → W p l e rX6_isTakenBy s m args below meth c H locs 0 0 (MQ below (va_Qi (fun r X' => ∃ h', X' = z_up X 19 h' ∧ K r h') (fun u t => z_P E u t.heap) (z_A E)) args s 0 0 (z_A E)) (F0 m 2 ls [])) (L91 : z_G → Int32 → Int32 → Int32 → Int32 → Prop) (k91 : ∀ (h : z_G) (x1 : Int32) (x2 : Int32) (x3 : Int32) (x4 : Int32), L91 h x1 x2 x3 x4 → ∀ {H : Heap} {locs : List Loc}, z_P E (z_up X 19 h) H → va_S (z_A E) s.heap H locs → ∀ (ls : Array Slot), lv_has ls 6 [(0, .ref (z_a E 19 0)), (1, .int x1), (2, .int x2), (3, .int x3), (4, .int x4)] → W p l e rX6_isTakenBy s m args below meth c H locs 0 0 (MQ below (va_Qi (fun r X' => ∃ h', X' = z_up X 19 h' ∧ K r h') (fun u t => z_P E u t.heap) (z_A E)) args s 0 0 (z_A E)) (F0 m 91 ls [])) (h : z_G) (x1 : Int32) (x2 : Int32) (x3 : Int32) (x4 : Int32) (hw : v_X6_isTakenBy_b91_s K L2 L91 h x1 x2 x3 x4) {H : Heap} {locs : List Loc} (hP : z_P E (z_up X 19 h) H) (hS : va_S (z_A E) s.heap H locs) {ls : Array Slot} (hl : lv_has ls 6 [(0, .ref (z_a E 19 0)), (1, .int x1), (2, .int x2), (3, .int x3), (4, .int x4)]) : W p l e rX6_isTakenBy s m args below meth c H locs 0 0 (MQ below (va_Qi (fun r X' => ∃ h', X' = z_up X 19 h' ∧ K r h') (fun u t => z_P E u t.heap) (z_A E)) args s 0 0 (z_A E)) (F0 m 91 ls []) := by
  obtain ⟨hx, hb, hml, hr, hlocks, hown, hts, hK, hE⟩ := id C
  have hfX6 : ∀ w ∈ u_ws RX6 TX6 15, w ∈ wsX6_isTakenBy := by decide +kernel
  unfold v_X6_isTakenBy_b91_s at hw
  refine lv_iload hx hb dX6_isTakenBy_91 (lv_at hl 4 rfl) ?_
  refine lv_aload_n hx hb dX6_isTakenBy_93 rfl (lv_at hl 0 rfl) ?_
  refine z_getr (C := RX6) (T := TX6) (N := 15) (ref := "GauntletHallModel") (o := 19) (d := 0) hx hb hts hfX6 hown hK hP (hM (19, 0) (List.mem_of_getElem? (i := 0) rfl)) z_l_19_0 rfl 6 (by decide) (hts (.fieldLink RX6 25 "GauntletHallModel" "side" "[I") (by decide +kernel)) rfl rfl dX6_isTakenBy_94 ?_
  refine lv_iconst (v := (2 : Int32)) hx hb dX6_isTakenBy_97 (by decide) ?_
  obtain ⟨i4, hw⟩ := hw
  refine z_iald (o := 19) (d := 6) hx hb hK hP (hM (19, 6) (List.mem_of_getElem? (i := 6) rfl)) z_l_19_6 i4 (z_up_val X 19 h 6 (z_n (2 : Int32))) dX6_isTakenBy_98 ?_
  refine lv_icmp_ge (tgt := 140) hx hb dX6_isTakenBy_99 (by decide) (fun c5 => ?_) (fun c5 => ?_)
  · replace hw := hw.1 c5
    obtain ⟨y6, ey6⟩ : ∃ z : Int32, z = x3 + (1 : Int32) := ⟨_, rfl⟩
    replace hw := hw y6 ey6
    refine lv_iinc (v := y6) (lv' := [(3, .int y6), (0, .ref (z_a E 19 0)), (1, .int x1), (2, .int x2), (4, .int x4)]) hx hb dX6_isTakenBy_140 hl (k := 3) rfl (by rw [ey6]; rfl) (by decide) rfl (fun ls hl => ?_)
    refine lv_goto (tgt := 2) hx hb dX6_isTakenBy_143 (by decide) ?_
    exact k2 h x1 x2 y6 hw hP hS _ (lv_sub hl [1, 2, 3, 0] rfl)
  · replace hw := hw.2 c5
    refine lv_aload_n hx hb dX6_isTakenBy_102 rfl (lv_at hl 0 rfl) ?_
    refine z_getr (C := RX6) (T := TX6) (N := 15) (ref := "GauntletHallModel") (o := 19) (d := 0) hx hb hts hfX6 hown hK hP (hM (19, 0) (List.mem_of_getElem? (i := 0) rfl)) z_l_19_0 rfl 6 (by decide) (hts (.fieldLink RX6 25 "GauntletHallModel" "side" "[I") (by decide +kernel)) rfl rfl dX6_isTakenBy_103 ?_
    refine lv_bipush (v := (34 : Int32)) hx hb dX6_isTakenBy_106 (by decide) ?_
    refine lv_iload hx hb dX6_isTakenBy_108 (lv_at hl 4 rfl) ?_
    refine lv_iadd hx hb dX6_isTakenBy_110 ?_
    refine lv_dup2_11 hx hb dX6_isTakenBy_111 rfl rfl ?_
    obtain ⟨i7, hw⟩ := hw
    refine z_iald (o := 19) (d := 6) hx hb hK hP (hM (19, 6) (List.mem_of_getElem? (i := 6) rfl)) z_l_19_6 i7 (z_up_val X 19 h 6 (z_n ((34 : Int32) + x4))) dX6_isTakenBy_112 ?_
    refine lv_aload_n hx hb dX6_isTakenBy_113 rfl (lv_at hl 0 rfl) ?_
    refine z_getr (C := RX6) (T := TX6) (N := 15) (ref := "GauntletHallModel") (o := 19) (d := 0) hx hb hts hfX6 hown hK hP (hM (19, 0) (List.mem_of_getElem? (i := 0) rfl)) z_l_19_0 rfl 6 (by decide) (hts (.fieldLink RX6 25 "GauntletHallModel" "side" "[I") (by decide +kernel)) rfl rfl dX6_isTakenBy_114 ?_
    refine lv_iconst (v := (3 : Int32)) hx hb dX6_isTakenBy_117 (by decide) ?_
    obtain ⟨i8, hw⟩ := hw
    refine z_iald (o := 19) (d := 6) hx hb hK hP (hM (19, 6) (List.mem_of_getElem? (i := 6) rfl)) z_l_19_6 i8 (z_up_val X 19 h 6 (z_n (3 : Int32))) dX6_isTakenBy_118 ?_
    refine lv_iload hx hb dX6_isTakenBy_119 (lv_at hl 4 rfl) ?_
    refine z_si (rest := [.int (h 6 (z_n ((34 : Int32) + x4))), .int ((34 : Int32) + x4), .ref (z_a E 19 6)]) ⟨hx, hb, hml, hown, hts⟩ (m_X6_has l hE (z_up X 19 h) (h 6 (z_n (3 : Int32))) x4 _ hw) (va_cwS 2 hts gX6_isTakenBy_X6_has rfl rfl rfl (by decide +kernel) ⟨Nat.le_of_ble_eq_true rfl, Nat.le_of_ble_eq_true rfl⟩) hK hP hS rfl hl.1 rfl (Nat.le_of_ble_eq_true rfl) dX6_isTakenBy_121 ⟨Nat.zero_le _, Nat.zero_le _⟩ (fun r9 u H locs hk hP hS => ?_)
    obtain ⟨eu, hw⟩ := hk
    rw [eu] at hP
    refine lv_if_eq (tgt := 131) hx hb dX6_isTakenBy_124 (by decide) (fun c10 => ?_) (fun c10 => ?_)
    · replace hw := hw.1 c10
      refine lv_iconst (v := (0 : Int32)) hx hb dX6_isTakenBy_131 (by decide) ?_
      exact m_X6_isTakenBy_b132 C hM X K L2 k2 L91 k91 h x1 x2 x3 x4 ((34 : Int32) + x4) (h 6 (z_n ((34 : Int32) + x4))) (0 : Int32) hw hP hS (lv_sub hl [0, 1, 2, 3, 4] rfl)
    · replace hw := hw.2 c10
      refine lv_iconst (v := (1 : Int32)) hx hb dX6_isTakenBy_127 (by decide) ?_
      refine lv_goto (tgt := 132) hx hb dX6_isTakenBy_128 (by decide) ?_
      exact m_X6_isTakenBy_b132 C hM X K L2 k2 L91 k91 h x1 x2 x3 x4 ((34 : Int32) + x4) (h 6 (z_n ((34 : Int32) + x4))) (1 : Int32) hw hP hS (lv_sub hl [0, 1, 2, 3, 4] rfl)
theorem m_X6_isTakenBy_b91 {p : Program} {l : Launch} {e : Env} {s : State} {m : MethodId} {args : Array Value} {below : List Frame} {meth : Method} {c : Code} {E : z_E} (C : z_Cx p E s m args meth c cX6_isTakenBy 6 wsX6_isTakenBy RX6 (some .boolean)) (hM : z_mod E) (X : z_X) (K : Int32 → z_G → Prop) (L2 : z_G → Int32 → Int32 → Int32 → Prop) (k2 : ∀ (h : z_G) (x1 : Int32) (x2 : Int32) (x3 : Int32), L2 h x1 x2 x3 → ∀ {H : Heap} {locs : List Loc}, z_P E (z_up X 19 h) H → va_S (z_A E) s.heap H locs → ∀ (ls : Array Slot), lv_has ls 6 [(0, .ref (z_a E 19 0)), (1, .int x1), (2, .int x2), (3, .int x3)] → W p l e rX6_isTakenBy s m args below meth c H locs 0 0 (MQ below (va_Qi (fun r X' => ∃ h', X' = z_up X 19 h' ∧ K r h') (fun u t => z_P E u t.heap) (z_A E)) args s 0 0 (z_A E)) (F0 m 2 ls [])) (h : z_G) (x1 : Int32) (x2 : Int32) (x3 : Int32) (x4 : Int32) (hw : v_X6_isTakenBy_b91 K L2 h x1 x2 x3 x4) {H : Heap} {locs : List Loc} (hP : z_P E (z_up X 19 h) H) (hS : va_S (z_A E) s.heap H locs) {ls : Array Slot} (hl : lv_has ls 6 [(0, .ref (z_a E 19 0)), (1, .int x1), (2, .int x2), (3, .int x3), (4, .int x4)]) : W p l e rX6_isTakenBy s m args below meth c H locs 0 0 (MQ below (va_Qi (fun r X' => ∃ h', X' = z_up X 19 h' ∧ K r h') (fun u t => z_P E u t.heap) (z_A E)) args s 0 0 (z_A E)) (F0 m 91 ls []) := by
  obtain ⟨n, hw⟩ := hw
  revert hw hP hS hl
  revert h x1 x2 x3 x4 H locs ls
  induction n with
  | zero => intro h x1 x2 x3 x4 H locs ls hP hS hl hw; exact hw.elim
  | succ n ih =>
    intro h x1 x2 x3 x4 H locs ls hP hS hl hw
    exact m_X6_isTakenBy_b91_s C hM X K L2 k2 (fun h x1 x2 x3 x4 => z_fp (σ := z_G × Int32 × Int32 × Int32 × Int32) (fun Lp q => v_X6_isTakenBy_b91_s K L2 (fun h x1 x2 x3 x4 => Lp (h, x1, x2, x3, x4)) q.1 q.2.1 q.2.2.1 q.2.2.2.1 q.2.2.2.2) n (h, x1, x2, x3, x4)) (fun h x1 x2 x3 x4 h9 H locs hP hS ls hl => ih h x1 x2 x3 x4 hP hS hl h9) h x1 x2 x3 x4 hw hP hS hl
set_option maxHeartbeats 4000000 in
set_option maxRecDepth 100000 in
theorem m_X6_isTakenBy_b47 {p : Program} {l : Launch} {e : Env} {s : State} {m : MethodId} {args : Array Value} {below : List Frame} {meth : Method} {c : Code} {E : z_E} (C : z_Cx p E s m args meth c cX6_isTakenBy 6 wsX6_isTakenBy RX6 (some .boolean)) (hM : z_mod E) (X : z_X) (K : Int32 → z_G → Prop) (L2 : z_G → Int32 → Int32 → Int32 → Prop) (k2 : ∀ (h : z_G) (x1 : Int32) (x2 : Int32) (x3 : Int32), L2 h x1 x2 x3 → ∀ {H : Heap} {locs : List Loc}, z_P E (z_up X 19 h) H → va_S (z_A E) s.heap H locs → ∀ (ls : Array Slot), lv_has ls 6 [(0, .ref (z_a E 19 0)), (1, .int x1), (2, .int x2), (3, .int x3)] → W p l e rX6_isTakenBy s m args below meth c H locs 0 0 (MQ below (va_Qi (fun r X' => ∃ h', X' = z_up X 19 h' ∧ K r h') (fun u t => z_P E u t.heap) (z_A E)) args s 0 0 (z_A E)) (F0 m 2 ls [])) (L11 : z_G → Int32 → Int32 → Int32 → Int32 → Prop) (k11 : ∀ (h : z_G) (x1 : Int32) (x2 : Int32) (x3 : Int32) (x4 : Int32), L11 h x1 x2 x3 x4 → ∀ {H : Heap} {locs : List Loc}, z_P E (z_up X 19 h) H → va_S (z_A E) s.heap H locs → ∀ (ls : Array Slot), lv_has ls 6 [(0, .ref (z_a E 19 0)), (1, .int x1), (2, .int x2), (3, .int x3), (4, .int x4)] → W p l e rX6_isTakenBy s m args below meth c H locs 0 0 (MQ below (va_Qi (fun r X' => ∃ h', X' = z_up X 19 h' ∧ K r h') (fun u t => z_P E u t.heap) (z_A E)) args s 0 0 (z_A E)) (F0 m 11 ls [])) (h : z_G) (x1 : Int32) (x2 : Int32) (x3 : Int32) (x4 : Int32) (t0 : Int32) (hw : v_X6_isTakenBy_b47 K L2 L11 h x1 x2 x3 x4 t0) {H : Heap} {locs : List Loc} (hP : z_P E (z_up X 19 h) H) (hS : va_S (z_A E) s.heap H locs) {ls : Array Slot} (hl : lv_has ls 6 [(0, .ref (z_a E 19 0)), (1, .int x1), (2, .int x2), (3, .int x3), (4, .int x4)]) : W p l e rX6_isTakenBy s m args below meth c H locs 0 0 (MQ below (va_Qi (fun r X' => ∃ h', X' = z_up X 19 h' ∧ K r h') (fun u t => z_P E u t.heap) (z_A E)) args s 0 0 (z_A E)) (F0 m 47 ls [.int t0]) := by
  obtain ⟨hx, hb, hml, hr, hlocks, hown, hts, hK, hE⟩ := id C
  have hfX6 : ∀ w ∈ u_ws RX6 TX6 15, w ∈ wsX6_isTakenBy := by decide +kernel
  unfold v_X6_isTakenBy_b47 at hw
  refine lv_istore (lv' := [(5, .int t0), (0, .ref (z_a E 19 0)), (1, .int x1), (2, .int x2), (3, .int x3), (4, .int x4)]) hx hb dX6_isTakenBy_47 hl (by decide) rfl (fun ls hl => ?_)
  refine lv_iload hx hb dX6_isTakenBy_49 (lv_at hl 0 rfl) ?_
  refine lv_iload_n hx hb dX6_isTakenBy_51 rfl (lv_at hl 2 rfl) ?_
  refine lv_icmp_ne (tgt := 67) hx hb dX6_isTakenBy_52 (by decide) (fun c16 => ?_) (fun c16 => ?_)
  · replace hw := hw.1 c16
    refine lv_iload hx hb dX6_isTakenBy_67 (lv_at hl 0 rfl) ?_
    refine lv_bipush (v := (-4 : Int32)) hx hb dX6_isTakenBy_69 (by decide) ?_
    refine lv_icmp_eq (tgt := 82) hx hb dX6_isTakenBy_71 (by decide) (fun c17 => ?_) (fun c17 => ?_)
    · replace hw := hw.1 c17
      obtain ⟨y18, ey18⟩ : ∃ z : Int32, z = x4 + (1 : Int32) := ⟨_, rfl⟩
      replace hw := hw y18 ey18
      refine lv_iinc (v := y18) (lv' := [(4, .int y18), (5, .int t0), (0, .ref (z_a E 19 0)), (1, .int x1), (2, .int x2), (3, .int x3)]) hx hb dX6_isTakenBy_82 hl (k := 5) rfl (by rw [ey18]; rfl) (by decide) rfl (fun ls hl => ?_)
      refine lv_goto (tgt := 11) hx hb dX6_isTakenBy_85 (by decide) ?_
      exact k11 h x1 x2 x3 y18 hw hP hS _ (lv_sub hl [2, 3, 4, 5, 0] rfl)
    · replace hw := hw.2 c17
      refine lv_aload_n hx hb dX6_isTakenBy_74 rfl (lv_at hl 1 rfl) ?_
      refine lv_iload hx hb dX6_isTakenBy_75 (lv_at hl 5 rfl) ?_
      refine lv_iload hx hb dX6_isTakenBy_77 (lv_at hl 0 rfl) ?_
      refine z_vv (C := RX6) (T := TX6) (N := 15) (o := 19) (rest := []) ⟨hx, hb, hml, hown, hts⟩ (m_X6_goWear l hE hM X h x4 t0 _ hw) (cwV 2 hts gX6_isTakenBy_X6_goWear rfl rfl rfl (by decide +kernel) ⟨Nat.le_of_ble_eq_true rfl, Nat.le_of_ble_eq_true rfl⟩) hK hP hS (hM (19, 0) (List.mem_of_getElem? (i := 0) rfl)) z_l_19_0 rfl rfl hl.1 rfl (Nat.le_of_ble_eq_true rfl) dX6_isTakenBy_79 ⟨Nat.zero_le _, Nat.zero_le _⟩ (fun u H locs hk hP hS => ?_)
      obtain ⟨h19, eu, hw⟩ := hk
      rw [eu] at hP
      obtain ⟨y20, ey20⟩ : ∃ z : Int32, z = x4 + (1 : Int32) := ⟨_, rfl⟩
      replace hw := hw y20 ey20
      refine lv_iinc (v := y20) (lv' := [(4, .int y20), (5, .int t0), (0, .ref (z_a E 19 0)), (1, .int x1), (2, .int x2), (3, .int x3)]) hx hb dX6_isTakenBy_82 hl (k := 5) rfl (by rw [ey20]; rfl) (by decide) rfl (fun ls hl => ?_)
      refine lv_goto (tgt := 11) hx hb dX6_isTakenBy_85 (by decide) ?_
      exact k11 h19 x1 x2 x3 y20 hw hP hS _ (lv_sub hl [2, 3, 4, 5, 0] rfl)
  · replace hw := hw.2 c16
    refine lv_iload hx hb dX6_isTakenBy_55 (lv_at hl 5 rfl) ?_
    refine lv_iload_n hx hb dX6_isTakenBy_57 rfl (lv_at hl 3 rfl) ?_
    refine lv_icmp_ne (tgt := 65) hx hb dX6_isTakenBy_58 (by decide) (fun c21 => ?_) (fun c21 => ?_)
    · replace hw := hw.1 c21
      refine lv_iconst (v := (0 : Int32)) hx hb dX6_isTakenBy_65 (by decide) ?_
      exact z_retz C (Or.inl rfl) hP hS ⟨_, rfl, hw⟩ dX6_isTakenBy_66
    · replace hw := hw.2 c21
      refine lv_iconst (v := (1 : Int32)) hx hb dX6_isTakenBy_61 (by decide) ?_
      refine lv_goto (tgt := 66) hx hb dX6_isTakenBy_62 (by decide) ?_
      exact z_retz C (Or.inr rfl) hP hS ⟨_, rfl, hw⟩ dX6_isTakenBy_66
set_option maxHeartbeats 4000000 in
set_option maxRecDepth 100000 in
theorem m_X6_isTakenBy_b11_s {p : Program} {l : Launch} {e : Env} {s : State} {m : MethodId} {args : Array Value} {below : List Frame} {meth : Method} {c : Code} {E : z_E} (C : z_Cx p E s m args meth c cX6_isTakenBy 6 wsX6_isTakenBy RX6 (some .boolean)) (hM : z_mod E) (X : z_X) (K : Int32 → z_G → Prop) (L2 : z_G → Int32 → Int32 → Int32 → Prop) (k2 : ∀ (h : z_G) (x1 : Int32) (x2 : Int32) (x3 : Int32), L2 h x1 x2 x3 → ∀ {H : Heap} {locs : List Loc}, z_P E (z_up X 19 h) H → va_S (z_A E) s.heap H locs → ∀ (ls : Array Slot), lv_has ls 6 [(0, .ref (z_a E 19 0)), (1, .int x1), (2, .int x2), (3, .int x3)] → W p l e rX6_isTakenBy s m args below meth c H locs 0 0 (MQ below (va_Qi (fun r X' => ∃ h', X' = z_up X 19 h' ∧ K r h') (fun u t => z_P E u t.heap) (z_A E)) args s 0 0 (z_A E)) (F0 m 2 ls [])) (L11 : z_G → Int32 → Int32 → Int32 → Int32 → Prop) (k11 : ∀ (h : z_G) (x1 : Int32) (x2 : Int32) (x3 : Int32) (x4 : Int32), L11 h x1 x2 x3 x4 → ∀ {H : Heap} {locs : List Loc}, z_P E (z_up X 19 h) H → va_S (z_A E) s.heap H locs → ∀ (ls : Array Slot), lv_has ls 6 [(0, .ref (z_a E 19 0)), (1, .int x1), (2, .int x2), (3, .int x3), (4, .int x4)] → W p l e rX6_isTakenBy s m args below meth c H locs 0 0 (MQ below (va_Qi (fun r X' => ∃ h', X' = z_up X 19 h' ∧ K r h') (fun u t => z_P E u t.heap) (z_A E)) args s 0 0 (z_A E)) (F0 m 11 ls [])) (h : z_G) (x1 : Int32) (x2 : Int32) (x3 : Int32) (x4 : Int32) (hw : v_X6_isTakenBy_b11_s K L2 L11 h x1 x2 x3 x4) {H : Heap} {locs : List Loc} (hP : z_P E (z_up X 19 h) H) (hS : va_S (z_A E) s.heap H locs) {ls : Array Slot} (hl : lv_has ls 6 [(0, .ref (z_a E 19 0)), (1, .int x1), (2, .int x2), (3, .int x3), (4, .int x4)]) : W p l e rX6_isTakenBy s m args below meth c H locs 0 0 (MQ below (va_Qi (fun r X' => ∃ h', X' = z_up X 19 h' ∧ K r h') (fun u t => z_P E u t.heap) (z_A E)) args s 0 0 (z_A E)) (F0 m 11 ls []) := by
  obtain ⟨hx, hb, hml, hr, hlocks, hown, hts, hK, hE⟩ := id C
  have hfX6 : ∀ w ∈ u_ws RX6 TX6 15, w ∈ wsX6_isTakenBy := by decide +kernel
  unfold v_X6_isTakenBy_b11_s at hw
  refine lv_iload hx hb dX6_isTakenBy_11 (lv_at hl 4 rfl) ?_
  refine lv_aload_n hx hb dX6_isTakenBy_13 rfl (lv_at hl 0 rfl) ?_
  refine z_getr (C := RX6) (T := TX6) (N := 15) (ref := "GauntletHallModel") (o := 19) (d := 0) hx hb hts hfX6 hown hK hP (hM (19, 0) (List.mem_of_getElem? (i := 0) rfl)) z_l_19_0 rfl 2 (by decide) (hts (.fieldLink RX6 13 "GauntletHallModel" "told" "[I") (by decide +kernel)) rfl rfl dX6_isTakenBy_14 ?_
  refine lv_iconst (v := (0 : Int32)) hx hb dX6_isTakenBy_17 (by decide) ?_
  obtain ⟨i2, hw⟩ := hw
  refine z_iald (o := 19) (d := 2) hx hb hK hP (hM (19, 2) (List.mem_of_getElem? (i := 2) rfl)) z_l_19_2 i2 (z_up_val X 19 h 2 (z_n (0 : Int32))) dX6_isTakenBy_18 ?_
  refine lv_icmp_ge (tgt := 88) hx hb dX6_isTakenBy_19 (by decide) (fun c3 => ?_) (fun c3 => ?_)
  · replace hw := hw.1 c3
    refine lv_iconst (v := (0 : Int32)) hx hb dX6_isTakenBy_88 (by decide) ?_
    refine lv_istore (lv' := [(4, .int (0 : Int32)), (0, .ref (z_a E 19 0)), (1, .int x1), (2, .int x2), (3, .int x3)]) hx hb dX6_isTakenBy_89 hl (by decide) rfl (fun ls hl => ?_)
    exact m_X6_isTakenBy_b91 C hM X K L2 k2 h x1 x2 x3 (0 : Int32) hw hP hS (lv_sub hl [1, 2, 3, 4, 0] rfl)
  · replace hw := hw.2 c3
    refine lv_aload_n hx hb dX6_isTakenBy_22 rfl (lv_at hl 0 rfl) ?_
    refine z_getr (C := RX6) (T := TX6) (N := 15) (ref := "GauntletHallModel") (o := 19) (d := 0) hx hb hts hfX6 hown hK hP (hM (19, 0) (List.mem_of_getElem? (i := 0) rfl)) z_l_19_0 rfl 2 (by decide) (hts (.fieldLink RX6 13 "GauntletHallModel" "told" "[I") (by decide +kernel)) rfl rfl dX6_isTakenBy_23 ?_
    refine lv_bipush (v := (7 : Int32)) hx hb dX6_isTakenBy_26 (by decide) ?_
    refine lv_iload hx hb dX6_isTakenBy_28 (lv_at hl 4 rfl) ?_
    refine lv_iadd hx hb dX6_isTakenBy_30 ?_
    obtain ⟨i14, hw⟩ := hw
    refine z_iald (o := 19) (d := 2) hx hb hK hP (hM (19, 2) (List.mem_of_getElem? (i := 2) rfl)) z_l_19_2 i14 (z_up_val X 19 h 2 (z_n ((7 : Int32) + x4))) dX6_isTakenBy_31 ?_
    refine lv_iconst (v := (1 : Int32)) hx hb dX6_isTakenBy_32 (by decide) ?_
    refine lv_icmp_ne (tgt := 45) hx hb dX6_isTakenBy_33 (by decide) (fun c15 => ?_) (fun c15 => ?_)
    · replace hw := hw.1 c15
      refine lv_bipush (v := (-4 : Int32)) hx hb dX6_isTakenBy_45 (by decide) ?_
      exact m_X6_isTakenBy_b47 C hM X K L2 k2 L11 k11 h x1 x2 x3 x4 (-4 : Int32) hw hP hS (lv_sub hl [0, 1, 2, 3, 4] rfl)
    · replace hw := hw.2 c15
      refine lv_aload_n hx hb dX6_isTakenBy_36 rfl (lv_at hl 0 rfl) ?_
      refine lv_iload hx hb dX6_isTakenBy_37 (lv_at hl 4 rfl) ?_
      refine z_vi (C := RX6) (T := TX6) (N := 15) (o := 19) (rest := []) ⟨hx, hb, hml, hown, hts⟩ (m_X6_lowestFit l hE hM X h x4 _ hw) (cwV 1 hts gX6_isTakenBy_X6_lowestFit rfl rfl rfl (by decide +kernel) ⟨Nat.le_of_ble_eq_true rfl, Nat.le_of_ble_eq_true rfl⟩) hK hP hS (hM (19, 0) (List.mem_of_getElem? (i := 0) rfl)) z_l_19_0 rfl rfl hl.1 rfl (Nat.le_of_ble_eq_true rfl) dX6_isTakenBy_39 ⟨Nat.zero_le _, Nat.zero_le _⟩ (fun r22 u H locs hk hP hS => ?_)
      obtain ⟨eu, hw⟩ := hk
      rw [eu] at hP
      refine lv_goto (tgt := 47) hx hb dX6_isTakenBy_42 (by decide) ?_
      exact m_X6_isTakenBy_b47 C hM X K L2 k2 L11 k11 h x1 x2 x3 x4 r22 hw hP hS (lv_sub hl [0, 1, 2, 3, 4] rfl)
theorem m_X6_isTakenBy_b11 {p : Program} {l : Launch} {e : Env} {s : State} {m : MethodId} {args : Array Value} {below : List Frame} {meth : Method} {c : Code} {E : z_E} (C : z_Cx p E s m args meth c cX6_isTakenBy 6 wsX6_isTakenBy RX6 (some .boolean)) (hM : z_mod E) (X : z_X) (K : Int32 → z_G → Prop) (L2 : z_G → Int32 → Int32 → Int32 → Prop) (k2 : ∀ (h : z_G) (x1 : Int32) (x2 : Int32) (x3 : Int32), L2 h x1 x2 x3 → ∀ {H : Heap} {locs : List Loc}, z_P E (z_up X 19 h) H → va_S (z_A E) s.heap H locs → ∀ (ls : Array Slot), lv_has ls 6 [(0, .ref (z_a E 19 0)), (1, .int x1), (2, .int x2), (3, .int x3)] → W p l e rX6_isTakenBy s m args below meth c H locs 0 0 (MQ below (va_Qi (fun r X' => ∃ h', X' = z_up X 19 h' ∧ K r h') (fun u t => z_P E u t.heap) (z_A E)) args s 0 0 (z_A E)) (F0 m 2 ls [])) (h : z_G) (x1 : Int32) (x2 : Int32) (x3 : Int32) (x4 : Int32) (hw : v_X6_isTakenBy_b11 K L2 h x1 x2 x3 x4) {H : Heap} {locs : List Loc} (hP : z_P E (z_up X 19 h) H) (hS : va_S (z_A E) s.heap H locs) {ls : Array Slot} (hl : lv_has ls 6 [(0, .ref (z_a E 19 0)), (1, .int x1), (2, .int x2), (3, .int x3), (4, .int x4)]) : W p l e rX6_isTakenBy s m args below meth c H locs 0 0 (MQ below (va_Qi (fun r X' => ∃ h', X' = z_up X 19 h' ∧ K r h') (fun u t => z_P E u t.heap) (z_A E)) args s 0 0 (z_A E)) (F0 m 11 ls []) := by
  obtain ⟨n, hw⟩ := hw
  revert hw hP hS hl
  revert h x1 x2 x3 x4 H locs ls
  induction n with
  | zero => intro h x1 x2 x3 x4 H locs ls hP hS hl hw; exact hw.elim
  | succ n ih =>
    intro h x1 x2 x3 x4 H locs ls hP hS hl hw
    exact m_X6_isTakenBy_b11_s C hM X K L2 k2 (fun h x1 x2 x3 x4 => z_fp (σ := z_G × Int32 × Int32 × Int32 × Int32) (fun Lp q => v_X6_isTakenBy_b11_s K L2 (fun h x1 x2 x3 x4 => Lp (h, x1, x2, x3, x4)) q.1 q.2.1 q.2.2.1 q.2.2.2.1 q.2.2.2.2) n (h, x1, x2, x3, x4)) (fun h x1 x2 x3 x4 h9 H locs hP hS ls hl => ih h x1 x2 x3 x4 hP hS hl h9) h x1 x2 x3 x4 hw hP hS hl
set_option maxHeartbeats 4000000 in
set_option maxRecDepth 100000 in
theorem m_X6_isTakenBy_b2_s {p : Program} {l : Launch} {e : Env} {s : State} {m : MethodId} {args : Array Value} {below : List Frame} {meth : Method} {c : Code} {E : z_E} (C : z_Cx p E s m args meth c cX6_isTakenBy 6 wsX6_isTakenBy RX6 (some .boolean)) (hM : z_mod E) (X : z_X) (K : Int32 → z_G → Prop) (L2 : z_G → Int32 → Int32 → Int32 → Prop) (k2 : ∀ (h : z_G) (x1 : Int32) (x2 : Int32) (x3 : Int32), L2 h x1 x2 x3 → ∀ {H : Heap} {locs : List Loc}, z_P E (z_up X 19 h) H → va_S (z_A E) s.heap H locs → ∀ (ls : Array Slot), lv_has ls 6 [(0, .ref (z_a E 19 0)), (1, .int x1), (2, .int x2), (3, .int x3)] → W p l e rX6_isTakenBy s m args below meth c H locs 0 0 (MQ below (va_Qi (fun r X' => ∃ h', X' = z_up X 19 h' ∧ K r h') (fun u t => z_P E u t.heap) (z_A E)) args s 0 0 (z_A E)) (F0 m 2 ls [])) (h : z_G) (x1 : Int32) (x2 : Int32) (x3 : Int32) (hw : v_X6_isTakenBy_b2_s K L2 h x1 x2 x3) {H : Heap} {locs : List Loc} (hP : z_P E (z_up X 19 h) H) (hS : va_S (z_A E) s.heap H locs) {ls : Array Slot} (hl : lv_has ls 6 [(0, .ref (z_a E 19 0)), (1, .int x1), (2, .int x2), (3, .int x3)]) : W p l e rX6_isTakenBy s m args below meth c H locs 0 0 (MQ below (va_Qi (fun r X' => ∃ h', X' = z_up X 19 h' ∧ K r h') (fun u t => z_P E u t.heap) (z_A E)) args s 0 0 (z_A E)) (F0 m 2 ls []) := by
  obtain ⟨hx, hb, hml, hr, hlocks, hown, hts, hK, hE⟩ := id C
  have hfX6 : ∀ w ∈ u_ws RX6 TX6 15, w ∈ wsX6_isTakenBy := by decide +kernel
  unfold v_X6_isTakenBy_b2_s at hw
  refine lv_iload_n hx hb dX6_isTakenBy_2 rfl (lv_at hl 3 rfl) ?_
  refine lv_bipush (v := (30 : Int32)) hx hb dX6_isTakenBy_3 (by decide) ?_
  refine lv_icmp_ge (tgt := 146) hx hb dX6_isTakenBy_5 (by decide) (fun c1 => ?_) (fun c1 => ?_)
  · replace hw := hw.1 c1
    refine lv_iconst (v := (0 : Int32)) hx hb dX6_isTakenBy_146 (by decide) ?_
    exact z_retz C (Or.inl rfl) hP hS ⟨_, rfl, hw⟩ dX6_isTakenBy_147
  · replace hw := hw.2 c1
    refine lv_iconst (v := (0 : Int32)) hx hb dX6_isTakenBy_8 (by decide) ?_
    refine lv_istore (lv' := [(4, .int (0 : Int32)), (0, .ref (z_a E 19 0)), (1, .int x1), (2, .int x2), (3, .int x3)]) hx hb dX6_isTakenBy_9 hl (by decide) rfl (fun ls hl => ?_)
    exact m_X6_isTakenBy_b11 C hM X K L2 k2 h x1 x2 x3 (0 : Int32) hw hP hS (lv_sub hl [1, 2, 3, 4, 0] rfl)
theorem m_X6_isTakenBy_b2 {p : Program} {l : Launch} {e : Env} {s : State} {m : MethodId} {args : Array Value} {below : List Frame} {meth : Method} {c : Code} {E : z_E} (C : z_Cx p E s m args meth c cX6_isTakenBy 6 wsX6_isTakenBy RX6 (some .boolean)) (hM : z_mod E) (X : z_X) (K : Int32 → z_G → Prop) (h : z_G) (x1 : Int32) (x2 : Int32) (x3 : Int32) (hw : v_X6_isTakenBy_b2 K h x1 x2 x3) {H : Heap} {locs : List Loc} (hP : z_P E (z_up X 19 h) H) (hS : va_S (z_A E) s.heap H locs) {ls : Array Slot} (hl : lv_has ls 6 [(0, .ref (z_a E 19 0)), (1, .int x1), (2, .int x2), (3, .int x3)]) : W p l e rX6_isTakenBy s m args below meth c H locs 0 0 (MQ below (va_Qi (fun r X' => ∃ h', X' = z_up X 19 h' ∧ K r h') (fun u t => z_P E u t.heap) (z_A E)) args s 0 0 (z_A E)) (F0 m 2 ls []) := by
  obtain ⟨n, hw⟩ := hw
  revert hw hP hS hl
  revert h x1 x2 x3 H locs ls
  induction n with
  | zero => intro h x1 x2 x3 H locs ls hP hS hl hw; exact hw.elim
  | succ n ih =>
    intro h x1 x2 x3 H locs ls hP hS hl hw
    exact m_X6_isTakenBy_b2_s C hM X K (fun h x1 x2 x3 => z_fp (σ := z_G × Int32 × Int32 × Int32) (fun Lp q => v_X6_isTakenBy_b2_s K (fun h x1 x2 x3 => Lp (h, x1, x2, x3)) q.1 q.2.1 q.2.2.1 q.2.2.2) n (h, x1, x2, x3)) (fun h x1 x2 x3 h9 H locs hP hS ls hl => ih h x1 x2 x3 hP hS hl h9) h x1 x2 x3 hw hP hS hl
set_option maxHeartbeats 4000000 in
set_option maxRecDepth 100000 in
theorem m_X6_isTakenBy (l : Launch) {E : z_E} (hE : z_ok E) (hM : z_mod E) (X : z_X) (h : z_G) (x1 : Int32) (x2 : Int32) (K : Int32 → z_G → Prop) (hw : v_X6_isTakenBy h x1 x2 K) : z_CI l E yX6_isTakenBy wsX6_isTakenBy rX6_isTakenBy [.ref (z_a E 19 0), .int x1, .int x2] (z_up X 19 h) (fun r X' => ∃ h', X' = z_up X 19 h' ∧ K r h') := by
  refine z_start (cc := cX6_isTakenBy) (maxL := 6) (ret := (some .boolean)) hE (by decide) rfl (Nat.le_of_ble_eq_true rfl) ?_
  intro p e s m below meth c C hP hS ls hl
  have C : z_Cx p E s m _ meth c cX6_isTakenBy 6 wsX6_isTakenBy RX6 (some .boolean) := C
  obtain ⟨hx, hb, hml, hr, hlocks, hown, hts, hK, hE⟩ := id C
  have hl : lv_has ls 6 [(0, .ref (z_a E 19 0)), (1, .int x1), (2, .int x2)] := hl
  have hfX6 : ∀ w ∈ u_ws RX6 TX6 15, w ∈ wsX6_isTakenBy := by decide +kernel
  unfold v_X6_isTakenBy at hw
  refine lv_iconst (v := (0 : Int32)) hx hb dX6_isTakenBy_0 (by decide) ?_
  refine lv_istore_n (lv' := [(3, .int (0 : Int32)), (0, .ref (z_a E 19 0)), (1, .int x1), (2, .int x2)]) hx hb dX6_isTakenBy_1 rfl hl (by decide) rfl (fun ls hl => ?_)
  exact m_X6_isTakenBy_b2 C hM X K h x1 x2 (0 : Int32) hw hP hS (lv_sub hl [1, 2, 3, 0] rfl)
set_option maxHeartbeats 4000000 in
set_option maxRecDepth 100000 in
theorem m_X6_dare_b58_s {p : Program} {l : Launch} {e : Env} {s : State} {m : MethodId} {args : Array Value} {below : List Frame} {meth : Method} {c : Code} {E : z_E} (C : z_Cx p E s m args meth c cX6_dare 5 wsX6_dare RX6 (some .int)) (hM : z_mod E) (X : z_X) (K : Int32 → z_G → Prop) (L58 : z_G → Int32 → Int32 → Int32 → Int32 → Prop) (k58 : ∀ (h : z_G) (x1 : Int32) (x2 : Int32) (x3 : Int32) (x4 : Int32), L58 h x1 x2 x3 x4 → ∀ {H : Heap} {locs : List Loc}, z_P E (z_up X 19 h) H → va_S (z_A E) s.heap H locs → ∀ (ls : Array Slot), lv_has ls 5 [(0, .ref (z_a E 19 0)), (1, .int x1), (2, .int x2), (3, .int x3), (4, .int x4)] → W p l e rX6_dare s m args below meth c H locs 0 0 (MQ below (va_Qi (fun r X' => ∃ h', X' = z_up X 19 h' ∧ K r h') (fun u t => z_P E u t.heap) (z_A E)) args s 0 0 (z_A E)) (F0 m 58 ls [])) (h : z_G) (x1 : Int32) (x2 : Int32) (x3 : Int32) (x4 : Int32) (hw : v_X6_dare_b58_s K L58 h x1 x2 x3 x4) {H : Heap} {locs : List Loc} (hP : z_P E (z_up X 19 h) H) (hS : va_S (z_A E) s.heap H locs) {ls : Array Slot} (hl : lv_has ls 5 [(0, .ref (z_a E 19 0)), (1, .int x1), (2, .int x2), (3, .int x3), (4, .int x4)]) : W p l e rX6_dare s m args below meth c H locs 0 0 (MQ below (va_Qi (fun r X' => ∃ h', X' = z_up X 19 h' ∧ K r h') (fun u t => z_P E u t.heap) (z_A E)) args s 0 0 (z_A E)) (F0 m 58 ls []) := by
  obtain ⟨hx, hb, hml, hr, hlocks, hown, hts, hK, hE⟩ := id C
  have hfX6 : ∀ w ∈ u_ws RX6 TX6 15, w ∈ wsX6_dare := by decide +kernel
  unfold v_X6_dare_b58_s at hw
  refine lv_iload hx hb dX6_dare_58 (lv_at hl 4 rfl) ?_
  refine lv_bipush (v := (80 : Int32)) hx hb dX6_dare_60 (by decide) ?_
  refine lv_icmp_ge (tgt := 135) hx hb dX6_dare_62 (by decide) (fun c12 => ?_) (fun c12 => ?_)
  · replace hw := hw.1 c12
    refine lv_bipush (v := (-4 : Int32)) hx hb dX6_dare_135 (by decide) ?_
    exact z_reti C hP hS ⟨_, rfl, hw⟩ dX6_dare_137
  · replace hw := hw.2 c12
    refine lv_iload_n hx hb dX6_dare_65 rfl (lv_at hl 3 rfl) ?_
    refine lv_bipush (v := (8 : Int32)) hx hb dX6_dare_66 (by decide) ?_
    refine lv_icmp_ge (tgt := 135) hx hb dX6_dare_68 (by decide) (fun c13 => ?_) (fun c13 => ?_)
    · replace hw := hw.1 c13
      refine lv_bipush (v := (-4 : Int32)) hx hb dX6_dare_135 (by decide) ?_
      exact z_reti C hP hS ⟨_, rfl, hw⟩ dX6_dare_137
    · replace hw := hw.2 c13
      refine lv_aload_n hx hb dX6_dare_71 rfl (lv_at hl 0 rfl) ?_
      refine z_vv (C := RX6) (T := TX6) (N := 15) (o := 19) (rest := []) ⟨hx, hb, hml, hown, hts⟩ (m_X6_aside l hE hM X h _ hw) (cwV 0 hts gX6_dare_X6_aside rfl rfl rfl (by decide +kernel) ⟨Nat.le_of_ble_eq_true rfl, Nat.le_of_ble_eq_true rfl⟩) hK hP hS (hM (19, 0) (List.mem_of_getElem? (i := 0) rfl)) z_l_19_0 rfl rfl hl.1 rfl (Nat.le_of_ble_eq_true rfl) dX6_dare_72 ⟨Nat.zero_le _, Nat.zero_le _⟩ (fun u H locs hk hP hS => ?_)
      obtain ⟨h14, eu, hw⟩ := hk
      rw [eu] at hP
      refine lv_aload_n hx hb dX6_dare_75 rfl (lv_at hl 0 rfl) ?_
      refine lv_iload_n hx hb dX6_dare_76 rfl (lv_at hl 3 rfl) ?_
      refine lv_iload hx hb dX6_dare_77 (lv_at hl 4 rfl) ?_
      refine lv_bipush (v := (20 : Int32)) hx hb dX6_dare_79 (by decide) ?_
      refine lv_idiv hx hb dX6_dare_81 (by decide) ?_
      refine lv_iload hx hb dX6_dare_82 (lv_at hl 4 rfl) ?_
      refine lv_bipush (v := (20 : Int32)) hx hb dX6_dare_84 (by decide) ?_
      refine lv_irem hx hb dX6_dare_86 (by decide) ?_
      refine lv_iconst (v := (1 : Int32)) hx hb dX6_dare_87 (by decide) ?_
      refine lv_iadd hx hb dX6_dare_88 ?_
      refine lv_iload_n hx hb dX6_dare_89 rfl (lv_at hl 1 rfl) ?_
      refine z_vv (C := RX6) (T := TX6) (N := 15) (o := 19) (rest := []) ⟨hx, hb, hml, hown, hts⟩ (m_X6_lays l hE hM X h14 x3 (x4 / (20 : Int32)) ((x4 - x4 / (20 : Int32) * (20 : Int32)) + (1 : Int32)) x1 _ hw) (cwV 4 hts gX6_dare_X6_lays rfl rfl rfl (by decide +kernel) ⟨Nat.le_of_ble_eq_true rfl, Nat.le_of_ble_eq_true rfl⟩) hK hP hS (hM (19, 0) (List.mem_of_getElem? (i := 0) rfl)) z_l_19_0 rfl rfl hl.1 rfl (Nat.le_of_ble_eq_true rfl) dX6_dare_90 ⟨Nat.zero_le _, Nat.zero_le _⟩ (fun u H locs hk hP hS => ?_)
      obtain ⟨h15, eu, hw⟩ := hk
      rw [eu] at hP
      refine lv_aload_n hx hb dX6_dare_93 rfl (lv_at hl 0 rfl) ?_
      refine z_getr (C := RX6) (T := TX6) (N := 15) (ref := "GauntletHallModel") (o := 19) (d := 0) hx hb hts hfX6 hown hK hP (hM (19, 0) (List.mem_of_getElem? (i := 0) rfl)) z_l_19_0 rfl 6 (by decide) (hts (.fieldLink RX6 25 "GauntletHallModel" "side" "[I") (by decide +kernel)) rfl rfl dX6_dare_94 ?_
      refine lv_iconst (v := (2 : Int32)) hx hb dX6_dare_97 (by decide) ?_
      refine lv_dup2_11 hx hb dX6_dare_98 rfl rfl ?_
      obtain ⟨i16, hw⟩ := hw
      refine z_iald (o := 19) (d := 6) hx hb hK hP (hM (19, 6) (List.mem_of_getElem? (i := 6) rfl)) z_l_19_6 i16 (z_up_val X 19 h15 6 (z_n (2 : Int32))) dX6_dare_99 ?_
      refine lv_iconst (v := (1 : Int32)) hx hb dX6_dare_100 (by decide) ?_
      refine lv_iadd hx hb dX6_dare_101 ?_
      obtain ⟨i17, hw⟩ := hw
      obtain ⟨h18, eh18⟩ : ∃ z : z_G, z = z_ss h15 6 (z_n (2 : Int32)) ((h15 6 (z_n (2 : Int32))) + (1 : Int32)) := ⟨_, rfl⟩
      replace hw := hw h18 eh18
      refine z_iast (o := 19) (d := 6) (X' := z_up X 19 h18) hx hb hK hE hP hS (hM (19, 6) (List.mem_of_getElem? (i := 6) rfl)) z_l_19_6 i17 (by rw [eh18]; exact z_up_put X 19 h15 6 (z_n (2 : Int32)) _) dX6_dare_102 (fun H locs hP hS => ?_)
      refine lv_aload_n hx hb dX6_dare_103 rfl (lv_at hl 0 rfl) ?_
      refine lv_iload_n hx hb dX6_dare_104 rfl (lv_at hl 3 rfl) ?_
      refine lv_iload_n hx hb dX6_dare_105 rfl (lv_at hl 2 rfl) ?_
      refine z_vi (C := RX6) (T := TX6) (N := 15) (o := 19) (rest := []) ⟨hx, hb, hml, hown, hts⟩ (m_X6_isTakenBy l hE hM X h18 x3 x2 _ hw) (cwV 2 hts gX6_dare_X6_isTakenBy rfl rfl rfl (by decide +kernel) ⟨Nat.le_of_ble_eq_true rfl, Nat.le_of_ble_eq_true rfl⟩) hK hP hS (hM (19, 0) (List.mem_of_getElem? (i := 0) rfl)) z_l_19_0 rfl rfl hl.1 rfl (Nat.le_of_ble_eq_true rfl) dX6_dare_106 ⟨Nat.zero_le _, Nat.zero_le _⟩ (fun r19 u H locs hk hP hS => ?_)
      obtain ⟨h20, eu, hw⟩ := hk
      rw [eu] at hP
      refine lv_if_eq (tgt := 129) hx hb dX6_dare_109 (by decide) (fun c21 => ?_) (fun c21 => ?_)
      · replace hw := hw.1 c21
        obtain ⟨y22, ey22⟩ : ∃ z : Int32, z = x4 + (1 : Int32) := ⟨_, rfl⟩
        replace hw := hw y22 ey22
        refine lv_iinc (v := y22) (lv' := [(4, .int y22), (0, .ref (z_a E 19 0)), (1, .int x1), (2, .int x2), (3, .int x3)]) hx hb dX6_dare_129 hl (k := 4) rfl (by rw [ey22]; rfl) (by decide) rfl (fun ls hl => ?_)
        refine lv_goto (tgt := 58) hx hb dX6_dare_132 (by decide) ?_
        exact k58 h20 x1 x2 x3 y22 hw hP hS _ (lv_sub hl [1, 2, 3, 4, 0] rfl)
      · replace hw := hw.2 c21
        refine lv_bipush (v := (100 : Int32)) hx hb dX6_dare_112 (by decide) ?_
        refine lv_iload hx hb dX6_dare_114 (lv_at hl 4 rfl) ?_
        refine lv_bipush (v := (20 : Int32)) hx hb dX6_dare_116 (by decide) ?_
        refine lv_idiv hx hb dX6_dare_118 (by decide) ?_
        refine lv_imul hx hb dX6_dare_119 ?_
        refine lv_iload hx hb dX6_dare_120 (lv_at hl 4 rfl) ?_
        refine lv_bipush (v := (20 : Int32)) hx hb dX6_dare_122 (by decide) ?_
        refine lv_irem hx hb dX6_dare_124 (by decide) ?_
        refine lv_iadd hx hb dX6_dare_125 ?_
        refine lv_iconst (v := (1 : Int32)) hx hb dX6_dare_126 (by decide) ?_
        refine lv_iadd hx hb dX6_dare_127 ?_
        exact z_reti C hP hS ⟨_, rfl, hw⟩ dX6_dare_128
theorem m_X6_dare_b58 {p : Program} {l : Launch} {e : Env} {s : State} {m : MethodId} {args : Array Value} {below : List Frame} {meth : Method} {c : Code} {E : z_E} (C : z_Cx p E s m args meth c cX6_dare 5 wsX6_dare RX6 (some .int)) (hM : z_mod E) (X : z_X) (K : Int32 → z_G → Prop) (h : z_G) (x1 : Int32) (x2 : Int32) (x3 : Int32) (x4 : Int32) (hw : v_X6_dare_b58 K h x1 x2 x3 x4) {H : Heap} {locs : List Loc} (hP : z_P E (z_up X 19 h) H) (hS : va_S (z_A E) s.heap H locs) {ls : Array Slot} (hl : lv_has ls 5 [(0, .ref (z_a E 19 0)), (1, .int x1), (2, .int x2), (3, .int x3), (4, .int x4)]) : W p l e rX6_dare s m args below meth c H locs 0 0 (MQ below (va_Qi (fun r X' => ∃ h', X' = z_up X 19 h' ∧ K r h') (fun u t => z_P E u t.heap) (z_A E)) args s 0 0 (z_A E)) (F0 m 58 ls []) := by
  obtain ⟨n, hw⟩ := hw
  revert hw hP hS hl
  revert h x1 x2 x3 x4 H locs ls
  induction n with
  | zero => intro h x1 x2 x3 x4 H locs ls hP hS hl hw; exact hw.elim
  | succ n ih =>
    intro h x1 x2 x3 x4 H locs ls hP hS hl hw
    exact m_X6_dare_b58_s C hM X K (fun h x1 x2 x3 x4 => z_fp (σ := z_G × Int32 × Int32 × Int32 × Int32) (fun Lp q => v_X6_dare_b58_s K (fun h x1 x2 x3 x4 => Lp (h, x1, x2, x3, x4)) q.1 q.2.1 q.2.2.1 q.2.2.2.1 q.2.2.2.2) n (h, x1, x2, x3, x4)) (fun h x1 x2 x3 x4 h9 H locs hP hS ls hl => ih h x1 x2 x3 x4 hP hS hl h9) h x1 x2 x3 x4 hw hP hS hl
set_option maxHeartbeats 4000000 in
set_option maxRecDepth 100000 in
theorem m_X6_dare (l : Launch) {E : z_E} (hE : z_ok E) (hM : z_mod E) (X : z_X) (h : z_G) (x1 : Int32) (x2 : Int32) (K : Int32 → z_G → Prop) (hw : v_X6_dare h x1 x2 K) : z_CI l E yX6_dare wsX6_dare rX6_dare [.ref (z_a E 19 0), .int x1, .int x2] (z_up X 19 h) (fun r X' => ∃ h', X' = z_up X 19 h' ∧ K r h') := by
  refine z_start (cc := cX6_dare) (maxL := 5) (ret := (some .int)) hE (by decide) rfl (Nat.le_of_ble_eq_true rfl) ?_
  intro p e s m below meth c C hP hS ls hl
  have C : z_Cx p E s m _ meth c cX6_dare 5 wsX6_dare RX6 (some .int) := C
  obtain ⟨hx, hb, hml, hr, hlocks, hown, hts, hK, hE⟩ := id C
  have hl : lv_has ls 5 [(0, .ref (z_a E 19 0)), (1, .int x1), (2, .int x2)] := hl
  have hfX6 : ∀ w ∈ u_ws RX6 TX6 15, w ∈ wsX6_dare := by decide +kernel
  unfold v_X6_dare at hw
  refine lv_aload_n hx hb dX6_dare_0 rfl (lv_at hl 0 rfl) ?_
  refine lv_iload_n hx hb dX6_dare_1 rfl (lv_at hl 1 rfl) ?_
  refine z_vi (C := RX6) (T := TX6) (N := 15) (o := 19) (rest := []) ⟨hx, hb, hml, hown, hts⟩ (m_X6_isPerson l hE hM X h x1 _ hw) (cwV 1 hts gX6_dare_X6_isPerson rfl rfl rfl (by decide +kernel) ⟨Nat.le_of_ble_eq_true rfl, Nat.le_of_ble_eq_true rfl⟩) hK hP hS (hM (19, 0) (List.mem_of_getElem? (i := 0) rfl)) z_l_19_0 rfl rfl hl.1 rfl (Nat.le_of_ble_eq_true rfl) dX6_dare_2 ⟨Nat.zero_le _, Nat.zero_le _⟩ (fun r1 u H locs hk hP hS => ?_)
  obtain ⟨eu, hw⟩ := hk
  rw [eu] at hP
  refine lv_if_eq (tgt := 21) hx hb dX6_dare_5 (by decide) (fun c2 => ?_) (fun c2 => ?_)
  · replace hw := hw.1 c2
    refine lv_iconst (v := (-1 : Int32)) hx hb dX6_dare_21 (by decide) ?_
    exact z_reti C hP hS ⟨_, rfl, hw⟩ dX6_dare_22
  · replace hw := hw.2 c2
    refine lv_aload_n hx hb dX6_dare_8 rfl (lv_at hl 0 rfl) ?_
    refine lv_iload_n hx hb dX6_dare_9 rfl (lv_at hl 2 rfl) ?_
    refine z_vi (C := RX6) (T := TX6) (N := 15) (o := 19) (rest := []) ⟨hx, hb, hml, hown, hts⟩ (m_X6_isPerson l hE hM X h x2 _ hw) (cwV 1 hts gX6_dare_X6_isPerson rfl rfl rfl (by decide +kernel) ⟨Nat.le_of_ble_eq_true rfl, Nat.le_of_ble_eq_true rfl⟩) hK hP hS (hM (19, 0) (List.mem_of_getElem? (i := 0) rfl)) z_l_19_0 rfl rfl hl.1 rfl (Nat.le_of_ble_eq_true rfl) dX6_dare_10 ⟨Nat.zero_le _, Nat.zero_le _⟩ (fun r3 u H locs hk hP hS => ?_)
    obtain ⟨eu, hw⟩ := hk
    rw [eu] at hP
    refine lv_if_eq (tgt := 21) hx hb dX6_dare_13 (by decide) (fun c4 => ?_) (fun c4 => ?_)
    · replace hw := hw.1 c4
      refine lv_iconst (v := (-1 : Int32)) hx hb dX6_dare_21 (by decide) ?_
      exact z_reti C hP hS ⟨_, rfl, hw⟩ dX6_dare_22
    · replace hw := hw.2 c4
      refine lv_iload_n hx hb dX6_dare_16 rfl (lv_at hl 1 rfl) ?_
      refine lv_iload_n hx hb dX6_dare_17 rfl (lv_at hl 2 rfl) ?_
      refine lv_icmp_ne (tgt := 23) hx hb dX6_dare_18 (by decide) (fun c5 => ?_) (fun c5 => ?_)
      · replace hw := hw.1 c5
        refine lv_aload_n hx hb dX6_dare_23 rfl (lv_at hl 0 rfl) ?_
        refine z_getr (C := RX6) (T := TX6) (N := 15) (ref := "GauntletHallModel") (o := 19) (d := 0) hx hb hts hfX6 hown hK hP (hM (19, 0) (List.mem_of_getElem? (i := 0) rfl)) z_l_19_0 rfl 5 (by decide) (hts (.fieldLink RX6 22 "GauntletHallModel" "now" "[I") (by decide +kernel)) rfl rfl dX6_dare_24 ?_
        refine lv_iconst (v := (4 : Int32)) hx hb dX6_dare_27 (by decide) ?_
        refine lv_iload_n hx hb dX6_dare_28 rfl (lv_at hl 1 rfl) ?_
        refine lv_iadd hx hb dX6_dare_29 ?_
        obtain ⟨i6, hw⟩ := hw
        refine z_iald (o := 19) (d := 5) hx hb hK hP (hM (19, 5) (List.mem_of_getElem? (i := 5) rfl)) z_l_19_5 i6 (z_up_val X 19 h 5 (z_n ((4 : Int32) + x1))) dX6_dare_30 ?_
        refine lv_if_eq (tgt := 45) hx hb dX6_dare_31 (by decide) (fun c7 => ?_) (fun c7 => ?_)
        · replace hw := hw.1 c7
          refine lv_bipush (v := (-2 : Int32)) hx hb dX6_dare_45 (by decide) ?_
          exact z_reti C hP hS ⟨_, rfl, hw⟩ dX6_dare_47
        · replace hw := hw.2 c7
          refine lv_aload_n hx hb dX6_dare_34 rfl (lv_at hl 0 rfl) ?_
          refine z_getr (C := RX6) (T := TX6) (N := 15) (ref := "GauntletHallModel") (o := 19) (d := 0) hx hb hts hfX6 hown hK hP (hM (19, 0) (List.mem_of_getElem? (i := 0) rfl)) z_l_19_0 rfl 5 (by decide) (hts (.fieldLink RX6 22 "GauntletHallModel" "now" "[I") (by decide +kernel)) rfl rfl dX6_dare_35 ?_
          refine lv_iconst (v := (4 : Int32)) hx hb dX6_dare_38 (by decide) ?_
          refine lv_iload_n hx hb dX6_dare_39 rfl (lv_at hl 2 rfl) ?_
          refine lv_iadd hx hb dX6_dare_40 ?_
          obtain ⟨i8, hw⟩ := hw
          refine z_iald (o := 19) (d := 5) hx hb hK hP (hM (19, 5) (List.mem_of_getElem? (i := 5) rfl)) z_l_19_5 i8 (z_up_val X 19 h 5 (z_n ((4 : Int32) + x2))) dX6_dare_41 ?_
          refine lv_if_ne (tgt := 48) hx hb dX6_dare_42 (by decide) (fun c9 => ?_) (fun c9 => ?_)
          · replace hw := hw.1 c9
            refine lv_aload_n hx hb dX6_dare_48 rfl (lv_at hl 0 rfl) ?_
            refine z_getr (C := RX6) (T := TX6) (N := 15) (ref := "GauntletHallModel") (o := 19) (d := 0) hx hb hts hfX6 hown hK hP (hM (19, 0) (List.mem_of_getElem? (i := 0) rfl)) z_l_19_0 rfl 5 (by decide) (hts (.fieldLink RX6 22 "GauntletHallModel" "now" "[I") (by decide +kernel)) rfl rfl dX6_dare_49 ?_
            refine lv_iconst (v := (2 : Int32)) hx hb dX6_dare_52 (by decide) ?_
            obtain ⟨i10, hw⟩ := hw
            refine z_iald (o := 19) (d := 5) hx hb hK hP (hM (19, 5) (List.mem_of_getElem? (i := 5) rfl)) z_l_19_5 i10 (z_up_val X 19 h 5 (z_n (2 : Int32))) dX6_dare_53 ?_
            refine lv_topi (fun y11 ey11 => ?_)
            replace hw := hw y11 ey11
            refine lv_istore_n (lv' := [(3, .int y11), (0, .ref (z_a E 19 0)), (1, .int x1), (2, .int x2)]) hx hb dX6_dare_54 rfl hl (by decide) rfl (fun ls hl => ?_)
            refine lv_iconst (v := (0 : Int32)) hx hb dX6_dare_55 (by decide) ?_
            refine lv_istore (lv' := [(4, .int (0 : Int32)), (3, .int y11), (0, .ref (z_a E 19 0)), (1, .int x1), (2, .int x2)]) hx hb dX6_dare_56 hl (by decide) rfl (fun ls hl => ?_)
            exact m_X6_dare_b58 C hM X K h x1 x2 y11 (0 : Int32) hw hP hS (lv_sub hl [2, 3, 4, 1, 0] rfl)
          · replace hw := hw.2 c9
            refine lv_bipush (v := (-2 : Int32)) hx hb dX6_dare_45 (by decide) ?_
            exact z_reti C hP hS ⟨_, rfl, hw⟩ dX6_dare_47
      · replace hw := hw.2 c5
        refine lv_iconst (v := (-1 : Int32)) hx hb dX6_dare_21 (by decide) ?_
        exact z_reti C hP hS ⟨_, rfl, hw⟩ dX6_dare_22
set_option maxHeartbeats 4000000 in
set_option maxRecDepth 100000 in
theorem m_X6_empty_b23_s {p : Program} {l : Launch} {e : Env} {s : State} {m : MethodId} {args : Array Value} {below : List Frame} {meth : Method} {c : Code} {E : z_E} (C : z_Cx p E s m args meth c cX6_empty 2 wsX6_empty RX6 none) (hM : z_mod E) (X : z_X) (K : z_G → Prop) (L23 : z_G → Int32 → Prop) (k23 : ∀ (h : z_G) (x1 : Int32), L23 h x1 → ∀ {H : Heap} {locs : List Loc}, z_P E (z_up X 19 h) H → va_S (z_A E) s.heap H locs → ∀ (ls : Array Slot), lv_has ls 2 [(0, .ref (z_a E 19 0)), (1, .int x1)] → W p l e rX6_empty s m args below meth c H locs 0 0 (MQ below (va_Qv (fun X' => ∃ h', X' = z_up X 19 h' ∧ K h') (fun u t => z_P E u t.heap) (z_A E)) args s 0 0 (z_A E)) (F0 m 23 ls [])) (h : z_G) (x1 : Int32) (hw : v_X6_empty_b23_s K L23 h x1) {H : Heap} {locs : List Loc} (hP : z_P E (z_up X 19 h) H) (hS : va_S (z_A E) s.heap H locs) {ls : Array Slot} (hl : lv_has ls 2 [(0, .ref (z_a E 19 0)), (1, .int x1)]) : W p l e rX6_empty s m args below meth c H locs 0 0 (MQ below (va_Qv (fun X' => ∃ h', X' = z_up X 19 h' ∧ K h') (fun u t => z_P E u t.heap) (z_A E)) args s 0 0 (z_A E)) (F0 m 23 ls []) := by
  obtain ⟨hx, hb, hml, hr, hlocks, hown, hts, hK, hE⟩ := id C
  have hfX6 : ∀ w ∈ u_ws RX6 TX6 15, w ∈ wsX6_empty := by decide +kernel
  unfold v_X6_empty_b23_s at hw
  refine lv_iload_n hx hb dX6_empty_23 rfl (lv_at hl 1 rfl) ?_
  refine lv_bipush (v := (42 : Int32)) hx hb dX6_empty_24 (by decide) ?_
  refine lv_icmp_ge (tgt := 42) hx hb dX6_empty_26 (by decide) (fun c2 => ?_) (fun c2 => ?_)
  · replace hw := hw.1 c2
    exact z_retv C hP hS ⟨_, rfl, hw⟩ dX6_empty_42
  · replace hw := hw.2 c2
    refine lv_aload_n hx hb dX6_empty_29 rfl (lv_at hl 0 rfl) ?_
    refine z_getr (C := RX6) (T := TX6) (N := 15) (ref := "GauntletHallModel") (o := 19) (d := 0) hx hb hts hfX6 hown hK hP (hM (19, 0) (List.mem_of_getElem? (i := 0) rfl)) z_l_19_0 rfl 4 (by decide) (hts (.fieldLink RX6 19 "GauntletHallModel" "readRow" "[I") (by decide +kernel)) rfl rfl dX6_empty_30 ?_
    refine lv_iload_n hx hb dX6_empty_33 rfl (lv_at hl 1 rfl) ?_
    refine lv_iconst (v := (0 : Int32)) hx hb dX6_empty_34 (by decide) ?_
    obtain ⟨i3, hw⟩ := hw
    obtain ⟨h4, eh4⟩ : ∃ z : z_G, z = z_ss h 4 (z_n x1) (0 : Int32) := ⟨_, rfl⟩
    replace hw := hw h4 eh4
    refine z_iast (o := 19) (d := 4) (X' := z_up X 19 h4) hx hb hK hE hP hS (hM (19, 4) (List.mem_of_getElem? (i := 4) rfl)) z_l_19_4 i3 (by rw [eh4]; exact z_up_put X 19 h 4 (z_n x1) _) dX6_empty_35 (fun H locs hP hS => ?_)
    obtain ⟨y5, ey5⟩ : ∃ z : Int32, z = x1 + (1 : Int32) := ⟨_, rfl⟩
    replace hw := hw y5 ey5
    refine lv_iinc (v := y5) (lv' := [(1, .int y5), (0, .ref (z_a E 19 0))]) hx hb dX6_empty_36 hl (k := 1) rfl (by rw [ey5]; rfl) (by decide) rfl (fun ls hl => ?_)
    refine lv_goto (tgt := 23) hx hb dX6_empty_39 (by decide) ?_
    exact k23 h4 y5 hw hP hS _ (lv_sub hl [1, 0] rfl)
theorem m_X6_empty_b23 {p : Program} {l : Launch} {e : Env} {s : State} {m : MethodId} {args : Array Value} {below : List Frame} {meth : Method} {c : Code} {E : z_E} (C : z_Cx p E s m args meth c cX6_empty 2 wsX6_empty RX6 none) (hM : z_mod E) (X : z_X) (K : z_G → Prop) (h : z_G) (x1 : Int32) (hw : v_X6_empty_b23 K h x1) {H : Heap} {locs : List Loc} (hP : z_P E (z_up X 19 h) H) (hS : va_S (z_A E) s.heap H locs) {ls : Array Slot} (hl : lv_has ls 2 [(0, .ref (z_a E 19 0)), (1, .int x1)]) : W p l e rX6_empty s m args below meth c H locs 0 0 (MQ below (va_Qv (fun X' => ∃ h', X' = z_up X 19 h' ∧ K h') (fun u t => z_P E u t.heap) (z_A E)) args s 0 0 (z_A E)) (F0 m 23 ls []) := by
  obtain ⟨n, hw⟩ := hw
  revert hw hP hS hl
  revert h x1 H locs ls
  induction n with
  | zero => intro h x1 H locs ls hP hS hl hw; exact hw.elim
  | succ n ih =>
    intro h x1 H locs ls hP hS hl hw
    exact m_X6_empty_b23_s C hM X K (fun h x1 => z_fp (σ := z_G × Int32) (fun Lp q => v_X6_empty_b23_s K (fun h x1 => Lp (h, x1)) q.1 q.2) n (h, x1)) (fun h x1 h9 H locs hP hS ls hl => ih h x1 hP hS hl h9) h x1 hw hP hS hl
set_option maxHeartbeats 4000000 in
set_option maxRecDepth 100000 in
theorem m_X6_empty_b2_s {p : Program} {l : Launch} {e : Env} {s : State} {m : MethodId} {args : Array Value} {below : List Frame} {meth : Method} {c : Code} {E : z_E} (C : z_Cx p E s m args meth c cX6_empty 2 wsX6_empty RX6 none) (hM : z_mod E) (X : z_X) (K : z_G → Prop) (L2 : z_G → Int32 → Prop) (k2 : ∀ (h : z_G) (x1 : Int32), L2 h x1 → ∀ {H : Heap} {locs : List Loc}, z_P E (z_up X 19 h) H → va_S (z_A E) s.heap H locs → ∀ (ls : Array Slot), lv_has ls 2 [(0, .ref (z_a E 19 0)), (1, .int x1)] → W p l e rX6_empty s m args below meth c H locs 0 0 (MQ below (va_Qv (fun X' => ∃ h', X' = z_up X 19 h' ∧ K h') (fun u t => z_P E u t.heap) (z_A E)) args s 0 0 (z_A E)) (F0 m 2 ls [])) (h : z_G) (x1 : Int32) (hw : v_X6_empty_b2_s K L2 h x1) {H : Heap} {locs : List Loc} (hP : z_P E (z_up X 19 h) H) (hS : va_S (z_A E) s.heap H locs) {ls : Array Slot} (hl : lv_has ls 2 [(0, .ref (z_a E 19 0)), (1, .int x1)]) : W p l e rX6_empty s m args below meth c H locs 0 0 (MQ below (va_Qv (fun X' => ∃ h', X' = z_up X 19 h' ∧ K h') (fun u t => z_P E u t.heap) (z_A E)) args s 0 0 (z_A E)) (F0 m 2 ls []) := by
  obtain ⟨hx, hb, hml, hr, hlocks, hown, hts, hK, hE⟩ := id C
  have hfX6 : ∀ w ∈ u_ws RX6 TX6 15, w ∈ wsX6_empty := by decide +kernel
  unfold v_X6_empty_b2_s at hw
  refine lv_iload_n hx hb dX6_empty_2 rfl (lv_at hl 1 rfl) ?_
  refine lv_bipush (v := (13 : Int32)) hx hb dX6_empty_3 (by decide) ?_
  refine lv_icmp_ge (tgt := 21) hx hb dX6_empty_5 (by decide) (fun c1 => ?_) (fun c1 => ?_)
  · replace hw := hw.1 c1
    refine lv_iconst (v := (0 : Int32)) hx hb dX6_empty_21 (by decide) ?_
    refine lv_istore_n (lv' := [(1, .int (0 : Int32)), (0, .ref (z_a E 19 0))]) hx hb dX6_empty_22 rfl hl (by decide) rfl (fun ls hl => ?_)
    exact m_X6_empty_b23 C hM X K h (0 : Int32) hw hP hS (lv_sub hl [1, 0] rfl)
  · replace hw := hw.2 c1
    refine lv_aload_n hx hb dX6_empty_8 rfl (lv_at hl 0 rfl) ?_
    refine z_getr (C := RX6) (T := TX6) (N := 15) (ref := "GauntletHallModel") (o := 19) (d := 0) hx hb hts hfX6 hown hK hP (hM (19, 0) (List.mem_of_getElem? (i := 0) rfl)) z_l_19_0 rfl 3 (by decide) (hts (.fieldLink RX6 16 "GauntletHallModel" "read" "[I") (by decide +kernel)) rfl rfl dX6_empty_9 ?_
    refine lv_iload_n hx hb dX6_empty_12 rfl (lv_at hl 1 rfl) ?_
    refine lv_iconst (v := (0 : Int32)) hx hb dX6_empty_13 (by decide) ?_
    obtain ⟨i6, hw⟩ := hw
    obtain ⟨h7, eh7⟩ : ∃ z : z_G, z = z_ss h 3 (z_n x1) (0 : Int32) := ⟨_, rfl⟩
    replace hw := hw h7 eh7
    refine z_iast (o := 19) (d := 3) (X' := z_up X 19 h7) hx hb hK hE hP hS (hM (19, 3) (List.mem_of_getElem? (i := 3) rfl)) z_l_19_3 i6 (by rw [eh7]; exact z_up_put X 19 h 3 (z_n x1) _) dX6_empty_14 (fun H locs hP hS => ?_)
    obtain ⟨y8, ey8⟩ : ∃ z : Int32, z = x1 + (1 : Int32) := ⟨_, rfl⟩
    replace hw := hw y8 ey8
    refine lv_iinc (v := y8) (lv' := [(1, .int y8), (0, .ref (z_a E 19 0))]) hx hb dX6_empty_15 hl (k := 1) rfl (by rw [ey8]; rfl) (by decide) rfl (fun ls hl => ?_)
    refine lv_goto (tgt := 2) hx hb dX6_empty_18 (by decide) ?_
    exact k2 h7 y8 hw hP hS _ (lv_sub hl [1, 0] rfl)
theorem m_X6_empty_b2 {p : Program} {l : Launch} {e : Env} {s : State} {m : MethodId} {args : Array Value} {below : List Frame} {meth : Method} {c : Code} {E : z_E} (C : z_Cx p E s m args meth c cX6_empty 2 wsX6_empty RX6 none) (hM : z_mod E) (X : z_X) (K : z_G → Prop) (h : z_G) (x1 : Int32) (hw : v_X6_empty_b2 K h x1) {H : Heap} {locs : List Loc} (hP : z_P E (z_up X 19 h) H) (hS : va_S (z_A E) s.heap H locs) {ls : Array Slot} (hl : lv_has ls 2 [(0, .ref (z_a E 19 0)), (1, .int x1)]) : W p l e rX6_empty s m args below meth c H locs 0 0 (MQ below (va_Qv (fun X' => ∃ h', X' = z_up X 19 h' ∧ K h') (fun u t => z_P E u t.heap) (z_A E)) args s 0 0 (z_A E)) (F0 m 2 ls []) := by
  obtain ⟨n, hw⟩ := hw
  revert hw hP hS hl
  revert h x1 H locs ls
  induction n with
  | zero => intro h x1 H locs ls hP hS hl hw; exact hw.elim
  | succ n ih =>
    intro h x1 H locs ls hP hS hl hw
    exact m_X6_empty_b2_s C hM X K (fun h x1 => z_fp (σ := z_G × Int32) (fun Lp q => v_X6_empty_b2_s K (fun h x1 => Lp (h, x1)) q.1 q.2) n (h, x1)) (fun h x1 h9 H locs hP hS ls hl => ih h x1 hP hS hl h9) h x1 hw hP hS hl
set_option maxHeartbeats 4000000 in
set_option maxRecDepth 100000 in
theorem m_X6_empty (l : Launch) {E : z_E} (hE : z_ok E) (hM : z_mod E) (X : z_X) (h : z_G) (K : z_G → Prop) (hw : v_X6_empty h K) : z_CV l E yX6_empty wsX6_empty rX6_empty [.ref (z_a E 19 0)] (z_up X 19 h) (fun X' => ∃ h', X' = z_up X 19 h' ∧ K h') := by
  refine z_start (cc := cX6_empty) (maxL := 2) (ret := none) hE (by decide) rfl (Nat.le_of_ble_eq_true rfl) ?_
  intro p e s m below meth c C hP hS ls hl
  have C : z_Cx p E s m _ meth c cX6_empty 2 wsX6_empty RX6 none := C
  obtain ⟨hx, hb, hml, hr, hlocks, hown, hts, hK, hE⟩ := id C
  have hl : lv_has ls 2 [(0, .ref (z_a E 19 0))] := hl
  have hfX6 : ∀ w ∈ u_ws RX6 TX6 15, w ∈ wsX6_empty := by decide +kernel
  unfold v_X6_empty at hw
  refine lv_iconst (v := (0 : Int32)) hx hb dX6_empty_0 (by decide) ?_
  refine lv_istore_n (lv' := [(1, .int (0 : Int32)), (0, .ref (z_a E 19 0))]) hx hb dX6_empty_1 rfl hl (by decide) rfl (fun ls hl => ?_)
  exact m_X6_empty_b2 C hM X K h (0 : Int32) hw hP hS (lv_sub hl [1, 0] rfl)
set_option maxHeartbeats 4000000 in
set_option maxRecDepth 100000 in
theorem m_X6_letterAt (l : Launch) {E : z_E} (hE : z_ok E) (hM : z_mod E) (X : z_X) (h : z_G) (x1 : Int32) (K : Int32 → Prop) (hw : v_X6_letterAt h x1 K) : z_CI l E yX6_letterAt wsX6_letterAt rX6_letterAt [.ref (z_a E 19 0), .int x1] (z_up X 19 h) (fun r X' => X' = (z_up X 19 h) ∧ K r) := by
  refine z_start (cc := cX6_letterAt) (maxL := 2) (ret := (some .int)) hE (by decide) rfl (Nat.le_of_ble_eq_true rfl) ?_
  intro p e s m below meth c C hP hS ls hl
  have C : z_Cx p E s m _ meth c cX6_letterAt 2 wsX6_letterAt RX6 (some .int) := C
  obtain ⟨hx, hb, hml, hr, hlocks, hown, hts, hK, hE⟩ := id C
  have hl : lv_has ls 2 [(0, .ref (z_a E 19 0)), (1, .int x1)] := hl
  have hfX6 : ∀ w ∈ u_ws RX6 TX6 15, w ∈ wsX6_letterAt := by decide +kernel
  unfold v_X6_letterAt at hw
  refine lv_iload_n hx hb dX6_letterAt_0 rfl (lv_at hl 1 rfl) ?_
  refine lv_aload_n hx hb dX6_letterAt_1 rfl (lv_at hl 0 rfl) ?_
  refine z_geti (C := RX6) (T := TX6) (N := 15) (ref := "GauntletHallModel") (o := 19) (d := 0) hx hb hts hfX6 hown hK hP (hM (19, 0) (List.mem_of_getElem? (i := 0) rfl)) z_l_19_0 rfl 0 (by decide) (hts (.fieldLink RX6 61 "GauntletHallModel" "length" "I") (by decide +kernel)) rfl rfl (z_up_val X 19 h 0 0) dX6_letterAt_2 ?_
  refine lv_icmp_ge (tgt := 17) hx hb dX6_letterAt_5 (by decide) (fun c1 => ?_) (fun c1 => ?_)
  · replace hw := hw.1 c1
    refine lv_iconst (v := (0 : Int32)) hx hb dX6_letterAt_17 (by decide) ?_
    exact z_reti C hP hS ⟨rfl, hw⟩ dX6_letterAt_18
  · replace hw := hw.2 c1
    refine lv_aload_n hx hb dX6_letterAt_8 rfl (lv_at hl 0 rfl) ?_
    refine z_getr (C := RX6) (T := TX6) (N := 15) (ref := "GauntletHallModel") (o := 19) (d := 0) hx hb hts hfX6 hown hK hP (hM (19, 0) (List.mem_of_getElem? (i := 0) rfl)) z_l_19_0 rfl 1 (by decide) (hts (.fieldLink RX6 7 "GauntletHallModel" "text" "[I") (by decide +kernel)) rfl rfl dX6_letterAt_9 ?_
    refine lv_iload_n hx hb dX6_letterAt_12 rfl (lv_at hl 1 rfl) ?_
    obtain ⟨i2, hw⟩ := hw
    refine z_iald (o := 19) (d := 1) hx hb hK hP (hM (19, 1) (List.mem_of_getElem? (i := 1) rfl)) z_l_19_1 i2 (z_up_val X 19 h 1 (z_n x1)) dX6_letterAt_13 ?_
    refine lv_goto (tgt := 18) hx hb dX6_letterAt_14 (by decide) ?_
    exact z_reti C hP hS ⟨rfl, hw⟩ dX6_letterAt_18
