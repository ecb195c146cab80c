/-! ===== PRINTED (wip/whole/gen/gen.py): the machine meets each definition: X6.ring, X6.safe, X6.seen, X6.sizes ===== -/
set_option maxHeartbeats 4000000 in
set_option maxRecDepth 100000 in
theorem m_X6_ring_b50_s {p : Program} {l : Launch} {e : Env} {s : State} {m : MethodId} {args : Array Value} {below : List Frame} {meth : Method} {c : Code} {E : z_E} (C : z_Cx p E s m args meth c cX6_ring 7 wsX6_ring RX6 (some .int)) (hM : z_mod E) (X : z_X) (K : Int32 → z_G → Prop) (L20 : z_G → Int32 → Int32 → Int32 → Prop) (k20 : ∀ (h : z_G) (x1 : Int32) (x2 : Int32) (x3 : Int32), L20 h x1 x2 x3 → ∀ {H : Heap} {locs : List Loc}, z_P E (z_up X 19 h) H → va_S (z_A E) s.heap H locs → ∀ (ls : Array Slot), lv_has ls 7 [(0, .ref (z_a E 19 0)), (1, .int x1), (2, .int x2), (3, .int x3)] → W p l e rX6_ring s m args below meth c H locs 0 0 (MQ below (va_Qi (fun r X' => ∃ h', X' = z_up X 19 h' ∧ K r h') (fun u t => z_P E u t.heap) (z_A E)) args s 0 0 (z_A E)) (F0 m 20 ls [])) (L36 : z_G → Int32 → Int32 → Int32 → Int32 → Int32 → Prop) (k36 : ∀ (h : z_G) (x1 : Int32) (x2 : Int32) (x3 : Int32) (x4 : Int32) (x5 : Int32), L36 h x1 x2 x3 x4 x5 → ∀ {H : Heap} {locs : List Loc}, z_P E (z_up X 19 h) H → va_S (z_A E) s.heap H locs → ∀ (ls : Array Slot), lv_has ls 7 [(0, .ref (z_a E 19 0)), (1, .int x1), (2, .int x2), (3, .int x3), (4, .int x4), (5, .int x5)] → W p l e rX6_ring s m args below meth c H locs 0 0 (MQ below (va_Qi (fun r X' => ∃ h', X' = z_up X 19 h' ∧ K r h') (fun u t => z_P E u t.heap) (z_A E)) args s 0 0 (z_A E)) (F0 m 36 ls [])) (L50 : z_G → Int32 → Int32 → Int32 → Int32 → Int32 → Int32 → Prop) (k50 : ∀ (h : z_G) (x1 : Int32) (x2 : Int32) (x3 : Int32) (x4 : Int32) (x5 : Int32) (x6 : Int32), L50 h x1 x2 x3 x4 x5 x6 → ∀ {H : Heap} {locs : List Loc}, z_P E (z_up X 19 h) H → va_S (z_A E) s.heap H locs → ∀ (ls : Array Slot), lv_has ls 7 [(0, .ref (z_a E 19 0)), (1, .int x1), (2, .int x2), (3, .int x3), (4, .int x4), (5, .int x5), (6, .int x6)] → W p l e rX6_ring s m args below meth c H locs 0 0 (MQ below (va_Qi (fun r X' => ∃ h', X' = z_up X 19 h' ∧ K r h') (fun u t => z_P E u t.heap) (z_A E)) args s 0 0 (z_A E)) (F0 m 50 ls [])) (h : z_G) (x1 : Int32) (x2 : Int32) (x3 : Int32) (x4 : Int32) (x5 : Int32) (x6 : Int32) (hw : v_X6_ring_b50_s K L20 L36 L50 h x1 x2 x3 x4 x5 x6) {H : Heap} {locs : List Loc} (hP : z_P E (z_up X 19 h) H) (hS : va_S (z_A E) s.heap H locs) {ls : Array Slot} (hl : lv_has ls 7 [(0, .ref (z_a E 19 0)), (1, .int x1), (2, .int x2), (3, .int x3), (4, .int x4), (5, .int x5), (6, .int x6)]) : W p l e rX6_ring s m args below meth c H locs 0 0 (MQ below (va_Qi (fun r X' => ∃ h', X' = z_up X 19 h' ∧ K r h') (fun u t => z_P E u t.heap) (z_A E)) args s 0 0 (z_A E)) (F0 m 50 ls []) := by
  obtain ⟨hx, hb, hml, hr, hlocks, hown, hts, hK, hE⟩ := id C
  have hfX6 : ∀ w ∈ u_ws RX6 TX6 15, w ∈ wsX6_ring := by decide +kernel
  unfold v_X6_ring_b50_s at hw
  refine lv_iload hx hb dX6_ring_50 (lv_at hl 6 rfl) ?_
  refine lv_aload_n hx hb dX6_ring_52 rfl (lv_at hl 0 rfl) ?_
  refine z_getr (C := RX6) (T := TX6) (N := 15) (ref := "GauntletHallModel") (o := 19) (d := 0) hx hb hts hfX6 hown hK hP (hM (19, 0) (List.mem_of_getElem? (i := 0) rfl)) z_l_19_0 rfl 2 (by decide) (hts (.fieldLink RX6 13 "GauntletHallModel" "told" "[I") (by decide +kernel)) rfl rfl dX6_ring_53 ?_
  refine lv_iconst (v := (0 : Int32)) hx hb dX6_ring_56 (by decide) ?_
  obtain ⟨i12, hw⟩ := hw
  refine z_iald (o := 19) (d := 2) hx hb hK hP (hM (19, 2) (List.mem_of_getElem? (i := 2) rfl)) z_l_19_2 i12 (z_up_val X 19 h 2 (z_n (0 : Int32))) dX6_ring_57 ?_
  refine lv_icmp_ge (tgt := 108) hx hb dX6_ring_58 (by decide) (fun c13 => ?_) (fun c13 => ?_)
  · replace hw := hw.1 c13
    obtain ⟨y14, ey14⟩ : ∃ z : Int32, z = x5 + (1 : Int32) := ⟨_, rfl⟩
    replace hw := hw y14 ey14
    refine lv_iinc (v := y14) (lv' := [(5, .int y14), (0, .ref (z_a E 19 0)), (1, .int x1), (2, .int x2), (3, .int x3), (4, .int x4), (6, .int x6)]) hx hb dX6_ring_108 hl (k := 5) rfl (by rw [ey14]; rfl) (by decide) rfl (fun ls hl => ?_)
    refine lv_goto (tgt := 36) hx hb dX6_ring_111 (by decide) ?_
    exact k36 h x1 x2 x3 x4 y14 hw hP hS _ (lv_sub hl [1, 2, 3, 4, 5, 0] rfl)
  · replace hw := hw.2 c13
    refine lv_iload hx hb dX6_ring_61 (lv_at hl 4 rfl) ?_
    refine lv_iload_n hx hb dX6_ring_63 rfl (lv_at hl 2 rfl) ?_
    refine lv_iload hx hb dX6_ring_64 (lv_at hl 6 rfl) ?_
    refine z_si (rest := [.int x4]) ⟨hx, hb, hml, hown, hts⟩ (m_X6_has l hE (z_up X 19 h) x2 x6 _ hw) (va_cwS 2 hts gX6_ring_X6_has rfl rfl rfl (by decide +kernel) ⟨Nat.le_of_ble_eq_true rfl, Nat.le_of_ble_eq_true rfl⟩) hK hP hS rfl hl.1 rfl (Nat.le_of_ble_eq_true rfl) dX6_ring_66 ⟨Nat.zero_le _, Nat.zero_le _⟩ (fun r15 u H locs hk hP hS => ?_)
    obtain ⟨eu, hw⟩ := hk
    rw [eu] at hP
    refine lv_if_eq (tgt := 98) hx hb dX6_ring_69 (by decide) (fun c16 => ?_) (fun c16 => ?_)
    · replace hw := hw.1 c16
      refine lv_iconst (v := (0 : Int32)) hx hb dX6_ring_98 (by decide) ?_
      refine lv_ior hx hb dX6_ring_99 ?_
      refine lv_topi (fun y17 ey17 => ?_)
      replace hw := hw y17 ey17
      refine lv_istore (lv' := [(4, .int y17), (0, .ref (z_a E 19 0)), (1, .int x1), (2, .int x2), (3, .int x3), (5, .int x5), (6, .int x6)]) hx hb dX6_ring_100 hl (by decide) rfl (fun ls hl => ?_)
      obtain ⟨y18, ey18⟩ : ∃ z : Int32, z = x6 + (1 : Int32) := ⟨_, rfl⟩
      replace hw := hw y18 ey18
      refine lv_iinc (v := y18) (lv' := [(6, .int y18), (4, .int y17), (0, .ref (z_a E 19 0)), (1, .int x1), (2, .int x2), (3, .int x3), (5, .int x5)]) hx hb dX6_ring_102 hl (k := 6) rfl (by rw [ey18]; rfl) (by decide) rfl (fun ls hl => ?_)
      refine lv_goto (tgt := 50) hx hb dX6_ring_105 (by decide) ?_
      exact k50 h x1 x2 x3 y17 x5 y18 hw hP hS _ (lv_sub hl [2, 3, 4, 5, 1, 6, 0] rfl)
    · replace hw := hw.2 c16
      refine lv_aload_n hx hb dX6_ring_72 rfl (lv_at hl 0 rfl) ?_
      refine lv_iload hx hb dX6_ring_73 (lv_at hl 5 rfl) ?_
      refine lv_iload hx hb dX6_ring_75 (lv_at hl 6 rfl) ?_
      refine z_vi (C := RX6) (T := TX6) (N := 15) (o := 19) (rest := [.int x4]) ⟨hx, hb, hml, hown, hts⟩ (m_X6_isFit l hE hM X h x5 x6 _ hw) (cwV 2 hts gX6_ring_X6_isFit rfl rfl rfl (by decide +kernel) ⟨Nat.le_of_ble_eq_true rfl, Nat.le_of_ble_eq_true rfl⟩) hK hP hS (hM (19, 0) (List.mem_of_getElem? (i := 0) rfl)) z_l_19_0 rfl rfl hl.1 rfl (Nat.le_of_ble_eq_true rfl) dX6_ring_77 ⟨Nat.zero_le _, Nat.zero_le _⟩ (fun r19 u H locs hk hP hS => ?_)
      obtain ⟨eu, hw⟩ := hk
      rw [eu] at hP
      refine lv_if_eq (tgt := 98) hx hb dX6_ring_80 (by decide) (fun c20 => ?_) (fun c20 => ?_)
      · replace hw := hw.1 c20
        refine lv_iconst (v := (0 : Int32)) hx hb dX6_ring_98 (by decide) ?_
        refine lv_ior hx hb dX6_ring_99 ?_
        refine lv_topi (fun y21 ey21 => ?_)
        replace hw := hw y21 ey21
        refine lv_istore (lv' := [(4, .int y21), (0, .ref (z_a E 19 0)), (1, .int x1), (2, .int x2), (3, .int x3), (5, .int x5), (6, .int x6)]) hx hb dX6_ring_100 hl (by decide) rfl (fun ls hl => ?_)
        obtain ⟨y22, ey22⟩ : ∃ z : Int32, z = x6 + (1 : Int32) := ⟨_, rfl⟩
        replace hw := hw y22 ey22
        refine lv_iinc (v := y22) (lv' := [(6, .int y22), (4, .int y21), (0, .ref (z_a E 19 0)), (1, .int x1), (2, .int x2), (3, .int x3), (5, .int x5)]) hx hb dX6_ring_102 hl (k := 6) rfl (by rw [ey22]; rfl) (by decide) rfl (fun ls hl => ?_)
        refine lv_goto (tgt := 50) hx hb dX6_ring_105 (by decide) ?_
        exact k50 h x1 x2 x3 y21 x5 y22 hw hP hS _ (lv_sub hl [2, 3, 4, 5, 1, 6, 0] rfl)
      · replace hw := hw.2 c20
        refine lv_iconst (v := (1 : Int32)) hx hb dX6_ring_83 (by decide) ?_
        refine lv_aload_n hx hb dX6_ring_84 rfl (lv_at hl 0 rfl) ?_
        refine z_getr (C := RX6) (T := TX6) (N := 15) (ref := "GauntletHallModel") (o := 19) (d := 0) hx hb hts hfX6 hown hK hP (hM (19, 0) (List.mem_of_getElem? (i := 0) rfl)) z_l_19_0 rfl 6 (by decide) (hts (.fieldLink RX6 25 "GauntletHallModel" "side" "[I") (by decide +kernel)) rfl rfl dX6_ring_85 ?_
        refine lv_bipush (v := (26 : Int32)) hx hb dX6_ring_88 (by decide) ?_
        refine lv_iload hx hb dX6_ring_90 (lv_at hl 5 rfl) ?_
        refine lv_iadd hx hb dX6_ring_92 ?_
        obtain ⟨i23, hw⟩ := hw
        refine z_iald (o := 19) (d := 6) hx hb hK hP (hM (19, 6) (List.mem_of_getElem? (i := 6) rfl)) z_l_19_6 i23 (z_up_val X 19 h 6 (z_n ((26 : Int32) + x5))) dX6_ring_93 ?_
        refine lv_ishl hx hb dX6_ring_94 ?_
        refine lv_goto (tgt := 99) hx hb dX6_ring_95 (by decide) ?_
        refine lv_ior hx hb dX6_ring_99 ?_
        refine lv_topi (fun y24 ey24 => ?_)
        replace hw := hw y24 ey24
        refine lv_istore (lv' := [(4, .int y24), (0, .ref (z_a E 19 0)), (1, .int x1), (2, .int x2), (3, .int x3), (5, .int x5), (6, .int x6)]) hx hb dX6_ring_100 hl (by decide) rfl (fun ls hl => ?_)
        obtain ⟨y25, ey25⟩ : ∃ z : Int32, z = x6 + (1 : Int32) := ⟨_, rfl⟩
        replace hw := hw y25 ey25
        refine lv_iinc (v := y25) (lv' := [(6, .int y25), (4, .int y24), (0, .ref (z_a E 19 0)), (1, .int x1), (2, .int x2), (3, .int x3), (5, .int x5)]) hx hb dX6_ring_102 hl (k := 6) rfl (by rw [ey25]; rfl) (by decide) rfl (fun ls hl => ?_)
        refine lv_goto (tgt := 50) hx hb dX6_ring_105 (by decide) ?_
        exact k50 h x1 x2 x3 y24 x5 y25 hw hP hS _ (lv_sub hl [2, 3, 4, 5, 1, 6, 0] rfl)
theorem m_X6_ring_b50 {p : Program} {l : Launch} {e : Env} {s : State} {m : MethodId} {args : Array Value} {below : List Frame} {meth : Method} {c : Code} {E : z_E} (C : z_Cx p E s m args meth c cX6_ring 7 wsX6_ring RX6 (some .int)) (hM : z_mod E) (X : z_X) (K : Int32 → z_G → Prop) (L20 : z_G → Int32 → Int32 → Int32 → Prop) (k20 : ∀ (h : z_G) (x1 : Int32) (x2 : Int32) (x3 : Int32), L20 h x1 x2 x3 → ∀ {H : Heap} {locs : List Loc}, z_P E (z_up X 19 h) H → va_S (z_A E) s.heap H locs → ∀ (ls : Array Slot), lv_has ls 7 [(0, .ref (z_a E 19 0)), (1, .int x1), (2, .int x2), (3, .int x3)] → W p l e rX6_ring s m args below meth c H locs 0 0 (MQ below (va_Qi (fun r X' => ∃ h', X' = z_up X 19 h' ∧ K r h') (fun u t => z_P E u t.heap) (z_A E)) args s 0 0 (z_A E)) (F0 m 20 ls [])) (L36 : z_G → Int32 → Int32 → Int32 → Int32 → Int32 → Prop) (k36 : ∀ (h : z_G) (x1 : Int32) (x2 : Int32) (x3 : Int32) (x4 : Int32) (x5 : Int32), L36 h x1 x2 x3 x4 x5 → ∀ {H : Heap} {locs : List Loc}, z_P E (z_up X 19 h) H → va_S (z_A E) s.heap H locs → ∀ (ls : Array Slot), lv_has ls 7 [(0, .ref (z_a E 19 0)), (1, .int x1), (2, .int x2), (3, .int x3), (4, .int x4), (5, .int x5)] → W p l e rX6_ring s m args below meth c H locs 0 0 (MQ below (va_Qi (fun r X' => ∃ h', X' = z_up X 19 h' ∧ K r h') (fun u t => z_P E u t.heap) (z_A E)) args s 0 0 (z_A E)) (F0 m 36 ls [])) (h : z_G) (x1 : Int32) (x2 : Int32) (x3 : Int32) (x4 : Int32) (x5 : Int32) (x6 : Int32) (hw : v_X6_ring_b50 K L20 L36 h x1 x2 x3 x4 x5 x6) {H : Heap} {locs : List Loc} (hP : z_P E (z_up X 19 h) H) (hS : va_S (z_A E) s.heap H locs) {ls : Array Slot} (hl : lv_has ls 7 [(0, .ref (z_a E 19 0)), (1, .int x1), (2, .int x2), (3, .int x3), (4, .int x4), (5, .int x5), (6, .int x6)]) : W p l e rX6_ring s m args below meth c H locs 0 0 (MQ below (va_Qi (fun r X' => ∃ h', X' = z_up X 19 h' ∧ K r h') (fun u t => z_P E u t.heap) (z_A E)) args s 0 0 (z_A E)) (F0 m 50 ls []) := by
  obtain ⟨n, hw⟩ := hw
  revert hw hP hS hl
  revert h x1 x2 x3 x4 x5 x6 H locs ls
  induction n with
  | zero => intro h x1 x2 x3 x4 x5 x6 H locs ls hP hS hl hw; exact hw.elim
  | succ n ih =>
    intro h x1 x2 x3 x4 x5 x6 H locs ls hP hS hl hw
    exact m_X6_ring_b50_s C hM X K L20 k20 L36 k36 (fun h x1 x2 x3 x4 x5 x6 => z_fp (σ := z_G × Int32 × Int32 × Int32 × Int32 × Int32 × Int32) (fun Lp q => v_X6_ring_b50_s K L20 L36 (fun h x1 x2 x3 x4 x5 x6 => Lp (h, x1, x2, x3, x4, x5, x6)) q.1 q.2.1 q.2.2.1 q.2.2.2.1 q.2.2.2.2.1 q.2.2.2.2.2.1 q.2.2.2.2.2.2) n (h, x1, x2, x3, x4, x5, x6)) (fun h x1 x2 x3 x4 x5 x6 h9 H locs hP hS ls hl => ih h x1 x2 x3 x4 x5 x6 hP hS hl h9) h x1 x2 x3 x4 x5 x6 hw hP hS hl
set_option maxHeartbeats 4000000 in
set_option maxRecDepth 100000 in
theorem m_X6_ring_b36_s {p : Program} {l : Launch} {e : Env} {s : State} {m : MethodId} {args : Array Value} {below : List Frame} {meth : Method} {c : Code} {E : z_E} (C : z_Cx p E s m args meth c cX6_ring 7 wsX6_ring RX6 (some .int)) (hM : z_mod E) (X : z_X) (K : Int32 → z_G → Prop) (L20 : z_G → Int32 → Int32 → Int32 → Prop) (k20 : ∀ (h : z_G) (x1 : Int32) (x2 : Int32) (x3 : Int32), L20 h x1 x2 x3 → ∀ {H : Heap} {locs : List Loc}, z_P E (z_up X 19 h) H → va_S (z_A E) s.heap H locs → ∀ (ls : Array Slot), lv_has ls 7 [(0, .ref (z_a E 19 0)), (1, .int x1), (2, .int x2), (3, .int x3)] → W p l e rX6_ring s m args below meth c H locs 0 0 (MQ below (va_Qi (fun r X' => ∃ h', X' = z_up X 19 h' ∧ K r h') (fun u t => z_P E u t.heap) (z_A E)) args s 0 0 (z_A E)) (F0 m 20 ls [])) (L36 : z_G → Int32 → Int32 → Int32 → Int32 → Int32 → Prop) (k36 : ∀ (h : z_G) (x1 : Int32) (x2 : Int32) (x3 : Int32) (x4 : Int32) (x5 : Int32), L36 h x1 x2 x3 x4 x5 → ∀ {H : Heap} {locs : List Loc}, z_P E (z_up X 19 h) H → va_S (z_A E) s.heap H locs → ∀ (ls : Array Slot), lv_has ls 7 [(0, .ref (z_a E 19 0)), (1, .int x1), (2, .int x2), (3, .int x3), (4, .int x4), (5, .int x5)] → W p l e rX6_ring s m args below meth c H locs 0 0 (MQ below (va_Qi (fun r X' => ∃ h', X' = z_up X 19 h' ∧ K r h') (fun u t => z_P E u t.heap) (z_A E)) args s 0 0 (z_A E)) (F0 m 36 ls [])) (h : z_G) (x1 : Int32) (x2 : Int32) (x3 : Int32) (x4 : Int32) (x5 : Int32) (hw : v_X6_ring_b36_s K L20 L36 h x1 x2 x3 x4 x5) {H : Heap} {locs : List Loc} (hP : z_P E (z_up X 19 h) H) (hS : va_S (z_A E) s.heap H locs) {ls : Array Slot} (hl : lv_has ls 7 [(0, .ref (z_a E 19 0)), (1, .int x1), (2, .int x2), (3, .int x3), (4, .int x4), (5, .int x5)]) : W p l e rX6_ring s m args below meth c H locs 0 0 (MQ below (va_Qi (fun r X' => ∃ h', X' = z_up X 19 h' ∧ K r h') (fun u t => z_P E u t.heap) (z_A E)) args s 0 0 (z_A E)) (F0 m 36 ls []) := by
  obtain ⟨hx, hb, hml, hr, hlocks, hown, hts, hK, hE⟩ := id C
  have hfX6 : ∀ w ∈ u_ws RX6 TX6 15, w ∈ wsX6_ring := by decide +kernel
  unfold v_X6_ring_b36_s at hw
  refine lv_iload hx hb dX6_ring_36 (lv_at hl 5 rfl) ?_
  refine lv_aload_n hx hb dX6_ring_38 rfl (lv_at hl 0 rfl) ?_
  refine z_getr (C := RX6) (T := TX6) (N := 15) (ref := "GauntletHallModel") (o := 19) (d := 0) hx hb hts hfX6 hown hK hP (hM (19, 0) (List.mem_of_getElem? (i := 0) rfl)) z_l_19_0 rfl 5 (by decide) (hts (.fieldLink RX6 22 "GauntletHallModel" "now" "[I") (by decide +kernel)) rfl rfl dX6_ring_39 ?_
  refine lv_iconst (v := (2 : Int32)) hx hb dX6_ring_42 (by decide) ?_
  obtain ⟨i7, hw⟩ := hw
  refine z_iald (o := 19) (d := 5) hx hb hK hP (hM (19, 5) (List.mem_of_getElem? (i := 5) rfl)) z_l_19_5 i7 (z_up_val X 19 h 5 (z_n (2 : Int32))) dX6_ring_43 ?_
  refine lv_icmp_ge (tgt := 114) hx hb dX6_ring_44 (by decide) (fun c8 => ?_) (fun c8 => ?_)
  · replace hw := hw.1 c8
    refine lv_iload hx hb dX6_ring_114 (lv_at hl 4 rfl) ?_
    refine lv_iload_n hx hb dX6_ring_116 rfl (lv_at hl 1 rfl) ?_
    refine z_si (rest := []) ⟨hx, hb, hml, hown, hts⟩ (m_X6_has l hE (z_up X 19 h) x4 x1 _ hw) (va_cwS 2 hts gX6_ring_X6_has rfl rfl rfl (by decide +kernel) ⟨Nat.le_of_ble_eq_true rfl, Nat.le_of_ble_eq_true rfl⟩) hK hP hS rfl hl.1 rfl (Nat.le_of_ble_eq_true rfl) dX6_ring_117 ⟨Nat.zero_le _, Nat.zero_le _⟩ (fun r9 u H locs hk hP hS => ?_)
    obtain ⟨eu, hw⟩ := hk
    rw [eu] at hP
    refine lv_if_eq (tgt := 125) hx hb dX6_ring_120 (by decide) (fun c10 => ?_) (fun c10 => ?_)
    · replace hw := hw.1 c10
      refine lv_iload hx hb dX6_ring_125 (lv_at hl 4 rfl) ?_
      refine lv_istore_n (lv' := [(2, .int x4), (0, .ref (z_a E 19 0)), (1, .int x1), (3, .int x3), (4, .int x4), (5, .int x5)]) hx hb dX6_ring_127 rfl hl (by decide) rfl (fun ls hl => ?_)
      obtain ⟨y11, ey11⟩ : ∃ z : Int32, z = x3 + (1 : Int32) := ⟨_, rfl⟩
      replace hw := hw y11 ey11
      refine lv_iinc (v := y11) (lv' := [(3, .int y11), (2, .int x4), (0, .ref (z_a E 19 0)), (1, .int x1), (4, .int x4), (5, .int x5)]) hx hb dX6_ring_128 hl (k := 3) rfl (by rw [ey11]; rfl) (by decide) rfl (fun ls hl => ?_)
      refine lv_goto (tgt := 20) hx hb dX6_ring_131 (by decide) ?_
      exact k20 h x1 x4 y11 hw hP hS _ (lv_sub hl [2, 3, 1, 0] rfl)
    · replace hw := hw.2 c10
      refine lv_iload_n hx hb dX6_ring_123 rfl (lv_at hl 3 rfl) ?_
      exact z_reti C hP hS ⟨_, rfl, hw⟩ dX6_ring_124
  · replace hw := hw.2 c8
    refine lv_iconst (v := (0 : Int32)) hx hb dX6_ring_47 (by decide) ?_
    refine lv_istore (lv' := [(6, .int (0 : Int32)), (0, .ref (z_a E 19 0)), (1, .int x1), (2, .int x2), (3, .int x3), (4, .int x4), (5, .int x5)]) hx hb dX6_ring_48 hl (by decide) rfl (fun ls hl => ?_)
    exact m_X6_ring_b50 C hM X K L20 k20 L36 k36 h x1 x2 x3 x4 x5 (0 : Int32) hw hP hS (lv_sub hl [1, 2, 3, 4, 5, 6, 0] rfl)
theorem m_X6_ring_b36 {p : Program} {l : Launch} {e : Env} {s : State} {m : MethodId} {args : Array Value} {below : List Frame} {meth : Method} {c : Code} {E : z_E} (C : z_Cx p E s m args meth c cX6_ring 7 wsX6_ring RX6 (some .int)) (hM : z_mod E) (X : z_X) (K : Int32 → z_G → Prop) (L20 : z_G → Int32 → Int32 → Int32 → Prop) (k20 : ∀ (h : z_G) (x1 : Int32) (x2 : Int32) (x3 : Int32), L20 h x1 x2 x3 → ∀ {H : Heap} {locs : List Loc}, z_P E (z_up X 19 h) H → va_S (z_A E) s.heap H locs → ∀ (ls : Array Slot), lv_has ls 7 [(0, .ref (z_a E 19 0)), (1, .int x1), (2, .int x2), (3, .int x3)] → W p l e rX6_ring s m args below meth c H locs 0 0 (MQ below (va_Qi (fun r X' => ∃ h', X' = z_up X 19 h' ∧ K r h') (fun u t => z_P E u t.heap) (z_A E)) args s 0 0 (z_A E)) (F0 m 20 ls [])) (h : z_G) (x1 : Int32) (x2 : Int32) (x3 : Int32) (x4 : Int32) (x5 : Int32) (hw : v_X6_ring_b36 K L20 h x1 x2 x3 x4 x5) {H : Heap} {locs : List Loc} (hP : z_P E (z_up X 19 h) H) (hS : va_S (z_A E) s.heap H locs) {ls : Array Slot} (hl : lv_has ls 7 [(0, .ref (z_a E 19 0)), (1, .int x1), (2, .int x2), (3, .int x3), (4, .int x4), (5, .int x5)]) : W p l e rX6_ring s m args below meth c H locs 0 0 (MQ below (va_Qi (fun r X' => ∃ h', X' = z_up X 19 h' ∧ K r h') (fun u t => z_P E u t.heap) (z_A E)) args s 0 0 (z_A E)) (F0 m 36 ls []) := by
  obtain ⟨n, hw⟩ := hw
  revert hw hP hS hl
  revert h x1 x2 x3 x4 x5 H locs ls
  induction n with
  | zero => intro h x1 x2 x3 x4 x5 H locs ls hP hS hl hw; exact hw.elim
  | succ n ih =>
    intro h x1 x2 x3 x4 x5 H locs ls hP hS hl hw
    exact m_X6_ring_b36_s C hM X K L20 k20 (fun h x1 x2 x3 x4 x5 => z_fp (σ := z_G × Int32 × Int32 × Int32 × Int32 × Int32) (fun Lp q => v_X6_ring_b36_s K L20 (fun h x1 x2 x3 x4 x5 => Lp (h, x1, x2, x3, x4, x5)) q.1 q.2.1 q.2.2.1 q.2.2.2.1 q.2.2.2.2.1 q.2.2.2.2.2) n (h, x1, x2, x3, x4, x5)) (fun h x1 x2 x3 x4 x5 h9 H locs hP hS ls hl => ih h x1 x2 x3 x4 x5 hP hS hl h9) h x1 x2 x3 x4 x5 hw hP hS hl
set_option maxHeartbeats 4000000 in
set_option maxRecDepth 100000 in
theorem m_X6_ring_b20_s {p : Program} {l : Launch} {e : Env} {s : State} {m : MethodId} {args : Array Value} {below : List Frame} {meth : Method} {c : Code} {E : z_E} (C : z_Cx p E s m args meth c cX6_ring 7 wsX6_ring RX6 (some .int)) (hM : z_mod E) (X : z_X) (K : Int32 → z_G → Prop) (L20 : z_G → Int32 → Int32 → Int32 → Prop) (k20 : ∀ (h : z_G) (x1 : Int32) (x2 : Int32) (x3 : Int32), L20 h x1 x2 x3 → ∀ {H : Heap} {locs : List Loc}, z_P E (z_up X 19 h) H → va_S (z_A E) s.heap H locs → ∀ (ls : Array Slot), lv_has ls 7 [(0, .ref (z_a E 19 0)), (1, .int x1), (2, .int x2), (3, .int x3)] → W p l e rX6_ring s m args below meth c H locs 0 0 (MQ below (va_Qi (fun r X' => ∃ h', X' = z_up X 19 h' ∧ K r h') (fun u t => z_P E u t.heap) (z_A E)) args s 0 0 (z_A E)) (F0 m 20 ls [])) (h : z_G) (x1 : Int32) (x2 : Int32) (x3 : Int32) (hw : v_X6_ring_b20_s K L20 h x1 x2 x3) {H : Heap} {locs : List Loc} (hP : z_P E (z_up X 19 h) H) (hS : va_S (z_A E) s.heap H locs) {ls : Array Slot} (hl : lv_has ls 7 [(0, .ref (z_a E 19 0)), (1, .int x1), (2, .int x2), (3, .int x3)]) : W p l e rX6_ring s m args below meth c H locs 0 0 (MQ below (va_Qi (fun r X' => ∃ h', X' = z_up X 19 h' ∧ K r h') (fun u t => z_P E u t.heap) (z_A E)) args s 0 0 (z_A E)) (F0 m 20 ls []) := by
  obtain ⟨hx, hb, hml, hr, hlocks, hown, hts, hK, hE⟩ := id C
  have hfX6 : ∀ w ∈ u_ws RX6 TX6 15, w ∈ wsX6_ring := by decide +kernel
  unfold v_X6_ring_b20_s at hw
  refine lv_iload_n hx hb dX6_ring_20 rfl (lv_at hl 3 rfl) ?_
  refine lv_aload_n hx hb dX6_ring_21 rfl (lv_at hl 0 rfl) ?_
  refine z_getr (C := RX6) (T := TX6) (N := 15) (ref := "GauntletHallModel") (o := 19) (d := 0) hx hb hts hfX6 hown hK hP (hM (19, 0) (List.mem_of_getElem? (i := 0) rfl)) z_l_19_0 rfl 2 (by decide) (hts (.fieldLink RX6 13 "GauntletHallModel" "told" "[I") (by decide +kernel)) rfl rfl dX6_ring_22 ?_
  refine lv_iconst (v := (0 : Int32)) hx hb dX6_ring_25 (by decide) ?_
  obtain ⟨i5, hw⟩ := hw
  refine z_iald (o := 19) (d := 2) hx hb hK hP (hM (19, 2) (List.mem_of_getElem? (i := 2) rfl)) z_l_19_2 i5 (z_up_val X 19 h 2 (z_n (0 : Int32))) dX6_ring_26 ?_
  refine lv_icmp_gt (tgt := 134) hx hb dX6_ring_27 (by decide) (fun c6 => ?_) (fun c6 => ?_)
  · replace hw := hw.1 c6
    refine lv_bipush (v := (-4 : Int32)) hx hb dX6_ring_134 (by decide) ?_
    exact z_reti C hP hS ⟨_, rfl, hw⟩ dX6_ring_136
  · replace hw := hw.2 c6
    refine lv_iconst (v := (0 : Int32)) hx hb dX6_ring_30 (by decide) ?_
    refine lv_istore (lv' := [(4, .int (0 : Int32)), (0, .ref (z_a E 19 0)), (1, .int x1), (2, .int x2), (3, .int x3)]) hx hb dX6_ring_31 hl (by decide) rfl (fun ls hl => ?_)
    refine lv_iconst (v := (0 : Int32)) hx hb dX6_ring_33 (by decide) ?_
    refine lv_istore (lv' := [(5, .int (0 : Int32)), (4, .int (0 : Int32)), (0, .ref (z_a E 19 0)), (1, .int x1), (2, .int x2), (3, .int x3)]) hx hb dX6_ring_34 hl (by decide) rfl (fun ls hl => ?_)
    exact m_X6_ring_b36 C hM X K L20 k20 h x1 x2 x3 (0 : Int32) (0 : Int32) hw hP hS (lv_sub hl [2, 3, 4, 5, 1, 0] rfl)
theorem m_X6_ring_b20 {p : Program} {l : Launch} {e : Env} {s : State} {m : MethodId} {args : Array Value} {below : List Frame} {meth : Method} {c : Code} {E : z_E} (C : z_Cx p E s m args meth c cX6_ring 7 wsX6_ring RX6 (some .int)) (hM : z_mod E) (X : z_X) (K : Int32 → z_G → Prop) (h : z_G) (x1 : Int32) (x2 : Int32) (x3 : Int32) (hw : v_X6_ring_b20 K h x1 x2 x3) {H : Heap} {locs : List Loc} (hP : z_P E (z_up X 19 h) H) (hS : va_S (z_A E) s.heap H locs) {ls : Array Slot} (hl : lv_has ls 7 [(0, .ref (z_a E 19 0)), (1, .int x1), (2, .int x2), (3, .int x3)]) : W p l e rX6_ring s m args below meth c H locs 0 0 (MQ below (va_Qi (fun r X' => ∃ h', X' = z_up X 19 h' ∧ K r h') (fun u t => z_P E u t.heap) (z_A E)) args s 0 0 (z_A E)) (F0 m 20 ls []) := by
  obtain ⟨n, hw⟩ := hw
  revert hw hP hS hl
  revert h x1 x2 x3 H locs ls
  induction n with
  | zero => intro h x1 x2 x3 H locs ls hP hS hl hw; exact hw.elim
  | succ n ih =>
    intro h x1 x2 x3 H locs ls hP hS hl hw
    exact m_X6_ring_b20_s C hM X K (fun h x1 x2 x3 => z_fp (σ := z_G × Int32 × Int32 × Int32) (fun Lp q => v_X6_ring_b20_s K (fun h x1 x2 x3 => Lp (h, x1, x2, x3)) q.1 q.2.1 q.2.2.1 q.2.2.2) n (h, x1, x2, x3)) (fun h x1 x2 x3 h9 H locs hP hS ls hl => ih h x1 x2 x3 hP hS hl h9) h x1 x2 x3 hw hP hS hl
set_option maxHeartbeats 4000000 in
set_option maxRecDepth 100000 in
theorem m_X6_ring (l : Launch) {E : z_E} (hE : z_ok E) (hM : z_mod E) (X : z_X) (h : z_G) (x1 : Int32) (K : Int32 → z_G → Prop) (hw : v_X6_ring h x1 K) : z_CI l E yX6_ring wsX6_ring rX6_ring [.ref (z_a E 19 0), .int x1] (z_up X 19 h) (fun r X' => ∃ h', X' = z_up X 19 h' ∧ K r h') := by
  refine z_start (cc := cX6_ring) (maxL := 7) (ret := (some .int)) hE (by decide) rfl (Nat.le_of_ble_eq_true rfl) ?_
  intro p e s m below meth c C hP hS ls hl
  have C : z_Cx p E s m _ meth c cX6_ring 7 wsX6_ring RX6 (some .int) := C
  obtain ⟨hx, hb, hml, hr, hlocks, hown, hts, hK, hE⟩ := id C
  have hl : lv_has ls 7 [(0, .ref (z_a E 19 0)), (1, .int x1)] := hl
  have hfX6 : ∀ w ∈ u_ws RX6 TX6 15, w ∈ wsX6_ring := by decide +kernel
  unfold v_X6_ring at hw
  refine lv_aload_n hx hb dX6_ring_0 rfl (lv_at hl 0 rfl) ?_
  refine lv_iload_n hx hb dX6_ring_1 rfl (lv_at hl 1 rfl) ?_
  refine z_vi (C := RX6) (T := TX6) (N := 15) (o := 19) (rest := []) ⟨hx, hb, hml, hown, hts⟩ (m_X6_isPerson l hE hM X h x1 _ hw) (cwV 1 hts gX6_ring_X6_isPerson rfl rfl rfl (by decide +kernel) ⟨Nat.le_of_ble_eq_true rfl, Nat.le_of_ble_eq_true rfl⟩) hK hP hS (hM (19, 0) (List.mem_of_getElem? (i := 0) rfl)) z_l_19_0 rfl rfl hl.1 rfl (Nat.le_of_ble_eq_true rfl) dX6_ring_2 ⟨Nat.zero_le _, Nat.zero_le _⟩ (fun r1 u H locs hk hP hS => ?_)
  obtain ⟨eu, hw⟩ := hk
  rw [eu] at hP
  refine lv_if_ne (tgt := 10) hx hb dX6_ring_5 (by decide) (fun c2 => ?_) (fun c2 => ?_)
  · replace hw := hw.1 c2
    refine lv_aload_n hx hb dX6_ring_10 rfl (lv_at hl 0 rfl) ?_
    refine z_vv (C := RX6) (T := TX6) (N := 15) (o := 19) (rest := []) ⟨hx, hb, hml, hown, hts⟩ (m_X6_aside l hE hM X h _ hw) (cwV 0 hts gX6_ring_X6_aside rfl rfl rfl (by decide +kernel) ⟨Nat.le_of_ble_eq_true rfl, Nat.le_of_ble_eq_true rfl⟩) hK hP hS (hM (19, 0) (List.mem_of_getElem? (i := 0) rfl)) z_l_19_0 rfl rfl hl.1 rfl (Nat.le_of_ble_eq_true rfl) dX6_ring_11 ⟨Nat.zero_le _, Nat.zero_le _⟩ (fun u H locs hk hP hS => ?_)
    obtain ⟨h3, eu, hw⟩ := hk
    rw [eu] at hP
    refine lv_iconst (v := (1 : Int32)) hx hb dX6_ring_14 (by decide) ?_
    refine lv_iload_n hx hb dX6_ring_15 rfl (lv_at hl 1 rfl) ?_
    refine lv_ishl hx hb dX6_ring_16 ?_
    refine lv_topi (fun y4 ey4 => ?_)
    replace hw := hw y4 ey4
    refine lv_istore_n (lv' := [(2, .int y4), (0, .ref (z_a E 19 0)), (1, .int x1)]) hx hb dX6_ring_17 rfl hl (by decide) rfl (fun ls hl => ?_)
    refine lv_iconst (v := (1 : Int32)) hx hb dX6_ring_18 (by decide) ?_
    refine lv_istore_n (lv' := [(3, .int (1 : Int32)), (2, .int y4), (0, .ref (z_a E 19 0)), (1, .int x1)]) hx hb dX6_ring_19 rfl hl (by decide) rfl (fun ls hl => ?_)
    exact m_X6_ring_b20 C hM X K h3 x1 y4 (1 : Int32) hw hP hS (lv_sub hl [2, 3, 1, 0] rfl)
  · replace hw := hw.2 c2
    refine lv_iconst (v := (-1 : Int32)) hx hb dX6_ring_8 (by decide) ?_
    exact z_reti C hP hS ⟨_, rfl, hw⟩ dX6_ring_9
set_option maxHeartbeats 4000000 in
set_option maxRecDepth 100000 in
theorem m_X6_safe_b81 {p : Program} {l : Launch} {e : Env} {s : State} {m : MethodId} {args : Array Value} {below : List Frame} {meth : Method} {c : Code} {E : z_E} (C : z_Cx p E s m args meth c cX6_safe 6 wsX6_safe RX6 (some .int)) (hM : z_mod E) (X : z_X) (K : Int32 → z_G → Prop) (L39 : z_G → Int32 → Int32 → Int32 → Int32 → Int32 → Prop) (k39 : ∀ (h : z_G) (x1 : Int32) (x2 : Int32) (x3 : Int32) (x4 : Int32) (x5 : Int32), L39 h x1 x2 x3 x4 x5 → ∀ {H : Heap} {locs : List Loc}, z_P E (z_up X 19 h) H → va_S (z_A E) s.heap H locs → ∀ (ls : Array Slot), lv_has ls 6 [(0, .ref (z_a E 19 0)), (1, .int x1), (2, .int x2), (3, .int x3), (4, .int x4), (5, .int x5)] → W p l e rX6_safe s m args below meth c H locs 0 0 (MQ below (va_Qi (fun r X' => ∃ h', X' = z_up X 19 h' ∧ K r h') (fun u t => z_P E u t.heap) (z_A E)) args s 0 0 (z_A E)) (F0 m 39 ls [])) (h : z_G) (x1 : Int32) (x2 : Int32) (x3 : Int32) (x4 : Int32) (x5 : Int32) (hw : v_X6_safe_b81 K L39 h x1 x2 x3 x4 x5) {H : Heap} {locs : List Loc} (hP : z_P E (z_up X 19 h) H) (hS : va_S (z_A E) s.heap H locs) {ls : Array Slot} (hl : lv_has ls 6 [(0, .ref (z_a E 19 0)), (1, .int x1), (2, .int x2), (3, .int x3), (4, .int x4), (5, .int x5)]) : W p l e rX6_safe s m args below meth c H locs 0 0 (MQ below (va_Qi (fun r X' => ∃ h', X' = z_up X 19 h' ∧ K r h') (fun u t => z_P E u t.heap) (z_A E)) args s 0 0 (z_A E)) (F0 m 81 ls []) := by
  obtain ⟨hx, hb, hml, hr, hlocks, hown, hts, hK, hE⟩ := id C
  have hfX6 : ∀ w ∈ u_ws RX6 TX6 15, w ∈ wsX6_safe := by decide +kernel
  unfold v_X6_safe_b81 at hw
  refine lv_aload_n hx hb dX6_safe_81 rfl (lv_at hl 0 rfl) ?_
  refine z_vv (C := RX6) (T := TX6) (N := 15) (o := 19) (rest := []) ⟨hx, hb, hml, hown, hts⟩ (m_X6_aside l hE hM X h _ hw) (cwV 0 hts gX6_safe_X6_aside rfl rfl rfl (by decide +kernel) ⟨Nat.le_of_ble_eq_true rfl, Nat.le_of_ble_eq_true rfl⟩) hK hP hS (hM (19, 0) (List.mem_of_getElem? (i := 0) rfl)) z_l_19_0 rfl rfl hl.1 rfl (Nat.le_of_ble_eq_true rfl) dX6_safe_82 ⟨Nat.zero_le _, Nat.zero_le _⟩ (fun u H locs hk hP hS => ?_)
  obtain ⟨h15, eu, hw⟩ := hk
  rw [eu] at hP
  refine lv_aload_n hx hb dX6_safe_85 rfl (lv_at hl 0 rfl) ?_
  refine z_getr (C := RX6) (T := TX6) (N := 15) (ref := "GauntletHallModel") (o := 19) (d := 0) hx hb hts hfX6 hown hK hP (hM (19, 0) (List.mem_of_getElem? (i := 0) rfl)) z_l_19_0 rfl 6 (by decide) (hts (.fieldLink RX6 25 "GauntletHallModel" "side" "[I") (by decide +kernel)) rfl rfl dX6_safe_86 ?_
  refine lv_iconst (v := (3 : Int32)) hx hb dX6_safe_89 (by decide) ?_
  refine lv_dup2_11 hx hb dX6_safe_90 rfl rfl ?_
  obtain ⟨i16, hw⟩ := hw
  refine z_iald (o := 19) (d := 6) hx hb hK hP (hM (19, 6) (List.mem_of_getElem? (i := 6) rfl)) z_l_19_6 i16 (z_up_val X 19 h15 6 (z_n (3 : Int32))) dX6_safe_91 ?_
  refine lv_iload hx hb dX6_safe_92 (lv_at hl 5 rfl) ?_
  refine lv_iconst (v := (-1 : Int32)) hx hb dX6_safe_94 (by decide) ?_
  refine lv_ixor hx hb dX6_safe_95 ?_
  refine lv_iand hx hb dX6_safe_96 ?_
  obtain ⟨i17, hw⟩ := hw
  obtain ⟨h18, eh18⟩ : ∃ z : z_G, z = z_ss h15 6 (z_n (3 : Int32)) ((h15 6 (z_n (3 : Int32))) &&& (x5 ^^^ (-1 : Int32))) := ⟨_, rfl⟩
  replace hw := hw h18 eh18
  refine z_iast (o := 19) (d := 6) (X' := z_up X 19 h18) hx hb hK hE hP hS (hM (19, 6) (List.mem_of_getElem? (i := 6) rfl)) z_l_19_6 i17 (by rw [eh18]; exact z_up_put X 19 h15 6 (z_n (3 : Int32)) _) dX6_safe_97 (fun H locs hP hS => ?_)
  refine lv_aload_n hx hb dX6_safe_98 rfl (lv_at hl 0 rfl) ?_
  refine lv_iload_n hx hb dX6_safe_99 rfl (lv_at hl 2 rfl) ?_
  refine z_vv (C := RX6) (T := TX6) (N := 15) (o := 19) (rest := []) ⟨hx, hb, hml, hown, hts⟩ (m_X6_goReigns l hE hM X h18 x2 _ hw) (cwV 1 hts gX6_safe_X6_goReigns rfl rfl rfl (by decide +kernel) ⟨Nat.le_of_ble_eq_true rfl, Nat.le_of_ble_eq_true rfl⟩) hK hP hS (hM (19, 0) (List.mem_of_getElem? (i := 0) rfl)) z_l_19_0 rfl rfl hl.1 rfl (Nat.le_of_ble_eq_true rfl) dX6_safe_100 ⟨Nat.zero_le _, Nat.zero_le _⟩ (fun u H locs hk hP hS => ?_)
  obtain ⟨h19, eu, hw⟩ := hk
  rw [eu] at hP
  refine lv_aload_n hx hb dX6_safe_103 rfl (lv_at hl 0 rfl) ?_
  refine z_getr (C := RX6) (T := TX6) (N := 15) (ref := "GauntletHallModel") (o := 19) (d := 0) hx hb hts hfX6 hown hK hP (hM (19, 0) (List.mem_of_getElem? (i := 0) rfl)) z_l_19_0 rfl 6 (by decide) (hts (.fieldLink RX6 25 "GauntletHallModel" "side" "[I") (by decide +kernel)) rfl rfl dX6_safe_104 ?_
  refine lv_iconst (v := (4 : Int32)) hx hb dX6_safe_107 (by decide) ?_
  refine lv_iload_n hx hb dX6_safe_108 rfl (lv_at hl 1 rfl) ?_
  refine lv_iadd hx hb dX6_safe_109 ?_
  obtain ⟨i20, hw⟩ := hw
  refine z_iald (o := 19) (d := 6) hx hb hK hP (hM (19, 6) (List.mem_of_getElem? (i := 6) rfl)) z_l_19_6 i20 (z_up_val X 19 h19 6 (z_n ((4 : Int32) + x1))) dX6_safe_110 ?_
  refine lv_if_le (tgt := 119) hx hb dX6_safe_111 (by decide) (fun c21 => ?_) (fun c21 => ?_)
  · replace hw := hw.1 c21
    refine lv_iload hx hb dX6_safe_119 (lv_at hl 4 rfl) ?_
    refine lv_istore (lv' := [(4, .int x4), (0, .ref (z_a E 19 0)), (1, .int x1), (2, .int x2), (3, .int x3), (5, .int x5)]) hx hb dX6_safe_121 hl (by decide) rfl (fun ls hl => ?_)
    obtain ⟨y22, ey22⟩ : ∃ z : Int32, z = x5 + (1 : Int32) := ⟨_, rfl⟩
    replace hw := hw y22 ey22
    refine lv_iinc (v := y22) (lv' := [(5, .int y22), (4, .int x4), (0, .ref (z_a E 19 0)), (1, .int x1), (2, .int x2), (3, .int x3)]) hx hb dX6_safe_123 hl (k := 5) rfl (by rw [ey22]; rfl) (by decide) rfl (fun ls hl => ?_)
    refine lv_goto (tgt := 39) hx hb dX6_safe_126 (by decide) ?_
    exact k39 h19 x1 x2 x3 x4 y22 hw hP hS _ (lv_sub hl [2, 3, 4, 5, 1, 0] rfl)
  · replace hw := hw.2 c21
    refine lv_iload hx hb dX6_safe_114 (lv_at hl 5 rfl) ?_
    refine lv_goto (tgt := 121) hx hb dX6_safe_116 (by decide) ?_
    refine lv_istore (lv' := [(4, .int x5), (0, .ref (z_a E 19 0)), (1, .int x1), (2, .int x2), (3, .int x3), (5, .int x5)]) hx hb dX6_safe_121 hl (by decide) rfl (fun ls hl => ?_)
    obtain ⟨y23, ey23⟩ : ∃ z : Int32, z = x5 + (1 : Int32) := ⟨_, rfl⟩
    replace hw := hw y23 ey23
    refine lv_iinc (v := y23) (lv' := [(5, .int y23), (4, .int x5), (0, .ref (z_a E 19 0)), (1, .int x1), (2, .int x2), (3, .int x3)]) hx hb dX6_safe_123 hl (k := 5) rfl (by rw [ey23]; rfl) (by decide) rfl (fun ls hl => ?_)
    refine lv_goto (tgt := 39) hx hb dX6_safe_126 (by decide) ?_
    exact k39 h19 x1 x2 x3 x5 y23 hw hP hS _ (lv_sub hl [2, 3, 4, 5, 1, 0] rfl)
set_option maxHeartbeats 4000000 in
set_option maxRecDepth 100000 in
theorem m_X6_safe_b39_s {p : Program} {l : Launch} {e : Env} {s : State} {m : MethodId} {args : Array Value} {below : List Frame} {meth : Method} {c : Code} {E : z_E} (C : z_Cx p E s m args meth c cX6_safe 6 wsX6_safe RX6 (some .int)) (hM : z_mod E) (X : z_X) (K : Int32 → z_G → Prop) (L39 : z_G → Int32 → Int32 → Int32 → Int32 → Int32 → Prop) (k39 : ∀ (h : z_G) (x1 : Int32) (x2 : Int32) (x3 : Int32) (x4 : Int32) (x5 : Int32), L39 h x1 x2 x3 x4 x5 → ∀ {H : Heap} {locs : List Loc}, z_P E (z_up X 19 h) H → va_S (z_A E) s.heap H locs → ∀ (ls : Array Slot), lv_has ls 6 [(0, .ref (z_a E 19 0)), (1, .int x1), (2, .int x2), (3, .int x3), (4, .int x4), (5, .int x5)] → W p l e rX6_safe s m args below meth c H locs 0 0 (MQ below (va_Qi (fun r X' => ∃ h', X' = z_up X 19 h' ∧ K r h') (fun u t => z_P E u t.heap) (z_A E)) args s 0 0 (z_A E)) (F0 m 39 ls [])) (h : z_G) (x1 : Int32) (x2 : Int32) (x3 : Int32) (x4 : Int32) (x5 : Int32) (hw : v_X6_safe_b39_s K L39 h x1 x2 x3 x4 x5) {H : Heap} {locs : List Loc} (hP : z_P E (z_up X 19 h) H) (hS : va_S (z_A E) s.heap H locs) {ls : Array Slot} (hl : lv_has ls 6 [(0, .ref (z_a E 19 0)), (1, .int x1), (2, .int x2), (3, .int x3), (4, .int x4), (5, .int x5)]) : W p l e rX6_safe s m args below meth c H locs 0 0 (MQ below (va_Qi (fun r X' => ∃ h', X' = z_up X 19 h' ∧ K r h') (fun u t => z_P E u t.heap) (z_A E)) args s 0 0 (z_A E)) (F0 m 39 ls []) := by
  obtain ⟨hx, hb, hml, hr, hlocks, hown, hts, hK, hE⟩ := id C
  have hfX6 : ∀ w ∈ u_ws RX6 TX6 15, w ∈ wsX6_safe := by decide +kernel
  unfold v_X6_safe_b39_s at hw
  refine lv_iload hx hb dX6_safe_39 (lv_at hl 5 rfl) ?_
  refine lv_sipush (v := (256 : Int32)) hx hb dX6_safe_41 (by decide) ?_
  refine lv_icmp_ge (tgt := 129) hx hb dX6_safe_44 (by decide) (fun c7 => ?_) (fun c7 => ?_)
  · replace hw := hw.1 c7
    refine lv_iload hx hb dX6_safe_129 (lv_at hl 4 rfl) ?_
    refine lv_bipush (v := (-4 : Int32)) hx hb dX6_safe_131 (by decide) ?_
    refine lv_icmp_eq (tgt := 141) hx hb dX6_safe_133 (by decide) (fun c8 => ?_) (fun c8 => ?_)
    · replace hw := hw.1 c8
      refine lv_iload hx hb dX6_safe_141 (lv_at hl 4 rfl) ?_
      refine lv_goto (tgt := 151) hx hb dX6_safe_143 (by decide) ?_
      exact z_reti C hP hS ⟨_, rfl, hw⟩ dX6_safe_151
    · replace hw := hw.2 c8
      refine lv_iload_n hx hb dX6_safe_136 rfl (lv_at hl 3 rfl) ?_
      refine lv_iconst (v := (1 : Int32)) hx hb dX6_safe_137 (by decide) ?_
      refine lv_icmp_ne (tgt := 146) hx hb dX6_safe_138 (by decide) (fun c9 => ?_) (fun c9 => ?_)
      · replace hw := hw.1 c9
        refine lv_iload hx hb dX6_safe_146 (lv_at hl 4 rfl) ?_
        refine z_si (rest := []) ⟨hx, hb, hml, hown, hts⟩ (m_X6_ones l hE (z_up X 19 h) x4 _ hw) (va_cwS 1 hts gX6_safe_X6_ones rfl rfl rfl (by decide +kernel) ⟨Nat.le_of_ble_eq_true rfl, Nat.le_of_ble_eq_true rfl⟩) hK hP hS rfl hl.1 rfl (Nat.le_of_ble_eq_true rfl) dX6_safe_148 ⟨Nat.zero_le _, Nat.zero_le _⟩ (fun r10 u H locs hk hP hS => ?_)
        obtain ⟨eu, hw⟩ := hk
        rw [eu] at hP
        exact z_reti C hP hS ⟨_, rfl, hw⟩ dX6_safe_151
      · replace hw := hw.2 c9
        refine lv_iload hx hb dX6_safe_141 (lv_at hl 4 rfl) ?_
        refine lv_goto (tgt := 151) hx hb dX6_safe_143 (by decide) ?_
        exact z_reti C hP hS ⟨_, rfl, hw⟩ dX6_safe_151
  · replace hw := hw.2 c7
    refine lv_iload hx hb dX6_safe_47 (lv_at hl 5 rfl) ?_
    refine lv_aload_n hx hb dX6_safe_49 rfl (lv_at hl 0 rfl) ?_
    refine z_getr (C := RX6) (T := TX6) (N := 15) (ref := "GauntletHallModel") (o := 19) (d := 0) hx hb hts hfX6 hown hK hP (hM (19, 0) (List.mem_of_getElem? (i := 0) rfl)) z_l_19_0 rfl 5 (by decide) (hts (.fieldLink RX6 22 "GauntletHallModel" "now" "[I") (by decide +kernel)) rfl rfl dX6_safe_50 ?_
    refine lv_iconst (v := (3 : Int32)) hx hb dX6_safe_53 (by decide) ?_
    obtain ⟨i11, hw⟩ := hw
    refine z_iald (o := 19) (d := 5) hx hb hK hP (hM (19, 5) (List.mem_of_getElem? (i := 5) rfl)) z_l_19_5 i11 (z_up_val X 19 h 5 (z_n (3 : Int32))) dX6_safe_54 ?_
    refine lv_iconst (v := (-1 : Int32)) hx hb dX6_safe_55 (by decide) ?_
    refine lv_ixor hx hb dX6_safe_56 ?_
    refine lv_iand hx hb dX6_safe_57 ?_
    refine lv_if_ne (tgt := 123) hx hb dX6_safe_58 (by decide) (fun c12 => ?_) (fun c12 => ?_)
    · replace hw := hw.1 c12
      obtain ⟨y13, ey13⟩ : ∃ z : Int32, z = x5 + (1 : Int32) := ⟨_, rfl⟩
      replace hw := hw y13 ey13
      refine lv_iinc (v := y13) (lv' := [(5, .int y13), (0, .ref (z_a E 19 0)), (1, .int x1), (2, .int x2), (3, .int x3), (4, .int x4)]) hx hb dX6_safe_123 hl (k := 5) rfl (by rw [ey13]; rfl) (by decide) rfl (fun ls hl => ?_)
      refine lv_goto (tgt := 39) hx hb dX6_safe_126 (by decide) ?_
      exact k39 h x1 x2 x3 x4 y13 hw hP hS _ (lv_sub hl [1, 2, 3, 4, 5, 0] rfl)
    · replace hw := hw.2 c12
      refine lv_iload hx hb dX6_safe_61 (lv_at hl 4 rfl) ?_
      refine lv_bipush (v := (-4 : Int32)) hx hb dX6_safe_63 (by decide) ?_
      refine lv_icmp_eq (tgt := 81) hx hb dX6_safe_65 (by decide) (fun c14 => ?_) (fun c14 => ?_)
      · replace hw := hw.1 c14
        exact m_X6_safe_b81 C hM X K L39 k39 h x1 x2 x3 x4 x5 hw hP hS (lv_sub hl [0, 1, 2, 3, 4, 5] rfl)
      · replace hw := hw.2 c14
        refine lv_iload hx hb dX6_safe_68 (lv_at hl 5 rfl) ?_
        refine z_si (rest := []) ⟨hx, hb, hml, hown, hts⟩ (m_X6_ones l hE (z_up X 19 h) x5 _ hw) (va_cwS 1 hts gX6_safe_X6_ones rfl rfl rfl (by decide +kernel) ⟨Nat.le_of_ble_eq_true rfl, Nat.le_of_ble_eq_true rfl⟩) hK hP hS rfl hl.1 rfl (Nat.le_of_ble_eq_true rfl) dX6_safe_70 ⟨Nat.zero_le _, Nat.zero_le _⟩ (fun r24 u H locs hk hP hS => ?_)
        obtain ⟨eu, hw⟩ := hk
        rw [eu] at hP
        refine lv_iload hx hb dX6_safe_73 (lv_at hl 4 rfl) ?_
        refine z_si (rest := [.int r24]) ⟨hx, hb, hml, hown, hts⟩ (m_X6_ones l hE (z_up X 19 h) x4 _ hw) (va_cwS 1 hts gX6_safe_X6_ones rfl rfl rfl (by decide +kernel) ⟨Nat.le_of_ble_eq_true rfl, Nat.le_of_ble_eq_true rfl⟩) hK hP hS rfl hl.1 rfl (Nat.le_of_ble_eq_true rfl) dX6_safe_75 ⟨Nat.zero_le _, Nat.zero_le _⟩ (fun r25 u H locs hk hP hS => ?_)
        obtain ⟨eu, hw⟩ := hk
        rw [eu] at hP
        refine lv_icmp_ge (tgt := 123) hx hb dX6_safe_78 (by decide) (fun c26 => ?_) (fun c26 => ?_)
        · replace hw := hw.1 c26
          obtain ⟨y27, ey27⟩ : ∃ z : Int32, z = x5 + (1 : Int32) := ⟨_, rfl⟩
          replace hw := hw y27 ey27
          refine lv_iinc (v := y27) (lv' := [(5, .int y27), (0, .ref (z_a E 19 0)), (1, .int x1), (2, .int x2), (3, .int x3), (4, .int x4)]) hx hb dX6_safe_123 hl (k := 5) rfl (by rw [ey27]; rfl) (by decide) rfl (fun ls hl => ?_)
          refine lv_goto (tgt := 39) hx hb dX6_safe_126 (by decide) ?_
          exact k39 h x1 x2 x3 x4 y27 hw hP hS _ (lv_sub hl [1, 2, 3, 4, 5, 0] rfl)
        · replace hw := hw.2 c26
          exact m_X6_safe_b81 C hM X K L39 k39 h x1 x2 x3 x4 x5 hw hP hS (lv_sub hl [0, 1, 2, 3, 4, 5] rfl)
theorem m_X6_safe_b39 {p : Program} {l : Launch} {e : Env} {s : State} {m : MethodId} {args : Array Value} {below : List Frame} {meth : Method} {c : Code} {E : z_E} (C : z_Cx p E s m args meth c cX6_safe 6 wsX6_safe RX6 (some .int)) (hM : z_mod E) (X : z_X) (K : Int32 → z_G → Prop) (h : z_G) (x1 : Int32) (x2 : Int32) (x3 : Int32) (x4 : Int32) (x5 : Int32) (hw : v_X6_safe_b39 K h x1 x2 x3 x4 x5) {H : Heap} {locs : List Loc} (hP : z_P E (z_up X 19 h) H) (hS : va_S (z_A E) s.heap H locs) {ls : Array Slot} (hl : lv_has ls 6 [(0, .ref (z_a E 19 0)), (1, .int x1), (2, .int x2), (3, .int x3), (4, .int x4), (5, .int x5)]) : W p l e rX6_safe s m args below meth c H locs 0 0 (MQ below (va_Qi (fun r X' => ∃ h', X' = z_up X 19 h' ∧ K r h') (fun u t => z_P E u t.heap) (z_A E)) args s 0 0 (z_A E)) (F0 m 39 ls []) := by
  obtain ⟨n, hw⟩ := hw
  revert hw hP hS hl
  revert h x1 x2 x3 x4 x5 H locs ls
  induction n with
  | zero => intro h x1 x2 x3 x4 x5 H locs ls hP hS hl hw; exact hw.elim
  | succ n ih =>
    intro h x1 x2 x3 x4 x5 H locs ls hP hS hl hw
    exact m_X6_safe_b39_s C hM X K (fun h x1 x2 x3 x4 x5 => z_fp (σ := z_G × Int32 × Int32 × Int32 × Int32 × Int32) (fun Lp q => v_X6_safe_b39_s K (fun h x1 x2 x3 x4 x5 => Lp (h, x1, x2, x3, x4, x5)) q.1 q.2.1 q.2.2.1 q.2.2.2.1 q.2.2.2.2.1 q.2.2.2.2.2) n (h, x1, x2, x3, x4, x5)) (fun h x1 x2 x3 x4 x5 h9 H locs hP hS ls hl => ih h x1 x2 x3 x4 x5 hP hS hl h9) h x1 x2 x3 x4 x5 hw hP hS hl
set_option maxHeartbeats 4000000 in
set_option maxRecDepth 100000 in
theorem m_X6_safe (l : Launch) {E : z_E} (hE : z_ok E) (hM : z_mod E) (X : z_X) (h : z_G) (x1 : Int32) (x2 : Int32) (x3 : Int32) (K : Int32 → z_G → Prop) (hw : v_X6_safe h x1 x2 x3 K) : z_CI l E yX6_safe wsX6_safe rX6_safe [.ref (z_a E 19 0), .int x1, .int x2, .int x3] (z_up X 19 h) (fun r X' => ∃ h', X' = z_up X 19 h' ∧ K r h') := by
  refine z_start (cc := cX6_safe) (maxL := 6) (ret := (some .int)) hE (by decide) rfl (Nat.le_of_ble_eq_true rfl) ?_
  intro p e s m below meth c C hP hS ls hl
  have C : z_Cx p E s m _ meth c cX6_safe 6 wsX6_safe RX6 (some .int) := C
  obtain ⟨hx, hb, hml, hr, hlocks, hown, hts, hK, hE⟩ := id C
  have hl : lv_has ls 6 [(0, .ref (z_a E 19 0)), (1, .int x1), (2, .int x2), (3, .int x3)] := hl
  have hfX6 : ∀ w ∈ u_ws RX6 TX6 15, w ∈ wsX6_safe := by decide +kernel
  unfold v_X6_safe at hw
  refine lv_aload_n hx hb dX6_safe_0 rfl (lv_at hl 0 rfl) ?_
  refine lv_iload_n hx hb dX6_safe_1 rfl (lv_at hl 1 rfl) ?_
  refine z_vi (C := RX6) (T := TX6) (N := 15) (o := 19) (rest := []) ⟨hx, hb, hml, hown, hts⟩ (m_X6_isPerson l hE hM X h x1 _ hw) (cwV 1 hts gX6_safe_X6_isPerson rfl rfl rfl (by decide +kernel) ⟨Nat.le_of_ble_eq_true rfl, Nat.le_of_ble_eq_true rfl⟩) hK hP hS (hM (19, 0) (List.mem_of_getElem? (i := 0) rfl)) z_l_19_0 rfl rfl hl.1 rfl (Nat.le_of_ble_eq_true rfl) dX6_safe_2 ⟨Nat.zero_le _, Nat.zero_le _⟩ (fun r1 u H locs hk hP hS => ?_)
  obtain ⟨eu, hw⟩ := hk
  rw [eu] at hP
  refine lv_if_eq (tgt := 30) hx hb dX6_safe_5 (by decide) (fun c2 => ?_) (fun c2 => ?_)
  · replace hw := hw.1 c2
    refine lv_iconst (v := (-1 : Int32)) hx hb dX6_safe_30 (by decide) ?_
    exact z_reti C hP hS ⟨_, rfl, hw⟩ dX6_safe_31
  · replace hw := hw.2 c2
    refine lv_iload_n hx hb dX6_safe_8 rfl (lv_at hl 2 rfl) ?_
    refine lv_i2l hx hb dX6_safe_9 rfl ?_
    refine lv_lconst (v := (1 : Int64)) hx hb dX6_safe_10 (by decide) ?_
    refine lv_ldc2 hx hb hown (hts (.constantLong RX6 158 (30)) (by decide +kernel)) dX6_safe_11 ?_
    refine z_si (rest := []) ⟨hx, hb, hml, hown, hts⟩ (m_X6_in l hE (z_up X 19 h) (Int32.toInt64 x2) (1 : Int64) (30 : Int64) _ hw) (va_cwS 3 hts gX6_safe_X6_in rfl rfl rfl (by decide +kernel) ⟨Nat.le_of_ble_eq_true rfl, Nat.le_of_ble_eq_true rfl⟩) hK hP hS rfl hl.1 rfl (Nat.le_of_ble_eq_true rfl) dX6_safe_14 ⟨Nat.zero_le _, Nat.zero_le _⟩ (fun r3 u H locs hk hP hS => ?_)
    obtain ⟨eu, hw⟩ := hk
    rw [eu] at hP
    refine lv_if_eq (tgt := 30) hx hb dX6_safe_17 (by decide) (fun c4 => ?_) (fun c4 => ?_)
    · replace hw := hw.1 c4
      refine lv_iconst (v := (-1 : Int32)) hx hb dX6_safe_30 (by decide) ?_
      exact z_reti C hP hS ⟨_, rfl, hw⟩ dX6_safe_31
    · replace hw := hw.2 c4
      refine lv_iload_n hx hb dX6_safe_20 rfl (lv_at hl 3 rfl) ?_
      refine lv_i2l hx hb dX6_safe_21 rfl ?_
      refine lv_lconst (v := (0 : Int64)) hx hb dX6_safe_22 (by decide) ?_
      refine lv_lconst (v := (1 : Int64)) hx hb dX6_safe_23 (by decide) ?_
      refine z_si (rest := []) ⟨hx, hb, hml, hown, hts⟩ (m_X6_in l hE (z_up X 19 h) (Int32.toInt64 x3) (0 : Int64) (1 : Int64) _ hw) (va_cwS 3 hts gX6_safe_X6_in rfl rfl rfl (by decide +kernel) ⟨Nat.le_of_ble_eq_true rfl, Nat.le_of_ble_eq_true rfl⟩) hK hP hS rfl hl.1 rfl (Nat.le_of_ble_eq_true rfl) dX6_safe_24 ⟨Nat.zero_le _, Nat.zero_le _⟩ (fun r5 u H locs hk hP hS => ?_)
      obtain ⟨eu, hw⟩ := hk
      rw [eu] at hP
      refine lv_if_ne (tgt := 32) hx hb dX6_safe_27 (by decide) (fun c6 => ?_) (fun c6 => ?_)
      · replace hw := hw.1 c6
        refine lv_bipush (v := (-4 : Int32)) hx hb dX6_safe_32 (by decide) ?_
        refine lv_istore (lv' := [(4, .int (-4 : Int32)), (0, .ref (z_a E 19 0)), (1, .int x1), (2, .int x2), (3, .int x3)]) hx hb dX6_safe_34 hl (by decide) rfl (fun ls hl => ?_)
        refine lv_iconst (v := (0 : Int32)) hx hb dX6_safe_36 (by decide) ?_
        refine lv_istore (lv' := [(5, .int (0 : Int32)), (4, .int (-4 : Int32)), (0, .ref (z_a E 19 0)), (1, .int x1), (2, .int x2), (3, .int x3)]) hx hb dX6_safe_37 hl (by decide) rfl (fun ls hl => ?_)
        exact m_X6_safe_b39 C hM X K h x1 x2 x3 (-4 : Int32) (0 : Int32) hw hP hS (lv_sub hl [2, 3, 4, 5, 1, 0] rfl)
      · replace hw := hw.2 c6
        refine lv_iconst (v := (-1 : Int32)) hx hb dX6_safe_30 (by decide) ?_
        exact z_reti C hP hS ⟨_, rfl, hw⟩ dX6_safe_31
set_option maxHeartbeats 4000000 in
set_option maxRecDepth 100000 in
theorem m_X6_seen (l : Launch) {E : z_E} (hE : z_ok E) (hM : z_mod E) (X : z_X) (h : z_G) (x1 : Int32) (x2 : Int32) (x3 : Int32) (K : Int32 → z_G → Prop) (hw : v_X6_seen h x1 x2 x3 K) : z_CI l E yX6_seen wsX6_seen rX6_seen [.ref (z_a E 19 0), .int x1, .int x2, .int x3] (z_up X 19 h) (fun r X' => ∃ h', X' = z_up X 19 h' ∧ K r h') := by
  refine z_start (cc := cX6_seen) (maxL := 4) (ret := (some .int)) hE (by decide) rfl (Nat.le_of_ble_eq_true rfl) ?_
  intro p e s m below meth c C hP hS ls hl
  have C : z_Cx p E s m _ meth c cX6_seen 4 wsX6_seen RX6 (some .int) := C
  obtain ⟨hx, hb, hml, hr, hlocks, hown, hts, hK, hE⟩ := id C
  have hl : lv_has ls 4 [(0, .ref (z_a E 19 0)), (1, .int x1), (2, .int x2), (3, .int x3)] := hl
  have hfX6 : ∀ w ∈ u_ws RX6 TX6 15, w ∈ wsX6_seen := by decide +kernel
  unfold v_X6_seen at hw
  refine lv_aload_n hx hb dX6_seen_0 rfl (lv_at hl 0 rfl) ?_
  refine lv_iload_n hx hb dX6_seen_1 rfl (lv_at hl 1 rfl) ?_
  refine z_vi (C := RX6) (T := TX6) (N := 15) (o := 19) (rest := []) ⟨hx, hb, hml, hown, hts⟩ (m_X6_isGlove l hE hM X h x1 _ hw) (cwV 1 hts gX6_seen_X6_isGlove rfl rfl rfl (by decide +kernel) ⟨Nat.le_of_ble_eq_true rfl, Nat.le_of_ble_eq_true rfl⟩) hK hP hS (hM (19, 0) (List.mem_of_getElem? (i := 0) rfl)) z_l_19_0 rfl rfl hl.1 rfl (Nat.le_of_ble_eq_true rfl) dX6_seen_2 ⟨Nat.zero_le _, Nat.zero_le _⟩ (fun r1 u H locs hk hP hS => ?_)
  obtain ⟨eu, hw⟩ := hk
  rw [eu] at hP
  refine lv_if_eq (tgt := 26) hx hb dX6_seen_5 (by decide) (fun c2 => ?_) (fun c2 => ?_)
  · replace hw := hw.1 c2
    refine lv_iconst (v := (-1 : Int32)) hx hb dX6_seen_26 (by decide) ?_
    exact z_reti C hP hS ⟨_, rfl, hw⟩ dX6_seen_27
  · replace hw := hw.2 c2
    refine lv_aload_n hx hb dX6_seen_8 rfl (lv_at hl 0 rfl) ?_
    refine lv_iload_n hx hb dX6_seen_9 rfl (lv_at hl 2 rfl) ?_
    refine z_vi (C := RX6) (T := TX6) (N := 15) (o := 19) (rest := []) ⟨hx, hb, hml, hown, hts⟩ (m_X6_isPerson l hE hM X h x2 _ hw) (cwV 1 hts gX6_seen_X6_isPerson rfl rfl rfl (by decide +kernel) ⟨Nat.le_of_ble_eq_true rfl, Nat.le_of_ble_eq_true rfl⟩) hK hP hS (hM (19, 0) (List.mem_of_getElem? (i := 0) rfl)) z_l_19_0 rfl rfl hl.1 rfl (Nat.le_of_ble_eq_true rfl) dX6_seen_10 ⟨Nat.zero_le _, Nat.zero_le _⟩ (fun r3 u H locs hk hP hS => ?_)
    obtain ⟨eu, hw⟩ := hk
    rw [eu] at hP
    refine lv_if_eq (tgt := 26) hx hb dX6_seen_13 (by decide) (fun c4 => ?_) (fun c4 => ?_)
    · replace hw := hw.1 c4
      refine lv_iconst (v := (-1 : Int32)) hx hb dX6_seen_26 (by decide) ?_
      exact z_reti C hP hS ⟨_, rfl, hw⟩ dX6_seen_27
    · replace hw := hw.2 c4
      refine lv_iload_n hx hb dX6_seen_16 rfl (lv_at hl 3 rfl) ?_
      refine lv_i2l hx hb dX6_seen_17 rfl ?_
      refine lv_lconst (v := (0 : Int64)) hx hb dX6_seen_18 (by decide) ?_
      refine lv_lconst (v := (1 : Int64)) hx hb dX6_seen_19 (by decide) ?_
      refine z_si (rest := []) ⟨hx, hb, hml, hown, hts⟩ (m_X6_in l hE (z_up X 19 h) (Int32.toInt64 x3) (0 : Int64) (1 : Int64) _ hw) (va_cwS 3 hts gX6_seen_X6_in rfl rfl rfl (by decide +kernel) ⟨Nat.le_of_ble_eq_true rfl, Nat.le_of_ble_eq_true rfl⟩) hK hP hS rfl hl.1 rfl (Nat.le_of_ble_eq_true rfl) dX6_seen_20 ⟨Nat.zero_le _, Nat.zero_le _⟩ (fun r5 u H locs hk hP hS => ?_)
      obtain ⟨eu, hw⟩ := hk
      rw [eu] at hP
      refine lv_if_ne (tgt := 28) hx hb dX6_seen_23 (by decide) (fun c6 => ?_) (fun c6 => ?_)
      · replace hw := hw.1 c6
        refine lv_aload_n hx hb dX6_seen_28 rfl (lv_at hl 0 rfl) ?_
        refine z_geti (C := RX6) (T := TX6) (N := 15) (ref := "GauntletHallModel") (o := 19) (d := 0) hx hb hts hfX6 hown hK hP (hM (19, 0) (List.mem_of_getElem? (i := 0) rfl)) z_l_19_0 rfl 12 (by decide) (hts (.fieldLink RX6 93 "GauntletHallModel" "seenMany" "I") (by decide +kernel)) rfl rfl (z_up_val X 19 h 0 12) dX6_seen_29 ?_
        refine lv_bipush (v := (6 : Int32)) hx hb dX6_seen_32 (by decide) ?_
        refine lv_icmp_ne (tgt := 40) hx hb dX6_seen_34 (by decide) (fun c7 => ?_) (fun c7 => ?_)
        · replace hw := hw.1 c7
          refine lv_aload_n hx hb dX6_seen_40 rfl (lv_at hl 0 rfl) ?_
          refine z_getr (C := RX6) (T := TX6) (N := 15) (ref := "GauntletHallModel") (o := 19) (d := 0) hx hb hts hfX6 hown hK hP (hM (19, 0) (List.mem_of_getElem? (i := 0) rfl)) z_l_19_0 rfl 11 (by decide) (hts (.fieldLink RX6 34 "GauntletHallModel" "seen" "[I") (by decide +kernel)) rfl rfl dX6_seen_41 ?_
          refine lv_iconst (v := (3 : Int32)) hx hb dX6_seen_44 (by decide) ?_
          refine lv_aload_n hx hb dX6_seen_45 rfl (lv_at hl 0 rfl) ?_
          refine z_geti (C := RX6) (T := TX6) (N := 15) (ref := "GauntletHallModel") (o := 19) (d := 0) hx hb hts hfX6 hown hK hP (hM (19, 0) (List.mem_of_getElem? (i := 0) rfl)) z_l_19_0 rfl 12 (by decide) (hts (.fieldLink RX6 93 "GauntletHallModel" "seenMany" "I") (by decide +kernel)) rfl rfl (z_up_val X 19 h 0 12) dX6_seen_46 ?_
          refine lv_imul hx hb dX6_seen_49 ?_
          refine lv_iload_n hx hb dX6_seen_50 rfl (lv_at hl 1 rfl) ?_
          obtain ⟨i8, hw⟩ := hw
          obtain ⟨h9, eh9⟩ : ∃ z : z_G, z = z_ss h 11 (z_n ((3 : Int32) * (h 0 12))) x1 := ⟨_, rfl⟩
          replace hw := hw h9 eh9
          refine z_iast (o := 19) (d := 11) (X' := z_up X 19 h9) hx hb hK hE hP hS (hM (19, 11) (List.mem_of_getElem? (i := 9) rfl)) z_l_19_11 i8 (by rw [eh9]; exact z_up_put X 19 h 11 (z_n ((3 : Int32) * (h 0 12))) _) dX6_seen_51 (fun H locs hP hS => ?_)
          refine lv_aload_n hx hb dX6_seen_52 rfl (lv_at hl 0 rfl) ?_
          refine z_getr (C := RX6) (T := TX6) (N := 15) (ref := "GauntletHallModel") (o := 19) (d := 0) hx hb hts hfX6 hown hK hP (hM (19, 0) (List.mem_of_getElem? (i := 0) rfl)) z_l_19_0 rfl 11 (by decide) (hts (.fieldLink RX6 34 "GauntletHallModel" "seen" "[I") (by decide +kernel)) rfl rfl dX6_seen_53 ?_
          refine lv_iconst (v := (3 : Int32)) hx hb dX6_seen_56 (by decide) ?_
          refine lv_aload_n hx hb dX6_seen_57 rfl (lv_at hl 0 rfl) ?_
          refine z_geti (C := RX6) (T := TX6) (N := 15) (ref := "GauntletHallModel") (o := 19) (d := 0) hx hb hts hfX6 hown hK hP (hM (19, 0) (List.mem_of_getElem? (i := 0) rfl)) z_l_19_0 rfl 12 (by decide) (hts (.fieldLink RX6 93 "GauntletHallModel" "seenMany" "I") (by decide +kernel)) rfl rfl (z_up_val X 19 h9 0 12) dX6_seen_58 ?_
          refine lv_imul hx hb dX6_seen_61 ?_
          refine lv_iconst (v := (1 : Int32)) hx hb dX6_seen_62 (by decide) ?_
          refine lv_iadd hx hb dX6_seen_63 ?_
          refine lv_iload_n hx hb dX6_seen_64 rfl (lv_at hl 2 rfl) ?_
          obtain ⟨i10, hw⟩ := hw
          obtain ⟨h11, eh11⟩ : ∃ z : z_G, z = z_ss h9 11 (z_n (((3 : Int32) * (h9 0 12)) + (1 : Int32))) x2 := ⟨_, rfl⟩
          replace hw := hw h11 eh11
          refine z_iast (o := 19) (d := 11) (X' := z_up X 19 h11) hx hb hK hE hP hS (hM (19, 11) (List.mem_of_getElem? (i := 9) rfl)) z_l_19_11 i10 (by rw [eh11]; exact z_up_put X 19 h9 11 (z_n (((3 : Int32) * (h9 0 12)) + (1 : Int32))) _) dX6_seen_65 (fun H locs hP hS => ?_)
          refine lv_aload_n hx hb dX6_seen_66 rfl (lv_at hl 0 rfl) ?_
          refine z_getr (C := RX6) (T := TX6) (N := 15) (ref := "GauntletHallModel") (o := 19) (d := 0) hx hb hts hfX6 hown hK hP (hM (19, 0) (List.mem_of_getElem? (i := 0) rfl)) z_l_19_0 rfl 11 (by decide) (hts (.fieldLink RX6 34 "GauntletHallModel" "seen" "[I") (by decide +kernel)) rfl rfl dX6_seen_67 ?_
          refine lv_iconst (v := (3 : Int32)) hx hb dX6_seen_70 (by decide) ?_
          refine lv_aload_n hx hb dX6_seen_71 rfl (lv_at hl 0 rfl) ?_
          refine z_geti (C := RX6) (T := TX6) (N := 15) (ref := "GauntletHallModel") (o := 19) (d := 0) hx hb hts hfX6 hown hK hP (hM (19, 0) (List.mem_of_getElem? (i := 0) rfl)) z_l_19_0 rfl 12 (by decide) (hts (.fieldLink RX6 93 "GauntletHallModel" "seenMany" "I") (by decide +kernel)) rfl rfl (z_up_val X 19 h11 0 12) dX6_seen_72 ?_
          refine lv_imul hx hb dX6_seen_75 ?_
          refine lv_iconst (v := (2 : Int32)) hx hb dX6_seen_76 (by decide) ?_
          refine lv_iadd hx hb dX6_seen_77 ?_
          refine lv_iload_n hx hb dX6_seen_78 rfl (lv_at hl 3 rfl) ?_
          obtain ⟨i12, hw⟩ := hw
          obtain ⟨h13, eh13⟩ : ∃ z : z_G, z = z_ss h11 11 (z_n (((3 : Int32) * (h11 0 12)) + (2 : Int32))) x3 := ⟨_, rfl⟩
          replace hw := hw h13 eh13
          refine z_iast (o := 19) (d := 11) (X' := z_up X 19 h13) hx hb hK hE hP hS (hM (19, 11) (List.mem_of_getElem? (i := 9) rfl)) z_l_19_11 i12 (by rw [eh13]; exact z_up_put X 19 h11 11 (z_n (((3 : Int32) * (h11 0 12)) + (2 : Int32))) _) dX6_seen_79 (fun H locs hP hS => ?_)
          refine lv_aload_n hx hb dX6_seen_80 rfl (lv_at hl 0 rfl) ?_
          refine lv_dup hx hb dX6_seen_81 rfl ?_
          refine z_geti (C := RX6) (T := TX6) (N := 15) (ref := "GauntletHallModel") (o := 19) (d := 0) hx hb hts hfX6 hown hK hP (hM (19, 0) (List.mem_of_getElem? (i := 0) rfl)) z_l_19_0 rfl 12 (by decide) (hts (.fieldLink RX6 93 "GauntletHallModel" "seenMany" "I") (by decide +kernel)) rfl rfl (z_up_val X 19 h13 0 12) dX6_seen_82 ?_
          refine lv_iconst (v := (1 : Int32)) hx hb dX6_seen_85 (by decide) ?_
          refine lv_iadd hx hb dX6_seen_86 ?_
          obtain ⟨h14, eh14⟩ : ∃ z : z_G, z = z_ss h13 0 12 ((h13 0 12) + (1 : Int32)) := ⟨_, rfl⟩
          replace hw := hw h14 eh14
          refine z_puti (C := RX6) (T := TX6) (N := 15) (ref := "GauntletHallModel") (o := 19) (d := 0) (X' := z_up X 19 h14) hx hb hts hfX6 tyX6 tyX6_ok nmX6 hown hK hE hP hS (hM (19, 0) (List.mem_of_getElem? (i := 0) rfl)) z_l_19_0 rfl 12 (by decide) (hts (.fieldLink RX6 93 "GauntletHallModel" "seenMany" "I") (by decide +kernel)) rfl rfl (by decide +kernel) rfl (by rw [eh14]; exact z_up_put X 19 h13 0 12 _) dX6_seen_87 (fun H locs hP hS => ?_)
          refine lv_aload_n hx hb dX6_seen_90 rfl (lv_at hl 0 rfl) ?_
          refine z_geti (C := RX6) (T := TX6) (N := 15) (ref := "GauntletHallModel") (o := 19) (d := 0) hx hb hts hfX6 hown hK hP (hM (19, 0) (List.mem_of_getElem? (i := 0) rfl)) z_l_19_0 rfl 12 (by decide) (hts (.fieldLink RX6 93 "GauntletHallModel" "seenMany" "I") (by decide +kernel)) rfl rfl (z_up_val X 19 h14 0 12) dX6_seen_91 ?_
          exact z_reti C hP hS ⟨_, rfl, hw⟩ dX6_seen_94
        · replace hw := hw.2 c7
          refine lv_bipush (v := (-3 : Int32)) hx hb dX6_seen_37 (by decide) ?_
          exact z_reti C hP hS ⟨_, rfl, hw⟩ dX6_seen_39
      · replace hw := hw.2 c6
        refine lv_iconst (v := (-1 : Int32)) hx hb dX6_seen_26 (by decide) ?_
        exact z_reti C hP hS ⟨_, rfl, hw⟩ dX6_seen_27
set_option maxHeartbeats 4000000 in
set_option maxRecDepth 100000 in
theorem m_X6_sizes_b67 {p : Program} {l : Launch} {e : Env} {s : State} {m : MethodId} {args : Array Value} {below : List Frame} {meth : Method} {c : Code} {E : z_E} (C : z_Cx p E s m args meth c cX6_sizes 7 wsX6_sizes RX6 (some .int)) (hM : z_mod E) (X : z_X) (h : z_G) (K : Int32 → Prop) (L30 : Int32 → Int32 → Int32 → Int32 → Int32 → Prop) (k30 : ∀ (x1 : Int32) (x2 : Int32) (x3 : Int32) (x4 : Int32) (x5 : Int32), L30 x1 x2 x3 x4 x5 → ∀ {H : Heap} {locs : List Loc}, z_P E (z_up X 19 h) H → va_S (z_A E) s.heap H locs → ∀ (ls : Array Slot), lv_has ls 7 [(0, .ref (z_a E 19 0)), (1, .int x1), (2, .int x2), (3, .int x3), (4, .int x4), (5, .int x5)] → W p l e rX6_sizes s m args below meth c H locs 0 0 (MQ below (va_Qi (fun r X' => X' = (z_up X 19 h) ∧ K r) (fun u t => z_P E u t.heap) (z_A E)) args s 0 0 (z_A E)) (F0 m 30 ls [])) (x1 : Int32) (x2 : Int32) (x4 : Int32) (x5 : Int32) (x6 : Int32) (t0 : Int32) (t1 : Int32) (hw : v_X6_sizes_b67 h K L30 x1 x2 x4 x5 x6 t0 t1) {H : Heap} {locs : List Loc} (hP : z_P E (z_up X 19 h) H) (hS : va_S (z_A E) s.heap H locs) {ls : Array Slot} (hl : lv_has ls 7 [(0, .ref (z_a E 19 0)), (1, .int x1), (2, .int x2), (4, .int x4), (5, .int x5), (6, .int x6)]) : W p l e rX6_sizes s m args below meth c H locs 0 0 (MQ below (va_Qi (fun r X' => X' = (z_up X 19 h) ∧ K r) (fun u t => z_P E u t.heap) (z_A E)) args s 0 0 (z_A E)) (F0 m 67 ls [.int t1, .int t0]) := by
  obtain ⟨hx, hb, hml, hr, hlocks, hown, hts, hK, hE⟩ := id C
  have hfX6 : ∀ w ∈ u_ws RX6 TX6 15, w ∈ wsX6_sizes := by decide +kernel
  unfold v_X6_sizes_b67 at hw
  refine lv_iadd hx hb dX6_sizes_67 ?_
  refine lv_topi (fun y10 ey10 => ?_)
  replace hw := hw y10 ey10
  refine lv_istore_n (lv' := [(3, .int y10), (0, .ref (z_a E 19 0)), (1, .int x1), (2, .int x2), (4, .int x4), (5, .int x5), (6, .int x6)]) hx hb dX6_sizes_68 rfl hl (by decide) rfl (fun ls hl => ?_)
  refine lv_iload hx hb dX6_sizes_69 (lv_at hl 6 rfl) ?_
  refine lv_if_eq (tgt := 79) hx hb dX6_sizes_71 (by decide) (fun c11 => ?_) (fun c11 => ?_)
  · replace hw := hw.1 c11
    refine lv_iload hx hb dX6_sizes_79 (lv_at hl 4 rfl) ?_
    refine lv_istore (lv' := [(4, .int x4), (3, .int y10), (0, .ref (z_a E 19 0)), (1, .int x1), (2, .int x2), (5, .int x5), (6, .int x6)]) hx hb dX6_sizes_81 hl (by decide) rfl (fun ls hl => ?_)
    obtain ⟨y12, ey12⟩ : ∃ z : Int32, z = x5 + (-1 : Int32) := ⟨_, rfl⟩
    replace hw := hw y12 ey12
    refine lv_iinc (v := y12) (lv' := [(5, .int y12), (4, .int x4), (3, .int y10), (0, .ref (z_a E 19 0)), (1, .int x1), (2, .int x2), (6, .int x6)]) hx hb dX6_sizes_83 hl (k := 5) rfl (by rw [ey12]; rfl) (by decide) rfl (fun ls hl => ?_)
    refine lv_goto (tgt := 30) hx hb dX6_sizes_86 (by decide) ?_
    exact k30 x1 x2 y10 x4 y12 hw hP hS _ (lv_sub hl [3, 4, 5, 2, 1, 0] rfl)
  · replace hw := hw.2 c11
    refine lv_iload hx hb dX6_sizes_74 (lv_at hl 5 rfl) ?_
    refine lv_goto (tgt := 81) hx hb dX6_sizes_76 (by decide) ?_
    refine lv_istore (lv' := [(4, .int x5), (3, .int y10), (0, .ref (z_a E 19 0)), (1, .int x1), (2, .int x2), (5, .int x5), (6, .int x6)]) hx hb dX6_sizes_81 hl (by decide) rfl (fun ls hl => ?_)
    obtain ⟨y13, ey13⟩ : ∃ z : Int32, z = x5 + (-1 : Int32) := ⟨_, rfl⟩
    replace hw := hw y13 ey13
    refine lv_iinc (v := y13) (lv' := [(5, .int y13), (4, .int x5), (3, .int y10), (0, .ref (z_a E 19 0)), (1, .int x1), (2, .int x2), (6, .int x6)]) hx hb dX6_sizes_83 hl (k := 5) rfl (by rw [ey13]; rfl) (by decide) rfl (fun ls hl => ?_)
    refine lv_goto (tgt := 30) hx hb dX6_sizes_86 (by decide) ?_
    exact k30 x1 x2 y10 x5 y13 hw hP hS _ (lv_sub hl [3, 4, 5, 2, 1, 0] rfl)
set_option maxHeartbeats 4000000 in
set_option maxRecDepth 100000 in
theorem m_X6_sizes_b30_s {p : Program} {l : Launch} {e : Env} {s : State} {m : MethodId} {args : Array Value} {below : List Frame} {meth : Method} {c : Code} {E : z_E} (C : z_Cx p E s m args meth c cX6_sizes 7 wsX6_sizes RX6 (some .int)) (hM : z_mod E) (X : z_X) (h : z_G) (K : Int32 → Prop) (L30 : Int32 → Int32 → Int32 → Int32 → Int32 → Prop) (k30 : ∀ (x1 : Int32) (x2 : Int32) (x3 : Int32) (x4 : Int32) (x5 : Int32), L30 x1 x2 x3 x4 x5 → ∀ {H : Heap} {locs : List Loc}, z_P E (z_up X 19 h) H → va_S (z_A E) s.heap H locs → ∀ (ls : Array Slot), lv_has ls 7 [(0, .ref (z_a E 19 0)), (1, .int x1), (2, .int x2), (3, .int x3), (4, .int x4), (5, .int x5)] → W p l e rX6_sizes s m args below meth c H locs 0 0 (MQ below (va_Qi (fun r X' => X' = (z_up X 19 h) ∧ K r) (fun u t => z_P E u t.heap) (z_A E)) args s 0 0 (z_A E)) (F0 m 30 ls [])) (x1 : Int32) (x2 : Int32) (x3 : Int32) (x4 : Int32) (x5 : Int32) (hw : v_X6_sizes_b30_s h K L30 x1 x2 x3 x4 x5) {H : Heap} {locs : List Loc} (hP : z_P E (z_up X 19 h) H) (hS : va_S (z_A E) s.heap H locs) {ls : Array Slot} (hl : lv_has ls 7 [(0, .ref (z_a E 19 0)), (1, .int x1), (2, .int x2), (3, .int x3), (4, .int x4), (5, .int x5)]) : W p l e rX6_sizes s m args below meth c H locs 0 0 (MQ below (va_Qi (fun r X' => X' = (z_up X 19 h) ∧ K r) (fun u t => z_P E u t.heap) (z_A E)) args s 0 0 (z_A E)) (F0 m 30 ls []) := by
  obtain ⟨hx, hb, hml, hr, hlocks, hown, hts, hK, hE⟩ := id C
  have hfX6 : ∀ w ∈ u_ws RX6 TX6 15, w ∈ wsX6_sizes := by decide +kernel
  unfold v_X6_sizes_b30_s at hw
  refine lv_iload hx hb dX6_sizes_30 (lv_at hl 5 rfl) ?_
  refine lv_if_le (tgt := 89) hx hb dX6_sizes_32 (by decide) (fun c5 => ?_) (fun c5 => ?_)
  · replace hw := hw.1 c5
    refine lv_iload_n hx hb dX6_sizes_89 rfl (lv_at hl 2 rfl) ?_
    refine lv_if_ne (tgt := 97) hx hb dX6_sizes_90 (by decide) (fun c6 => ?_) (fun c6 => ?_)
    · replace hw := hw.1 c6
      refine lv_iload hx hb dX6_sizes_97 (lv_at hl 4 rfl) ?_
      exact z_reti C hP hS ⟨rfl, hw⟩ dX6_sizes_99
    · replace hw := hw.2 c6
      refine lv_iload_n hx hb dX6_sizes_93 rfl (lv_at hl 3 rfl) ?_
      refine lv_goto (tgt := 99) hx hb dX6_sizes_94 (by decide) ?_
      exact z_reti C hP hS ⟨rfl, hw⟩ dX6_sizes_99
  · replace hw := hw.2 c5
    refine lv_aload_n hx hb dX6_sizes_35 rfl (lv_at hl 0 rfl) ?_
    refine lv_bipush (v := (-4 : Int32)) hx hb dX6_sizes_36 (by decide) ?_
    refine lv_iconst (v := (0 : Int32)) hx hb dX6_sizes_38 (by decide) ?_
    refine lv_iload_n hx hb dX6_sizes_39 rfl (lv_at hl 1 rfl) ?_
    refine lv_aload_n hx hb dX6_sizes_40 rfl (lv_at hl 0 rfl) ?_
    refine z_getr (C := RX6) (T := TX6) (N := 15) (ref := "GauntletHallModel") (o := 19) (d := 0) hx hb hts hfX6 hown hK hP (hM (19, 0) (List.mem_of_getElem? (i := 0) rfl)) z_l_19_0 rfl 5 (by decide) (hts (.fieldLink RX6 22 "GauntletHallModel" "now" "[I") (by decide +kernel)) rfl rfl dX6_sizes_41 ?_
    refine lv_bipush (v := (10 : Int32)) hx hb dX6_sizes_44 (by decide) ?_
    refine lv_iload_n hx hb dX6_sizes_46 rfl (lv_at hl 1 rfl) ?_
    refine lv_iadd hx hb dX6_sizes_47 ?_
    obtain ⟨i7, hw⟩ := hw
    refine z_iald (o := 19) (d := 5) hx hb hK hP (hM (19, 5) (List.mem_of_getElem? (i := 5) rfl)) z_l_19_5 i7 (z_up_val X 19 h 5 (z_n ((10 : Int32) + x1))) dX6_sizes_48 ?_
    refine lv_iload hx hb dX6_sizes_49 (lv_at hl 5 rfl) ?_
    refine z_vi (C := RX6) (T := TX6) (N := 15) (o := 19) (rest := []) ⟨hx, hb, hml, hown, hts⟩ (m_X6_isSeen l hE hM X h (-4 : Int32) (0 : Int32) x1 (h 5 (z_n ((10 : Int32) + x1))) x5 _ hw) (cwV 5 hts gX6_sizes_X6_isSeen rfl rfl rfl (by decide +kernel) ⟨Nat.le_of_ble_eq_true rfl, Nat.le_of_ble_eq_true rfl⟩) hK hP hS (hM (19, 0) (List.mem_of_getElem? (i := 0) rfl)) z_l_19_0 rfl rfl hl.1 rfl (Nat.le_of_ble_eq_true rfl) dX6_sizes_51 ⟨Nat.zero_le _, Nat.zero_le _⟩ (fun r8 u H locs hk hP hS => ?_)
    obtain ⟨eu, hw⟩ := hk
    rw [eu] at hP
    refine lv_istore (lv' := [(6, .int r8), (0, .ref (z_a E 19 0)), (1, .int x1), (2, .int x2), (3, .int x3), (4, .int x4), (5, .int x5)]) hx hb dX6_sizes_54 hl (by decide) rfl (fun ls hl => ?_)
    refine lv_iload_n hx hb dX6_sizes_56 rfl (lv_at hl 4 rfl) ?_
    refine lv_iload hx hb dX6_sizes_57 (lv_at hl 0 rfl) ?_
    refine lv_if_eq (tgt := 66) hx hb dX6_sizes_59 (by decide) (fun c9 => ?_) (fun c9 => ?_)
    · replace hw := hw.1 c9
      refine lv_iconst (v := (0 : Int32)) hx hb dX6_sizes_66 (by decide) ?_
      exact m_X6_sizes_b67 C hM X h K L30 k30 x1 x2 x4 x5 r8 x3 (0 : Int32) hw hP hS (lv_sub hl [1, 2, 3, 5, 6, 0] rfl)
    · replace hw := hw.2 c9
      refine lv_iconst (v := (1 : Int32)) hx hb dX6_sizes_62 (by decide) ?_
      refine lv_goto (tgt := 67) hx hb dX6_sizes_63 (by decide) ?_
      exact m_X6_sizes_b67 C hM X h K L30 k30 x1 x2 x4 x5 r8 x3 (1 : Int32) hw hP hS (lv_sub hl [1, 2, 3, 5, 6, 0] rfl)
theorem m_X6_sizes_b30 {p : Program} {l : Launch} {e : Env} {s : State} {m : MethodId} {args : Array Value} {below : List Frame} {meth : Method} {c : Code} {E : z_E} (C : z_Cx p E s m args meth c cX6_sizes 7 wsX6_sizes RX6 (some .int)) (hM : z_mod E) (X : z_X) (h : z_G) (K : Int32 → Prop) (x1 : Int32) (x2 : Int32) (x3 : Int32) (x4 : Int32) (x5 : Int32) (hw : v_X6_sizes_b30 h K x1 x2 x3 x4 x5) {H : Heap} {locs : List Loc} (hP : z_P E (z_up X 19 h) H) (hS : va_S (z_A E) s.heap H locs) {ls : Array Slot} (hl : lv_has ls 7 [(0, .ref (z_a E 19 0)), (1, .int x1), (2, .int x2), (3, .int x3), (4, .int x4), (5, .int x5)]) : W p l e rX6_sizes s m args below meth c H locs 0 0 (MQ below (va_Qi (fun r X' => X' = (z_up X 19 h) ∧ K r) (fun u t => z_P E u t.heap) (z_A E)) args s 0 0 (z_A E)) (F0 m 30 ls []) := by
  obtain ⟨n, hw⟩ := hw
  revert hw hP hS hl
  revert x1 x2 x3 x4 x5 H locs ls
  induction n with
  | zero => intro x1 x2 x3 x4 x5 H locs ls hP hS hl hw; exact hw.elim
  | succ n ih =>
    intro x1 x2 x3 x4 x5 H locs ls hP hS hl hw
    exact m_X6_sizes_b30_s C hM X h K (fun x1 x2 x3 x4 x5 => z_fp (σ := Int32 × Int32 × Int32 × Int32 × Int32) (fun Lp q => v_X6_sizes_b30_s h K (fun x1 x2 x3 x4 x5 => Lp (x1, x2, x3, x4, x5)) q.1 q.2.1 q.2.2.1 q.2.2.2.1 q.2.2.2.2) n (x1, x2, x3, x4, x5)) (fun x1 x2 x3 x4 x5 h9 H locs hP hS ls hl => ih x1 x2 x3 x4 x5 hP hS hl h9) x1 x2 x3 x4 x5 hw hP hS hl
set_option maxHeartbeats 4000000 in
set_option maxRecDepth 100000 in
theorem m_X6_sizes (l : Launch) {E : z_E} (hE : z_ok E) (hM : z_mod E) (X : z_X) (h : z_G) (x1 : Int32) (x2 : Int32) (K : Int32 → Prop) (hw : v_X6_sizes h x1 x2 K) : z_CI l E yX6_sizes wsX6_sizes rX6_sizes [.ref (z_a E 19 0), .int x1, .int x2] (z_up X 19 h) (fun r X' => X' = (z_up X 19 h) ∧ K r) := by
  refine z_start (cc := cX6_sizes) (maxL := 7) (ret := (some .int)) hE (by decide) rfl (Nat.le_of_ble_eq_true rfl) ?_
  intro p e s m below meth c C hP hS ls hl
  have C : z_Cx p E s m _ meth c cX6_sizes 7 wsX6_sizes RX6 (some .int) := C
  obtain ⟨hx, hb, hml, hr, hlocks, hown, hts, hK, hE⟩ := id C
  have hl : lv_has ls 7 [(0, .ref (z_a E 19 0)), (1, .int x1), (2, .int x2)] := hl
  have hfX6 : ∀ w ∈ u_ws RX6 TX6 15, w ∈ wsX6_sizes := by decide +kernel
  unfold v_X6_sizes at hw
  refine lv_aload_n hx hb dX6_sizes_0 rfl (lv_at hl 0 rfl) ?_
  refine lv_iload_n hx hb dX6_sizes_1 rfl (lv_at hl 1 rfl) ?_
  refine z_vi (C := RX6) (T := TX6) (N := 15) (o := 19) (rest := []) ⟨hx, hb, hml, hown, hts⟩ (m_X6_isGlove l hE hM X h x1 _ hw) (cwV 1 hts gX6_sizes_X6_isGlove rfl rfl rfl (by decide +kernel) ⟨Nat.le_of_ble_eq_true rfl, Nat.le_of_ble_eq_true rfl⟩) hK hP hS (hM (19, 0) (List.mem_of_getElem? (i := 0) rfl)) z_l_19_0 rfl rfl hl.1 rfl (Nat.le_of_ble_eq_true rfl) dX6_sizes_2 ⟨Nat.zero_le _, Nat.zero_le _⟩ (fun r1 u H locs hk hP hS => ?_)
  obtain ⟨eu, hw⟩ := hk
  rw [eu] at hP
  refine lv_if_eq (tgt := 18) hx hb dX6_sizes_5 (by decide) (fun c2 => ?_) (fun c2 => ?_)
  · replace hw := hw.1 c2
    refine lv_iconst (v := (-1 : Int32)) hx hb dX6_sizes_18 (by decide) ?_
    exact z_reti C hP hS ⟨rfl, hw⟩ dX6_sizes_19
  · replace hw := hw.2 c2
    refine lv_iload_n hx hb dX6_sizes_8 rfl (lv_at hl 2 rfl) ?_
    refine lv_i2l hx hb dX6_sizes_9 rfl ?_
    refine lv_lconst (v := (0 : Int64)) hx hb dX6_sizes_10 (by decide) ?_
    refine lv_lconst (v := (1 : Int64)) hx hb dX6_sizes_11 (by decide) ?_
    refine z_si (rest := []) ⟨hx, hb, hml, hown, hts⟩ (m_X6_in l hE (z_up X 19 h) (Int32.toInt64 x2) (0 : Int64) (1 : Int64) _ hw) (va_cwS 3 hts gX6_sizes_X6_in rfl rfl rfl (by decide +kernel) ⟨Nat.le_of_ble_eq_true rfl, Nat.le_of_ble_eq_true rfl⟩) hK hP hS rfl hl.1 rfl (Nat.le_of_ble_eq_true rfl) dX6_sizes_12 ⟨Nat.zero_le _, Nat.zero_le _⟩ (fun r3 u H locs hk hP hS => ?_)
    obtain ⟨eu, hw⟩ := hk
    rw [eu] at hP
    refine lv_if_ne (tgt := 20) hx hb dX6_sizes_15 (by decide) (fun c4 => ?_) (fun c4 => ?_)
    · replace hw := hw.1 c4
      refine lv_iconst (v := (0 : Int32)) hx hb dX6_sizes_20 (by decide) ?_
      refine lv_istore_n (lv' := [(3, .int (0 : Int32)), (0, .ref (z_a E 19 0)), (1, .int x1), (2, .int x2)]) hx hb dX6_sizes_21 rfl hl (by decide) rfl (fun ls hl => ?_)
      refine lv_bipush (v := (-4 : Int32)) hx hb dX6_sizes_22 (by decide) ?_
      refine lv_istore (lv' := [(4, .int (-4 : Int32)), (3, .int (0 : Int32)), (0, .ref (z_a E 19 0)), (1, .int x1), (2, .int x2)]) hx hb dX6_sizes_24 hl (by decide) rfl (fun ls hl => ?_)
      refine lv_bipush (v := (20 : Int32)) hx hb dX6_sizes_26 (by decide) ?_
      refine lv_istore (lv' := [(5, .int (20 : Int32)), (4, .int (-4 : Int32)), (3, .int (0 : Int32)), (0, .ref (z_a E 19 0)), (1, .int x1), (2, .int x2)]) hx hb dX6_sizes_28 hl (by decide) rfl (fun ls hl => ?_)
      exact m_X6_sizes_b30 C hM X h K x1 x2 (0 : Int32) (-4 : Int32) (20 : Int32) hw hP hS (lv_sub hl [3, 4, 5, 2, 1, 0] rfl)
    · replace hw := hw.2 c4
      refine lv_iconst (v := (-1 : Int32)) hx hb dX6_sizes_18 (by decide) ?_
      exact z_reti C hP hS ⟨rfl, hw⟩ dX6_sizes_19
