/-! ===== PRINTED (wip/whole/gen/gen.py): the machine meets each definition: X5.likely, X5.pass, X5.person, X5.ring, X5.safe, X5.seen ===== -/
set_option maxHeartbeats 4000000 in
set_option maxRecDepth 100000 in
theorem m_X5_likely_b156 {p : Program} {l : Launch} {e : Env} {s : State} {m : MethodId} {args : Array Value} {below : List Frame} {meth : Method} {c : Code} {E : z_E} (C : z_Cx p E s m args meth c cX5_likely 9 wsX5_likely RX5 (some .int)) (hC : z_cls E) (Y : z_X) (K : Int32 → Prop) (x3 : Int32) (x4 : Int32) (x5 : Int32) (hw : v_X5_likely_b156 Y K x3 x4 x5) {H : Heap} {locs : List Loc} (hP : z_P E Y H) (hS : va_S (z_A E) s.heap H locs) {ls : Array Slot} (hl : lv_has ls 9 [(3, .int x3), (4, .int x4), (5, .int x5)]) : W p l e rX5_likely s m args below meth c H locs 0 0 (MQ below (va_Qi (fun r X' => X' = Y ∧ K r) (fun u t => z_P E u t.heap) (z_A E)) args s 0 0 (z_A E)) (F0 m 156 ls []) := by
  obtain ⟨hx, hb, hml, hr, hlocks, hown, hts, hK, hE⟩ := id C
  have hfX1 : ∀ w ∈ u_ws RX1 TX1 13, w ∈ wsX5_likely := by decide +kernel
  have hfX5 : ∀ w ∈ u_ws RX5 TX5 7, w ∈ wsX5_likely := by decide +kernel
  unfold v_X5_likely_b156 at hw
  refine lv_iload hx hb dX5_likely_156 (lv_at hl 1 rfl) ?_
  refine lv_iload hx hb dX5_likely_158 (lv_at hl 2 rfl) ?_
  refine z_si (rest := []) ⟨hx, hb, hml, hown, hts⟩ (m_X5_commonDivisor l hE Y x4 x5 _ hw) (va_cwS 2 hts gX5_likely_X5_commonDivisor rfl rfl rfl (by decide +kernel) ⟨Nat.le_of_ble_eq_true rfl, Nat.le_of_ble_eq_true rfl⟩) hK hP hS rfl hl.1 rfl (Nat.le_of_ble_eq_true rfl) dX5_likely_160 ⟨Nat.zero_le _, Nat.zero_le _⟩ (fun r10 u H locs hk hP hS => ?_)
  obtain ⟨eu, hw⟩ := hk
  rw [eu] at hP
  refine lv_istore (lv' := [(7, .int r10), (3, .int x3), (4, .int x4), (5, .int x5)]) hx hb dX5_likely_163 hl (by decide) rfl (fun ls hl => ?_)
  refine lv_iload hx hb dX5_likely_165 (lv_at hl 0 rfl) ?_
  refine lv_if_gt (tgt := 173) hx hb dX5_likely_167 (by decide) (fun c11 => ?_) (fun c11 => ?_)
  · replace hw := hw.1 c11
    refine lv_iload_n hx hb dX5_likely_173 rfl (lv_at hl 1 rfl) ?_
    refine lv_if_ne (tgt := 185) hx hb dX5_likely_174 (by decide) (fun c12 => ?_) (fun c12 => ?_)
    · replace hw := hw.1 c12
      refine lv_iload hx hb dX5_likely_185 (lv_at hl 3 rfl) ?_
      refine lv_iload hx hb dX5_likely_187 (lv_at hl 0 rfl) ?_
      obtain ⟨n13, hw⟩ := hw
      refine lv_idiv hx hb dX5_likely_189 n13 ?_
      exact z_reti C hP hS ⟨rfl, hw⟩ dX5_likely_190
    · replace hw := hw.2 c12
      refine lv_iload hx hb dX5_likely_177 (lv_at hl 2 rfl) ?_
      refine lv_iload hx hb dX5_likely_179 (lv_at hl 0 rfl) ?_
      obtain ⟨n14, hw⟩ := hw
      refine lv_idiv hx hb dX5_likely_181 n14 ?_
      refine lv_goto (tgt := 190) hx hb dX5_likely_182 (by decide) ?_
      exact z_reti C hP hS ⟨rfl, hw⟩ dX5_likely_190
  · replace hw := hw.2 c11
    refine lv_bipush (v := (-2 : Int32)) hx hb dX5_likely_170 (by decide) ?_
    exact z_reti C hP hS ⟨rfl, hw⟩ dX5_likely_172
set_option maxHeartbeats 4000000 in
set_option maxRecDepth 100000 in
theorem m_X5_likely_b57_s {p : Program} {l : Launch} {e : Env} {s : State} {m : MethodId} {args : Array Value} {below : List Frame} {meth : Method} {c : Code} {E : z_E} (C : z_Cx p E s m args meth c cX5_likely 9 wsX5_likely RX5 (some .int)) (hC : z_cls E) (Y : z_X) (K : Int32 → Prop) (L57 : Int32 → Int32 → Int32 → Int32 → Int32 → Int32 → Int32 → Prop) (k57 : ∀ (x1 : Int32) (x2 : Int32) (x3 : Int32) (x4 : Int32) (x5 : Int32) (x6 : Int32) (x7 : Int32), L57 x1 x2 x3 x4 x5 x6 x7 → ∀ {H : Heap} {locs : List Loc}, z_P E Y H → va_S (z_A E) s.heap H locs → ∀ (ls : Array Slot), lv_has ls 9 [(0, .ref (z_a E 18 0)), (1, .int x1), (2, .int x2), (3, .int x3), (4, .int x4), (5, .int x5), (6, .int x6), (7, .int x7)] → W p l e rX5_likely s m args below meth c H locs 0 0 (MQ below (va_Qi (fun r X' => X' = Y ∧ K r) (fun u t => z_P E u t.heap) (z_A E)) args s 0 0 (z_A E)) (F0 m 57 ls [])) (x1 : Int32) (x2 : Int32) (x3 : Int32) (x4 : Int32) (x5 : Int32) (x6 : Int32) (x7 : Int32) (hw : v_X5_likely_b57_s Y K L57 x1 x2 x3 x4 x5 x6 x7) {H : Heap} {locs : List Loc} (hP : z_P E Y H) (hS : va_S (z_A E) s.heap H locs) {ls : Array Slot} (hl : lv_has ls 9 [(0, .ref (z_a E 18 0)), (1, .int x1), (2, .int x2), (3, .int x3), (4, .int x4), (5, .int x5), (6, .int x6), (7, .int x7)]) : W p l e rX5_likely s m args below meth c H locs 0 0 (MQ below (va_Qi (fun r X' => X' = Y ∧ K r) (fun u t => z_P E u t.heap) (z_A E)) args s 0 0 (z_A E)) (F0 m 57 ls []) := by
  obtain ⟨hx, hb, hml, hr, hlocks, hown, hts, hK, hE⟩ := id C
  have hfX1 : ∀ w ∈ u_ws RX1 TX1 13, w ∈ wsX5_likely := by decide +kernel
  have hfX5 : ∀ w ∈ u_ws RX5 TX5 7, w ∈ wsX5_likely := by decide +kernel
  unfold v_X5_likely_b57_s at hw
  refine lv_iload hx hb dX5_likely_57 (lv_at hl 7 rfl) ?_
  refine lv_aload_n hx hb dX5_likely_59 rfl (lv_at hl 0 rfl) ?_
  refine z_getr (C := RX5) (T := TX5) (N := 7) (ref := "GauntletHall") (o := 18) (d := 0) hx hb hts hfX5 hown hK hP (hC.2 (18, 0) (List.mem_of_getElem? (i := 12) rfl)) z_l_18_0 rfl 1 (by decide) (hts (.fieldLink RX5 19 "GauntletHall" "hall" "LGauntletHall$Hall;") (by decide +kernel)) rfl rfl dX5_likely_60 ?_
  refine z_geti (C := RX1) (T := TX1) (N := 13) (ref := "GauntletHall$Hall") (o := 0) (d := 0) hx hb hts hfX1 hown hK hP (hC.1 0 (by decide) (0, 0) (List.mem_of_getElem? (i := 0) rfl)) (z_lH_0 (o := 0) (by decide)) rfl 1 (by decide) (hts (.fieldLink RX5 151 "GauntletHall$Hall" "gloves" "I") (by decide +kernel)) rfl rfl rfl dX5_likely_63 ?_
  refine lv_icmp_ge (tgt := 156) hx hb dX5_likely_66 (by decide) (fun c9 => ?_) (fun c9 => ?_)
  · replace hw := hw.1 c9
    exact m_X5_likely_b156 C hC Y K x3 x4 x5 hw hP hS (lv_sub hl [3, 4, 5] rfl)
  · replace hw := hw.2 c9
    refine lv_iload hx hb dX5_likely_69 (lv_at hl 6 rfl) ?_
    refine lv_iload_n hx hb dX5_likely_71 rfl (lv_at hl 2 rfl) ?_
    refine lv_icmp_ge (tgt := 156) hx hb dX5_likely_72 (by decide) (fun c15 => ?_) (fun c15 => ?_)
    · replace hw := hw.1 c15
      exact m_X5_likely_b156 C hC Y K x3 x4 x5 hw hP hS (lv_sub hl [3, 4, 5] rfl)
    · replace hw := hw.2 c15
      refine lv_aload_n hx hb dX5_likely_75 rfl (lv_at hl 0 rfl) ?_
      refine z_getr (C := RX5) (T := TX5) (N := 7) (ref := "GauntletHall") (o := 18) (d := 0) hx hb hts hfX5 hown hK hP (hC.2 (18, 0) (List.mem_of_getElem? (i := 12) rfl)) z_l_18_0 rfl 1 (by decide) (hts (.fieldLink RX5 19 "GauntletHall" "hall" "LGauntletHall$Hall;") (by decide +kernel)) rfl rfl dX5_likely_76 ?_
      refine lv_iload_n hx hb dX5_likely_79 rfl (lv_at hl 1 rfl) ?_
      refine lv_iload hx hb dX5_likely_80 (lv_at hl 7 rfl) ?_
      have hPc := z_P_self 0 hP
      refine z_vi (C := RX1) (T := TX1) (N := 13) (o := 0) (rest := []) ⟨hx, hb, hml, hown, hts⟩ (m_X1_canTakeUp l hE hC 0 (by decide) Y (Y 0) x1 x7 _ hw) (cwV 2 hts gX5_likely_X1_canTakeUp rfl rfl rfl (by decide +kernel) ⟨Nat.le_of_ble_eq_true rfl, Nat.le_of_ble_eq_true rfl⟩) hK hPc hS (hC.1 0 (by decide) (0, 0) (List.mem_of_getElem? (i := 0) rfl)) (z_lH_0 (o := 0) (by decide)) rfl rfl hl.1 rfl (Nat.le_of_ble_eq_true rfl) dX5_likely_82 ⟨Nat.zero_le _, Nat.zero_le _⟩ (fun r16 u H locs hk hP hS => ?_)
      obtain ⟨eu, hw⟩ := hk
      rw [eu, z_up_self] at hP
      refine lv_if_ne (tgt := 91) hx hb dX5_likely_85 (by decide) (fun c17 => ?_) (fun c17 => ?_)
      · replace hw := hw.1 c17
        obtain ⟨y18, ey18⟩ : ∃ z : Int32, z = x6 + (1 : Int32) := ⟨_, rfl⟩
        replace hw := hw y18 ey18
        refine lv_iinc (v := y18) (lv' := [(6, .int y18), (0, .ref (z_a E 18 0)), (1, .int x1), (2, .int x2), (3, .int x3), (4, .int x4), (5, .int x5), (7, .int x7)]) hx hb dX5_likely_91 hl (k := 6) rfl (by rw [ey18]; rfl) (by decide) rfl (fun ls hl => ?_)
        refine lv_aload_n hx hb dX5_likely_94 rfl (lv_at hl 1 rfl) ?_
        refine z_getr (C := RX5) (T := TX5) (N := 7) (ref := "GauntletHall") (o := 18) (d := 0) hx hb hts hfX5 hown hK hP (hC.2 (18, 0) (List.mem_of_getElem? (i := 12) rfl)) z_l_18_0 rfl 1 (by decide) (hts (.fieldLink RX5 19 "GauntletHall" "hall" "LGauntletHall$Hall;") (by decide +kernel)) rfl rfl dX5_likely_95 ?_
        refine z_getr (C := RX1) (T := TX1) (N := 13) (ref := "GauntletHall$Hall") (o := 0) (d := 0) hx hb hts hfX1 hown hK hP (hC.1 0 (by decide) (0, 0) (List.mem_of_getElem? (i := 0) rfl)) (z_lH_0 (o := 0) (by decide)) rfl 5 (by decide) (hts (.fieldLink RX5 97 "GauntletHall$Hall" "might" "[I") (by decide +kernel)) rfl rfl dX5_likely_98 ?_
        refine lv_aload_n hx hb dX5_likely_101 rfl (lv_at hl 1 rfl) ?_
        refine z_getr (C := RX5) (T := TX5) (N := 7) (ref := "GauntletHall") (o := 18) (d := 0) hx hb hts hfX5 hown hK hP (hC.2 (18, 0) (List.mem_of_getElem? (i := 12) rfl)) z_l_18_0 rfl 1 (by decide) (hts (.fieldLink RX5 19 "GauntletHall" "hall" "LGauntletHall$Hall;") (by decide +kernel)) rfl rfl dX5_likely_102 ?_
        refine z_getr (C := RX1) (T := TX1) (N := 13) (ref := "GauntletHall$Hall") (o := 0) (d := 0) hx hb hts hfX1 hown hK hP (hC.1 0 (by decide) (0, 0) (List.mem_of_getElem? (i := 0) rfl)) (z_lH_0 (o := 0) (by decide)) rfl 9 (by decide) (hts (.fieldLink RX5 125 "GauntletHall$Hall" "owner" "[I") (by decide +kernel)) rfl rfl dX5_likely_105 ?_
        refine lv_iload hx hb dX5_likely_108 (lv_at hl 7 rfl) ?_
        obtain ⟨i19, hw⟩ := hw
        refine z_iald (o := 0) (d := 9) hx hb hK hP (hC.1 0 (by decide) (0, 9) (List.mem_of_getElem? (i := 6) rfl)) (z_lH_9 (o := 0) (by decide)) i19 rfl dX5_likely_110 ?_
        obtain ⟨i20, hw⟩ := hw
        refine z_iald (o := 0) (d := 5) hx hb hK hP (hC.1 0 (by decide) (0, 5) (List.mem_of_getElem? (i := 2) rfl)) (z_lH_5 (o := 0) (by decide)) i20 rfl dX5_likely_111 ?_
        refine lv_topi (fun y21 ey21 => ?_)
        replace hw := hw y21 ey21
        refine lv_istore (lv' := [(8, .int y21), (6, .int y18), (0, .ref (z_a E 18 0)), (1, .int x1), (2, .int x2), (3, .int x3), (4, .int x4), (5, .int x5), (7, .int x7)]) hx hb dX5_likely_112 hl (by decide) rfl (fun ls hl => ?_)
        refine lv_iload hx hb dX5_likely_114 (lv_at hl 0 rfl) ?_
        refine lv_if_le (tgt := 150) hx hb dX5_likely_116 (by decide) (fun c22 => ?_) (fun c22 => ?_)
        · replace hw := hw.1 c22
          obtain ⟨y23, ey23⟩ : ∃ z : Int32, z = x7 + (1 : Int32) := ⟨_, rfl⟩
          replace hw := hw y23 ey23
          refine lv_iinc (v := y23) (lv' := [(7, .int y23), (8, .int y21), (6, .int y18), (0, .ref (z_a E 18 0)), (1, .int x1), (2, .int x2), (3, .int x3), (4, .int x4), (5, .int x5)]) hx hb dX5_likely_150 hl (k := 8) rfl (by rw [ey23]; rfl) (by decide) rfl (fun ls hl => ?_)
          refine lv_goto (tgt := 57) hx hb dX5_likely_153 (by decide) ?_
          exact k57 x1 x2 x3 x4 x5 y18 y23 hw hP hS _ (lv_sub hl [3, 4, 5, 6, 7, 8, 2, 0] rfl)
        · replace hw := hw.2 c22
          refine lv_iload hx hb dX5_likely_119 (lv_at hl 6 rfl) ?_
          refine lv_aload_n hx hb dX5_likely_121 rfl (lv_at hl 2 rfl) ?_
          refine z_getr (C := RX5) (T := TX5) (N := 7) (ref := "GauntletHall") (o := 18) (d := 0) hx hb hts hfX5 hown hK hP (hC.2 (18, 0) (List.mem_of_getElem? (i := 12) rfl)) z_l_18_0 rfl 1 (by decide) (hts (.fieldLink RX5 19 "GauntletHall" "hall" "LGauntletHall$Hall;") (by decide +kernel)) rfl rfl dX5_likely_122 ?_
          refine z_getr (C := RX1) (T := TX1) (N := 13) (ref := "GauntletHall$Hall") (o := 0) (d := 0) hx hb hts hfX1 hown hK hP (hC.1 0 (by decide) (0, 0) (List.mem_of_getElem? (i := 0) rfl)) (z_lH_0 (o := 0) (by decide)) rfl 5 (by decide) (hts (.fieldLink RX5 97 "GauntletHall$Hall" "might" "[I") (by decide +kernel)) rfl rfl dX5_likely_125 ?_
          refine lv_iload_n hx hb dX5_likely_128 rfl (lv_at hl 3 rfl) ?_
          obtain ⟨i24, hw⟩ := hw
          refine z_iald (o := 0) (d := 5) hx hb hK hP (hC.1 0 (by decide) (0, 5) (List.mem_of_getElem? (i := 2) rfl)) (z_lH_5 (o := 0) (by decide)) i24 rfl dX5_likely_129 ?_
          refine lv_imul hx hb dX5_likely_130 ?_
          refine lv_topi (fun y25 ey25 => ?_)
          replace hw := hw y25 ey25
          refine lv_istore (lv' := [(4, .int y25), (8, .int y21), (6, .int y18), (0, .ref (z_a E 18 0)), (1, .int x1), (2, .int x2), (3, .int x3), (5, .int x5), (7, .int x7)]) hx hb dX5_likely_131 hl (by decide) rfl (fun ls hl => ?_)
          refine lv_iload hx hb dX5_likely_133 (lv_at hl 7 rfl) ?_
          refine lv_aload_n hx hb dX5_likely_135 rfl (lv_at hl 3 rfl) ?_
          refine z_getr (C := RX5) (T := TX5) (N := 7) (ref := "GauntletHall") (o := 18) (d := 0) hx hb hts hfX5 hown hK hP (hC.2 (18, 0) (List.mem_of_getElem? (i := 12) rfl)) z_l_18_0 rfl 1 (by decide) (hts (.fieldLink RX5 19 "GauntletHall" "hall" "LGauntletHall$Hall;") (by decide +kernel)) rfl rfl dX5_likely_136 ?_
          refine z_getr (C := RX1) (T := TX1) (N := 13) (ref := "GauntletHall$Hall") (o := 0) (d := 0) hx hb hts hfX1 hown hK hP (hC.1 0 (by decide) (0, 0) (List.mem_of_getElem? (i := 0) rfl)) (z_lH_0 (o := 0) (by decide)) rfl 5 (by decide) (hts (.fieldLink RX5 97 "GauntletHall$Hall" "might" "[I") (by decide +kernel)) rfl rfl dX5_likely_139 ?_
          refine lv_iload_n hx hb dX5_likely_142 rfl (lv_at hl 4 rfl) ?_
          obtain ⟨i26, hw⟩ := hw
          refine z_iald (o := 0) (d := 5) hx hb hK hP (hC.1 0 (by decide) (0, 5) (List.mem_of_getElem? (i := 2) rfl)) (z_lH_5 (o := 0) (by decide)) i26 rfl dX5_likely_143 ?_
          refine lv_iload hx hb dX5_likely_144 (lv_at hl 1 rfl) ?_
          refine lv_iadd hx hb dX5_likely_146 ?_
          refine lv_imul hx hb dX5_likely_147 ?_
          refine lv_topi (fun y27 ey27 => ?_)
          replace hw := hw y27 ey27
          refine lv_istore (lv' := [(5, .int y27), (4, .int y25), (8, .int y21), (6, .int y18), (0, .ref (z_a E 18 0)), (1, .int x1), (2, .int x2), (3, .int x3), (7, .int x7)]) hx hb dX5_likely_148 hl (by decide) rfl (fun ls hl => ?_)
          obtain ⟨y28, ey28⟩ : ∃ z : Int32, z = x7 + (1 : Int32) := ⟨_, rfl⟩
          replace hw := hw y28 ey28
          refine lv_iinc (v := y28) (lv' := [(7, .int y28), (5, .int y27), (4, .int y25), (8, .int y21), (6, .int y18), (0, .ref (z_a E 18 0)), (1, .int x1), (2, .int x2), (3, .int x3)]) hx hb dX5_likely_150 hl (k := 8) rfl (by rw [ey28]; rfl) (by decide) rfl (fun ls hl => ?_)
          refine lv_goto (tgt := 57) hx hb dX5_likely_153 (by decide) ?_
          exact k57 x1 x2 x3 y25 y27 y18 y28 hw hP hS _ (lv_sub hl [5, 6, 7, 8, 2, 1, 4, 0] rfl)
      · replace hw := hw.2 c17
        refine lv_goto (tgt := 150) hx hb dX5_likely_88 (by decide) ?_
        obtain ⟨y29, ey29⟩ : ∃ z : Int32, z = x7 + (1 : Int32) := ⟨_, rfl⟩
        replace hw := hw y29 ey29
        refine lv_iinc (v := y29) (lv' := [(7, .int y29), (0, .ref (z_a E 18 0)), (1, .int x1), (2, .int x2), (3, .int x3), (4, .int x4), (5, .int x5), (6, .int x6)]) hx hb dX5_likely_150 hl (k := 7) rfl (by rw [ey29]; rfl) (by decide) rfl (fun ls hl => ?_)
        refine lv_goto (tgt := 57) hx hb dX5_likely_153 (by decide) ?_
        exact k57 x1 x2 x3 x4 x5 x6 y29 hw hP hS _ (lv_sub hl [1, 2, 3, 4, 5, 6, 7, 0] rfl)
theorem m_X5_likely_b57 {p : Program} {l : Launch} {e : Env} {s : State} {m : MethodId} {args : Array Value} {below : List Frame} {meth : Method} {c : Code} {E : z_E} (C : z_Cx p E s m args meth c cX5_likely 9 wsX5_likely RX5 (some .int)) (hC : z_cls E) (Y : z_X) (K : Int32 → Prop) (x1 : Int32) (x2 : Int32) (x3 : Int32) (x4 : Int32) (x5 : Int32) (x6 : Int32) (x7 : Int32) (hw : v_X5_likely_b57 Y K x1 x2 x3 x4 x5 x6 x7) {H : Heap} {locs : List Loc} (hP : z_P E Y H) (hS : va_S (z_A E) s.heap H locs) {ls : Array Slot} (hl : lv_has ls 9 [(0, .ref (z_a E 18 0)), (1, .int x1), (2, .int x2), (3, .int x3), (4, .int x4), (5, .int x5), (6, .int x6), (7, .int x7)]) : W p l e rX5_likely s m args below meth c H locs 0 0 (MQ below (va_Qi (fun r X' => X' = Y ∧ K r) (fun u t => z_P E u t.heap) (z_A E)) args s 0 0 (z_A E)) (F0 m 57 ls []) := by
  obtain ⟨n, hw⟩ := hw
  revert hw hP hS hl
  revert x1 x2 x3 x4 x5 x6 x7 H locs ls
  induction n with
  | zero => intro x1 x2 x3 x4 x5 x6 x7 H locs ls hP hS hl hw; exact hw.elim
  | succ n ih =>
    intro x1 x2 x3 x4 x5 x6 x7 H locs ls hP hS hl hw
    exact m_X5_likely_b57_s C hC Y K (fun x1 x2 x3 x4 x5 x6 x7 => z_fp (σ := Int32 × Int32 × Int32 × Int32 × Int32 × Int32 × Int32) (fun Lp q => v_X5_likely_b57_s Y K (fun x1 x2 x3 x4 x5 x6 x7 => Lp (x1, x2, x3, x4, x5, x6, x7)) q.1 q.2.1 q.2.2.1 q.2.2.2.1 q.2.2.2.2.1 q.2.2.2.2.2.1 q.2.2.2.2.2.2) n (x1, x2, x3, x4, x5, x6, x7)) (fun x1 x2 x3 x4 x5 x6 x7 h9 H locs hP hS ls hl => ih x1 x2 x3 x4 x5 x6 x7 hP hS hl h9) x1 x2 x3 x4 x5 x6 x7 hw hP hS hl
set_option maxHeartbeats 4000000 in
set_option maxRecDepth 100000 in
theorem m_X5_likely (l : Launch) {E : z_E} (hE : z_ok E) (hC : z_cls E) (Y : z_X) (x1 : Int32) (x2 : Int32) (x3 : Int32) (K : Int32 → Prop) (hw : v_X5_likely Y x1 x2 x3 K) : z_CI l E yX5_likely wsX5_likely rX5_likely [.ref (z_a E 18 0), .int x1, .int x2, .int x3] Y (fun r X' => X' = Y ∧ K r) := by
  refine z_start (cc := cX5_likely) (maxL := 9) (ret := (some .int)) hE (by decide) rfl (Nat.le_of_ble_eq_true rfl) ?_
  intro p e s m below meth c C hP hS ls hl
  have C : z_Cx p E s m _ meth c cX5_likely 9 wsX5_likely RX5 (some .int) := C
  obtain ⟨hx, hb, hml, hr, hlocks, hown, hts, hK, hE⟩ := id C
  have hl : lv_has ls 9 [(0, .ref (z_a E 18 0)), (1, .int x1), (2, .int x2), (3, .int x3)] := hl
  have hfX1 : ∀ w ∈ u_ws RX1 TX1 13, w ∈ wsX5_likely := by decide +kernel
  have hfX5 : ∀ w ∈ u_ws RX5 TX5 7, w ∈ wsX5_likely := by decide +kernel
  unfold v_X5_likely at hw
  refine lv_aload_n hx hb dX5_likely_0 rfl (lv_at hl 0 rfl) ?_
  refine z_getr (C := RX5) (T := TX5) (N := 7) (ref := "GauntletHall") (o := 18) (d := 0) hx hb hts hfX5 hown hK hP (hC.2 (18, 0) (List.mem_of_getElem? (i := 12) rfl)) z_l_18_0 rfl 1 (by decide) (hts (.fieldLink RX5 19 "GauntletHall" "hall" "LGauntletHall$Hall;") (by decide +kernel)) rfl rfl dX5_likely_1 ?_
  refine lv_iload_n hx hb dX5_likely_4 rfl (lv_at hl 1 rfl) ?_
  have hPc := z_P_self 0 hP
  refine z_vi (C := RX1) (T := TX1) (N := 13) (o := 0) (rest := []) ⟨hx, hb, hml, hown, hts⟩ (m_X1_isPerson l hE hC 0 (by decide) Y (Y 0) x1 _ hw) (cwV 1 hts gX5_likely_X1_isPerson rfl rfl rfl (by decide +kernel) ⟨Nat.le_of_ble_eq_true rfl, Nat.le_of_ble_eq_true rfl⟩) hK hPc hS (hC.1 0 (by decide) (0, 0) (List.mem_of_getElem? (i := 0) rfl)) (z_lH_0 (o := 0) (by decide)) rfl rfl hl.1 rfl (Nat.le_of_ble_eq_true rfl) dX5_likely_5 ⟨Nat.zero_le _, Nat.zero_le _⟩ (fun r1 u H locs hk hP hS => ?_)
  obtain ⟨eu, hw⟩ := hk
  rw [eu, z_up_self] at hP
  refine lv_if_eq (tgt := 29) hx hb dX5_likely_8 (by decide) (fun c2 => ?_) (fun c2 => ?_)
  · replace hw := hw.1 c2
    refine lv_iconst (v := (-1 : Int32)) hx hb dX5_likely_29 (by decide) ?_
    exact z_reti C hP hS ⟨rfl, hw⟩ dX5_likely_30
  · replace hw := hw.2 c2
    refine lv_iload_n hx hb dX5_likely_11 rfl (lv_at hl 2 rfl) ?_
    refine lv_iconst (v := (0 : Int32)) hx hb dX5_likely_12 (by decide) ?_
    refine lv_iconst (v := (4 : Int32)) hx hb dX5_likely_13 (by decide) ?_
    refine z_si (rest := []) ⟨hx, hb, hml, hown, hts⟩ (m_X5_within l hE Y x2 (0 : Int32) (4 : Int32) _ hw) (va_cwS 3 hts gX5_likely_X5_within rfl rfl rfl (by decide +kernel) ⟨Nat.le_of_ble_eq_true rfl, Nat.le_of_ble_eq_true rfl⟩) hK hP hS rfl hl.1 rfl (Nat.le_of_ble_eq_true rfl) dX5_likely_14 ⟨Nat.zero_le _, Nat.zero_le _⟩ (fun r3 u H locs hk hP hS => ?_)
    obtain ⟨eu, hw⟩ := hk
    rw [eu] at hP
    refine lv_if_eq (tgt := 29) hx hb dX5_likely_17 (by decide) (fun c4 => ?_) (fun c4 => ?_)
    · replace hw := hw.1 c4
      refine lv_iconst (v := (-1 : Int32)) hx hb dX5_likely_29 (by decide) ?_
      exact z_reti C hP hS ⟨rfl, hw⟩ dX5_likely_30
    · replace hw := hw.2 c4
      refine lv_iload_n hx hb dX5_likely_20 rfl (lv_at hl 3 rfl) ?_
      refine lv_iconst (v := (0 : Int32)) hx hb dX5_likely_21 (by decide) ?_
      refine lv_iconst (v := (1 : Int32)) hx hb dX5_likely_22 (by decide) ?_
      refine z_si (rest := []) ⟨hx, hb, hml, hown, hts⟩ (m_X5_within l hE Y x3 (0 : Int32) (1 : Int32) _ hw) (va_cwS 3 hts gX5_likely_X5_within rfl rfl rfl (by decide +kernel) ⟨Nat.le_of_ble_eq_true rfl, Nat.le_of_ble_eq_true rfl⟩) hK hP hS rfl hl.1 rfl (Nat.le_of_ble_eq_true rfl) dX5_likely_23 ⟨Nat.zero_le _, Nat.zero_le _⟩ (fun r5 u H locs hk hP hS => ?_)
      obtain ⟨eu, hw⟩ := hk
      rw [eu] at hP
      refine lv_if_ne (tgt := 31) hx hb dX5_likely_26 (by decide) (fun c6 => ?_) (fun c6 => ?_)
      · replace hw := hw.1 c6
        refine lv_aload_n hx hb dX5_likely_31 rfl (lv_at hl 0 rfl) ?_
        refine z_getr (C := RX5) (T := TX5) (N := 7) (ref := "GauntletHall") (o := 18) (d := 0) hx hb hts hfX5 hown hK hP (hC.2 (18, 0) (List.mem_of_getElem? (i := 12) rfl)) z_l_18_0 rfl 1 (by decide) (hts (.fieldLink RX5 19 "GauntletHall" "hall" "LGauntletHall$Hall;") (by decide +kernel)) rfl rfl dX5_likely_32 ?_
        refine lv_iload_n hx hb dX5_likely_35 rfl (lv_at hl 1 rfl) ?_
        have hPc := z_P_self 0 hP
        refine z_vi (C := RX1) (T := TX1) (N := 13) (o := 0) (rest := []) ⟨hx, hb, hml, hown, hts⟩ (m_X1_isOut l hE hC 0 (by decide) Y (Y 0) x1 _ hw) (cwV 1 hts gX5_likely_X1_isOut rfl rfl rfl (by decide +kernel) ⟨Nat.le_of_ble_eq_true rfl, Nat.le_of_ble_eq_true rfl⟩) hK hPc hS (hC.1 0 (by decide) (0, 0) (List.mem_of_getElem? (i := 0) rfl)) (z_lH_0 (o := 0) (by decide)) rfl rfl hl.1 rfl (Nat.le_of_ble_eq_true rfl) dX5_likely_36 ⟨Nat.zero_le _, Nat.zero_le _⟩ (fun r7 u H locs hk hP hS => ?_)
        obtain ⟨eu, hw⟩ := hk
        rw [eu, z_up_self] at hP
        refine lv_if_eq (tgt := 45) hx hb dX5_likely_39 (by decide) (fun c8 => ?_) (fun c8 => ?_)
        · replace hw := hw.1 c8
          refine lv_iconst (v := (1 : Int32)) hx hb dX5_likely_45 (by decide) ?_
          refine lv_istore (lv' := [(4, .int (1 : Int32)), (0, .ref (z_a E 18 0)), (1, .int x1), (2, .int x2), (3, .int x3)]) hx hb dX5_likely_46 hl (by decide) rfl (fun ls hl => ?_)
          refine lv_iconst (v := (1 : Int32)) hx hb dX5_likely_48 (by decide) ?_
          refine lv_istore (lv' := [(5, .int (1 : Int32)), (4, .int (1 : Int32)), (0, .ref (z_a E 18 0)), (1, .int x1), (2, .int x2), (3, .int x3)]) hx hb dX5_likely_49 hl (by decide) rfl (fun ls hl => ?_)
          refine lv_iconst (v := (0 : Int32)) hx hb dX5_likely_51 (by decide) ?_
          refine lv_istore (lv' := [(6, .int (0 : Int32)), (5, .int (1 : Int32)), (4, .int (1 : Int32)), (0, .ref (z_a E 18 0)), (1, .int x1), (2, .int x2), (3, .int x3)]) hx hb dX5_likely_52 hl (by decide) rfl (fun ls hl => ?_)
          refine lv_iconst (v := (0 : Int32)) hx hb dX5_likely_54 (by decide) ?_
          refine lv_istore (lv' := [(7, .int (0 : Int32)), (6, .int (0 : Int32)), (5, .int (1 : Int32)), (4, .int (1 : Int32)), (0, .ref (z_a E 18 0)), (1, .int x1), (2, .int x2), (3, .int x3)]) hx hb dX5_likely_55 hl (by decide) rfl (fun ls hl => ?_)
          exact m_X5_likely_b57 C hC Y K x1 x2 x3 (1 : Int32) (1 : Int32) (0 : Int32) (0 : Int32) hw hP hS (lv_sub hl [4, 5, 6, 7, 3, 2, 1, 0] rfl)
        · replace hw := hw.2 c8
          refine lv_bipush (v := (-2 : Int32)) hx hb dX5_likely_42 (by decide) ?_
          exact z_reti C hP hS ⟨rfl, hw⟩ dX5_likely_44
      · replace hw := hw.2 c6
        refine lv_iconst (v := (-1 : Int32)) hx hb dX5_likely_29 (by decide) ?_
        exact z_reti C hP hS ⟨rfl, hw⟩ dX5_likely_30
set_option maxHeartbeats 4000000 in
set_option maxRecDepth 100000 in
theorem m_X5_pass_b51_s {p : Program} {l : Launch} {e : Env} {s : State} {m : MethodId} {args : Array Value} {below : List Frame} {meth : Method} {c : Code} {E : z_E} (C : z_Cx p E s m args meth c cX5_pass 4 wsX5_pass RX5 (some .int)) (hC : z_cls E) (K : Int32 → z_X → Prop) (L51 : z_X → Int32 → Int32 → Int32 → Prop) (k51 : ∀ (Y : z_X) (x1 : Int32) (x2 : Int32) (x3 : Int32), L51 Y x1 x2 x3 → ∀ {H : Heap} {locs : List Loc}, z_P E Y H → va_S (z_A E) s.heap H locs → ∀ (ls : Array Slot), lv_has ls 4 [(0, .ref (z_a E 18 0)), (1, .int x1), (2, .int x2), (3, .int x3)] → W p l e rX5_pass s m args below meth c H locs 0 0 (MQ below (va_Qi K (fun u t => z_P E u t.heap) (z_A E)) args s 0 0 (z_A E)) (F0 m 51 ls [])) (Y : z_X) (x1 : Int32) (x2 : Int32) (x3 : Int32) (hw : v_X5_pass_b51_s K L51 Y x1 x2 x3) {H : Heap} {locs : List Loc} (hP : z_P E Y H) (hS : va_S (z_A E) s.heap H locs) {ls : Array Slot} (hl : lv_has ls 4 [(0, .ref (z_a E 18 0)), (1, .int x1), (2, .int x2), (3, .int x3)]) : W p l e rX5_pass s m args below meth c H locs 0 0 (MQ below (va_Qi K (fun u t => z_P E u t.heap) (z_A E)) args s 0 0 (z_A E)) (F0 m 51 ls []) := by
  obtain ⟨hx, hb, hml, hr, hlocks, hown, hts, hK, hE⟩ := id C
  have hfX1 : ∀ w ∈ u_ws RX1 TX1 13, w ∈ wsX5_pass := by decide +kernel
  have hfX5 : ∀ w ∈ u_ws RX5 TX5 7, w ∈ wsX5_pass := by decide +kernel
  unfold v_X5_pass_b51_s at hw
  refine lv_iload_n hx hb dX5_pass_51 rfl (lv_at hl 3 rfl) ?_
  refine lv_iload_n hx hb dX5_pass_52 rfl (lv_at hl 1 rfl) ?_
  refine lv_icmp_ge (tgt := 70) hx hb dX5_pass_53 (by decide) (fun c6 => ?_) (fun c6 => ?_)
  · replace hw := hw.1 c6
    refine lv_aload_n hx hb dX5_pass_70 rfl (lv_at hl 0 rfl) ?_
    refine z_getr (C := RX5) (T := TX5) (N := 7) (ref := "GauntletHall") (o := 18) (d := 0) hx hb hts hfX5 hown hK hP (hC.2 (18, 0) (List.mem_of_getElem? (i := 12) rfl)) z_l_18_0 rfl 1 (by decide) (hts (.fieldLink RX5 19 "GauntletHall" "hall" "LGauntletHall$Hall;") (by decide +kernel)) rfl rfl dX5_pass_71 ?_
    refine z_geti (C := RX1) (T := TX1) (N := 13) (ref := "GauntletHall$Hall") (o := 0) (d := 0) hx hb hts hfX1 hown hK hP (hC.1 0 (by decide) (0, 0) (List.mem_of_getElem? (i := 0) rfl)) (z_lH_0 (o := 0) (by decide)) rfl 3 (by decide) (hts (.fieldLink RX5 144 "GauntletHall$Hall" "fights" "I") (by decide +kernel)) rfl rfl rfl dX5_pass_74 ?_
    refine lv_iload_n hx hb dX5_pass_77 rfl (lv_at hl 2 rfl) ?_
    refine lv_isub hx hb dX5_pass_78 ?_
    exact z_reti C hP hS hw dX5_pass_79
  · replace hw := hw.2 c6
    refine lv_aload_n hx hb dX5_pass_56 rfl (lv_at hl 0 rfl) ?_
    refine z_getr (C := RX5) (T := TX5) (N := 7) (ref := "GauntletHall") (o := 18) (d := 0) hx hb hts hfX5 hown hK hP (hC.2 (18, 0) (List.mem_of_getElem? (i := 12) rfl)) z_l_18_0 rfl 1 (by decide) (hts (.fieldLink RX5 19 "GauntletHall" "hall" "LGauntletHall$Hall;") (by decide +kernel)) rfl rfl dX5_pass_57 ?_
    have hPc := z_P_self 0 hP
    refine z_vi (C := RX1) (T := TX1) (N := 13) (o := 0) (rest := []) ⟨hx, hb, hml, hown, hts⟩ (m_X1_reignGoesBy l hE hC 0 (by decide) Y (Y 0) _ hw) (cwV 0 hts gX5_pass_X1_reignGoesBy rfl rfl rfl (by decide +kernel) ⟨Nat.le_of_ble_eq_true rfl, Nat.le_of_ble_eq_true rfl⟩) hK hPc hS (hC.1 0 (by decide) (0, 0) (List.mem_of_getElem? (i := 0) rfl)) (z_lH_0 (o := 0) (by decide)) rfl rfl hl.1 rfl (Nat.le_of_ble_eq_true rfl) dX5_pass_60 ⟨Nat.zero_le _, Nat.zero_le _⟩ (fun r7 u H locs hk hP hS => ?_)
    obtain ⟨h8, eu, hw⟩ := hk
    rw [eu] at hP
    obtain ⟨Y9, eY9⟩ : ∃ z : z_X, z = z_up Y 0 h8 := ⟨_, rfl⟩
    replace hw := hw Y9 eY9
    rw [← eY9] at hP
    refine lv_pop hx hb dX5_pass_63 rfl ?_
    obtain ⟨y10, ey10⟩ : ∃ z : Int32, z = x3 + (1 : Int32) := ⟨_, rfl⟩
    replace hw := hw y10 ey10
    refine lv_iinc (v := y10) (lv' := [(3, .int y10), (0, .ref (z_a E 18 0)), (1, .int x1), (2, .int x2)]) hx hb dX5_pass_64 hl (k := 3) rfl (by rw [ey10]; rfl) (by decide) rfl (fun ls hl => ?_)
    refine lv_goto (tgt := 51) hx hb dX5_pass_67 (by decide) ?_
    exact k51 Y9 x1 x2 y10 hw hP hS _ (lv_sub hl [1, 2, 3, 0] rfl)
theorem m_X5_pass_b51 {p : Program} {l : Launch} {e : Env} {s : State} {m : MethodId} {args : Array Value} {below : List Frame} {meth : Method} {c : Code} {E : z_E} (C : z_Cx p E s m args meth c cX5_pass 4 wsX5_pass RX5 (some .int)) (hC : z_cls E) (K : Int32 → z_X → Prop) (Y : z_X) (x1 : Int32) (x2 : Int32) (x3 : Int32) (hw : v_X5_pass_b51 K Y x1 x2 x3) {H : Heap} {locs : List Loc} (hP : z_P E Y H) (hS : va_S (z_A E) s.heap H locs) {ls : Array Slot} (hl : lv_has ls 4 [(0, .ref (z_a E 18 0)), (1, .int x1), (2, .int x2), (3, .int x3)]) : W p l e rX5_pass s m args below meth c H locs 0 0 (MQ below (va_Qi K (fun u t => z_P E u t.heap) (z_A E)) args s 0 0 (z_A E)) (F0 m 51 ls []) := by
  obtain ⟨n, hw⟩ := hw
  revert hw hP hS hl
  revert Y x1 x2 x3 H locs ls
  induction n with
  | zero => intro Y x1 x2 x3 H locs ls hP hS hl hw; exact hw.elim
  | succ n ih =>
    intro Y x1 x2 x3 H locs ls hP hS hl hw
    exact m_X5_pass_b51_s C hC K (fun Y x1 x2 x3 => z_fp (σ := z_X × Int32 × Int32 × Int32) (fun Lp q => v_X5_pass_b51_s K (fun Y x1 x2 x3 => Lp (Y, x1, x2, x3)) q.1 q.2.1 q.2.2.1 q.2.2.2) n (Y, x1, x2, x3)) (fun Y x1 x2 x3 h9 H locs hP hS ls hl => ih Y x1 x2 x3 hP hS hl h9) Y x1 x2 x3 hw hP hS hl
set_option maxHeartbeats 4000000 in
set_option maxRecDepth 100000 in
theorem m_X5_pass (l : Launch) {E : z_E} (hE : z_ok E) (hC : z_cls E) (Y : z_X) (x1 : Int32) (K : Int32 → z_X → Prop) (hw : v_X5_pass Y x1 K) : z_CI l E yX5_pass wsX5_pass rX5_pass [.ref (z_a E 18 0), .int x1] Y K := by
  refine z_start (cc := cX5_pass) (maxL := 4) (ret := (some .int)) hE (by decide) rfl (Nat.le_of_ble_eq_true rfl) ?_
  intro p e s m below meth c C hP hS ls hl
  have C : z_Cx p E s m _ meth c cX5_pass 4 wsX5_pass RX5 (some .int) := C
  obtain ⟨hx, hb, hml, hr, hlocks, hown, hts, hK, hE⟩ := id C
  have hl : lv_has ls 4 [(0, .ref (z_a E 18 0)), (1, .int x1)] := hl
  have hfX1 : ∀ w ∈ u_ws RX1 TX1 13, w ∈ wsX5_pass := by decide +kernel
  have hfX5 : ∀ w ∈ u_ws RX5 TX5 7, w ∈ wsX5_pass := by decide +kernel
  unfold v_X5_pass at hw
  refine lv_iload_n hx hb dX5_pass_0 rfl (lv_at hl 1 rfl) ?_
  refine lv_iconst (v := (1 : Int32)) hx hb dX5_pass_1 (by decide) ?_
  refine lv_bipush (v := (20 : Int32)) hx hb dX5_pass_2 (by decide) ?_
  refine z_si (rest := []) ⟨hx, hb, hml, hown, hts⟩ (m_X5_within l hE Y x1 (1 : Int32) (20 : Int32) _ hw) (va_cwS 3 hts gX5_pass_X5_within rfl rfl rfl (by decide +kernel) ⟨Nat.le_of_ble_eq_true rfl, Nat.le_of_ble_eq_true rfl⟩) hK hP hS rfl hl.1 rfl (Nat.le_of_ble_eq_true rfl) dX5_pass_4 ⟨Nat.zero_le _, Nat.zero_le _⟩ (fun r1 u H locs hk hP hS => ?_)
  obtain ⟨eu, hw⟩ := hk
  rw [eu] at hP
  refine lv_if_ne (tgt := 12) hx hb dX5_pass_7 (by decide) (fun c2 => ?_) (fun c2 => ?_)
  · replace hw := hw.1 c2
    refine lv_aload_n hx hb dX5_pass_12 rfl (lv_at hl 0 rfl) ?_
    refine z_getr (C := RX5) (T := TX5) (N := 7) (ref := "GauntletHall") (o := 18) (d := 0) hx hb hts hfX5 hown hK hP (hC.2 (18, 0) (List.mem_of_getElem? (i := 12) rfl)) z_l_18_0 rfl 1 (by decide) (hts (.fieldLink RX5 19 "GauntletHall" "hall" "LGauntletHall$Hall;") (by decide +kernel)) rfl rfl dX5_pass_13 ?_
    refine z_geti (C := RX1) (T := TX1) (N := 13) (ref := "GauntletHall$Hall") (o := 0) (d := 0) hx hb hts hfX1 hown hK hP (hC.1 0 (by decide) (0, 0) (List.mem_of_getElem? (i := 0) rfl)) (z_lH_0 (o := 0) (by decide)) rfl 2 (by decide) (hts (.fieldLink RX5 138 "GauntletHall$Hall" "reign" "I") (by decide +kernel)) rfl rfl rfl dX5_pass_16 ?_
    refine lv_iload_n hx hb dX5_pass_19 rfl (lv_at hl 1 rfl) ?_
    refine lv_iadd hx hb dX5_pass_20 ?_
    refine lv_sipush (v := (999 : Int32)) hx hb dX5_pass_21 (by decide) ?_
    refine lv_icmp_le (tgt := 30) hx hb dX5_pass_24 (by decide) (fun c3 => ?_) (fun c3 => ?_)
    · replace hw := hw.1 c3
      refine lv_aload_n hx hb dX5_pass_30 rfl (lv_at hl 0 rfl) ?_
      refine z_getr (C := RX5) (T := TX5) (N := 7) (ref := "GauntletHall") (o := 18) (d := 0) hx hb hts hfX5 hown hK hP (hC.2 (18, 0) (List.mem_of_getElem? (i := 12) rfl)) z_l_18_0 rfl 3 (by decide) (hts (.fieldLink RX5 31 "GauntletHall" "past" "LGauntletHall$Shelf;") (by decide +kernel)) rfl rfl dX5_pass_31 ?_
      refine lv_aload_n hx hb dX5_pass_34 rfl (lv_at hl 0 rfl) ?_
      refine z_getr (C := RX5) (T := TX5) (N := 7) (ref := "GauntletHall") (o := 18) (d := 0) hx hb hts hfX5 hown hK hP (hC.2 (18, 0) (List.mem_of_getElem? (i := 12) rfl)) z_l_18_0 rfl 1 (by decide) (hts (.fieldLink RX5 19 "GauntletHall" "hall" "LGauntletHall$Hall;") (by decide +kernel)) rfl rfl dX5_pass_35 ?_
      refine z_vv (C := RX3) (T := TX3) (N := 3) (o := 14) (rest := []) ⟨hx, hb, hml, hown, hts⟩ (m_X3_put l hE hC 14 3 8 (z_s14 hC) 0 (by decide) Y _ hw) (cwV 1 hts gX5_pass_X3_put rfl rfl rfl (by decide +kernel) ⟨Nat.le_of_ble_eq_true rfl, Nat.le_of_ble_eq_true rfl⟩) hK hP hS (hC.2 (14, 0) (List.mem_of_getElem? (i := 3) rfl)) z_l_14_0 rfl rfl hl.1 rfl (Nat.le_of_ble_eq_true rfl) dX5_pass_38 ⟨Nat.zero_le _, Nat.zero_le _⟩ (fun Y4 H locs hk hP hS => ?_)
      replace hw := hk
      refine lv_aload_n hx hb dX5_pass_41 rfl (lv_at hl 0 rfl) ?_
      refine z_getr (C := RX5) (T := TX5) (N := 7) (ref := "GauntletHall") (o := 18) (d := 0) hx hb hts hfX5 hown hK hP (hC.2 (18, 0) (List.mem_of_getElem? (i := 12) rfl)) z_l_18_0 rfl 1 (by decide) (hts (.fieldLink RX5 19 "GauntletHall" "hall" "LGauntletHall$Hall;") (by decide +kernel)) rfl rfl dX5_pass_42 ?_
      refine z_geti (C := RX1) (T := TX1) (N := 13) (ref := "GauntletHall$Hall") (o := 0) (d := 0) hx hb hts hfX1 hown hK hP (hC.1 0 (by decide) (0, 0) (List.mem_of_getElem? (i := 0) rfl)) (z_lH_0 (o := 0) (by decide)) rfl 3 (by decide) (hts (.fieldLink RX5 144 "GauntletHall$Hall" "fights" "I") (by decide +kernel)) rfl rfl rfl dX5_pass_45 ?_
      refine lv_topi (fun y5 ey5 => ?_)
      replace hw := hw y5 ey5
      refine lv_istore_n (lv' := [(2, .int y5), (0, .ref (z_a E 18 0)), (1, .int x1)]) hx hb dX5_pass_48 rfl hl (by decide) rfl (fun ls hl => ?_)
      refine lv_iconst (v := (0 : Int32)) hx hb dX5_pass_49 (by decide) ?_
      refine lv_istore_n (lv' := [(3, .int (0 : Int32)), (2, .int y5), (0, .ref (z_a E 18 0)), (1, .int x1)]) hx hb dX5_pass_50 rfl hl (by decide) rfl (fun ls hl => ?_)
      exact m_X5_pass_b51 C hC K Y4 x1 y5 (0 : Int32) hw hP hS (lv_sub hl [2, 3, 1, 0] rfl)
    · replace hw := hw.2 c3
      refine lv_bipush (v := (-2 : Int32)) hx hb dX5_pass_27 (by decide) ?_
      exact z_reti C hP hS hw dX5_pass_29
  · replace hw := hw.2 c2
    refine lv_iconst (v := (-1 : Int32)) hx hb dX5_pass_10 (by decide) ?_
    exact z_reti C hP hS hw dX5_pass_11
set_option maxHeartbeats 4000000 in
set_option maxRecDepth 100000 in
theorem m_X5_person (l : Launch) {E : z_E} (hE : z_ok E) (hC : z_cls E) (Y : z_X) (x1 : Int32) (x2 : Int32) (K : Int32 → Prop) (hw : v_X5_person Y x1 x2 K) : z_CI l E yX5_person wsX5_person rX5_person [.ref (z_a E 18 0), .int x1, .int x2] Y (fun r X' => X' = Y ∧ K r) := by
  refine z_start (cc := cX5_person) (maxL := 3) (ret := (some .int)) hE (by decide) rfl (Nat.le_of_ble_eq_true rfl) ?_
  intro p e s m below meth c C hP hS ls hl
  have C : z_Cx p E s m _ meth c cX5_person 3 wsX5_person RX5 (some .int) := C
  obtain ⟨hx, hb, hml, hr, hlocks, hown, hts, hK, hE⟩ := id C
  have hl : lv_has ls 3 [(0, .ref (z_a E 18 0)), (1, .int x1), (2, .int x2)] := hl
  have hfX1 : ∀ w ∈ u_ws RX1 TX1 13, w ∈ wsX5_person := by decide +kernel
  have hfX5 : ∀ w ∈ u_ws RX5 TX5 7, w ∈ wsX5_person := by decide +kernel
  unfold v_X5_person at hw
  refine lv_aload_n hx hb dX5_person_0 rfl (lv_at hl 0 rfl) ?_
  refine z_getr (C := RX5) (T := TX5) (N := 7) (ref := "GauntletHall") (o := 18) (d := 0) hx hb hts hfX5 hown hK hP (hC.2 (18, 0) (List.mem_of_getElem? (i := 12) rfl)) z_l_18_0 rfl 1 (by decide) (hts (.fieldLink RX5 19 "GauntletHall" "hall" "LGauntletHall$Hall;") (by decide +kernel)) rfl rfl dX5_person_1 ?_
  refine lv_iload_n hx hb dX5_person_4 rfl (lv_at hl 1 rfl) ?_
  have hPc := z_P_self 0 hP
  refine z_vi (C := RX1) (T := TX1) (N := 13) (o := 0) (rest := []) ⟨hx, hb, hml, hown, hts⟩ (m_X1_isPerson l hE hC 0 (by decide) Y (Y 0) x1 _ hw) (cwV 1 hts gX5_person_X1_isPerson rfl rfl rfl (by decide +kernel) ⟨Nat.le_of_ble_eq_true rfl, Nat.le_of_ble_eq_true rfl⟩) hK hPc hS (hC.1 0 (by decide) (0, 0) (List.mem_of_getElem? (i := 0) rfl)) (z_lH_0 (o := 0) (by decide)) rfl rfl hl.1 rfl (Nat.le_of_ble_eq_true rfl) dX5_person_5 ⟨Nat.zero_le _, Nat.zero_le _⟩ (fun r1 u H locs hk hP hS => ?_)
  obtain ⟨eu, hw⟩ := hk
  rw [eu, z_up_self] at hP
  refine lv_if_ne (tgt := 13) hx hb dX5_person_8 (by decide) (fun c2 => ?_) (fun c2 => ?_)
  · replace hw := hw.1 c2
    refine lv_iload_n hx hb dX5_person_13 rfl (lv_at hl 2 rfl) ?_
    by_cases c3 : x2 = (0 : Int32)
    · replace hw := hw.1 c3
      refine lv_tableIn (x := x2) (off := 26) (tgt := 40) hx hb dX5_person_14 (by rw [c3]; decide) (by rw [c3]; decide) (by rw [c3]; rfl) (by decide) ?_
      refine lv_aload_n hx hb dX5_person_40 rfl (lv_at hl 0 rfl) ?_
      refine z_getr (C := RX5) (T := TX5) (N := 7) (ref := "GauntletHall") (o := 18) (d := 0) hx hb hts hfX5 hown hK hP (hC.2 (18, 0) (List.mem_of_getElem? (i := 12) rfl)) z_l_18_0 rfl 1 (by decide) (hts (.fieldLink RX5 19 "GauntletHall" "hall" "LGauntletHall$Hall;") (by decide +kernel)) rfl rfl dX5_person_41 ?_
      refine z_getr (C := RX1) (T := TX1) (N := 13) (ref := "GauntletHall$Hall") (o := 0) (d := 0) hx hb hts hfX1 hown hK hP (hC.1 0 (by decide) (0, 0) (List.mem_of_getElem? (i := 0) rfl)) (z_lH_0 (o := 0) (by decide)) rfl 4 (by decide) (hts (.fieldLink RX5 93 "GauntletHall$Hall" "hand" "[I") (by decide +kernel)) rfl rfl dX5_person_44 ?_
      refine lv_iload_n hx hb dX5_person_47 rfl (lv_at hl 1 rfl) ?_
      obtain ⟨i4, hw⟩ := hw
      refine z_iald (o := 0) (d := 4) hx hb hK hP (hC.1 0 (by decide) (0, 4) (List.mem_of_getElem? (i := 1) rfl)) (z_lH_4 (o := 0) (by decide)) i4 rfl dX5_person_48 ?_
      exact z_reti C hP hS ⟨rfl, hw⟩ dX5_person_49
    by_cases c5 : x2 = (1 : Int32)
    · replace hw := hw.2.1 c5
      refine lv_tableIn (x := x2) (off := 36) (tgt := 50) hx hb dX5_person_14 (by rw [c5]; decide) (by rw [c5]; decide) (by rw [c5]; rfl) (by decide) ?_
      refine lv_aload_n hx hb dX5_person_50 rfl (lv_at hl 0 rfl) ?_
      refine z_getr (C := RX5) (T := TX5) (N := 7) (ref := "GauntletHall") (o := 18) (d := 0) hx hb hts hfX5 hown hK hP (hC.2 (18, 0) (List.mem_of_getElem? (i := 12) rfl)) z_l_18_0 rfl 1 (by decide) (hts (.fieldLink RX5 19 "GauntletHall" "hall" "LGauntletHall$Hall;") (by decide +kernel)) rfl rfl dX5_person_51 ?_
      refine z_getr (C := RX1) (T := TX1) (N := 13) (ref := "GauntletHall$Hall") (o := 0) (d := 0) hx hb hts hfX1 hown hK hP (hC.1 0 (by decide) (0, 0) (List.mem_of_getElem? (i := 0) rfl)) (z_lH_0 (o := 0) (by decide)) rfl 5 (by decide) (hts (.fieldLink RX5 97 "GauntletHall$Hall" "might" "[I") (by decide +kernel)) rfl rfl dX5_person_54 ?_
      refine lv_iload_n hx hb dX5_person_57 rfl (lv_at hl 1 rfl) ?_
      obtain ⟨i6, hw⟩ := hw
      refine z_iald (o := 0) (d := 5) hx hb hK hP (hC.1 0 (by decide) (0, 5) (List.mem_of_getElem? (i := 2) rfl)) (z_lH_5 (o := 0) (by decide)) i6 rfl dX5_person_58 ?_
      exact z_reti C hP hS ⟨rfl, hw⟩ dX5_person_59
    by_cases c7 : x2 = (2 : Int32)
    · replace hw := hw.2.2.1 c7
      refine lv_tableIn (x := x2) (off := 46) (tgt := 60) hx hb dX5_person_14 (by rw [c7]; decide) (by rw [c7]; decide) (by rw [c7]; rfl) (by decide) ?_
      refine lv_aload_n hx hb dX5_person_60 rfl (lv_at hl 0 rfl) ?_
      refine z_getr (C := RX5) (T := TX5) (N := 7) (ref := "GauntletHall") (o := 18) (d := 0) hx hb hts hfX5 hown hK hP (hC.2 (18, 0) (List.mem_of_getElem? (i := 12) rfl)) z_l_18_0 rfl 1 (by decide) (hts (.fieldLink RX5 19 "GauntletHall" "hall" "LGauntletHall$Hall;") (by decide +kernel)) rfl rfl dX5_person_61 ?_
      refine z_getr (C := RX1) (T := TX1) (N := 13) (ref := "GauntletHall$Hall") (o := 0) (d := 0) hx hb hts hfX1 hown hK hP (hC.1 0 (by decide) (0, 0) (List.mem_of_getElem? (i := 0) rfl)) (z_lH_0 (o := 0) (by decide)) rfl 6 (by decide) (hts (.fieldLink RX5 100 "GauntletHall$Hall" "stoops" "[I") (by decide +kernel)) rfl rfl dX5_person_64 ?_
      refine lv_iload_n hx hb dX5_person_67 rfl (lv_at hl 1 rfl) ?_
      obtain ⟨i8, hw⟩ := hw
      refine z_iald (o := 0) (d := 6) hx hb hK hP (hC.1 0 (by decide) (0, 6) (List.mem_of_getElem? (i := 3) rfl)) (z_lH_6 (o := 0) (by decide)) i8 rfl dX5_person_68 ?_
      exact z_reti C hP hS ⟨rfl, hw⟩ dX5_person_69
    replace hw := hw.2.2.2 c3 c5 c7
    have hne : (x2).toInt < 0 ∨ 2 < (x2).toInt := by
      have n0 := lv_neT (a := 0) c3 rfl
      have n1 := lv_neT (a := 1) c5 rfl
      have n2 := lv_neT (a := 2) c7 rfl
      omega
    refine lv_tableOut (x := x2) (tgt := 70) hx hb dX5_person_14 hne (by decide) ?_
    refine lv_iconst (v := (-1 : Int32)) hx hb dX5_person_70 (by decide) ?_
    exact z_reti C hP hS ⟨rfl, hw⟩ dX5_person_71
  · replace hw := hw.2 c2
    refine lv_iconst (v := (-1 : Int32)) hx hb dX5_person_11 (by decide) ?_
    exact z_reti C hP hS ⟨rfl, hw⟩ dX5_person_12
set_option maxHeartbeats 4000000 in
set_option maxRecDepth 100000 in
theorem m_X5_ring_b19_s {p : Program} {l : Launch} {e : Env} {s : State} {m : MethodId} {args : Array Value} {below : List Frame} {meth : Method} {c : Code} {E : z_E} (C : z_Cx p E s m args meth c cX5_ring 4 wsX5_ring RX5 (some .int)) (hC : z_cls E) (Y : z_X) (K : Int32 → Prop) (L19 : Int32 → Int32 → Int32 → Prop) (k19 : ∀ (x1 : Int32) (x2 : Int32) (x3 : Int32), L19 x1 x2 x3 → ∀ {H : Heap} {locs : List Loc}, z_P E Y H → va_S (z_A E) s.heap H locs → ∀ (ls : Array Slot), lv_has ls 4 [(0, .ref (z_a E 18 0)), (1, .int x1), (2, .int x2), (3, .int x3)] → W p l e rX5_ring s m args below meth c H locs 0 0 (MQ below (va_Qi (fun r X' => X' = Y ∧ K r) (fun u t => z_P E u t.heap) (z_A E)) args s 0 0 (z_A E)) (F0 m 19 ls [])) (x1 : Int32) (x2 : Int32) (x3 : Int32) (hw : v_X5_ring_b19_s Y K L19 x1 x2 x3) {H : Heap} {locs : List Loc} (hP : z_P E Y H) (hS : va_S (z_A E) s.heap H locs) {ls : Array Slot} (hl : lv_has ls 4 [(0, .ref (z_a E 18 0)), (1, .int x1), (2, .int x2), (3, .int x3)]) : W p l e rX5_ring s m args below meth c H locs 0 0 (MQ below (va_Qi (fun r X' => X' = Y ∧ K r) (fun u t => z_P E u t.heap) (z_A E)) args s 0 0 (z_A E)) (F0 m 19 ls []) := by
  obtain ⟨hx, hb, hml, hr, hlocks, hown, hts, hK, hE⟩ := id C
  have hfX1 : ∀ w ∈ u_ws RX1 TX1 13, w ∈ wsX5_ring := by decide +kernel
  have hfX5 : ∀ w ∈ u_ws RX5 TX5 7, w ∈ wsX5_ring := by decide +kernel
  unfold v_X5_ring_b19_s at hw
  refine lv_iload_n hx hb dX5_ring_19 rfl (lv_at hl 3 rfl) ?_
  refine lv_aload_n hx hb dX5_ring_20 rfl (lv_at hl 0 rfl) ?_
  refine z_getr (C := RX5) (T := TX5) (N := 7) (ref := "GauntletHall") (o := 18) (d := 0) hx hb hts hfX5 hown hK hP (hC.2 (18, 0) (List.mem_of_getElem? (i := 12) rfl)) z_l_18_0 rfl 1 (by decide) (hts (.fieldLink RX5 19 "GauntletHall" "hall" "LGauntletHall$Hall;") (by decide +kernel)) rfl rfl dX5_ring_21 ?_
  refine z_geti (C := RX1) (T := TX1) (N := 13) (ref := "GauntletHall$Hall") (o := 0) (d := 0) hx hb hts hfX1 hown hK hP (hC.1 0 (by decide) (0, 0) (List.mem_of_getElem? (i := 0) rfl)) (z_lH_0 (o := 0) (by decide)) rfl 0 (by decide) (hts (.fieldLink RX5 79 "GauntletHall$Hall" "people" "I") (by decide +kernel)) rfl rfl rfl dX5_ring_24 ?_
  refine lv_icmp_gt (tgt := 56) hx hb dX5_ring_27 (by decide) (fun c4 => ?_) (fun c4 => ?_)
  · replace hw := hw.1 c4
    refine lv_bipush (v := (-4 : Int32)) hx hb dX5_ring_56 (by decide) ?_
    exact z_reti C hP hS ⟨rfl, hw⟩ dX5_ring_58
  · replace hw := hw.2 c4
    refine lv_aload_n hx hb dX5_ring_30 rfl (lv_at hl 0 rfl) ?_
    refine z_getr (C := RX5) (T := TX5) (N := 7) (ref := "GauntletHall") (o := 18) (d := 0) hx hb hts hfX5 hown hK hP (hC.2 (18, 0) (List.mem_of_getElem? (i := 12) rfl)) z_l_18_0 rfl 1 (by decide) (hts (.fieldLink RX5 19 "GauntletHall" "hall" "LGauntletHall$Hall;") (by decide +kernel)) rfl rfl dX5_ring_31 ?_
    refine lv_iload_n hx hb dX5_ring_34 rfl (lv_at hl 2 rfl) ?_
    have hPc := z_P_self 0 hP
    refine z_vi (C := RX1) (T := TX1) (N := 13) (o := 0) (rest := []) ⟨hx, hb, hml, hown, hts⟩ (m_X1_ownersWithin l hE hC 0 (by decide) Y (Y 0) x2 _ hw) (cwV 1 hts gX5_ring_X1_ownersWithin rfl rfl rfl (by decide +kernel) ⟨Nat.le_of_ble_eq_true rfl, Nat.le_of_ble_eq_true rfl⟩) hK hPc hS (hC.1 0 (by decide) (0, 0) (List.mem_of_getElem? (i := 0) rfl)) (z_lH_0 (o := 0) (by decide)) rfl rfl hl.1 rfl (Nat.le_of_ble_eq_true rfl) dX5_ring_35 ⟨Nat.zero_le _, Nat.zero_le _⟩ (fun r5 u H locs hk hP hS => ?_)
    obtain ⟨eu, hw⟩ := hk
    rw [eu, z_up_self] at hP
    refine lv_istore_n (lv' := [(2, .int r5), (0, .ref (z_a E 18 0)), (1, .int x1), (3, .int x3)]) hx hb dX5_ring_38 rfl hl (by decide) rfl (fun ls hl => ?_)
    refine lv_iload_n hx hb dX5_ring_39 rfl (lv_at hl 0 rfl) ?_
    refine lv_iload_n hx hb dX5_ring_40 rfl (lv_at hl 2 rfl) ?_
    refine lv_ishr hx hb dX5_ring_41 ?_
    refine lv_iconst (v := (1 : Int32)) hx hb dX5_ring_42 (by decide) ?_
    refine lv_iand hx hb dX5_ring_43 ?_
    refine lv_iconst (v := (1 : Int32)) hx hb dX5_ring_44 (by decide) ?_
    refine lv_icmp_ne (tgt := 50) hx hb dX5_ring_45 (by decide) (fun c6 => ?_) (fun c6 => ?_)
    · replace hw := hw.1 c6
      obtain ⟨y7, ey7⟩ : ∃ z : Int32, z = x3 + (1 : Int32) := ⟨_, rfl⟩
      replace hw := hw y7 ey7
      refine lv_iinc (v := y7) (lv' := [(3, .int y7), (2, .int r5), (0, .ref (z_a E 18 0)), (1, .int x1)]) hx hb dX5_ring_50 hl (k := 3) rfl (by rw [ey7]; rfl) (by decide) rfl (fun ls hl => ?_)
      refine lv_goto (tgt := 19) hx hb dX5_ring_53 (by decide) ?_
      exact k19 x1 r5 y7 hw hP hS _ (lv_sub hl [2, 3, 1, 0] rfl)
    · replace hw := hw.2 c6
      refine lv_iload_n hx hb dX5_ring_48 rfl (lv_at hl 3 rfl) ?_
      exact z_reti C hP hS ⟨rfl, hw⟩ dX5_ring_49
theorem m_X5_ring_b19 {p : Program} {l : Launch} {e : Env} {s : State} {m : MethodId} {args : Array Value} {below : List Frame} {meth : Method} {c : Code} {E : z_E} (C : z_Cx p E s m args meth c cX5_ring 4 wsX5_ring RX5 (some .int)) (hC : z_cls E) (Y : z_X) (K : Int32 → Prop) (x1 : Int32) (x2 : Int32) (x3 : Int32) (hw : v_X5_ring_b19 Y K x1 x2 x3) {H : Heap} {locs : List Loc} (hP : z_P E Y H) (hS : va_S (z_A E) s.heap H locs) {ls : Array Slot} (hl : lv_has ls 4 [(0, .ref (z_a E 18 0)), (1, .int x1), (2, .int x2), (3, .int x3)]) : W p l e rX5_ring s m args below meth c H locs 0 0 (MQ below (va_Qi (fun r X' => X' = Y ∧ K r) (fun u t => z_P E u t.heap) (z_A E)) args s 0 0 (z_A E)) (F0 m 19 ls []) := by
  obtain ⟨n, hw⟩ := hw
  revert hw hP hS hl
  revert x1 x2 x3 H locs ls
  induction n with
  | zero => intro x1 x2 x3 H locs ls hP hS hl hw; exact hw.elim
  | succ n ih =>
    intro x1 x2 x3 H locs ls hP hS hl hw
    exact m_X5_ring_b19_s C hC Y K (fun x1 x2 x3 => z_fp (σ := Int32 × Int32 × Int32) (fun Lp q => v_X5_ring_b19_s Y K (fun x1 x2 x3 => Lp (x1, x2, x3)) q.1 q.2.1 q.2.2) n (x1, x2, x3)) (fun x1 x2 x3 h9 H locs hP hS ls hl => ih x1 x2 x3 hP hS hl h9) x1 x2 x3 hw hP hS hl
set_option maxHeartbeats 4000000 in
set_option maxRecDepth 100000 in
theorem m_X5_ring (l : Launch) {E : z_E} (hE : z_ok E) (hC : z_cls E) (Y : z_X) (x1 : Int32) (K : Int32 → Prop) (hw : v_X5_ring Y x1 K) : z_CI l E yX5_ring wsX5_ring rX5_ring [.ref (z_a E 18 0), .int x1] Y (fun r X' => X' = Y ∧ K r) := by
  refine z_start (cc := cX5_ring) (maxL := 4) (ret := (some .int)) hE (by decide) rfl (Nat.le_of_ble_eq_true rfl) ?_
  intro p e s m below meth c C hP hS ls hl
  have C : z_Cx p E s m _ meth c cX5_ring 4 wsX5_ring RX5 (some .int) := C
  obtain ⟨hx, hb, hml, hr, hlocks, hown, hts, hK, hE⟩ := id C
  have hl : lv_has ls 4 [(0, .ref (z_a E 18 0)), (1, .int x1)] := hl
  have hfX1 : ∀ w ∈ u_ws RX1 TX1 13, w ∈ wsX5_ring := by decide +kernel
  have hfX5 : ∀ w ∈ u_ws RX5 TX5 7, w ∈ wsX5_ring := by decide +kernel
  unfold v_X5_ring at hw
  refine lv_aload_n hx hb dX5_ring_0 rfl (lv_at hl 0 rfl) ?_
  refine z_getr (C := RX5) (T := TX5) (N := 7) (ref := "GauntletHall") (o := 18) (d := 0) hx hb hts hfX5 hown hK hP (hC.2 (18, 0) (List.mem_of_getElem? (i := 12) rfl)) z_l_18_0 rfl 1 (by decide) (hts (.fieldLink RX5 19 "GauntletHall" "hall" "LGauntletHall$Hall;") (by decide +kernel)) rfl rfl dX5_ring_1 ?_
  refine lv_iload_n hx hb dX5_ring_4 rfl (lv_at hl 1 rfl) ?_
  have hPc := z_P_self 0 hP
  refine z_vi (C := RX1) (T := TX1) (N := 13) (o := 0) (rest := []) ⟨hx, hb, hml, hown, hts⟩ (m_X1_isPerson l hE hC 0 (by decide) Y (Y 0) x1 _ hw) (cwV 1 hts gX5_ring_X1_isPerson rfl rfl rfl (by decide +kernel) ⟨Nat.le_of_ble_eq_true rfl, Nat.le_of_ble_eq_true rfl⟩) hK hPc hS (hC.1 0 (by decide) (0, 0) (List.mem_of_getElem? (i := 0) rfl)) (z_lH_0 (o := 0) (by decide)) rfl rfl hl.1 rfl (Nat.le_of_ble_eq_true rfl) dX5_ring_5 ⟨Nat.zero_le _, Nat.zero_le _⟩ (fun r1 u H locs hk hP hS => ?_)
  obtain ⟨eu, hw⟩ := hk
  rw [eu, z_up_self] at hP
  refine lv_if_ne (tgt := 13) hx hb dX5_ring_8 (by decide) (fun c2 => ?_) (fun c2 => ?_)
  · replace hw := hw.1 c2
    refine lv_iconst (v := (1 : Int32)) hx hb dX5_ring_13 (by decide) ?_
    refine lv_iload_n hx hb dX5_ring_14 rfl (lv_at hl 1 rfl) ?_
    refine lv_ishl hx hb dX5_ring_15 ?_
    refine lv_topi (fun y3 ey3 => ?_)
    replace hw := hw y3 ey3
    refine lv_istore_n (lv' := [(2, .int y3), (0, .ref (z_a E 18 0)), (1, .int x1)]) hx hb dX5_ring_16 rfl hl (by decide) rfl (fun ls hl => ?_)
    refine lv_iconst (v := (1 : Int32)) hx hb dX5_ring_17 (by decide) ?_
    refine lv_istore_n (lv' := [(3, .int (1 : Int32)), (2, .int y3), (0, .ref (z_a E 18 0)), (1, .int x1)]) hx hb dX5_ring_18 rfl hl (by decide) rfl (fun ls hl => ?_)
    exact m_X5_ring_b19 C hC Y K x1 y3 (1 : Int32) hw hP hS (lv_sub hl [2, 3, 1, 0] rfl)
  · replace hw := hw.2 c2
    refine lv_iconst (v := (-1 : Int32)) hx hb dX5_ring_11 (by decide) ?_
    exact z_reti C hP hS ⟨rfl, hw⟩ dX5_ring_12
set_option maxHeartbeats 4000000 in
set_option maxRecDepth 100000 in
theorem m_X5_safe (l : Launch) {E : z_E} (hE : z_ok E) (hC : z_cls E) (Y : z_X) (x1 : Int32) (x2 : Int32) (x3 : Int32) (K : Int32 → z_X → Prop) (hw : v_X5_safe Y x1 x2 x3 K) : z_CI l E yX5_safe wsX5_safe rX5_safe [.ref (z_a E 18 0), .int x1, .int x2, .int x3] Y K := by
  refine z_start (cc := cX5_safe) (maxL := 5) (ret := (some .int)) hE (by decide) rfl (Nat.le_of_ble_eq_true rfl) ?_
  intro p e s m below meth c C hP hS ls hl
  have C : z_Cx p E s m _ meth c cX5_safe 5 wsX5_safe RX5 (some .int) := C
  obtain ⟨hx, hb, hml, hr, hlocks, hown, hts, hK, hE⟩ := id C
  have hl : lv_has ls 5 [(0, .ref (z_a E 18 0)), (1, .int x1), (2, .int x2), (3, .int x3)] := hl
  have hfX5 : ∀ w ∈ u_ws RX5 TX5 7, w ∈ wsX5_safe := by decide +kernel
  unfold v_X5_safe at hw
  refine lv_aload_n hx hb dX5_safe_0 rfl (lv_at hl 0 rfl) ?_
  refine z_getr (C := RX5) (T := TX5) (N := 7) (ref := "GauntletHall") (o := 18) (d := 0) hx hb hts hfX5 hown hK hP (hC.2 (18, 0) (List.mem_of_getElem? (i := 12) rfl)) z_l_18_0 rfl 1 (by decide) (hts (.fieldLink RX5 19 "GauntletHall" "hall" "LGauntletHall$Hall;") (by decide +kernel)) rfl rfl dX5_safe_1 ?_
  refine lv_iload_n hx hb dX5_safe_4 rfl (lv_at hl 1 rfl) ?_
  have hPc := z_P_self 0 hP
  refine z_vi (C := RX1) (T := TX1) (N := 13) (o := 0) (rest := []) ⟨hx, hb, hml, hown, hts⟩ (m_X1_isPerson l hE hC 0 (by decide) Y (Y 0) x1 _ hw) (cwV 1 hts gX5_safe_X1_isPerson rfl rfl rfl (by decide +kernel) ⟨Nat.le_of_ble_eq_true rfl, Nat.le_of_ble_eq_true rfl⟩) hK hPc hS (hC.1 0 (by decide) (0, 0) (List.mem_of_getElem? (i := 0) rfl)) (z_lH_0 (o := 0) (by decide)) rfl rfl hl.1 rfl (Nat.le_of_ble_eq_true rfl) dX5_safe_5 ⟨Nat.zero_le _, Nat.zero_le _⟩ (fun r1 u H locs hk hP hS => ?_)
  obtain ⟨eu, hw⟩ := hk
  rw [eu, z_up_self] at hP
  refine lv_if_eq (tgt := 30) hx hb dX5_safe_8 (by decide) (fun c2 => ?_) (fun c2 => ?_)
  · replace hw := hw.1 c2
    refine lv_iconst (v := (-1 : Int32)) hx hb dX5_safe_30 (by decide) ?_
    exact z_reti C hP hS hw dX5_safe_31
  · replace hw := hw.2 c2
    refine lv_iload_n hx hb dX5_safe_11 rfl (lv_at hl 2 rfl) ?_
    refine lv_iconst (v := (1 : Int32)) hx hb dX5_safe_12 (by decide) ?_
    refine lv_bipush (v := (30 : Int32)) hx hb dX5_safe_13 (by decide) ?_
    refine z_si (rest := []) ⟨hx, hb, hml, hown, hts⟩ (m_X5_within l hE Y x2 (1 : Int32) (30 : Int32) _ hw) (va_cwS 3 hts gX5_safe_X5_within rfl rfl rfl (by decide +kernel) ⟨Nat.le_of_ble_eq_true rfl, Nat.le_of_ble_eq_true rfl⟩) hK hP hS rfl hl.1 rfl (Nat.le_of_ble_eq_true rfl) dX5_safe_15 ⟨Nat.zero_le _, Nat.zero_le _⟩ (fun r3 u H locs hk hP hS => ?_)
    obtain ⟨eu, hw⟩ := hk
    rw [eu] at hP
    refine lv_if_eq (tgt := 30) hx hb dX5_safe_18 (by decide) (fun c4 => ?_) (fun c4 => ?_)
    · replace hw := hw.1 c4
      refine lv_iconst (v := (-1 : Int32)) hx hb dX5_safe_30 (by decide) ?_
      exact z_reti C hP hS hw dX5_safe_31
    · replace hw := hw.2 c4
      refine lv_iload_n hx hb dX5_safe_21 rfl (lv_at hl 3 rfl) ?_
      refine lv_iconst (v := (0 : Int32)) hx hb dX5_safe_22 (by decide) ?_
      refine lv_iconst (v := (1 : Int32)) hx hb dX5_safe_23 (by decide) ?_
      refine z_si (rest := []) ⟨hx, hb, hml, hown, hts⟩ (m_X5_within l hE Y x3 (0 : Int32) (1 : Int32) _ hw) (va_cwS 3 hts gX5_safe_X5_within rfl rfl rfl (by decide +kernel) ⟨Nat.le_of_ble_eq_true rfl, Nat.le_of_ble_eq_true rfl⟩) hK hP hS rfl hl.1 rfl (Nat.le_of_ble_eq_true rfl) dX5_safe_24 ⟨Nat.zero_le _, Nat.zero_le _⟩ (fun r5 u H locs hk hP hS => ?_)
      obtain ⟨eu, hw⟩ := hk
      rw [eu] at hP
      refine lv_if_ne (tgt := 32) hx hb dX5_safe_27 (by decide) (fun c6 => ?_) (fun c6 => ?_)
      · replace hw := hw.1 c6
        refine lv_aload_n hx hb dX5_safe_32 rfl (lv_at hl 0 rfl) ?_
        refine z_getr (C := RX5) (T := TX5) (N := 7) (ref := "GauntletHall") (o := 18) (d := 0) hx hb hts hfX5 hown hK hP (hC.2 (18, 0) (List.mem_of_getElem? (i := 12) rfl)) z_l_18_0 rfl 6 (by decide) (hts (.fieldLink RX5 48 "GauntletHall" "forecast" "LGauntletHall$Forecast;") (by decide +kernel)) rfl rfl dX5_safe_33 ?_
        refine lv_aload_n hx hb dX5_safe_36 rfl (lv_at hl 0 rfl) ?_
        refine z_getr (C := RX5) (T := TX5) (N := 7) (ref := "GauntletHall") (o := 18) (d := 0) hx hb hts hfX5 hown hK hP (hC.2 (18, 0) (List.mem_of_getElem? (i := 12) rfl)) z_l_18_0 rfl 1 (by decide) (hts (.fieldLink RX5 19 "GauntletHall" "hall" "LGauntletHall$Hall;") (by decide +kernel)) rfl rfl dX5_safe_37 ?_
        refine lv_iload_n hx hb dX5_safe_40 rfl (lv_at hl 1 rfl) ?_
        refine lv_iload_n hx hb dX5_safe_41 rfl (lv_at hl 2 rfl) ?_
        refine z_vi (C := RX0) (T := TX0) (N := 1) (o := 17) (rest := []) ⟨hx, hb, hml, hown, hts⟩ (m_X0_awayForSafety l hE hC 0 (by decide) Y x1 x2 _ hw) (cwV 3 hts gX5_safe_X0_awayForSafety rfl rfl rfl (by decide +kernel) ⟨Nat.le_of_ble_eq_true rfl, Nat.le_of_ble_eq_true rfl⟩) hK hP hS (hC.2 (17, 0) (List.mem_of_getElem? (i := 11) rfl)) z_l_17_0 rfl rfl hl.1 rfl (Nat.le_of_ble_eq_true rfl) dX5_safe_42 ⟨Nat.zero_le _, Nat.zero_le _⟩ (fun r7 Y8 H locs hk hP hS => ?_)
        replace hw := hk
        refine lv_istore (lv' := [(4, .int r7), (0, .ref (z_a E 18 0)), (1, .int x1), (2, .int x2), (3, .int x3)]) hx hb dX5_safe_45 hl (by decide) rfl (fun ls hl => ?_)
        refine lv_iload_n hx hb dX5_safe_47 rfl (lv_at hl 4 rfl) ?_
        refine lv_iconst (v := (1 : Int32)) hx hb dX5_safe_48 (by decide) ?_
        refine lv_icmp_eq (tgt := 59) hx hb dX5_safe_49 (by decide) (fun c9 => ?_) (fun c9 => ?_)
        · replace hw := hw.1 c9
          refine lv_iload hx hb dX5_safe_59 (lv_at hl 0 rfl) ?_
          refine lv_goto (tgt := 69) hx hb dX5_safe_61 (by decide) ?_
          exact z_reti C hP hS hw dX5_safe_69
        · replace hw := hw.2 c9
          refine lv_iload hx hb dX5_safe_52 (lv_at hl 0 rfl) ?_
          refine lv_bipush (v := (-4 : Int32)) hx hb dX5_safe_54 (by decide) ?_
          refine lv_icmp_ne (tgt := 64) hx hb dX5_safe_56 (by decide) (fun c10 => ?_) (fun c10 => ?_)
          · replace hw := hw.1 c10
            refine lv_iload hx hb dX5_safe_64 (lv_at hl 0 rfl) ?_
            refine z_si (rest := []) ⟨hx, hb, hml, hown, hts⟩ (m_J6_bitCount_0f7a4 l hE Y8 r7 _ hw) (va_cwS 1 hts gX5_safe_J6_bitCount_0f7a4 rfl rfl rfl (by decide +kernel) ⟨Nat.le_of_ble_eq_true rfl, Nat.le_of_ble_eq_true rfl⟩) hK hP hS rfl hl.1 rfl (Nat.le_of_ble_eq_true rfl) dX5_safe_66 ⟨Nat.zero_le _, Nat.zero_le _⟩ (fun r11 u H locs hk hP hS => ?_)
            obtain ⟨eu, hw⟩ := hk
            rw [eu] at hP
            exact z_reti C hP hS hw dX5_safe_69
          · replace hw := hw.2 c10
            refine lv_iload hx hb dX5_safe_59 (lv_at hl 0 rfl) ?_
            refine lv_goto (tgt := 69) hx hb dX5_safe_61 (by decide) ?_
            exact z_reti C hP hS hw dX5_safe_69
      · replace hw := hw.2 c6
        refine lv_iconst (v := (-1 : Int32)) hx hb dX5_safe_30 (by decide) ?_
        exact z_reti C hP hS hw dX5_safe_31
set_option maxHeartbeats 4000000 in
set_option maxRecDepth 100000 in
theorem m_X5_seen (l : Launch) {E : z_E} (hE : z_ok E) (hC : z_cls E) (Y : z_X) (x1 : Int32) (x2 : Int32) (x3 : Int32) (K : Int32 → z_X → Prop) (hw : v_X5_seen Y x1 x2 x3 K) : z_CI l E yX5_seen wsX5_seen rX5_seen [.ref (z_a E 18 0), .int x1, .int x2, .int x3] Y K := by
  refine z_start (cc := cX5_seen) (maxL := 4) (ret := (some .int)) hE (by decide) rfl (Nat.le_of_ble_eq_true rfl) ?_
  intro p e s m below meth c C hP hS ls hl
  have C : z_Cx p E s m _ meth c cX5_seen 4 wsX5_seen RX5 (some .int) := C
  obtain ⟨hx, hb, hml, hr, hlocks, hown, hts, hK, hE⟩ := id C
  have hl : lv_has ls 4 [(0, .ref (z_a E 18 0)), (1, .int x1), (2, .int x2), (3, .int x3)] := hl
  have hfX4 : ∀ w ∈ u_ws RX4 TX4 4, w ∈ wsX5_seen := by decide +kernel
  have hfX5 : ∀ w ∈ u_ws RX5 TX5 7, w ∈ wsX5_seen := by decide +kernel
  unfold v_X5_seen at hw
  refine lv_aload_n hx hb dX5_seen_0 rfl (lv_at hl 0 rfl) ?_
  refine z_getr (C := RX5) (T := TX5) (N := 7) (ref := "GauntletHall") (o := 18) (d := 0) hx hb hts hfX5 hown hK hP (hC.2 (18, 0) (List.mem_of_getElem? (i := 12) rfl)) z_l_18_0 rfl 1 (by decide) (hts (.fieldLink RX5 19 "GauntletHall" "hall" "LGauntletHall$Hall;") (by decide +kernel)) rfl rfl dX5_seen_1 ?_
  refine lv_iload_n hx hb dX5_seen_4 rfl (lv_at hl 1 rfl) ?_
  have hPc := z_P_self 0 hP
  refine z_vi (C := RX1) (T := TX1) (N := 13) (o := 0) (rest := []) ⟨hx, hb, hml, hown, hts⟩ (m_X1_isGlove l hE hC 0 (by decide) Y (Y 0) x1 _ hw) (cwV 1 hts gX5_seen_X1_isGlove rfl rfl rfl (by decide +kernel) ⟨Nat.le_of_ble_eq_true rfl, Nat.le_of_ble_eq_true rfl⟩) hK hPc hS (hC.1 0 (by decide) (0, 0) (List.mem_of_getElem? (i := 0) rfl)) (z_lH_0 (o := 0) (by decide)) rfl rfl hl.1 rfl (Nat.le_of_ble_eq_true rfl) dX5_seen_5 ⟨Nat.zero_le _, Nat.zero_le _⟩ (fun r1 u H locs hk hP hS => ?_)
  obtain ⟨eu, hw⟩ := hk
  rw [eu, z_up_self] at hP
  refine lv_if_eq (tgt := 31) hx hb dX5_seen_8 (by decide) (fun c2 => ?_) (fun c2 => ?_)
  · replace hw := hw.1 c2
    refine lv_iconst (v := (-1 : Int32)) hx hb dX5_seen_31 (by decide) ?_
    exact z_reti C hP hS hw dX5_seen_32
  · replace hw := hw.2 c2
    refine lv_aload_n hx hb dX5_seen_11 rfl (lv_at hl 0 rfl) ?_
    refine z_getr (C := RX5) (T := TX5) (N := 7) (ref := "GauntletHall") (o := 18) (d := 0) hx hb hts hfX5 hown hK hP (hC.2 (18, 0) (List.mem_of_getElem? (i := 12) rfl)) z_l_18_0 rfl 1 (by decide) (hts (.fieldLink RX5 19 "GauntletHall" "hall" "LGauntletHall$Hall;") (by decide +kernel)) rfl rfl dX5_seen_12 ?_
    refine lv_iload_n hx hb dX5_seen_15 rfl (lv_at hl 2 rfl) ?_
    have hPc := z_P_self 0 hP
    refine z_vi (C := RX1) (T := TX1) (N := 13) (o := 0) (rest := []) ⟨hx, hb, hml, hown, hts⟩ (m_X1_isPerson l hE hC 0 (by decide) Y (Y 0) x2 _ hw) (cwV 1 hts gX5_seen_X1_isPerson rfl rfl rfl (by decide +kernel) ⟨Nat.le_of_ble_eq_true rfl, Nat.le_of_ble_eq_true rfl⟩) hK hPc hS (hC.1 0 (by decide) (0, 0) (List.mem_of_getElem? (i := 0) rfl)) (z_lH_0 (o := 0) (by decide)) rfl rfl hl.1 rfl (Nat.le_of_ble_eq_true rfl) dX5_seen_16 ⟨Nat.zero_le _, Nat.zero_le _⟩ (fun r3 u H locs hk hP hS => ?_)
    obtain ⟨eu, hw⟩ := hk
    rw [eu, z_up_self] at hP
    refine lv_if_eq (tgt := 31) hx hb dX5_seen_19 (by decide) (fun c4 => ?_) (fun c4 => ?_)
    · replace hw := hw.1 c4
      refine lv_iconst (v := (-1 : Int32)) hx hb dX5_seen_31 (by decide) ?_
      exact z_reti C hP hS hw dX5_seen_32
    · replace hw := hw.2 c4
      refine lv_iload_n hx hb dX5_seen_22 rfl (lv_at hl 3 rfl) ?_
      refine lv_iconst (v := (0 : Int32)) hx hb dX5_seen_23 (by decide) ?_
      refine lv_iconst (v := (1 : Int32)) hx hb dX5_seen_24 (by decide) ?_
      refine z_si (rest := []) ⟨hx, hb, hml, hown, hts⟩ (m_X5_within l hE Y x3 (0 : Int32) (1 : Int32) _ hw) (va_cwS 3 hts gX5_seen_X5_within rfl rfl rfl (by decide +kernel) ⟨Nat.le_of_ble_eq_true rfl, Nat.le_of_ble_eq_true rfl⟩) hK hP hS rfl hl.1 rfl (Nat.le_of_ble_eq_true rfl) dX5_seen_25 ⟨Nat.zero_le _, Nat.zero_le _⟩ (fun r5 u H locs hk hP hS => ?_)
      obtain ⟨eu, hw⟩ := hk
      rw [eu] at hP
      refine lv_if_ne (tgt := 33) hx hb dX5_seen_28 (by decide) (fun c6 => ?_) (fun c6 => ?_)
      · replace hw := hw.1 c6
        refine lv_aload_n hx hb dX5_seen_33 rfl (lv_at hl 0 rfl) ?_
        refine z_getr (C := RX5) (T := TX5) (N := 7) (ref := "GauntletHall") (o := 18) (d := 0) hx hb hts hfX5 hown hK hP (hC.2 (18, 0) (List.mem_of_getElem? (i := 12) rfl)) z_l_18_0 rfl 5 (by decide) (hts (.fieldLink RX5 41 "GauntletHall" "sightings" "LGauntletHall$Sightings;") (by decide +kernel)) rfl rfl dX5_seen_34 ?_
        refine lv_iload_n hx hb dX5_seen_37 rfl (lv_at hl 1 rfl) ?_
        refine lv_iload_n hx hb dX5_seen_38 rfl (lv_at hl 2 rfl) ?_
        refine lv_iload_n hx hb dX5_seen_39 rfl (lv_at hl 3 rfl) ?_
        have hPc := z_P_self 16 hP
        refine z_vi (C := RX4) (T := TX4) (N := 4) (o := 16) (rest := []) ⟨hx, hb, hml, hown, hts⟩ (m_X4_add l hE hC Y (Y 16) x1 x2 x3 _ hw) (cwV 3 hts gX5_seen_X4_add rfl rfl rfl (by decide +kernel) ⟨Nat.le_of_ble_eq_true rfl, Nat.le_of_ble_eq_true rfl⟩) hK hPc hS (hC.2 (16, 0) (List.mem_of_getElem? (i := 7) rfl)) z_l_16_0 rfl rfl hl.1 rfl (Nat.le_of_ble_eq_true rfl) dX5_seen_40 ⟨Nat.zero_le _, Nat.zero_le _⟩ (fun r7 u H locs hk hP hS => ?_)
        obtain ⟨h8, eu, hw⟩ := hk
        rw [eu] at hP
        obtain ⟨Y9, eY9⟩ : ∃ z : z_X, z = z_up Y 16 h8 := ⟨_, rfl⟩
        replace hw := hw Y9 eY9
        rw [← eY9] at hP
        refine lv_if_eq (tgt := 56) hx hb dX5_seen_43 (by decide) (fun c10 => ?_) (fun c10 => ?_)
        · replace hw := hw.1 c10
          refine lv_bipush (v := (-3 : Int32)) hx hb dX5_seen_56 (by decide) ?_
          exact z_reti C hP hS hw dX5_seen_58
        · replace hw := hw.2 c10
          refine lv_aload_n hx hb dX5_seen_46 rfl (lv_at hl 0 rfl) ?_
          refine z_getr (C := RX5) (T := TX5) (N := 7) (ref := "GauntletHall") (o := 18) (d := 0) hx hb hts hfX5 hown hK hP (hC.2 (18, 0) (List.mem_of_getElem? (i := 12) rfl)) z_l_18_0 rfl 5 (by decide) (hts (.fieldLink RX5 41 "GauntletHall" "sightings" "LGauntletHall$Sightings;") (by decide +kernel)) rfl rfl dX5_seen_47 ?_
          refine z_geti (C := RX4) (T := TX4) (N := 4) (ref := "GauntletHall$Sightings") (o := 16) (d := 0) hx hb hts hfX4 hown hK hP (hC.2 (16, 0) (List.mem_of_getElem? (i := 7) rfl)) z_l_16_0 rfl 0 (by decide) (hts (.fieldLink RX5 89 "GauntletHall$Sightings" "count" "I") (by decide +kernel)) rfl rfl rfl dX5_seen_50 ?_
          refine lv_goto (tgt := 58) hx hb dX5_seen_53 (by decide) ?_
          exact z_reti C hP hS hw dX5_seen_58
      · replace hw := hw.2 c6
        refine lv_iconst (v := (-1 : Int32)) hx hb dX5_seen_31 (by decide) ?_
        exact z_reti C hP hS hw dX5_seen_32
