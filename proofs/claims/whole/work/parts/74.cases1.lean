/-! ===== THE LAW: its cases (printed by wip/whole/gen/law.py) ===== -/
set_option maxHeartbeats 4000000 in
set_option maxRecDepth 100000 in
theorem q_last {p : Program} (l : Launch) {e : Env} {s : State} {m : MethodId} {below : List Frame} {meth : Method} {c : Code} {E : z_E} {A : Nat → Prop} {b L i : Nat} {xs : Nat → Int32} (C : lw_Cx p s m c b L xs E A) (hL : L ≤ 256) (hi : i + 4 ≤ L) {Q : State → Prop} {ls : Array Slot} (kk : ∀ (X : z_X) (H : Heap) (locs : List Loc), RLE X → z_P E X H → va_S A s.heap H locs → W p l e room_1 s m #[Value.ref b] below meth c H locs 154 2088 Q (F0 m 1005 ls [])) {X : z_X} {H : Heap} {locs : List Loc} (hR : RLE X) (hP : z_P E X H) (hS : va_S A s.heap H locs) (hl : lv_has ls 4 (lw_L E b i)) : W p l e room_1 s m #[Value.ref b] below meth c H locs 154 2088 Q (F0 m 580 ls []) := by
  obtain ⟨hx, hb, hml, hown, hts, hX, hbl, hbA, hK, hE, hC, hM, hsub⟩ := id C
  obtain ⟨n, k, R⟩ := hR
  refine lv_aload_n hx hb dL_law_580 rfl (lv_at hl 1 rfl) ?_
  refine y_vi (C := RX5) (T := TX5) (N := 7) (o := 18) (As := []) (rest := []) ⟨hx, hb, hml, hown, hts⟩ (m_X5_last l hE hC X  _ (t_last R )) (cwV 0 hts gL_law_X5_last rfl rfl rfl (by decide +kernel) ⟨Nat.le_of_ble_eq_true rfl, Nat.le_of_ble_eq_true rfl⟩) hK hP hsub hS (hC.2 (18, 0) (List.mem_of_getElem? (i := 12) rfl)) z_l_18_0 rfl rfl hl.1 rfl (Nat.le_of_ble_eq_true rfl) dL_law_581 ⟨Nat.le_of_ble_eq_true rfl, Nat.le_of_ble_eq_true rfl⟩ (fun r u H locs hk hP hS => ?_)
  refine lv_aload_n hx hb dL_law_584 rfl (lv_at hl 2 rfl) ?_
  refine y_vi (C := RX6) (T := TX6) (N := 15) (o := 19) (As := []) (rest := [.int r]) ⟨hx, hb, hml, hown, hts⟩ (m_X6_last l hE hM u (u 19)  _ hk) (cwV 0 hts gL_law_X6_last rfl rfl rfl (by decide +kernel) ⟨Nat.le_of_ble_eq_true rfl, Nat.le_of_ble_eq_true rfl⟩) hK (z_P_self 19 hP) hsub hS (hM (19, 0) (List.mem_of_getElem? (i := 0) rfl)) z_l_19_0 rfl rfl hl.1 rfl (Nat.le_of_ble_eq_true rfl) dL_law_585 ⟨Nat.le_of_ble_eq_true rfl, Nat.le_of_ble_eq_true rfl⟩ (fun r2 u2 H locs hk hP hS => ?_)
  obtain ⟨h', ev, er, hR⟩ := hk
  rw [ev] at hP
  exact lv_icmp_eq (tgt := 1005) hx hb dL_law_588 (by decide) (fun _ => kk _ _ _ hR hP hS) (fun c9 => absurd er c9)
set_option maxHeartbeats 4000000 in
set_option maxRecDepth 100000 in
theorem q_safe {p : Program} (l : Launch) {e : Env} {s : State} {m : MethodId} {below : List Frame} {meth : Method} {c : Code} {E : z_E} {A : Nat → Prop} {b L i : Nat} {xs : Nat → Int32} (C : lw_Cx p s m c b L xs E A) (hL : L ≤ 256) (hi : i + 4 ≤ L) {Q : State → Prop} {ls : Array Slot} (kk : ∀ (X : z_X) (H : Heap) (locs : List Loc), RLE X → z_P E X H → va_S A s.heap H locs → W p l e room_1 s m #[Value.ref b] below meth c H locs 154 2088 Q (F0 m 1005 ls [])) {X : z_X} {H : Heap} {locs : List Loc} (hR : RLE X) (hP : z_P E X H) (hS : va_S A s.heap H locs) (hl : lv_has ls 4 (lw_L E b i)) : W p l e room_1 s m #[Value.ref b] below meth c H locs 154 2088 Q (F0 m 593 ls []) := by
  obtain ⟨hx, hb, hml, hown, hts, hX, hbl, hbA, hK, hE, hC, hM, hsub⟩ := id C
  obtain ⟨n, k, R⟩ := hR
  refine lv_aload_n hx hb dL_law_593 rfl (lv_at hl 1 rfl) ?_
  refine lw_arg C hL hi hS hl (k := 1) (by decide) rfl dL_law_594 dL_law_595 dL_law_596 dL_law_597 dL_law_598 ?_
  refine lw_arg C hL hi hS hl (k := 2) (by decide) rfl dL_law_599 dL_law_600 dL_law_601 dL_law_602 dL_law_603 ?_
  refine lw_arg C hL hi hS hl (k := 3) (by decide) rfl dL_law_604 dL_law_605 dL_law_606 dL_law_607 dL_law_608 ?_
  refine y_vi (C := RX5) (T := TX5) (N := 7) (o := 18) (As := [.int (xs (i + 1)), .int (xs (i + 2)), .int (xs (i + 3))]) (rest := []) ⟨hx, hb, hml, hown, hts⟩ (m_X5_safe l hE hC X (xs (i + 1)) (xs (i + 2)) (xs (i + 3)) _ (t_safe R (xs (i + 1)) (xs (i + 2)) (xs (i + 3)))) (cwV 3 hts gL_law_X5_safe rfl rfl rfl (by decide +kernel) ⟨Nat.le_of_ble_eq_true rfl, Nat.le_of_ble_eq_true rfl⟩) hK hP hsub hS (hC.2 (18, 0) (List.mem_of_getElem? (i := 12) rfl)) z_l_18_0 rfl rfl hl.1 rfl (Nat.le_of_ble_eq_true rfl) dL_law_609 ⟨Nat.le_of_ble_eq_true rfl, Nat.le_of_ble_eq_true rfl⟩ (fun r u H locs hk hP hS => ?_)
  refine lv_aload_n hx hb dL_law_612 rfl (lv_at hl 2 rfl) ?_
  refine lw_arg C hL hi hS hl (k := 1) (by decide) rfl dL_law_613 dL_law_614 dL_law_615 dL_law_616 dL_law_617 ?_
  refine lw_arg C hL hi hS hl (k := 2) (by decide) rfl dL_law_618 dL_law_619 dL_law_620 dL_law_621 dL_law_622 ?_
  refine lw_arg C hL hi hS hl (k := 3) (by decide) rfl dL_law_623 dL_law_624 dL_law_625 dL_law_626 dL_law_627 ?_
  refine y_vi (C := RX6) (T := TX6) (N := 15) (o := 19) (As := [.int (xs (i + 1)), .int (xs (i + 2)), .int (xs (i + 3))]) (rest := [.int r]) ⟨hx, hb, hml, hown, hts⟩ (m_X6_safe l hE hM u (u 19) (xs (i + 1)) (xs (i + 2)) (xs (i + 3)) _ hk) (cwV 3 hts gL_law_X6_safe rfl rfl rfl (by decide +kernel) ⟨Nat.le_of_ble_eq_true rfl, Nat.le_of_ble_eq_true rfl⟩) hK (z_P_self 19 hP) hsub hS (hM (19, 0) (List.mem_of_getElem? (i := 0) rfl)) z_l_19_0 rfl rfl hl.1 rfl (Nat.le_of_ble_eq_true rfl) dL_law_628 ⟨Nat.le_of_ble_eq_true rfl, Nat.le_of_ble_eq_true rfl⟩ (fun r2 u2 H locs hk hP hS => ?_)
  obtain ⟨h', ev, er, hR⟩ := hk
  rw [ev] at hP
  exact lv_icmp_eq (tgt := 1005) hx hb dL_law_631 (by decide) (fun _ => kk _ _ _ hR hP hS) (fun c9 => absurd er c9)
set_option maxHeartbeats 4000000 in
set_option maxRecDepth 100000 in
theorem q_dare {p : Program} (l : Launch) {e : Env} {s : State} {m : MethodId} {below : List Frame} {meth : Method} {c : Code} {E : z_E} {A : Nat → Prop} {b L i : Nat} {xs : Nat → Int32} (C : lw_Cx p s m c b L xs E A) (hL : L ≤ 256) (hi : i + 4 ≤ L) {Q : State → Prop} {ls : Array Slot} (kk : ∀ (X : z_X) (H : Heap) (locs : List Loc), RLE X → z_P E X H → va_S A s.heap H locs → W p l e room_1 s m #[Value.ref b] below meth c H locs 154 2088 Q (F0 m 1005 ls [])) {X : z_X} {H : Heap} {locs : List Loc} (hR : RLE X) (hP : z_P E X H) (hS : va_S A s.heap H locs) (hl : lv_has ls 4 (lw_L E b i)) : W p l e room_1 s m #[Value.ref b] below meth c H locs 154 2088 Q (F0 m 636 ls []) := by
  obtain ⟨hx, hb, hml, hown, hts, hX, hbl, hbA, hK, hE, hC, hM, hsub⟩ := id C
  obtain ⟨n, k, R⟩ := hR
  refine lv_aload_n hx hb dL_law_636 rfl (lv_at hl 1 rfl) ?_
  refine lw_arg C hL hi hS hl (k := 1) (by decide) rfl dL_law_637 dL_law_638 dL_law_639 dL_law_640 dL_law_641 ?_
  refine lw_arg C hL hi hS hl (k := 2) (by decide) rfl dL_law_642 dL_law_643 dL_law_644 dL_law_645 dL_law_646 ?_
  refine y_vi (C := RX5) (T := TX5) (N := 7) (o := 18) (As := [.int (xs (i + 1)), .int (xs (i + 2))]) (rest := []) ⟨hx, hb, hml, hown, hts⟩ (m_X5_dare l hE hC X (xs (i + 1)) (xs (i + 2)) _ (t_dare R (xs (i + 1)) (xs (i + 2)))) (cwV 2 hts gL_law_X5_dare rfl rfl rfl (by decide +kernel) ⟨Nat.le_of_ble_eq_true rfl, Nat.le_of_ble_eq_true rfl⟩) hK hP hsub hS (hC.2 (18, 0) (List.mem_of_getElem? (i := 12) rfl)) z_l_18_0 rfl rfl hl.1 rfl (Nat.le_of_ble_eq_true rfl) dL_law_647 ⟨Nat.le_of_ble_eq_true rfl, Nat.le_of_ble_eq_true rfl⟩ (fun r u H locs hk hP hS => ?_)
  refine lv_aload_n hx hb dL_law_650 rfl (lv_at hl 2 rfl) ?_
  refine lw_arg C hL hi hS hl (k := 1) (by decide) rfl dL_law_651 dL_law_652 dL_law_653 dL_law_654 dL_law_655 ?_
  refine lw_arg C hL hi hS hl (k := 2) (by decide) rfl dL_law_656 dL_law_657 dL_law_658 dL_law_659 dL_law_660 ?_
  refine y_vi (C := RX6) (T := TX6) (N := 15) (o := 19) (As := [.int (xs (i + 1)), .int (xs (i + 2))]) (rest := [.int r]) ⟨hx, hb, hml, hown, hts⟩ (m_X6_dare l hE hM u (u 19) (xs (i + 1)) (xs (i + 2)) _ hk) (cwV 2 hts gL_law_X6_dare rfl rfl rfl (by decide +kernel) ⟨Nat.le_of_ble_eq_true rfl, Nat.le_of_ble_eq_true rfl⟩) hK (z_P_self 19 hP) hsub hS (hM (19, 0) (List.mem_of_getElem? (i := 0) rfl)) z_l_19_0 rfl rfl hl.1 rfl (Nat.le_of_ble_eq_true rfl) dL_law_661 ⟨Nat.le_of_ble_eq_true rfl, Nat.le_of_ble_eq_true rfl⟩ (fun r2 u2 H locs hk hP hS => ?_)
  obtain ⟨h', ev, er, hR⟩ := hk
  rw [ev] at hP
  exact lv_icmp_eq (tgt := 1005) hx hb dL_law_664 (by decide) (fun _ => kk _ _ _ hR hP hS) (fun c9 => absurd er c9)
set_option maxHeartbeats 4000000 in
set_option maxRecDepth 100000 in
theorem q_first {p : Program} (l : Launch) {e : Env} {s : State} {m : MethodId} {below : List Frame} {meth : Method} {c : Code} {E : z_E} {A : Nat → Prop} {b L i : Nat} {xs : Nat → Int32} (C : lw_Cx p s m c b L xs E A) (hL : L ≤ 256) (hi : i + 4 ≤ L) {Q : State → Prop} {ls : Array Slot} (kk : ∀ (X : z_X) (H : Heap) (locs : List Loc), RLE X → z_P E X H → va_S A s.heap H locs → W p l e room_1 s m #[Value.ref b] below meth c H locs 154 2088 Q (F0 m 1005 ls [])) {X : z_X} {H : Heap} {locs : List Loc} (hR : RLE X) (hP : z_P E X H) (hS : va_S A s.heap H locs) (hl : lv_has ls 4 (lw_L E b i)) : W p l e room_1 s m #[Value.ref b] below meth c H locs 154 2088 Q (F0 m 669 ls []) := by
  obtain ⟨hx, hb, hml, hown, hts, hX, hbl, hbA, hK, hE, hC, hM, hsub⟩ := id C
  obtain ⟨n, k, R⟩ := hR
  refine lv_aload_n hx hb dL_law_669 rfl (lv_at hl 1 rfl) ?_
  refine lw_arg C hL hi hS hl (k := 1) (by decide) rfl dL_law_670 dL_law_671 dL_law_672 dL_law_673 dL_law_674 ?_
  refine lw_arg C hL hi hS hl (k := 2) (by decide) rfl dL_law_675 dL_law_676 dL_law_677 dL_law_678 dL_law_679 ?_
  refine y_vi (C := RX5) (T := TX5) (N := 7) (o := 18) (As := [.int (xs (i + 1)), .int (xs (i + 2))]) (rest := []) ⟨hx, hb, hml, hown, hts⟩ (m_X5_first l hE hC X (xs (i + 1)) (xs (i + 2)) _ (t_first R (xs (i + 1)) (xs (i + 2)))) (cwV 2 hts gL_law_X5_first rfl rfl rfl (by decide +kernel) ⟨Nat.le_of_ble_eq_true rfl, Nat.le_of_ble_eq_true rfl⟩) hK hP hsub hS (hC.2 (18, 0) (List.mem_of_getElem? (i := 12) rfl)) z_l_18_0 rfl rfl hl.1 rfl (Nat.le_of_ble_eq_true rfl) dL_law_680 ⟨Nat.le_of_ble_eq_true rfl, Nat.le_of_ble_eq_true rfl⟩ (fun r u H locs hk hP hS => ?_)
  obtain ⟨eu, hk⟩ := hk
  rw [eu] at hP
  refine lv_aload_n hx hb dL_law_683 rfl (lv_at hl 2 rfl) ?_
  refine lw_arg C hL hi hS hl (k := 1) (by decide) rfl dL_law_684 dL_law_685 dL_law_686 dL_law_687 dL_law_688 ?_
  refine lw_arg C hL hi hS hl (k := 2) (by decide) rfl dL_law_689 dL_law_690 dL_law_691 dL_law_692 dL_law_693 ?_
  refine y_vi (C := RX6) (T := TX6) (N := 15) (o := 19) (As := [.int (xs (i + 1)), .int (xs (i + 2))]) (rest := [.int r]) ⟨hx, hb, hml, hown, hts⟩ (m_X6_first l hE hM X (X 19) (xs (i + 1)) (xs (i + 2)) _ hk) (cwV 2 hts gL_law_X6_first rfl rfl rfl (by decide +kernel) ⟨Nat.le_of_ble_eq_true rfl, Nat.le_of_ble_eq_true rfl⟩) hK (z_P_self 19 hP) hsub hS (hM (19, 0) (List.mem_of_getElem? (i := 0) rfl)) z_l_19_0 rfl rfl hl.1 rfl (Nat.le_of_ble_eq_true rfl) dL_law_694 ⟨Nat.le_of_ble_eq_true rfl, Nat.le_of_ble_eq_true rfl⟩ (fun r2 u2 H locs hk hP hS => ?_)
  obtain ⟨h', ev, er, hR⟩ := hk
  rw [ev] at hP
  exact lv_icmp_eq (tgt := 1005) hx hb dL_law_697 (by decide) (fun _ => kk _ _ _ hR hP hS) (fun c9 => absurd er c9)
set_option maxHeartbeats 4000000 in
set_option maxRecDepth 100000 in
theorem q_ring {p : Program} (l : Launch) {e : Env} {s : State} {m : MethodId} {below : List Frame} {meth : Method} {c : Code} {E : z_E} {A : Nat → Prop} {b L i : Nat} {xs : Nat → Int32} (C : lw_Cx p s m c b L xs E A) (hL : L ≤ 256) (hi : i + 4 ≤ L) {Q : State → Prop} {ls : Array Slot} (kk : ∀ (X : z_X) (H : Heap) (locs : List Loc), RLE X → z_P E X H → va_S A s.heap H locs → W p l e room_1 s m #[Value.ref b] below meth c H locs 154 2088 Q (F0 m 1005 ls [])) {X : z_X} {H : Heap} {locs : List Loc} (hR : RLE X) (hP : z_P E X H) (hS : va_S A s.heap H locs) (hl : lv_has ls 4 (lw_L E b i)) : W p l e room_1 s m #[Value.ref b] below meth c H locs 154 2088 Q (F0 m 702 ls []) := by
  obtain ⟨hx, hb, hml, hown, hts, hX, hbl, hbA, hK, hE, hC, hM, hsub⟩ := id C
  obtain ⟨n, k, R⟩ := hR
  refine lv_aload_n hx hb dL_law_702 rfl (lv_at hl 1 rfl) ?_
  refine lw_arg C hL hi hS hl (k := 1) (by decide) rfl dL_law_703 dL_law_704 dL_law_705 dL_law_706 dL_law_707 ?_
  refine y_vi (C := RX5) (T := TX5) (N := 7) (o := 18) (As := [.int (xs (i + 1))]) (rest := []) ⟨hx, hb, hml, hown, hts⟩ (m_X5_ring l hE hC X (xs (i + 1)) _ (t_ring R (xs (i + 1)))) (cwV 1 hts gL_law_X5_ring rfl rfl rfl (by decide +kernel) ⟨Nat.le_of_ble_eq_true rfl, Nat.le_of_ble_eq_true rfl⟩) hK hP hsub hS (hC.2 (18, 0) (List.mem_of_getElem? (i := 12) rfl)) z_l_18_0 rfl rfl hl.1 rfl (Nat.le_of_ble_eq_true rfl) dL_law_708 ⟨Nat.le_of_ble_eq_true rfl, Nat.le_of_ble_eq_true rfl⟩ (fun r u H locs hk hP hS => ?_)
  obtain ⟨eu, hk⟩ := hk
  rw [eu] at hP
  refine lv_aload_n hx hb dL_law_711 rfl (lv_at hl 2 rfl) ?_
  refine lw_arg C hL hi hS hl (k := 1) (by decide) rfl dL_law_712 dL_law_713 dL_law_714 dL_law_715 dL_law_716 ?_
  refine y_vi (C := RX6) (T := TX6) (N := 15) (o := 19) (As := [.int (xs (i + 1))]) (rest := [.int r]) ⟨hx, hb, hml, hown, hts⟩ (m_X6_ring l hE hM X (X 19) (xs (i + 1)) _ hk) (cwV 1 hts gL_law_X6_ring rfl rfl rfl (by decide +kernel) ⟨Nat.le_of_ble_eq_true rfl, Nat.le_of_ble_eq_true rfl⟩) hK (z_P_self 19 hP) hsub hS (hM (19, 0) (List.mem_of_getElem? (i := 0) rfl)) z_l_19_0 rfl rfl hl.1 rfl (Nat.le_of_ble_eq_true rfl) dL_law_717 ⟨Nat.le_of_ble_eq_true rfl, Nat.le_of_ble_eq_true rfl⟩ (fun r2 u2 H locs hk hP hS => ?_)
  obtain ⟨h', ev, er, hR⟩ := hk
  rw [ev] at hP
  exact lv_icmp_eq (tgt := 1005) hx hb dL_law_720 (by decide) (fun _ => kk _ _ _ hR hP hS) (fun c9 => absurd er c9)
set_option maxHeartbeats 4000000 in
set_option maxRecDepth 100000 in
theorem q_seen {p : Program} (l : Launch) {e : Env} {s : State} {m : MethodId} {below : List Frame} {meth : Method} {c : Code} {E : z_E} {A : Nat → Prop} {b L i : Nat} {xs : Nat → Int32} (C : lw_Cx p s m c b L xs E A) (hL : L ≤ 256) (hi : i + 4 ≤ L) {Q : State → Prop} {ls : Array Slot} (kk : ∀ (X : z_X) (H : Heap) (locs : List Loc), RLE X → z_P E X H → va_S A s.heap H locs → W p l e room_1 s m #[Value.ref b] below meth c H locs 154 2088 Q (F0 m 1005 ls [])) {X : z_X} {H : Heap} {locs : List Loc} (hR : RLE X) (hP : z_P E X H) (hS : va_S A s.heap H locs) (hl : lv_has ls 4 (lw_L E b i)) : W p l e room_1 s m #[Value.ref b] below meth c H locs 154 2088 Q (F0 m 725 ls []) := by
  obtain ⟨hx, hb, hml, hown, hts, hX, hbl, hbA, hK, hE, hC, hM, hsub⟩ := id C
  obtain ⟨n, k, R⟩ := hR
  refine lv_aload_n hx hb dL_law_725 rfl (lv_at hl 1 rfl) ?_
  refine lw_arg C hL hi hS hl (k := 1) (by decide) rfl dL_law_726 dL_law_727 dL_law_728 dL_law_729 dL_law_730 ?_
  refine lw_arg C hL hi hS hl (k := 2) (by decide) rfl dL_law_731 dL_law_732 dL_law_733 dL_law_734 dL_law_735 ?_
  refine lw_arg C hL hi hS hl (k := 3) (by decide) rfl dL_law_736 dL_law_737 dL_law_738 dL_law_739 dL_law_740 ?_
  refine y_vi (C := RX5) (T := TX5) (N := 7) (o := 18) (As := [.int (xs (i + 1)), .int (xs (i + 2)), .int (xs (i + 3))]) (rest := []) ⟨hx, hb, hml, hown, hts⟩ (m_X5_seen l hE hC X (xs (i + 1)) (xs (i + 2)) (xs (i + 3)) _ (t_seen R (xs (i + 1)) (xs (i + 2)) (xs (i + 3)))) (cwV 3 hts gL_law_X5_seen rfl rfl rfl (by decide +kernel) ⟨Nat.le_of_ble_eq_true rfl, Nat.le_of_ble_eq_true rfl⟩) hK hP hsub hS (hC.2 (18, 0) (List.mem_of_getElem? (i := 12) rfl)) z_l_18_0 rfl rfl hl.1 rfl (Nat.le_of_ble_eq_true rfl) dL_law_741 ⟨Nat.le_of_ble_eq_true rfl, Nat.le_of_ble_eq_true rfl⟩ (fun r u H locs hk hP hS => ?_)
  refine lv_aload_n hx hb dL_law_744 rfl (lv_at hl 2 rfl) ?_
  refine lw_arg C hL hi hS hl (k := 1) (by decide) rfl dL_law_745 dL_law_746 dL_law_747 dL_law_748 dL_law_749 ?_
  refine lw_arg C hL hi hS hl (k := 2) (by decide) rfl dL_law_750 dL_law_751 dL_law_752 dL_law_753 dL_law_754 ?_
  refine lw_arg C hL hi hS hl (k := 3) (by decide) rfl dL_law_755 dL_law_756 dL_law_757 dL_law_758 dL_law_759 ?_
  refine y_vi (C := RX6) (T := TX6) (N := 15) (o := 19) (As := [.int (xs (i + 1)), .int (xs (i + 2)), .int (xs (i + 3))]) (rest := [.int r]) ⟨hx, hb, hml, hown, hts⟩ (m_X6_seen l hE hM u (u 19) (xs (i + 1)) (xs (i + 2)) (xs (i + 3)) _ hk) (cwV 3 hts gL_law_X6_seen rfl rfl rfl (by decide +kernel) ⟨Nat.le_of_ble_eq_true rfl, Nat.le_of_ble_eq_true rfl⟩) hK (z_P_self 19 hP) hsub hS (hM (19, 0) (List.mem_of_getElem? (i := 0) rfl)) z_l_19_0 rfl rfl hl.1 rfl (Nat.le_of_ble_eq_true rfl) dL_law_760 ⟨Nat.le_of_ble_eq_true rfl, Nat.le_of_ble_eq_true rfl⟩ (fun r2 u2 H locs hk hP hS => ?_)
  obtain ⟨h', ev, er, hR⟩ := hk
  rw [ev] at hP
  exact lv_icmp_eq (tgt := 1005) hx hb dL_law_763 (by decide) (fun _ => kk _ _ _ hR hP hS) (fun c9 => absurd er c9)
set_option maxHeartbeats 4000000 in
set_option maxRecDepth 100000 in
theorem q_forget {p : Program} (l : Launch) {e : Env} {s : State} {m : MethodId} {below : List Frame} {meth : Method} {c : Code} {E : z_E} {A : Nat → Prop} {b L i : Nat} {xs : Nat → Int32} (C : lw_Cx p s m c b L xs E A) (hL : L ≤ 256) (hi : i + 4 ≤ L) {Q : State → Prop} {ls : Array Slot} (kk : ∀ (X : z_X) (H : Heap) (locs : List Loc), RLE X → z_P E X H → va_S A s.heap H locs → W p l e room_1 s m #[Value.ref b] below meth c H locs 154 2088 Q (F0 m 1005 ls [])) {X : z_X} {H : Heap} {locs : List Loc} (hR : RLE X) (hP : z_P E X H) (hS : va_S A s.heap H locs) (hl : lv_has ls 4 (lw_L E b i)) : W p l e room_1 s m #[Value.ref b] below meth c H locs 154 2088 Q (F0 m 768 ls []) := by
  obtain ⟨hx, hb, hml, hown, hts, hX, hbl, hbA, hK, hE, hC, hM, hsub⟩ := id C
  obtain ⟨n, k, R⟩ := hR
  refine lv_aload_n hx hb dL_law_768 rfl (lv_at hl 1 rfl) ?_
  refine y_vi (C := RX5) (T := TX5) (N := 7) (o := 18) (As := []) (rest := []) ⟨hx, hb, hml, hown, hts⟩ (m_X5_forget l hE hC X  _ (t_forget R )) (cwV 0 hts gL_law_X5_forget rfl rfl rfl (by decide +kernel) ⟨Nat.le_of_ble_eq_true rfl, Nat.le_of_ble_eq_true rfl⟩) hK hP hsub hS (hC.2 (18, 0) (List.mem_of_getElem? (i := 12) rfl)) z_l_18_0 rfl rfl hl.1 rfl (Nat.le_of_ble_eq_true rfl) dL_law_769 ⟨Nat.le_of_ble_eq_true rfl, Nat.le_of_ble_eq_true rfl⟩ (fun r u H locs hk hP hS => ?_)
  refine lv_aload_n hx hb dL_law_772 rfl (lv_at hl 2 rfl) ?_
  refine y_vi (C := RX6) (T := TX6) (N := 15) (o := 19) (As := []) (rest := [.int r]) ⟨hx, hb, hml, hown, hts⟩ (m_X6_forget l hE hM u (u 19)  _ hk) (cwV 0 hts gL_law_X6_forget rfl rfl rfl (by decide +kernel) ⟨Nat.le_of_ble_eq_true rfl, Nat.le_of_ble_eq_true rfl⟩) hK (z_P_self 19 hP) hsub hS (hM (19, 0) (List.mem_of_getElem? (i := 0) rfl)) z_l_19_0 rfl rfl hl.1 rfl (Nat.le_of_ble_eq_true rfl) dL_law_773 ⟨Nat.le_of_ble_eq_true rfl, Nat.le_of_ble_eq_true rfl⟩ (fun r2 u2 H locs hk hP hS => ?_)
  obtain ⟨h', ev, er, hR⟩ := hk
  rw [ev] at hP
  exact lv_icmp_eq (tgt := 1005) hx hb dL_law_776 (by decide) (fun _ => kk _ _ _ hR hP hS) (fun c9 => absurd er c9)
set_option maxHeartbeats 4000000 in
set_option maxRecDepth 100000 in
theorem q_hands {p : Program} (l : Launch) {e : Env} {s : State} {m : MethodId} {below : List Frame} {meth : Method} {c : Code} {E : z_E} {A : Nat → Prop} {b L i : Nat} {xs : Nat → Int32} (C : lw_Cx p s m c b L xs E A) (hL : L ≤ 256) (hi : i + 4 ≤ L) {Q : State → Prop} {ls : Array Slot} (kk : ∀ (X : z_X) (H : Heap) (locs : List Loc), RLE X → z_P E X H → va_S A s.heap H locs → W p l e room_1 s m #[Value.ref b] below meth c H locs 154 2088 Q (F0 m 1005 ls [])) {X : z_X} {H : Heap} {locs : List Loc} (hR : RLE X) (hP : z_P E X H) (hS : va_S A s.heap H locs) (hl : lv_has ls 4 (lw_L E b i)) : W p l e room_1 s m #[Value.ref b] below meth c H locs 154 2088 Q (F0 m 781 ls []) := by
  obtain ⟨hx, hb, hml, hown, hts, hX, hbl, hbA, hK, hE, hC, hM, hsub⟩ := id C
  obtain ⟨n, k, R⟩ := hR
  refine lv_aload_n hx hb dL_law_781 rfl (lv_at hl 1 rfl) ?_
  refine lw_arg C hL hi hS hl (k := 1) (by decide) rfl dL_law_782 dL_law_783 dL_law_784 dL_law_785 dL_law_786 ?_
  refine lw_arg C hL hi hS hl (k := 2) (by decide) rfl dL_law_787 dL_law_788 dL_law_789 dL_law_790 dL_law_791 ?_
  refine y_vi (C := RX5) (T := TX5) (N := 7) (o := 18) (As := [.int (xs (i + 1)), .int (xs (i + 2))]) (rest := []) ⟨hx, hb, hml, hown, hts⟩ (m_X5_hands l hE hC X (xs (i + 1)) (xs (i + 2)) _ (t_hands R (xs (i + 1)) (xs (i + 2)))) (cwV 2 hts gL_law_X5_hands rfl rfl rfl (by decide +kernel) ⟨Nat.le_of_ble_eq_true rfl, Nat.le_of_ble_eq_true rfl⟩) hK hP hsub hS (hC.2 (18, 0) (List.mem_of_getElem? (i := 12) rfl)) z_l_18_0 rfl rfl hl.1 rfl (Nat.le_of_ble_eq_true rfl) dL_law_792 ⟨Nat.le_of_ble_eq_true rfl, Nat.le_of_ble_eq_true rfl⟩ (fun r u H locs hk hP hS => ?_)
  obtain ⟨eu, hk⟩ := hk
  rw [eu] at hP
  refine lv_aload_n hx hb dL_law_795 rfl (lv_at hl 2 rfl) ?_
  refine lw_arg C hL hi hS hl (k := 1) (by decide) rfl dL_law_796 dL_law_797 dL_law_798 dL_law_799 dL_law_800 ?_
  refine lw_arg C hL hi hS hl (k := 2) (by decide) rfl dL_law_801 dL_law_802 dL_law_803 dL_law_804 dL_law_805 ?_
  refine y_vi (C := RX6) (T := TX6) (N := 15) (o := 19) (As := [.int (xs (i + 1)), .int (xs (i + 2))]) (rest := [.int r]) ⟨hx, hb, hml, hown, hts⟩ (m_X6_hands l hE hM X (X 19) (xs (i + 1)) (xs (i + 2)) _ hk) (cwV 2 hts gL_law_X6_hands rfl rfl rfl (by decide +kernel) ⟨Nat.le_of_ble_eq_true rfl, Nat.le_of_ble_eq_true rfl⟩) hK (z_P_self 19 hP) hsub hS (hM (19, 0) (List.mem_of_getElem? (i := 0) rfl)) z_l_19_0 rfl rfl hl.1 rfl (Nat.le_of_ble_eq_true rfl) dL_law_806 ⟨Nat.le_of_ble_eq_true rfl, Nat.le_of_ble_eq_true rfl⟩ (fun r2 u2 H locs hk hP hS => ?_)
  obtain ⟨ev, er, hR⟩ := hk
  rw [ev, z_up_self] at hP
  exact lv_icmp_eq (tgt := 1005) hx hb dL_law_809 (by decide) (fun _ => kk X _ _ hR hP hS) (fun c9 => absurd er c9)
set_option maxHeartbeats 4000000 in
set_option maxRecDepth 100000 in
theorem q_kinds {p : Program} (l : Launch) {e : Env} {s : State} {m : MethodId} {below : List Frame} {meth : Method} {c : Code} {E : z_E} {A : Nat → Prop} {b L i : Nat} {xs : Nat → Int32} (C : lw_Cx p s m c b L xs E A) (hL : L ≤ 256) (hi : i + 4 ≤ L) {Q : State → Prop} {ls : Array Slot} (kk : ∀ (X : z_X) (H : Heap) (locs : List Loc), RLE X → z_P E X H → va_S A s.heap H locs → W p l e room_1 s m #[Value.ref b] below meth c H locs 154 2088 Q (F0 m 1005 ls [])) {X : z_X} {H : Heap} {locs : List Loc} (hR : RLE X) (hP : z_P E X H) (hS : va_S A s.heap H locs) (hl : lv_has ls 4 (lw_L E b i)) : W p l e room_1 s m #[Value.ref b] below meth c H locs 154 2088 Q (F0 m 814 ls []) := by
  obtain ⟨hx, hb, hml, hown, hts, hX, hbl, hbA, hK, hE, hC, hM, hsub⟩ := id C
  obtain ⟨n, k, R⟩ := hR
  refine lv_aload_n hx hb dL_law_814 rfl (lv_at hl 1 rfl) ?_
  refine lw_arg C hL hi hS hl (k := 1) (by decide) rfl dL_law_815 dL_law_816 dL_law_817 dL_law_818 dL_law_819 ?_
  refine y_vi (C := RX5) (T := TX5) (N := 7) (o := 18) (As := [.int (xs (i + 1))]) (rest := []) ⟨hx, hb, hml, hown, hts⟩ (m_X5_kinds l hE hC X (xs (i + 1)) _ (t_kinds R (xs (i + 1)))) (cwV 1 hts gL_law_X5_kinds rfl rfl rfl (by decide +kernel) ⟨Nat.le_of_ble_eq_true rfl, Nat.le_of_ble_eq_true rfl⟩) hK hP hsub hS (hC.2 (18, 0) (List.mem_of_getElem? (i := 12) rfl)) z_l_18_0 rfl rfl hl.1 rfl (Nat.le_of_ble_eq_true rfl) dL_law_820 ⟨Nat.le_of_ble_eq_true rfl, Nat.le_of_ble_eq_true rfl⟩ (fun r u H locs hk hP hS => ?_)
  obtain ⟨eu, hk⟩ := hk
  rw [eu] at hP
  refine lv_aload_n hx hb dL_law_823 rfl (lv_at hl 2 rfl) ?_
  refine lw_arg C hL hi hS hl (k := 1) (by decide) rfl dL_law_824 dL_law_825 dL_law_826 dL_law_827 dL_law_828 ?_
  refine y_vi (C := RX6) (T := TX6) (N := 15) (o := 19) (As := [.int (xs (i + 1))]) (rest := [.int r]) ⟨hx, hb, hml, hown, hts⟩ (m_X6_kinds l hE hM X (X 19) (xs (i + 1)) _ hk) (cwV 1 hts gL_law_X6_kinds rfl rfl rfl (by decide +kernel) ⟨Nat.le_of_ble_eq_true rfl, Nat.le_of_ble_eq_true rfl⟩) hK (z_P_self 19 hP) hsub hS (hM (19, 0) (List.mem_of_getElem? (i := 0) rfl)) z_l_19_0 rfl rfl hl.1 rfl (Nat.le_of_ble_eq_true rfl) dL_law_829 ⟨Nat.le_of_ble_eq_true rfl, Nat.le_of_ble_eq_true rfl⟩ (fun r2 u2 H locs hk hP hS => ?_)
  obtain ⟨ev, er, hR⟩ := hk
  rw [ev, z_up_self] at hP
  exact lv_icmp_eq (tgt := 1005) hx hb dL_law_832 (by decide) (fun _ => kk X _ _ hR hP hS) (fun c9 => absurd er c9)
set_option maxHeartbeats 4000000 in
set_option maxRecDepth 100000 in
theorem q_sizes {p : Program} (l : Launch) {e : Env} {s : State} {m : MethodId} {below : List Frame} {meth : Method} {c : Code} {E : z_E} {A : Nat → Prop} {b L i : Nat} {xs : Nat → Int32} (C : lw_Cx p s m c b L xs E A) (hL : L ≤ 256) (hi : i + 4 ≤ L) {Q : State → Prop} {ls : Array Slot} (kk : ∀ (X : z_X) (H : Heap) (locs : List Loc), RLE X → z_P E X H → va_S A s.heap H locs → W p l e room_1 s m #[Value.ref b] below meth c H locs 154 2088 Q (F0 m 1005 ls [])) {X : z_X} {H : Heap} {locs : List Loc} (hR : RLE X) (hP : z_P E X H) (hS : va_S A s.heap H locs) (hl : lv_has ls 4 (lw_L E b i)) : W p l e room_1 s m #[Value.ref b] below meth c H locs 154 2088 Q (F0 m 837 ls []) := by
  obtain ⟨hx, hb, hml, hown, hts, hX, hbl, hbA, hK, hE, hC, hM, hsub⟩ := id C
  obtain ⟨n, k, R⟩ := hR
  refine lv_aload_n hx hb dL_law_837 rfl (lv_at hl 1 rfl) ?_
  refine lw_arg C hL hi hS hl (k := 1) (by decide) rfl dL_law_838 dL_law_839 dL_law_840 dL_law_841 dL_law_842 ?_
  refine lw_arg C hL hi hS hl (k := 2) (by decide) rfl dL_law_843 dL_law_844 dL_law_845 dL_law_846 dL_law_847 ?_
  refine y_vi (C := RX5) (T := TX5) (N := 7) (o := 18) (As := [.int (xs (i + 1)), .int (xs (i + 2))]) (rest := []) ⟨hx, hb, hml, hown, hts⟩ (m_X5_sizes l hE hC X (xs (i + 1)) (xs (i + 2)) _ (t_sizes R (xs (i + 1)) (xs (i + 2)))) (cwV 2 hts gL_law_X5_sizes rfl rfl rfl (by decide +kernel) ⟨Nat.le_of_ble_eq_true rfl, Nat.le_of_ble_eq_true rfl⟩) hK hP hsub hS (hC.2 (18, 0) (List.mem_of_getElem? (i := 12) rfl)) z_l_18_0 rfl rfl hl.1 rfl (Nat.le_of_ble_eq_true rfl) dL_law_848 ⟨Nat.le_of_ble_eq_true rfl, Nat.le_of_ble_eq_true rfl⟩ (fun r u H locs hk hP hS => ?_)
  obtain ⟨eu, hk⟩ := hk
  rw [eu] at hP
  refine lv_aload_n hx hb dL_law_851 rfl (lv_at hl 2 rfl) ?_
  refine lw_arg C hL hi hS hl (k := 1) (by decide) rfl dL_law_852 dL_law_853 dL_law_854 dL_law_855 dL_law_856 ?_
  refine lw_arg C hL hi hS hl (k := 2) (by decide) rfl dL_law_857 dL_law_858 dL_law_859 dL_law_860 dL_law_861 ?_
  refine y_vi (C := RX6) (T := TX6) (N := 15) (o := 19) (As := [.int (xs (i + 1)), .int (xs (i + 2))]) (rest := [.int r]) ⟨hx, hb, hml, hown, hts⟩ (m_X6_sizes l hE hM X (X 19) (xs (i + 1)) (xs (i + 2)) _ hk) (cwV 2 hts gL_law_X6_sizes rfl rfl rfl (by decide +kernel) ⟨Nat.le_of_ble_eq_true rfl, Nat.le_of_ble_eq_true rfl⟩) hK (z_P_self 19 hP) hsub hS (hM (19, 0) (List.mem_of_getElem? (i := 0) rfl)) z_l_19_0 rfl rfl hl.1 rfl (Nat.le_of_ble_eq_true rfl) dL_law_862 ⟨Nat.le_of_ble_eq_true rfl, Nat.le_of_ble_eq_true rfl⟩ (fun r2 u2 H locs hk hP hS => ?_)
  obtain ⟨ev, er, hR⟩ := hk
  rw [ev, z_up_self] at hP
  exact lv_icmp_eq (tgt := 1005) hx hb dL_law_865 (by decide) (fun _ => kk X _ _ hR hP hS) (fun c9 => absurd er c9)
set_option maxHeartbeats 4000000 in
set_option maxRecDepth 100000 in
theorem q_likely {p : Program} (l : Launch) {e : Env} {s : State} {m : MethodId} {below : List Frame} {meth : Method} {c : Code} {E : z_E} {A : Nat → Prop} {b L i : Nat} {xs : Nat → Int32} (C : lw_Cx p s m c b L xs E A) (hL : L ≤ 256) (hi : i + 4 ≤ L) {Q : State → Prop} {ls : Array Slot} (kk : ∀ (X : z_X) (H : Heap) (locs : List Loc), RLE X → z_P E X H → va_S A s.heap H locs → W p l e room_1 s m #[Value.ref b] below meth c H locs 154 2088 Q (F0 m 1005 ls [])) {X : z_X} {H : Heap} {locs : List Loc} (hR : RLE X) (hP : z_P E X H) (hS : va_S A s.heap H locs) (hl : lv_has ls 4 (lw_L E b i)) : W p l e room_1 s m #[Value.ref b] below meth c H locs 154 2088 Q (F0 m 870 ls []) := by
  obtain ⟨hx, hb, hml, hown, hts, hX, hbl, hbA, hK, hE, hC, hM, hsub⟩ := id C
  obtain ⟨n, k, R⟩ := hR
  refine lv_aload_n hx hb dL_law_870 rfl (lv_at hl 1 rfl) ?_
  refine lw_arg C hL hi hS hl (k := 1) (by decide) rfl dL_law_871 dL_law_872 dL_law_873 dL_law_874 dL_law_875 ?_
  refine lw_arg C hL hi hS hl (k := 2) (by decide) rfl dL_law_876 dL_law_877 dL_law_878 dL_law_879 dL_law_880 ?_
  refine lw_arg C hL hi hS hl (k := 3) (by decide) rfl dL_law_881 dL_law_882 dL_law_883 dL_law_884 dL_law_885 ?_
  refine y_vi (C := RX5) (T := TX5) (N := 7) (o := 18) (As := [.int (xs (i + 1)), .int (xs (i + 2)), .int (xs (i + 3))]) (rest := []) ⟨hx, hb, hml, hown, hts⟩ (m_X5_likely l hE hC X (xs (i + 1)) (xs (i + 2)) (xs (i + 3)) _ (t_likely R (xs (i + 1)) (xs (i + 2)) (xs (i + 3)))) (cwV 3 hts gL_law_X5_likely rfl rfl rfl (by decide +kernel) ⟨Nat.le_of_ble_eq_true rfl, Nat.le_of_ble_eq_true rfl⟩) hK hP hsub hS (hC.2 (18, 0) (List.mem_of_getElem? (i := 12) rfl)) z_l_18_0 rfl rfl hl.1 rfl (Nat.le_of_ble_eq_true rfl) dL_law_886 ⟨Nat.le_of_ble_eq_true rfl, Nat.le_of_ble_eq_true rfl⟩ (fun r u H locs hk hP hS => ?_)
  obtain ⟨eu, hk⟩ := hk
  rw [eu] at hP
  refine lv_aload_n hx hb dL_law_889 rfl (lv_at hl 2 rfl) ?_
  refine lw_arg C hL hi hS hl (k := 1) (by decide) rfl dL_law_890 dL_law_891 dL_law_892 dL_law_893 dL_law_894 ?_
  refine lw_arg C hL hi hS hl (k := 2) (by decide) rfl dL_law_895 dL_law_896 dL_law_897 dL_law_898 dL_law_899 ?_
  refine lw_arg C hL hi hS hl (k := 3) (by decide) rfl dL_law_900 dL_law_901 dL_law_902 dL_law_903 dL_law_904 ?_
  refine y_vi (C := RX6) (T := TX6) (N := 15) (o := 19) (As := [.int (xs (i + 1)), .int (xs (i + 2)), .int (xs (i + 3))]) (rest := [.int r]) ⟨hx, hb, hml, hown, hts⟩ (m_X6_likely l hE hM X (X 19) (xs (i + 1)) (xs (i + 2)) (xs (i + 3)) _ hk) (cwV 3 hts gL_law_X6_likely rfl rfl rfl (by decide +kernel) ⟨Nat.le_of_ble_eq_true rfl, Nat.le_of_ble_eq_true rfl⟩) hK (z_P_self 19 hP) hsub hS (hM (19, 0) (List.mem_of_getElem? (i := 0) rfl)) z_l_19_0 rfl rfl hl.1 rfl (Nat.le_of_ble_eq_true rfl) dL_law_905 ⟨Nat.le_of_ble_eq_true rfl, Nat.le_of_ble_eq_true rfl⟩ (fun r2 u2 H locs hk hP hS => ?_)
  obtain ⟨h', ev, er, hR⟩ := hk
  rw [ev] at hP
  exact lv_icmp_eq (tgt := 1005) hx hb dL_law_908 (by decide) (fun _ => kk _ _ _ hR hP hS) (fun c9 => absurd er c9)
set_option maxHeartbeats 4000000 in
set_option maxRecDepth 100000 in
theorem q_time {p : Program} (l : Launch) {e : Env} {s : State} {m : MethodId} {below : List Frame} {meth : Method} {c : Code} {E : z_E} {A : Nat → Prop} {b L i : Nat} {xs : Nat → Int32} (C : lw_Cx p s m c b L xs E A) (hL : L ≤ 256) (hi : i + 4 ≤ L) {Q : State → Prop} {ls : Array Slot} (kk : ∀ (X : z_X) (H : Heap) (locs : List Loc), RLE X → z_P E X H → va_S A s.heap H locs → W p l e room_1 s m #[Value.ref b] below meth c H locs 154 2088 Q (F0 m 1005 ls [])) {X : z_X} {H : Heap} {locs : List Loc} (hR : RLE X) (hP : z_P E X H) (hS : va_S A s.heap H locs) (hl : lv_has ls 4 (lw_L E b i)) : W p l e room_1 s m #[Value.ref b] below meth c H locs 154 2088 Q (F0 m 913 ls []) := by
  obtain ⟨hx, hb, hml, hown, hts, hX, hbl, hbA, hK, hE, hC, hM, hsub⟩ := id C
  obtain ⟨n, k, R⟩ := hR
  refine lv_aload_n hx hb dL_law_913 rfl (lv_at hl 1 rfl) ?_
  refine lw_arg C hL hi hS hl (k := 1) (by decide) rfl dL_law_914 dL_law_915 dL_law_916 dL_law_917 dL_law_918 ?_
  refine lw_arg C hL hi hS hl (k := 2) (by decide) rfl dL_law_919 dL_law_920 dL_law_921 dL_law_922 dL_law_923 ?_
  refine lw_arg C hL hi hS hl (k := 3) (by decide) rfl dL_law_924 dL_law_925 dL_law_926 dL_law_927 dL_law_928 ?_
  refine y_vi (C := RX5) (T := TX5) (N := 7) (o := 18) (As := [.int (xs (i + 1)), .int (xs (i + 2)), .int (xs (i + 3))]) (rest := []) ⟨hx, hb, hml, hown, hts⟩ (m_X5_time l hE hC X (xs (i + 1)) (xs (i + 2)) (xs (i + 3)) _ (t_time R (xs (i + 1)) (xs (i + 2)) (xs (i + 3)))) (cwV 3 hts gL_law_X5_time rfl rfl rfl (by decide +kernel) ⟨Nat.le_of_ble_eq_true rfl, Nat.le_of_ble_eq_true rfl⟩) hK hP hsub hS (hC.2 (18, 0) (List.mem_of_getElem? (i := 12) rfl)) z_l_18_0 rfl rfl hl.1 rfl (Nat.le_of_ble_eq_true rfl) dL_law_929 ⟨Nat.le_of_ble_eq_true rfl, Nat.le_of_ble_eq_true rfl⟩ (fun r u H locs hk hP hS => ?_)
  refine lv_aload_n hx hb dL_law_932 rfl (lv_at hl 2 rfl) ?_
  refine lw_arg C hL hi hS hl (k := 1) (by decide) rfl dL_law_933 dL_law_934 dL_law_935 dL_law_936 dL_law_937 ?_
  refine lw_arg C hL hi hS hl (k := 2) (by decide) rfl dL_law_938 dL_law_939 dL_law_940 dL_law_941 dL_law_942 ?_
  refine lw_arg C hL hi hS hl (k := 3) (by decide) rfl dL_law_943 dL_law_944 dL_law_945 dL_law_946 dL_law_947 ?_
  refine y_vi (C := RX6) (T := TX6) (N := 15) (o := 19) (As := [.int (xs (i + 1)), .int (xs (i + 2)), .int (xs (i + 3))]) (rest := [.int r]) ⟨hx, hb, hml, hown, hts⟩ (m_X6_time l hE hM u (u 19) (xs (i + 1)) (xs (i + 2)) (xs (i + 3)) _ hk) (cwV 3 hts gL_law_X6_time rfl rfl rfl (by decide +kernel) ⟨Nat.le_of_ble_eq_true rfl, Nat.le_of_ble_eq_true rfl⟩) hK (z_P_self 19 hP) hsub hS (hM (19, 0) (List.mem_of_getElem? (i := 0) rfl)) z_l_19_0 rfl rfl hl.1 rfl (Nat.le_of_ble_eq_true rfl) dL_law_948 ⟨Nat.le_of_ble_eq_true rfl, Nat.le_of_ble_eq_true rfl⟩ (fun r2 u2 H locs hk hP hS => ?_)
  obtain ⟨h', ev, er, hR⟩ := hk
  rw [ev] at hP
  exact lv_icmp_eq (tgt := 1005) hx hb dL_law_951 (by decide) (fun _ => kk _ _ _ hR hP hS) (fun c9 => absurd er c9)
set_option maxHeartbeats 4000000 in
set_option maxRecDepth 100000 in
theorem q_keep {p : Program} (l : Launch) {e : Env} {s : State} {m : MethodId} {below : List Frame} {meth : Method} {c : Code} {E : z_E} {A : Nat → Prop} {b L i : Nat} {xs : Nat → Int32} (C : lw_Cx p s m c b L xs E A) (hL : L ≤ 256) (hi : i + 4 ≤ L) {Q : State → Prop} {ls : Array Slot} (kk : ∀ (X : z_X) (H : Heap) (locs : List Loc), RLE X → z_P E X H → va_S A s.heap H locs → W p l e room_1 s m #[Value.ref b] below meth c H locs 154 2088 Q (F0 m 1005 ls [])) {X : z_X} {H : Heap} {locs : List Loc} (hR : RLE X) (hP : z_P E X H) (hS : va_S A s.heap H locs) (hl : lv_has ls 4 (lw_L E b i)) : W p l e room_1 s m #[Value.ref b] below meth c H locs 154 2088 Q (F0 m 956 ls []) := by
  obtain ⟨hx, hb, hml, hown, hts, hX, hbl, hbA, hK, hE, hC, hM, hsub⟩ := id C
  obtain ⟨n, k, R⟩ := hR
  refine lv_aload_n hx hb dL_law_956 rfl (lv_at hl 1 rfl) ?_
  refine y_vi (C := RX5) (T := TX5) (N := 7) (o := 18) (As := []) (rest := []) ⟨hx, hb, hml, hown, hts⟩ (m_X5_keep l hE hC X  _ (t_keep R )) (cwV 0 hts gL_law_X5_keep rfl rfl rfl (by decide +kernel) ⟨Nat.le_of_ble_eq_true rfl, Nat.le_of_ble_eq_true rfl⟩) hK hP hsub hS (hC.2 (18, 0) (List.mem_of_getElem? (i := 12) rfl)) z_l_18_0 rfl rfl hl.1 rfl (Nat.le_of_ble_eq_true rfl) dL_law_957 ⟨Nat.le_of_ble_eq_true rfl, Nat.le_of_ble_eq_true rfl⟩ (fun r u H locs hk hP hS => ?_)
  refine lv_aload_n hx hb dL_law_960 rfl (lv_at hl 2 rfl) ?_
  refine y_vi (C := RX6) (T := TX6) (N := 15) (o := 19) (As := []) (rest := [.int r]) ⟨hx, hb, hml, hown, hts⟩ (m_X6_keep l hE hM u (u 19)  _ hk) (cwV 0 hts gL_law_X6_keep rfl rfl rfl (by decide +kernel) ⟨Nat.le_of_ble_eq_true rfl, Nat.le_of_ble_eq_true rfl⟩) hK (z_P_self 19 hP) hsub hS (hM (19, 0) (List.mem_of_getElem? (i := 0) rfl)) z_l_19_0 rfl rfl hl.1 rfl (Nat.le_of_ble_eq_true rfl) dL_law_961 ⟨Nat.le_of_ble_eq_true rfl, Nat.le_of_ble_eq_true rfl⟩ (fun r2 u2 H locs hk hP hS => ?_)
  obtain ⟨h', ev, er, hR⟩ := hk
  rw [ev] at hP
  exact lv_icmp_eq (tgt := 1005) hx hb dL_law_964 (by decide) (fun _ => kk _ _ _ hR hP hS) (fun c9 => absurd er c9)
set_option maxHeartbeats 4000000 in
set_option maxRecDepth 100000 in
theorem q_back {p : Program} (l : Launch) {e : Env} {s : State} {m : MethodId} {below : List Frame} {meth : Method} {c : Code} {E : z_E} {A : Nat → Prop} {b L i : Nat} {xs : Nat → Int32} (C : lw_Cx p s m c b L xs E A) (hL : L ≤ 256) (hi : i + 4 ≤ L) {Q : State → Prop} {ls : Array Slot} (kk : ∀ (X : z_X) (H : Heap) (locs : List Loc), RLE X → z_P E X H → va_S A s.heap H locs → W p l e room_1 s m #[Value.ref b] below meth c H locs 154 2088 Q (F0 m 1005 ls [])) {X : z_X} {H : Heap} {locs : List Loc} (hR : RLE X) (hP : z_P E X H) (hS : va_S A s.heap H locs) (hl : lv_has ls 4 (lw_L E b i)) : W p l e room_1 s m #[Value.ref b] below meth c H locs 154 2088 Q (F0 m 969 ls []) := by
  obtain ⟨hx, hb, hml, hown, hts, hX, hbl, hbA, hK, hE, hC, hM, hsub⟩ := id C
  obtain ⟨n, k, R⟩ := hR
  refine lv_aload_n hx hb dL_law_969 rfl (lv_at hl 1 rfl) ?_
  refine y_vi (C := RX5) (T := TX5) (N := 7) (o := 18) (As := []) (rest := []) ⟨hx, hb, hml, hown, hts⟩ (m_X5_back l hE hC X  _ (t_back R )) (cwV 0 hts gL_law_X5_back rfl rfl rfl (by decide +kernel) ⟨Nat.le_of_ble_eq_true rfl, Nat.le_of_ble_eq_true rfl⟩) hK hP hsub hS (hC.2 (18, 0) (List.mem_of_getElem? (i := 12) rfl)) z_l_18_0 rfl rfl hl.1 rfl (Nat.le_of_ble_eq_true rfl) dL_law_970 ⟨Nat.le_of_ble_eq_true rfl, Nat.le_of_ble_eq_true rfl⟩ (fun r u H locs hk hP hS => ?_)
  refine lv_aload_n hx hb dL_law_973 rfl (lv_at hl 2 rfl) ?_
  refine y_vi (C := RX6) (T := TX6) (N := 15) (o := 19) (As := []) (rest := [.int r]) ⟨hx, hb, hml, hown, hts⟩ (m_X6_back l hE hM u (u 19)  _ hk) (cwV 0 hts gL_law_X6_back rfl rfl rfl (by decide +kernel) ⟨Nat.le_of_ble_eq_true rfl, Nat.le_of_ble_eq_true rfl⟩) hK (z_P_self 19 hP) hsub hS (hM (19, 0) (List.mem_of_getElem? (i := 0) rfl)) z_l_19_0 rfl rfl hl.1 rfl (Nat.le_of_ble_eq_true rfl) dL_law_974 ⟨Nat.le_of_ble_eq_true rfl, Nat.le_of_ble_eq_true rfl⟩ (fun r2 u2 H locs hk hP hS => ?_)
  obtain ⟨h', ev, er, hR⟩ := hk
  rw [ev] at hP
  exact lv_icmp_eq (tgt := 1005) hx hb dL_law_977 (by decide) (fun _ => kk _ _ _ hR hP hS) (fun c9 => absurd er c9)
set_option maxHeartbeats 4000000 in
set_option maxRecDepth 100000 in
theorem q_count {p : Program} (l : Launch) {e : Env} {s : State} {m : MethodId} {below : List Frame} {meth : Method} {c : Code} {E : z_E} {A : Nat → Prop} {b L i : Nat} {xs : Nat → Int32} (C : lw_Cx p s m c b L xs E A) (hL : L ≤ 256) (hi : i + 4 ≤ L) {Q : State → Prop} {ls : Array Slot} (kk : ∀ (X : z_X) (H : Heap) (locs : List Loc), RLE X → z_P E X H → va_S A s.heap H locs → W p l e room_1 s m #[Value.ref b] below meth c H locs 154 2088 Q (F0 m 1005 ls [])) {X : z_X} {H : Heap} {locs : List Loc} (hR : RLE X) (hP : z_P E X H) (hS : va_S A s.heap H locs) (hl : lv_has ls 4 (lw_L E b i)) : W p l e room_1 s m #[Value.ref b] below meth c H locs 154 2088 Q (F0 m 982 ls []) := by
  obtain ⟨hx, hb, hml, hown, hts, hX, hbl, hbA, hK, hE, hC, hM, hsub⟩ := id C
  obtain ⟨n, k, R⟩ := hR
  refine lv_aload_n hx hb dL_law_982 rfl (lv_at hl 1 rfl) ?_
  refine lw_arg C hL hi hS hl (k := 1) (by decide) rfl dL_law_983 dL_law_984 dL_law_985 dL_law_986 dL_law_987 ?_
  refine y_vi (C := RX5) (T := TX5) (N := 7) (o := 18) (As := [.int (xs (i + 1))]) (rest := []) ⟨hx, hb, hml, hown, hts⟩ (m_X5_count l hE hC X (xs (i + 1)) _ (t_count R (xs (i + 1)))) (cwV 1 hts gL_law_X5_count rfl rfl rfl (by decide +kernel) ⟨Nat.le_of_ble_eq_true rfl, Nat.le_of_ble_eq_true rfl⟩) hK hP hsub hS (hC.2 (18, 0) (List.mem_of_getElem? (i := 12) rfl)) z_l_18_0 rfl rfl hl.1 rfl (Nat.le_of_ble_eq_true rfl) dL_law_988 ⟨Nat.le_of_ble_eq_true rfl, Nat.le_of_ble_eq_true rfl⟩ (fun r u H locs hk hP hS => ?_)
  obtain ⟨eu, hk⟩ := hk
  rw [eu] at hP
  refine lv_aload_n hx hb dL_law_991 rfl (lv_at hl 2 rfl) ?_
  refine lw_arg C hL hi hS hl (k := 1) (by decide) rfl dL_law_992 dL_law_993 dL_law_994 dL_law_995 dL_law_996 ?_
  refine y_vi (C := RX6) (T := TX6) (N := 15) (o := 19) (As := [.int (xs (i + 1))]) (rest := [.int r]) ⟨hx, hb, hml, hown, hts⟩ (m_X6_count l hE hM X (X 19) (xs (i + 1)) _ hk) (cwV 1 hts gL_law_X6_count rfl rfl rfl (by decide +kernel) ⟨Nat.le_of_ble_eq_true rfl, Nat.le_of_ble_eq_true rfl⟩) hK (z_P_self 19 hP) hsub hS (hM (19, 0) (List.mem_of_getElem? (i := 0) rfl)) z_l_19_0 rfl rfl hl.1 rfl (Nat.le_of_ble_eq_true rfl) dL_law_997 ⟨Nat.le_of_ble_eq_true rfl, Nat.le_of_ble_eq_true rfl⟩ (fun r2 u2 H locs hk hP hS => ?_)
  obtain ⟨ev, er, hR⟩ := hk
  rw [ev, z_up_self] at hP
  exact lv_icmp_eq (tgt := 1005) hx hb dL_law_1000 (by decide) (fun _ => kk X _ _ hR hP hS) (fun c9 => absurd er c9)
