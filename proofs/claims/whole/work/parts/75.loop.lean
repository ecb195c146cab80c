/-! ===== THE LAW: the switch, the loop, the start ===== -/
set_option maxHeartbeats 8000000 in
set_option maxRecDepth 100000 in
theorem q_switch {p : Program} (l : Launch) {e : Env} {s : State} {m : MethodId} {below : List Frame} {meth : Method} {c : Code} {E : z_E} {A : Nat → Prop} {b L i : Nat} {xs : Nat → Int32} (C : lw_Cx p s m c b L xs E A) (hL : L ≤ 256) (hi : i + 4 ≤ L) {Q : State → Prop} {ls : Array Slot} (kk : ∀ (X : z_X) (H : Heap) (locs : List Loc), RLE X → z_P E X H → va_S A s.heap H locs → W p l e room_1 s m #[Value.ref b] below meth c H locs 154 2088 Q (F0 m 1005 ls [])) {X : z_X} {H : Heap} {locs : List Loc} (hR : RLE X) (hP : z_P E X H) (hS : va_S A s.heap H locs) (hl : lv_has ls 4 (lw_L E b i)) (t : Nat) (ht : t < 32) : W p l e room_1 s m #[Value.ref b] below meth c H locs 154 2088 Q (F0 m 32 ls [.int (nI t)]) := by
  have hx := C.1
  have hb := C.2.1
  match t, ht with
  | 0, _ => exact lv_tableIn (off := 140) (tgt := 172) hx hb dL_law_32 (by decide) (by decide) rfl (by decide) (q_write l C hL hi kk hR hP hS hl)
  | 1, _ => exact lv_tableIn (off := 163) (tgt := 195) hx hb dL_law_32 (by decide) (by decide) rfl (by decide) (q_wipe l C hL hi kk hR hP hS hl)
  | 2, _ => exact lv_tableIn (off := 176) (tgt := 208) hx hb dL_law_32 (by decide) (by decide) rfl (by decide) (q_fault l C hL hi kk hR hP hS hl)
  | 3, _ => exact lv_tableIn (off := 189) (tgt := 221) hx hb dL_law_32 (by decide) (by decide) rfl (by decide) (q_lay l C hL hi kk hR hP hS hl)
  | 4, _ => exact lv_tableIn (off := 202) (tgt := 234) hx hb dL_law_32 (by decide) (by decide) rfl (by decide) (q_person l C hL hi kk hR hP hS hl)
  | 5, _ => exact lv_tableIn (off := 235) (tgt := 267) hx hb dL_law_32 (by decide) (by decide) rfl (by decide) (q_glove l C hL hi kk hR hP hS hl)
  | 6, _ => exact lv_tableIn (off := 268) (tgt := 300) hx hb dL_law_32 (by decide) (by decide) rfl (by decide) (q_fits l C hL hi kk hR hP hS hl)
  | 7, _ => exact lv_tableIn (off := 301) (tgt := 333) hx hb dL_law_32 (by decide) (by decide) rfl (by decide) (q_fight l C hL hi kk hR hP hS hl)
  | 8, _ => exact lv_tableIn (off := 334) (tgt := 366) hx hb dL_law_32 (by decide) (by decide) rfl (by decide) (q_pass l C hL hi kk hR hP hS hl)
  | 9, _ => exact lv_tableIn (off := 357) (tgt := 389) hx hb dL_law_32 (by decide) (by decide) rfl (by decide) (q_hurl l C hL hi kk hR hP hS hl)
  | 10, _ => exact lv_tableIn (off := 400) (tgt := 432) hx hb dL_law_32 (by decide) (by decide) rfl (by decide) (q_take l C hL hi kk hR hP hS hl)
  | 11, _ => exact lv_tableIn (off := 423) (tgt := 455) hx hb dL_law_32 (by decide) (by decide) rfl (by decide) (q_stretch l C hL hi kk hR hP hS hl)
  | 12, _ => exact lv_tableIn (off := 446) (tgt := 478) hx hb dL_law_32 (by decide) (by decide) rfl (by decide) (q_wear l C hL hi kk hR hP hS hl)
  | 13, _ => exact lv_tableIn (off := 479) (tgt := 511) hx hb dL_law_32 (by decide) (by decide) rfl (by decide) (q_undo l C hL hi kk hR hP hS hl)
  | 14, _ => exact lv_tableIn (off := 492) (tgt := 524) hx hb dL_law_32 (by decide) (by decide) rfl (by decide) (q_behind l C hL hi kk hR hP hS hl)
  | 15, _ => exact lv_tableIn (off := 525) (tgt := 557) hx hb dL_law_32 (by decide) (by decide) rfl (by decide) (q_lies l C hL hi kk hR hP hS hl)
  | 16, _ => exact lv_tableIn (off := 548) (tgt := 580) hx hb dL_law_32 (by decide) (by decide) rfl (by decide) (q_last l C hL hi kk hR hP hS hl)
  | 17, _ => exact lv_tableIn (off := 561) (tgt := 593) hx hb dL_law_32 (by decide) (by decide) rfl (by decide) (q_safe l C hL hi kk hR hP hS hl)
  | 18, _ => exact lv_tableIn (off := 604) (tgt := 636) hx hb dL_law_32 (by decide) (by decide) rfl (by decide) (q_dare l C hL hi kk hR hP hS hl)
  | 19, _ => exact lv_tableIn (off := 637) (tgt := 669) hx hb dL_law_32 (by decide) (by decide) rfl (by decide) (q_first l C hL hi kk hR hP hS hl)
  | 20, _ => exact lv_tableIn (off := 670) (tgt := 702) hx hb dL_law_32 (by decide) (by decide) rfl (by decide) (q_ring l C hL hi kk hR hP hS hl)
  | 21, _ => exact lv_tableIn (off := 693) (tgt := 725) hx hb dL_law_32 (by decide) (by decide) rfl (by decide) (q_seen l C hL hi kk hR hP hS hl)
  | 22, _ => exact lv_tableIn (off := 736) (tgt := 768) hx hb dL_law_32 (by decide) (by decide) rfl (by decide) (q_forget l C hL hi kk hR hP hS hl)
  | 23, _ => exact lv_tableIn (off := 749) (tgt := 781) hx hb dL_law_32 (by decide) (by decide) rfl (by decide) (q_hands l C hL hi kk hR hP hS hl)
  | 24, _ => exact lv_tableIn (off := 782) (tgt := 814) hx hb dL_law_32 (by decide) (by decide) rfl (by decide) (q_kinds l C hL hi kk hR hP hS hl)
  | 25, _ => exact lv_tableIn (off := 805) (tgt := 837) hx hb dL_law_32 (by decide) (by decide) rfl (by decide) (q_sizes l C hL hi kk hR hP hS hl)
  | 26, _ => exact lv_tableIn (off := 838) (tgt := 870) hx hb dL_law_32 (by decide) (by decide) rfl (by decide) (q_likely l C hL hi kk hR hP hS hl)
  | 27, _ => exact lv_tableIn (off := 881) (tgt := 913) hx hb dL_law_32 (by decide) (by decide) rfl (by decide) (q_time l C hL hi kk hR hP hS hl)
  | 28, _ => exact lv_tableIn (off := 924) (tgt := 956) hx hb dL_law_32 (by decide) (by decide) rfl (by decide) (q_keep l C hL hi kk hR hP hS hl)
  | 29, _ => exact lv_tableIn (off := 937) (tgt := 969) hx hb dL_law_32 (by decide) (by decide) rfl (by decide) (q_back l C hL hi kk hR hP hS hl)
  | 30, _ => exact lv_tableIn (off := 950) (tgt := 982) hx hb dL_law_32 (by decide) (by decide) rfl (by decide) (q_count l C hL hi kk hR hP hS hl)
  | 31, _ => exact lv_tableOut (tgt := 1005) hx hb dL_law_32 (Or.inr (by decide)) (by decide) (kk X H locs hR hP hS)
  | t + 32, ht => omega
set_option maxHeartbeats 8000000 in
set_option maxRecDepth 100000 in
theorem q_loop {p : Program} (l : Launch) {e : Env} {s : State} {m : MethodId} {below : List Frame} {meth : Method} {c : Code} {E : z_E} {b L : Nat} {xs : Nat → Int32} (C : lw_Cx p s m c b L xs E (fun q => s.heap.size ≤ q)) (hL : L ≤ 256) (hr : meth.sig.returnType = ret) (hlocks : meth.locks = false) :
    ∀ (k i : Nat) (X : z_X) (H : Heap) (locs : List Loc) (ls : Array Slot), 260 - i ≤ k → i ≤ 256 → RLE X → z_P E X H → va_S (fun q => s.heap.size ≤ q) s.heap H locs → lv_has ls 4 (lw_L E b i) → W p l e room_1 s m #[Value.ref b] below meth c H locs 154 2088 (lw_Z below #[Value.ref b] s) (F0 m 18 ls []) := by
  obtain ⟨hx, hb, hml, hown, hts, hX, hbl, hbA, hK, hE, hC, hM, hsub⟩ := id C
  intro k
  induction k with
  | zero => intro i X H locs ls hk hi; omega
  | succ k ih =>
    intro i X H locs ls hk hi hR hP hS hl
    refine lv_iload_n hx hb dL_law_18 rfl (lv_at hl 3 rfl) ?_
    refine lv_aload_n hx hb dL_law_19 rfl (lv_at hl 0 rfl) ?_
    refine va_slen hx hb hX hbl hbA hS dL_law_20 ?_
    refine lv_iconst (v := nI 4) hx hb dL_law_21 (by decide) ?_
    refine lv_isub hx hb dL_law_22 ?_
    refine lv_icmp_gt (tgt := 1011) hx hb dL_law_23 (by decide) (fun _ => ?_) (fun c4 => ?_)
    · refine lv_iconst (v := 1) hx hb dL_law_1011 (by decide) ?_
      refine va_forget (fun q h => hS.2.2 q h) ?_
      refine W.widen (k := 600000) (n := 7302250) (Nat.le_of_ble_eq_true rfl) (Nat.le_of_ble_eq_true rfl) ?_
      exact lw_ret hx hb hr hlocks dL_law_1012
    · have hi4 : i + 4 ≤ L := by
        rcases Nat.lt_or_ge L (i + 4) with h | h
        · exact absurd ((lw_cmp hL (by omega)).mpr h) c4
        · exact h
      refine lv_aload_n hx hb dL_law_26 rfl (lv_at hl 0 rfl) ?_
      refine lv_iload_n hx hb dL_law_27 rfl (lv_at hl 3 rfl) ?_
      refine va_sld hx hb hX hbl hbA hS (nI_in (by omega) (by omega)) dL_law_28 ?_
      refine lv_bipush (v := 31) hx hb dL_law_29 (by decide) ?_
      refine lv_iand hx hb dL_law_31 ?_
      obtain ⟨t, ht, et⟩ := and31 (xs (nI i).toNatClampNeg)
      rw [et]
      refine q_switch l C hL hi4 (fun X H locs hR hP hS => ?_) hR hP hS hl t ht
      refine lv_iinc (v := nI (i + 4)) (lv' := [(3, .int (nI (i + 4))), (0, .ref b), (1, .ref (z_a E 18 0)), (2, .ref (z_a E 19 0))]) hx hb dL_law_1005 hl (k := 3) rfl (nI_add i 4) (by decide) rfl (fun ls hl => ?_)
      refine lv_goto (tgt := 18) hx hb dL_law_1008 (by decide) ?_
      exact ih (i + 4) X H locs ls (by omega) (by omega) hR hP hS (lv_sub hl [1, 2, 3, 0] rfl)
