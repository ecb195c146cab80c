/-! ===== THE CONSTRUCTORS: GauntletHall, from the loop over the text on ===== -/
def txS : String := "p8,10,1;p6,12,0;p4,7,1;p9,20,0;p7,5,1;g0,8,3;g1,5,1;g2,4,3;g3,9,1;g0,7,0;"
abbrev rkX5 : Room := { frames := 5, cells := 142, slots := 1273, locals := 112 }
def txL (i : Nat) : Nat → Int32 := fun j => if j < i then tx j else 0
/-- the hall that is told at the start -/
def hE5 : z_G := (rdF (txL 73) 73 200 0 0 0 (em (zz 0))).2.2.2
def St5 (X : z_X) : Prop := X 13 0 0 = 0 ∧ X 0 = hE5 ∧ ∀ o, o ≠ 0 → o ≠ 13 → X o = zz o
theorem txL_up (i : Nat) : upd (txL i) i (tx i) = txL (i + 1) := by
  funext j
  unfold txL
  by_cases h : j = i
  · subst h
    rw [upd_eq, if_pos (by omega)]
  · rw [upd_ne h]
    by_cases h2 : j < i
    · rw [if_pos h2, if_pos (by omega)]
    · rw [if_neg h2, if_neg (by omega)]
theorem zz_NF : NF (zz 0) := fun _ _ _ => rfl
theorem s_append5 {h : z_G} {i : Nat} (hi : i < 73) (e0 : h 0 0 = nI i) (e2 : h 2 = txL i) : v_X2_append h (tx i) (fun _ h' => h' 0 0 = nI (i + 1) ∧ h' 2 = txL (i + 1)) := by
  unfold v_X2_append
  rw [e0, show z_n (nI i) = i from nI_clamp (by omega)]
  refine ⟨fun _ => ⟨nI_in (by omega) (by omega), fun h3 e3 h4 e4 => ⟨?_, ?_⟩⟩, fun c => absurd (nI_lt (a := i) (b := 200) (by omega) (by omega)) c⟩
  · rw [e4, z_ss_same, upd_eq, e3, z_ss_ne (by decide), e0, nI_1]
  · rw [e4, z_ss_ne (by decide), e3, z_ss_same, e2, txL_up]
theorem s_read5 {h : z_G} (e0 : h 0 0 = nI 73) (e2 : h 2 = txL 73) : v_X2_readInto 0 (z_up zz 13 h) (fun _ X' => ∃ h' : z_G, X' = z_up (z_up zz 13 h') 0 hE5) := by
  refine s_into0 (L := txL 73) (len := 73) (by rw [z_up_same]; exact ⟨e0, e2⟩) (by omega) (by rw [z_up_ne (by decide)]; exact zz_NF) (fun h' _ _ => ⟨h', ?_⟩)
  rw [z_up_up, z_up_ne (show 0 ≠ 13 by decide)]
  rfl
set_option maxHeartbeats 8000000 in
set_option maxRecDepth 100000 in
theorem x5_tail {p : Program} (l : Launch) {e : Env} {s : State} {m : MethodId} {below : List Frame} {meth : Method} {c : Code} (D : va_G) (h0 qs vs : Nat) {A : Nat → Prop} {cI cH : ClassId} {aa : Nat → Nat → Nat} {H : Heap} {locs : List Loc} {ls : Array Slot} (hx : p.tables.exec = Jvm.exec) (hb : c.code = cX5_init) (hml : c.maxLocals = 2) (hr : meth.sig.returnType = none) (hlocks : meth.locks = false) (hown : s.vm.findClass RX5 = some m.cls) (hts : ∀ w ∈ wsX5_init, w.before ([.ref h0] : List Value).toArray s = true) (hN : z_N s) (hR : vk_R RX5 52 txS qs s) (hV : SV A qs vs s s.heap) (hK : va_K D vwCl [(cI, .int), (cH, .object RX1)] s) (h18 : aa 18 0 = h0) (hP : va_P D vwCl (z_w (e5 D cI cH aa) zz) H) (hD : va_D A (z_w (e5 D cI cH aa) zz)) (hS : va_S A s.heap H locs) (hl : lv_has ls 2 [(1, .int (0 : Int32)), (0, .ref h0)]) :
    W p l e rkX5 s m ([.ref h0] : List Value).toArray below meth c H locs 142 1273 (MQ below (va_Qv (fun _ : Unit => True) (fun _ t => ∃ (cI cH : ClassId) (aa : Nat → Nat → Nat) (X : z_X), aa 18 0 = h0 ∧ St5 X ∧ va_P D vwCl (z_w (e5 D cI cH aa) X) t.heap ∧ va_K D vwCl [(cI, .int), (cH, .object RX1)] t ∧ va_D A (z_w (e5 D cI cH aa) X)) A) ([.ref h0] : List Value).toArray s 142 1273 A) (F0 m 86 ls []) := by
  subst h18
  obtain ⟨E, hEe⟩ : ∃ E : z_E, E = e5 D cI cH aa := ⟨_, rfl⟩
  have hE : z_ok E := by rw [hEe]; exact z_ok_of c5_nd hD
  have hC : z_cls E := by rw [hEe]; exact c5_cls
  have hKE : z_K E s := by rw [hEe]; exact ⟨hK, hN⟩
  have hPE : z_P E (z_up zz 13 (zz 13)) H := by rw [hEe, z_up_self]; exact hP
  have hsub : ∀ q, z_A E q → A q := by rw [hEe]; exact z_A_sub hD
  have ea : aa 18 0 = z_a E 18 0 := by rw [hEe]; rfl
  have hfX5 : ∀ w ∈ u_ws RX5 TX5 7, w ∈ wsX5_init := by decide +kernel
  have hfX2 : ∀ w ∈ u_ws RX2 TX2 4, w ∈ wsX5_init := by decide +kernel
  have h13 : (13, 0) ∈ z_c E := hC.2 (13, 0) (List.mem_of_getElem? (i := 0) rfl)
  have h18 : (18, 0) ∈ z_c E := hC.2 (18, 0) (List.mem_of_getElem? (i := 12) rfl)
  have hVH : ∀ (H : Heap) (locs : List Loc), va_S A s.heap H locs → SV noA qs vs s H := fun H locs hS => (hV.kept hS.2.1).narrow (fun _ h => h.elim)
  have hrec : ∀ (H : Heap) (locs : List Loc), va_S A s.heap H locs → ∃ cell : Cell, H[qs]? = some cell ∧ cell.vm.isStatics = false ∧ s.vm.findClass RJ0 = some cell.cls := fun H locs hS => by
    obtain ⟨cell, h1, h2, h3, -⟩ := (hVH H locs hS).1
    exact ⟨cell, h1, h2, h3⟩
  have loop : ∀ (k i : Nat) (h : z_G) (H : Heap) (locs : List Loc) (ls : Array Slot), 73 - i = k → i ≤ 73 → h 0 0 = nI i → h 2 = txL i → z_P E (z_up zz 13 h) H → va_S A s.heap H locs → lv_has ls 2 [(1, .int (nI i)), (0, .ref (z_a E 18 0))] →
      W p l e rkX5 s m ([.ref (aa 18 0)] : List Value).toArray below meth c H locs 142 1273 (MQ below (va_Qv (fun _ : Unit => True) (fun _ t => ∃ (cI cH : ClassId) (ab : Nat → Nat → Nat) (X : z_X), ab 18 0 = aa 18 0 ∧ St5 X ∧ va_P D vwCl (z_w (e5 D cI cH ab) X) t.heap ∧ va_K D vwCl [(cI, .int), (cH, .object RX1)] t ∧ va_D A (z_w (e5 D cI cH ab) X)) A) ([.ref (aa 18 0)] : List Value).toArray s 142 1273 A) (F0 m 86 ls []) := by
    intro k
    induction k with
    | zero =>
      intro i h H locs ls hk hi e0 e2 hP hS hl
      have hi : i = 73 := by omega
      subst hi
      refine lv_iload_n hx hb dX5_init_86 rfl (lv_at hl 0 rfl) ?_
      refine va_ldcS hx hb hown hR dX5_init_87 ?_
      refine va_csr (va_runV (As := []) (rest := [.int (nI 73)]) ⟨hx, hb, hml, hown, hts⟩ (j_length l qs vs) (cwV 0 hts gX5_init_J0_length_8abf5 rfl rfl rfl (by decide +kernel) ⟨Nat.le_of_ble_eq_true rfl, Nat.le_of_ble_eq_true rfl⟩) ⟨SV_blind _ qs vs, hrec H locs hS, SV_pre (hVH H locs hS) _⟩ rfl rfl hl.1 rfl (lv_room (Nat.le_of_ble_eq_true rfl)) dX5_init_89 ⟨Nat.le_of_ble_eq_true rfl, Nat.le_of_ble_eq_true rfl⟩).run (fun _ _ => ?_)
      refine lv_icmp_ge (tgt := 115) hx hb dX5_init_92 (by decide) (fun _ => ?_) (fun c4 => absurd (Int32.le_refl _) c4)
      refine lv_aload_n hx hb dX5_init_115 rfl (lv_at hl 1 rfl) ?_
      refine z_getr (C := RX5) (T := TX5) (N := 7) (ref := "GauntletHall") (o := 18) (d := 0) hx hb hts hfX5 hown hKE hP h18 z_l_18_0 rfl 0 (by decide) (hts (.fieldLink RX5 10 "GauntletHall" "text" "LGauntletHall$Scroll;") (by decide +kernel)) rfl rfl dX5_init_116 ?_
      refine lv_aload_n hx hb dX5_init_119 rfl (lv_at hl 1 rfl) ?_
      refine z_getr (C := RX5) (T := TX5) (N := 7) (ref := "GauntletHall") (o := 18) (d := 0) hx hb hts hfX5 hown hKE hP h18 z_l_18_0 rfl 1 (by decide) (hts (.fieldLink RX5 19 "GauntletHall" "hall" "LGauntletHall$Hall;") (by decide +kernel)) rfl rfl dX5_init_120 ?_
      refine y_vi (C := RX2) (T := TX2) (N := 4) (o := 13) (As := [.ref (z_a E 0 0)]) (rest := []) ⟨hx, hb, hml, hown, hts⟩ (m_X2_readInto l hE hC 0 (by decide) (z_up zz 13 h) _ (s_read5 e0 e2)) (cwV 1 hts gX5_init_X2_readInto rfl rfl rfl (by decide +kernel) ⟨Nat.le_of_ble_eq_true rfl, Nat.le_of_ble_eq_true rfl⟩) hKE hP hsub hS h13 z_l_13_0 rfl rfl hl.1 rfl (Nat.le_of_ble_eq_true rfl) dX5_init_123 ⟨Nat.le_of_ble_eq_true rfl, Nat.le_of_ble_eq_true rfl⟩ (fun r u H locs hk hP hS => ?_)
      obtain ⟨h', rfl⟩ := hk
      refine lv_pop hx hb dX5_init_126 rfl ?_
      refine lv_aload_n hx hb dX5_init_127 rfl (lv_at hl 1 rfl) ?_
      refine z_getr (C := RX5) (T := TX5) (N := 7) (ref := "GauntletHall") (o := 18) (d := 0) hx hb hts hfX5 hown hKE hP h18 z_l_18_0 rfl 0 (by decide) (hts (.fieldLink RX5 10 "GauntletHall" "text" "LGauntletHall$Scroll;") (by decide +kernel)) rfl rfl dX5_init_128 ?_
      refine lv_iconst (v := (0 : Int32)) hx hb dX5_init_131 (by decide) ?_
      obtain ⟨Y3, eY3⟩ : ∃ z : z_X, z = z_up (z_up (z_up zz 13 h') 0 hE5) 13 (z_ss (z_up (z_up zz 13 h') 0 hE5 13) 0 0 (0 : Int32)) := ⟨_, rfl⟩
      refine y_puti (C := RX2) (T := TX2) (N := 4) (ref := "GauntletHall$Scroll") (o := 13) (d := 0) (X' := Y3) hx hb hts hfX2 tyX2 tyX2_ok nmX2 hown hKE hE hP hsub hS h13 z_l_13_0 rfl 0 (by decide) (hts (.fieldLink RX5 72 "GauntletHall$Scroll" "length" "I") (by decide +kernel)) rfl rfl (by decide +kernel) rfl eY3.symm dX5_init_132 (fun H locs hP hS => ?_)
      have hSt : St5 Y3 := by
        refine ⟨?_, ?_, fun o a b => ?_⟩
        · rw [eY3, z_up_same, z_ss_same, upd_eq]
        · rw [eY3, z_up_ne (by decide), z_up_same]
        · rw [eY3, z_up_ne b, z_up_ne a, z_up_ne b]
      rw [hEe] at hP
      exact W.vret hx hb hr (fun t ht hW => ⟨⟨(), rfl, trivial, cI, cH, aa, Y3, rfl, hSt, (by rw [ht]; exact hP), va_K.moved hW.alike hK, z_D_any hD⟩, hS.F ht⟩) hS.2.2 dX5_init_135 hlocks
    | succ k ih =>
      intro i h H locs ls hk hi e0 e2 hP hS hl
      have hi7 : i < 73 := by omega
      refine lv_iload_n hx hb dX5_init_86 rfl (lv_at hl 0 rfl) ?_
      refine va_ldcS hx hb hown hR dX5_init_87 ?_
      refine va_csr (va_runV (As := []) (rest := [.int (nI i)]) ⟨hx, hb, hml, hown, hts⟩ (j_length l qs vs) (cwV 0 hts gX5_init_J0_length_8abf5 rfl rfl rfl (by decide +kernel) ⟨Nat.le_of_ble_eq_true rfl, Nat.le_of_ble_eq_true rfl⟩) ⟨SV_blind _ qs vs, hrec H locs hS, SV_pre (hVH H locs hS) _⟩ rfl rfl hl.1 rfl (lv_room (Nat.le_of_ble_eq_true rfl)) dX5_init_89 ⟨Nat.le_of_ble_eq_true rfl, Nat.le_of_ble_eq_true rfl⟩).run (fun _ _ => ?_)
      refine lv_icmp_ge (tgt := 115) hx hb dX5_init_92 (by decide) (fun c4 => absurd c4 (nI_ge hi7 (by omega))) (fun _ => ?_)
      refine lv_aload_n hx hb dX5_init_95 rfl (lv_at hl 1 rfl) ?_
      refine z_getr (C := RX5) (T := TX5) (N := 7) (ref := "GauntletHall") (o := 18) (d := 0) hx hb hts hfX5 hown hKE hP h18 z_l_18_0 rfl 0 (by decide) (hts (.fieldLink RX5 10 "GauntletHall" "text" "LGauntletHall$Scroll;") (by decide +kernel)) rfl rfl dX5_init_96 ?_
      refine va_ldcS hx hb hown hR dX5_init_99 ?_
      refine lv_iload_n hx hb dX5_init_101 rfl (lv_at hl 0 rfl) ?_
      refine va_csr (va_runV (As := [.int (nI i)]) (rest := [.ref (z_a E 13 0)]) ⟨hx, hb, hml, hown, hts⟩ (j_charAt l qs vs i hi7) (cwV 1 hts gX5_init_J0_charAt_5068e rfl rfl rfl (by decide +kernel) ⟨Nat.le_of_ble_eq_true rfl, Nat.le_of_ble_eq_true rfl⟩) ⟨SV_blind _ qs vs, hrec H locs hS, SV_pre (hVH H locs hS) _⟩ rfl rfl hl.1 rfl (lv_room (Nat.le_of_ble_eq_true rfl)) dX5_init_102 ⟨Nat.le_of_ble_eq_true rfl, Nat.le_of_ble_eq_true rfl⟩).run (fun _ _ => ?_)
      refine y_vi (C := RX2) (T := TX2) (N := 4) (o := 13) (As := [.int (tx i)]) (rest := []) ⟨hx, hb, hml, hown, hts⟩ (m_X2_append l hE hC zz h (tx i) _ (s_append5 hi7 e0 e2)) (cwV 1 hts gX5_init_X2_append rfl rfl rfl (by decide +kernel) ⟨Nat.le_of_ble_eq_true rfl, Nat.le_of_ble_eq_true rfl⟩) hKE hP hsub hS h13 z_l_13_0 rfl rfl hl.1 rfl (Nat.le_of_ble_eq_true rfl) dX5_init_105 ⟨Nat.le_of_ble_eq_true rfl, Nat.le_of_ble_eq_true rfl⟩ (fun r u H locs hk hP hS => ?_)
      obtain ⟨h', rfl, e0, e2⟩ := hk
      refine lv_pop hx hb dX5_init_108 rfl ?_
      refine lv_iinc (v := nI (i + 1)) (lv' := [(1, .int (nI (i + 1))), (0, .ref (z_a E 18 0))]) hx hb dX5_init_109 hl (k := 0) rfl (nI_1 i) (by decide) rfl (fun ls hl => ?_)
      refine lv_goto (tgt := 86) hx hb dX5_init_112 (by decide) ?_
      exact ih (i + 1) h' H locs ls (by omega) (by omega) e0 e2 hP hS hl
  exact loop 73 0 (zz 13) H locs ls (by omega) (by omega) rfl (by funext j; unfold txL; rw [if_neg (Nat.not_lt_zero j)]) hPE hS (by rw [← ea]; exact hl)
