/-! ===== THE LAW: from its entry ===== -/
theorem lw_nw : ∀ w ∈ z_nw, w ∈ lw_tbl ∧ w.onTables = true := by decide +kernel
theorem lw_uX0 : ∀ w ∈ u_ws RX0 TX0 1, w ∈ wsL_law := by decide +kernel
theorem lw_uX1 : ∀ w ∈ u_ws RX1 TX1 13, w ∈ wsL_law := by decide +kernel
theorem lw_uX2 : ∀ w ∈ u_ws RX2 TX2 4, w ∈ wsL_law := by decide +kernel
theorem lw_uX3 : ∀ w ∈ u_ws RX3 TX3 3, w ∈ wsL_law := by decide +kernel
theorem lw_uX4 : ∀ w ∈ u_ws RX4 TX4 4, w ∈ wsL_law := by decide +kernel
theorem lw_uX5 : ∀ w ∈ u_ws RX5 TX5 7, w ∈ wsL_law := by decide +kernel
theorem lw_uX6 : ∀ w ∈ u_ws RX6 TX6 15, w ∈ wsL_law := by decide +kernel
theorem lw_ao : Cond.arrayOver (.object RX1) ∈ lw_tbl := by decide +kernel
theorem lw_sr : Cond.stringRef RX5 52 txS ∈ lw_tbl := by decide +kernel
theorem lw_ls0 : Cond.laysStatic "java/lang/String" "COMPACT_STRINGS" "Z" ∈ lw_tbl := by decide +kernel
theorem lw_ls3 : Cond.laysStatic "jdk/internal/util/Preconditions" "SIOOBE_FORMATTER" "Ljava/util/function/BiFunction;" ∈ lw_tbl := by decide +kernel
theorem lw_in0 : Cond.initialized "java/lang/String" ∈ lw_tbl := by decide +kernel
theorem lw_in3 : Cond.initialized "jdk/internal/util/Preconditions" ∈ lw_tbl := by decide +kernel
theorem lw_el : ∀ j, j < 73 → Cond.eq (.elem (.field (.string "GauntletHall" 52) "java/lang/String" "value" "[B") (.int (Int32.ofNat j))) (.int (tx j)) ∈ flatC (Jvm.Cond.and given_1 narrow_1) := by decide +kernel
theorem lw_SV {s : State} {b : Nat} (hts : ∀ w ∈ lw_tbl, w.before #[Value.ref b] s = true) (hgv : (Jvm.Cond.and given_1 narrow_1).before #[Value.ref b] s = true) : ∃ qs vs : Nat, vk_R RX5 52 txS qs s ∧ SV (fun q => s.heap.size ≤ q) qs vs s s.heap := by
  have hs := flat_of_before _ hgv
  have hA : ∀ a : Nat, a < s.heap.size → ¬ (fun q : Nat => s.heap.size ≤ q) a := fun a h => Nat.not_le.mpr h
  have one : ∀ i : Nat, i < 1 → i = 0 := fun i h => by omega
  obtain ⟨adK, adV, hS, hE⟩ := vk_Sof (args := #[Value.ref b]) (s := s) (N := 1) (tm := fun _ => .string "GauntletHall" 52) (len := [73]) (byt := [txb]) (A := fun q => s.heap.size ≤ q)
    (fun i hi => by rw [one i hi]; decide)
    (fun i hi => hs (.exactly (.string "GauntletHall" 52) "java/lang/String") (by decide +kernel))
    (fun i hi => hs (.eq (.field (.string "GauntletHall" 52) "java/lang/String" "coder" "B") (.int 0)) (by decide +kernel))
    (fun i hi => hs (.arrayOf (.field (.string "GauntletHall" 52) "java/lang/String" "value" "[B") .byte) (by decide +kernel))
    (fun i hi => by rw [one i hi]; exact hs (.eq (.length (.field (.string "GauntletHall" 52) "java/lang/String" "value" "[B")) (.int 73)) (by decide +kernel))
    (fun i hi j hj => by
      rw [one i hi] at hj ⊢
      exact hs _ (lw_el j hj))
    (fun i j hi hj h => absurd ((one i hi).trans (one j hj).symm) h) hA
  obtain ⟨h1, h2, h3, h4⟩ := hS.1 0 (by decide)
  refine ⟨adK 0, adV 0, vk_R.of (hts _ lw_sr) (hE 0 (by decide)), h1, h2, h3, h4, ?_, ?_⟩
  · exact va_Zof (hts _ lw_ls0) (hts _ lw_in0) (va_eqi (hs (.eq (.static "java/lang/String" "COMPACT_STRINGS" "Z") (.int 1)) (by decide +kernel))) hA
  · exact va_Zqof (hts _ lw_ls3) (hts _ lw_in3) (hs (.isRef (.static "jdk/internal/util/Preconditions" "SIOOBE_FORMATTER" "Ljava/util/function/BiFunction;")) (by decide +kernel)) hA
set_option maxHeartbeats 8000000 in
set_option maxRecDepth 100000 in
theorem whole_start {p : Program} {e : Env} {s : State} {m : MethodId} {below : List Frame} {meth : Method} {c : Code} (l : Launch) (hflags : l.flags = flags0) {b L : Nat} {xs : Nat → Int32} (hL : L ≤ 256) (C0 : lw_At p s m meth c b L xs) : W p l e room_1 s m #[Value.ref b] below meth c s.heap [] 0 0 (lw_Z below #[Value.ref b] s) (entryFrame m ([Value.ref b] : List Value).toArray 4) := by
  obtain ⟨hx, hb, hr, hml, hown, htb, hX, hbl, hlocks, hgv⟩ := id C0
  have hb : c.code = cL_law := hb
  have hown : s.vm.findClass RL = some m.cls := hown
  have hts : ∀ w ∈ wsL_law, w.before #[Value.ref b] s = true := fun w h => htb w (wsL_law_in w h)
  have hA : ∀ q : Nat, s.heap.size ≤ q → (fun q : Nat => s.heap.size ≤ q) q := fun _ h => h
  have hbA : ¬ (fun q : Nat => s.heap.size ≤ q) b := Nat.not_le.mpr hbl
  obtain ⟨c0, i0, k0⟩ := u_known (C := RX0) (T := TX0) (N := 1) (n := 1) hts lw_uX0 (hts (.instantiable RX0 1) (by decide +kernel))
  obtain ⟨c1, i1, k1⟩ := u_known (C := RX1) (T := TX1) (N := 13) (n := 13) hts lw_uX1 (hts (.instantiable RX1 13) (by decide +kernel))
  obtain ⟨c2, i2, k2⟩ := u_known (C := RX2) (T := TX2) (N := 4) (n := 4) hts lw_uX2 (hts (.instantiable RX2 4) (by decide +kernel))
  obtain ⟨c3, i3, k3⟩ := u_known (C := RX3) (T := TX3) (N := 3) (n := 3) hts lw_uX3 (hts (.instantiable RX3 3) (by decide +kernel))
  obtain ⟨c4, i4, k4⟩ := u_known (C := RX4) (T := TX4) (N := 4) (n := 4) hts lw_uX4 (hts (.instantiable RX4 4) (by decide +kernel))
  obtain ⟨c5v, i5, k5⟩ := u_known (C := RX5) (T := TX5) (N := 7) (n := 7) hts lw_uX5 (hts (.instantiable RX5 7) (by decide +kernel))
  obtain ⟨c6, i6, k6⟩ := u_known (C := RX6) (T := TX6) (N := 15) (n := 15) hts lw_uX6 (hts (.instantiable RX6 15) (by decide +kernel))
  obtain ⟨D, hKc⟩ : ∃ D : va_G, ∀ (k : Nat) (q : vw_C), vwCl[k]? = some q → u_Kn s q.1 q.2.1 q.2.2 (D.1 k) (D.2 k) := by
    refine ⟨(fun k => match k with | 0 => c0 | 1 => c1 | 2 => c2 | 3 => c3 | 4 => c4 | 5 => c5v | _ => c6, fun k => match k with | 0 => i0 | 1 => i1 | 2 => i2 | 3 => i3 | 4 => i4 | 5 => i5 | _ => i6), ?_⟩
    intro k q hq
    match k, hq with
    | 0, hq => cases hq; exact k0
    | 1, hq => cases hq; exact k1
    | 2, hq => cases hq; exact k2
    | 3, hq => cases hq; exact k3
    | 4, hq => cases hq; exact k4
    | 5, hq => cases hq; exact k5
    | 6, hq => cases hq; exact k6
    | k + 7, hq => simp [vwCl] at hq
  have hN : z_N s := fun w hw => va_Nw.of (lw_nw w hw).2 (htb w (lw_nw w hw).1)
  have hO : va_AO RX1 s := va_AO.of (htb _ lw_ao)
  obtain ⟨qs, vs, hR, hV⟩ := lw_SV htb hgv
  have hS : va_S (fun q : Nat => s.heap.size ≤ q) s.heap s.heap [] := va_S.rf
  have hK : va_K D vwCl [] s := ⟨hKc, fun k q h => by simp at h⟩
  have hP : va_P D vwCl [] s.heap := fun k q h => by simp at h
  have hD : va_D (fun q : Nat => s.heap.size ≤ q) [] := ⟨fun i j p q h => by simp at h, fun k q h => by simp at h⟩
  have hl := lv_entry ([.ref b]) (n := 4) (Nat.le_of_ble_eq_true rfl)
  rw [lg_entry_eq]
  generalize (lg_sl ([.ref b]) ++ List.replicate (4 - (lg_sl ([.ref b])).length) Slot.unset).toArray = ls at hl ⊢
  have hl : lv_has ls 4 [(0, .ref b)] := hl
  refine va_new (ci := 5) (fs := nX5) (C := RX5) (T := TX5) (N := 7) hx hb hts lw_uX5 tyX5 tyX5_ok hown (hts (.classLink RL 7 RX5) (by decide +kernel)) (hts (.instantiable RX5 7) (by decide +kernel)) (hts (.initialized RX5) (by decide +kernel)) hK hP hD hS hA rfl (by decide +kernel) (Nat.le_of_ble_eq_true rfl) (Nat.le_of_ble_eq_true rfl) dL_law_0 (fun q5 H hP hD hS => ?_)
  refine W.widen (k := 1) (n := 7) (Nat.le_of_ble_eq_true rfl) (Nat.le_of_ble_eq_true rfl) ?_
  refine lv_dup hx hb dL_law_3 rfl ?_
  have hPc := jl_P hP
  have hDc := jl_D hD
  have hFc := jl_F hD hS hA
  have hVc := (hV.kept hS.2.1).narrow hFc
  refine va_callv (va_runI (As := []) (rest := [.ref q5]) ⟨hx, hb, hml, hown, hts⟩ (k_X5 l D q5 H.size qs vs) ⟨callB_of 0 hts gL_law_X5_init rfl rfl rfl (hts (.initialized RX5) (by decide +kernel)) (hts (.methodLink RL 9 yX5_init) (by decide +kernel)) (by decide +kernel) ⟨Nat.le_of_ble_eq_true rfl, Nat.le_of_ble_eq_true rfl⟩, rfl, hts (.instanceMethod yX5_init) (by decide +kernel)⟩ ⟨fun a U g mk z => by obtain ⟨z0, z1, zP, ⟨zK, zN, zO, zR, zV⟩, zD⟩ := z; exact ⟨z0, z1, zP, ⟨va_K.moved (u := U) (U := U.calling g mk a) (Vm.Alike.refl U.vm) zK, z_N.same (s := U) (U := U.calling g mk a) rfl zN, va_AO.moved (u := U) (U := U.calling g mk a) (Vm.Alike.refl U.vm) zO, vk_R.same (u := U) (U := U.calling g mk a) rfl zR, SV.moved (u := U) (U := U.calling g mk a) (Vm.Alike.refl U.vm) zV⟩, zD⟩, fun U hU hW => ⟨rfl, by rw [hU], by rw [hU]; exact hPc, ⟨va_K.moved hW.alike hK, hN.warm hW, hO.moved hW.alike, hR.warm hW, by rw [hU]; exact hVc.moved hW.alike⟩, hDc.weaken (fun _ _ _ _ => trivial)⟩⟩ rfl rfl hl.1 rfl (lv_room (Nat.le_of_ble_eq_true rfl)) dL_law_4 ⟨Nat.le_of_ble_eq_true rfl, Nat.le_of_ble_eq_true rfl⟩) hS (fun q _ h => hFc q h) hFc (fun u t H1 locs ht hvm _ hB hz1 hk1 hS => ?_)
  obtain ⟨cI, cH, aa, X, ea, hSt, hP1, hK1, hD1⟩ := hB
  subst ea
  rw [ht] at hP1
  have hK := va_K.moved hvm.symm hK1
  obtain ⟨hP, hD⟩ := jl_J hP hD hk1 hFc hP1 hD1
  generalize H1 = H at hP hS ⊢
  have hP : va_P D vwCl (z_w (e5 D cI cH aa) X) H := hP
  have hD : va_D (fun q : Nat => s.heap.size ≤ q) (z_w (e5 D cI cH aa) X) := hD
  refine W.widen (k := 143) (n := 1280) (Nat.le_of_ble_eq_true rfl) (Nat.le_of_ble_eq_true rfl) ?_
  refine lv_astore_n (lv' := [(1, .ref (aa 18 0)), (0, .ref b)]) hx hb dL_law_7 rfl hl (by decide) rfl (fun ls hl => ?_)
  refine va_new (ci := 6) (fs := nX6) (C := RX6) (T := TX6) (N := 15) hx hb hts lw_uX6 tyX6 tyX6_ok hown (hts (.classLink RL 10 RX6) (by decide +kernel)) (hts (.instantiable RX6 15) (by decide +kernel)) (hts (.initialized RX6) (by decide +kernel)) hK hP hD hS hA rfl (by decide +kernel) (Nat.le_of_ble_eq_true rfl) (Nat.le_of_ble_eq_true rfl) dL_law_8 (fun q6 H hP hD hS => ?_)
  refine W.widen (k := 144) (n := 1295) (Nat.le_of_ble_eq_true rfl) (Nat.le_of_ble_eq_true rfl) ?_
  refine lv_dup hx hb dL_law_11 rfl ?_
  have hPc := jl_P hP
  have hDc := jl_D hD
  have hFc := jl_F hD hS hA
  refine va_callv (va_runI (As := []) (rest := [.ref q6]) ⟨hx, hb, hml, hown, hts⟩ (k_X6 l D cI cH q6 H.size) ⟨callB_of 0 hts gL_law_X6_init rfl rfl rfl (hts (.initialized RX6) (by decide +kernel)) (hts (.methodLink RL 12 yX6_init) (by decide +kernel)) (by decide +kernel) ⟨Nat.le_of_ble_eq_true rfl, Nat.le_of_ble_eq_true rfl⟩, rfl, hts (.instanceMethod yX6_init) (by decide +kernel)⟩ ⟨fun a U g mk z => by obtain ⟨z0, z1, zP, ⟨zK, zN⟩, zD⟩ := z; exact ⟨z0, z1, zP, ⟨va_K.moved (u := U) (U := U.calling g mk a) (Vm.Alike.refl U.vm) zK, z_N.same (s := U) (U := U.calling g mk a) rfl zN⟩, zD⟩, fun U hU hW => ⟨rfl, by rw [hU], by rw [hU]; exact hPc, ⟨va_K.moved hW.alike hK, hN.warm hW⟩, hDc.weaken (fun _ _ _ _ => trivial)⟩⟩ rfl rfl hl.1 rfl (lv_room (Nat.le_of_ble_eq_true rfl)) dL_law_12 ⟨Nat.le_of_ble_eq_true rfl, Nat.le_of_ble_eq_true rfl⟩) hS (fun q _ h => hFc q h) hFc (fun u t H1 locs ht hvm _ hB hz1 hk1 hS => ?_)
  obtain ⟨a6, Y, eb, hS6, hP1, hD1⟩ := hB
  subst eb
  rw [ht] at hP1
  obtain ⟨hP, hD⟩ := jl_J hP hD hk1 hFc hP1 hD1
  generalize H1 = H at hP hS ⊢
  rw [wL_eq] at hP hD
  refine W.widen (k := 154) (n := 2088) (Nat.le_of_ble_eq_true rfl) (Nat.le_of_ble_eq_true rfl) ?_
  obtain ⟨E, hEe⟩ : ∃ E : z_E, E = eL D cI cH aa a6 := ⟨_, rfl⟩
  have e18 : aa 18 0 = z_a E 18 0 := by rw [hEe]; rfl
  have e19 : a6 0 = z_a E 19 0 := by rw [hEe]; rfl
  have hE : z_ok E := by rw [hEe]; exact z_ok_of cL_nd hD
  have hC : z_cls E := by
    rw [hEe]
    have h5 : z_cls (e5 D cI cH aa) := c5_cls
    exact ⟨fun o ho z hz => List.mem_append_left _ (h5.1 o ho z hz), fun z hz => List.mem_append_left _ (h5.2 z hz)⟩
  have hM : z_mod E := by rw [hEe]; exact fun z hz => List.mem_append_right _ hz
  have hKE : z_K E s := by rw [hEe]; exact ⟨hK, hN⟩
  have hsub : ∀ q, z_A E q → s.heap.size ≤ q := by rw [hEe]; exact z_A_sub hD
  have hPE : z_P E (xL X Y) H := by rw [hEe]; exact hP
  have hRL : RLE (xL X Y) := start_RL hSt.1 hSt.2.1 (fun o h0 h13 h19 => (if_neg h19).trans (hSt.2.2 o h0 h13)) hS6
  rw [e18] at hl
  rw [e19]
  refine lv_astore_n (lv' := [(2, .ref (z_a E 19 0)), (1, .ref (z_a E 18 0)), (0, .ref b)]) hx hb dL_law_15 rfl hl (by decide) rfl (fun ls hl => ?_)
  refine lv_iconst (v := nI 0) hx hb dL_law_16 (by decide) ?_
  refine lv_istore_n (lv' := [(3, .int (nI 0)), (2, .ref (z_a E 19 0)), (1, .ref (z_a E 18 0)), (0, .ref b)]) hx hb dL_law_17 rfl hl (by decide) rfl (fun ls hl => ?_)
  exact q_loop l ⟨hx, hb, hml, hown, hts, hX, hbl, hbA, hKE, hE, hC, hM, hsub⟩ hL hr hlocks 260 0 (xL X Y) H locs ls (by omega) (by omega) hRL hPE hS (lv_sub hl [3, 2, 1, 0] rfl)
