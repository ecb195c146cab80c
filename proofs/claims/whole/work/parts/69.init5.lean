/-! ===== THE CONSTRUCTORS: GauntletHall ===== -/
def nX5 : List Value := [.null, .null, .null, .null, .null, .null, .null]
set_option maxHeartbeats 8000000 in
set_option maxRecDepth 100000 in
theorem k_X5 (l : Launch) (D : va_G) (h0 sz qs vs : Nat) : Met l yX5_init wsX5_init rkX5 (va_Pc [.ref h0] (fun U => U.heap.size = sz ∧ va_P D vwCl [(h0, .inr (5, nX5))] U.heap ∧ (va_K D vwCl [] U ∧ z_N U ∧ va_AO RX1 U ∧ vk_R RX5 52 txS qs U ∧ SV (va_A [(h0, .inr (5, nX5))] sz) qs vs U U.heap) ∧ va_D (fun _ => True) [(h0, .inr (5, nX5))])) (va_Qv (fun _ : Unit => True) (fun _ t => ∃ (cI cH : ClassId) (aa : Nat → Nat → Nat) (X : z_X), aa 18 0 = h0 ∧ St5 X ∧ va_P D vwCl (z_w (e5 D cI cH aa) X) t.heap ∧ va_K D vwCl [(cI, .int), (cH, .object RX1)] t ∧ va_D (va_A [(h0, .inr (5, nX5))] sz) (z_w (e5 D cI cH aa) X)) (va_A [(h0, .inr (5, nX5))] sz)) 142 1273 (va_A [(h0, .inr (5, nX5))] sz) := by
  refine Met.ofW (cc := cX5_init) (maxL := 2) (ret := none) (by decide) rfl ?_
  intro p e s m args below meth c s₁ B hml hv
  obtain ⟨rfl, hsz, hP, ⟨hK, hN, hO, hR, hV⟩, hD0⟩ := hv
  have hx := B.exec
  have hb := B.bytes
  have hr := B.returns
  have hts := atoms_spec (ws := wsX5_init) B.pre
  have hown : s.vm.findClass RX5 = some m.cls := findClass_of_methodNamed B.named
  have hlocks := B.notSynchronized
  have hin : meth.name = "<init>" := (name_of_methodNamed B.named B.method).1
  have hfX5 : ∀ w ∈ u_ws RX5 TX5 7, w ∈ wsX5_init := by decide +kernel
  have hfX2 : ∀ w ∈ u_ws RX2 TX2 4, w ∈ wsX5_init := by decide +kernel
  have hfX1 : ∀ w ∈ u_ws RX1 TX1 13, w ∈ wsX5_init := by decide +kernel
  have hfX3 : ∀ w ∈ u_ws RX3 TX3 3, w ∈ wsX5_init := by decide +kernel
  have hfX4 : ∀ w ∈ u_ws RX4 TX4 4, w ∈ wsX5_init := by decide +kernel
  have hfX0 : ∀ w ∈ u_ws RX0 TX0 1, w ∈ wsX5_init := by decide +kernel
  subst hsz
  have hD := hD0.self (sz := s.heap.size)
  generalize hAe : va_A [(h0, .inr (5, nX5))] s.heap.size = A at hD hV ⊢
  have hA : ∀ q : Nat, s.heap.size ≤ q → A q := fun q h => by rw [← hAe]; exact Or.inr h
  have hS : va_S A s.heap s.heap [] := va_S.rf
  have hP : va_P D vwCl [(h0, .inr (5, [.null, .null, .null, .null, .null, .null, .null]))] s.heap := hP
  have hD : va_D A [(h0, .inr (5, [.null, .null, .null, .null, .null, .null, .null]))] := hD
  have hl := lv_entry ([.ref h0]) (n := 2) (Nat.le_of_ble_eq_true rfl)
  rw [lg_entry_eq]
  generalize (lg_sl ([.ref h0]) ++ List.replicate (2 - (lg_sl ([.ref h0])).length) Slot.unset).toArray = ls at hl ⊢
  have hl : lv_has ls 2 [(0, .ref h0)] := hl
  refine lv_aload_n hx hb dX5_init_0 rfl (lv_at hl 0 rfl) ?_
  refine W.objInit hx hb hown (hts (.methodLink RX5 1 objectInit) (by decide +kernel)) (hts (.instanceMethod objectInit) (by decide +kernel)) (hts _ (List.mem_of_getElem? (i := 3) rfl)) rfl (by rw [hml]; exact hl.1) rfl dX5_init_1 (Nat.le_of_ble_eq_true rfl) (Nat.le_of_ble_eq_true rfl) ?_
  refine W.eq (g2 := F0 m 4 ls []) rfl ?_
  refine lv_aload_n hx hb dX5_init_4 rfl (lv_at hl 0 rfl) ?_
  refine va_new (ci := 2) (fs := nX2) (C := RX2) (T := TX2) (N := 4) hx hb hts hfX2 tyX2 tyX2_ok hown (hts (.classLink RX5 7 RX2) (by decide +kernel)) (hts (.instantiable RX2 4) (by decide +kernel)) (hts (.initialized RX2) (by decide +kernel)) hK hP hD hS hA rfl (by decide +kernel) (Nat.le_of_ble_eq_true rfl) (Nat.le_of_ble_eq_true rfl) dX5_init_5 (fun q10 H hP hD hS => ?_)
  have hP : va_P D vwCl (((h0, .inr (5, [.null, .null, .null, .null, .null, .null, .null])) :: ([])) ++ [(q10, .inr (2, nX2))]) H := hP
  have hD : va_D A (((h0, .inr (5, [.null, .null, .null, .null, .null, .null, .null])) :: ([])) ++ [(q10, .inr (2, nX2))]) := hD
  refine W.widen (k := 1) (n := 4) (Nat.le_of_ble_eq_true rfl) (Nat.le_of_ble_eq_true rfl) ?_
  refine lv_dup hx hb dX5_init_8 rfl ?_
  have hPc := jl_P hP
  have hDc := jl_D hD
  have hKc := hK.sub (tys' := []) [] rfl
  have hFc := jl_F hD hS hA
  refine va_callv (va_runIN (As := []) (rest := [.ref q10, .ref h0]) ⟨hx, hb, hml, hown, hts⟩ (k_X2 l D q10 H.size) ⟨va_cnB 0 hts gX5_init_X2_init_n9 rfl rfl rfl (hN (.methodLinkNest RX5 9 yX2_init "GauntletHall") (by decide +kernel)) (hts (.initialized RX2) (by decide +kernel)) (by decide +kernel) ⟨Nat.le_of_ble_eq_true rfl, Nat.le_of_ble_eq_true rfl⟩, rfl, hts (.instanceMethod yX2_init) (by decide +kernel)⟩ ⟨fun a U g mk z => by obtain ⟨z0, z1, zP, zK, zD⟩ := z; exact ⟨z0, z1, zP, va_K.moved (u := U) (U := U.calling g mk a) (Vm.Alike.refl U.vm) zK, zD⟩, fun U hU hW => ⟨rfl, by rw [hU], by rw [hU]; exact hPc, va_K.moved hW.alike hKc, hDc.weaken (fun _ _ _ _ => trivial)⟩⟩ rfl rfl hl.1 rfl (lv_room (Nat.le_of_ble_eq_true rfl)) dX5_init_9 ⟨Nat.le_of_ble_eq_true rfl, Nat.le_of_ble_eq_true rfl⟩) hS (fun q _ h => hFc q h) hFc (fun u t H1 locs ht hvm _ hB hz1 hk1 hS => ?_)
  obtain ⟨cI, at2, ea, hP1, hK1, hD1⟩ := hB
  subst ea
  rw [ht] at hP1
  have hKJ := va_K.moved hvm.symm hK1
  have hK : va_K D vwCl [(cI, .int)] s := hKJ
  obtain ⟨hP, hD⟩ := jl_J hP hD hk1 hFc hP1 hD1
  generalize H1 = H at hP hS ⊢
  refine W.widen (k := 3) (n := 207) (Nat.le_of_ble_eq_true rfl) (Nat.le_of_ble_eq_true rfl) ?_
  have hP : va_P D vwCl ((h0, .inr (5, [.null, .null, .null, .null, .null, .null, .null])) :: ([] ++ hwX2 cI at2)) H := hP
  have hD : va_D A ((h0, .inr (5, [.null, .null, .null, .null, .null, .null, .null])) :: ([] ++ hwX2 cI at2)) := hD
  refine va_putF (D := D) (ci := 5) (v := .ref (at2 0)) (ty := .object "GauntletHall$Scroll") (C := RX5) (T := TX5) (N := 7) hx hb hts hfX5 tyX5 tyX5_ok nmX5 hown hK hP hD hS 0 rfl rfl 0 (by decide) (hts (.fieldLink RX5 10 "GauntletHall" "text" "LGauntletHall$Scroll;") (by decide +kernel)) (fun _ h9 => h9) rfl hin rfl (by decide +kernel) rfl rfl (Nat.le_of_ble_eq_true rfl) dX5_init_12 (fun H locs hP hD hS => ?_)
  have hP : va_P D vwCl ((h0, .inr (5, [.ref (at2 0), .null, .null, .null, .null, .null, .null])) :: ([] ++ hwX2 cI at2)) H := hP
  have hD : va_D A ((h0, .inr (5, [.ref (at2 0), .null, .null, .null, .null, .null, .null])) :: ([] ++ hwX2 cI at2)) := hD
  refine lv_aload_n hx hb dX5_init_15 rfl (lv_at hl 0 rfl) ?_
  refine va_new (ci := 1) (fs := nX1) (C := RX1) (T := TX1) (N := 13) hx hb hts hfX1 tyX1 tyX1_ok hown (hts (.classLink RX5 16 RX1) (by decide +kernel)) (hts (.instantiable RX1 13) (by decide +kernel)) (hts (.initialized RX1) (by decide +kernel)) hK hP hD hS hA rfl (by decide +kernel) (Nat.le_of_ble_eq_true rfl) (Nat.le_of_ble_eq_true rfl) dX5_init_16 (fun q11 H hP hD hS => ?_)
  have hP : va_P D vwCl (((h0, .inr (5, [.ref (at2 0), .null, .null, .null, .null, .null, .null])) :: (([] ++ hwX2 cI at2))) ++ [(q11, .inr (1, nX1))]) H := hP
  have hD : va_D A (((h0, .inr (5, [.ref (at2 0), .null, .null, .null, .null, .null, .null])) :: (([] ++ hwX2 cI at2))) ++ [(q11, .inr (1, nX1))]) := hD
  refine W.widen (k := 4) (n := 220) (Nat.le_of_ble_eq_true rfl) (Nat.le_of_ble_eq_true rfl) ?_
  refine lv_dup hx hb dX5_init_19 rfl ?_
  have hPc := jl_P hP
  have hDc := jl_D hD
  have hKc := hK.sub (tys' := []) [] rfl
  have hFc := jl_F hD hS hA
  refine va_callv (va_runIN (As := []) (rest := [.ref q11, .ref h0]) ⟨hx, hb, hml, hown, hts⟩ (k_X1 l D q11 H.size) ⟨va_cnB 0 hts gX5_init_X1_init_n18 rfl rfl rfl (hN (.methodLinkNest RX5 18 yX1_init "GauntletHall") (by decide +kernel)) (hts (.initialized RX1) (by decide +kernel)) (by decide +kernel) ⟨Nat.le_of_ble_eq_true rfl, Nat.le_of_ble_eq_true rfl⟩, rfl, hts (.instanceMethod yX1_init) (by decide +kernel)⟩ ⟨fun a U g mk z => by obtain ⟨z0, z1, zP, zK, zD⟩ := z; exact ⟨z0, z1, zP, va_K.moved (u := U) (U := U.calling g mk a) (Vm.Alike.refl U.vm) zK, zD⟩, fun U hU hW => ⟨rfl, by rw [hU], by rw [hU]; exact hPc, va_K.moved hW.alike hKc, hDc.weaken (fun _ _ _ _ => trivial)⟩⟩ rfl rfl hl.1 rfl (lv_room (Nat.le_of_ble_eq_true rfl)) dX5_init_20 ⟨Nat.le_of_ble_eq_true rfl, Nat.le_of_ble_eq_true rfl⟩) hS (fun q _ h => hFc q h) hFc (fun u t H1 locs ht hvm _ hB hz1 hk1 hS => ?_)
  obtain ⟨cJ, ah, ea, hP1, hK1, hD1⟩ := hB
  subst ea
  rw [ht] at hP1
  have hKJ := va_K.moved hvm.symm hK1
  obtain rfl := ka_eq (va_K.app hK hKJ) (i := 0) (j := 1) rfl rfl
  obtain ⟨hP, hD⟩ := jl_J hP hD hk1 hFc hP1 hD1
  generalize H1 = H at hP hS ⊢
  refine W.widen (k := 13) (n := 286) (Nat.le_of_ble_eq_true rfl) (Nat.le_of_ble_eq_true rfl) ?_
  have hP : va_P D vwCl ((h0, .inr (5, [.ref (at2 0), .null, .null, .null, .null, .null, .null])) :: (([] ++ hwX2 cI at2) ++ hwX1 cI ah)) H := hP
  have hD : va_D A ((h0, .inr (5, [.ref (at2 0), .null, .null, .null, .null, .null, .null])) :: (([] ++ hwX2 cI at2) ++ hwX1 cI ah)) := hD
  refine va_putF (D := D) (ci := 5) (v := .ref (ah 0)) (ty := .object "GauntletHall$Hall") (C := RX5) (T := TX5) (N := 7) hx hb hts hfX5 tyX5 tyX5_ok nmX5 hown hK hP hD hS 0 rfl rfl 1 (by decide) (hts (.fieldLink RX5 19 "GauntletHall" "hall" "LGauntletHall$Hall;") (by decide +kernel)) (fun _ h9 => h9) rfl hin rfl (by decide +kernel) rfl rfl (Nat.le_of_ble_eq_true rfl) dX5_init_23 (fun H locs hP hD hS => ?_)
  have hP : va_P D vwCl ((h0, .inr (5, [.ref (at2 0), .ref (ah 0), .null, .null, .null, .null, .null])) :: (([] ++ hwX2 cI at2) ++ hwX1 cI ah)) H := hP
  have hD : va_D A ((h0, .inr (5, [.ref (at2 0), .ref (ah 0), .null, .null, .null, .null, .null])) :: (([] ++ hwX2 cI at2) ++ hwX1 cI ah)) := hD
  refine lv_aload_n hx hb dX5_init_26 rfl (lv_at hl 0 rfl) ?_
  refine va_new (ci := 1) (fs := nX1) (C := RX1) (T := TX1) (N := 13) hx hb hts hfX1 tyX1 tyX1_ok hown (hts (.classLink RX5 16 RX1) (by decide +kernel)) (hts (.instantiable RX1 13) (by decide +kernel)) (hts (.initialized RX1) (by decide +kernel)) hK hP hD hS hA rfl (by decide +kernel) (Nat.le_of_ble_eq_true rfl) (Nat.le_of_ble_eq_true rfl) dX5_init_27 (fun q12 H hP hD hS => ?_)
  have hP : va_P D vwCl (((h0, .inr (5, [.ref (at2 0), .ref (ah 0), .null, .null, .null, .null, .null])) :: ((([] ++ hwX2 cI at2) ++ hwX1 cI ah))) ++ [(q12, .inr (1, nX1))]) H := hP
  have hD : va_D A (((h0, .inr (5, [.ref (at2 0), .ref (ah 0), .null, .null, .null, .null, .null])) :: ((([] ++ hwX2 cI at2) ++ hwX1 cI ah))) ++ [(q12, .inr (1, nX1))]) := hD
  refine W.widen (k := 14) (n := 299) (Nat.le_of_ble_eq_true rfl) (Nat.le_of_ble_eq_true rfl) ?_
  refine lv_dup hx hb dX5_init_30 rfl ?_
  have hPc := jl_P hP
  have hDc := jl_D hD
  have hKc := hK.sub (tys' := []) [] rfl
  have hFc := jl_F hD hS hA
  refine va_callv (va_runIN (As := []) (rest := [.ref q12, .ref h0]) ⟨hx, hb, hml, hown, hts⟩ (k_X1 l D q12 H.size) ⟨va_cnB 0 hts gX5_init_X1_init_n18 rfl rfl rfl (hN (.methodLinkNest RX5 18 yX1_init "GauntletHall") (by decide +kernel)) (hts (.initialized RX1) (by decide +kernel)) (by decide +kernel) ⟨Nat.le_of_ble_eq_true rfl, Nat.le_of_ble_eq_true rfl⟩, rfl, hts (.instanceMethod yX1_init) (by decide +kernel)⟩ ⟨fun a U g mk z => by obtain ⟨z0, z1, zP, zK, zD⟩ := z; exact ⟨z0, z1, zP, va_K.moved (u := U) (U := U.calling g mk a) (Vm.Alike.refl U.vm) zK, zD⟩, fun U hU hW => ⟨rfl, by rw [hU], by rw [hU]; exact hPc, va_K.moved hW.alike hKc, hDc.weaken (fun _ _ _ _ => trivial)⟩⟩ rfl rfl hl.1 rfl (lv_room (Nat.le_of_ble_eq_true rfl)) dX5_init_31 ⟨Nat.le_of_ble_eq_true rfl, Nat.le_of_ble_eq_true rfl⟩) hS (fun q _ h => hFc q h) hFc (fun u t H1 locs ht hvm _ hB hz1 hk1 hS => ?_)
  obtain ⟨cJ, ad, ea, hP1, hK1, hD1⟩ := hB
  subst ea
  rw [ht] at hP1
  have hKJ := va_K.moved hvm.symm hK1
  obtain rfl := ka_eq (va_K.app hK hKJ) (i := 0) (j := 1) rfl rfl
  obtain ⟨hP, hD⟩ := jl_J hP hD hk1 hFc hP1 hD1
  generalize H1 = H at hP hS ⊢
  refine W.widen (k := 23) (n := 365) (Nat.le_of_ble_eq_true rfl) (Nat.le_of_ble_eq_true rfl) ?_
  have hP : va_P D vwCl ((h0, .inr (5, [.ref (at2 0), .ref (ah 0), .null, .null, .null, .null, .null])) :: ((([] ++ hwX2 cI at2) ++ hwX1 cI ah) ++ hwX1 cI ad)) H := hP
  have hD : va_D A ((h0, .inr (5, [.ref (at2 0), .ref (ah 0), .null, .null, .null, .null, .null])) :: ((([] ++ hwX2 cI at2) ++ hwX1 cI ah) ++ hwX1 cI ad)) := hD
  refine va_putF (D := D) (ci := 5) (v := .ref (ad 0)) (ty := .object "GauntletHall$Hall") (C := RX5) (T := TX5) (N := 7) hx hb hts hfX5 tyX5 tyX5_ok nmX5 hown hK hP hD hS 0 rfl rfl 2 (by decide) (hts (.fieldLink RX5 23 "GauntletHall" "draft" "LGauntletHall$Hall;") (by decide +kernel)) (fun _ h9 => h9) rfl hin rfl (by decide +kernel) rfl rfl (Nat.le_of_ble_eq_true rfl) dX5_init_34 (fun H locs hP hD hS => ?_)
  have hP : va_P D vwCl ((h0, .inr (5, [.ref (at2 0), .ref (ah 0), .ref (ad 0), .null, .null, .null, .null])) :: ((([] ++ hwX2 cI at2) ++ hwX1 cI ah) ++ hwX1 cI ad)) H := hP
  have hD : va_D A ((h0, .inr (5, [.ref (at2 0), .ref (ah 0), .ref (ad 0), .null, .null, .null, .null])) :: ((([] ++ hwX2 cI at2) ++ hwX1 cI ah) ++ hwX1 cI ad)) := hD
  refine lv_aload_n hx hb dX5_init_37 rfl (lv_at hl 0 rfl) ?_
  refine va_new (ci := 3) (fs := nX3) (C := RX3) (T := TX3) (N := 3) hx hb hts hfX3 tyX3 tyX3_ok hown (hts (.classLink RX5 26 RX3) (by decide +kernel)) (hts (.instantiable RX3 3) (by decide +kernel)) (hts (.initialized RX3) (by decide +kernel)) hK hP hD hS hA rfl (by decide +kernel) (Nat.le_of_ble_eq_true rfl) (Nat.le_of_ble_eq_true rfl) dX5_init_38 (fun b1 H hP hD hS => ?_)
  have hP : va_P D vwCl (((h0, .inr (5, [.ref (at2 0), .ref (ah 0), .ref (ad 0), .null, .null, .null, .null])) :: (((([] ++ hwX2 cI at2) ++ hwX1 cI ah) ++ hwX1 cI ad))) ++ [(b1, .inr (3, nX3))]) H := hP
  have hD : va_D A (((h0, .inr (5, [.ref (at2 0), .ref (ah 0), .ref (ad 0), .null, .null, .null, .null])) :: (((([] ++ hwX2 cI at2) ++ hwX1 cI ah) ++ hwX1 cI ad))) ++ [(b1, .inr (3, nX3))]) := hD
  refine W.widen (k := 24) (n := 368) (Nat.le_of_ble_eq_true rfl) (Nat.le_of_ble_eq_true rfl) ?_
  refine lv_dup hx hb dX5_init_41 rfl ?_
  have hPc := jl_P hP
  have hDc := jl_D hD
  have hKc := hK.sub (tys' := []) [] rfl
  have hFc := jl_F hD hS hA
  refine lv_bipush (v := (nI 8)) hx hb dX5_init_42 (by decide) ?_
  refine va_callv (va_runI (As := [.int (nI 8)]) (rest := [.ref b1, .ref h0]) ⟨hx, hb, hml, hown, hts⟩ (k_X3 l D b1 H.size 8 (by decide) (by decide)) ⟨callB_of 1 hts gX5_init_X3_init rfl rfl rfl (hts (.initialized RX3) (by decide +kernel)) (hts (.methodLink RX5 28 yX3_init) (by decide +kernel)) (by decide +kernel) ⟨Nat.le_of_ble_eq_true rfl, Nat.le_of_ble_eq_true rfl⟩, rfl, hts (.instanceMethod yX3_init) (by decide +kernel)⟩ ⟨fun a U g mk z => by obtain ⟨z0, z1, zP, ⟨zK, zN, zO⟩, zD⟩ := z; exact ⟨z0, z1, zP, ⟨va_K.moved (u := U) (U := U.calling g mk a) (Vm.Alike.refl U.vm) zK, z_N.same (s := U) (U := U.calling g mk a) rfl zN, va_AO.moved (u := U) (U := U.calling g mk a) (Vm.Alike.refl U.vm) zO⟩, zD⟩, fun U hU hW => ⟨rfl, by rw [hU], by rw [hU]; exact hPc, ⟨va_K.moved hW.alike hKc, hN.warm hW, hO.moved hW.alike⟩, hDc.weaken (fun _ _ _ _ => trivial)⟩⟩ rfl rfl hl.1 rfl (lv_room (Nat.le_of_ble_eq_true rfl)) dX5_init_44 ⟨Nat.le_of_ble_eq_true rfl, Nat.le_of_ble_eq_true rfl⟩) hS (fun q _ h => hFc q h) hFc (fun u t H1 locs ht hvm _ hB hz1 hk1 hS => ?_)
  obtain ⟨cJ, cH, q1, a3, hP1, hK1, hD1⟩ := hB
  rw [ht] at hP1
  have hKJ := va_K.moved hvm.symm hK1
  obtain rfl := ka_eq (va_K.app hK hKJ) (i := 0) (j := 1) rfl rfl
  have hK : va_K D vwCl [(cI, .int), (cH, .object RX1)] s := hKJ
  obtain ⟨hP, hD⟩ := jl_J hP hD hk1 hFc hP1 hD1
  generalize H1 = H at hP hS ⊢
  refine W.widen (k := 105) (n := 1008) (Nat.le_of_ble_eq_true rfl) (Nat.le_of_ble_eq_true rfl) ?_
  have hP : va_P D vwCl ((h0, .inr (5, [.ref (at2 0), .ref (ah 0), .ref (ad 0), .null, .null, .null, .null])) :: (((([] ++ hwX2 cI at2) ++ hwX1 cI ah) ++ hwX1 cI ad) ++ hwX3 cI cH b1 q1 8 a3 8)) H := hP
  have hD : va_D A ((h0, .inr (5, [.ref (at2 0), .ref (ah 0), .ref (ad 0), .null, .null, .null, .null])) :: (((([] ++ hwX2 cI at2) ++ hwX1 cI ah) ++ hwX1 cI ad) ++ hwX3 cI cH b1 q1 8 a3 8)) := hD
  refine va_putF (D := D) (ci := 5) (v := .ref b1) (ty := .object "GauntletHall$Shelf") (C := RX5) (T := TX5) (N := 7) hx hb hts hfX5 tyX5 tyX5_ok nmX5 hown hK hP hD hS 0 rfl rfl 3 (by decide) (hts (.fieldLink RX5 31 "GauntletHall" "past" "LGauntletHall$Shelf;") (by decide +kernel)) (fun _ h9 => h9) rfl hin rfl (by decide +kernel) rfl rfl (Nat.le_of_ble_eq_true rfl) dX5_init_47 (fun H locs hP hD hS => ?_)
  have hP : va_P D vwCl ((h0, .inr (5, [.ref (at2 0), .ref (ah 0), .ref (ad 0), .ref b1, .null, .null, .null])) :: (((([] ++ hwX2 cI at2) ++ hwX1 cI ah) ++ hwX1 cI ad) ++ hwX3 cI cH b1 q1 8 a3 8)) H := hP
  have hD : va_D A ((h0, .inr (5, [.ref (at2 0), .ref (ah 0), .ref (ad 0), .ref b1, .null, .null, .null])) :: (((([] ++ hwX2 cI at2) ++ hwX1 cI ah) ++ hwX1 cI ad) ++ hwX3 cI cH b1 q1 8 a3 8)) := hD
  refine lv_aload_n hx hb dX5_init_50 rfl (lv_at hl 0 rfl) ?_
  refine va_new (ci := 3) (fs := nX3) (C := RX3) (T := TX3) (N := 3) hx hb hts hfX3 tyX3 tyX3_ok hown (hts (.classLink RX5 26 RX3) (by decide +kernel)) (hts (.instantiable RX3 3) (by decide +kernel)) (hts (.initialized RX3) (by decide +kernel)) hK hP hD hS hA rfl (by decide +kernel) (Nat.le_of_ble_eq_true rfl) (Nat.le_of_ble_eq_true rfl) dX5_init_51 (fun b2 H hP hD hS => ?_)
  have hP : va_P D vwCl (((h0, .inr (5, [.ref (at2 0), .ref (ah 0), .ref (ad 0), .ref b1, .null, .null, .null])) :: ((((([] ++ hwX2 cI at2) ++ hwX1 cI ah) ++ hwX1 cI ad) ++ hwX3 cI cH b1 q1 8 a3 8))) ++ [(b2, .inr (3, nX3))]) H := hP
  have hD : va_D A (((h0, .inr (5, [.ref (at2 0), .ref (ah 0), .ref (ad 0), .ref b1, .null, .null, .null])) :: ((((([] ++ hwX2 cI at2) ++ hwX1 cI ah) ++ hwX1 cI ad) ++ hwX3 cI cH b1 q1 8 a3 8))) ++ [(b2, .inr (3, nX3))]) := hD
  refine W.widen (k := 106) (n := 1011) (Nat.le_of_ble_eq_true rfl) (Nat.le_of_ble_eq_true rfl) ?_
  refine lv_dup hx hb dX5_init_54 rfl ?_
  have hPc := jl_P hP
  have hDc := jl_D hD
  have hKc := hK.sub (tys' := []) [] rfl
  have hFc := jl_F hD hS hA
  refine lv_iconst (v := (nI 2)) hx hb dX5_init_55 (by decide) ?_
  refine va_callv (va_runI (As := [.int (nI 2)]) (rest := [.ref b2, .ref h0]) ⟨hx, hb, hml, hown, hts⟩ (k_X3 l D b2 H.size 2 (by decide) (by decide)) ⟨callB_of 1 hts gX5_init_X3_init rfl rfl rfl (hts (.initialized RX3) (by decide +kernel)) (hts (.methodLink RX5 28 yX3_init) (by decide +kernel)) (by decide +kernel) ⟨Nat.le_of_ble_eq_true rfl, Nat.le_of_ble_eq_true rfl⟩, rfl, hts (.instanceMethod yX3_init) (by decide +kernel)⟩ ⟨fun a U g mk z => by obtain ⟨z0, z1, zP, ⟨zK, zN, zO⟩, zD⟩ := z; exact ⟨z0, z1, zP, ⟨va_K.moved (u := U) (U := U.calling g mk a) (Vm.Alike.refl U.vm) zK, z_N.same (s := U) (U := U.calling g mk a) rfl zN, va_AO.moved (u := U) (U := U.calling g mk a) (Vm.Alike.refl U.vm) zO⟩, zD⟩, fun U hU hW => ⟨rfl, by rw [hU], by rw [hU]; exact hPc, ⟨va_K.moved hW.alike hKc, hN.warm hW, hO.moved hW.alike⟩, hDc.weaken (fun _ _ _ _ => trivial)⟩⟩ rfl rfl hl.1 rfl (lv_room (Nat.le_of_ble_eq_true rfl)) dX5_init_56 ⟨Nat.le_of_ble_eq_true rfl, Nat.le_of_ble_eq_true rfl⟩) hS (fun q _ h => hFc q h) hFc (fun u t H1 locs ht hvm _ hB hz1 hk1 hS => ?_)
  obtain ⟨cJ, cG, q2, a4, hP1, hK1, hD1⟩ := hB
  rw [ht] at hP1
  have hKJ := va_K.moved hvm.symm hK1
  obtain rfl := ka_eq (va_K.app hK hKJ) (i := 0) (j := 2) rfl rfl
  obtain rfl := kh_eq (va_K.app hK hKJ) (i := 1) (j := 3) rfl rfl
  obtain ⟨hP, hD⟩ := jl_J hP hD hk1 hFc hP1 hD1
  generalize H1 = H at hP hS ⊢
  refine W.widen (k := 127) (n := 1171) (Nat.le_of_ble_eq_true rfl) (Nat.le_of_ble_eq_true rfl) ?_
  have hP : va_P D vwCl ((h0, .inr (5, [.ref (at2 0), .ref (ah 0), .ref (ad 0), .ref b1, .null, .null, .null])) :: ((((([] ++ hwX2 cI at2) ++ hwX1 cI ah) ++ hwX1 cI ad) ++ hwX3 cI cH b1 q1 8 a3 8) ++ hwX3 cI cH b2 q2 2 a4 2)) H := hP
  have hD : va_D A ((h0, .inr (5, [.ref (at2 0), .ref (ah 0), .ref (ad 0), .ref b1, .null, .null, .null])) :: ((((([] ++ hwX2 cI at2) ++ hwX1 cI ah) ++ hwX1 cI ad) ++ hwX3 cI cH b1 q1 8 a3 8) ++ hwX3 cI cH b2 q2 2 a4 2)) := hD
  refine va_putF (D := D) (ci := 5) (v := .ref b2) (ty := .object "GauntletHall$Shelf") (C := RX5) (T := TX5) (N := 7) hx hb hts hfX5 tyX5 tyX5_ok nmX5 hown hK hP hD hS 0 rfl rfl 4 (by decide) (hts (.fieldLink RX5 35 "GauntletHall" "kept" "LGauntletHall$Shelf;") (by decide +kernel)) (fun _ h9 => h9) rfl hin rfl (by decide +kernel) rfl rfl (Nat.le_of_ble_eq_true rfl) dX5_init_59 (fun H locs hP hD hS => ?_)
  have hP : va_P D vwCl ((h0, .inr (5, [.ref (at2 0), .ref (ah 0), .ref (ad 0), .ref b1, .ref b2, .null, .null])) :: ((((([] ++ hwX2 cI at2) ++ hwX1 cI ah) ++ hwX1 cI ad) ++ hwX3 cI cH b1 q1 8 a3 8) ++ hwX3 cI cH b2 q2 2 a4 2)) H := hP
  have hD : va_D A ((h0, .inr (5, [.ref (at2 0), .ref (ah 0), .ref (ad 0), .ref b1, .ref b2, .null, .null])) :: ((((([] ++ hwX2 cI at2) ++ hwX1 cI ah) ++ hwX1 cI ad) ++ hwX3 cI cH b1 q1 8 a3 8) ++ hwX3 cI cH b2 q2 2 a4 2)) := hD
  refine lv_aload_n hx hb dX5_init_62 rfl (lv_at hl 0 rfl) ?_
  refine va_new (ci := 4) (fs := nX4) (C := RX4) (T := TX4) (N := 4) hx hb hts hfX4 tyX4 tyX4_ok hown (hts (.classLink RX5 38 RX4) (by decide +kernel)) (hts (.instantiable RX4 4) (by decide +kernel)) (hts (.initialized RX4) (by decide +kernel)) hK hP hD hS hA rfl (by decide +kernel) (Nat.le_of_ble_eq_true rfl) (Nat.le_of_ble_eq_true rfl) dX5_init_63 (fun q15 H hP hD hS => ?_)
  have hP : va_P D vwCl (((h0, .inr (5, [.ref (at2 0), .ref (ah 0), .ref (ad 0), .ref b1, .ref b2, .null, .null])) :: (((((([] ++ hwX2 cI at2) ++ hwX1 cI ah) ++ hwX1 cI ad) ++ hwX3 cI cH b1 q1 8 a3 8) ++ hwX3 cI cH b2 q2 2 a4 2))) ++ [(q15, .inr (4, nX4))]) H := hP
  have hD : va_D A (((h0, .inr (5, [.ref (at2 0), .ref (ah 0), .ref (ad 0), .ref b1, .ref b2, .null, .null])) :: (((((([] ++ hwX2 cI at2) ++ hwX1 cI ah) ++ hwX1 cI ad) ++ hwX3 cI cH b1 q1 8 a3 8) ++ hwX3 cI cH b2 q2 2 a4 2))) ++ [(q15, .inr (4, nX4))]) := hD
  refine W.widen (k := 128) (n := 1175) (Nat.le_of_ble_eq_true rfl) (Nat.le_of_ble_eq_true rfl) ?_
  refine lv_dup hx hb dX5_init_66 rfl ?_
  have hPc := jl_P hP
  have hDc := jl_D hD
  have hKc := hK.sub (tys' := []) [] rfl
  have hFc := jl_F hD hS hA
  refine va_callv (va_runIN (As := []) (rest := [.ref q15, .ref h0]) ⟨hx, hb, hml, hown, hts⟩ (k_X4 l D q15 H.size) ⟨va_cnB 0 hts gX5_init_X4_init_n40 rfl rfl rfl (hN (.methodLinkNest RX5 40 yX4_init "GauntletHall") (by decide +kernel)) (hts (.initialized RX4) (by decide +kernel)) (by decide +kernel) ⟨Nat.le_of_ble_eq_true rfl, Nat.le_of_ble_eq_true rfl⟩, rfl, hts (.instanceMethod yX4_init) (by decide +kernel)⟩ ⟨fun a U g mk z => by obtain ⟨z0, z1, zP, zK, zD⟩ := z; exact ⟨z0, z1, zP, va_K.moved (u := U) (U := U.calling g mk a) (Vm.Alike.refl U.vm) zK, zD⟩, fun U hU hW => ⟨rfl, by rw [hU], by rw [hU]; exact hPc, va_K.moved hW.alike hKc, hDc.weaken (fun _ _ _ _ => trivial)⟩⟩ rfl rfl hl.1 rfl (lv_room (Nat.le_of_ble_eq_true rfl)) dX5_init_67 ⟨Nat.le_of_ble_eq_true rfl, Nat.le_of_ble_eq_true rfl⟩) hS (fun q _ h => hFc q h) hFc (fun u t H1 locs ht hvm _ hB hz1 hk1 hS => ?_)
  obtain ⟨cJ, as, ea, hP1, hK1, hD1⟩ := hB
  subst ea
  rw [ht] at hP1
  have hKJ := va_K.moved hvm.symm hK1
  obtain rfl := ka_eq (va_K.app hK hKJ) (i := 0) (j := 2) rfl rfl
  obtain ⟨hP, hD⟩ := jl_J hP hD hk1 hFc hP1 hD1
  generalize H1 = H at hP hS ⊢
  refine W.widen (k := 131) (n := 1193) (Nat.le_of_ble_eq_true rfl) (Nat.le_of_ble_eq_true rfl) ?_
  have hP : va_P D vwCl ((h0, .inr (5, [.ref (at2 0), .ref (ah 0), .ref (ad 0), .ref b1, .ref b2, .null, .null])) :: (((((([] ++ hwX2 cI at2) ++ hwX1 cI ah) ++ hwX1 cI ad) ++ hwX3 cI cH b1 q1 8 a3 8) ++ hwX3 cI cH b2 q2 2 a4 2) ++ hwX4 cI as)) H := hP
  have hD : va_D A ((h0, .inr (5, [.ref (at2 0), .ref (ah 0), .ref (ad 0), .ref b1, .ref b2, .null, .null])) :: (((((([] ++ hwX2 cI at2) ++ hwX1 cI ah) ++ hwX1 cI ad) ++ hwX3 cI cH b1 q1 8 a3 8) ++ hwX3 cI cH b2 q2 2 a4 2) ++ hwX4 cI as)) := hD
  refine va_putF (D := D) (ci := 5) (v := .ref (as 0)) (ty := .object "GauntletHall$Sightings") (C := RX5) (T := TX5) (N := 7) hx hb hts hfX5 tyX5 tyX5_ok nmX5 hown hK hP hD hS 0 rfl rfl 5 (by decide) (hts (.fieldLink RX5 41 "GauntletHall" "sightings" "LGauntletHall$Sightings;") (by decide +kernel)) (fun _ h9 => h9) rfl hin rfl (by decide +kernel) rfl rfl (Nat.le_of_ble_eq_true rfl) dX5_init_70 (fun H locs hP hD hS => ?_)
  have hP : va_P D vwCl ((h0, .inr (5, [.ref (at2 0), .ref (ah 0), .ref (ad 0), .ref b1, .ref b2, .ref (as 0), .null])) :: (((((([] ++ hwX2 cI at2) ++ hwX1 cI ah) ++ hwX1 cI ad) ++ hwX3 cI cH b1 q1 8 a3 8) ++ hwX3 cI cH b2 q2 2 a4 2) ++ hwX4 cI as)) H := hP
  have hD : va_D A ((h0, .inr (5, [.ref (at2 0), .ref (ah 0), .ref (ad 0), .ref b1, .ref b2, .ref (as 0), .null])) :: (((((([] ++ hwX2 cI at2) ++ hwX1 cI ah) ++ hwX1 cI ad) ++ hwX3 cI cH b1 q1 8 a3 8) ++ hwX3 cI cH b2 q2 2 a4 2) ++ hwX4 cI as)) := hD
  refine lv_aload_n hx hb dX5_init_73 rfl (lv_at hl 0 rfl) ?_
  refine va_new (ci := 0) (fs := nX0) (C := RX0) (T := TX0) (N := 1) hx hb hts hfX0 tyX0 tyX0_ok hown (hts (.classLink RX5 45 RX0) (by decide +kernel)) (hts (.instantiable RX0 1) (by decide +kernel)) (hts (.initialized RX0) (by decide +kernel)) hK hP hD hS hA rfl (by decide +kernel) (Nat.le_of_ble_eq_true rfl) (Nat.le_of_ble_eq_true rfl) dX5_init_74 (fun b6 H hP hD hS => ?_)
  have hP : va_P D vwCl (((h0, .inr (5, [.ref (at2 0), .ref (ah 0), .ref (ad 0), .ref b1, .ref b2, .ref (as 0), .null])) :: ((((((([] ++ hwX2 cI at2) ++ hwX1 cI ah) ++ hwX1 cI ad) ++ hwX3 cI cH b1 q1 8 a3 8) ++ hwX3 cI cH b2 q2 2 a4 2) ++ hwX4 cI as))) ++ [(b6, .inr (0, nX0))]) H := hP
  have hD : va_D A (((h0, .inr (5, [.ref (at2 0), .ref (ah 0), .ref (ad 0), .ref b1, .ref b2, .ref (as 0), .null])) :: ((((((([] ++ hwX2 cI at2) ++ hwX1 cI ah) ++ hwX1 cI ad) ++ hwX3 cI cH b1 q1 8 a3 8) ++ hwX3 cI cH b2 q2 2 a4 2) ++ hwX4 cI as))) ++ [(b6, .inr (0, nX0))]) := hD
  refine W.widen (k := 132) (n := 1194) (Nat.le_of_ble_eq_true rfl) (Nat.le_of_ble_eq_true rfl) ?_
  refine lv_dup hx hb dX5_init_77 rfl ?_
  have hPc := jl_P hP
  have hDc := jl_D hD
  have hKc := hK.sub (tys' := []) [] rfl
  have hFc := jl_F hD hS hA
  refine va_callv (va_runIN (As := []) (rest := [.ref b6, .ref h0]) ⟨hx, hb, hml, hown, hts⟩ (k_X0 l D b6 H.size) ⟨va_cnB 0 hts gX5_init_X0_init_n47 rfl rfl rfl (hN (.methodLinkNest RX5 47 yX0_init "GauntletHall") (by decide +kernel)) (hts (.initialized RX0) (by decide +kernel)) (by decide +kernel) ⟨Nat.le_of_ble_eq_true rfl, Nat.le_of_ble_eq_true rfl⟩, rfl, hts (.instanceMethod yX0_init) (by decide +kernel)⟩ ⟨fun a U g mk z => by obtain ⟨z0, z1, zP, ⟨zK, zN⟩, zD⟩ := z; exact ⟨z0, z1, zP, ⟨va_K.moved (u := U) (U := U.calling g mk a) (Vm.Alike.refl U.vm) zK, z_N.same (s := U) (U := U.calling g mk a) rfl zN⟩, zD⟩, fun U hU hW => ⟨rfl, by rw [hU], by rw [hU]; exact hPc, ⟨va_K.moved hW.alike hKc, hN.warm hW⟩, hDc.weaken (fun _ _ _ _ => trivial)⟩⟩ rfl rfl hl.1 rfl (lv_room (Nat.le_of_ble_eq_true rfl)) dX5_init_78 ⟨Nat.le_of_ble_eq_true rfl, Nat.le_of_ble_eq_true rfl⟩) hS (fun q _ h => hFc q h) hFc (fun u t H1 locs ht hvm _ hB hz1 hk1 hS => ?_)
  obtain ⟨cJ, a6, hP1, hK1, hD1⟩ := hB
  rw [ht] at hP1
  have hKJ := va_K.moved hvm.symm hK1
  obtain rfl := ka_eq (va_K.app hK hKJ) (i := 0) (j := 2) rfl rfl
  obtain ⟨hP, hD⟩ := jl_J hP hD hk1 hFc hP1 hD1
  generalize H1 = H at hP hS ⊢
  refine W.widen (k := 142) (n := 1273) (Nat.le_of_ble_eq_true rfl) (Nat.le_of_ble_eq_true rfl) ?_
  have hP : va_P D vwCl ((h0, .inr (5, [.ref (at2 0), .ref (ah 0), .ref (ad 0), .ref b1, .ref b2, .ref (as 0), .null])) :: ((((((([] ++ hwX2 cI at2) ++ hwX1 cI ah) ++ hwX1 cI ad) ++ hwX3 cI cH b1 q1 8 a3 8) ++ hwX3 cI cH b2 q2 2 a4 2) ++ hwX4 cI as) ++ hwX0 cI b6 a6)) H := hP
  have hD : va_D A ((h0, .inr (5, [.ref (at2 0), .ref (ah 0), .ref (ad 0), .ref b1, .ref b2, .ref (as 0), .null])) :: ((((((([] ++ hwX2 cI at2) ++ hwX1 cI ah) ++ hwX1 cI ad) ++ hwX3 cI cH b1 q1 8 a3 8) ++ hwX3 cI cH b2 q2 2 a4 2) ++ hwX4 cI as) ++ hwX0 cI b6 a6)) := hD
  refine va_putF (D := D) (ci := 5) (v := .ref b6) (ty := .object "GauntletHall$Forecast") (C := RX5) (T := TX5) (N := 7) hx hb hts hfX5 tyX5 tyX5_ok nmX5 hown hK hP hD hS 0 rfl rfl 6 (by decide) (hts (.fieldLink RX5 48 "GauntletHall" "forecast" "LGauntletHall$Forecast;") (by decide +kernel)) (fun _ h9 => h9) rfl hin rfl (by decide +kernel) rfl rfl (Nat.le_of_ble_eq_true rfl) dX5_init_81 (fun H locs hP hD hS => ?_)
  have hP : va_P D vwCl ((h0, .inr (5, [.ref (at2 0), .ref (ah 0), .ref (ad 0), .ref b1, .ref b2, .ref (as 0), .ref b6])) :: ((((((([] ++ hwX2 cI at2) ++ hwX1 cI ah) ++ hwX1 cI ad) ++ hwX3 cI cH b1 q1 8 a3 8) ++ hwX3 cI cH b2 q2 2 a4 2) ++ hwX4 cI as) ++ hwX0 cI b6 a6)) H := hP
  have hD : va_D A ((h0, .inr (5, [.ref (at2 0), .ref (ah 0), .ref (ad 0), .ref b1, .ref b2, .ref (as 0), .ref b6])) :: ((((((([] ++ hwX2 cI at2) ++ hwX1 cI ah) ++ hwX1 cI ad) ++ hwX3 cI cH b1 q1 8 a3 8) ++ hwX3 cI cH b2 q2 2 a4 2) ++ hwX4 cI as) ++ hwX0 cI b6 a6)) := hD
  have hW5 := w5_eq D cI cH h0 at2 ah ad b1 q1 a3 b2 q2 a4 as b6 a6
  have hP := hW5 ▸ hP
  have hD := hW5 ▸ hD
  have h18 : a5 h0 at2 ah ad b1 q1 a3 b2 q2 a4 as b6 a6 18 0 = h0 := rfl
  generalize a5 h0 at2 ah ad b1 q1 a3 b2 q2 a4 as b6 a6 = aa at hP hD h18
  clear hW5
  refine lv_iconst (v := 0) hx hb dX5_init_84 (by decide) ?_
  refine lv_istore_n (lv' := [(1, .int (0 : Int32)), (0, .ref h0)]) hx hb dX5_init_85 rfl hl (by decide) rfl (fun ls hl => ?_)
  exact x5_tail l D h0 qs vs hx hb hml hr hlocks hown hts hN hR hV hK h18 hP hD hS hl
