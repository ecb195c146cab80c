/-! ===== THE CONSTRUCTORS: Shelf ===== -/
def nX3 : List Value := [.int 0, .int 0, .null]
/-- i halls -/
def hsX (cI : ClassId) (a : Nat → Nat → Nat) : Nat → va_W
  | 0 => []
  | i + 1 => hsX cI a i ++ hwX1 cI (a i)
theorem hsX_eq {cI : ClassId} {a b : Nat → Nat → Nat} : ∀ i : Nat, (∀ j, j < i → a j = b j) → hsX cI a i = hsX cI b i
  | 0, _ => rfl
  | i + 1, h => by
    show hsX cI a i ++ hwX1 cI (a i) = hsX cI b i ++ hwX1 cI (b i)
    rw [hsX_eq i (fun j hj => h j (by omega)), h i (by omega)]
def rfX (a : Nat → Nat → Nat) (i : Nat) : Nat → Option Nat := fun j => if j < i then some (a j 0) else none
def hwX3 (cI cH : ClassId) (b q n : Nat) (a : Nat → Nat → Nat) (i : Nat) : va_W := (b, .inr (3, [.int 0, .int 0, .ref q])) :: (q, .inl (cH, n, .inr (.inr (.inr (.inr (rfX a i)))))) :: hsX cI a i
theorem rfX_up (a : Nat → Nat → Nat) (a' : Nat → Nat) (i : Nat) : va_up (rfX a i) i (some (a' 0)) = rfX (fun j => if j = i then a' else a j) (i + 1) := by
  funext j
  unfold va_up rfX
  by_cases h : j = i
  · subst h
    rw [if_pos rfl, if_pos (by omega)]
    show some (a' 0) = some ((if j = j then a' else a j) 0)
    rw [if_pos rfl]
  · rw [if_neg h]
    show (if j < i then some (a j 0) else none) = if j < i + 1 then some ((if j = i then a' else a j) 0) else none
    rw [if_neg h]
    by_cases h2 : j < i
    · rw [if_pos h2, if_pos (by omega)]
    · rw [if_neg h2, if_neg (by omega)]
theorem rfX_0 (a : Nat → Nat → Nat) : (fun _ : Nat => (none : Option Nat)) = rfX a 0 := by
  funext j
  unfold rfX
  rw [if_neg (Nat.not_lt_zero j)]
theorem hsX_up (cI : ClassId) (a : Nat → Nat → Nat) (a' : Nat → Nat) (i : Nat) : hsX cI a i ++ hwX1 cI a' = hsX cI (fun j => if j = i then a' else a j) (i + 1) := by
  show _ = hsX cI (fun j => if j = i then a' else a j) i ++ hwX1 cI (if i = i then a' else a i)
  rw [if_pos rfl, hsX_eq (a := a) (b := fun j => if j = i then a' else a j) i (fun j hj => (if_neg (by omega)).symm)]
abbrev rkX3 (n : Nat) : Room := { frames := 2, cells := 1 + 10 * n, slots := 80 * n, locals := 32 }
set_option maxHeartbeats 4000000 in
set_option maxRecDepth 100000 in
theorem k_X3 (l : Launch) (D : va_G) (h0 sz n : Nat) (hn1 : 1 ≤ n) (hn8 : n ≤ 8) : Met l yX3_init wsX3_init (rkX3 n) (va_Pc [.ref h0, .int (nI n)] (fun U => U.heap.size = sz ∧ va_P D vwCl [(h0, .inr (3, nX3))] U.heap ∧ (va_K D vwCl [] U ∧ z_N U ∧ va_AO RX1 U) ∧ va_D (fun _ => True) [(h0, .inr (3, nX3))])) (va_Qv (fun _ : Unit => True) (fun _ t => ∃ (cI cH : ClassId) (q : Nat) (a : Nat → Nat → Nat), va_P D vwCl (hwX3 cI cH h0 q n a n) t.heap ∧ va_K D vwCl [(cI, .int), (cH, .object RX1)] t ∧ va_D (va_A [(h0, .inr (3, nX3))] sz) (hwX3 cI cH h0 q n a n)) (va_A [(h0, .inr (3, nX3))] sz)) (1 + 10 * n) (80 * n) (va_A [(h0, .inr (3, nX3))] sz) := by
  refine Met.ofW (cc := cX3_init) (maxL := 3) (ret := none) (by decide) rfl ?_
  intro p e s m args below meth c s₁ B hml hv
  obtain ⟨rfl, hsz, hP, ⟨hK, hN, hO⟩, hD0⟩ := hv
  have hx := B.exec
  have hb := B.bytes
  have hr := B.returns
  have hts := atoms_spec (ws := wsX3_init) B.pre
  have hown : s.vm.findClass RX3 = some m.cls := findClass_of_methodNamed B.named
  have hlocks := B.notSynchronized
  have hin : meth.name = "<init>" := (name_of_methodNamed B.named B.method).1
  have hf3 : ∀ w ∈ u_ws RX3 TX3 3, w ∈ wsX3_init := by decide +kernel
  have hf1 : ∀ w ∈ u_ws RX1 TX1 13, w ∈ wsX3_init := by decide +kernel
  subst hsz
  have hD := hD0.self (sz := s.heap.size)
  generalize hAe : va_A [(h0, .inr (3, nX3))] s.heap.size = A at hD ⊢
  have hA : ∀ q : Nat, s.heap.size ≤ q → A q := fun q h => by rw [← hAe]; exact Or.inr h
  have hS : va_S A s.heap s.heap [] := va_S.rf
  have hP : va_P D vwCl [(h0, .inr (3, [.int 0, .int 0, .null]))] s.heap := hP
  have hD : va_D A [(h0, .inr (3, [.int 0, .int 0, .null]))] := hD
  have hl := lv_entry ([.ref h0, .int (nI n)]) (n := 3) (Nat.le_of_ble_eq_true rfl)
  rw [lg_entry_eq]
  generalize (lg_sl ([.ref h0, .int (nI n)]) ++ List.replicate (3 - (lg_sl ([.ref h0, .int (nI n)])).length) Slot.unset).toArray = ls at hl ⊢
  have hl : lv_has ls 3 [(0, .ref h0), (1, .int (nI n))] := hl
  refine lv_aload_n hx hb dX3_init_0 rfl (lv_at hl 0 rfl) ?_
  refine W.objInit hx hb hown (hts (.methodLink RX3 1 objectInit) (by decide +kernel)) (hts (.instanceMethod objectInit) (by decide +kernel)) (hts _ (List.mem_of_getElem? (i := 3) rfl)) rfl (by rw [hml]; exact hl.1) rfl dX3_init_1 (Nat.le_of_ble_eq_true rfl) (Nat.le_of_ble_eq_true rfl) ?_
  refine W.eq (g2 := F0 m 4 ls []) rfl ?_
  refine lv_aload_n hx hb dX3_init_4 rfl (lv_at hl 0 rfl) ?_
  refine lv_iconst (v := 0) hx hb dX3_init_5 (by decide) ?_
  refine va_put (D := D) (ci := 3) (v := .int 0) (ty := .int) (C := RX3) (T := TX3) (N := 3) hx hb hts hf3 tyX3 tyX3_ok nmX3 hown hK hP hD hS 0 rfl rfl 0 (by decide) (hts (.fieldLink RX3 7 "GauntletHall$Shelf" "count" "I") (by decide +kernel)) (fun _ h9 => h9) rfl (by decide +kernel) rfl rfl (Nat.le_of_ble_eq_true rfl) dX3_init_6 (fun H locs hP hD hS => ?_)
  have hP : va_P D vwCl [(h0, .inr (3, [.int 0, .int 0, .null]))] H := hP
  have hD : va_D A [(h0, .inr (3, [.int 0, .int 0, .null]))] := hD
  refine lv_aload_n hx hb dX3_init_9 rfl (lv_at hl 0 rfl) ?_
  refine lv_iconst (v := 0) hx hb dX3_init_10 (by decide) ?_
  refine va_put (D := D) (ci := 3) (v := .int 0) (ty := .int) (C := RX3) (T := TX3) (N := 3) hx hb hts hf3 tyX3 tyX3_ok nmX3 hown hK hP hD hS 0 rfl rfl 1 (by decide) (hts (.fieldLink RX3 13 "GauntletHall$Shelf" "next" "I") (by decide +kernel)) (fun _ h9 => h9) rfl (by decide +kernel) rfl rfl (Nat.le_of_ble_eq_true rfl) dX3_init_11 (fun H locs hP hD hS => ?_)
  have hP : va_P D vwCl [(h0, .inr (3, [.int 0, .int 0, .null]))] H := hP
  have hD : va_D A [(h0, .inr (3, [.int 0, .int 0, .null]))] := hD
  refine lv_aload_n hx hb dX3_init_14 rfl (lv_at hl 0 rfl) ?_
  refine lv_iconst (v := 1) hx hb dX3_init_15 (by decide) ?_
  refine lv_iload_n hx hb dX3_init_16 rfl (lv_at hl 1 rfl) ?_
  refine va_mmax hx hb (by rw [hml]; exact hl.1.symm) hown (hts (.methodLink RX3 16 Lib.Math.max.name) (by decide +kernel)) (hts (.static Lib.Math.max.name) (by decide +kernel)) (hts (.initialized "java/lang/Math") (by decide +kernel)) (hts _ (List.mem_of_getElem? (i := 9) rfl)) (Nat.le_of_ble_eq_true rfl) (Nat.le_of_ble_eq_true rfl) (Nat.zero_le _) (Nat.zero_le _) dX3_init_17 ?_
  have emx : (if (1 : Int32) < nI n then nI n else 1) = nI n := by
    by_cases h1 : n = 1
    · subst h1; rfl
    · exact if_pos (nI_lt (a := 1) (by omega) (by omega))
  rw [emx]
  refine va_newq (N' := n) hx hb hown (hts (.classLink RX3 22 RX1) (by decide +kernel)) hO hK hP hD hS hA (nI_pos (by omega)) (nI_clamp (by omega)) (by omega) (by show 0 + 1 ≤ 1 + 10 * n; omega) (by show 0 + n ≤ 80 * n; omega) dX3_init_20 (fun q cH H hK hP hD hS => ?_)
  have hK : va_K D vwCl [(cH, .object RX1)] s := hK
  have hP : va_P D vwCl [(h0, .inr (3, [.int 0, .int 0, .null])), (q, .inl (cH, n, .inr (.inr (.inr (.inr (fun _ => none))))))] H := hP
  have hD : va_D A [(h0, .inr (3, [.int 0, .int 0, .null])), (q, .inl (cH, n, .inr (.inr (.inr (.inr (fun _ => none))))))] := hD
  refine W.widen (k := 1 + 10 * 0) (n := n + 79 * 0) (by omega) (by omega) ?_
  refine va_putF (D := D) (ci := 3) (v := .ref q) (ty := .array (.object "GauntletHall$Hall")) (C := RX3) (T := TX3) (N := 3) hx hb hts hf3 tyX3 tyX3_ok nmX3 hown hK hP hD hS 0 rfl rfl 2 (by decide) (hts (.fieldLink RX3 24 "GauntletHall$Shelf" "halls" "[LGauntletHall$Hall;") (by decide +kernel)) (fun _ h9 => h9) rfl hin rfl (by decide +kernel) rfl rfl (Nat.le_of_ble_eq_true rfl) dX3_init_23 (fun H locs hP hD hS => ?_)
  have hP : va_P D vwCl [(h0, .inr (3, [.int 0, .int 0, .ref q])), (q, .inl (cH, n, .inr (.inr (.inr (.inr (fun _ => none))))))] H := hP
  have hD : va_D A [(h0, .inr (3, [.int 0, .int 0, .ref q])), (q, .inl (cH, n, .inr (.inr (.inr (.inr (fun _ => none))))))] := hD
  rw [rfX_0 (fun _ _ => 0)] at hP hD
  refine lv_iconst (v := 0) hx hb dX3_init_26 (by decide) ?_
  refine lv_istore_n (lv' := [(2, .int (0 : Int32)), (0, .ref h0), (1, .int (nI n))]) hx hb dX3_init_27 rfl hl (by decide) rfl (fun ls hl => ?_)
  have loop : ∀ (k i : Nat) (a : Nat → Nat → Nat) (cI : ClassId) (H : Heap) (locs : List Loc) (ls : Array Slot), n - i = k → i ≤ n → (0 < i → va_K D vwCl [(cI, .int)] s) → va_P D vwCl (hwX3 cI cH h0 q n a i) H → va_D A (hwX3 cI cH h0 q n a i) → va_S A s.heap H locs → lv_has ls 3 [(2, .int (nI i)), (0, .ref h0), (1, .int (nI n))] →
      W p l e (rkX3 n) s m ([.ref h0, .int (nI n)] : List Value).toArray below meth c H locs (1 + 10 * i) (n + 79 * i) (MQ below (va_Qv (fun _ : Unit => True) (fun _ t => ∃ (cI cH : ClassId) (q : Nat) (a : Nat → Nat → Nat), va_P D vwCl (hwX3 cI cH h0 q n a n) t.heap ∧ va_K D vwCl [(cI, .int), (cH, .object RX1)] t ∧ va_D A (hwX3 cI cH h0 q n a n)) A) ([.ref h0, .int (nI n)] : List Value).toArray s (1 + 10 * n) (80 * n) A) (F0 m 28 ls []) := by
    intro k
    induction k with
    | zero =>
      intro i a cI H locs ls hk hi hKI hP hD hS hl
      have hi : i = n := by omega
      subst hi
      refine lv_iload_n hx hb dX3_init_28 rfl (lv_at hl 0 rfl) ?_
      refine lv_aload_n hx hb dX3_init_29 rfl (lv_at hl 1 rfl) ?_
      refine va_get (v := .ref q) (C := RX3) (T := TX3) (N := 3) hx hb hts hf3 hown hK hP 0 rfl rfl 2 (by decide) (hts (.fieldLink RX3 24 "GauntletHall$Shelf" "halls" "[LGauntletHall$Hall;") (by decide +kernel)) (fun _ h9 => h9) rfl dX3_init_30 ?_
      refine va_alen (v := nI i) hx hb hK hP 1 0 rfl rfl rfl dX3_init_33 ?_
      refine lv_icmp_ge (tgt := 56) hx hb dX3_init_34 (by decide) (fun _ => ?_) (fun c4 => absurd (nI_le (Nat.le_refl i) (by omega)) c4)
      refine W.widen (k := 1 + 10 * i) (n := 80 * i) (by omega) (by omega) ?_
      exact W.vret hx hb hr (fun t ht hW => ⟨⟨(), rfl, trivial, cI, cH, q, a, (by rw [ht]; exact hP), va_K.moved hW.alike (va_K.app (hKI (by omega)) hK), hD⟩, hS.F ht⟩) hS.2.2 dX3_init_56
    | succ k ih =>
      intro i a cI H locs ls hk hi hKI hP hD hS hl
      have hin8 : i < n := by omega
      refine lv_iload_n hx hb dX3_init_28 rfl (lv_at hl 0 rfl) ?_
      refine lv_aload_n hx hb dX3_init_29 rfl (lv_at hl 1 rfl) ?_
      refine va_get (v := .ref q) (C := RX3) (T := TX3) (N := 3) hx hb hts hf3 hown hK hP 0 rfl rfl 2 (by decide) (hts (.fieldLink RX3 24 "GauntletHall$Shelf" "halls" "[LGauntletHall$Hall;") (by decide +kernel)) (fun _ h9 => h9) rfl dX3_init_30 ?_
      refine va_alen (v := nI n) hx hb hK hP 1 0 rfl rfl rfl dX3_init_33 ?_
      refine lv_icmp_ge (tgt := 56) hx hb dX3_init_34 (by decide) (fun c4 => absurd c4 (nI_ge hin8 (by omega))) (fun _ => ?_)
      refine lv_aload_n hx hb dX3_init_37 rfl (lv_at hl 1 rfl) ?_
      refine va_get (v := .ref q) (C := RX3) (T := TX3) (N := 3) hx hb hts hf3 hown hK hP 0 rfl rfl 2 (by decide) (hts (.fieldLink RX3 24 "GauntletHall$Shelf" "halls" "[LGauntletHall$Hall;") (by decide +kernel)) (fun _ h9 => h9) rfl dX3_init_38 ?_
      refine lv_iload_n hx hb dX3_init_41 rfl (lv_at hl 0 rfl) ?_
      refine va_new (ci := 1) (fs := nX1) (C := RX1) (T := TX1) (N := 13) hx hb hts hf1 tyX1 tyX1_ok hown (hts (.classLink RX3 22 RX1) (by decide +kernel)) (hts (.instantiable RX1 13) (by decide +kernel)) (hts (.initialized RX1) (by decide +kernel)) hK hP hD hS hA rfl (by decide +kernel) (by show 1 + 10 * i + 1 ≤ 1 + 10 * n; omega) (by show n + 79 * i + 13 ≤ 80 * n; omega) dX3_init_42 (fun q5 H hP hD hS => ?_)
      refine lv_dup hx hb dX3_init_45 rfl ?_
      have hPc := jl_P hP
      have hDc := jl_D hD
      have hKc := hK.sub (tys' := []) [] rfl
      have hFc := jl_F hD hS hA
      refine va_callv (va_runIN (As := []) (rest := [.ref q5, .int (nI i), .ref q]) ⟨hx, hb, hml, hown, hts⟩ (k_X1 l D q5 H.size) ⟨va_cnB 0 hts gX3_init_X1_init_n28 rfl rfl rfl (hN (.methodLinkNest RX3 28 yX1_init "GauntletHall") (by decide +kernel)) (hts (.initialized RX1) (by decide +kernel)) (by decide +kernel) ⟨Nat.le_of_ble_eq_true rfl, Nat.le_of_ble_eq_true rfl⟩, rfl, hts (.instanceMethod yX1_init) (by decide +kernel)⟩ ⟨fun a U g mk q => by obtain ⟨q0, q1, qP, qK, qD⟩ := q; exact ⟨q0, q1, qP, va_K.moved (u := U) (U := U.calling g mk a) (Vm.Alike.refl U.vm) qK, qD⟩, fun U hU hW => ⟨rfl, by rw [hU], by rw [hU]; exact hPc, va_K.moved hW.alike hKc, hDc.weaken (fun _ _ _ _ => trivial)⟩⟩ rfl rfl hl.1 rfl (lv_room (Nat.le_of_ble_eq_true rfl)) dX3_init_46 ⟨by show 1 + 10 * i + 1 + 9 ≤ 1 + 10 * n; omega, by show n + 79 * i + 13 + 66 ≤ 80 * n; omega⟩) hS (fun q _ h => hFc q h) hFc (fun u t H1 locs ht hvm _ hB hz1 hk1 hS => ?_)
      obtain ⟨cJ, a', ea, hP1, hK1, hD1⟩ := hB
      subst ea
      rw [ht] at hP1
      have hKJ := va_K.moved hvm.symm hK1
      obtain ⟨hP, hD⟩ := jl_J hP hD hk1 hFc hP1 hD1
      generalize H1 = H at hP hS ⊢
      have eIJ : hsX cI a i = hsX cJ a i := by
        rcases Nat.eq_zero_or_pos i with z | z
        · subst z; rfl
        · have := ka_eq (va_K.app (hKI z) hKJ) (i := 0) (j := 1) rfl rfl
          rw [this]
      have eW : hwX3 cI cH h0 q n a i = hwX3 cJ cH h0 q n a i := by unfold hwX3; rw [eIJ]
      rw [eW] at hP hD
      refine va_astq (r := (RX1, TX1, 13)) hx hb hK hP hD hS 1 0 (hwX3 cJ cH h0 q n a i).length 1 rfl rfl (by rw [List.getElem?_append_right (Nat.le_refl _), Nat.sub_self]; rfl) rfl (i := nI i) (nI_in hin8 (by omega)) dX3_init_49 (fun H locs hP hD hS => ?_)
      rw [nI_clamp (by omega)] at hP hD
      have eN : ((hwX3 cJ cH h0 q n a i) ++ hwX1 cJ a').set 1 (q, .inl (cH, n, .inr (.inr (.inr (.inr (va_up (rfX a i) i (some (a' 0)))))))) = hwX3 cJ cH h0 q n (fun j => if j = i then a' else a j) (i + 1) := by
        show (h0, _) :: (q, _) :: (hsX cJ a i ++ hwX1 cJ a') = (h0, _) :: (q, _) :: hsX cJ (fun j => if j = i then a' else a j) (i + 1)
        rw [hsX_up, rfX_up]
      rw [eN] at hP hD
      refine lv_iinc (v := nI (i + 1)) (lv' := [(2, .int (nI (i + 1))), (0, .ref h0), (1, .int (nI n))]) hx hb dX3_init_50 hl (k := 0) rfl (nI_1 i) (by decide) rfl (fun ls hl => ?_)
      refine lv_goto (tgt := 28) hx hb dX3_init_53 (by decide) ?_
      refine W.widen (k := 1 + 10 * (i + 1)) (n := n + 79 * (i + 1)) (by omega) (by omega) ?_
      exact ih (i + 1) (fun j => if j = i then a' else a j) cJ H locs ls (by omega) (by omega) (fun _ => hKJ) hP hD hS hl
  exact loop n 0 (fun _ _ => 0) (D.1 0) H locs ls (by omega) (by omega) (fun h => absurd h (Nat.lt_irrefl 0)) hP hD hS hl
