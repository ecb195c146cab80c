/-! ===== THE TEXT CONSTANT: String.length, String.charAt ===== -/
abbrev noA : Nat → Prop := fun _ => False
def txb : List Int32 := [112, 56, 44, 49, 48, 44, 49, 59, 112, 54, 44, 49, 50, 44, 48, 59, 112, 52, 44, 55, 44, 49, 59, 112, 57, 44, 50, 48, 44, 48, 59, 112, 55, 44, 53, 44, 49, 59, 103, 48, 44, 56, 44, 51, 59, 103, 49, 44, 53, 44, 49, 59, 103, 50, 44, 52, 44, 51, 59, 103, 51, 44, 57, 44, 49, 59, 103, 48, 44, 55, 44, 48, 59]
def tx (j : Nat) : Int32 := txb.getD j 0
def SV (A : Nat → Prop) (q v : Nat) (U : State) (H : Heap) : Prop := va_O "java/lang/String" q A U H ∧ va_OF "java/lang/String" "coder" "B" (.int 0) q A U H ∧ va_OF "java/lang/String" "value" "[B" (.ref v) q A U H ∧ va_T .byte v 73 (fun j => .int (tx j)) A U H ∧ va_Z "java/lang/String" "COMPACT_STRINGS" "Z" (.int 1) A U H ∧ va_Zq "jdk/internal/util/Preconditions" "SIOOBE_FORMATTER" "Ljava/util/function/BiFunction;" A U H
theorem SV.moved {A : Nat → Prop} {q v : Nat} {u U : State} {H : Heap} (hvm : u.vm.Alike U.vm) (h : SV A q v u H) : SV A q v U H := ⟨h.1.moved hvm, h.2.1.moved hvm, h.2.2.1.moved hvm, h.2.2.2.1.moved hvm, h.2.2.2.2.1.moved hvm, h.2.2.2.2.2.moved hvm⟩
theorem SV.kept {A : Nat → Prop} {q v : Nat} {U : State} {H H1 : Heap} (h : SV A q v U H) (hq : ∀ a : Nat, a < H.size → ¬ A a → H1[a]? = H[a]?) : SV A q v U H1 := ⟨h.1.kept hq, h.2.1.kept hq, h.2.2.1.kept hq, h.2.2.2.1.kept hq, h.2.2.2.2.1.kept hq, h.2.2.2.2.2.kept hq⟩
theorem SV.narrow {A B : Nat → Prop} {q v : Nat} {U : State} {H : Heap} (h : SV A q v U H) (hAB : ∀ q, B q → A q) : SV B q v U H := ⟨h.1.narrow hAB, h.2.1.narrow hAB, h.2.2.1.narrow hAB, h.2.2.2.1.narrow hAB, h.2.2.2.2.1.narrow hAB, h.2.2.2.2.2.narrow hAB⟩
theorem SV_blind (av : List Value) (q v : Nat) : FrameBlind (va_Pc av (fun U => SV noA q v U U.heap)) := by
  intro a U g mk z
  obtain ⟨z0, zS⟩ := z
  exact ⟨z0, SV.moved (u := U) (U := U.calling g mk a) (Vm.Alike.refl U.vm) zS⟩
theorem SV_pre {s : State} {q v : Nat} {H : Heap} (h : SV noA q v s H) (av : List Value) : ∀ U : State, U.heap = H → s.WarmedH U.vm → va_Pc av (fun U => SV noA q v U U.heap) av.toArray U := fun U hU hW => ⟨rfl, by show SV noA q v U U.heap; rw [hU]; exact h.moved hW.alike⟩
abbrev jr0 : Room := { frames := 0, cells := 0, slots := 0, locals := 0 }
abbrev jr1 : Room := { frames := 1, cells := 0, slots := 0, locals := 24 }
abbrev jr2 : Room := { frames := 2, cells := 0, slots := 0, locals := 48 }
abbrev jr3 : Room := { frames := 3, cells := 0, slots := 0, locals := 72 }
theorem j_start {l : Launch} {y : MethodName} {ws ws' : List Cond} {rm : Room} {av : List Value} {cc : ByteArray} {maxL : Nat} {ret : Option FieldType} {Qc : Array Value → State → Outcome → State → Prop} {P : State → Prop} (hy : plainName y.cls = true) (hw : ws = Cond.code y cc maxL ret :: ws') (hlen : (lg_sl av).length ≤ maxL)
    (body : ∀ (p : Program) (e : Env) (s : State) (m : MethodId) (below : List Frame) (meth : Method) (c : Code), p.tables.exec = Jvm.exec → c.code = cc → c.maxLocals = maxL → meth.sig.returnType = ret → meth.locks = false → s.vm.findClass y.cls = some m.cls → (∀ w ∈ ws, w.before av.toArray s = true) → P s →
      ∀ ls : Array Slot, lv_has ls maxL (lv_args 0 av) → W p l e rm s m av.toArray below meth c s.heap [] 0 0 (MQ below Qc av.toArray s 0 0 noA) (F0 m 0 ls [])) :
    Met l y ws rm (va_Pc av P) Qc 0 0 noA := by
  refine Met.ofW (cc := cc) (maxL := maxL) (ret := ret) hy hw ?_
  intro p e s m args below meth c s₁ B hml hv
  obtain ⟨rfl, hP⟩ := hv
  have hts := atoms_spec (ws := ws) B.pre
  have hown : s.vm.findClass y.cls = some m.cls := findClass_of_methodNamed B.named
  rw [lg_entry_eq]
  exact body p e s m below meth c B.exec B.bytes hml B.returns B.notSynchronized hown hts hP _ (lv_entry av hlen)
abbrev rdQ (v : Value) : Array Value → State → Outcome → State → Prop := va_Sr (fun _ => True) (fun _ => v)
set_option maxRecDepth 100000 in
theorem j_coder (l : Launch) (q v : Nat) : Met l yJ0_coder_7d493 wsJ0_coder_7d493 jr0 (va_Pc [.ref q] (fun U => SV noA q v U U.heap)) (rdQ (.int 0)) 0 0 noA := by
  refine j_start (cc := cJ0_coder_7d493) (maxL := 1) (ret := some .byte) (by decide) rfl (Nat.le_of_ble_eq_true rfl) ?_
  intro p e s m below meth c hx hb hml hr hlocks hown hts hV ls hl
  have hl : lv_has ls 1 [(0, .ref q)] := hl
  have hown : s.vm.findClass RJ0 = some m.cls := hown
  refine va_gets hx hb hV.2.2.2.2.1 va_S.rf hown (hts (.fieldLink RJ0 38 "java/lang/String" "COMPACT_STRINGS" "Z") (by decide +kernel)) (fun _ h => h) dJ0_coder_7d493_0 ?_
  refine lv_if_eq (tgt := 13) hx hb dJ0_coder_7d493_3 (by decide) (fun c => absurd c (by decide)) (fun _ => ?_)
  refine lv_aload_n hx hb dJ0_coder_7d493_6 rfl (lv_at hl 0 rfl) ?_
  refine vk_getf hx hb hV.2.1 va_S.rf hown (hts (.fieldLink RJ0 15 "java/lang/String" "coder" "B") (by decide +kernel)) (fun _ h => h) dJ0_coder_7d493_7 ?_
  refine lv_goto (tgt := 14) hx hb dJ0_coder_7d493_10 (by decide) ?_
  exact W.zret hx hb hr rfl (fun t ht _ => ⟨0, rfl, trivial, ht⟩) (fun _ h => by cases h) dJ0_coder_7d493_14 hlocks
set_option maxRecDepth 100000 in
theorem j_isLatin1 (l : Launch) (q v : Nat) : Met l yJ0_isLatin1_aae02 wsJ0_isLatin1_aae02 jr0 (va_Pc [.ref q] (fun U => SV noA q v U U.heap)) (rdQ (.int 1)) 0 0 noA := by
  refine j_start (cc := cJ0_isLatin1_aae02) (maxL := 1) (ret := some .boolean) (by decide) rfl (Nat.le_of_ble_eq_true rfl) ?_
  intro p e s m below meth c hx hb hml hr hlocks hown hts hV ls hl
  have hl : lv_has ls 1 [(0, .ref q)] := hl
  have hown : s.vm.findClass RJ0 = some m.cls := hown
  refine va_gets hx hb hV.2.2.2.2.1 va_S.rf hown (hts (.fieldLink RJ0 38 "java/lang/String" "COMPACT_STRINGS" "Z") (by decide +kernel)) (fun _ h => h) dJ0_isLatin1_aae02_0 ?_
  refine lv_if_eq (tgt := 17) hx hb dJ0_isLatin1_aae02_3 (by decide) (fun c => absurd c (by decide)) (fun _ => ?_)
  refine lv_aload_n hx hb dJ0_isLatin1_aae02_6 rfl (lv_at hl 0 rfl) ?_
  refine vk_getf hx hb hV.2.1 va_S.rf hown (hts (.fieldLink RJ0 15 "java/lang/String" "coder" "B") (by decide +kernel)) (fun _ h => h) dJ0_isLatin1_aae02_7 ?_
  refine lv_if_ne (tgt := 17) hx hb dJ0_isLatin1_aae02_10 (by decide) (fun c => absurd rfl c) (fun _ => ?_)
  refine lv_iconst (v := 1) hx hb dJ0_isLatin1_aae02_13 (by decide) ?_
  refine lv_goto (tgt := 18) hx hb dJ0_isLatin1_aae02_14 (by decide) ?_
  exact W.zret hx hb hr rfl (fun t ht _ => ⟨0, rfl, trivial, ht⟩) (fun _ h => by cases h) dJ0_isLatin1_aae02_18 hlocks
set_option maxRecDepth 100000 in
theorem j_length (l : Launch) (q v : Nat) : Met l yJ0_length_8abf5 wsJ0_length_8abf5 jr1 (va_Pc [.ref q] (fun U => SV noA q v U U.heap)) (rdQ (.int (nI 73))) 0 0 noA := by
  refine j_start (cc := cJ0_length_8abf5) (maxL := 1) (ret := some .int) (by decide) rfl (Nat.le_of_ble_eq_true rfl) ?_
  intro p e s m below meth c hx hb hml hr hlocks hown hts hV ls hl
  have hl : lv_has ls 1 [(0, .ref q)] := hl
  have hown : s.vm.findClass RJ0 = some m.cls := hown
  refine lv_aload_n hx hb dJ0_length_8abf5_0 rfl (lv_at hl 0 rfl) ?_
  refine vk_getf hx hb hV.2.2.1 va_S.rf hown (hts (.fieldLink RJ0 9 "java/lang/String" "value" "[B") (by decide +kernel)) (fun _ h => h) dJ0_length_8abf5_1 ?_
  refine va_tlen (v := nI 73) hx hb hV.2.2.2.1 va_S.rf rfl dJ0_length_8abf5_4 ?_
  refine lv_aload_n hx hb dJ0_length_8abf5_5 rfl (lv_at hl 0 rfl) ?_
  refine va_csr (va_runV (As := []) (rest := [.int (nI 73)]) ⟨hx, hb, hml, hown, hts⟩ (j_coder l q v) (cwV 0 hts gJ0_length_8abf5_J0_coder_7d493 rfl rfl rfl (by decide +kernel) ⟨Nat.le_of_ble_eq_true rfl, Nat.le_of_ble_eq_true rfl⟩) ⟨SV_blind _ q v, va_Orecv hV.1 (locs := []) va_S.rf, SV_pre hV _⟩ rfl rfl hl.1 rfl (lv_room (Nat.le_of_ble_eq_true rfl)) dJ0_length_8abf5_6 ⟨Nat.zero_le _, Nat.zero_le _⟩).run (fun _ _ => ?_)
  refine lv_ishr hx hb dJ0_length_8abf5_9 ?_
  refine lv_topi (fun y ey => ?_)
  have ey : y = nI 73 := by rw [ey]; decide
  subst ey
  exact W.iret hx hb hr (fun t ht _ => ⟨0, rfl, trivial, ht⟩) (fun _ h => by cases h) dJ0_length_8abf5_10 hlocks
set_option maxRecDepth 100000 in
theorem j_check3 (l : Launch) (x y : Int32) (w : Value) (hw : w = .null ∨ ∃ t, w = .ref t) (h0 : ¬ x < 0) (hxy : x < y) : Met l yJ3_checkIndex_8e157 wsJ3_checkIndex_8e157 jr0 (va_Pc [.int x, .int y, w] (fun _ => True)) (rdQ (.int x)) 0 0 noA := by
  refine j_start (cc := cJ3_checkIndex_8e157) (maxL := 3) (ret := some .int) (by decide) rfl (by rcases hw with rfl | ⟨t, rfl⟩ <;> exact Nat.le_of_ble_eq_true rfl) ?_
  intro p e s m below meth c hx hb hml hr hlocks hown hts hV ls hl
  have hl : lv_has ls 3 [(0, .int x), (1, .int y)] := by rcases hw with rfl | ⟨t, rfl⟩ <;> exact lv_sub hl [0, 1] rfl
  refine lv_iload_n hx hb dJ3_checkIndex_8e157_0 rfl (lv_at hl 0 rfl) ?_
  refine lv_if_lt (tgt := 9) hx hb dJ3_checkIndex_8e157_1 (by decide) (fun c => absurd c h0) (fun _ => ?_)
  refine lv_iload_n hx hb dJ3_checkIndex_8e157_4 rfl (lv_at hl 0 rfl) ?_
  refine lv_iload_n hx hb dJ3_checkIndex_8e157_5 rfl (lv_at hl 1 rfl) ?_
  refine lv_icmp_lt (tgt := 16) hx hb dJ3_checkIndex_8e157_6 (by decide) (fun _ => ?_) (fun c => absurd hxy c)
  refine lv_iload_n hx hb dJ3_checkIndex_8e157_16 rfl (lv_at hl 0 rfl) ?_
  exact W.iret hx hb hr (fun t ht _ => ⟨0, rfl, trivial, ht⟩) (fun _ h => by cases h) dJ3_checkIndex_8e157_17 hlocks
theorem tt_blind (av : List Value) : FrameBlind (va_Pc av (fun _ => True)) := by
  intro a U g mk z
  exact ⟨z.1, trivial⟩
set_option maxRecDepth 100000 in
theorem j_check0 (l : Launch) (q v : Nat) (x y : Int32) (h0 : ¬ x < 0) (hxy : x < y) : Met l yJ0_checkIndex_df160 wsJ0_checkIndex_df160 jr1 (va_Pc [.int x, .int y] (fun U => SV noA q v U U.heap)) (va_Sv (fun _ => True)) 0 0 noA := by
  refine j_start (cc := cJ0_checkIndex_df160) (maxL := 2) (ret := none) (by decide) rfl (Nat.le_of_ble_eq_true rfl) ?_
  intro p e s m below meth c hx hb hml hr hlocks hown hts hV ls hl
  have hl : lv_has ls 2 [(0, .int x), (1, .int y)] := hl
  have hown : s.vm.findClass RJ0 = some m.cls := hown
  refine lv_iload_n hx hb dJ0_checkIndex_df160_0 rfl (lv_at hl 0 rfl) ?_
  refine lv_iload_n hx hb dJ0_checkIndex_df160_1 rfl (lv_at hl 1 rfl) ?_
  obtain ⟨w, hw, hZ⟩ : ∃ w : Value, (w = .null ∨ ∃ t, w = .ref t) ∧ va_Z "jdk/internal/util/Preconditions" "SIOOBE_FORMATTER" "Ljava/util/function/BiFunction;" w noA s s.heap := by
    rcases hV.2.2.2.2.2 with h | ⟨t, h⟩
    · exact ⟨_, Or.inl rfl, h⟩
    · exact ⟨_, Or.inr ⟨t, rfl⟩, h⟩
  refine va_gets hx hb hZ va_S.rf hown (hts (.fieldLink RJ0 1053 "jdk/internal/util/Preconditions" "SIOOBE_FORMATTER" "Ljava/util/function/BiFunction;") (by decide +kernel)) (fun _ h => h) dJ0_checkIndex_df160_2 ?_
  refine va_csr (va_runS (As := [.int x, .int y, w]) (rest := []) ⟨hx, hb, hml, hown, hts⟩ (j_check3 l x y w hw h0 hxy) (va_cwS 3 hts gJ0_checkIndex_df160_J3_checkIndex_8e157 rfl rfl rfl (by decide +kernel) ⟨Nat.le_of_ble_eq_true rfl, Nat.le_of_ble_eq_true rfl⟩) ⟨tt_blind _, fun U hU hW => ⟨rfl, trivial⟩⟩ rfl rfl hl.1 rfl (lv_room (Nat.le_of_ble_eq_true rfl)) dJ0_checkIndex_df160_5 ⟨Nat.zero_le _, Nat.zero_le _⟩).run (fun _ _ => ?_)
  refine lv_pop hx hb dJ0_checkIndex_df160_8 rfl ?_
  exact W.vret hx hb hr (fun t ht _ => ⟨rfl, trivial, ht⟩) (fun _ h => by cases h) dJ0_checkIndex_df160_9 hlocks
theorem tx_c : ∀ j, j < 73 → ((tx j &&& 255).toUInt32 % 65536).toInt32 = tx j := by decide +kernel
theorem tx_n : ∀ j, j < 73 → narrow .char (.int (tx j)) = .int (tx j) := by decide +kernel
set_option maxRecDepth 100000 in
theorem j_charAt1 (l : Launch) (q v j : Nat) (hj : j < 73) : Met l yJ1_charAt_3b067 wsJ1_charAt_3b067 jr2 (va_Pc [.ref v, .int (nI j)] (fun U => SV noA q v U U.heap)) (rdQ (.int (tx j))) 0 0 noA := by
  refine j_start (cc := cJ1_charAt_3b067) (maxL := 2) (ret := some .char) (by decide) rfl (Nat.le_of_ble_eq_true rfl) ?_
  intro p e s m below meth c hx hb hml hr hlocks hown hts hV ls hl
  have hl : lv_has ls 2 [(0, .ref v), (1, .int (nI j))] := hl
  have hown : s.vm.findClass RJ1 = some m.cls := hown
  refine lv_iload_n hx hb dJ1_charAt_3b067_0 rfl (lv_at hl 1 rfl) ?_
  refine lv_aload_n hx hb dJ1_charAt_3b067_1 rfl (lv_at hl 0 rfl) ?_
  refine va_tlen (v := nI 73) hx hb hV.2.2.2.1 va_S.rf rfl dJ1_charAt_3b067_2 ?_
  refine va_csv (va_runS (As := [.int (nI j), .int (nI 73)]) (rest := []) ⟨hx, hb, hml, hown, hts⟩ (j_check0 l q v (nI j) (nI 73) (nI_pos (by omega)) (nI_lt hj (by omega))) (va_cwS 2 hts gJ1_charAt_3b067_J0_checkIndex_df160 rfl rfl rfl (by decide +kernel) ⟨Nat.le_of_ble_eq_true rfl, Nat.le_of_ble_eq_true rfl⟩) ⟨SV_blind _ q v, SV_pre hV _⟩ rfl rfl hl.1 rfl (lv_room (Nat.le_of_ble_eq_true rfl)) dJ1_charAt_3b067_3 ⟨Nat.zero_le _, Nat.zero_le _⟩).run (fun _ => ?_)
  refine lv_aload_n hx hb dJ1_charAt_3b067_6 rfl (lv_at hl 0 rfl) ?_
  refine lv_iload_n hx hb dJ1_charAt_3b067_7 rfl (lv_at hl 1 rfl) ?_
  refine va_tb (v := .int (tx j)) hx hb hV.2.2.2.1 va_S.rf (nI_in hj (by omega)) (by rw [nI_clamp (by omega)]) dJ1_charAt_3b067_8 ?_
  refine lv_sipush (v := 255) hx hb dJ1_charAt_3b067_9 (by decide) ?_
  refine lv_iand hx hb dJ1_charAt_3b067_12 ?_
  refine lv_i2c (v := tx j) hx hb dJ1_charAt_3b067_13 (tx_c j hj) ?_
  exact W.zret hx hb hr (tx_n j hj) (fun t ht _ => ⟨0, rfl, trivial, ht⟩) (fun _ h => by cases h) dJ1_charAt_3b067_14 hlocks
set_option maxRecDepth 100000 in
theorem j_charAt (l : Launch) (q v j : Nat) (hj : j < 73) : Met l yJ0_charAt_5068e wsJ0_charAt_5068e jr3 (va_Pc [.ref q, .int (nI j)] (fun U => SV noA q v U U.heap)) (rdQ (.int (tx j))) 0 0 noA := by
  refine j_start (cc := cJ0_charAt_5068e) (maxL := 2) (ret := some .char) (by decide) rfl (Nat.le_of_ble_eq_true rfl) ?_
  intro p e s m below meth c hx hb hml hr hlocks hown hts hV ls hl
  have hl : lv_has ls 2 [(0, .ref q), (1, .int (nI j))] := hl
  have hown : s.vm.findClass RJ0 = some m.cls := hown
  refine lv_aload_n hx hb dJ0_charAt_5068e_0 rfl (lv_at hl 0 rfl) ?_
  refine va_csr (va_runV (As := []) (rest := []) ⟨hx, hb, hml, hown, hts⟩ (j_isLatin1 l q v) (cwV 0 hts gJ0_charAt_5068e_J0_isLatin1_aae02 rfl rfl rfl (by decide +kernel) ⟨Nat.le_of_ble_eq_true rfl, Nat.le_of_ble_eq_true rfl⟩) ⟨SV_blind _ q v, va_Orecv hV.1 (locs := []) va_S.rf, SV_pre hV _⟩ rfl rfl hl.1 rfl (lv_room (Nat.le_of_ble_eq_true rfl)) dJ0_charAt_5068e_1 ⟨Nat.zero_le _, Nat.zero_le _⟩).run (fun _ _ => ?_)
  refine lv_if_eq (tgt := 16) hx hb dJ0_charAt_5068e_4 (by decide) (fun c => absurd c (by decide)) (fun _ => ?_)
  refine lv_aload_n hx hb dJ0_charAt_5068e_7 rfl (lv_at hl 0 rfl) ?_
  refine vk_getf hx hb hV.2.2.1 va_S.rf hown (hts (.fieldLink RJ0 9 "java/lang/String" "value" "[B") (by decide +kernel)) (fun _ h => h) dJ0_charAt_5068e_8 ?_
  refine lv_iload_n hx hb dJ0_charAt_5068e_11 rfl (lv_at hl 1 rfl) ?_
  refine va_csr (va_runS (As := [.ref v, .int (nI j)]) (rest := []) ⟨hx, hb, hml, hown, hts⟩ (j_charAt1 l q v j hj) (va_cwS 2 hts gJ0_charAt_5068e_J1_charAt_3b067 rfl rfl rfl (by decide +kernel) ⟨Nat.le_of_ble_eq_true rfl, Nat.le_of_ble_eq_true rfl⟩) ⟨SV_blind _ q v, SV_pre hV _⟩ rfl rfl hl.1 rfl (lv_room (Nat.le_of_ble_eq_true rfl)) dJ0_charAt_5068e_12 ⟨Nat.zero_le _, Nat.zero_le _⟩).run (fun _ _ => ?_)
  exact W.zret hx hb hr (tx_n j hj) (fun t ht _ => ⟨0, rfl, trivial, ht⟩) (fun _ h => by cases h) dJ0_charAt_5068e_15 hlocks
