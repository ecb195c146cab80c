/-! ===== THE CONSTRUCTORS: the reference ===== -/
def nX6 : List Value := [.int 0, .null, .null, .null, .null, .null, .null, .null, .int 0, .null, .int 0, .null, .int 0, .int 0, .null]
def e6 (D : va_G) (cI cH : ClassId) (a : Nat → Nat) : z_E := (D.1, D.2, cI, cH, fun _ c => a c, z_modC)
abbrev rkX6 : Room := { frames := 1, cells := 10, slots := 793, locals := 26 }
def hwX6 (cI : ClassId) (a : Nat → Nat) : va_W := [(a 0, .inr (6, [.int 0, .ref (a 1), .ref (a 2), .ref (a 3), .ref (a 4), .ref (a 5), .ref (a 6), .ref (a 7), .int 0, .ref (a 9), .int 0, .ref (a 11), .int 0, .int 0, .ref (a 14)])), (a 1, .inl (cI, 200, .inl (fun _ => 0))), (a 2, .inl (cI, 13, .inl (fun _ => 0))), (a 3, .inl (cI, 13, .inl (fun _ => 0))), (a 4, .inl (cI, 42, .inl (fun _ => 0))), (a 5, .inl (cI, 42, .inl (fun _ => 0))), (a 6, .inl (cI, 42, .inl (fun _ => 0))), (a 7, .inl (cI, 336, .inl (fun _ => 0))), (a 9, .inl (cI, 84, .inl (fun _ => 0))), (a 11, .inl (cI, 18, .inl (fun _ => 0))), (a 14, .inl (cI, 3, .inl (fun _ => 0)))]
theorem w6_eq (D : va_G) (cI cH : ClassId) (a : Nat → Nat) : hwX6 cI a = z_w (e6 D cI cH a) zz := rfl
theorem c6_nd : z_modC.Nodup := by decide +kernel
set_option maxHeartbeats 8000000 in
set_option maxRecDepth 100000 in
theorem x6_tail {p : Program} (l : Launch) {e : Env} {s : State} {m : MethodId} {below : List Frame} {meth : Method} {c : Code} (D : va_G) {A : Nat → Prop} {cI cH : ClassId} {a : Nat → Nat} {H : Heap} {locs : List Loc} {ls : Array Slot} (hx : p.tables.exec = Jvm.exec) (hb : c.code = cX6_init) (hml : c.maxLocals = 1) (hr : meth.sig.returnType = none) (hlocks : meth.locks = false) (hown : s.vm.findClass RX6 = some m.cls) (hts : ∀ w ∈ wsX6_init, w.before ([.ref (a 0)] : List Value).toArray s = true) (hN : z_N s) (hK : va_K D vwCl [(cI, .int), (cH, .object RX1)] s) (hP : va_P D vwCl (z_w (e6 D cI cH a) zz) H) (hD : va_D A (z_w (e6 D cI cH a) zz)) (hS : va_S A s.heap H locs) (hl : lv_has ls 1 [(0, .ref (a 0))]) :
    W p l e rkX6 s m ([.ref (a 0)] : List Value).toArray below meth c H locs 10 793 (MQ below (va_Qv (fun _ : Unit => True) (fun _ t => ∃ (a2 : Nat → Nat) (X : z_X), a2 0 = a 0 ∧ St6 (X 19) ∧ va_P D vwCl (z_w (e6 D cI cH a2) X) t.heap ∧ va_D (A) (z_w (e6 D cI cH a2) X)) A) ([.ref (a 0)] : List Value).toArray s 10 793 A) (F0 m 85 ls []) := by
  obtain ⟨E, hEe⟩ : ∃ E : z_E, E = e6 D cI cH a := ⟨_, rfl⟩
  have hE : z_ok E := by rw [hEe]; exact z_ok_of c6_nd hD
  have hM : z_mod E := by rw [hEe]; exact fun z h => h
  have hKE : z_K E s := by rw [hEe]; exact ⟨hK, hN⟩
  have hP : z_P E (z_up zz 19 (zz 19)) H := by rw [hEe, z_up_self]; exact hP
  have hsub : ∀ q, z_A E q → A q := by rw [hEe]; exact z_A_sub hD
  have hl : lv_has ls 1 [(0, .ref (z_a E 19 0))] := by rw [hEe]; exact hl
  have h19 : (19, 0) ∈ z_c E := hM (19, 0) (List.mem_of_getElem? (i := 0) rfl)
  refine lv_aload_n hx hb dX6_init_85 rfl (lv_at hl 0 rfl) ?_
  refine y_vv (C := RX6) (T := TX6) (N := 15) (o := 19) (As := []) (rest := []) ⟨hx, hb, hml, hown, hts⟩ (m_X6_empty l hE hM zz (zz 19)  _ (p_empty)) (cwV 0 hts gX6_init_X6_empty rfl rfl rfl (by decide +kernel) ⟨Nat.le_of_ble_eq_true rfl, Nat.le_of_ble_eq_true rfl⟩) hKE hP hsub hS h19 z_l_19_0 rfl rfl hl.1 rfl (Nat.le_of_ble_eq_true rfl) dX6_init_86 ⟨Nat.le_of_ble_eq_true rfl, Nat.le_of_ble_eq_true rfl⟩ (fun u H locs hk hP hS => ?_)
  obtain ⟨G0, rfl, R0⟩ := hk
  refine lv_aload_n hx hb dX6_init_89 rfl (lv_at hl 0 rfl) ?_
  refine lv_bipush (v := nI 8) hx hb dX6_init_90 (by decide) ?_
  refine lv_bipush (v := nI 10) hx hb dX6_init_92 (by decide) ?_
  refine lv_iconst (v := nI 1) hx hb dX6_init_94 (by decide) ?_
  refine y_vv (C := RX6) (T := TX6) (N := 15) (o := 19) (As := [.int (nI 8), .int (nI 10), .int (nI 1)]) (rest := []) ⟨hx, hb, hml, hown, hts⟩ (m_X6_personIs l hE hM zz G0 (nI 8) (nI 10) (nI 1) _ (p_person R0 (by decide) hq1)) (cwV 3 hts gX6_init_X6_personIs rfl rfl rfl (by decide +kernel) ⟨Nat.le_of_ble_eq_true rfl, Nat.le_of_ble_eq_true rfl⟩) hKE hP hsub hS h19 z_l_19_0 rfl rfl hl.1 rfl (Nat.le_of_ble_eq_true rfl) dX6_init_95 ⟨Nat.le_of_ble_eq_true rfl, Nat.le_of_ble_eq_true rfl⟩ (fun u H locs hk hP hS => ?_)
  obtain ⟨G1, rfl, R1⟩ := hk
  refine lv_aload_n hx hb dX6_init_98 rfl (lv_at hl 0 rfl) ?_
  refine lv_bipush (v := nI 6) hx hb dX6_init_99 (by decide) ?_
  refine lv_bipush (v := nI 12) hx hb dX6_init_101 (by decide) ?_
  refine lv_iconst (v := nI 0) hx hb dX6_init_103 (by decide) ?_
  refine y_vv (C := RX6) (T := TX6) (N := 15) (o := 19) (As := [.int (nI 6), .int (nI 12), .int (nI 0)]) (rest := []) ⟨hx, hb, hml, hown, hts⟩ (m_X6_personIs l hE hM zz G1 (nI 6) (nI 12) (nI 0) _ (p_person R1 (by decide) hq2)) (cwV 3 hts gX6_init_X6_personIs rfl rfl rfl (by decide +kernel) ⟨Nat.le_of_ble_eq_true rfl, Nat.le_of_ble_eq_true rfl⟩) hKE hP hsub hS h19 z_l_19_0 rfl rfl hl.1 rfl (Nat.le_of_ble_eq_true rfl) dX6_init_104 ⟨Nat.le_of_ble_eq_true rfl, Nat.le_of_ble_eq_true rfl⟩ (fun u H locs hk hP hS => ?_)
  obtain ⟨G2, rfl, R2⟩ := hk
  refine lv_aload_n hx hb dX6_init_107 rfl (lv_at hl 0 rfl) ?_
  refine lv_iconst (v := nI 4) hx hb dX6_init_108 (by decide) ?_
  refine lv_bipush (v := nI 7) hx hb dX6_init_109 (by decide) ?_
  refine lv_iconst (v := nI 1) hx hb dX6_init_111 (by decide) ?_
  refine y_vv (C := RX6) (T := TX6) (N := 15) (o := 19) (As := [.int (nI 4), .int (nI 7), .int (nI 1)]) (rest := []) ⟨hx, hb, hml, hown, hts⟩ (m_X6_personIs l hE hM zz G2 (nI 4) (nI 7) (nI 1) _ (p_person R2 (by decide) hq3)) (cwV 3 hts gX6_init_X6_personIs rfl rfl rfl (by decide +kernel) ⟨Nat.le_of_ble_eq_true rfl, Nat.le_of_ble_eq_true rfl⟩) hKE hP hsub hS h19 z_l_19_0 rfl rfl hl.1 rfl (Nat.le_of_ble_eq_true rfl) dX6_init_112 ⟨Nat.le_of_ble_eq_true rfl, Nat.le_of_ble_eq_true rfl⟩ (fun u H locs hk hP hS => ?_)
  obtain ⟨G3, rfl, R3⟩ := hk
  refine lv_aload_n hx hb dX6_init_115 rfl (lv_at hl 0 rfl) ?_
  refine lv_bipush (v := nI 9) hx hb dX6_init_116 (by decide) ?_
  refine lv_bipush (v := nI 20) hx hb dX6_init_118 (by decide) ?_
  refine lv_iconst (v := nI 0) hx hb dX6_init_120 (by decide) ?_
  refine y_vv (C := RX6) (T := TX6) (N := 15) (o := 19) (As := [.int (nI 9), .int (nI 20), .int (nI 0)]) (rest := []) ⟨hx, hb, hml, hown, hts⟩ (m_X6_personIs l hE hM zz G3 (nI 9) (nI 20) (nI 0) _ (p_person R3 (by decide) hq4)) (cwV 3 hts gX6_init_X6_personIs rfl rfl rfl (by decide +kernel) ⟨Nat.le_of_ble_eq_true rfl, Nat.le_of_ble_eq_true rfl⟩) hKE hP hsub hS h19 z_l_19_0 rfl rfl hl.1 rfl (Nat.le_of_ble_eq_true rfl) dX6_init_121 ⟨Nat.le_of_ble_eq_true rfl, Nat.le_of_ble_eq_true rfl⟩ (fun u H locs hk hP hS => ?_)
  obtain ⟨G4, rfl, R4⟩ := hk
  refine lv_aload_n hx hb dX6_init_124 rfl (lv_at hl 0 rfl) ?_
  refine lv_bipush (v := nI 7) hx hb dX6_init_125 (by decide) ?_
  refine lv_iconst (v := nI 5) hx hb dX6_init_127 (by decide) ?_
  refine lv_iconst (v := nI 1) hx hb dX6_init_128 (by decide) ?_
  refine y_vv (C := RX6) (T := TX6) (N := 15) (o := 19) (As := [.int (nI 7), .int (nI 5), .int (nI 1)]) (rest := []) ⟨hx, hb, hml, hown, hts⟩ (m_X6_personIs l hE hM zz G4 (nI 7) (nI 5) (nI 1) _ (p_person R4 (by decide) hq5)) (cwV 3 hts gX6_init_X6_personIs rfl rfl rfl (by decide +kernel) ⟨Nat.le_of_ble_eq_true rfl, Nat.le_of_ble_eq_true rfl⟩) hKE hP hsub hS h19 z_l_19_0 rfl rfl hl.1 rfl (Nat.le_of_ble_eq_true rfl) dX6_init_129 ⟨Nat.le_of_ble_eq_true rfl, Nat.le_of_ble_eq_true rfl⟩ (fun u H locs hk hP hS => ?_)
  obtain ⟨G5, rfl, R5⟩ := hk
  refine lv_aload_n hx hb dX6_init_132 rfl (lv_at hl 0 rfl) ?_
  refine lv_iconst (v := nI 0) hx hb dX6_init_133 (by decide) ?_
  refine lv_bipush (v := nI 8) hx hb dX6_init_134 (by decide) ?_
  refine lv_iconst (v := nI 3) hx hb dX6_init_136 (by decide) ?_
  refine y_vv (C := RX6) (T := TX6) (N := 15) (o := 19) (As := [.int (nI 0), .int (nI 8), .int (nI 3)]) (rest := []) ⟨hx, hb, hml, hown, hts⟩ (m_X6_gloveIs l hE hM zz G5 (nI 0) (nI 8) (nI 3) _ (p_glove R5 (by decide) hq6)) (cwV 3 hts gX6_init_X6_gloveIs rfl rfl rfl (by decide +kernel) ⟨Nat.le_of_ble_eq_true rfl, Nat.le_of_ble_eq_true rfl⟩) hKE hP hsub hS h19 z_l_19_0 rfl rfl hl.1 rfl (Nat.le_of_ble_eq_true rfl) dX6_init_137 ⟨Nat.le_of_ble_eq_true rfl, Nat.le_of_ble_eq_true rfl⟩ (fun u H locs hk hP hS => ?_)
  obtain ⟨G6, rfl, R6⟩ := hk
  refine lv_aload_n hx hb dX6_init_140 rfl (lv_at hl 0 rfl) ?_
  refine lv_iconst (v := nI 1) hx hb dX6_init_141 (by decide) ?_
  refine lv_iconst (v := nI 5) hx hb dX6_init_142 (by decide) ?_
  refine lv_iconst (v := nI 1) hx hb dX6_init_143 (by decide) ?_
  refine y_vv (C := RX6) (T := TX6) (N := 15) (o := 19) (As := [.int (nI 1), .int (nI 5), .int (nI 1)]) (rest := []) ⟨hx, hb, hml, hown, hts⟩ (m_X6_gloveIs l hE hM zz G6 (nI 1) (nI 5) (nI 1) _ (p_glove R6 (by decide) hq7)) (cwV 3 hts gX6_init_X6_gloveIs rfl rfl rfl (by decide +kernel) ⟨Nat.le_of_ble_eq_true rfl, Nat.le_of_ble_eq_true rfl⟩) hKE hP hsub hS h19 z_l_19_0 rfl rfl hl.1 rfl (Nat.le_of_ble_eq_true rfl) dX6_init_144 ⟨Nat.le_of_ble_eq_true rfl, Nat.le_of_ble_eq_true rfl⟩ (fun u H locs hk hP hS => ?_)
  obtain ⟨G7, rfl, R7⟩ := hk
  refine lv_aload_n hx hb dX6_init_147 rfl (lv_at hl 0 rfl) ?_
  refine lv_iconst (v := nI 2) hx hb dX6_init_148 (by decide) ?_
  refine lv_iconst (v := nI 4) hx hb dX6_init_149 (by decide) ?_
  refine lv_iconst (v := nI 3) hx hb dX6_init_150 (by decide) ?_
  refine y_vv (C := RX6) (T := TX6) (N := 15) (o := 19) (As := [.int (nI 2), .int (nI 4), .int (nI 3)]) (rest := []) ⟨hx, hb, hml, hown, hts⟩ (m_X6_gloveIs l hE hM zz G7 (nI 2) (nI 4) (nI 3) _ (p_glove R7 (by decide) hq8)) (cwV 3 hts gX6_init_X6_gloveIs rfl rfl rfl (by decide +kernel) ⟨Nat.le_of_ble_eq_true rfl, Nat.le_of_ble_eq_true rfl⟩) hKE hP hsub hS h19 z_l_19_0 rfl rfl hl.1 rfl (Nat.le_of_ble_eq_true rfl) dX6_init_151 ⟨Nat.le_of_ble_eq_true rfl, Nat.le_of_ble_eq_true rfl⟩ (fun u H locs hk hP hS => ?_)
  obtain ⟨G8, rfl, R8⟩ := hk
  refine lv_aload_n hx hb dX6_init_154 rfl (lv_at hl 0 rfl) ?_
  refine lv_iconst (v := nI 3) hx hb dX6_init_155 (by decide) ?_
  refine lv_bipush (v := nI 9) hx hb dX6_init_156 (by decide) ?_
  refine lv_iconst (v := nI 1) hx hb dX6_init_158 (by decide) ?_
  refine y_vv (C := RX6) (T := TX6) (N := 15) (o := 19) (As := [.int (nI 3), .int (nI 9), .int (nI 1)]) (rest := []) ⟨hx, hb, hml, hown, hts⟩ (m_X6_gloveIs l hE hM zz G8 (nI 3) (nI 9) (nI 1) _ (p_glove R8 (by decide) hq9)) (cwV 3 hts gX6_init_X6_gloveIs rfl rfl rfl (by decide +kernel) ⟨Nat.le_of_ble_eq_true rfl, Nat.le_of_ble_eq_true rfl⟩) hKE hP hsub hS h19 z_l_19_0 rfl rfl hl.1 rfl (Nat.le_of_ble_eq_true rfl) dX6_init_159 ⟨Nat.le_of_ble_eq_true rfl, Nat.le_of_ble_eq_true rfl⟩ (fun u H locs hk hP hS => ?_)
  obtain ⟨G9, rfl, R9⟩ := hk
  refine lv_aload_n hx hb dX6_init_162 rfl (lv_at hl 0 rfl) ?_
  refine lv_iconst (v := nI 0) hx hb dX6_init_163 (by decide) ?_
  refine lv_bipush (v := nI 7) hx hb dX6_init_164 (by decide) ?_
  refine lv_iconst (v := nI 0) hx hb dX6_init_166 (by decide) ?_
  refine y_vv (C := RX6) (T := TX6) (N := 15) (o := 19) (As := [.int (nI 0), .int (nI 7), .int (nI 0)]) (rest := []) ⟨hx, hb, hml, hown, hts⟩ (m_X6_gloveIs l hE hM zz G9 (nI 0) (nI 7) (nI 0) _ (p_glove R9 (by decide) hq10)) (cwV 3 hts gX6_init_X6_gloveIs rfl rfl rfl (by decide +kernel) ⟨Nat.le_of_ble_eq_true rfl, Nat.le_of_ble_eq_true rfl⟩) hKE hP hsub hS h19 z_l_19_0 rfl rfl hl.1 rfl (Nat.le_of_ble_eq_true rfl) dX6_init_167 ⟨Nat.le_of_ble_eq_true rfl, Nat.le_of_ble_eq_true rfl⟩ (fun u H locs hk hP hS => ?_)
  obtain ⟨G10, rfl, R10⟩ := hk
  refine lv_aload_n hx hb dX6_init_170 rfl (lv_at hl 0 rfl) ?_
  refine y_vv (C := RX6) (T := TX6) (N := 15) (o := 19) (As := []) (rest := []) ⟨hx, hb, hml, hown, hts⟩ (m_X6_begin l hE hM zz G10  _ (p_begin R10)) (cwV 0 hts gX6_init_X6_begin rfl rfl rfl (by decide +kernel) ⟨Nat.le_of_ble_eq_true rfl, Nat.le_of_ble_eq_true rfl⟩) hKE hP hsub hS h19 z_l_19_0 rfl rfl hl.1 rfl (Nat.le_of_ble_eq_true rfl) dX6_init_171 ⟨Nat.le_of_ble_eq_true rfl, Nat.le_of_ble_eq_true rfl⟩ (fun u H locs hk hP hS => ?_)
  obtain ⟨G11, rfl, R11⟩ := hk
  rw [hEe] at hP
  exact W.vret hx hb hr (fun t ht hW => ⟨⟨(), rfl, trivial, a, z_up zz 19 G11, rfl, (by rw [z_up_same]; exact R11), (by rw [ht]; exact hP), z_D_any hD⟩, hS.F ht⟩) hS.2.2 dX6_init_174 hlocks
set_option maxHeartbeats 8000000 in
set_option maxRecDepth 100000 in
theorem k_X6 (l : Launch) (D : va_G) (cI cH : ClassId) (h0 sz : Nat) : Met l yX6_init wsX6_init rkX6 (va_Pc [.ref h0] (fun U => U.heap.size = sz ∧ va_P D vwCl [(h0, .inr (6, nX6))] U.heap ∧ (va_K D vwCl [(cI, .int), (cH, .object RX1)] U ∧ z_N U) ∧ va_D (fun _ => True) [(h0, .inr (6, nX6))])) (va_Qv (fun _ : Unit => True) (fun _ t => ∃ (a : Nat → Nat) (X : z_X), a 0 = h0 ∧ St6 (X 19) ∧ va_P D vwCl (z_w (e6 D cI cH a) X) t.heap ∧ va_D (va_A [(h0, .inr (6, nX6))] sz) (z_w (e6 D cI cH a) X)) (va_A [(h0, .inr (6, nX6))] sz)) 10 793 (va_A [(h0, .inr (6, nX6))] sz) := by
  refine Met.ofW (cc := cX6_init) (maxL := 1) (ret := none) (by decide) rfl ?_
  intro p e s m args below meth c s₁ B hml hv
  obtain ⟨rfl, hsz, hP, ⟨hK, hN⟩, hD0⟩ := hv
  have hx := B.exec
  have hb := B.bytes
  have hr := B.returns
  have hts := atoms_spec (ws := wsX6_init) B.pre
  have hown : s.vm.findClass RX6 = some m.cls := findClass_of_methodNamed B.named
  have hlocks := B.notSynchronized
  have hin : meth.name = "<init>" := (name_of_methodNamed B.named B.method).1
  have hf : ∀ w ∈ u_ws RX6 TX6 15, w ∈ wsX6_init := by decide +kernel
  subst hsz
  have hD := hD0.self (sz := s.heap.size)
  generalize hAe : va_A [(h0, .inr (6, nX6))] s.heap.size = A at hD ⊢
  have hA : ∀ q : Nat, s.heap.size ≤ q → A q := fun q h => by rw [← hAe]; exact Or.inr h
  have hS : va_S A s.heap s.heap [] := va_S.rf
  have hP : va_P D vwCl [(h0, .inr (6, [.int 0, .null, .null, .null, .null, .null, .null, .null, .int 0, .null, .int 0, .null, .int 0, .int 0, .null]))] s.heap := hP
  have hD : va_D A [(h0, .inr (6, [.int 0, .null, .null, .null, .null, .null, .null, .null, .int 0, .null, .int 0, .null, .int 0, .int 0, .null]))] := hD
  have hl := lv_entry ([.ref h0]) (n := 1) (Nat.le_of_ble_eq_true rfl)
  rw [lg_entry_eq]
  generalize (lg_sl ([.ref h0]) ++ List.replicate (1 - (lg_sl ([.ref h0])).length) Slot.unset).toArray = ls at hl ⊢
  have hl : lv_has ls 1 [(0, .ref h0)] := hl
  refine lv_aload_n hx hb dX6_init_0 rfl (lv_at hl 0 rfl) ?_
  refine W.objInit hx hb hown (hts (.methodLink RX6 1 objectInit) (by decide +kernel)) (hts (.instanceMethod objectInit) (by decide +kernel)) (hts _ (List.mem_of_getElem? (i := 3) rfl)) rfl (by rw [hml]; exact hl.1) rfl dX6_init_1 (Nat.le_of_ble_eq_true rfl) (Nat.le_of_ble_eq_true rfl) ?_
  refine W.eq (g2 := F0 m 4 ls []) rfl ?_
  refine lv_aload_n hx hb dX6_init_4 rfl (lv_at hl 0 rfl) ?_
  refine lv_sipush (v := (200 : Int32)) hx hb dX6_init_5 (by decide) ?_
  refine va_newa (atype := .int) (ty := .int) (a0 := (200, .inl (fun _ => 0))) (N' := 200) hx hb (hts (.arrayClass .int) (by decide +kernel)) rfl hK hP hD hS hA (fun _ => rfl) (by decide) rfl (by decide) (Nat.le_of_ble_eq_true rfl) (Nat.le_of_ble_eq_true rfl) dX6_init_8 (fun a1 cJ H hK hP hD hS => ?_)
  obtain rfl := ka_eq hK (i := 0) (j := 2) rfl rfl
  have hK := hK.sub (tys' := [(cI, .int), (cH, .object RX1)]) [0, 1] rfl
  have hP : va_P D vwCl [(h0, .inr (6, [.int 0, .null, .null, .null, .null, .null, .null, .null, .int 0, .null, .int 0, .null, .int 0, .int 0, .null])), (a1, .inl (cI, 200, .inl (fun _ => 0)))] H := hP
  have hD : va_D A [(h0, .inr (6, [.int 0, .null, .null, .null, .null, .null, .null, .null, .int 0, .null, .int 0, .null, .int 0, .int 0, .null])), (a1, .inl (cI, 200, .inl (fun _ => 0)))] := hD
  refine W.widen (k := 1) (n := 200) (Nat.le_of_ble_eq_true rfl) (Nat.le_of_ble_eq_true rfl) ?_
  refine va_putF (D := D) (ci := 6) (v := .ref a1) (ty := .array .int) (C := RX6) (T := TX6) (N := 15) hx hb hts hf tyX6 tyX6_ok nmX6 hown hK hP hD hS 0 rfl rfl 1 (by decide) (hts (.fieldLink RX6 7 "GauntletHallModel" "text" "[I") (by decide +kernel)) (fun _ h9 => h9) rfl hin rfl (by decide +kernel) rfl rfl (Nat.le_of_ble_eq_true rfl) dX6_init_10 (fun H locs hP hD hS => ?_)
  have hP : va_P D vwCl [(h0, .inr (6, [.int 0, .ref a1, .null, .null, .null, .null, .null, .null, .int 0, .null, .int 0, .null, .int 0, .int 0, .null])), (a1, .inl (cI, 200, .inl (fun _ => 0)))] H := hP
  have hD : va_D A [(h0, .inr (6, [.int 0, .ref a1, .null, .null, .null, .null, .null, .null, .int 0, .null, .int 0, .null, .int 0, .int 0, .null])), (a1, .inl (cI, 200, .inl (fun _ => 0)))] := hD
  refine lv_aload_n hx hb dX6_init_13 rfl (lv_at hl 0 rfl) ?_
  refine lv_bipush (v := (13 : Int32)) hx hb dX6_init_14 (by decide) ?_
  refine va_newa (atype := .int) (ty := .int) (a0 := (13, .inl (fun _ => 0))) (N' := 13) hx hb (hts (.arrayClass .int) (by decide +kernel)) rfl hK hP hD hS hA (fun _ => rfl) (by decide) rfl (by decide) (Nat.le_of_ble_eq_true rfl) (Nat.le_of_ble_eq_true rfl) dX6_init_16 (fun a2 cJ H hK hP hD hS => ?_)
  obtain rfl := ka_eq hK (i := 0) (j := 2) rfl rfl
  have hK := hK.sub (tys' := [(cI, .int), (cH, .object RX1)]) [0, 1] rfl
  have hP : va_P D vwCl [(h0, .inr (6, [.int 0, .ref a1, .null, .null, .null, .null, .null, .null, .int 0, .null, .int 0, .null, .int 0, .int 0, .null])), (a1, .inl (cI, 200, .inl (fun _ => 0))), (a2, .inl (cI, 13, .inl (fun _ => 0)))] H := hP
  have hD : va_D A [(h0, .inr (6, [.int 0, .ref a1, .null, .null, .null, .null, .null, .null, .int 0, .null, .int 0, .null, .int 0, .int 0, .null])), (a1, .inl (cI, 200, .inl (fun _ => 0))), (a2, .inl (cI, 13, .inl (fun _ => 0)))] := hD
  refine W.widen (k := 2) (n := 213) (Nat.le_of_ble_eq_true rfl) (Nat.le_of_ble_eq_true rfl) ?_
  refine va_putF (D := D) (ci := 6) (v := .ref a2) (ty := .array .int) (C := RX6) (T := TX6) (N := 15) hx hb hts hf tyX6 tyX6_ok nmX6 hown hK hP hD hS 0 rfl rfl 2 (by decide) (hts (.fieldLink RX6 13 "GauntletHallModel" "told" "[I") (by decide +kernel)) (fun _ h9 => h9) rfl hin rfl (by decide +kernel) rfl rfl (Nat.le_of_ble_eq_true rfl) dX6_init_18 (fun H locs hP hD hS => ?_)
  have hP : va_P D vwCl [(h0, .inr (6, [.int 0, .ref a1, .ref a2, .null, .null, .null, .null, .null, .int 0, .null, .int 0, .null, .int 0, .int 0, .null])), (a1, .inl (cI, 200, .inl (fun _ => 0))), (a2, .inl (cI, 13, .inl (fun _ => 0)))] H := hP
  have hD : va_D A [(h0, .inr (6, [.int 0, .ref a1, .ref a2, .null, .null, .null, .null, .null, .int 0, .null, .int 0, .null, .int 0, .int 0, .null])), (a1, .inl (cI, 200, .inl (fun _ => 0))), (a2, .inl (cI, 13, .inl (fun _ => 0)))] := hD
  refine lv_aload_n hx hb dX6_init_21 rfl (lv_at hl 0 rfl) ?_
  refine lv_bipush (v := (13 : Int32)) hx hb dX6_init_22 (by decide) ?_
  refine va_newa (atype := .int) (ty := .int) (a0 := (13, .inl (fun _ => 0))) (N' := 13) hx hb (hts (.arrayClass .int) (by decide +kernel)) rfl hK hP hD hS hA (fun _ => rfl) (by decide) rfl (by decide) (Nat.le_of_ble_eq_true rfl) (Nat.le_of_ble_eq_true rfl) dX6_init_24 (fun a3 cJ H hK hP hD hS => ?_)
  obtain rfl := ka_eq hK (i := 0) (j := 2) rfl rfl
  have hK := hK.sub (tys' := [(cI, .int), (cH, .object RX1)]) [0, 1] rfl
  have hP : va_P D vwCl [(h0, .inr (6, [.int 0, .ref a1, .ref a2, .null, .null, .null, .null, .null, .int 0, .null, .int 0, .null, .int 0, .int 0, .null])), (a1, .inl (cI, 200, .inl (fun _ => 0))), (a2, .inl (cI, 13, .inl (fun _ => 0))), (a3, .inl (cI, 13, .inl (fun _ => 0)))] H := hP
  have hD : va_D A [(h0, .inr (6, [.int 0, .ref a1, .ref a2, .null, .null, .null, .null, .null, .int 0, .null, .int 0, .null, .int 0, .int 0, .null])), (a1, .inl (cI, 200, .inl (fun _ => 0))), (a2, .inl (cI, 13, .inl (fun _ => 0))), (a3, .inl (cI, 13, .inl (fun _ => 0)))] := hD
  refine W.widen (k := 3) (n := 226) (Nat.le_of_ble_eq_true rfl) (Nat.le_of_ble_eq_true rfl) ?_
  refine va_putF (D := D) (ci := 6) (v := .ref a3) (ty := .array .int) (C := RX6) (T := TX6) (N := 15) hx hb hts hf tyX6 tyX6_ok nmX6 hown hK hP hD hS 0 rfl rfl 3 (by decide) (hts (.fieldLink RX6 16 "GauntletHallModel" "read" "[I") (by decide +kernel)) (fun _ h9 => h9) rfl hin rfl (by decide +kernel) rfl rfl (Nat.le_of_ble_eq_true rfl) dX6_init_26 (fun H locs hP hD hS => ?_)
  have hP : va_P D vwCl [(h0, .inr (6, [.int 0, .ref a1, .ref a2, .ref a3, .null, .null, .null, .null, .int 0, .null, .int 0, .null, .int 0, .int 0, .null])), (a1, .inl (cI, 200, .inl (fun _ => 0))), (a2, .inl (cI, 13, .inl (fun _ => 0))), (a3, .inl (cI, 13, .inl (fun _ => 0)))] H := hP
  have hD : va_D A [(h0, .inr (6, [.int 0, .ref a1, .ref a2, .ref a3, .null, .null, .null, .null, .int 0, .null, .int 0, .null, .int 0, .int 0, .null])), (a1, .inl (cI, 200, .inl (fun _ => 0))), (a2, .inl (cI, 13, .inl (fun _ => 0))), (a3, .inl (cI, 13, .inl (fun _ => 0)))] := hD
  refine lv_aload_n hx hb dX6_init_29 rfl (lv_at hl 0 rfl) ?_
  refine lv_bipush (v := (42 : Int32)) hx hb dX6_init_30 (by decide) ?_
  refine va_newa (atype := .int) (ty := .int) (a0 := (42, .inl (fun _ => 0))) (N' := 42) hx hb (hts (.arrayClass .int) (by decide +kernel)) rfl hK hP hD hS hA (fun _ => rfl) (by decide) rfl (by decide) (Nat.le_of_ble_eq_true rfl) (Nat.le_of_ble_eq_true rfl) dX6_init_32 (fun a4 cJ H hK hP hD hS => ?_)
  obtain rfl := ka_eq hK (i := 0) (j := 2) rfl rfl
  have hK := hK.sub (tys' := [(cI, .int), (cH, .object RX1)]) [0, 1] rfl
  have hP : va_P D vwCl [(h0, .inr (6, [.int 0, .ref a1, .ref a2, .ref a3, .null, .null, .null, .null, .int 0, .null, .int 0, .null, .int 0, .int 0, .null])), (a1, .inl (cI, 200, .inl (fun _ => 0))), (a2, .inl (cI, 13, .inl (fun _ => 0))), (a3, .inl (cI, 13, .inl (fun _ => 0))), (a4, .inl (cI, 42, .inl (fun _ => 0)))] H := hP
  have hD : va_D A [(h0, .inr (6, [.int 0, .ref a1, .ref a2, .ref a3, .null, .null, .null, .null, .int 0, .null, .int 0, .null, .int 0, .int 0, .null])), (a1, .inl (cI, 200, .inl (fun _ => 0))), (a2, .inl (cI, 13, .inl (fun _ => 0))), (a3, .inl (cI, 13, .inl (fun _ => 0))), (a4, .inl (cI, 42, .inl (fun _ => 0)))] := hD
  refine W.widen (k := 4) (n := 268) (Nat.le_of_ble_eq_true rfl) (Nat.le_of_ble_eq_true rfl) ?_
  refine va_putF (D := D) (ci := 6) (v := .ref a4) (ty := .array .int) (C := RX6) (T := TX6) (N := 15) hx hb hts hf tyX6 tyX6_ok nmX6 hown hK hP hD hS 0 rfl rfl 4 (by decide) (hts (.fieldLink RX6 19 "GauntletHallModel" "readRow" "[I") (by decide +kernel)) (fun _ h9 => h9) rfl hin rfl (by decide +kernel) rfl rfl (Nat.le_of_ble_eq_true rfl) dX6_init_34 (fun H locs hP hD hS => ?_)
  have hP : va_P D vwCl [(h0, .inr (6, [.int 0, .ref a1, .ref a2, .ref a3, .ref a4, .null, .null, .null, .int 0, .null, .int 0, .null, .int 0, .int 0, .null])), (a1, .inl (cI, 200, .inl (fun _ => 0))), (a2, .inl (cI, 13, .inl (fun _ => 0))), (a3, .inl (cI, 13, .inl (fun _ => 0))), (a4, .inl (cI, 42, .inl (fun _ => 0)))] H := hP
  have hD : va_D A [(h0, .inr (6, [.int 0, .ref a1, .ref a2, .ref a3, .ref a4, .null, .null, .null, .int 0, .null, .int 0, .null, .int 0, .int 0, .null])), (a1, .inl (cI, 200, .inl (fun _ => 0))), (a2, .inl (cI, 13, .inl (fun _ => 0))), (a3, .inl (cI, 13, .inl (fun _ => 0))), (a4, .inl (cI, 42, .inl (fun _ => 0)))] := hD
  refine lv_aload_n hx hb dX6_init_37 rfl (lv_at hl 0 rfl) ?_
  refine lv_bipush (v := (42 : Int32)) hx hb dX6_init_38 (by decide) ?_
  refine va_newa (atype := .int) (ty := .int) (a0 := (42, .inl (fun _ => 0))) (N' := 42) hx hb (hts (.arrayClass .int) (by decide +kernel)) rfl hK hP hD hS hA (fun _ => rfl) (by decide) rfl (by decide) (Nat.le_of_ble_eq_true rfl) (Nat.le_of_ble_eq_true rfl) dX6_init_40 (fun a5 cJ H hK hP hD hS => ?_)
  obtain rfl := ka_eq hK (i := 0) (j := 2) rfl rfl
  have hK := hK.sub (tys' := [(cI, .int), (cH, .object RX1)]) [0, 1] rfl
  have hP : va_P D vwCl [(h0, .inr (6, [.int 0, .ref a1, .ref a2, .ref a3, .ref a4, .null, .null, .null, .int 0, .null, .int 0, .null, .int 0, .int 0, .null])), (a1, .inl (cI, 200, .inl (fun _ => 0))), (a2, .inl (cI, 13, .inl (fun _ => 0))), (a3, .inl (cI, 13, .inl (fun _ => 0))), (a4, .inl (cI, 42, .inl (fun _ => 0))), (a5, .inl (cI, 42, .inl (fun _ => 0)))] H := hP
  have hD : va_D A [(h0, .inr (6, [.int 0, .ref a1, .ref a2, .ref a3, .ref a4, .null, .null, .null, .int 0, .null, .int 0, .null, .int 0, .int 0, .null])), (a1, .inl (cI, 200, .inl (fun _ => 0))), (a2, .inl (cI, 13, .inl (fun _ => 0))), (a3, .inl (cI, 13, .inl (fun _ => 0))), (a4, .inl (cI, 42, .inl (fun _ => 0))), (a5, .inl (cI, 42, .inl (fun _ => 0)))] := hD
  refine W.widen (k := 5) (n := 310) (Nat.le_of_ble_eq_true rfl) (Nat.le_of_ble_eq_true rfl) ?_
  refine va_putF (D := D) (ci := 6) (v := .ref a5) (ty := .array .int) (C := RX6) (T := TX6) (N := 15) hx hb hts hf tyX6 tyX6_ok nmX6 hown hK hP hD hS 0 rfl rfl 5 (by decide) (hts (.fieldLink RX6 22 "GauntletHallModel" "now" "[I") (by decide +kernel)) (fun _ h9 => h9) rfl hin rfl (by decide +kernel) rfl rfl (Nat.le_of_ble_eq_true rfl) dX6_init_42 (fun H locs hP hD hS => ?_)
  have hP : va_P D vwCl [(h0, .inr (6, [.int 0, .ref a1, .ref a2, .ref a3, .ref a4, .ref a5, .null, .null, .int 0, .null, .int 0, .null, .int 0, .int 0, .null])), (a1, .inl (cI, 200, .inl (fun _ => 0))), (a2, .inl (cI, 13, .inl (fun _ => 0))), (a3, .inl (cI, 13, .inl (fun _ => 0))), (a4, .inl (cI, 42, .inl (fun _ => 0))), (a5, .inl (cI, 42, .inl (fun _ => 0)))] H := hP
  have hD : va_D A [(h0, .inr (6, [.int 0, .ref a1, .ref a2, .ref a3, .ref a4, .ref a5, .null, .null, .int 0, .null, .int 0, .null, .int 0, .int 0, .null])), (a1, .inl (cI, 200, .inl (fun _ => 0))), (a2, .inl (cI, 13, .inl (fun _ => 0))), (a3, .inl (cI, 13, .inl (fun _ => 0))), (a4, .inl (cI, 42, .inl (fun _ => 0))), (a5, .inl (cI, 42, .inl (fun _ => 0)))] := hD
  refine lv_aload_n hx hb dX6_init_45 rfl (lv_at hl 0 rfl) ?_
  refine lv_bipush (v := (42 : Int32)) hx hb dX6_init_46 (by decide) ?_
  refine va_newa (atype := .int) (ty := .int) (a0 := (42, .inl (fun _ => 0))) (N' := 42) hx hb (hts (.arrayClass .int) (by decide +kernel)) rfl hK hP hD hS hA (fun _ => rfl) (by decide) rfl (by decide) (Nat.le_of_ble_eq_true rfl) (Nat.le_of_ble_eq_true rfl) dX6_init_48 (fun a6 cJ H hK hP hD hS => ?_)
  obtain rfl := ka_eq hK (i := 0) (j := 2) rfl rfl
  have hK := hK.sub (tys' := [(cI, .int), (cH, .object RX1)]) [0, 1] rfl
  have hP : va_P D vwCl [(h0, .inr (6, [.int 0, .ref a1, .ref a2, .ref a3, .ref a4, .ref a5, .null, .null, .int 0, .null, .int 0, .null, .int 0, .int 0, .null])), (a1, .inl (cI, 200, .inl (fun _ => 0))), (a2, .inl (cI, 13, .inl (fun _ => 0))), (a3, .inl (cI, 13, .inl (fun _ => 0))), (a4, .inl (cI, 42, .inl (fun _ => 0))), (a5, .inl (cI, 42, .inl (fun _ => 0))), (a6, .inl (cI, 42, .inl (fun _ => 0)))] H := hP
  have hD : va_D A [(h0, .inr (6, [.int 0, .ref a1, .ref a2, .ref a3, .ref a4, .ref a5, .null, .null, .int 0, .null, .int 0, .null, .int 0, .int 0, .null])), (a1, .inl (cI, 200, .inl (fun _ => 0))), (a2, .inl (cI, 13, .inl (fun _ => 0))), (a3, .inl (cI, 13, .inl (fun _ => 0))), (a4, .inl (cI, 42, .inl (fun _ => 0))), (a5, .inl (cI, 42, .inl (fun _ => 0))), (a6, .inl (cI, 42, .inl (fun _ => 0)))] := hD
  refine W.widen (k := 6) (n := 352) (Nat.le_of_ble_eq_true rfl) (Nat.le_of_ble_eq_true rfl) ?_
  refine va_putF (D := D) (ci := 6) (v := .ref a6) (ty := .array .int) (C := RX6) (T := TX6) (N := 15) hx hb hts hf tyX6 tyX6_ok nmX6 hown hK hP hD hS 0 rfl rfl 6 (by decide) (hts (.fieldLink RX6 25 "GauntletHallModel" "side" "[I") (by decide +kernel)) (fun _ h9 => h9) rfl hin rfl (by decide +kernel) rfl rfl (Nat.le_of_ble_eq_true rfl) dX6_init_50 (fun H locs hP hD hS => ?_)
  have hP : va_P D vwCl [(h0, .inr (6, [.int 0, .ref a1, .ref a2, .ref a3, .ref a4, .ref a5, .ref a6, .null, .int 0, .null, .int 0, .null, .int 0, .int 0, .null])), (a1, .inl (cI, 200, .inl (fun _ => 0))), (a2, .inl (cI, 13, .inl (fun _ => 0))), (a3, .inl (cI, 13, .inl (fun _ => 0))), (a4, .inl (cI, 42, .inl (fun _ => 0))), (a5, .inl (cI, 42, .inl (fun _ => 0))), (a6, .inl (cI, 42, .inl (fun _ => 0)))] H := hP
  have hD : va_D A [(h0, .inr (6, [.int 0, .ref a1, .ref a2, .ref a3, .ref a4, .ref a5, .ref a6, .null, .int 0, .null, .int 0, .null, .int 0, .int 0, .null])), (a1, .inl (cI, 200, .inl (fun _ => 0))), (a2, .inl (cI, 13, .inl (fun _ => 0))), (a3, .inl (cI, 13, .inl (fun _ => 0))), (a4, .inl (cI, 42, .inl (fun _ => 0))), (a5, .inl (cI, 42, .inl (fun _ => 0))), (a6, .inl (cI, 42, .inl (fun _ => 0)))] := hD
  refine lv_aload_n hx hb dX6_init_53 rfl (lv_at hl 0 rfl) ?_
  refine lv_sipush (v := (336 : Int32)) hx hb dX6_init_54 (by decide) ?_
  refine va_newa (atype := .int) (ty := .int) (a0 := (336, .inl (fun _ => 0))) (N' := 336) hx hb (hts (.arrayClass .int) (by decide +kernel)) rfl hK hP hD hS hA (fun _ => rfl) (by decide) rfl (by decide) (Nat.le_of_ble_eq_true rfl) (Nat.le_of_ble_eq_true rfl) dX6_init_57 (fun a7 cJ H hK hP hD hS => ?_)
  obtain rfl := ka_eq hK (i := 0) (j := 2) rfl rfl
  have hK := hK.sub (tys' := [(cI, .int), (cH, .object RX1)]) [0, 1] rfl
  have hP : va_P D vwCl [(h0, .inr (6, [.int 0, .ref a1, .ref a2, .ref a3, .ref a4, .ref a5, .ref a6, .null, .int 0, .null, .int 0, .null, .int 0, .int 0, .null])), (a1, .inl (cI, 200, .inl (fun _ => 0))), (a2, .inl (cI, 13, .inl (fun _ => 0))), (a3, .inl (cI, 13, .inl (fun _ => 0))), (a4, .inl (cI, 42, .inl (fun _ => 0))), (a5, .inl (cI, 42, .inl (fun _ => 0))), (a6, .inl (cI, 42, .inl (fun _ => 0))), (a7, .inl (cI, 336, .inl (fun _ => 0)))] H := hP
  have hD : va_D A [(h0, .inr (6, [.int 0, .ref a1, .ref a2, .ref a3, .ref a4, .ref a5, .ref a6, .null, .int 0, .null, .int 0, .null, .int 0, .int 0, .null])), (a1, .inl (cI, 200, .inl (fun _ => 0))), (a2, .inl (cI, 13, .inl (fun _ => 0))), (a3, .inl (cI, 13, .inl (fun _ => 0))), (a4, .inl (cI, 42, .inl (fun _ => 0))), (a5, .inl (cI, 42, .inl (fun _ => 0))), (a6, .inl (cI, 42, .inl (fun _ => 0))), (a7, .inl (cI, 336, .inl (fun _ => 0)))] := hD
  refine W.widen (k := 7) (n := 688) (Nat.le_of_ble_eq_true rfl) (Nat.le_of_ble_eq_true rfl) ?_
  refine va_putF (D := D) (ci := 6) (v := .ref a7) (ty := .array .int) (C := RX6) (T := TX6) (N := 15) hx hb hts hf tyX6 tyX6_ok nmX6 hown hK hP hD hS 0 rfl rfl 7 (by decide) (hts (.fieldLink RX6 28 "GauntletHallModel" "before" "[I") (by decide +kernel)) (fun _ h9 => h9) rfl hin rfl (by decide +kernel) rfl rfl (Nat.le_of_ble_eq_true rfl) dX6_init_59 (fun H locs hP hD hS => ?_)
  have hP : va_P D vwCl [(h0, .inr (6, [.int 0, .ref a1, .ref a2, .ref a3, .ref a4, .ref a5, .ref a6, .ref a7, .int 0, .null, .int 0, .null, .int 0, .int 0, .null])), (a1, .inl (cI, 200, .inl (fun _ => 0))), (a2, .inl (cI, 13, .inl (fun _ => 0))), (a3, .inl (cI, 13, .inl (fun _ => 0))), (a4, .inl (cI, 42, .inl (fun _ => 0))), (a5, .inl (cI, 42, .inl (fun _ => 0))), (a6, .inl (cI, 42, .inl (fun _ => 0))), (a7, .inl (cI, 336, .inl (fun _ => 0)))] H := hP
  have hD : va_D A [(h0, .inr (6, [.int 0, .ref a1, .ref a2, .ref a3, .ref a4, .ref a5, .ref a6, .ref a7, .int 0, .null, .int 0, .null, .int 0, .int 0, .null])), (a1, .inl (cI, 200, .inl (fun _ => 0))), (a2, .inl (cI, 13, .inl (fun _ => 0))), (a3, .inl (cI, 13, .inl (fun _ => 0))), (a4, .inl (cI, 42, .inl (fun _ => 0))), (a5, .inl (cI, 42, .inl (fun _ => 0))), (a6, .inl (cI, 42, .inl (fun _ => 0))), (a7, .inl (cI, 336, .inl (fun _ => 0)))] := hD
  refine lv_aload_n hx hb dX6_init_62 rfl (lv_at hl 0 rfl) ?_
  refine lv_bipush (v := (84 : Int32)) hx hb dX6_init_63 (by decide) ?_
  refine va_newa (atype := .int) (ty := .int) (a0 := (84, .inl (fun _ => 0))) (N' := 84) hx hb (hts (.arrayClass .int) (by decide +kernel)) rfl hK hP hD hS hA (fun _ => rfl) (by decide) rfl (by decide) (Nat.le_of_ble_eq_true rfl) (Nat.le_of_ble_eq_true rfl) dX6_init_65 (fun a9 cJ H hK hP hD hS => ?_)
  obtain rfl := ka_eq hK (i := 0) (j := 2) rfl rfl
  have hK := hK.sub (tys' := [(cI, .int), (cH, .object RX1)]) [0, 1] rfl
  have hP : va_P D vwCl [(h0, .inr (6, [.int 0, .ref a1, .ref a2, .ref a3, .ref a4, .ref a5, .ref a6, .ref a7, .int 0, .null, .int 0, .null, .int 0, .int 0, .null])), (a1, .inl (cI, 200, .inl (fun _ => 0))), (a2, .inl (cI, 13, .inl (fun _ => 0))), (a3, .inl (cI, 13, .inl (fun _ => 0))), (a4, .inl (cI, 42, .inl (fun _ => 0))), (a5, .inl (cI, 42, .inl (fun _ => 0))), (a6, .inl (cI, 42, .inl (fun _ => 0))), (a7, .inl (cI, 336, .inl (fun _ => 0))), (a9, .inl (cI, 84, .inl (fun _ => 0)))] H := hP
  have hD : va_D A [(h0, .inr (6, [.int 0, .ref a1, .ref a2, .ref a3, .ref a4, .ref a5, .ref a6, .ref a7, .int 0, .null, .int 0, .null, .int 0, .int 0, .null])), (a1, .inl (cI, 200, .inl (fun _ => 0))), (a2, .inl (cI, 13, .inl (fun _ => 0))), (a3, .inl (cI, 13, .inl (fun _ => 0))), (a4, .inl (cI, 42, .inl (fun _ => 0))), (a5, .inl (cI, 42, .inl (fun _ => 0))), (a6, .inl (cI, 42, .inl (fun _ => 0))), (a7, .inl (cI, 336, .inl (fun _ => 0))), (a9, .inl (cI, 84, .inl (fun _ => 0)))] := hD
  refine W.widen (k := 8) (n := 772) (Nat.le_of_ble_eq_true rfl) (Nat.le_of_ble_eq_true rfl) ?_
  refine va_putF (D := D) (ci := 6) (v := .ref a9) (ty := .array .int) (C := RX6) (T := TX6) (N := 15) hx hb hts hf tyX6 tyX6_ok nmX6 hown hK hP hD hS 0 rfl rfl 9 (by decide) (hts (.fieldLink RX6 31 "GauntletHallModel" "kept" "[I") (by decide +kernel)) (fun _ h9 => h9) rfl hin rfl (by decide +kernel) rfl rfl (Nat.le_of_ble_eq_true rfl) dX6_init_67 (fun H locs hP hD hS => ?_)
  have hP : va_P D vwCl [(h0, .inr (6, [.int 0, .ref a1, .ref a2, .ref a3, .ref a4, .ref a5, .ref a6, .ref a7, .int 0, .ref a9, .int 0, .null, .int 0, .int 0, .null])), (a1, .inl (cI, 200, .inl (fun _ => 0))), (a2, .inl (cI, 13, .inl (fun _ => 0))), (a3, .inl (cI, 13, .inl (fun _ => 0))), (a4, .inl (cI, 42, .inl (fun _ => 0))), (a5, .inl (cI, 42, .inl (fun _ => 0))), (a6, .inl (cI, 42, .inl (fun _ => 0))), (a7, .inl (cI, 336, .inl (fun _ => 0))), (a9, .inl (cI, 84, .inl (fun _ => 0)))] H := hP
  have hD : va_D A [(h0, .inr (6, [.int 0, .ref a1, .ref a2, .ref a3, .ref a4, .ref a5, .ref a6, .ref a7, .int 0, .ref a9, .int 0, .null, .int 0, .int 0, .null])), (a1, .inl (cI, 200, .inl (fun _ => 0))), (a2, .inl (cI, 13, .inl (fun _ => 0))), (a3, .inl (cI, 13, .inl (fun _ => 0))), (a4, .inl (cI, 42, .inl (fun _ => 0))), (a5, .inl (cI, 42, .inl (fun _ => 0))), (a6, .inl (cI, 42, .inl (fun _ => 0))), (a7, .inl (cI, 336, .inl (fun _ => 0))), (a9, .inl (cI, 84, .inl (fun _ => 0)))] := hD
  refine lv_aload_n hx hb dX6_init_70 rfl (lv_at hl 0 rfl) ?_
  refine lv_bipush (v := (18 : Int32)) hx hb dX6_init_71 (by decide) ?_
  refine va_newa (atype := .int) (ty := .int) (a0 := (18, .inl (fun _ => 0))) (N' := 18) hx hb (hts (.arrayClass .int) (by decide +kernel)) rfl hK hP hD hS hA (fun _ => rfl) (by decide) rfl (by decide) (Nat.le_of_ble_eq_true rfl) (Nat.le_of_ble_eq_true rfl) dX6_init_73 (fun a11 cJ H hK hP hD hS => ?_)
  obtain rfl := ka_eq hK (i := 0) (j := 2) rfl rfl
  have hK := hK.sub (tys' := [(cI, .int), (cH, .object RX1)]) [0, 1] rfl
  have hP : va_P D vwCl [(h0, .inr (6, [.int 0, .ref a1, .ref a2, .ref a3, .ref a4, .ref a5, .ref a6, .ref a7, .int 0, .ref a9, .int 0, .null, .int 0, .int 0, .null])), (a1, .inl (cI, 200, .inl (fun _ => 0))), (a2, .inl (cI, 13, .inl (fun _ => 0))), (a3, .inl (cI, 13, .inl (fun _ => 0))), (a4, .inl (cI, 42, .inl (fun _ => 0))), (a5, .inl (cI, 42, .inl (fun _ => 0))), (a6, .inl (cI, 42, .inl (fun _ => 0))), (a7, .inl (cI, 336, .inl (fun _ => 0))), (a9, .inl (cI, 84, .inl (fun _ => 0))), (a11, .inl (cI, 18, .inl (fun _ => 0)))] H := hP
  have hD : va_D A [(h0, .inr (6, [.int 0, .ref a1, .ref a2, .ref a3, .ref a4, .ref a5, .ref a6, .ref a7, .int 0, .ref a9, .int 0, .null, .int 0, .int 0, .null])), (a1, .inl (cI, 200, .inl (fun _ => 0))), (a2, .inl (cI, 13, .inl (fun _ => 0))), (a3, .inl (cI, 13, .inl (fun _ => 0))), (a4, .inl (cI, 42, .inl (fun _ => 0))), (a5, .inl (cI, 42, .inl (fun _ => 0))), (a6, .inl (cI, 42, .inl (fun _ => 0))), (a7, .inl (cI, 336, .inl (fun _ => 0))), (a9, .inl (cI, 84, .inl (fun _ => 0))), (a11, .inl (cI, 18, .inl (fun _ => 0)))] := hD
  refine W.widen (k := 9) (n := 790) (Nat.le_of_ble_eq_true rfl) (Nat.le_of_ble_eq_true rfl) ?_
  refine va_putF (D := D) (ci := 6) (v := .ref a11) (ty := .array .int) (C := RX6) (T := TX6) (N := 15) hx hb hts hf tyX6 tyX6_ok nmX6 hown hK hP hD hS 0 rfl rfl 11 (by decide) (hts (.fieldLink RX6 34 "GauntletHallModel" "seen" "[I") (by decide +kernel)) (fun _ h9 => h9) rfl hin rfl (by decide +kernel) rfl rfl (Nat.le_of_ble_eq_true rfl) dX6_init_75 (fun H locs hP hD hS => ?_)
  have hP : va_P D vwCl [(h0, .inr (6, [.int 0, .ref a1, .ref a2, .ref a3, .ref a4, .ref a5, .ref a6, .ref a7, .int 0, .ref a9, .int 0, .ref a11, .int 0, .int 0, .null])), (a1, .inl (cI, 200, .inl (fun _ => 0))), (a2, .inl (cI, 13, .inl (fun _ => 0))), (a3, .inl (cI, 13, .inl (fun _ => 0))), (a4, .inl (cI, 42, .inl (fun _ => 0))), (a5, .inl (cI, 42, .inl (fun _ => 0))), (a6, .inl (cI, 42, .inl (fun _ => 0))), (a7, .inl (cI, 336, .inl (fun _ => 0))), (a9, .inl (cI, 84, .inl (fun _ => 0))), (a11, .inl (cI, 18, .inl (fun _ => 0)))] H := hP
  have hD : va_D A [(h0, .inr (6, [.int 0, .ref a1, .ref a2, .ref a3, .ref a4, .ref a5, .ref a6, .ref a7, .int 0, .ref a9, .int 0, .ref a11, .int 0, .int 0, .null])), (a1, .inl (cI, 200, .inl (fun _ => 0))), (a2, .inl (cI, 13, .inl (fun _ => 0))), (a3, .inl (cI, 13, .inl (fun _ => 0))), (a4, .inl (cI, 42, .inl (fun _ => 0))), (a5, .inl (cI, 42, .inl (fun _ => 0))), (a6, .inl (cI, 42, .inl (fun _ => 0))), (a7, .inl (cI, 336, .inl (fun _ => 0))), (a9, .inl (cI, 84, .inl (fun _ => 0))), (a11, .inl (cI, 18, .inl (fun _ => 0)))] := hD
  refine lv_aload_n hx hb dX6_init_78 rfl (lv_at hl 0 rfl) ?_
  refine lv_iconst (v := (3 : Int32)) hx hb dX6_init_79 (by decide) ?_
  refine va_newa (atype := .int) (ty := .int) (a0 := (3, .inl (fun _ => 0))) (N' := 3) hx hb (hts (.arrayClass .int) (by decide +kernel)) rfl hK hP hD hS hA (fun _ => rfl) (by decide) rfl (by decide) (Nat.le_of_ble_eq_true rfl) (Nat.le_of_ble_eq_true rfl) dX6_init_80 (fun a14 cJ H hK hP hD hS => ?_)
  obtain rfl := ka_eq hK (i := 0) (j := 2) rfl rfl
  have hK := hK.sub (tys' := [(cI, .int), (cH, .object RX1)]) [0, 1] rfl
  have hP : va_P D vwCl [(h0, .inr (6, [.int 0, .ref a1, .ref a2, .ref a3, .ref a4, .ref a5, .ref a6, .ref a7, .int 0, .ref a9, .int 0, .ref a11, .int 0, .int 0, .null])), (a1, .inl (cI, 200, .inl (fun _ => 0))), (a2, .inl (cI, 13, .inl (fun _ => 0))), (a3, .inl (cI, 13, .inl (fun _ => 0))), (a4, .inl (cI, 42, .inl (fun _ => 0))), (a5, .inl (cI, 42, .inl (fun _ => 0))), (a6, .inl (cI, 42, .inl (fun _ => 0))), (a7, .inl (cI, 336, .inl (fun _ => 0))), (a9, .inl (cI, 84, .inl (fun _ => 0))), (a11, .inl (cI, 18, .inl (fun _ => 0))), (a14, .inl (cI, 3, .inl (fun _ => 0)))] H := hP
  have hD : va_D A [(h0, .inr (6, [.int 0, .ref a1, .ref a2, .ref a3, .ref a4, .ref a5, .ref a6, .ref a7, .int 0, .ref a9, .int 0, .ref a11, .int 0, .int 0, .null])), (a1, .inl (cI, 200, .inl (fun _ => 0))), (a2, .inl (cI, 13, .inl (fun _ => 0))), (a3, .inl (cI, 13, .inl (fun _ => 0))), (a4, .inl (cI, 42, .inl (fun _ => 0))), (a5, .inl (cI, 42, .inl (fun _ => 0))), (a6, .inl (cI, 42, .inl (fun _ => 0))), (a7, .inl (cI, 336, .inl (fun _ => 0))), (a9, .inl (cI, 84, .inl (fun _ => 0))), (a11, .inl (cI, 18, .inl (fun _ => 0))), (a14, .inl (cI, 3, .inl (fun _ => 0)))] := hD
  refine W.widen (k := 10) (n := 793) (Nat.le_of_ble_eq_true rfl) (Nat.le_of_ble_eq_true rfl) ?_
  refine va_putF (D := D) (ci := 6) (v := .ref a14) (ty := .array .int) (C := RX6) (T := TX6) (N := 15) hx hb hts hf tyX6 tyX6_ok nmX6 hown hK hP hD hS 0 rfl rfl 14 (by decide) (hts (.fieldLink RX6 37 "GauntletHallModel" "number" "[I") (by decide +kernel)) (fun _ h9 => h9) rfl hin rfl (by decide +kernel) rfl rfl (Nat.le_of_ble_eq_true rfl) dX6_init_82 (fun H locs hP hD hS => ?_)
  have hP : va_P D vwCl [(h0, .inr (6, [.int 0, .ref a1, .ref a2, .ref a3, .ref a4, .ref a5, .ref a6, .ref a7, .int 0, .ref a9, .int 0, .ref a11, .int 0, .int 0, .ref a14])), (a1, .inl (cI, 200, .inl (fun _ => 0))), (a2, .inl (cI, 13, .inl (fun _ => 0))), (a3, .inl (cI, 13, .inl (fun _ => 0))), (a4, .inl (cI, 42, .inl (fun _ => 0))), (a5, .inl (cI, 42, .inl (fun _ => 0))), (a6, .inl (cI, 42, .inl (fun _ => 0))), (a7, .inl (cI, 336, .inl (fun _ => 0))), (a9, .inl (cI, 84, .inl (fun _ => 0))), (a11, .inl (cI, 18, .inl (fun _ => 0))), (a14, .inl (cI, 3, .inl (fun _ => 0)))] H := hP
  have hD : va_D A [(h0, .inr (6, [.int 0, .ref a1, .ref a2, .ref a3, .ref a4, .ref a5, .ref a6, .ref a7, .int 0, .ref a9, .int 0, .ref a11, .int 0, .int 0, .ref a14])), (a1, .inl (cI, 200, .inl (fun _ => 0))), (a2, .inl (cI, 13, .inl (fun _ => 0))), (a3, .inl (cI, 13, .inl (fun _ => 0))), (a4, .inl (cI, 42, .inl (fun _ => 0))), (a5, .inl (cI, 42, .inl (fun _ => 0))), (a6, .inl (cI, 42, .inl (fun _ => 0))), (a7, .inl (cI, 336, .inl (fun _ => 0))), (a9, .inl (cI, 84, .inl (fun _ => 0))), (a11, .inl (cI, 18, .inl (fun _ => 0))), (a14, .inl (cI, 3, .inl (fun _ => 0)))] := hD
  obtain ⟨a, ea⟩ : ∃ a : Nat → Nat, a = (fun z => match z with | 0 => h0 | 1 => a1 | 2 => a2 | 3 => a3 | 4 => a4 | 5 => a5 | 6 => a6 | 7 => a7 | 9 => a9 | 11 => a11 | 14 => a14 | _ => 0) := ⟨_, rfl⟩
  have hPw : va_P D vwCl (hwX6 cI a) H := by rw [ea]; exact hP
  have hDw : va_D A (hwX6 cI a) := by rw [ea]; exact hD
  have e0 : h0 = a 0 := by rw [ea]; rfl
  rw [w6_eq D cI cH a] at hPw hDw
  clear ea
  subst e0
  exact x6_tail l D hx hb hml hr hlocks hown hts hN hK hPw hDw hS hl
