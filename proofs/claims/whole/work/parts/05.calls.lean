/-! ===== ROWS over the world: a method's start, its end, calls ===== -/
section ZS
variable {l : Launch} {E : z_E} {y : MethodName} {ws ws' : List Cond} {rm : Room} {av : List Value} {X : z_X} {cc : ByteArray} {maxL : Nat} {ret : Option FieldType}
theorem z_start {Qc : Array Value → State → Outcome → State → Prop} (hE : z_ok E) (hy : plainName y.cls = true) (hw : ws = Cond.code y cc maxL ret :: ws') (hlen : (lg_sl av).length ≤ maxL)
    (body : ∀ (p : Program) (e : Env) (s : State) (m : MethodId) (below : List Frame) (meth : Method) (c : Code), z_Cx p E s m av.toArray meth c cc maxL ws y.cls ret → z_P E X s.heap → va_S (z_A E) s.heap s.heap [] →
      ∀ ls : Array Slot, lv_has ls maxL (lv_args 0 av) → W p l e rm s m av.toArray below meth c s.heap [] 0 0 (MQ below Qc av.toArray s 0 0 (z_A E)) (F0 m 0 ls [])) :
    Met l y ws rm (va_Pc av (fun U => z_P E X U.heap ∧ z_K E U)) Qc 0 0 (z_A E) := by
  refine Met.ofW (cc := cc) (maxL := maxL) (ret := ret) hy hw ?_
  intro p e s m args below meth c s₁ B hml hv
  obtain ⟨rfl, hP, hK⟩ := hv
  have hts := atoms_spec (ws := ws) B.pre
  have hown : s.vm.findClass y.cls = some m.cls := findClass_of_methodNamed B.named
  rw [lg_entry_eq]
  exact body p e s m below meth c ⟨B.exec, B.bytes, hml, B.returns, B.notSynchronized, hown, hts, hK, hE⟩ hP va_S.rf _ (lv_entry av hlen)
end ZS
section ZE
variable {p : Program} {l : Launch} {e : Env} {R : Room} {s : State} {m : MethodId} {args : Array Value} {below : List Frame} {meth : Method} {c : Code} {H H0 : Heap} {locs : List Loc} {cells slots : Nat} {Q : State → Prop} {E : z_E} {X : z_X}
variable {cc : ByteArray} {pc nL : Nat} {ls : Array Slot} {rest : List Value} {Ts ws : List Cond} {own : String}
theorem z_reti (C : z_Cx p E s m args meth c cc nL ws own (some .int)) {K : Int32 → z_X → Prop} {v : Int32} (hP : z_P E X H) (hS : va_S (z_A E) s.heap H locs) (hk : K v X) (hdg : decode cc pc = .ok (.ireturn, 1)) :
    W p l e R s m args below meth c H locs 0 0 (MQ below (va_Qi K (fun u t => z_P E u t.heap) (z_A E)) args s 0 0 (z_A E)) (F0 m pc ls [.int v]) := by
  obtain ⟨hx, hb, hml, hr, hlocks, hown, hts, hK, hE⟩ := C
  exact W.iret hx hb hr (fun t ht _ => ⟨⟨v, X, rfl, hk, (show z_P E X t.heap by rw [ht]; exact hP)⟩, hS.F ht⟩) hS.2.2 hdg hlocks
theorem z_retz (C : z_Cx p E s m args meth c cc nL ws own (some .boolean)) {K : Int32 → z_X → Prop} {v : Int32} (hz : z_b v) (hP : z_P E X H) (hS : va_S (z_A E) s.heap H locs) (hk : K v X) (hdg : decode cc pc = .ok (.ireturn, 1)) :
    W p l e R s m args below meth c H locs 0 0 (MQ below (va_Qi K (fun u t => z_P E u t.heap) (z_A E)) args s 0 0 (z_A E)) (F0 m pc ls [.int v]) := by
  obtain ⟨hx, hb, hml, hr, hlocks, hown, hts, hK, hE⟩ := C
  exact W.zret hx hb hr (z_nar hz) (fun t ht _ => ⟨⟨v, X, rfl, hk, (show z_P E X t.heap by rw [ht]; exact hP)⟩, hS.F ht⟩) hS.2.2 hdg hlocks
theorem z_retv (C : z_Cx p E s m args meth c cc nL ws own none) {K : z_X → Prop} (hP : z_P E X H) (hS : va_S (z_A E) s.heap H locs) (hk : K X) (hdg : decode cc pc = .ok (.return_, 1)) :
    W p l e R s m args below meth c H locs 0 0 (MQ below (va_Qv K (fun u t => z_P E u t.heap) (z_A E)) args s 0 0 (z_A E)) (F0 m pc ls []) := by
  obtain ⟨hx, hb, hml, hr, hlocks, hown, hts, hK, hE⟩ := C
  exact W.vret hx hb hr (fun t ht _ => ⟨⟨X, rfl, hk, (show z_P E X t.heap by rw [ht]; exact hP)⟩, hS.F ht⟩) hS.2.2 hdg hlocks
theorem z_reta {n : String} (C : z_Cx p E s m args meth c cc nL ws own (some (.object n))) {K : z_X → Prop} {o : Nat} (hP : z_P E X H) (hS : va_S (z_A E) s.heap H locs) (hk : K X) (hdg : decode cc pc = .ok (.areturn, 1)) :
    W p l e R s m args below meth c H locs 0 0 (MQ below (va_Qr K (fun u a t => a = z_a E o 0 ∧ z_P E u t.heap) (z_A E)) args s 0 0 (z_A E)) (F0 m pc ls [.ref (z_a E o 0)]) := by
  obtain ⟨hx, hb, hml, hr, hlocks, hown, hts, hK, hE⟩ := C
  exact W.aret hx hb hr (Or.inl ⟨n, rfl⟩) (Or.inr ⟨_, rfl⟩) (fun t ht _ => ⟨⟨X, _, rfl, hk, rfl, (show z_P E X t.heap by rw [ht]; exact hP)⟩, hS.F ht⟩) hS.2.2 hdg hlocks
variable {y : MethodName} {bytes : ByteArray} {maxL n index : Nat} {ret : Option FieldType} {wc : List Cond} {rm : Room} {As st0 : List Value} {C : String}
theorem z_pre (hK : z_K E s) (hP : z_P E X H) (av : List Value) : ∀ U : State, U.heap = H → s.WarmedH U.vm → va_Pc av (fun U => z_P E X U.heap ∧ z_K E U) av.toArray U := fun U hU hW => ⟨rfl, by rw [hU]; exact hP, hK.warm hW⟩
theorem z_recv (hK : z_K E s) (hP : z_P E X H) {o ci N : Nat} {T : u_T} {fs : List (Option (Nat × Nat))} (hm : (o, 0) ∈ z_c E) (hL : z_lay o 0 = .inr (.inl (ci, fs))) (hc : vwCl[ci]? = some (C, T, N)) : ∃ cell : Cell, H[z_a E o 0]? = some cell ∧ cell.vm.isStatics = false ∧ s.vm.findClass C = some cell.cls := by
  obtain ⟨q0, -, hq⟩ := z_at hm X
  rw [hL] at hq
  exact va_recv hK.1 hP hc hq
/-- a virtual call that answers an int -/
theorem z_vi (S : CallFix p m c cc nL s args Ts own) {K : Int32 → z_X → Prop} {o : Nat} (hM : z_CI l E y wc rm (.ref (z_a E o 0) :: As) X K) (cw : CallW R s args own C index y bytes maxL ret wc rm 0 0 n) (hK : z_K E s) (hP : z_P E X H) (hS : va_S (z_A E) H0 H locs) {ci N : Nat} {T : u_T} {fs : List (Option (Nat × Nat))} (hm : (o, 0) ∈ z_c E) (hL : z_lay o 0 = .inr (.inl (ci, fs))) (hc : vwCl[ci]? = some (C, T, N))
    (hn : As.length = n) (hsize : ls.size = nL) (hst : st0 = As.reverse ++ .ref (z_a E o 0) :: rest) (hW : (rest.map fun v => v.category).sum ≤ 8) (hdg : decode cc pc = .ok (.invokevirtual index, 3)) (hf : cells ≤ R.cells ∧ slots ≤ R.slots)
    (kk : ∀ (r : Int32) (u : z_X) (H1 : Heap) (locs1 : List Loc), K r u → z_P E u H1 → va_S (z_A E) H0 H1 locs1 → W p l e R s m args below meth c H1 locs1 cells slots Q (F0 m (pc + 3) ls (.int r :: rest))) : W p l e R s m args below meth c H locs cells slots Q (F0 m pc ls st0) := by
  subst hst
  refine va_calli (mc := 0) (ms := 0) (va_runV (As := As) (rest := rest) S hM cw ⟨z_blind E X _, z_recv hK hP hm hL hc, z_pre hK hP _⟩ rfl hn hsize rfl (lv_room hW) hdg hf) hS (fun q _ h => h) (fun q h => h) (fun r u t H1 locs1 ht _ hw hB _ _ hS1 => kk r u H1 locs1 hw (by rw [← ht]; exact hB) hS1)
theorem z_vv (S : CallFix p m c cc nL s args Ts own) {K : z_X → Prop} {o : Nat} (hM : z_CV l E y wc rm (.ref (z_a E o 0) :: As) X K) (cw : CallW R s args own C index y bytes maxL ret wc rm 0 0 n) (hK : z_K E s) (hP : z_P E X H) (hS : va_S (z_A E) H0 H locs) {ci N : Nat} {T : u_T} {fs : List (Option (Nat × Nat))} (hm : (o, 0) ∈ z_c E) (hL : z_lay o 0 = .inr (.inl (ci, fs))) (hc : vwCl[ci]? = some (C, T, N))
    (hn : As.length = n) (hsize : ls.size = nL) (hst : st0 = As.reverse ++ .ref (z_a E o 0) :: rest) (hW : (rest.map fun v => v.category).sum ≤ 8) (hdg : decode cc pc = .ok (.invokevirtual index, 3)) (hf : cells ≤ R.cells ∧ slots ≤ R.slots)
    (kk : ∀ (u : z_X) (H1 : Heap) (locs1 : List Loc), K u → z_P E u H1 → va_S (z_A E) H0 H1 locs1 → W p l e R s m args below meth c H1 locs1 cells slots Q (F0 m (pc + 3) ls rest)) : W p l e R s m args below meth c H locs cells slots Q (F0 m pc ls st0) := by
  subst hst
  refine va_callv (mc := 0) (ms := 0) (va_runV (As := As) (rest := rest) S hM cw ⟨z_blind E X _, z_recv hK hP hm hL hc, z_pre hK hP _⟩ rfl hn hsize rfl (lv_room hW) hdg hf) hS (fun q _ h => h) (fun q h => h) (fun u t H1 locs1 ht _ hw hB _ _ hS1 => kk u H1 locs1 hw (by rw [← ht]; exact hB) hS1)
theorem z_vr (S : CallFix p m c cc nL s args Ts own) {K : z_X → Prop} {o o2 : Nat} (hM : z_CR l E y wc rm (.ref (z_a E o 0) :: As) X o2 K) (cw : CallW R s args own C index y bytes maxL ret wc rm 0 0 n) (hK : z_K E s) (hP : z_P E X H) (hS : va_S (z_A E) H0 H locs) {ci N : Nat} {T : u_T} {fs : List (Option (Nat × Nat))} (hm : (o, 0) ∈ z_c E) (hL : z_lay o 0 = .inr (.inl (ci, fs))) (hc : vwCl[ci]? = some (C, T, N))
    (hn : As.length = n) (hsize : ls.size = nL) (hst : st0 = As.reverse ++ .ref (z_a E o 0) :: rest) (hW : (rest.map fun v => v.category).sum ≤ 8) (hdg : decode cc pc = .ok (.invokevirtual index, 3)) (hf : cells ≤ R.cells ∧ slots ≤ R.slots)
    (kk : ∀ (u : z_X) (H1 : Heap) (locs1 : List Loc), K u → z_P E u H1 → va_S (z_A E) H0 H1 locs1 → W p l e R s m args below meth c H1 locs1 cells slots Q (F0 m (pc + 3) ls (.ref (z_a E o2 0) :: rest))) : W p l e R s m args below meth c H locs cells slots Q (F0 m pc ls st0) := by
  subst hst
  refine va_callr (mc := 0) (ms := 0) (va_runV (As := As) (rest := rest) S hM cw ⟨z_blind E X _, z_recv hK hP hm hL hc, z_pre hK hP _⟩ rfl hn hsize rfl (lv_room hW) hdg hf) hS (fun q _ h => h) (fun q h => h) (fun u ra t H1 locs1 ht _ hw hB _ _ hS1 => by
    obtain ⟨ha, hB⟩ := hB
    rw [ha]
    exact kk u H1 locs1 hw (by rw [← ht]; exact hB) hS1)
/-- a static call that answers an int -/
theorem z_si (S : CallFix p m c cc nL s args Ts own) {K : Int32 → z_X → Prop} (hM : z_CI l E y wc rm As X K) (cw : CallB R s args own index y bytes maxL ret wc rm 0 0 n ∧ (Cond.static y).before args s = true) (hK : z_K E s) (hP : z_P E X H) (hS : va_S (z_A E) H0 H locs)
    (hn : As.length = n) (hsize : ls.size = nL) (hst : st0 = As.reverse ++ rest) (hW : (rest.map fun v => v.category).sum ≤ 8) (hdg : decode cc pc = .ok (.invokestatic index, 3)) (hf : cells ≤ R.cells ∧ slots ≤ R.slots)
    (kk : ∀ (r : Int32) (u : z_X) (H1 : Heap) (locs1 : List Loc), K r u → z_P E u H1 → va_S (z_A E) H0 H1 locs1 → W p l e R s m args below meth c H1 locs1 cells slots Q (F0 m (pc + 3) ls (.int r :: rest))) : W p l e R s m args below meth c H locs cells slots Q (F0 m pc ls st0) := by
  subst hst
  refine va_calli (mc := 0) (ms := 0) (va_runS (As := As) (rest := rest) S hM cw ⟨z_blind E X _, z_pre hK hP _⟩ rfl hn hsize rfl (lv_room hW) hdg hf) hS (fun q _ h => h) (fun q h => h) (fun r u t H1 locs1 ht _ hw hB _ _ hS1 => kk r u H1 locs1 hw (by rw [← ht]; exact hB) hS1)
/-- a static call of a nest mate's that answers an int -/
theorem z_sn {host : String} (S : CallFix p m c cc nL s args Ts own) {K : Int32 → z_X → Prop} (hM : z_CI l E y wc rm As X K) (cw : va_CN R s args own index y host bytes maxL ret wc rm 0 0 n) (hst : (Cond.static y).before args s = true) (hK : z_K E s) (hP : z_P E X H) (hS : va_S (z_A E) H0 H locs)
    (hn : As.length = n) (hsize : ls.size = nL) (hs0 : st0 = As.reverse ++ rest) (hW : (rest.map fun v => v.category).sum ≤ 8) (hdg : decode cc pc = .ok (.invokestatic index, 3)) (hf : cells ≤ R.cells ∧ slots ≤ R.slots)
    (kk : ∀ (r : Int32) (u : z_X) (H1 : Heap) (locs1 : List Loc), K r u → z_P E u H1 → va_S (z_A E) H0 H1 locs1 → W p l e R s m args below meth c H1 locs1 cells slots Q (F0 m (pc + 3) ls (.int r :: rest))) : W p l e R s m args below meth c H locs cells slots Q (F0 m pc ls st0) := by
  subst hs0
  refine va_calli (mc := 0) (ms := 0) (va_runSN (As := As) (rest := rest) S hM ⟨cw, hst, trivial⟩ ⟨z_blind E X _, z_pre hK hP _⟩ rfl hn hsize rfl (lv_room hW) hdg hf) hS (fun q _ h => h) (fun q h => h) (fun r u t H1 locs1 ht _ hw hB _ _ hS1 => kk r u H1 locs1 hw (by rw [← ht]; exact hB) hS1)
end ZE
