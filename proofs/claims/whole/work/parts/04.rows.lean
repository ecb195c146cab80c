/-! ===== ROWS over the world: an instruction, a call, a start, an end ===== -/
/-- a method's contract: from any heap that holds X it returns r, the heap holds X', and K r X' -/
def z_CI (l : Launch) (E : z_E) (y : MethodName) (ws : List Cond) (rm : Room) (av : List Value) (X : z_X) (K : Int32 → z_X → Prop) : Prop :=
  Met l y ws rm (va_Pc av (fun U => z_P E X U.heap ∧ z_K E U)) (va_Qi K (fun u t => z_P E u t.heap) (z_A E)) 0 0 (z_A E)
def z_CV (l : Launch) (E : z_E) (y : MethodName) (ws : List Cond) (rm : Room) (av : List Value) (X : z_X) (K : z_X → Prop) : Prop :=
  Met l y ws rm (va_Pc av (fun U => z_P E X U.heap ∧ z_K E U)) (va_Qv K (fun u t => z_P E u t.heap) (z_A E)) 0 0 (z_A E)
def z_CR (l : Launch) (E : z_E) (y : MethodName) (ws : List Cond) (rm : Room) (av : List Value) (X : z_X) (o : Nat) (K : z_X → Prop) : Prop :=
  Met l y ws rm (va_Pc av (fun U => z_P E X U.heap ∧ z_K E U)) (va_Qr K (fun u a t => a = z_a E o 0 ∧ z_P E u t.heap) (z_A E)) 0 0 (z_A E)
theorem z_blind (E : z_E) (X : z_X) (av : List Value) : FrameBlind (va_Pc av (fun U => z_P E X U.heap ∧ z_K E U)) := by
  intro a U g mk q
  obtain ⟨q0, qP, qK, qN⟩ := q
  exact ⟨q0, qP, va_K.moved (u := U) (U := U.calling g mk a) (Vm.Alike.refl U.vm) qK, z_N.same (s := U) (U := U.calling g mk a) rfl qN⟩
/-- what stays the same through a method's body -/
def z_Cx (p : Program) (E : z_E) (s : State) (m : MethodId) (args : Array Value) (meth : Method) (c : Code) (cc : ByteArray) (nL : Nat) (ws : List Cond) (own : String) (ret : Option FieldType) : Prop :=
  p.tables.exec = Jvm.exec ∧ c.code = cc ∧ c.maxLocals = nL ∧ meth.sig.returnType = ret ∧ meth.locks = false ∧ s.vm.findClass own = some m.cls ∧ (∀ w ∈ ws, w.before args s = true) ∧ z_K E s ∧ z_ok E
section ZR
variable {p : Program} {l : Launch} {e : Env} {R : Room} {s : State} {m : MethodId} {args : Array Value} {below : List Frame} {meth : Method} {c : Code} {H H0 : Heap} {locs : List Loc} {cells slots : Nat} {Q : State → Prop} {E : z_E} {X : z_X}
variable {cc : ByteArray} {pc : Nat} {ls : Array Slot} {rest : List Value}
theorem z_geti (hexec : p.tables.exec = Jvm.exec) (hb : c.code = cc) {own ref C : String} {T : u_T} {N ci index : Nat} {Ts : List Cond} (hts : ∀ w ∈ Ts, w.before args s = true) (hin : ∀ w ∈ u_ws C T N, w ∈ Ts) (hown : s.vm.findClass own = some m.cls) (hK : z_K E s) (hP : z_P E X H) {o d : Nat} (hm : (o, d) ∈ z_c E) {fs : List (Option (Nat × Nat))} (hL : z_lay o d = .inr (.inl (ci, fs))) (hc : vwCl[ci]? = some (C, T, N)) (k : Nat) (hk : k < N) (hlink : (Cond.fieldLink own index ref (T k).2.1 (T k).2.2.1).before args s = true) (hsame : (T k).1 = ref) (hf : fs[k]? = some none) {v : Int32} (hv : X o d k = v) (hdg : decode cc pc = .ok (.getfield index, 3))
    (kk : W p l e R s m args below meth c H locs cells slots Q (F0 m (pc + 3) ls (.int v :: rest))) : W p l e R s m args below meth c H locs cells slots Q (F0 m pc ls (.ref (z_a E o d) :: rest)) := by
  obtain ⟨q0, -, hq⟩ := z_at hm X
  rw [hL] at hq
  subst hsame
  exact va_get (v := .int v) hexec hb hts hin hown hK.1 hP q0 hq hc k hk hlink (fun _ h => h) (by rw [List.getElem?_mapIdx, hf, ← hv]; rfl) hdg kk
theorem z_getr (hexec : p.tables.exec = Jvm.exec) (hb : c.code = cc) {own ref C : String} {T : u_T} {N ci index : Nat} {Ts : List Cond} (hts : ∀ w ∈ Ts, w.before args s = true) (hin : ∀ w ∈ u_ws C T N, w ∈ Ts) (hown : s.vm.findClass own = some m.cls) (hK : z_K E s) (hP : z_P E X H) {o d : Nat} (hm : (o, d) ∈ z_c E) {fs : List (Option (Nat × Nat))} (hL : z_lay o d = .inr (.inl (ci, fs))) (hc : vwCl[ci]? = some (C, T, N)) (k : Nat) (hk : k < N) (hlink : (Cond.fieldLink own index ref (T k).2.1 (T k).2.2.1).before args s = true) (hsame : (T k).1 = ref) {o2 d2 : Nat} (hf : fs[k]? = some (some (o2, d2))) (hdg : decode cc pc = .ok (.getfield index, 3))
    (kk : W p l e R s m args below meth c H locs cells slots Q (F0 m (pc + 3) ls (.ref (z_a E o2 d2) :: rest))) : W p l e R s m args below meth c H locs cells slots Q (F0 m pc ls (.ref (z_a E o d) :: rest)) := by
  obtain ⟨q0, -, hq⟩ := z_at hm X
  rw [hL] at hq
  subst hsame
  exact va_get (v := .ref (z_a E o2 d2)) hexec hb hts hin hown hK.1 hP q0 hq hc k hk hlink (fun _ h => h) (by rw [List.getElem?_mapIdx, hf]; rfl) hdg kk
theorem z_map_set {E : z_E} {fs : List (Option (Nat × Nat))} {k : Nat} (hf : fs[k]? = some none) (f : Nat → Int32) (v : Int32) :
    (fs.mapIdx (fun k r => match r with | none => Value.int (f k) | some z => .ref (z_a E z.1 z.2))).set k (.int v) = fs.mapIdx (fun j r => match r with | none => Value.int (upd f k v j) | some z => .ref (z_a E z.1 z.2)) := by
  apply List.ext_getElem?
  intro j
  have hl : k < fs.length := (List.getElem?_eq_some_iff.mp hf).1
  by_cases hj : j = k
  · subst hj
    rw [List.getElem?_set_self (by rw [List.length_mapIdx]; exact hl), List.getElem?_mapIdx, hf]
    simp [upd]
  · rw [List.getElem?_set_ne (Ne.symm hj), List.getElem?_mapIdx, List.getElem?_mapIdx]
    cases fs[j]? with
    | none => rfl
    | some r =>
      cases r with
      | none => simp [upd, hj]
      | some z => rfl
theorem z_puti (hexec : p.tables.exec = Jvm.exec) (hb : c.code = cc) {own ref C : String} {T : u_T} {N ci index : Nat} {Ts : List Cond} (hts : ∀ w ∈ Ts, w.before args s = true) (hin : ∀ w ∈ u_ws C T N, w ∈ Ts) (ty0 : Nat → FieldType) (hty : ∀ k, k < N → parseFieldDescriptor (T k).2.2.1 = some (ty0 k)) (hnm : ∀ a, a < N → ∀ b, b < N → a ≠ b → (T a).2.1 ≠ (T b).2.1) (hown : s.vm.findClass own = some m.cls) (hK : z_K E s) (hE : z_ok E) (hP : z_P E X H) (hS : va_S (z_A E) H0 H locs) {o d : Nat} (hm : (o, d) ∈ z_c E) {fs : List (Option (Nat × Nat))} (hL : z_lay o d = .inr (.inl (ci, fs))) (hc : vwCl[ci]? = some (C, T, N)) (k : Nat) (hk : k < N) (hlink : (Cond.fieldLink own index ref (T k).2.1 (T k).2.2.1).before args s = true) (hsame : (T k).1 = ref) (hfin : (T k).2.2.2 = false) (hd : parseFieldDescriptor (T k).2.2.1 = some .int) (hf : fs[k]? = some none) {v : Int32} {X' : z_X} (hX : z_up X o (z_ss (X o) d k v) = X') (hdg : decode cc pc = .ok (.putfield index, 3))
    (kk : ∀ (H1 : Heap) (locs1 : List Loc), z_P E X' H1 → va_S (z_A E) H0 H1 locs1 → W p l e R s m args below meth c H1 locs1 cells slots Q (F0 m (pc + 3) ls rest)) : W p l e R s m args below meth c H locs cells slots Q (F0 m pc ls (.int v :: .ref (z_a E o d) :: rest)) := by
  obtain ⟨q0, hp, hq⟩ := z_at hm X
  rw [hL] at hq
  subst hsame
  refine va_put (v := .int v) (ty := .int) hexec hb hts hin ty0 hty hnm hown hK.1 hP (z_D hE X) hS q0 hq hc k hk hlink (fun _ h => h) hfin hd rfl rfl (by rw [List.length_mapIdx]; exact (List.getElem?_eq_some_iff.mp hf).1) hdg (fun H1 locs1 hP1 _ hS1 => kk H1 locs1 ?_ hS1)
  have he := z_w_set hE hp (X := X) (X' := z_up X o (z_ss (X o) d k v)) (z_put_other X o d _) (e := .inr (ci, (fs.mapIdx (fun k r => match r with | none => Value.int (X o d k) | some z => .ref (z_a E z.1 z.2))).set k (.int v))) (by
    rw [hL, z_map_set hf]
    unfold z_ss
    rw [z_put_at]
    rfl)
  rw [← hX]
  unfold z_P
  rw [← he]
  exact hP1
theorem z_iald (hexec : p.tables.exec = Jvm.exec) (hb : c.code = cc) (hK : z_K E s) (hP : z_P E X H) {o d n : Nat} (hm : (o, d) ∈ z_c E) (hL : z_lay o d = .inl n) {i v : Int32} (hin : vp_in i n) (hv : X o d (z_n i) = v) (hdg : decode cc pc = .ok (.iaload, 1))
    (kk : W p l e R s m args below meth c H locs cells slots Q (F0 m (pc + 1) ls (.int v :: rest))) : W p l e R s m args below meth c H locs cells slots Q (F0 m pc ls (.int i :: .ref (z_a E o d) :: rest)) := by
  obtain ⟨q0, -, hq⟩ := z_at hm X
  rw [hL] at hq
  subst hv
  exact va_iald hexec hb hK.1 hP q0 0 hq rfl hin hdg kk
theorem z_iast (hexec : p.tables.exec = Jvm.exec) (hb : c.code = cc) (hK : z_K E s) (hE : z_ok E) (hP : z_P E X H) (hS : va_S (z_A E) H0 H locs) {o d n : Nat} (hm : (o, d) ∈ z_c E) (hL : z_lay o d = .inl n) {i v : Int32} (hin : vp_in i n) {X' : z_X} (hX : z_up X o (z_ss (X o) d (z_n i) v) = X') (hdg : decode cc pc = .ok (.iastore, 1))
    (kk : ∀ (H1 : Heap) (locs1 : List Loc), z_P E X' H1 → va_S (z_A E) H0 H1 locs1 → W p l e R s m args below meth c H1 locs1 cells slots Q (F0 m (pc + 1) ls rest)) : W p l e R s m args below meth c H locs cells slots Q (F0 m pc ls (.int v :: .int i :: .ref (z_a E o d) :: rest)) := by
  obtain ⟨q0, hp, hq⟩ := z_at hm X
  rw [hL] at hq
  refine va_iast hexec hb hK.1 hP (z_D hE X) hS q0 0 hq rfl hin hdg (fun H1 locs1 hP1 _ hS1 => kk H1 locs1 ?_ hS1)
  have he := z_w_set hE hp (X := X) (X' := z_up X o (z_ss (X o) d (z_n i) v)) (z_put_other X o d _) (e := .inl (z_i E, n, .inl (upd (X o d) (z_n i) v))) (by
    rw [hL]
    unfold z_ss
    rw [z_put_at]
    rfl)
  rw [← hX]
  unfold z_P
  rw [← he]
  exact hP1
theorem z_aald (hexec : p.tables.exec = Jvm.exec) (hb : c.code = cc) (hK : z_K E s) (hP : z_P E X H) {o d : Nat} {rs : List (Nat × Nat)} (hm : (o, d) ∈ z_c E) (hL : z_lay o d = .inr (.inr rs)) {i : Int32} {o2 d2 : Nat} (hin : vp_in i rs.length) (hv : rs[z_n i]? = some (o2, d2)) (hdg : decode cc pc = .ok (.aaload, 1))
    (kk : W p l e R s m args below meth c H locs cells slots Q (F0 m (pc + 1) ls (.ref (z_a E o2 d2) :: rest))) : W p l e R s m args below meth c H locs cells slots Q (F0 m pc ls (.int i :: .ref (z_a E o d) :: rest)) := by
  obtain ⟨q0, -, hq⟩ := z_at hm X
  rw [hL] at hq
  refine va_aldq hexec hb hK.1 hP q0 1 hq rfl hin hdg ?_
  have he : va_rf ((rs[z_n i]?).map (fun z => z_a E z.1 z.2)) = .ref (z_a E o2 d2) := by rw [hv]; rfl
  rw [show va_rf ((fun i => (rs[i]?).map (fun z => z_a E z.1 z.2)) i.toNatClampNeg) = .ref (z_a E o2 d2) from he]
  exact kk
theorem z_alenq (hexec : p.tables.exec = Jvm.exec) (hb : c.code = cc) (hK : z_K E s) (hP : z_P E X H) {o d : Nat} {rs : List (Nat × Nat)} (hm : (o, d) ∈ z_c E) (hL : z_lay o d = .inr (.inr rs)) {v : Int32} (hv : Int32.ofNat rs.length = v) (hdg : decode cc pc = .ok (.arraylength, 1))
    (kk : W p l e R s m args below meth c H locs cells slots Q (F0 m (pc + 1) ls (.int v :: rest))) : W p l e R s m args below meth c H locs cells slots Q (F0 m pc ls (.ref (z_a E o d) :: rest)) := by
  obtain ⟨q0, -, hq⟩ := z_at hm X
  rw [hL] at hq
  exact va_alen hexec hb hK.1 hP q0 1 hq rfl hv hdg kk
theorem z_copy (hexec : p.tables.exec = Jvm.exec) (hb : c.code = cc) (hml : c.maxLocals = ls.size) {own : String} {index : Nat} (hown : s.vm.findClass own = some m.cls) (hlink : (Cond.methodLink own index arraycopyName).before args s = true) (hnat : (Cond.native arraycopyName).before args s = true) (hstat : (Cond.static arraycopyName).before args s = true) (hini : (Cond.initialized "java/lang/System").before args s = true)
    (hK : z_K E s) (hE : z_ok E) (hP : z_P E X H) (hS : va_S (z_A E) H0 H locs) {o d n o2 d2 : Nat} (hm : (o, d) ∈ z_c E) (hL : z_lay o d = .inl n) (hm2 : (o2, d2) ∈ z_c E) (hL2 : z_lay o2 d2 = .inl n) {k : Int32} (hk0 : ¬ k < 0) (hk : k.toNatClampNeg = n) (hframes : 1 ≤ R.frames) (hlocals : (rest.map fun v => v.category).sum + (nativeFrameWords "java/lang/System" "arraycopy" 5 + 11) ≤ R.locals) {X' : z_X} (hX : z_up X o2 (z_sa (X o2) d2 (va_cpy (X o d) (X o2 d2) 0 0 n)) = X') (hdg : decode cc pc = .ok (.invokestatic index, 3))
    (kk : ∀ (H1 : Heap) (locs1 : List Loc), z_P E X' H1 → va_S (z_A E) H0 H1 locs1 → W p l e R s m args below meth c H1 locs1 cells slots Q (F0 m (pc + 3) ls rest)) : W p l e R s m args below meth c H locs cells slots Q (F0 m pc ls (.int k :: .int 0 :: .ref (z_a E o2 d2) :: .int 0 :: .ref (z_a E o d) :: rest)) := by
  obtain ⟨q0, hp, hq⟩ := z_at hm X
  obtain ⟨q2, hp2, hq2⟩ := z_at hm2 X
  rw [hL] at hq
  rw [hL2] at hq2
  refine va_copyi (ty := .int) hexec hb hml hown hlink hnat hstat hini hK.1 hP (z_D hE X) hS q0 q2 0 0 hq hq2 rfl rfl rfl (sp := 0) (dp := 0) (n := k) (by decide) (by decide) hk0 (by rw [hk]; exact Nat.le_of_eq (Nat.zero_add n)) (by rw [hk]; exact Nat.le_of_eq (Nat.zero_add n)) (fun _ _ => rfl) hframes hlocals hdg (fun H1 locs1 hP1 _ hS1 => kk H1 locs1 ?_ hS1)
  have he := z_w_set hE hp2 (X := X) (X' := z_up X o2 (z_sa (X o2) d2 (va_cpy (X o d) (X o2 d2) 0 0 n))) (z_put_other X o2 d2 _) (e := .inl (z_i E, n, .inl (va_cpy (X o d) (X o2 d2) 0 0 n))) (by
    rw [hL2, z_put_at]
    rfl)
  rw [← hX]
  unfold z_P
  rw [← he]
  rw [hk] at hP1
  exact hP1
end ZR
