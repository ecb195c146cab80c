/-! ===== ROWS over the world inside a larger one ===== -/
section ZG
variable {p : Program} {l : Launch} {e : Env} {R : Room} {s : State} {m : MethodId} {args : Array Value} {below : List Frame} {meth : Method} {c : Code} {H H0 : Heap} {locs : List Loc} {cells slots : Nat} {Q : State → Prop} {E : z_E} {X : z_X} {A : Nat → Prop}
variable {cc : ByteArray} {pc nL : Nat} {ls : Array Slot} {rest : List Value} {Ts ws : List Cond} {own : String}
variable {y : MethodName} {bytes : ByteArray} {maxL n index : Nat} {ret : Option FieldType} {wc : List Cond} {rm : Room} {As st0 : List Value} {C : String}
/-- a virtual call that answers an int -/
theorem y_vi (S : CallFix p m c cc nL s args Ts own) {K : Int32 → z_X → Prop} {o : Nat} (hM : z_CI l E y wc rm (.ref (z_a E o 0) :: As) X K) (cw : CallW R s args own C index y bytes maxL ret wc rm 0 0 n) (hK : z_K E s) (hP : z_P E X H) (hsub : ∀ q, z_A E q → A q) (hS : va_S A H0 H locs) {ci N : Nat} {T : u_T} {fs : List (Option (Nat × Nat))} (hm : (o, 0) ∈ z_c E) (hL : z_lay o 0 = .inr (.inl (ci, fs))) (hc : vwCl[ci]? = some (C, T, N))
    (hn : As.length = n) (hsize : ls.size = nL) (hst : st0 = As.reverse ++ .ref (z_a E o 0) :: rest) (hW : (rest.map fun v => v.category).sum ≤ 8) (hdg : decode cc pc = .ok (.invokevirtual index, 3)) (hf : cells ≤ R.cells ∧ slots ≤ R.slots)
    (kk : ∀ (r : Int32) (u : z_X) (H1 : Heap) (locs1 : List Loc), K r u → z_P E u H1 → va_S A H0 H1 locs1 → W p l e R s m args below meth c H1 locs1 cells slots Q (F0 m (pc + 3) ls (.int r :: rest))) : W p l e R s m args below meth c H locs cells slots Q (F0 m pc ls st0) := by
  subst hst
  refine va_calli (mc := 0) (ms := 0) (va_runV (As := As) (rest := rest) S hM cw ⟨z_blind E X _, z_recv hK hP hm hL hc, z_pre hK hP _⟩ rfl hn hsize rfl (lv_room hW) hdg hf) hS (fun q _ h => hsub q h) (fun q h => hsub q h) (fun r u t H1 locs1 ht _ hw hB _ _ hS1 => kk r u H1 locs1 hw (by rw [← ht]; exact hB) hS1)
theorem y_vv (S : CallFix p m c cc nL s args Ts own) {K : z_X → Prop} {o : Nat} (hM : z_CV l E y wc rm (.ref (z_a E o 0) :: As) X K) (cw : CallW R s args own C index y bytes maxL ret wc rm 0 0 n) (hK : z_K E s) (hP : z_P E X H) (hsub : ∀ q, z_A E q → A q) (hS : va_S A H0 H locs) {ci N : Nat} {T : u_T} {fs : List (Option (Nat × Nat))} (hm : (o, 0) ∈ z_c E) (hL : z_lay o 0 = .inr (.inl (ci, fs))) (hc : vwCl[ci]? = some (C, T, N))
    (hn : As.length = n) (hsize : ls.size = nL) (hst : st0 = As.reverse ++ .ref (z_a E o 0) :: rest) (hW : (rest.map fun v => v.category).sum ≤ 8) (hdg : decode cc pc = .ok (.invokevirtual index, 3)) (hf : cells ≤ R.cells ∧ slots ≤ R.slots)
    (kk : ∀ (u : z_X) (H1 : Heap) (locs1 : List Loc), K u → z_P E u H1 → va_S A H0 H1 locs1 → W p l e R s m args below meth c H1 locs1 cells slots Q (F0 m (pc + 3) ls rest)) : W p l e R s m args below meth c H locs cells slots Q (F0 m pc ls st0) := by
  subst hst
  refine va_callv (mc := 0) (ms := 0) (va_runV (As := As) (rest := rest) S hM cw ⟨z_blind E X _, z_recv hK hP hm hL hc, z_pre hK hP _⟩ rfl hn hsize rfl (lv_room hW) hdg hf) hS (fun q _ h => hsub q h) (fun q h => hsub q h) (fun u t H1 locs1 ht _ hw hB _ _ hS1 => kk u H1 locs1 hw (by rw [← ht]; exact hB) hS1)
theorem y_puti (hexec : p.tables.exec = Jvm.exec) (hb : c.code = cc) {ref : String} {T : u_T} {N ci : Nat} (hts : ∀ w ∈ Ts, w.before args s = true) (hin : ∀ w ∈ u_ws C T N, w ∈ Ts) (ty0 : Nat → FieldType) (hty : ∀ k, k < N → parseFieldDescriptor (T k).2.2.1 = some (ty0 k)) (hnm : ∀ a, a < N → ∀ b, b < N → a ≠ b → (T a).2.1 ≠ (T b).2.1) (hown : s.vm.findClass own = some m.cls) (hK : z_K E s) (hE : z_ok E) (hP : z_P E X H) (hsub : ∀ q, z_A E q → A q) (hS : va_S A H0 H locs) {o d : Nat} (hm : (o, d) ∈ z_c E) {fs : List (Option (Nat × Nat))} (hL : z_lay o d = .inr (.inl (ci, fs))) (hc : vwCl[ci]? = some (C, T, N)) (k : Nat) (hk : k < N) (hlink : (Cond.fieldLink own index ref (T k).2.1 (T k).2.2.1).before args s = true) (hsame : (T k).1 = ref) (hfin : (T k).2.2.2 = false) (hd : parseFieldDescriptor (T k).2.2.1 = some .int) (hf : fs[k]? = some none) {v : Int32} {X' : z_X} (hX : z_up X o (z_ss (X o) d k v) = X') (hdg : decode cc pc = .ok (.putfield index, 3))
    (kk : ∀ (H1 : Heap) (locs1 : List Loc), z_P E X' H1 → va_S A H0 H1 locs1 → W p l e R s m args below meth c H1 locs1 cells slots Q (F0 m (pc + 3) ls rest)) : W p l e R s m args below meth c H locs cells slots Q (F0 m pc ls (.int v :: .ref (z_a E o d) :: rest)) := by
  obtain ⟨q0, hp, hq⟩ := z_at hm X
  rw [hL] at hq
  subst hsame
  refine va_put (v := .int v) (ty := .int) hexec hb hts hin ty0 hty hnm hown hK.1 hP ((z_D hE X).weaken (fun _ q _ h => hsub q.1 h)) hS q0 hq hc k hk hlink (fun _ h => h) hfin hd rfl rfl (by rw [List.length_mapIdx]; exact (List.getElem?_eq_some_iff.mp hf).1) hdg (fun H1 locs1 hP1 _ hS1 => kk H1 locs1 ?_ hS1)
  have he := z_w_set hE hp (X := X) (X' := z_up X o (z_ss (X o) d k v)) (z_put_other X o d _) (e := .inr (ci, (fs.mapIdx (fun k r => match r with | none => Value.int (X o d k) | some z => .ref (z_a E z.1 z.2))).set k (.int v))) (by
    rw [hL]
    refine Eq.trans (congrArg (fun x => Sum.inr (ci, x)) (z_map_set (E := E) hf (X o d) v)) ?_
    unfold z_ss
    rw [z_put_at]
    rfl)
  rw [← hX]
  unfold z_P
  rw [← he]
  exact hP1
end ZG
/-- two arrays of halls are of one class -/
theorem kh_eq {D : va_G} {cl : List vw_C} {tys : List (ClassId × FieldType)} {U : State} {C : String} (h : va_K D cl tys U) {i j : Nat} {a b : ClassId} (hi : tys[i]? = some (a, .object C)) (hj : tys[j]? = some (b, .object C)) : a = b := Option.some.inj ((va_nmO (h.2 i _ hi).2 rfl).symm.trans (va_nmO (h.2 j _ hj).2 rfl))
/-- cells apart: the world's places are apart -/
theorem z_ok_of {E : z_E} {X : z_X} {A : Nat → Prop} (hn : (z_c E).Nodup) (hD : va_D A (z_w E X)) : z_ok E := by
  refine ⟨hn, fun y hy z hz e => ?_⟩
  obtain ⟨i, hi, hi2⟩ := z_at (E := E) (o := y.1) (c := y.2) hy X
  obtain ⟨j, hj, hj2⟩ := z_at (E := E) (o := z.1) (c := z.2) hz X
  have := hD.1 i j _ _ hi2 hj2 e
  subst this
  exact Option.some.inj (hi.symm.trans hj)
theorem z_D_any {E : z_E} {X Y : z_X} {A : Nat → Prop} (hD : va_D A (z_w E X)) : va_D A (z_w E Y) := by
  have key : ∀ (k : Nat) (q : Nat × va_E), (z_w E Y)[k]? = some q → ∃ q' : Nat × va_E, (z_w E X)[k]? = some q' ∧ q'.1 = q.1 := by
    intro k q hk
    unfold z_w at hk ⊢
    rw [List.getElem?_map] at hk ⊢
    cases hz : (z_c E)[k]? with
    | none => rw [hz] at hk; cases hk
    | some z =>
      rw [hz] at hk
      have := Option.some.inj hk
      exact ⟨_, rfl, by rw [← this]⟩
  refine ⟨fun i j p q hi hj hpq => ?_, fun k q hk => ?_⟩
  · obtain ⟨p', h1, h2⟩ := key i p hi
    obtain ⟨q', h3, h4⟩ := key j q hj
    exact hD.1 i j p' q' h1 h3 (by rw [h2, h4, hpq])
  · obtain ⟨q', h1, h2⟩ := key k q hk
    rw [← h2]
    exact hD.2 k q' h1
theorem z_A_sub {E : z_E} {X : z_X} {A : Nat → Prop} (hD : va_D A (z_w E X)) : ∀ q, z_A E q → A q := by
  rintro q ⟨z, hz, rfl⟩
  obtain ⟨i, -, hi2⟩ := z_at (E := E) (o := z.1) (c := z.2) hz X
  exact hD.2 i _ hi2
