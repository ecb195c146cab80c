/-! ===== THE LAW: what stays the same, the script's numbers, the switch's number ===== -/
def lw_Cx (p : Program) (s : State) (m : MethodId) (c : Code) (b L : Nat) (xs : Nat → Int32) (E : z_E) (A : Nat → Prop) : Prop :=
  p.tables.exec = Jvm.exec ∧ c.code = cL_law ∧ c.maxLocals = 4 ∧ s.vm.findClass RL = some m.cls ∧ (∀ w ∈ wsL_law, w.before #[Value.ref b] s = true) ∧ va_X b L xs s s.heap ∧ b < s.heap.size ∧ ¬ A b ∧ z_K E s ∧ z_ok E ∧ z_cls E ∧ z_mod E ∧ ∀ q, z_A E q → A q
abbrev lw_L (E : z_E) (b i : Nat) : List (Nat × Value) := [(0, .ref b), (1, .ref (z_a E 18 0)), (2, .ref (z_a E 19 0)), (3, .int (nI i))]
theorem lw_arg {p : Program} {l : Launch} {e : Env} {R : Room} {s : State} {m : MethodId} {args : Array Value} {below : List Frame} {meth : Method} {c : Code} {H : Heap} {locs : List Loc} {cells slots : Nat} {Q : State → Prop} {E : z_E} {A : Nat → Prop} {b L i k pc : Nat} {n : Int} {xs : Nat → Int32} {ls : Array Slot} {rest : List Value} (C : lw_Cx p s m c b L xs E A) (hL : L ≤ 256) (hi : i + 4 ≤ L) (hS : va_S A s.heap H locs) (hl : lv_has ls 4 (lw_L E b i)) (hk : k < 4) (hn : Int32.ofInt n = nI k)
    (d0 : decode cL_law pc = .ok (.aload_n 0, 1)) (d1 : decode cL_law (pc + 1) = .ok (.iload_n 3, 1)) (d2 : decode cL_law (pc + 2) = .ok (.iconst n, 1)) (d3 : decode cL_law (pc + 3) = .ok (.iadd, 1)) (d4 : decode cL_law (pc + 4) = .ok (.iaload, 1))
    (kk : W p l e R s m args below meth c H locs cells slots Q (F0 m (pc + 5) ls (.int (xs (i + k)) :: rest))) : W p l e R s m args below meth c H locs cells slots Q (F0 m pc ls rest) := by
  obtain ⟨hx, hb, hml, hown, hts, hX, hbl, hbA, hK, hE, hC, hM, hsub⟩ := C
  refine lv_aload_n hx hb d0 rfl (lv_at hl 0 rfl) ?_
  refine lv_iload_n hx hb d1 rfl (lv_at hl 3 rfl) ?_
  refine lv_iconst (v := nI k) hx hb d2 hn ?_
  refine lv_iadd hx hb d3 ?_
  rw [nI_add]
  refine va_sld hx hb hX hbl hbA hS (nI_in (by omega) (by omega)) d4 ?_
  rw [nI_clamp (by omega)]
  exact kk
theorem nI_any (x : Int32) : ∃ k : Nat, x = nI k := by
  refine ⟨x.toBitVec.toNat, ?_⟩
  apply Int32.toBitVec_inj.1
  show x.toBitVec = BitVec.ofNat 32 x.toBitVec.toNat
  simp
theorem and31 (x : Int32) : ∃ t : Nat, t < 32 ∧ x &&& 31 = nI t := by
  obtain ⟨k, rfl⟩ := nI_any x
  refine ⟨k &&& 31, ?_, ?_⟩
  · exact Nat.lt_of_le_of_lt Nat.and_le_right (by decide)
  · rw [show (31 : Int32) = nI 31 from rfl, nI_and]
theorem lw_cmp {L i : Nat} (hL : L ≤ 256) (hi : i ≤ 260) : (nI L - nI 4 < nI i) ↔ L < i + 4 := by
  rcases Nat.lt_or_ge L 4 with h | h
  · refine ⟨fun _ => by omega, fun _ => ?_⟩
    have hneg : nI L - nI 4 < 0 := by
      have : L = 0 ∨ L = 1 ∨ L = 2 ∨ L = 3 := by omega
      rcases this with rfl | rfl | rfl | rfl <;> decide
    exact Int32.lt_of_lt_of_le hneg (nI_pos' (by omega))
  · obtain ⟨M, rfl⟩ : ∃ M, L = M + 4 := ⟨L - 4, by omega⟩
    have e : nI (M + 4) - nI 4 = nI M := by rw [← nI_add]; grind
    rw [e, nI_ltI (by omega) (by omega)]
    omega
/-! ===== the two worlds side by side ===== -/
def eL (D : va_G) (cI cH : ClassId) (aa : Nat → Nat → Nat) (a6 : Nat → Nat) : z_E := (D.1, D.2, cI, cH, fun o c => if o = 19 then a6 c else aa o c, c5 ++ z_modC)
def xL (X Y : z_X) : z_X := fun o => if o = 19 then Y 19 else X o
def z_rf (L : z_L) : List (Nat × Nat) := match L with
  | .inl _ => []
  | .inr (.inl q) => q.2.filterMap id
  | .inr (.inr rs) => rs
theorem z_cell_eq {E F : z_E} {L : z_L} {f : Nat → Int32} (hi : z_i E = z_i F) (hh : z_h E = z_h F) (ha : ∀ z ∈ z_rf L, z_a E z.1 z.2 = z_a F z.1 z.2) : z_cell E L f = z_cell F L f := by
  match L, ha with
  | .inl n, _ => unfold z_cell; rw [hi]
  | .inr (.inl q), ha =>
    unfold z_cell
    refine congrArg Sum.inr (congrArg (Prod.mk q.1) ?_)
    apply List.ext_getElem?
    intro k
    rw [List.getElem?_mapIdx, List.getElem?_mapIdx]
    cases hk : q.2[k]? with
    | none => rfl
    | some r =>
      cases r with
      | none => rfl
      | some z =>
        have hz : z ∈ z_rf (.inr (.inl q)) := List.mem_filterMap.mpr ⟨some z, List.mem_of_getElem? hk, rfl⟩
        show some (Value.ref (z_a E z.1 z.2)) = some (Value.ref (z_a F z.1 z.2))
        rw [ha z hz]
  | .inr (.inr rs), ha =>
    unfold z_cell
    rw [hh]
    refine congrArg (fun g => Sum.inl (z_h F, rs.length, Sum.inr (Sum.inr (Sum.inr (Sum.inr g))))) ?_
    funext k
    cases hk : rs[k]? with
    | none => rfl
    | some z =>
      show some (z_a E z.1 z.2) = some (z_a F z.1 z.2)
      rw [ha z (List.mem_of_getElem? hk)]
theorem c5_no : ∀ z ∈ c5, z.1 ≠ 19 ∧ ∀ y ∈ z_rf (z_lay z.1 z.2), y.1 ≠ 19 := by decide +kernel
theorem wL_eq (D : va_G) (cI cH : ClassId) (aa : Nat → Nat → Nat) (a6 : Nat → Nat) (X Y : z_X) : z_w (e5 D cI cH aa) X ++ z_w (e6 D cI cH a6) Y = z_w (eL D cI cH aa a6) (xL X Y) := by
  show c5.map (z_f (e5 D cI cH aa) X) ++ z_modC.map (z_f (e6 D cI cH a6) Y) = (c5 ++ z_modC).map (z_f (eL D cI cH aa a6) (xL X Y))
  rw [List.map_append]
  congr 1
  · refine List.map_congr_left (fun z hz => ?_)
    obtain ⟨h1, h2⟩ := c5_no z hz
    have ea : ∀ o c, o ≠ 19 → z_a (eL D cI cH aa a6) o c = z_a (e5 D cI cH aa) o c := fun o c ho => if_neg ho
    have eX : xL X Y z.1 = X z.1 := if_neg h1
    unfold z_f
    rw [ea z.1 z.2 h1, eX]
    exact congrArg (Prod.mk _) (z_cell_eq rfl rfl (fun y hy => (ea y.1 y.2 (h2 y hy)).symm))
theorem cL_nd : (c5 ++ z_modC).Nodup := by decide +kernel
