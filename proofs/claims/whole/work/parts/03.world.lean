/-- what a cell is: an int array of a length; an object of a class, its fields (none: an int, in the cell's place of the field's number; some: a reference to a cell); an array of references -/
abbrev z_L : Type := Nat ⊕ ((Nat × List (Option (Nat × Nat))) ⊕ List (Nat × Nat))
def z_layH (o : Nat) : Nat → z_L := fun c => match c with
  | 0 => .inr (.inl (1, [none, none, none, none, some (o, 4), some (o, 5), some (o, 6), some (o, 7), some (o, 8), some (o, 9), some (o, 10), some (o, 11), some (o, 12)]))
  | 4 => .inl 6
  | 5 => .inl 6
  | 6 => .inl 6
  | _ => .inl 8
def z_layO (o : Nat) : Nat → z_L := fun c => match o, c with
  | 13, 0 => .inr (.inl (2, [none, none, some (13, 2), some (13, 3)]))
  | 13, 2 => .inl 200
  | 13, _ => .inl 3
  | 14, 0 => .inr (.inl (3, [none, none, some (14, 2)]))
  | 14, _ => .inr (.inr [(3, 0), (4, 0), (5, 0), (6, 0), (7, 0), (8, 0), (9, 0), (10, 0)])
  | 15, 0 => .inr (.inl (3, [none, none, some (15, 2)]))
  | 15, _ => .inr (.inr [(11, 0), (12, 0)])
  | 16, 0 => .inr (.inl (4, [none, some (16, 1), some (16, 2), some (16, 3)]))
  | 16, _ => .inl 6
  | 17, _ => .inr (.inl (0, [some (2, 0)]))
  | 18, _ => .inr (.inl (5, [some (13, 0), some (0, 0), some (1, 0), some (14, 0), some (15, 0), some (16, 0), some (17, 0)]))
  | 19, 0 => .inr (.inl (6, [none, some (19, 1), some (19, 2), some (19, 3), some (19, 4), some (19, 5), some (19, 6), some (19, 7), none, some (19, 9), none, some (19, 11), none, none, some (19, 14)]))
  | 19, 1 => .inl 200
  | 19, 2 => .inl 13
  | 19, 3 => .inl 13
  | 19, 4 => .inl 42
  | 19, 5 => .inl 42
  | 19, 6 => .inl 42
  | 19, 7 => .inl 336
  | 19, 9 => .inl 84
  | 19, 11 => .inl 18
  | _, _ => .inl 3
def z_lay (o : Nat) : Nat → z_L := if o < 13 then z_layH o else z_layO o
theorem z_layh {o : Nat} (ho : o < 13) (c : Nat) : z_lay o c = z_layH o c := by unfold z_lay; rw [if_pos ho]
def z_hallC (o : Nat) : List (Nat × Nat) := [(o, 0), (o, 4), (o, 5), (o, 6), (o, 7), (o, 8), (o, 9), (o, 10), (o, 11), (o, 12)]
def z_restC : List (Nat × Nat) := [(13, 0), (13, 2), (13, 3), (14, 0), (14, 2), (15, 0), (15, 2), (16, 0), (16, 1), (16, 2), (16, 3), (17, 0), (18, 0)]
def z_modC : List (Nat × Nat) := [(19, 0), (19, 1), (19, 2), (19, 3), (19, 4), (19, 5), (19, 6), (19, 7), (19, 9), (19, 11), (19, 14)]
/-- the numbers of the classes, of their slots, of int arrays, of arrays of halls; where each cell lies; which cells there are -/
abbrev z_E : Type := (Nat → ClassId) × (Nat → Nat → Nat) × ClassId × ClassId × (Nat → Nat → Nat) × List (Nat × Nat)
def z_d (E : z_E) : va_G := (E.1, E.2.1)
def z_i (E : z_E) : ClassId := E.2.2.1
def z_h (E : z_E) : ClassId := E.2.2.2.1
def z_a (E : z_E) (o c : Nat) : Nat := E.2.2.2.2.1 o c
def z_c (E : z_E) : List (Nat × Nat) := E.2.2.2.2.2
def z_cell (E : z_E) (L : z_L) (f : Nat → Int32) : va_E := match L with
  | .inl n => .inl (z_i E, n, .inl f)
  | .inr (.inl q) => .inr (q.1, q.2.mapIdx (fun k r => match r with | none => .int (f k) | some z => .ref (z_a E z.1 z.2)))
  | .inr (.inr rs) => .inl (z_h E, rs.length, .inr (.inr (.inr (.inr (fun i => (rs[i]?).map (fun z => z_a E z.1 z.2))))))
def z_w (E : z_E) (X : z_X) : va_W := (z_c E).map (fun z => (z_a E z.1 z.2, z_cell E (z_lay z.1 z.2) (X z.1 z.2)))
def z_t (E : z_E) : List (ClassId × FieldType) := [(z_i E, .int), (z_h E, .object "GauntletHall$Hall")]
def z_P (E : z_E) (X : z_X) (H : Heap) : Prop := va_P (z_d E) vwCl (z_w E X) H
def z_nw : List Cond := [.methodLinkNest RX2 49 yX5_within "GauntletHall", .methodLinkNest RX1 58 yX5_within "GauntletHall", .methodLinkNest RX1 70 yX5_sizeByNow "GauntletHall", .methodLinkNest RX1 74 yX5_isAsLarge "GauntletHall", .methodLinkNest RX1 77 yX5_mightByFight "GauntletHall", .methodLinkNest RX0 72 yX5_sizeByNow "GauntletHall", .methodLinkNest RX0 76 yX5_isAsLarge "GauntletHall", .methodLinkNest RX4 40 yX5_sizeByNow "GauntletHall", .methodLinkNest RX4 44 yX5_isAsLarge "GauntletHall", .methodLinkNest RX5 9 yX2_init "GauntletHall", .methodLinkNest RX5 18 yX1_init "GauntletHall", .methodLinkNest RX3 28 yX1_init "GauntletHall", .methodLinkNest RX5 40 yX4_init "GauntletHall", .methodLinkNest RX5 47 yX0_init "GauntletHall", .methodLinkNest RX0 11 yX1_init "GauntletHall"]
def z_N (U : State) : Prop := ∀ w ∈ z_nw, va_Nw w U
def z_K (E : z_E) (U : State) : Prop := va_K (z_d E) vwCl (z_t E) U ∧ z_N U
def z_A (E : z_E) : Nat → Prop := fun q => ∃ z ∈ z_c E, q = z_a E z.1 z.2
def z_ok (E : z_E) : Prop := (z_c E).Nodup ∧ ∀ y ∈ z_c E, ∀ z ∈ z_c E, z_a E y.1 y.2 = z_a E z.1 z.2 → y = z
def z_cls (E : z_E) : Prop := (∀ o, o < 13 → ∀ z ∈ z_hallC o, z ∈ z_c E) ∧ ∀ z ∈ z_restC, z ∈ z_c E
def z_mod (E : z_E) : Prop := ∀ z ∈ z_modC, z ∈ z_c E
theorem z_nw_link : ∀ w ∈ z_nw, ∃ (a : String) (i : Nat) (y : MethodName) (b : String), w = .methodLinkNest a i y b := by
  intro w hw
  simp only [z_nw, List.mem_cons, List.not_mem_nil, or_false] at hw
  rcases hw with h | h | h | h | h | h | h | h | h | h | h | h | h | h | h <;> exact ⟨_, _, _, _, h⟩
theorem z_N.warm {s U : State} (hW : s.WarmedH U.vm) (h : z_N s) : z_N U := by
  intro w hw
  obtain ⟨a, i, y, b, rfl⟩ := z_nw_link w hw
  exact va_Nw.warmM hW (h _ hw)
theorem z_N.same {s U : State} (hv : s.vm = U.vm) (h : z_N s) : z_N U := by
  intro w hw
  obtain ⟨a, i, y, b, rfl⟩ := z_nw_link w hw
  exact va_Nw.same rfl hv (h _ hw)
theorem z_K.warm {E : z_E} {s U : State} (hW : s.WarmedH U.vm) (h : z_K E s) : z_K E U := ⟨va_K.moved hW.alike h.1, h.2.warm hW⟩
theorem z_at {E : z_E} {o c : Nat} (hm : (o, c) ∈ z_c E) (X : z_X) : ∃ p : Nat, (z_c E)[p]? = some (o, c) ∧ (z_w E X)[p]? = some (z_a E o c, z_cell E (z_lay o c) (X o c)) := by
  obtain ⟨p, hp⟩ := List.getElem?_of_mem hm
  refine ⟨p, hp, ?_⟩
  unfold z_w
  rw [List.getElem?_map, hp]
  rfl
theorem z_D {E : z_E} (h : z_ok E) (X : z_X) : va_D (z_A E) (z_w E X) := by
  have key : ∀ (k : Nat) (q : Nat × va_E), (z_w E X)[k]? = some q → ∃ z, (z_c E)[k]? = some z ∧ q.1 = z_a E z.1 z.2 := by
    intro k q hk
    unfold z_w at hk
    rw [List.getElem?_map] at hk
    cases hz : (z_c E)[k]? with
    | none => rw [hz] at hk; cases hk
    | some z =>
      rw [hz] at hk
      have := Option.some.inj hk
      exact ⟨z, rfl, by rw [← this]⟩
  refine ⟨fun i j p q hi hj hpq => ?_, fun k q hk => ?_⟩
  · obtain ⟨y, h1, h2⟩ := key i p hi
    obtain ⟨z, h3, h4⟩ := key j q hj
    have hyz := h.2 y (List.mem_of_getElem? h1) z (List.mem_of_getElem? h3) (by rw [← h2, ← h4, hpq])
    subst hyz
    obtain ⟨hi', e1⟩ := List.getElem?_eq_some_iff.mp h1
    obtain ⟨hj', e2⟩ := List.getElem?_eq_some_iff.mp h3
    exact (List.getElem_inj h.1).mp (e1.trans e2.symm)
  · obtain ⟨z, h1, h2⟩ := key k q hk
    exact ⟨z, List.mem_of_getElem? h1, h2⟩
theorem z_w_set {E : z_E} (h : z_ok E) {p o c : Nat} (hp : (z_c E)[p]? = some (o, c)) {X X' : z_X} (hx : ∀ o' c', ¬ (o' = o ∧ c' = c) → X' o' c' = X o' c') {e : va_E} (he : e = z_cell E (z_lay o c) (X' o c)) : (z_w E X).set p (z_a E o c, e) = z_w E X' := by
  subst he
  apply List.ext_getElem?
  intro k
  have hl : p < (z_w E X).length := by unfold z_w; rw [List.length_map]; exact (List.getElem?_eq_some_iff.mp hp).1
  by_cases hk : k = p
  · subst hk
    rw [List.getElem?_set_self hl]
    unfold z_w
    rw [List.getElem?_map, hp]
    rfl
  · rw [List.getElem?_set_ne (Ne.symm hk)]
    unfold z_w
    rw [List.getElem?_map, List.getElem?_map]
    cases hz : (z_c E)[k]? with
    | none => rfl
    | some z =>
      have hne : ¬ (z.1 = o ∧ z.2 = c) := by
        rintro ⟨e1, e2⟩
        obtain ⟨hi', f1⟩ := List.getElem?_eq_some_iff.mp hp
        obtain ⟨hj', f2⟩ := List.getElem?_eq_some_iff.mp hz
        have : z = (o, c) := by rw [← e1, ← e2]
        exact hk ((List.getElem_inj h.1).mp (by rw [f1, f2, this]))
      show some (z_a E z.1 z.2, z_cell E (z_lay z.1 z.2) (X z.1 z.2)) = some (z_a E z.1 z.2, z_cell E (z_lay z.1 z.2) (X' z.1 z.2))
      rw [hx z.1 z.2 hne]
theorem z_put_other (X : z_X) (o c : Nat) (f : Nat → Int32) : ∀ o' c', ¬ (o' = o ∧ c' = c) → z_up X o (z_sa (X o) c f) o' c' = X o' c' := by
  intro o' c' hn
  by_cases h1 : o' = o
  · subst h1
    rw [z_up_same]
    exact z_sa_ne (fun h2 => hn ⟨rfl, h2⟩)
  · rw [z_up_ne h1]
theorem z_put_at (X : z_X) (o c : Nat) (f : Nat → Int32) : z_up X o (z_sa (X o) c f) o c = f := by rw [z_up_same, z_sa_same]
