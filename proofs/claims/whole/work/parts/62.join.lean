/-! ===== a call on the last cell of a world ===== -/
theorem nd_of : ∀ (l : List Nat), l.Nodup → va_nd l = true
  | [], _ => rfl
  | a :: l, h => by
    have h1 := (List.nodup_cons.mp h)
    show (decide (a ∉ l) && va_nd l) = true
    rw [decide_eq_true h1.1, nd_of l h1.2]; rfl
theorem jl_C (ws : va_W) (x : Nat × va_E) : [ws.length].map (fun i => (ws ++ [x])[i]?) = [x].map some := by simp
theorem jl_R (ws : va_W) (x : Nat × va_E) : (List.range ws.length).map (fun i => (ws ++ [x])[i]?) = ws.map some := by
  apply List.ext_getElem?
  intro k
  rw [List.getElem?_map, List.getElem?_map]
  by_cases h : k < ws.length
  · rw [List.getElem?_range h, List.getElem?_eq_getElem h]
    simp [List.getElem?_append_left h]
  · rw [List.getElem?_eq_none (by simpa using h), List.getElem?_eq_none (by omega)]
    rfl
theorem jl_P {D : va_G} {cl : List vw_C} {ws : va_W} {x : Nat × va_E} {H : Heap} (h : va_P D cl (ws ++ [x]) H) : va_P D cl [x] H := h.sub [ws.length] (by simp)
theorem jl_D {A : Nat → Prop} {ws : va_W} {x : Nat × va_E} (h : va_D A (ws ++ [x])) : va_D A [x] := h.sub [ws.length] (nd_of _ (by simp)) (jl_C ws x)
theorem jl_F {A0 : Nat → Prop} {ws : va_W} {x : Nat × va_E} {H0 H : Heap} {locs : List Loc} (hD : va_D A0 (ws ++ [x])) (hS : va_S A0 H0 H locs) (hA : ∀ q, H0.size ≤ q → A0 q) : ∀ q, va_A [x] H.size q → A0 q := va_free hD hS hA [ws.length] (jl_C ws x)
theorem jl_J {A0 : Nat → Prop} {D : va_G} {cl : List vw_C} {ws w1 : va_W} {x : Nat × va_E} {H H1 : Heap} (hP : va_P D cl (ws ++ [x]) H) (hD : va_D A0 (ws ++ [x])) (hk : ∀ q : Nat, q < H.size → ¬ va_A [x] H.size q → H1[q]? = H[q]?) (hF : ∀ q, va_A [x] H.size q → A0 q) (hP1 : va_P D cl w1 H1) (hD1 : va_D (va_A [x] H.size) w1) : va_P D cl (ws ++ w1) H1 ∧ va_D A0 (ws ++ w1) :=
  va_join (wr := ws) (w1 := w1) hP hD [ws.length] (List.range ws.length) (jl_C ws x) (jl_R ws x) (nd_of _ List.nodup_range) (fun i hi h => by
    have h1 := List.mem_range.mp hi
    have h2 := List.mem_singleton.mp h
    omega) hk hF hP1 hD1
