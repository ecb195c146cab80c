/-! ===== PURE: numbers and branches ===== -/
/-- a truth value as the machine has it -/
def bI (b : Bool) : Int32 := if b then 1 else 0
theorem bI_t : bI true = 1 := rfl
theorem bI_f : bI false = 0 := rfl
theorem bI_b (b : Bool) : z_b (bI b) := by cases b; exact Or.inl rfl; exact Or.inr rfl
theorem bI_0 (b : Bool) : bI b = 0 ↔ b = false := by cases b <;> decide
theorem bI_1 (b : Bool) : bI b = 1 ↔ b = true := by cases b <;> decide
theorem br0 {b : Bool} {A B : Prop} (ha : b = false → A) (hb : b = true → B) : (bI b = 0 → A) ∧ (¬ bI b = 0 → B) := by
  cases b
  · exact ⟨fun _ => ha rfl, fun h => absurd rfl h⟩
  · exact ⟨fun h => absurd h (by decide), fun _ => hb rfl⟩
theorem br1 {b : Bool} {A B : Prop} (hb : b = true → B) (ha : b = false → A) : (¬ bI b = 0 → B) ∧ (bI b = 0 → A) := (br0 ha hb).symm
theorem z_n_nI {n : Nat} (h : n < 2 ^ 31) : z_n (nI n) = n := nI_clamp h
/-- between two numbers -/
def wi (x a b : Int32) : Bool := decide (a ≤ x ∧ x ≤ b)
theorem s_within {x a b : Int32} {K : Int32 → Prop} (h : K (bI (wi x a b))) : v_X5_within x a b K := by
  unfold v_X5_within
  refine ⟨fun c => ?_, fun c => ⟨fun d => ?_, fun d => ?_⟩⟩
  · have e : wi x a b = false := decide_eq_false (fun q => Int32.not_le.mpr c q.1)
    rw [e] at h; exact h
  · have e : wi x a b = false := decide_eq_false (fun q => Int32.not_le.mpr d q.2)
    rw [e] at h; exact h
  · have e : wi x a b = true := decide_eq_true ⟨Int32.not_lt.mp c, Int32.not_lt.mp d⟩
    rw [e] at h; exact h
theorem lg_lt (x y : Int64) : lg_cmp x y < 0 ↔ x < y := by
  have h := lg_cmp_ge x y
  rw [← Int32.not_le, h, Int64.not_le]
theorem lg_gt (x y : Int64) : 0 < lg_cmp x y ↔ y < x := by
  unfold lg_cmp
  by_cases h : y < x
  · simp [h]
  · by_cases h2 : x = y
    · simp [h, h2]
    · simp [h, h2]
theorem toInt64_le (a b : Int32) : a.toInt64 ≤ b.toInt64 ↔ a ≤ b := by
  rw [Int64.le_iff_toInt_le, Int32.le_iff_toInt_le, Int32.toInt_toInt64, Int32.toInt_toInt64]
theorem s_in {x a b : Int32} {y c d : Int64} {K : Int32 → Prop} (hy : y = x.toInt64) (hc : c = a.toInt64) (hd : d = b.toInt64) (h : K (bI (wi x a b))) : v_X6_in y c d K := by
  subst hy; subst hc; subst hd
  unfold v_X6_in
  refine ⟨fun q => ?_, fun q => ⟨fun w => ?_, fun w => ?_⟩⟩
  · rw [lg_lt, ← Int64.not_le, toInt64_le] at q
    have e : wi x a b = false := decide_eq_false (fun z => q z.1)
    rw [e] at h; exact h
  · rw [lg_gt, ← Int64.not_le, toInt64_le] at w
    have e : wi x a b = false := decide_eq_false (fun z => w z.2)
    rw [e] at h; exact h
  · rw [lg_lt, ← Int64.not_le, toInt64_le] at q
    rw [lg_gt, ← Int64.not_le, toInt64_le] at w
    have e : wi x a b = true := decide_eq_true ⟨Classical.not_not.mp q, Classical.not_not.mp w⟩
    rw [e] at h; exact h
theorem wi_nI {x : Int32} {n : Nat} (hn : n < 1000) : wi x 0 (nI n - 1) = true ↔ ∃ p : Nat, p < n ∧ x = nI p := by
  unfold wi
  rw [decide_eq_true_iff]
  constructor
  · rintro ⟨h1, h2⟩
    have hp : 0 < n := by
      rcases Nat.eq_zero_or_pos n with h | h
      · subst h
        exact absurd (Int32.le_trans h1 h2) (by decide)
      · exact h
    obtain ⟨m, rfl⟩ : ∃ m, n = m + 1 := ⟨n - 1, by omega⟩
    rw [nI_pred] at h2
    obtain ⟨j, hj, e⟩ := nI_of2 (nI_toInt (by omega)) (Int32.not_lt.mpr h1) h2
    exact ⟨j, by omega, e⟩
  · rintro ⟨p, hp, rfl⟩
    obtain ⟨m, rfl⟩ : ∃ m, n = m + 1 := ⟨n - 1, by omega⟩
    rw [nI_pred]
    exact ⟨nI_pos' (by omega), nI_le (by omega) (by omega)⟩
theorem wi_nat {x : Int32} {a b : Nat} (hb : b < 2 ^ 31) : wi x (nI a) (nI b) = true → a < 2 ^ 31 → ∃ j : Nat, a ≤ j ∧ j ≤ b ∧ x = nI j := by
  intro h ha
  unfold wi at h
  rw [decide_eq_true_iff] at h
  have h0 : (0 : Int32) ≤ x := Int32.le_trans (nI_pos' ha) h.1
  obtain ⟨j, hj, e⟩ := nI_of2 (nI_toInt hb) (Int32.not_lt.mpr h0) h.2
  subst e
  exact ⟨j, (nI_leI ha (by omega)).mp h.1, hj, rfl⟩
theorem kF {K : Int32 → Prop} {b : Bool} (h : K (bI b)) (e : b = false) : K 0 := by subst e; exact h
theorem kT {K : Int32 → Prop} {b : Bool} (h : K (bI b)) (e : b = true) : K 1 := by subst e; exact h
theorem kE {α : Type} {K : α → Prop} {x y : α} (h : K x) (e : y = x) : K y := by subst e; exact h
theorem kE2 {α β : Type} {K : α → β → Prop} {x y : α} {u v : β} (h : K x u) (e : y = x) (e2 : v = u) : K y v := by subst e; subst e2; exact h
/-- the lowest of j numbers from i on that has P, or -4 -/
def loF (P : Nat → Bool) : Nat → Nat → Int32
  | _, 0 => -4
  | i, j + 1 => if P i then nI i else loF P (i + 1) j
theorem loF_s (P : Nat → Bool) (i j : Nat) : loF P i (j + 1) = if P i then nI i else loF P (i + 1) j := rfl
theorem nI_ne4 {g : Nat} (h : g < 2 ^ 31) : ¬ nI g = (-4 : Int32) := by
  intro e
  have := nI_pos' h
  rw [e] at this
  exact absurd this (by decide)
theorem loF_cases (P : Nat → Bool) : ∀ (j i : Nat), (loF P i j = -4 ∧ ∀ g, i ≤ g → g < i + j → P g = false) ∨ ∃ g, i ≤ g ∧ g < i + j ∧ P g = true ∧ loF P i j = nI g
  | 0, i => Or.inl ⟨rfl, fun g h1 h2 => by omega⟩
  | j + 1, i => by
    unfold loF
    by_cases h : P i = true
    · right
      exact ⟨i, by omega, by omega, h, by rw [if_pos h]⟩
    · rw [if_neg h]
      rcases loF_cases P j (i + 1) with ⟨h1, h2⟩ | ⟨g, h1, h2, h3, h4⟩
      · left
        refine ⟨h1, fun g g1 g2 => ?_⟩
        by_cases e : g = i
        · subst e; simpa using h
        · exact h2 g (by omega) (by omega)
      · right
        exact ⟨g, by omega, by omega, h3, h4⟩
theorem loF_cong {P Q : Nat → Bool} : ∀ {j i : Nat}, (∀ g, i ≤ g → g < i + j → P g = Q g) → loF P i j = loF Q i j
  | 0, i, _ => rfl
  | j + 1, i, h => by
    unfold loF
    rw [h i (by omega) (by omega), loF_cong (fun g h1 h2 => h g (by omega) (by omega))]
theorem loF_more {P : Nat → Bool} : ∀ {j i m : Nat}, (∀ g, i + j ≤ g → g < i + j + m → P g = false) → loF P i (j + m) = loF P i j
  | 0, i, 0, _ => rfl
  | 0, i, m + 1, h => by
    rw [show 0 + (m + 1) = m + 1 by omega]
    unfold loF
    rw [if_neg (by rw [h i (by omega) (by omega)]; decide)]
    have := loF_more (P := P) (j := 0) (i := i + 1) (m := m) (fun g h1 h2 => h g (by omega) (by omega))
    rw [Nat.zero_add] at this
    exact this
  | j + 1, i, m, h => by
    rw [show j + 1 + m = (j + m) + 1 by omega]
    unfold loF
    rw [loF_more (fun g h1 h2 => h g (by omega) (by omega))]
