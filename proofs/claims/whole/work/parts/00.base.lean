/-! ===== THE WORLD: every cell of the class and of the reference has a place (group, cell); what the int cells hold is ONE function ===== -/
/-- what the cells of one group hold: cell, place -/
abbrev z_G : Type := Nat → Nat → Int32
/-- all groups -/
abbrev z_X : Type := Nat → z_G
def z_up (X : z_X) (o : Nat) (h : z_G) : z_X := fun i => if i = o then h else X i
def z_sa (h : z_G) (c : Nat) (f : Nat → Int32) : z_G := fun a => if a = c then f else h a
def z_ss (h : z_G) (c j : Nat) (v : Int32) : z_G := z_sa h c (upd (h c) j v)
abbrev z_n (i : Int32) : Nat := i.toNatClampNeg
def z_b (v : Int32) : Prop := v = 0 ∨ v = 1
theorem z_up_same (X : z_X) (o : Nat) (h : z_G) : z_up X o h o = h := if_pos rfl
theorem z_up_ne {X : z_X} {o i : Nat} {h : z_G} (hi : i ≠ o) : z_up X o h i = X i := if_neg hi
theorem z_up_up (X : z_X) (o : Nat) (h g : z_G) : z_up (z_up X o h) o g = z_up X o g := by
  funext i
  by_cases hi : i = o <;> simp [z_up, hi]
theorem z_up_self (X : z_X) (o : Nat) : z_up X o (X o) = X := by
  funext i
  by_cases hi : i = o
  · subst hi; exact z_up_same _ _ _
  · exact z_up_ne hi
theorem z_up_val (X : z_X) (o : Nat) (h : z_G) (c k : Nat) : z_up X o h o c k = h c k := by rw [z_up_same]
theorem z_up_put (X : z_X) (o : Nat) (h : z_G) (c k : Nat) (v : Int32) : z_up (z_up X o h) o (z_ss (z_up X o h o) c k v) = z_up X o (z_ss h c k v) := by rw [z_up_up, z_up_same]
theorem z_sa_same (h : z_G) (c : Nat) (f : Nat → Int32) : z_sa h c f c = f := if_pos rfl
theorem z_sa_ne {h : z_G} {c a : Nat} {f : Nat → Int32} (ha : a ≠ c) : z_sa h c f a = h a := if_neg ha
theorem z_ss_same (h : z_G) (c j : Nat) (v : Int32) : z_ss h c j v c = upd (h c) j v := z_sa_same _ _ _
theorem z_ss_ne {h : z_G} {c a j : Nat} {v : Int32} (ha : a ≠ c) : z_ss h c j v a = h a := z_sa_ne ha
theorem z_nar {v : Int32} (h : z_b v) : narrow .boolean (.int v) = .int v := by rcases h with rfl | rfl <;> rfl
/-- loops: a fixed point with fuel -/
def z_fp {σ : Type} (F : (σ → Prop) → σ → Prop) : Nat → σ → Prop
  | 0 => fun _ => False
  | n + 1 => F (z_fp F n)
theorem z_fp_of {σ : Type} {F : (σ → Prop) → σ → Prop} (I : σ → Prop) (μ : σ → Nat) (hs : ∀ s, I s → ∀ Lp : σ → Prop, (∀ s', I s' → μ s' < μ s → Lp s') → F Lp s) {s : σ} (h : I s) : ∃ n, z_fp F n s := by
  have key : ∀ (N : Nat) (s : σ), μ s < N → I s → z_fp F N s := by
    intro N
    induction N with
    | zero => intro s h _; exact absurd h (Nat.not_lt_zero _)
    | succ N ih => intro s hN hI; exact hs s hI _ (fun s' hI' hlt => ih s' (by omega) hI')
  exact ⟨μ s + 1, key _ _ (Nat.lt_succ_self _) h⟩
/-- a loop that counts: from i up to b -/
theorem z_for {σ : Type} {F : (σ → Prop) → σ → Prop} (b : Nat) (J : Nat → σ → Prop) (hs : ∀ i s, i ≤ b → J i s → ∀ Lp : σ → Prop, (∀ s', i < b → J (i + 1) s' → Lp s') → F Lp s) {i : Nat} {s : σ} (hi : i ≤ b) (h : J i s) : ∃ n, z_fp F n s := by
  have key : ∀ (N i : Nat) (s : σ), b - i < N → i ≤ b → J i s → z_fp F N s := by
    intro N
    induction N with
    | zero => intro i s h; exact absurd h (Nat.not_lt_zero _)
    | succ N ih => intro i s hN hi hJ; exact hs i s hi hJ _ (fun s' hlt hJ' => ih (i + 1) s' (by omega) (by omega) hJ')
  exact ⟨b - i + 1, key _ _ _ (Nat.lt_succ_self _) hi h⟩
