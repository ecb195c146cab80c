/-! ===== PURE: a hall of the class: what its methods answer and make of it ===== -/
def szn (kind size lain : Int32) : Int32 := if kind = 3 then size - lain / 5 else size
def lk (kind s hand : Int32) : Bool := if kind = 2 then decide (hand = s) else decide (hand = s ∨ hand = s - 1 ∨ (hand = s + 1 ∧ kind = 1))
theorem s_sizeByNow {k s l : Int32} {K : Int32 → Prop} (h : K (szn k s l)) : v_X5_sizeByNow k s l K := by
  unfold v_X5_sizeByNow
  unfold szn at h
  refine ⟨fun c => ?_, fun c => ?_⟩
  · rw [if_neg c] at h; exact h
  · rw [if_pos c] at h; exact h
theorem i32_sub (a b c : Int32) : a - b = c ↔ a = c + b := by grind
theorem s_isAsLarge {k s d : Int32} {K : Int32 → Prop} (h : K (bI (lk k s d))) : v_X5_isAsLarge k s d K := by
  unfold v_X5_isAsLarge
  intro y ey
  subst ey
  unfold lk at h
  have e0 : d - s = 0 ↔ d = s := by rw [i32_sub, Int32.zero_add]
  have e1 : d - s = -1 ↔ d = s - 1 := by rw [i32_sub]; constructor <;> intro q <;> grind
  have e2 : d - s = 1 ↔ d = s + 1 := by rw [i32_sub, Int32.add_comm]
  rw [e0, e1, e2]
  refine ⟨fun c => ?_, fun c => ?_⟩
  · rw [if_neg c] at h
    refine ⟨fun a => kT h (by simp [a]), fun a => ⟨fun b => kT h (by simp [b]), fun b => ⟨fun w => kF h (by simp [a, b, w]), fun w => ⟨fun z => kF h (by simp [a, b, z]), fun z => kT h (by simp [w, z])⟩⟩⟩⟩
  · rw [if_pos c] at h
    exact ⟨fun a => kF h (by simp [a]), fun a => kT h (by simp [a])⟩
/-- a person can take up a glove -/
def can (h : z_G) (p g : Nat) : Bool := decide (h 10 g = 1) && (decide (¬ h 9 g = nI p) && (decide (0 < h 5 p) && lk (h 7 g) (szn (h 7 g) (h 8 g) (h 11 g)) (h 4 p)))
theorem s_can {h : z_G} {p g : Nat} {K : Int32 → Prop} (hp : p < 6) (hg : g < 8) (hK : K (bI (can h p g))) : v_X1_canTakeUp h (nI p) (nI g) K := by
  have i8 : vp_in (nI g) 8 := vp_in_nI hg (by omega)
  have i6 : vp_in (nI p) 6 := vp_in_nI hp (by omega)
  have eg : z_n (nI g) = g := z_n_nI (by omega)
  have ep : z_n (nI p) = p := z_n_nI (by omega)
  unfold v_X1_canTakeUp
  rw [eg, ep]
  refine ⟨i8, fun c => kF hK (by simp [can, c]), fun c => ⟨i8, fun d => kF hK (by simp [can, d]), fun d => ⟨i6, fun w => kF hK ?_, fun w => ⟨i8, i8, i8, i8, s_sizeByNow ⟨i6, s_isAsLarge (br0 (fun z => kF hK ?_) (fun z => kT hK ?_))⟩⟩⟩⟩⟩
  · have : ¬ 0 < h 5 p := Int32.not_lt.mpr w
    simp [can, this]
  · simp [can, z]
  · have : 0 < h 5 p := Int32.not_le.mp w
    simp [can, c, d, this, z]
def low (h : z_G) (p k : Nat) : Int32 := loF (can h p) 0 k
theorem s_low {h : z_G} {p k : Nat} {K : Int32 → Prop} (hk : h 0 1 = nI k) (hk8 : k ≤ 8) (hp : p < 6) (hK : K (low h p k)) : v_X1_lowestFor h (nI p) K := by
  unfold v_X1_lowestFor v_X1_lowestFor_b2
  refine z_for k (fun i q => q = (nI p, nI i) ∧ low h p k = loF (can h p) i (k - i)) ?_ (Nat.zero_le k) ⟨rfl, rfl⟩
  rintro i ⟨x1, x2⟩ hi ⟨e, hl⟩ Lp hL
  obtain ⟨rfl, rfl⟩ := Prod.mk.inj e
  show v_X1_lowestFor_b2_s h K _ (nI p) (nI i)
  unfold v_X1_lowestFor_b2_s
  rw [hk]
  refine ⟨fun c => ?_, fun c => ?_⟩
  · have : k ≤ i := (nI_leI (by omega) (by omega)).mp c
    rw [hl, show k - i = 0 by omega] at hK
    exact hK
  · have hlt : i < k := by
      rcases Nat.lt_or_ge i k with q | q
      · exact q
      · exact absurd (nI_le q (by omega)) c
    rw [show k - i = (k - (i + 1)) + 1 by omega] at hl
    unfold loF at hl
    refine s_can hp (by omega) (br0 (fun w => ?_) (fun w => ?_))
    · intro y ey
      rw [w] at hl
      exact hL (nI p, y) hlt ⟨by rw [ey, nI_1], hl⟩
    · rw [w] at hl
      rw [hl] at hK
      exact hK
/-- might behind a fight -/
def mbf (a b : Int32) : Int32 := if a ≤ b then 0 else if 1 < a - b / 2 then a - b / 2 else 1
theorem s_mbf {a b : Int32} {K : Int32 → Prop} (hK : K (mbf a b)) : v_X5_mightByFight a b K := by
  unfold v_X5_mightByFight
  unfold mbf at hK
  refine ⟨fun c => ?_, fun c => ?_⟩
  · rw [if_pos c] at hK; exact hK
  · rw [if_neg c] at hK; exact hK
theorem mbf_nI {a b : Nat} (ha : a ≤ 40) (hb : b ≤ 40) : ∃ c, c ≤ 40 ∧ mbf (nI a) (nI b) = nI c ∧ (c = 0 ↔ a ≤ b) := by
  unfold mbf
  by_cases h : a ≤ b
  · rw [if_pos (nI_le h (by omega))]
    exact ⟨0, by omega, rfl, by simp [h]⟩
  · rw [if_neg (nI_ge (by omega) (by omega))]
    have e2 : (2 : Int32) = nI 2 := rfl
    rw [e2, pk_div (by omega) (by omega) (by omega), pk_sub (by omega)]
    by_cases h1 : (1 : Int32) < nI (a - b / 2)
    · rw [if_pos h1]
      refine ⟨a - b / 2, by omega, rfl, by omega⟩
    · rw [if_neg h1]
      exact ⟨1, by omega, rfl, by omega⟩
/-- one takes up a glove -/
def wr (h : z_G) (p g : Nat) : z_G := 
  if h 5 (z_n (h 9 g)) = 0 then z_ss (z_ss h 10 g 0) 12 g (nI p)
  else z_ss (z_ss (z_ss (z_ss (z_ss h 10 g 0) 12 g (nI p)) 5 p (mbf (h 5 p) (h 5 (z_n (h 9 g))))) 5 (z_n (h 9 g)) (mbf (h 5 (z_n (h 9 g))) (h 5 p))) 0 3 (h 0 3 + 1)
theorem s_wr {h : z_G} {p g q : Nat} {K : z_G → Prop} (hp : p < 6) (hg : g < 8) (hq : h 9 g = nI q) (hq6 : q < 6) (hK : K (wr h p g)) : v_X1_takeUp h (nI p) (nI g) K := by
  have i8 : vp_in (nI g) 8 := vp_in_nI hg (by omega)
  have i6 : vp_in (nI p) 6 := vp_in_nI hp (by omega)
  have iq : vp_in (nI q) 6 := vp_in_nI hq6 (by omega)
  have eg : z_n (nI g) = g := z_n_nI (by omega)
  have ep : z_n (nI p) = p := z_n_nI (by omega)
  have eq : z_n (nI q) = q := z_n_nI (by omega)
  unfold v_X1_takeUp
  rw [eg]
  refine ⟨i8, ?_⟩
  intro y ey
  rw [hq] at ey
  subst ey
  refine ⟨i8, ?_⟩
  intro h4 e4
  refine ⟨i8, ?_⟩
  intro h6 e6
  rw [ep, eq]
  have e5 : h6 5 = h 5 := by rw [e6, e4, z_ss_ne (by decide), z_ss_ne (by decide)]
  unfold wr at hK
  rw [hq, eq] at hK
  refine ⟨iq, fun c => ⟨i6, ?_⟩, fun c => ?_⟩
  · intro y1 ey1
    refine ⟨iq, ?_⟩
    intro y2 ey2
    rw [e5] at c ey1 ey2
    subst ey1; subst ey2
    rw [if_neg c] at hK
    refine s_mbf ⟨i6, ?_⟩
    intro h15 e15
    refine s_mbf ⟨iq, ?_⟩
    intro h18 e18 h19 e19
    refine kE hK ?_
    have e03 : h18 0 3 = h 0 3 := by rw [e18, e15, e6, e4, z_ss_ne (by decide), z_ss_ne (by decide), z_ss_ne (by decide), z_ss_ne (by decide)]
    rw [e19, e03, e18, e15, e6, e4]
  · rw [e5] at c
    rw [if_pos c] at hK
    exact kE hK (by rw [e6, e4])
/-- what a hall always keeps to -/
def HI (n k : Nat) (h : z_G) : Prop := h 0 0 = nI n ∧ h 0 1 = nI k ∧ n ≤ 6 ∧ k ≤ 8 ∧ (∀ g, g < k → ∃ q, q < n ∧ h 9 g = nI q) ∧ (∀ g, g < k → z_b (h 10 g)) ∧ (∀ p, p < n → ∃ a, a ≤ 40 ∧ h 5 p = nI a) ∧ (∀ g, g < k → ∃ a, 1 ≤ a ∧ a ≤ 20 ∧ h 8 g = nI a)
