/-! ===== PURE: bits; the other methods of a hall ===== -/
theorem nI_and (a b : Nat) : nI a &&& nI b = nI (a &&& b) := by
  apply Int32.toBitVec_inj.1
  show BitVec.ofNat 32 a &&& BitVec.ofNat 32 b = BitVec.ofNat 32 (a &&& b)
  apply BitVec.eq_of_getLsbD_eq
  intro i hi
  simp [hi]
theorem nI_or (a b : Nat) : nI a ||| nI b = nI (a ||| b) := by
  apply Int32.toBitVec_inj.1
  show BitVec.ofNat 32 a ||| BitVec.ofNat 32 b = BitVec.ofNat 32 (a ||| b)
  apply BitVec.eq_of_getLsbD_eq
  intro i hi
  simp [hi]
theorem sh31 : ∀ g, g < 32 → ((nI g &&& 31).toBitVec.smod 32).toNat = g := by decide +kernel
theorem bit_nI {b g : Nat} (hb : b < 2 ^ 31) (hg : g < 31) : ((nI b >>> (nI g &&& 31)) &&& 1) = 1 ↔ b.testBit g = true := by
  rw [pk_shrN hb _ g (sh31 g (by omega)), show (1 : Int32) = nI 1 from rfl, nI_and, Nat.and_one_is_mod, Nat.testBit_eq_decide_div_mod_eq, decide_eq_true_iff]
  exact nI_eq (by omega) (by omega)
theorem shl1 {g : Nat} (hg : g < 31) : (1 : Int32) <<< (nI g &&& 31) = nI (2 ^ g) := by
  have h := pk_shlN (n := 1) (nI g &&& 31) g (sh31 g (by omega)) (by rw [Nat.one_mul]; exact Nat.pow_lt_pow_right (by omega) (by omega))
  rw [Nat.one_mul] at h
  exact h
theorem shl0 {g : Nat} (hg : g < 31) : (0 : Int32) <<< (nI g &&& 31) = nI 0 := by
  have h := pk_shlN (n := 0) (nI g &&& 31) g (sh31 g (by omega)) (by rw [Nat.zero_mul]; decide)
  rw [Nat.zero_mul] at h
  exact h
/-- those below k that have P, as bits -/
def bs (P : Nat → Bool) : Nat → Nat
  | 0 => 0
  | g + 1 => bs P g ||| (if P g then 2 ^ g else 0)
theorem bs_bit (P : Nat → Bool) : ∀ (k j : Nat), (bs P k).testBit j = (decide (j < k) && P j)
  | 0, j => by simp [bs]
  | k + 1, j => by
    unfold bs
    rw [Nat.testBit_or, bs_bit P k j]
    by_cases h : P k = true
    · rw [if_pos h, Nat.testBit_two_pow]
      by_cases e : k = j
      · subst e; simp [h]
      · by_cases h1 : j < k
        · have : j < k + 1 := by omega
          simp [e, h1, this]
        · have : ¬ j < k + 1 := by omega
          simp [e, h1, this]
    · rw [if_neg h, Nat.zero_testBit, Bool.or_false]
      by_cases e : k = j
      · subst e; simp [h]
      · by_cases h1 : j < k
        · have : j < k + 1 := by omega
          simp [h1, this]
        · have : ¬ j < k + 1 := by omega
          simp [h1, this]
theorem bs_lt (P : Nat → Bool) : ∀ k, bs P k < 2 ^ k
  | 0 => by simp [bs]
  | k + 1 => by
    unfold bs
    refine Nat.or_lt_two_pow (Nat.lt_of_lt_of_le (bs_lt P k) (Nat.pow_le_pow_right (by omega) (by omega))) ?_
    split
    · exact Nat.pow_lt_pow_right (by omega) (by omega)
    · exact Nat.two_pow_pos _
theorem bs_cong {P Q : Nat → Bool} {k : Nat} (h : ∀ j, j < k → P j = Q j) : bs P k = bs Q k := by
  apply Nat.eq_of_testBit_eq
  intro j
  rw [bs_bit, bs_bit]
  by_cases hj : j < k
  · rw [h j hj]
  · simp [hj]
def lyP (h : z_G) (g : Nat) : Bool := decide (h 10 g = 1)
def stP (h : z_G) (p : Nat) : Bool := decide (0 < h 5 p)
theorem pow8 {g k : Nat} (h : g ≤ k) (hk : k ≤ 8) : 2 ^ g ≤ 256 := by
  have : 2 ^ g ≤ 2 ^ 8 := Nat.pow_le_pow_right (by omega) (by omega)
  exact this
theorem s_lying {n k : Nat} {h : z_G} {K : Int32 → Prop} (H : HI n k h) (hK : K (nI (bs (lyP h) k))) : v_X1_lyingAsBits h K := by
  obtain ⟨h1, h2, h3, h4, h5, h6, h7, h8⟩ := H
  unfold v_X1_lyingAsBits v_X1_lyingAsBits_b4
  refine z_for k (fun i q => q = (nI (bs (lyP h) i), nI i)) ?_ (Nat.zero_le k) rfl
  rintro i ⟨x1, x2⟩ hi e Lp hL
  obtain ⟨rfl, rfl⟩ := Prod.mk.inj e
  show v_X1_lyingAsBits_b4_s h K _ (nI (bs (lyP h) i)) (nI i)
  unfold v_X1_lyingAsBits_b4_s
  rw [h2]
  refine ⟨fun c => ?_, fun c => ?_⟩
  · have : i = k := by have := (nI_leI (by omega) (by omega)).mp c; omega
    subst this
    exact hK
  · have hlt : i < k := by
      rcases Nat.lt_or_ge i k with q | q
      · exact q
      · exact absurd (nI_le q (by omega)) c
    refine ⟨vp_in_nI (by omega) (by omega), ?_⟩
    intro y ey z ez
    refine hL (_, _) hlt ?_
    rw [ey, ez, nI_1, z_n_nI (show i < 2 ^ 31 by omega)]
    show _ = (nI (bs (lyP h) i ||| (if lyP h i then 2 ^ i else 0)), _)
    rcases h6 i hlt with e0 | e0
    · rw [e0, shl0 (by omega), nI_or]
      simp [lyP, e0]
    · rw [e0, shl1 (by omega), nI_or]
      simp [lyP, e0]
theorem s_standing {n k : Nat} {h : z_G} {K : Int32 → Prop} (H : HI n k h) (hK : K (nI (bs (stP h) n))) : v_X1_standingAsBits h K := by
  obtain ⟨h1, h2, h3, h4, h5, h6, h7, h8⟩ := H
  unfold v_X1_standingAsBits v_X1_standingAsBits_b4
  refine z_for n (fun i q => q = (nI (bs (stP h) i), nI i)) ?_ (Nat.zero_le n) rfl
  rintro i ⟨x1, x2⟩ hi e Lp hL
  obtain ⟨rfl, rfl⟩ := Prod.mk.inj e
  show v_X1_standingAsBits_b4_s h K _ (nI (bs (stP h) i)) (nI i)
  unfold v_X1_standingAsBits_b4_s
  rw [h1]
  refine ⟨fun c => ?_, fun c => ?_⟩
  · have : i = n := by have := (nI_leI (by omega) (by omega)).mp c; omega
    subst this
    exact hK
  · have hlt : i < n := by
      rcases Nat.lt_or_ge i n with q | q
      · exact q
      · exact absurd (nI_le q (by omega)) c
    rw [z_n_nI (show i < 2 ^ 31 by omega)]
    refine ⟨vp_in_nI (by omega) (by omega), fun d => ?_, fun d => ?_⟩
    · intro z ez
      refine hL (_, _) hlt ?_
      rw [ez, nI_1]
      show _ = (nI (bs (stP h) i ||| (if stP h i then 2 ^ i else 0)), _)
      have : stP h i = false := decide_eq_false (Int32.not_lt.mpr d)
      simp [this]
    · intro y ey z ez
      refine hL (_, _) hlt ?_
      rw [ey, ez, nI_1, shl1 (by omega), nI_or]
      show _ = (nI (bs (stP h) i ||| (if stP h i then 2 ^ i else 0)), _)
      have : stP h i = true := decide_eq_true (Int32.not_le.mp d)
      simp [this]
/-- sum of might -/
def sm (h : z_G) : Nat → Int32
  | 0 => 0
  | p + 1 => sm h p + h 5 p
theorem s_mightOfAll {n k : Nat} {h : z_G} {K : Int32 → Prop} (H : HI n k h) (hK : K (sm h n)) : v_X1_mightOfAll h K := by
  obtain ⟨h1, h2, h3, h4, h5, h6, h7, h8⟩ := H
  unfold v_X1_mightOfAll v_X1_mightOfAll_b4
  refine z_for n (fun i q => q = (sm h i, nI i)) ?_ (Nat.zero_le n) rfl
  rintro i ⟨x1, x2⟩ hi e Lp hL
  obtain ⟨rfl, rfl⟩ := Prod.mk.inj e
  show v_X1_mightOfAll_b4_s h K _ (sm h i) (nI i)
  unfold v_X1_mightOfAll_b4_s
  rw [h1]
  refine ⟨fun c => ?_, fun c => ?_⟩
  · have : i = n := by have := (nI_leI (by omega) (by omega)).mp c; omega
    subst this
    exact hK
  · have hlt : i < n := by
      rcases Nat.lt_or_ge i n with q | q
      · exact q
      · exact absurd (nI_le q (by omega)) c
    refine ⟨vp_in_nI (by omega) (by omega), ?_⟩
    intro y ey z ez
    refine hL (_, _) hlt ?_
    rw [ey, ez, nI_1, z_n_nI (show i < 2 ^ 31 by omega)]
    rfl
theorem s_lowestWith {n k : Nat} {h : z_G} {v : Int32} {K : Int32 → Prop} (H : HI n k h) (hK : K (loF (fun g => decide (h 10 g = v)) 0 k)) : v_X1_lowestWith h v K := by
  obtain ⟨h1, h2, h3, h4, h5, h6, h7, h8⟩ := H
  unfold v_X1_lowestWith v_X1_lowestWith_b2
  refine z_for k (fun i q => q = (v, nI i) ∧ loF (fun g => decide (h 10 g = v)) 0 k = loF (fun g => decide (h 10 g = v)) i (k - i)) ?_ (Nat.zero_le k) ⟨rfl, rfl⟩
  rintro i ⟨x1, x2⟩ hi ⟨e, hl⟩ Lp hL
  obtain ⟨rfl, rfl⟩ := Prod.mk.inj e
  show v_X1_lowestWith_b2_s h K _ x1 (nI i)
  unfold v_X1_lowestWith_b2_s
  rw [h2]
  refine ⟨fun c => ?_, fun c => ?_⟩
  · have : k ≤ i := (nI_leI (by omega) (by omega)).mp c
    rw [hl, show k - i = 0 by omega] at hK
    exact hK
  · have hlt : i < k := by
      rcases Nat.lt_or_ge i k with q | q
      · exact q
      · exact absurd (nI_le q (by omega)) c
    rw [show k - i = (k - (i + 1)) + 1 by omega] at hl
    rw [loF_s] at hl
    rw [z_n_nI (show i < 2 ^ 31 by omega)]
    refine ⟨vp_in_nI (by omega) (by omega), fun d => ?_, fun d => ?_⟩
    · intro y ey
      rw [if_neg (by simpa using d)] at hl
      exact hL (_, y) hlt ⟨by rw [ey, nI_1], hl⟩
    · rw [if_pos (by simpa using d)] at hl
      rw [hl] at hK
      exact hK
theorem s_isPerson {h : z_G} {x : Int32} {K : Int32 → Prop} (hK : K (bI (wi x 0 (h 0 0 - 1)))) : v_X1_isPerson h x K := s_within ⟨bI_b _, hK⟩
theorem s_isGlove {h : z_G} {x : Int32} {K : Int32 → Prop} (hK : K (bI (wi x 0 (h 0 1 - 1)))) : v_X1_isGlove h x K := s_within ⟨bI_b _, hK⟩
theorem s_isOut {h : z_G} {p : Nat} {K : Int32 → Prop} (hp : p < 6) (hK : K (bI (decide (h 5 p = 0)))) : v_X1_isOut h (nI p) K := by
  unfold v_X1_isOut
  rw [z_n_nI (show p < 2 ^ 31 by omega)]
  exact ⟨vp_in_nI hp (by omega), fun c => kF hK (by simp [c]), fun c => kT hK (by simp [c])⟩
def ta (h : z_G) (b i : Nat) : z_G := z_sa h 10 (fun g => if g < i ∧ b.testBit g = true then 0 else h 10 g)
theorem ta_10 (h : z_G) (b i j : Nat) : ta h b i 10 j = if j < i ∧ b.testBit j = true then 0 else h 10 j := by
  unfold ta; rw [z_sa_same]
theorem ta_ne (h : z_G) (b i c : Nat) (hc : c ≠ 10) : ta h b i c = h c := z_sa_ne hc
theorem ta_0 (h : z_G) (b : Nat) : ta h b 0 = h := by
  funext c j
  by_cases hc : c = 10
  · subst hc; rw [ta_10]; simp
  · rw [ta_ne _ _ _ _ hc]
theorem ta_yes {h : z_G} {b i : Nat} (e : b.testBit i = true) : z_ss (ta h b i) 10 i 0 = ta h b (i + 1) := by
  funext c j
  rw [z_ss_rd]
  by_cases hc : c = 10
  · subst hc
    rw [ta_10, ta_10]
    by_cases hj : j = i
    · subst hj; simp [e]
    · by_cases h1 : j < i
      · have : j < i + 1 := by omega
        simp [hj, h1, this]
      · have : ¬ j < i + 1 := by omega
        simp [hj, h1, this]
  · rw [if_neg (fun q => hc q.1), ta_ne _ _ _ _ hc, ta_ne _ _ _ _ hc]
theorem ta_no {h : z_G} {b i : Nat} (e : ¬ b.testBit i = true) : ta h b i = ta h b (i + 1) := by
  funext c j
  by_cases hc : c = 10
  · subst hc
    rw [ta_10, ta_10]
    by_cases hj : j = i
    · subst hj; simp [e]
    · by_cases h1 : j < i
      · have : j < i + 1 := by omega
        simp [h1, this]
      · have : ¬ j < i + 1 := by omega
        simp [h1, this]
  · rw [ta_ne _ _ _ _ hc, ta_ne _ _ _ _ hc]
theorem HI_ta {n k : Nat} {h : z_G} (H : HI n k h) (b i : Nat) : HI n k (ta h b i) := by
  unfold HI
  rw [ta_ne _ _ _ _ (show 0 ≠ 10 by decide), ta_ne _ _ _ _ (show 9 ≠ 10 by decide), ta_ne _ _ _ _ (show 5 ≠ 10 by decide), ta_ne _ _ _ _ (show 8 ≠ 10 by decide)]
  obtain ⟨h1, h2, h3, h4, h5, h6, h7, h8⟩ := H
  refine ⟨h1, h2, h3, h4, h5, fun g hg => ?_, h7, h8⟩
  rw [ta_10]
  split
  · exact Or.inl rfl
  · exact h6 g hg
theorem s_takeAway {n k b : Nat} {h : z_G} {K : z_G → Prop} (H : HI n k h) (hb : b < 2 ^ 31) (hK : K (ta h b k)) : v_X1_takeAway h (nI b) K := by
  obtain ⟨h1, h2, h3, h4, h5, h6, h7, h8⟩ := H
  unfold v_X1_takeAway v_X1_takeAway_b2
  refine z_for k (fun i q => q = (ta h b i, nI b, nI i)) ?_ (Nat.zero_le k) (by rw [ta_0]; rfl)
  rintro i ⟨h', x1, x2⟩ hi e Lp hL
  obtain ⟨rfl, e2⟩ := Prod.mk.inj e
  obtain ⟨rfl, rfl⟩ := Prod.mk.inj e2
  show v_X1_takeAway_b2_s K _ (ta h b i) (nI b) (nI i)
  unfold v_X1_takeAway_b2_s
  rw [ta_ne _ _ _ _ (show 0 ≠ 10 by decide), h2]
  refine ⟨fun c => ?_, fun c => ?_⟩
  · have : i = k := by have := (nI_leI (by omega) (by omega)).mp c; omega
    subst this
    exact hK
  · have hlt : i < k := by
      rcases Nat.lt_or_ge i k with q | q
      · exact q
      · exact absurd (nI_le q (by omega)) c
    rw [bit_nI hb (by omega), z_n_nI (show i < 2 ^ 31 by omega)]
    refine ⟨fun d => ?_, fun d => ⟨vp_in_nI (by omega) (by omega), ?_⟩⟩
    · intro z ez
      refine hL (_, _, _) hlt ?_
      rw [ez, nI_1, ta_no d]
    · intro h5 e5 z ez
      refine hL (_, _, _) hlt ?_
      rw [ez, nI_1, e5, ta_yes d]
def mbt (h : z_G) (p g : Nat) : Int32 := if h 5 (z_n (h 9 g)) = 0 then h 5 p else mbf (h 5 p) (h 5 (z_n (h 9 g)))
theorem s_mbt {h : z_G} {p g q : Nat} {K : Int32 → Prop} (hp : p < 6) (hg : g < 8) (hq : h 9 g = nI q) (hq6 : q < 6) (hK : K (mbt h p g)) : v_X1_mightByTaking h (nI p) (nI g) K := by
  unfold v_X1_mightByTaking
  unfold mbt at hK
  rw [z_n_nI (show g < 2 ^ 31 by omega), z_n_nI (show p < 2 ^ 31 by omega), hq, z_n_nI (show q < 2 ^ 31 by omega)]
  rw [hq, z_n_nI (show q < 2 ^ 31 by omega)] at hK
  refine ⟨vp_in_nI hg (by omega), vp_in_nI hq6 (by omega), ?_⟩
  intro y ey
  subst ey
  refine ⟨fun c => ⟨vp_in_nI hp (by omega), s_mbf ?_⟩, fun c => ⟨vp_in_nI hp (by omega), ?_⟩⟩
  · rw [if_neg c] at hK; exact hK
  · rw [if_pos c] at hK; exact hK
/-- the owners that takers reach, as bits -/
def OW (h : z_G) (T k i j W : Nat) : Prop := W < 64 ∧ ∀ o, W.testBit o = true ↔ ∃ p g, (p < i ∧ g < k ∨ p = i ∧ g < j) ∧ T.testBit p = true ∧ can h p g = true ∧ h 9 g = nI o ∧ o < 6
theorem OW_no {h : z_G} {T k i j W : Nat} (H : OW h T k i j W) (hn : ¬ (T.testBit i = true ∧ can h i j = true)) : OW h T k i (j + 1) W := by
  refine ⟨H.1, fun o => (H.2 o).trans ⟨?_, ?_⟩⟩
  · rintro ⟨p, g, h1, h2⟩
    exact ⟨p, g, by omega, h2⟩
  · rintro ⟨p, g, h1, h2, h3, h4⟩
    refine ⟨p, g, ?_, h2, h3, h4⟩
    rcases h1 with h1 | ⟨e1, h1⟩
    · exact Or.inl h1
    · right
      refine ⟨e1, ?_⟩
      rcases Nat.lt_or_ge g j with q | q
      · exact q
      · have : g = j := by omega
        subst this; subst e1
        exact absurd ⟨h2, h3⟩ hn
theorem OW_yes {h : z_G} {T k i j W q : Nat} (H : OW h T k i j W) (h1 : T.testBit i = true) (h2 : can h i j = true) (h3 : h 9 j = nI q) (hq : q < 6) : OW h T k i (j + 1) (W ||| 2 ^ q) := by
  refine ⟨Nat.or_lt_two_pow (n := 6) H.1 (Nat.pow_lt_pow_right (by omega) (by omega)), fun o => ?_⟩
  rw [Nat.testBit_or, Bool.or_eq_true, H.2 o, Nat.testBit_two_pow, decide_eq_true_iff]
  constructor
  · rintro (⟨p, g, a1, a2⟩ | rfl)
    · exact ⟨p, g, by omega, a2⟩
    · exact ⟨i, j, Or.inr ⟨rfl, by omega⟩, h1, h2, h3, hq⟩
  · rintro ⟨p, g, a1, a2, a3, a4, a5⟩
    rcases a1 with a1 | ⟨e1, a1⟩
    · exact Or.inl ⟨p, g, Or.inl a1, a2, a3, a4, a5⟩
    · rcases Nat.lt_or_ge g j with r | r
      · exact Or.inl ⟨p, g, Or.inr ⟨e1, r⟩, a2, a3, a4, a5⟩
      · have : g = j := by omega
        subst this
        right
        rw [h3] at a4
        exact (nI_eq (by omega) (by omega)).mp a4
theorem OW_one {h : z_G} {T k i W W' : Nat} (H : OW h T k i 0 W) (H' : OW h T k i 0 W') : W = W' := by
  apply Nat.eq_of_testBit_eq
  intro o
  have e := (H.2 o).trans (H'.2 o).symm
  cases h1 : W.testBit o <;> cases h2 : W'.testBit o <;> simp_all
theorem s_owners {n k T : Nat} {h : z_G} {K : Int32 → Prop} (H : HI n k h) (hT : T < 2 ^ 31) (hK : ∀ W, OW h T k n 0 W → K (nI W)) : v_X1_ownersWithin h (nI T) K := by
  obtain ⟨h1, h2, h3, h4, h5, h6, h7, h8⟩ := H
  unfold v_X1_ownersWithin v_X1_ownersWithin_b4
  refine z_for n (fun i q => ∃ W, q = (nI T, nI W, nI i) ∧ OW h T k i 0 W) ?_ (Nat.zero_le n) ⟨0, rfl, by decide, fun o => by simp⟩
  rintro i ⟨x1, x2, x3⟩ hi ⟨W, e, hW⟩ Lp hL
  obtain ⟨rfl, e2⟩ := Prod.mk.inj e
  obtain ⟨rfl, rfl⟩ := Prod.mk.inj e2
  show v_X1_ownersWithin_b4_s h K _ (nI T) (nI W) (nI i)
  unfold v_X1_ownersWithin_b4_s
  rw [h1]
  refine ⟨fun c => ?_, fun c => ?_⟩
  · have : i = n := by have := (nI_leI (by omega) (by omega)).mp c; omega
    subst this
    exact hK W hW
  · have hlt : i < n := by
      rcases Nat.lt_or_ge i n with q | q
      · exact q
      · exact absurd (nI_le q (by omega)) c
    unfold v_X1_ownersWithin_b15
    refine z_for k (fun j q => ∃ W, q = (nI T, nI W, nI i, nI j) ∧ OW h T k i j W) ?_ (Nat.zero_le k) ⟨W, rfl, hW⟩
    rintro j ⟨x1, x2, x3, x4⟩ hj ⟨W, e, hW⟩ Lq hM
    obtain ⟨rfl, e2⟩ := Prod.mk.inj e
    obtain ⟨rfl, e3⟩ := Prod.mk.inj e2
    obtain ⟨rfl, rfl⟩ := Prod.mk.inj e3
    show v_X1_ownersWithin_b15_s h K _ _ (nI T) (nI W) (nI i) (nI j)
    unfold v_X1_ownersWithin_b15_s
    rw [h2]
    refine ⟨fun c => ?_, fun c => ?_⟩
    · have : j = k := by have := (nI_leI (by omega) (by omega)).mp c; omega
      subst this
      intro y ey
      refine hL (_, _, _) hlt ⟨W, by rw [ey, nI_1], hW.1, fun o => (hW.2 o).trans ⟨?_, ?_⟩⟩
      · rintro ⟨p, g, a1, a2⟩
        exact ⟨p, g, by omega, a2⟩
      · rintro ⟨p, g, a1, a2⟩
        exact ⟨p, g, by omega, a2⟩
    · have hlj : j < k := by
        rcases Nat.lt_or_ge j k with q | q
        · exact q
        · exact absurd (nI_le q (by omega)) c
      rw [bit_nI hT (by omega)]
      refine ⟨fun d => ?_, fun d => s_can (by omega) (by omega) (br0 (fun w => ?_) (fun w => ⟨vp_in_nI (by omega) (by omega), ?_⟩))⟩
      · intro y ey
        exact hM (_, _, _, _) hlj ⟨W, by rw [ey, nI_1], OW_no hW (fun q => d q.1)⟩
      · intro y ey
        exact hM (_, _, _, _) hlj ⟨W, by rw [ey, nI_1], OW_no hW (fun q => by rw [w] at q; exact absurd q.2 (by decide))⟩
      · intro y ey z ez
        obtain ⟨q, hq, eq⟩ := h5 j hlj
        rw [z_n_nI (show j < 2 ^ 31 by omega), eq, shl1 (by omega), nI_or] at ey
        exact hM (_, _, _, _) hlj ⟨W ||| 2 ^ q, by rw [ey, ez, nI_1], OW_yes hW d w eq (by omega)⟩
