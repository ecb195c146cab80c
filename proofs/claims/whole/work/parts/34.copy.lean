/-! ===== PURE: counting bits, copies, gloves and people that come ===== -/
def pop (x : Nat) : Nat := x % 2 + x / 2 % 2 + x / 4 % 2 + x / 8 % 2 + x / 16 % 2 + x / 32 % 2 + x / 64 % 2 + x / 128 % 2
def us (x : Int32) (s : Int32) : Int32 := (x.toUInt32 >>> (s.toUInt32 &&& Int32.toUInt32 (31 : Int32))).toInt32
def bc1 (x : Int32) : Int32 := x - (us x 1 &&& 1431655765)
def bc2 (y : Int32) : Int32 := (y &&& 858993459) + (us y 2 &&& 858993459)
def bc3 (y : Int32) : Int32 := (y + us y 4) &&& 252645135
def bc4 (y : Int32) : Int32 := y + us y 8
def bc5 (y : Int32) : Int32 := y + us y 16
theorem bc_all : ∀ b, b < 256 → bc5 (bc4 (bc3 (bc2 (bc1 (nI b))))) &&& 63 = nI (pop b) := by decide +kernel
theorem s_bitCount {b : Nat} {K : Int32 → Prop} (hb : b < 256) (hK : K (nI (pop b))) : v_J6_bitCount_0f7a4 (nI b) K := by
  unfold v_J6_bitCount_0f7a4
  intro y1 e1 y2 e2 y3 e3 y4 e4 y5 e5
  have h1 : y1 = bc1 (nI b) := e1
  have h2 : y2 = bc2 y1 := e2
  have h3 : y3 = bc3 y2 := e3
  have h4 : y4 = bc4 y3 := e4
  have h5 : y5 = bc5 y4 := e5
  rw [h5, h4, h3, h2, h1, bc_all b hb]
  exact hK
theorem pop_step : ∀ b, b < 256 → 0 < b → pop b = pop (b &&& (b - 1)) + 1 := by decide +kernel
theorem and_pred_lt {b : Nat} (h : 0 < b) : b &&& (b - 1) < b := Nat.lt_of_le_of_lt Nat.and_le_right (by omega)
theorem s_ones {b : Nat} {K : Int32 → Prop} (hb : b < 256) (hK : K (nI (pop b))) : v_X6_ones (nI b) K := by
  unfold v_X6_ones v_X6_ones_b4
  refine z_fp_of (fun q => ∃ a x, q = (nI a, nI x) ∧ x ≤ b ∧ a + pop x = pop b) (fun q => z_n q.2) ?_ ⟨0, b, rfl, Nat.le_refl b, Nat.zero_add _⟩
  rintro ⟨x1, x2⟩ ⟨a, x, e, hx, hs⟩ Lp hL
  obtain ⟨rfl, rfl⟩ := Prod.mk.inj e
  show v_X6_ones_b4_s K _ (nI a) (nI x)
  unfold v_X6_ones_b4_s
  refine ⟨fun c => ?_, fun c => ?_⟩
  · have : x = 0 := (nI_eq (b := 0) (by omega) (by omega)).mp c
    subst this
    rw [show pop 0 = 0 from rfl, Nat.add_zero] at hs
    rw [hs]
    exact hK
  · have h0 : 0 < x := by
      rcases Nat.eq_zero_or_pos x with q | q
      · subst q; exact absurd rfl c
      · exact q
    intro y ey z ez
    have ez' : z = nI (x &&& (x - 1)) := by
      rw [ez, show (1 : Int32) = nI 1 from rfl, pk_sub (by omega), nI_and]
    have hl := and_pred_lt h0
    refine hL (_, _) ⟨a + 1, x &&& (x - 1), by rw [ey, ez', nI_1], by omega, ?_⟩ ?_
    · rw [pop_step x (by omega) h0] at hs
      omega
    · show z_n z < z_n (nI x)
      rw [ez', z_n_nI (by omega), z_n_nI (by omega)]
      exact hl
theorem pop_add : ∀ k, k < 8 → ∀ x, x < 2 ^ k → pop (x ||| 2 ^ k) = pop x + 1 := by decide +kernel
/-- how many below k have P -/
def cnt (P : Nat → Bool) : Nat → Nat
  | 0 => 0
  | g + 1 => cnt P g + (if P g then 1 else 0)
theorem pop_bs (P : Nat → Bool) : ∀ k, k ≤ 8 → pop (bs P k) = cnt P k
  | 0, _ => by simp [bs, cnt, pop]
  | k + 1, h => by
    unfold bs cnt
    by_cases hp : P k = true
    · rw [if_pos hp, if_pos hp, pop_add k (by omega) _ (bs_lt P k), pop_bs P k (by omega)]
    · rw [if_neg hp, if_neg hp, Nat.or_zero, pop_bs P k (by omega)]; rfl
theorem cnt_le (P : Nat → Bool) : ∀ k, cnt P k ≤ k
  | 0 => Nat.le_refl 0
  | k + 1 => by
    have := cnt_le P k
    unfold cnt
    split <;> omega
theorem cnt_not (P : Nat → Bool) : ∀ k, cnt P k + cnt (fun g => !P g) k = k
  | 0 => rfl
  | k + 1 => by
    have := cnt_not P k
    unfold cnt
    cases hp : P k <;> simp <;> omega
theorem cnt_cong {P Q : Nat → Bool} : ∀ {k : Nat}, (∀ j, j < k → P j = Q j) → cnt P k = cnt Q k
  | 0, _ => rfl
  | k + 1, h => by
    unfold cnt
    rw [cnt_cong (fun j hj => h j (by omega)), h k (by omega)]
/-- places of a hall that there are -/
def rel (c j : Nat) : Bool := decide ((c = 0 ∧ j < 4) ∨ (4 ≤ c ∧ c ≤ 6 ∧ j < 6) ∨ (7 ≤ c ∧ c ≤ 12 ∧ j < 8))
/-- nothing stands where no place is -/
def NF (h : z_G) : Prop := ∀ c j, rel c j = false → h c j = 0
theorem NF_ss {h : z_G} {c j : Nat} {v : Int32} (H : NF h) (hr : rel c j = true) : NF (z_ss h c j v) := by
  intro c' j' h'
  rw [z_ss_rd, if_neg]
  · exact H c' j' h'
  · rintro ⟨rfl, rfl⟩
    rw [hr] at h'; cases h'
theorem NF_sa {h : z_G} {c : Nat} {f : Nat → Int32} (H : NF h) (hf : ∀ j, rel c j = false → f j = 0) : NF (z_sa h c f) := by
  intro c' j' h'
  rw [z_sa_rd]
  split
  · rename_i e; subst e; exact hf j' h'
  · exact H c' j' h'
theorem rel_of {c j : Nat} (h : (c = 0 ∧ j < 4) ∨ (4 ≤ c ∧ c ≤ 6 ∧ j < 6) ∨ (7 ≤ c ∧ c ≤ 12 ∧ j < 8)) : rel c j = true := decide_eq_true h
theorem NF_wr {h : z_G} {p g q : Nat} (H : NF h) (hp : p < 6) (hg : g < 8) (hq : h 9 g = nI q) (hq6 : q < 6) : NF (wr h p g) := by
  unfold wr
  rw [hq, z_n_nI (show q < 2 ^ 31 by omega)]
  have a1 := NF_ss (v := 0) H (rel_of (c := 10) (j := g) (by omega))
  have a2 := NF_ss (v := nI p) a1 (rel_of (c := 12) (j := g) (by omega))
  split
  · exact a2
  · exact NF_ss (NF_ss (NF_ss a2 (rel_of (by omega))) (rel_of (by omega))) (rel_of (by omega))
theorem NF_ag {h : z_G} {i : Nat} (H : NF h) (hi : i ≤ 8) : NF (ag h i) := by
  refine NF_sa H (fun j hj => ?_)
  have : ¬ j < 8 := by
    intro h8
    rw [rel_of (by omega)] at hj; cases hj
  rw [if_neg (by omega)]
  exact H 11 j hj
theorem NF_ta {h : z_G} {b i : Nat} (H : NF h) (hi : i ≤ 8) : NF (ta h b i) := by
  refine NF_sa H (fun j hj => ?_)
  split
  · rfl
  · exact H 10 j hj
def HN (n k : Nat) (h : z_G) : Prop := HI n k h ∧ NF h
theorem HN_wr {n k p g : Nat} {h : z_G} (H : HN n k h) (hp : p < n) (hg : g < k) : HN n k (wr h p g) := by
  obtain ⟨H1, H2⟩ := H
  obtain ⟨q, hq, eq⟩ := H1.2.2.2.2.1 g hg
  have := H1.2.2.1
  have := H1.2.2.2.1
  exact ⟨HI_wr H1 hp hg, NF_wr H2 (by omega) (by omega) eq (by omega)⟩
theorem HN_P1 {n k p : Nat} {h : z_G} (H : HN n k h) (hp : p < n) : HN n k (P1 k h p) := by
  unfold P1
  rcases tg_cases k h p with e | ⟨g, hg, -, e⟩
  · rw [if_pos e]; exact H
  · have hk := H.1.2.2.2.1
    rw [if_neg (by rw [e]; exact nI_ne4 (by omega)), e, z_n_nI (by omega)]
    exact HN_wr H hp hg
theorem HN_perL {n k : Nat} {h : z_G} (H : HN n k h) : ∀ p, p ≤ n → HN n k (perL k h p)
  | 0, _ => H
  | p + 1, hp => HN_P1 (HN_perL H p (by omega)) (by omega)
theorem HN_rgn {n k : Nat} {h : z_G} (H : HN n k h) : HN n k (rgn n k h) := by
  refine ⟨HI_rgn H.1, ?_⟩
  exact NF_ss (NF_ag (HN_perL H n (Nat.le_refl n)).2 H.1.2.2.2.1) (rel_of (by omega))
theorem HN_ta {n k : Nat} {h : z_G} (H : HN n k h) (b : Nat) : HN n k (ta h b k) := ⟨HI_ta H.1 b k, NF_ta H.2 H.1.2.2.2.1⟩
theorem cp_s {Y Yi Yj : z_X} {o o2 k : Nat} {h : z_G} (hne : o2 ≠ o) (ei : Yi = z_up Y o h) (ej : Yj = z_up Yi o (z_ss (Yi o) 0 k (Yi o2 0 k))) : Yj = z_up Y o (z_ss h 0 k (Y o2 0 k)) := by
  rw [ej, ei, z_up_up, z_up_same, z_up_ne hne]
theorem cp_a {Y Yi Yj : z_X} {o o2 c m : Nat} {h : z_G} (hne : o2 ≠ o) (ei : Yi = z_up Y o h) (ej : Yj = z_up Yi o (z_sa (Yi o) c (va_cpy (Yi o2 c) (Yi o c) 0 0 m))) (hc : ∀ j, m ≤ j → h c j = Y o2 c j) : Yj = z_up Y o (z_sa h c (Y o2 c)) := by
  rw [ej, ei, z_up_up, z_up_same, z_up_ne hne]
  congr 2
  funext j
  unfold va_cpy
  by_cases hj : j < m
  · rw [if_pos ⟨Nat.zero_le _, by omega⟩, Nat.zero_add, Nat.sub_zero]
  · rw [if_neg (by omega)]
    exact hc j (by omega)
theorem s_copy {Y : z_X} {o o2 : Nat} {K : z_X → Prop} (hne : o2 ≠ o) (h1 : NF (Y o)) (h2 : NF (Y o2)) (hK : K (z_up Y o (Y o2))) : v_X1_copyFrom o o2 Y K := by
  unfold v_X1_copyFrom
  intro Y1 e1 Y2 e2 Y3 e3 Y4 e4 Y5 e5 Y6 e6 Y7 e7 Y8 e8 Y9 e9 Y10 e10 Y11 e11 Y12 e12 Y13 e13
  have nf : ∀ c j, rel c j = false → Y o c j = Y o2 c j := fun c j h => by rw [h1 c j h, h2 c j h]
  have r6 : ∀ c j, 4 ≤ c → c ≤ 6 → 6 ≤ j → Y o c j = Y o2 c j := fun c j a b d => nf c j (decide_eq_false (by omega))
  have r8 : ∀ c j, 7 ≤ c → c ≤ 12 → 8 ≤ j → Y o c j = Y o2 c j := fun c j a b d => nf c j (decide_eq_false (by omega))
  have a1 := e1
  have a2 := cp_s hne a1 e2
  have a3 := cp_s hne a2 e3
  have a4 := cp_s hne a3 e4
  have a5 := cp_a hne a4 e5 (fun j hj => by simp only [z_ss_rd, z_sa_rd]; simp; exact r6 4 j (by omega) (by omega) hj)
  have a6 := cp_a hne a5 e6 (fun j hj => by simp only [z_ss_rd, z_sa_rd]; simp; exact r6 5 j (by omega) (by omega) hj)
  have a7 := cp_a hne a6 e7 (fun j hj => by simp only [z_ss_rd, z_sa_rd]; simp; exact r6 6 j (by omega) (by omega) hj)
  have a8 := cp_a hne a7 e8 (fun j hj => by simp only [z_ss_rd, z_sa_rd]; simp; exact r8 7 j (by omega) (by omega) hj)
  have a9 := cp_a hne a8 e9 (fun j hj => by simp only [z_ss_rd, z_sa_rd]; simp; exact r8 8 j (by omega) (by omega) hj)
  have a10 := cp_a hne a9 e10 (fun j hj => by simp only [z_ss_rd, z_sa_rd]; simp; exact r8 9 j (by omega) (by omega) hj)
  have a11 := cp_a hne a10 e11 (fun j hj => by simp only [z_ss_rd, z_sa_rd]; simp; exact r8 10 j (by omega) (by omega) hj)
  have a12 := cp_a hne a11 e12 (fun j hj => by simp only [z_ss_rd, z_sa_rd]; simp; exact r8 11 j (by omega) (by omega) hj)
  have a13 := cp_a hne a12 e13 (fun j hj => by simp only [z_ss_rd, z_sa_rd]; simp; exact r8 12 j (by omega) (by omega) hj)
  rw [a13]
  refine kE hK ?_
  congr 1
  funext c j
  have out : ∀ c, (c ≠ 0 ∧ c ≠ 4 ∧ c ≠ 5 ∧ c ≠ 6 ∧ c ≠ 7 ∧ c ≠ 8 ∧ c ≠ 9 ∧ c ≠ 10 ∧ c ≠ 11 ∧ c ≠ 12) → Y o c = Y o2 c := fun c hc => by
    funext j
    exact nf c j (decide_eq_false (by omega))
  by_cases c12 : c = 12
  · subst c12; rw [z_sa_same]
  rw [z_sa_ne c12]
  by_cases c11 : c = 11
  · subst c11; rw [z_sa_same]
  rw [z_sa_ne c11]
  by_cases c10 : c = 10
  · subst c10; rw [z_sa_same]
  rw [z_sa_ne c10]
  by_cases c9 : c = 9
  · subst c9; rw [z_sa_same]
  rw [z_sa_ne c9]
  by_cases c8 : c = 8
  · subst c8; rw [z_sa_same]
  rw [z_sa_ne c8]
  by_cases c7 : c = 7
  · subst c7; rw [z_sa_same]
  rw [z_sa_ne c7]
  by_cases c6 : c = 6
  · subst c6; rw [z_sa_same]
  rw [z_sa_ne c6]
  by_cases c5 : c = 5
  · subst c5; rw [z_sa_same]
  rw [z_sa_ne c5]
  by_cases c4 : c = 4
  · subst c4; rw [z_sa_same]
  rw [z_sa_ne c4]
  by_cases c0 : c = 0
  · subst c0
    rw [z_ss_rd, z_ss_rd, z_ss_rd, z_ss_rd]
    by_cases j3 : j = 3
    · subst j3; simp
    by_cases j2 : j = 2
    · subst j2; simp
    by_cases j1 : j = 1
    · subst j1; simp
    by_cases j0 : j = 0
    · subst j0; simp
    simp [j0, j1, j2, j3]
    exact nf 0 j (decide_eq_false (by omega))
  rw [z_ss_ne c0, z_ss_ne c0, z_ss_ne c0, z_ss_ne c0, out c ⟨c0, c4, c5, c6, c7, c8, c9, c10, c11, c12⟩]
/-- a glove comes to a place -/
def pg (h : z_G) (g : Nat) (a b c : Int32) : z_G := z_ss (z_ss (z_ss (z_ss (z_ss (z_ss h 7 g a) 8 g b) 9 g c) 10 g 1) 11 g 0) 12 g (-4)
theorem s_putGlove {h : z_G} {g : Nat} {a b c : Int32} {K : z_G → Prop} (hg : g < 8) (hK : K (pg h g a b c)) : v_X1_putGlove h (nI g) a b c K := by
  unfold v_X1_putGlove
  rw [z_n_nI (show g < 2 ^ 31 by omega)]
  have i8 : vp_in (nI g) 8 := vp_in_nI hg (by omega)
  refine ⟨i8, ?_⟩
  intro h2 e2
  refine ⟨i8, ?_⟩
  intro h4 e4
  refine ⟨i8, ?_⟩
  intro h6 e6
  refine ⟨i8, ?_⟩
  intro h8 e8
  refine ⟨i8, ?_⟩
  intro h10 e10
  refine ⟨i8, ?_⟩
  intro h12 e12
  refine kE hK ?_
  rw [e12, e10, e8, e6, e4, e2]
  rfl
theorem NF_pg {h : z_G} {g : Nat} {a b c : Int32} (H : NF h) (hg : g < 8) : NF (pg h g a b c) := by
  unfold pg
  exact NF_ss (NF_ss (NF_ss (NF_ss (NF_ss (NF_ss H (rel_of (by omega))) (rel_of (by omega))) (rel_of (by omega))) (rel_of (by omega))) (rel_of (by omega))) (rel_of (by omega))
theorem pg_rd (h : z_G) (g : Nat) (a b c : Int32) (x j : Nat) : pg h g a b c x j = if j = g then (if x = 7 then a else if x = 8 then b else if x = 9 then c else if x = 10 then 1 else if x = 11 then 0 else if x = 12 then -4 else h x j) else h x j := by
  unfold pg
  simp only [z_ss_rd]
  by_cases hj : j = g
  · subst hj
    by_cases h12 : x = 12
    · subst h12; simp
    by_cases h11 : x = 11
    · subst h11; simp
    by_cases h10 : x = 10
    · subst h10; simp
    by_cases h9 : x = 9
    · subst h9; simp
    by_cases h8 : x = 8
    · subst h8; simp
    by_cases h7 : x = 7
    · subst h7; simp
    simp [h12, h11, h10, h9, h8, h7]
  · simp [hj]
theorem pg_0 (h : z_G) (g : Nat) (a b c : Int32) (x : Nat) (hx : x < 7) : pg h g a b c x = h x := by
  funext j
  rw [pg_rd]
  split
  · rw [if_neg (by omega), if_neg (by omega), if_neg (by omega), if_neg (by omega), if_neg (by omega), if_neg (by omega)]
  · rfl
/-- a further glove -/
def ng (h : z_G) (k : Nat) (a b c : Int32) : z_G := pg (z_ss h 0 1 (nI (k + 1))) k a b c
theorem HN_ng {n k s q : Nat} {h : z_G} {a : Int32} (H : HN n k h) (hk : k < 8) (hs : 1 ≤ s) (hs2 : s ≤ 20) (hq : q < n) : HN n (k + 1) (ng h k a (nI s) (nI q)) := by
  obtain ⟨⟨h1, h2, h3, h4, h5, h6, h7, h8⟩, H2⟩ := H
  refine ⟨⟨?_, ?_, h3, by omega, fun g hg => ?_, fun g hg => ?_, fun p hp => ?_, fun g hg => ?_⟩, NF_pg (NF_ss H2 (rel_of (by omega))) hk⟩
  · unfold ng; rw [pg_0 _ _ _ _ _ _ (by decide), z_ss_rd]; simp [h1]
  · unfold ng; rw [pg_0 _ _ _ _ _ _ (by decide), z_ss_rd]; simp
  · unfold ng; rw [pg_rd]
    split
    · exact ⟨q, hq, by simp⟩
    · rw [z_ss_rd]; simp; exact h5 g (by omega)
  · unfold ng; rw [pg_rd]
    split
    · simp [z_b]
    · rw [z_ss_rd]; simp; exact h6 g (by omega)
  · unfold ng; rw [pg_0 _ _ _ _ _ _ (by decide), z_ss_rd]; simp; exact h7 p hp
  · unfold ng; rw [pg_rd]
    split
    · exact ⟨s, hs, hs2, by simp⟩
    · rw [z_ss_rd]; simp; exact h8 g (by omega)
def okG (n k : Nat) (a b c : Int32) : Bool := decide (k < 8) && (wi a 0 3 && (wi b 1 20 && wi c 0 (nI n - 1)))
theorem s_addGlove {n k : Nat} {h : z_G} {a b c : Int32} {K : Int32 → z_G → Prop} (hn : h 0 0 = nI n) (hk : h 0 1 = nI k) (hk8 : k ≤ 8) (hF : okG n k a b c = false → K 0 h) (hT : okG n k a b c = true → K 1 (ng h k a b c)) : v_X1_addGlove h a b c K := by
  unfold v_X1_addGlove
  rw [hk, show (8 : Int32) = nI 8 from rfl]
  unfold okG at hF hT
  refine ⟨fun d => ?_, fun d => s_within (br0 (fun w => ?_) (fun w => s_within (br0 (fun z => ?_) (fun z => s_isPerson (br1 (fun u => ?_) (fun u => ?_))))))⟩
  · have : 8 ≤ k := (nI_leI (by omega) (by omega)).mp d
    exact hF (by have : ¬ k < 8 := by omega
                 simp [this])
  · exact hF (by simp [w])
  · exact hF (by simp [z])
  · have hlt : k < 8 := by
      rcases Nat.lt_or_ge k 8 with q | q
      · exact q
      · exact absurd (nI_le q (by omega)) d
    rw [hn] at u
    have hK := hT (by simp [hlt, w, z, u])
    intro h8 e8
    have e9 : h8 0 1 = nI (k + 1) := by rw [e8, z_ss_rd, hk, nI_1]; simp
    rw [e9, nI_pred]
    refine s_putGlove hlt ?_
    refine kE2 hK rfl ?_
    unfold ng
    rw [e8, nI_1]
  · rw [hn] at u
    exact hF (by simp [u])
/-- a further person -/
def np (h : z_G) (n : Nat) (a b c : Int32) : z_G := z_ss (z_ss (z_ss (z_ss h 4 n a) 5 n b) 6 n c) 0 0 (nI (n + 1))
def okP (n : Nat) (a b c : Int32) : Bool := decide (n < 6) && (wi a 1 20 && (wi b 1 40 && wi c 0 1))
theorem HN_np {n k m : Nat} {h : z_G} {a c : Int32} (H : HN n k h) (hn : n < 6) (hm2 : m ≤ 40) : HN (n + 1) k (np h n a (nI m) c) := by
  obtain ⟨⟨h1, h2, h3, h4, h5, h6, h7, h8⟩, H2⟩ := H
  unfold np
  refine ⟨⟨?_, ?_, by omega, h4, fun g hg => ?_, fun g hg => ?_, fun p hp => ?_, fun g hg => ?_⟩, NF_ss (NF_ss (NF_ss (NF_ss H2 (rel_of (by omega))) (rel_of (by omega))) (rel_of (by omega))) (rel_of (by omega))⟩
  · simp [z_ss_rd]
  · simp [z_ss_rd]; exact h2
  · obtain ⟨q, hq, e⟩ := h5 g hg
    exact ⟨q, by omega, by simp [z_ss_rd]; exact e⟩
  · simp [z_ss_rd]; exact h6 g hg
  · simp [z_ss_rd]
    split
    · exact ⟨m, hm2, rfl⟩
    · exact h7 p (by omega)
  · simp [z_ss_rd]; exact h8 g hg
theorem s_addPerson {n : Nat} {h : z_G} {a b c : Int32} {K : Int32 → z_G → Prop} (hn : h 0 0 = nI n) (hn6 : n ≤ 6) (hF : okP n a b c = false → K 0 h) (hT : okP n a b c = true → K 1 (np h n a b c)) : v_X1_addPerson h a b c K := by
  unfold v_X1_addPerson
  rw [hn, show (6 : Int32) = nI 6 from rfl]
  unfold okP at hF hT
  refine ⟨fun d => ?_, fun d => s_within (br0 (fun w => ?_) (fun w => s_within (br0 (fun z => ?_) (fun z => s_within (br1 (fun u => ?_) (fun u => ?_))))))⟩
  · have : 6 ≤ n := (nI_leI (by omega) (by omega)).mp d
    exact hF (by have : ¬ n < 6 := by omega
                 simp [this])
  · exact hF (by simp [w])
  · exact hF (by simp [z])
  · have hlt : n < 6 := by
      rcases Nat.lt_or_ge n 6 with q | q
      · exact q
      · exact absurd (nI_le q (by omega)) d
    have hK := hT (by simp [hlt, w, z, u])
    have i6 : vp_in (nI n) 6 := vp_in_nI hlt (by omega)
    have zn : z_n (nI n) = n := z_n_nI (by omega)
    rw [zn]
    refine ⟨i6, ?_⟩
    intro h9 e9
    have q9 : h9 0 0 = nI n := by rw [e9, z_ss_rd]; simp; exact hn
    rw [q9, zn]
    refine ⟨i6, ?_⟩
    intro h11 e11
    have q11 : h11 0 0 = nI n := by rw [e11, z_ss_rd]; simp; exact q9
    rw [q11, zn]
    refine ⟨i6, ?_⟩
    intro h13 e13 h14 e14
    have q13 : h13 0 0 = nI n := by rw [e13, z_ss_rd]; simp; exact q11
    refine kE2 hK rfl ?_
    rw [e14, q13, nI_1, e13, e11, e9]
    rfl
  · exact hF (by simp [u])
/-- no people, no gloves -/
def em (h : z_G) : z_G := z_ss (z_ss (z_ss (z_ss h 0 0 0) 0 1 0) 0 2 0) 0 3 0
theorem s_empty {h : z_G} {K : z_G → Prop} (hK : K (em h)) : v_X1_empty h K := by
  unfold v_X1_empty
  intro h1 e1 h2 e2 h3 e3 h4 e4
  refine kE hK ?_
  rw [e4, e3, e2, e1]
  rfl
theorem HN_em {h : z_G} (H : NF h) : HN 0 0 (em h) := by
  unfold em
  refine ⟨⟨by simp [z_ss_rd]; rfl, by simp [z_ss_rd]; rfl, by omega, by omega, fun g hg => by omega, fun g hg => by omega, fun g hg => by omega, fun g hg => by omega⟩, NF_ss (NF_ss (NF_ss (NF_ss H (rel_of (by omega))) (rel_of (by omega))) (rel_of (by omega))) (rel_of (by omega))⟩
