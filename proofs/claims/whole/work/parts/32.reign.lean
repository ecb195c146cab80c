/-! ===== PURE: a reign ===== -/
theorem z_ss_rd (h : z_G) (c j : Nat) (v : Int32) (c' j' : Nat) : z_ss h c j v c' j' = if c' = c ∧ j' = j then v else h c' j' := by
  unfold z_ss z_sa upd
  by_cases h1 : c' = c <;> by_cases h2 : j' = j <;> simp [h1, h2]
theorem z_sa_rd (h : z_G) (c : Nat) (f : Nat → Int32) (c' j' : Nat) : z_sa h c f c' j' = if c' = c then f j' else h c' j' := by
  unfold z_sa
  by_cases h1 : c' = c <;> simp [h1]
theorem wr_cell (h : z_G) (p g c : Nat) (h0 : c ≠ 0) (h5 : c ≠ 5) (h10 : c ≠ 10) (h12 : c ≠ 12) : wr h p g c = h c := by
  unfold wr
  split <;> simp only [z_ss_ne h0, z_ss_ne h5, z_ss_ne h10, z_ss_ne h12]
theorem wr_0 (h : z_G) (p g j : Nat) (hj : j ≠ 3) : wr h p g 0 j = h 0 j := by
  unfold wr
  split <;> simp [z_ss_rd, hj]
theorem wr_03 (h : z_G) (p g : Nat) : wr h p g 0 3 = if h 5 (z_n (h 9 g)) = 0 then h 0 3 else h 0 3 + 1 := by
  unfold wr
  split <;> simp [z_ss_rd]
theorem wr_10 (h : z_G) (p g j : Nat) : wr h p g 10 j = if j = g then 0 else h 10 j := by
  unfold wr
  split <;> simp [z_ss_rd]
theorem wr_12 (h : z_G) (p g j : Nat) : wr h p g 12 j = if j = g then nI p else h 12 j := by
  unfold wr
  split <;> simp [z_ss_rd]
theorem wr_5 (h : z_G) (p g j : Nat) : wr h p g 5 j = if h 5 (z_n (h 9 g)) = 0 then h 5 j else if j = z_n (h 9 g) then mbf (h 5 (z_n (h 9 g))) (h 5 p) else if j = p then mbf (h 5 p) (h 5 (z_n (h 9 g))) else h 5 j := by
  unfold wr
  split <;> simp [z_ss_rd]
theorem HI_wr {n k p g : Nat} {h : z_G} (H : HI n k h) (hp : p < n) (hg : g < k) : HI n k (wr h p g) := by
  obtain ⟨h1, h2, h3, h4, h5, h6, h7, h8⟩ := H
  obtain ⟨q, hq, eq⟩ := h5 g hg
  have zq : z_n (h 9 g) = q := by rw [eq]; exact z_n_nI (by omega)
  refine ⟨by rw [wr_0 _ _ _ _ (by decide)]; exact h1, by rw [wr_0 _ _ _ _ (by decide)]; exact h2, h3, h4, fun x hx => ?_, fun x hx => ?_, fun x hx => ?_, fun x hx => ?_⟩
  · rw [wr_cell _ _ _ _ (by decide) (by decide) (by decide) (by decide)]; exact h5 x hx
  · rw [wr_10]
    split
    · exact Or.inl rfl
    · exact h6 x hx
  · rw [wr_5, zq]
    obtain ⟨a, ha, ea⟩ := h7 p hp
    obtain ⟨b, hb, eb⟩ := h7 q hq
    split
    · exact h7 x hx
    · split
      · rw [ea, eb]
        obtain ⟨c, hc, ec, -⟩ := mbf_nI hb ha
        exact ⟨c, hc, ec⟩
      · split
        · rw [ea, eb]
          obtain ⟨c, hc, ec, -⟩ := mbf_nI ha hb
          exact ⟨c, hc, ec⟩
        · exact h7 x hx
  · rw [wr_cell _ _ _ _ (by decide) (by decide) (by decide) (by decide)]; exact h8 x hx
/-- which glove one takes up in a reign, or -4 -/
def tg (k : Nat) (h : z_G) (p : Nat) : Int32 := if h 6 p = 1 ∧ 0 < h 5 p then low h p k else -4
theorem tg_cases (k : Nat) (h : z_G) (p : Nat) : tg k h p = -4 ∨ ∃ g, g < k ∧ can h p g = true ∧ tg k h p = nI g := by
  unfold tg
  split
  · rcases loF_cases (can h p) k 0 with ⟨e, -⟩ | ⟨g, -, h2, h3, h4⟩
    · exact Or.inl e
    · exact Or.inr ⟨g, by omega, h3, h4⟩
  · exact Or.inl rfl
def P1 (k : Nat) (h : z_G) (p : Nat) : z_G := if tg k h p = -4 then h else wr h p (z_n (tg k h p))
theorem HI_P1 {n k p : Nat} {h : z_G} (H : HI n k h) (hp : p < n) : HI n k (P1 k h p) := by
  unfold P1
  rcases tg_cases k h p with e | ⟨g, hg, -, e⟩
  · rw [if_pos e]; exact H
  · have hk := H.2.2.2.1
    rw [if_neg (by rw [e]; exact nI_ne4 (by omega)), e, z_n_nI (by omega)]
    exact HI_wr H hp hg
def perL (k : Nat) (h : z_G) : Nat → z_G
  | 0 => h
  | p + 1 => P1 k (perL k h p) p
def anyT (k : Nat) (h : z_G) : Nat → Bool
  | 0 => false
  | p + 1 => anyT k h p || decide (¬ tg k (perL k h p) p = -4)
theorem HI_perL {n k : Nat} {h : z_G} (H : HI n k h) : ∀ p, p ≤ n → HI n k (perL k h p)
  | 0, _ => H
  | p + 1, hp => HI_P1 (HI_perL H p (by omega)) (by omega)
def ag (h : z_G) (i : Nat) : z_G := z_sa h 11 (fun g => if g < i ∧ h 10 g = 1 then h 11 g + 1 else h 11 g)
theorem ag_0 (h : z_G) : ag h 0 = h := by
  funext c j
  unfold ag
  rw [z_sa_rd]
  split
  · rename_i e; simp [e]
  · rfl
theorem ag_ne (h : z_G) (i c : Nat) (hc : c ≠ 11) : ag h i c = h c := z_sa_ne hc
theorem ag_11 (h : z_G) (i j : Nat) : ag h i 11 j = if j < i ∧ h 10 j = 1 then h 11 j + 1 else h 11 j := by
  unfold ag
  rw [z_sa_same]
theorem ag_yes {h : z_G} {i : Nat} (e : h 10 i = 1) : z_ss (ag h i) 11 i (ag h i 11 i + 1) = ag h (i + 1) := by
  funext c j
  rw [z_ss_rd]
  by_cases hc : c = 11
  · subst hc
    rw [ag_11, ag_11, ag_11]
    by_cases hj : j = i
    · subst hj; simp [e]
    · by_cases h1 : j < i
      · have : j < i + 1 := by omega
        simp [hj, h1, this]
      · have : ¬ j < i + 1 := by omega
        simp [hj, h1, this]
  · rw [if_neg (fun q => hc q.1), ag_ne _ _ _ hc, ag_ne _ _ _ hc]
theorem ag_no {h : z_G} {i : Nat} (e : ¬ h 10 i = 1) : ag h i = ag h (i + 1) := by
  funext c j
  by_cases hc : c = 11
  · subst hc
    rw [ag_11, ag_11]
    by_cases hj : j = i
    · subst hj; simp [e]
    · by_cases h1 : j < i
      · have : j < i + 1 := by omega
        simp [h1, this]
      · have : ¬ j < i + 1 := by omega
        simp [h1, this]
  · rw [ag_ne _ _ _ hc, ag_ne _ _ _ hc]
def stl (h : z_G) : Nat → Bool
  | 0 => false
  | g + 1 => stl h g || (decide (h 10 g = 1) && decide (h 7 g = 3))
def rgn (n k : Nat) (h : z_G) : z_G := z_ss (ag (perL k h n) k) 0 2 (perL k h n 0 2 + 1)
def mvg (n k : Nat) (h : z_G) : Bool := anyT k h n || stl (perL k h n) k
theorem HI_ag {n k : Nat} {h : z_G} (H : HI n k h) (i : Nat) : HI n k (ag h i) := by
  unfold HI
  rw [ag_ne _ _ _ (by decide), ag_ne _ _ _ (by decide), ag_ne _ _ _ (by decide), ag_ne _ _ _ (by decide), ag_ne _ _ _ (by decide)]
  exact H
theorem HI_set0 {n k : Nat} {h : z_G} (H : HI n k h) (j : Nat) (hj : 2 ≤ j) (v : Int32) : HI n k (z_ss h 0 j v) := by
  unfold HI
  rw [z_ss_rd, z_ss_rd, if_neg (by omega), if_neg (by omega), z_ss_ne (show 9 ≠ 0 by decide), z_ss_ne (show 10 ≠ 0 by decide), z_ss_ne (show 5 ≠ 0 by decide), z_ss_ne (show 8 ≠ 0 by decide)]
  exact H
theorem HI_rgn {n k : Nat} {h : z_G} (H : HI n k h) : HI n k (rgn n k h) := HI_set0 (HI_ag (HI_perL H n (Nat.le_refl n)) k) 2 (by decide) _
theorem s_rgn2 {k : Nat} {h : z_G} {b : Bool} {K : Int32 → z_G → Prop} (hk : h 0 1 = nI k) (hk8 : k ≤ 8) (hK : K (bI (b || stl h k)) (z_ss (ag h k) 0 2 (h 0 2 + 1))) : v_X1_reignGoesBy_b64 K h (bI b) 0 := by
  unfold v_X1_reignGoesBy_b64
  refine z_for k (fun i q => q = (ag h i, bI (b || stl h i), nI i)) ?_ (Nat.zero_le k) (by rw [ag_0]; simp [stl]; rfl)
  rintro i ⟨h', x1, x2⟩ hi e Lp hL
  obtain ⟨rfl, e2⟩ := Prod.mk.inj e
  obtain ⟨rfl, rfl⟩ := Prod.mk.inj e2
  show v_X1_reignGoesBy_b64_s K _ (ag h i) (bI (b || stl h i)) (nI i)
  unfold v_X1_reignGoesBy_b64_s
  rw [ag_ne _ _ _ (show 0 ≠ 11 by decide), ag_ne _ _ _ (show 10 ≠ 11 by decide), hk]
  refine ⟨fun c => ?_, fun c => ?_⟩
  · have : i = k := by have := (nI_leI (by omega) (by omega)).mp c; omega
    subst this
    intro h3 e3
    exact ⟨bI_b _, kE2 hK rfl e3⟩
  · have hlt : i < k := by
      rcases Nat.lt_or_ge i k with q | q
      · exact q
      · exact absurd (nI_le q (by omega)) c
    have i8 : vp_in (nI i) 8 := vp_in_nI (by omega) (by omega)
    rw [z_n_nI (show i < 2 ^ 31 by omega)]
    refine ⟨i8, fun d => ?_, fun d => ⟨i8, i8, ?_⟩⟩
    · intro y ey
      refine hL (_, _, _) hlt ?_
      rw [ag_no d, ey, nI_1]
      simp [stl, d]
    · intro h9 e9
      rw [ag_yes d] at e9
      subst e9
      rw [ag_ne _ _ _ (show 7 ≠ 11 by decide)]
      refine ⟨fun w => ?_, fun w => ⟨i8, fun z => ?_, fun z => ?_⟩⟩
      · intro y ey
        refine hL (_, _, _) hlt ?_
        rw [ey, nI_1]
        have : (b || stl h i) = true := by
          cases hb : (b || stl h i)
          · rw [hb] at w; exact absurd rfl w
          · rfl
        have t2 : (b || stl h (i + 1)) = true := by
          unfold stl
          rw [← Bool.or_assoc, this]; rfl
        rw [t2]; rfl
      · intro y ey
        refine hL (_, _, _) hlt ?_
        rw [ey, nI_1]
        have t1 := (bI_0 _).mp w
        have t2 : (b || stl h (i + 1)) = false := by
          unfold stl
          rw [← Bool.or_assoc, t1]; simp [z]
        rw [t2]; rfl
      · intro y ey
        refine hL (_, _, _) hlt ?_
        rw [ey, nI_1]
        have t2 : (b || stl h (i + 1)) = true := by
          unfold stl
          rw [← Bool.or_assoc]; simp [d, z]
        rw [t2]; rfl
theorem s_rgn {n k : Nat} {h : z_G} {K : Int32 → z_G → Prop} (H : HI n k h) (hK : K (bI (mvg n k h)) (rgn n k h)) : v_X1_reignGoesBy h K := by
  unfold v_X1_reignGoesBy v_X1_reignGoesBy_b4
  refine z_for n (fun i q => q = (perL k h i, bI (anyT k h i), nI i)) ?_ (Nat.zero_le n) rfl
  rintro i ⟨h', x1, x2⟩ hi e Lp hL
  obtain ⟨rfl, e2⟩ := Prod.mk.inj e
  obtain ⟨rfl, rfl⟩ := Prod.mk.inj e2
  show v_X1_reignGoesBy_b4_s K _ (perL k h i) (bI (anyT k h i)) (nI i)
  unfold v_X1_reignGoesBy_b4_s
  have Hi := HI_perL H i hi
  obtain ⟨h1, h2, h3, h4, h5, h6, h7, h8⟩ := id Hi
  rw [h1]
  refine ⟨fun c => ?_, fun c => ?_⟩
  · have : i = n := by have := (nI_leI (by omega) (by omega)).mp c; omega
    subst this
    exact s_rgn2 h2 h4 hK
  · have hlt : i < n := by
      rcases Nat.lt_or_ge i n with q | q
      · exact q
      · exact absurd (nI_le q (by omega)) c
    have i6 : vp_in (nI i) 6 := vp_in_nI (by omega) (by omega)
    rw [z_n_nI (show i < 2 ^ 31 by omega)]
    have none : tg k (perL k h i) i = -4 → v_X1_reignGoesBy_b41 K (fun h x1 x2 => Lp (h, x1, x2)) (perL k h i) (bI (anyT k h i)) (nI i) (-4) := by
      intro ht
      unfold v_X1_reignGoesBy_b41
      refine ⟨fun _ => ?_, fun q => absurd rfl q⟩
      intro y ey
      refine hL (_, _, _) hlt ?_
      rw [ey, nI_1]
      show _ = (P1 k (perL k h i) i, bI (anyT k h i || decide (¬ tg k (perL k h i) i = -4)), _)
      unfold P1
      rw [if_pos ht, ht]
      simp
    refine ⟨i6, fun d => ?_, fun d => ⟨i6, fun w => ?_, fun w => s_low h2 h4 (by omega) ?_⟩⟩
    · unfold v_X1_reignGoesBy_b39
      exact none (by unfold tg; rw [if_neg (fun q => d q.1)])
    · unfold v_X1_reignGoesBy_b39
      exact none (by unfold tg; rw [if_neg (fun q => Int32.not_lt.mpr w q.2)])
    · have et : tg k (perL k h i) i = low (perL k h i) i k := by
        unfold tg
        rw [if_pos ⟨d, Int32.not_le.mp w⟩]
      rw [← et]
      rcases tg_cases k (perL k h i) i with e | ⟨g, hg, -, e⟩
      · rw [e]; exact none e
      · have hne : ¬ tg k (perL k h i) i = -4 := by rw [e]; exact nI_ne4 (by omega)
        unfold v_X1_reignGoesBy_b41
        refine ⟨fun q => absurd q hne, fun _ => ?_⟩
        rw [e]
        obtain ⟨q, hq, eq⟩ := h5 g hg
        refine s_wr (by omega) (by omega) eq (by omega) ?_
        intro y ey
        refine hL (_, _, _) hlt ?_
        rw [ey, nI_1]
        show _ = (P1 k (perL k h i) i, bI (anyT k h i || decide (¬ tg k (perL k h i) i = -4)), _)
        unfold P1
        rw [if_neg hne, e, z_n_nI (show g < 2 ^ 31 by omega)]
        have : decide (¬ nI g = (-4 : Int32)) = true := decide_eq_true (nI_ne4 (by omega))
        rw [this, Bool.or_true]
        rfl
