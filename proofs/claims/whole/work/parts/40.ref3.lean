/-! ===== PURE: the reference's draws, whether a glove is taken up by one, rows noted and kept ===== -/
theorem r_lowestThat {n k : Nat} {h G : z_G} {b : Bool} {K : Int32 → Prop} (H : HI n k h) (R : RR n k h (G 6)) (hK : K (loF (fun g => lyP h g == b) 0 k)) : v_X6_lowestThat G (bI b) K := by
  obtain ⟨r0, r1, r2, r3, r4, r5⟩ := R
  have hk8 := H.2.2.2.1
  have hb := bs_256 H
  unfold v_X6_lowestThat
  rw [zn2, r2]
  refine ⟨vi (a := 2) (by omega) (by omega), ?_⟩
  intro y ey
  subst ey
  unfold v_X6_lowestThat_b12
  refine z_for k (fun i q => q = (bI b, loF (fun g => lyP h g == b) (k - i) i, nI (k - i) - 1)) ?_ (Nat.zero_le k) rfl
  rintro i ⟨x1, x2, x3⟩ hi e Lp hL
  obtain ⟨rfl, e2⟩ := Prod.mk.inj e
  obtain ⟨rfl, rfl⟩ := Prod.mk.inj e2
  show v_X6_lowestThat_b12_s G K _ (bI b) (loF (fun g => lyP h g == b) (k - i) i) (nI (k - i) - 1)
  unfold v_X6_lowestThat_b12_s
  refine ⟨fun c => ?_, fun c => ?_⟩
  · have : i = k := by
      rcases Nat.lt_or_ge i k with q | q
      · rw [show k - i = (k - i - 1) + 1 by omega, nI_pred] at c
        exact absurd c (nI_pos (by omega))
      · omega
    subst this
    rw [Nat.sub_self]
    exact hK
  · have hlt : i < k := by
      rcases Nat.lt_or_ge i k with q | q
      · exact q
      · rw [show k - i = 0 by omega] at c
        exact absurd (by decide) c
    have ex : nI (k - i) - 1 = nI (k - i - 1) := by rw [show k - i = (k - i - 1) + 1 by omega, nI_pred]; rfl
    have es : loF (fun g => lyP h g == b) (k - (i + 1)) (i + 1) = if (lyP h (k - i - 1) == b) = true then nI (k - i - 1) else loF (fun g => lyP h g == b) (k - i) i := by
      rw [show k - (i + 1) = k - i - 1 by omega, loF_s, show k - i - 1 + 1 = k - i by omega]
    rw [ex, zn3, r3]
    refine ⟨vi (a := 3) (by omega) (by omega), s_has (by omega) (by omega) ?_⟩
    rw [bs_bit]
    have hd : (decide (k - i - 1 < k) && lyP h (k - i - 1)) = lyP h (k - i - 1) := by
      have : k - i - 1 < k := by omega
      simp [this]
    rw [hd]
    refine ⟨fun w => ?_, fun w => ?_⟩
    · intro y ey
      refine hL (_, _, _) hlt ?_
      have : ¬ (lyP h (k - i - 1) == b) = true := by
        intro q
        rw [beq_iff_eq] at q
        exact w (by rw [q])
      rw [es, if_neg this, ey, m1, show k - (i + 1) = k - i - 1 by omega]
    · intro y ey
      refine hL (_, _, _) hlt ?_
      have : (lyP h (k - i - 1) == b) = true := by
        rw [beq_iff_eq]
        cases h1 : lyP h (k - i - 1) <;> cases b <;> simp_all [bI]
      rw [es, if_pos this, ey, m1, show k - (i + 1) = k - i - 1 by omega]
theorem ss_self (h : z_G) (c j : Nat) : z_ss h c j (h c j) = h := by
  funext a b
  rw [z_ss_rd]
  split
  · rename_i e; rw [e.1, e.2]
  · rfl
theorem lies0 {n k : Nat} {h : z_G} (H : HI n k h) : loF (fun g => lyP h g == false) 0 k = loF (fun g => decide (h 10 g = 0)) 0 k :=
  loF_cong (fun g _ hg => by
    rcases H.2.2.2.2.2.1 g (by omega) with e | e <;> simp [lyP, e])
theorem lies1 (h : z_G) (k : Nat) : loF (fun g => lyP h g == true) 0 k = loF (fun g => decide (h 10 g = 1)) 0 k :=
  loF_cong (fun g _ hg => by simp [lyP])
theorem r_goDrawn {n k d : Nat} {h G : z_G} {r : Nat → Int32} {K : z_G → Prop} (H : HN n k h) (hn : 0 < n) (T : TR n h (G 2)) (R : RR n k h r) (hd : d < 65536) (hK : ∀ r', RR n k (dst n k h d) r' → K (z_sa G 6 r')) : v_X6_goDrawn (z_sa G 6 r) (nI d) K := by
  have hn6 := H.1.2.2.1
  have hk8 := H.1.2.2.2.1
  have hm : d % n < n := Nat.mod_lt _ hn
  unfold v_X6_goDrawn
  rw [z_sa_ne (show 2 ≠ 6 by decide), zn0, T.1]
  refine ⟨vi (a := 0) (by omega) (by omega), nI_ne0 hn (by omega), ?_⟩
  intro y3 e3 y4 e4
  rw [rem_nI (by omega) hn (by omega)] at e3
  have e4' : y4 = nI (d / 8 % 4) := by
    rw [e4, show (8 : Int32) = nI 8 from rfl, pk_div (by omega) (by omega) (by omega), show (4 : Int32) = nI 4 from rfl, rem_nI (by omega) (by omega) (by omega)]
  clear e4
  subst e3
  unfold dst at hK
  have b78 : ∀ g : Nat, g < k → d / 8 % 4 = 1 → loF (fun g => decide (h 10 g = 1)) 0 k = nI g → v_X6_goDrawn_b78 K (z_sa G 6 r) y4 (nI g) := by
    intro g hg h1 hl
    unfold v_X6_goDrawn_b78
    refine ⟨fun c => absurd (by rw [e4', h1]; rfl) c, fun _ => ?_⟩
    rw [zn3, z_sa_same]
    refine ⟨vi (a := 3) (by omega) (by omega), vi (a := 3) (by omega) (by omega), ?_⟩
    intro h12 e12
    obtain ⟨r0, r1, r2, r3, r4, r5⟩ := id R
    rw [r3, bs_del (Q := lyP (z_ss h 10 g 0)) (fun j _ => ?_) hk8 (by omega), sa_ss] at e12
    · subst e12
      apply hK
      rw [if_neg (by omega), if_pos h1, hl, if_neg (nI_ne4 (by omega)), zi (by omega)]
      refine ⟨by rw [upd_ne (by omega), z_ss_ne (by decide)]; exact r0, by rw [upd_ne (by omega), z_ss_ne (by decide)]; exact r1, by rw [upd_ne (by omega)]; exact r2, by rw [upd_eq], fun p hp => by rw [upd_ne (by omega), z_ss_ne (by decide)]; exact r4 p hp, fun x hx => ?_⟩
      rw [upd_ne (by omega), upd_ne (by omega), upd_ne (by omega), upd_ne (by omega), z_ss_ne (by decide), z_ss_ne (by decide), z_ss_ne (by decide), z_ss_ne (by decide)]
      exact r5 x hx
    · unfold lyP
      rw [z_ss_rd]
      by_cases e : j = g
      · simp [e]
      · simp [e]
  have n78 : ∀ (r' : Nat → Int32) (x : Int32), ¬ d / 8 % 4 = 1 → K (z_sa G 6 r') → v_X6_goDrawn_b78 K (z_sa G 6 r') y4 x := by
    intro r' x h1 k1
    unfold v_X6_goDrawn_b78
    refine ⟨fun _ => k1, fun c => ?_⟩
    rw [e4'] at c
    exact absurd ((nI_eq (b := 1) (by omega) (by omega)).mp c) h1
  have main : ∀ b : Bool, (b = true ↔ d / 8 % 4 = 1) → v_X6_goDrawn_b27 K (z_sa G 6 r) (nI d) (nI (d % n)) y4 (bI b) := by
    intro b hb
    unfold v_X6_goDrawn_b27
    refine r_lowestThat H.1 (by rw [z_sa_same]; exact R) ?_
    cases b
    · have h1 : ¬ d / 8 % 4 = 1 := fun q => by have := hb.mpr q; cases this
      rw [lies0 H.1]
      refine ⟨fun c => ⟨fun e => ?_, fun e => ?_⟩, fun c => ?_⟩
      · have e : ¬ d / 8 % 4 = 0 := fun q => e (by rw [e4', q]; rfl)
        refine n78 r _ h1 (hK r ?_)
        rw [if_neg e, if_neg h1]
        exact R
      · have e : d / 8 % 4 = 0 := by
          rw [e4'] at e
          exact (nI_eq (b := 0) (by omega) (by omega)).mp e
        rw [i4, zi (show 4 + d % n < 1000 by omega), z_sa_same, R.2.2.2.2.1 _ hm]
        refine ⟨vi (by omega) (by omega), fun u => ?_, fun u => ?_⟩
        · refine n78 r _ h1 (hK r ?_)
          obtain ⟨a, ha, ea⟩ := H.1.2.2.2.2.2.2.1 _ hm
          have : h 5 (d % n) = 0 := by
            rw [ea] at u ⊢
            have := (nI_leI (b := 0) (by omega) (by omega)).mp u
            rw [show a = 0 by omega]; rfl
          rw [if_pos e, if_pos (Or.inr this)]
          exact R
        · have hne : ¬ h 5 (d % n) = 0 := fun q => u (by rw [q]; exact Int32.le_refl _)
          rcases loF_cases (fun g => decide (h 10 g = 0)) k 0 with ⟨e9, -⟩ | ⟨g, -, h2, -, e9⟩
          · exact absurd e9 c
          · have q1 : nI d / 32 - nI d / 32 / 4 * 4 = nI (d / 32 % 4) := by
              rw [show (32 : Int32) = nI 32 from rfl, show (4 : Int32) = nI 4 from rfl, pk_div (a := d) (d := 32) (by omega) (by omega) (by omega), rem_nI (by omega) (by omega) (by omega)]
            have q2 : nI d / 128 - nI d / 128 / 20 * 20 + 1 = nI (d / 128 % 20 + 1) := by
              rw [show (128 : Int32) = nI 128 from rfl, show (20 : Int32) = nI 20 from rfl, pk_div (a := d) (d := 128) (by omega) (by omega) (by omega), rem_nI (by omega) (by omega) (by omega), nI_1]
            rw [e9, q1, q2]
            refine r_lays (m := k) H R hk8 (Nat.le_refl k) (by omega) (by omega) (Or.inr rfl) ?_
            intro r' r2' hr'
            refine n78 r' _ h1 (hK r' ?_)
            rw [if_pos e, if_neg (fun q => q.elim c hne), e9, zi (by omega)]
            have := hr' r' (fun _ _ => rfl) r2'
            rw [← H.1.2.1, ss_self] at this
            exact this
      · refine hK r ?_
        by_cases e : d / 8 % 4 = 0
        · rw [if_pos e, if_pos (Or.inl c)]; exact R
        · rw [if_neg e, if_neg h1]; exact R
    · have h1 : d / 8 % 4 = 1 := hb.mp rfl
      rw [lies1]
      refine ⟨fun c => ⟨fun e => ?_, fun e => ?_⟩, fun c => ?_⟩
      · rcases loF_cases (fun g => decide (h 10 g = 1)) k 0 with ⟨e9, -⟩ | ⟨g, -, h2, -, e9⟩
        · exact absurd e9 c
        · rw [e9]
          exact b78 g (by omega) h1 e9
      · rw [e4', h1] at e
        exact absurd e (by decide)
      · refine hK r ?_
        rw [if_neg (by omega), if_pos h1, if_pos c]
        exact R
  refine ⟨fun c => ?_, fun c => ?_⟩
  · have h1 : ¬ d / 8 % 4 = 1 := fun q => c (by rw [e4', q]; rfl)
    exact main false ⟨fun q => (by cases q), fun q => absurd q h1⟩
  · have h1 : d / 8 % 4 = 1 := by
      rw [e4'] at c
      exact (nI_eq (b := 1) (by omega) (by omega)).mp c
    exact main true ⟨fun _ => h1, fun _ => rfl⟩
/-! the reign's number doesn't matter -/
theorem ss_comm (h : z_G) {c j c' j' : Nat} (v w : Int32) (hne : ¬ (c = c' ∧ j = j')) : z_ss (z_ss h c j v) c' j' w = z_ss (z_ss h c' j' w) c j v := by
  funext a b
  rw [z_ss_rd, z_ss_rd, z_ss_rd, z_ss_rd]
  by_cases h1 : a = c ∧ b = j
  · by_cases h2 : a = c' ∧ b = j'
    · exact absurd ⟨h1.1.symm.trans h2.1, h1.2.symm.trans h2.2⟩ hne
    · rw [if_neg h2, if_pos h1, if_pos h1]
  · rw [if_neg h1, if_neg h1]
theorem ss_ss (h : z_G) (c j : Nat) (v w : Int32) : z_ss (z_ss h c j v) c j w = z_ss h c j w := by
  funext a b
  rw [z_ss_rd, z_ss_rd, z_ss_rd]
  by_cases h1 : a = c ∧ b = j
  · rw [if_pos h1, if_pos h1]
  · rw [if_neg h1, if_neg h1, if_neg h1]
theorem can_02 (h : z_G) (v : Int32) (p g : Nat) : can (z_ss h 0 2 v) p g = can h p g := by
  unfold can
  rw [z_ss_ne (show 10 ≠ 0 by decide), z_ss_ne (show 9 ≠ 0 by decide), z_ss_ne (show 5 ≠ 0 by decide), z_ss_ne (show 7 ≠ 0 by decide), z_ss_ne (show 8 ≠ 0 by decide), z_ss_ne (show 11 ≠ 0 by decide), z_ss_ne (show 4 ≠ 0 by decide)]
theorem tg_02 (k : Nat) (h : z_G) (v : Int32) (p : Nat) : tg k (z_ss h 0 2 v) p = tg k h p := by
  unfold tg low
  rw [z_ss_ne (show 6 ≠ 0 by decide), z_ss_ne (show 5 ≠ 0 by decide), loF_cong (fun g _ _ => can_02 h v p g)]
theorem wr_02 (h : z_G) (v : Int32) (p g : Nat) : wr (z_ss h 0 2 v) p g = z_ss (wr h p g) 0 2 v := by
  unfold wr
  have e03 : z_ss h 0 2 v 0 3 = h 0 3 := by rw [z_ss_rd, if_neg (by omega)]
  rw [z_ss_ne (show 5 ≠ 0 by decide), z_ss_ne (show 9 ≠ 0 by decide), e03]
  by_cases h0 : h 5 (z_n (h 9 g)) = 0
  · rw [if_pos h0, if_pos h0, ss_comm h v 0 (c := 0) (j := 2) (c' := 10) (j' := g) (by omega), ss_comm _ v (nI p) (c := 0) (j := 2) (c' := 12) (j' := g) (by omega)]
  · rw [if_neg h0, if_neg h0, ss_comm h v 0 (c := 0) (j := 2) (c' := 10) (j' := g) (by omega), ss_comm _ v (nI p) (c := 0) (j := 2) (c' := 12) (j' := g) (by omega), ss_comm _ v _ (c := 0) (j := 2) (c' := 5) (j' := p) (by omega), ss_comm _ v _ (c := 0) (j := 2) (c' := 5) (j' := z_n (h 9 g)) (by omega), ss_comm _ v _ (c := 0) (j := 2) (c' := 0) (j' := 3) (by omega)]
theorem P1_02 (k : Nat) (h : z_G) (v : Int32) (p : Nat) : P1 k (z_ss h 0 2 v) p = z_ss (P1 k h p) 0 2 v := by
  unfold P1
  rw [tg_02, wr_02]
  split <;> rfl
theorem ag_02 (h : z_G) (v : Int32) (i : Nat) : ag (z_ss h 0 2 v) i = z_ss (ag h i) 0 2 v := by
  funext a b
  by_cases h11 : a = 11
  · subst h11
    rw [ag_11, z_ss_ne (by decide), z_ss_ne (by decide), z_ss_ne (by decide), ag_11]
  · rw [ag_ne _ _ _ h11, z_ss_rd, z_ss_rd, ag_ne _ _ _ h11]
theorem HI_02 {n k : Nat} {h : z_G} (H : HI n k h) (v : Int32) : HI n k (z_ss h 0 2 v) := HI_set0 H 2 (by omega) v
theorem TR_02 {n : Nat} {h : z_G} {t : Nat → Int32} (T : TR n h t) (v : Int32) : TR n (z_ss h 0 2 v) t := TR_cong T (fun p _ => by rw [z_ss_ne (by decide)]) (fun p _ => by rw [z_ss_ne (by decide)])
theorem r_age2 {n k : Nat} {h G : z_G} {r : Nat → Int32} {K : Int32 → z_G → Prop} {L2 : z_G → Int32 → Int32 → Int32 → Prop} {x1 x2 x3 : Int32} (H : HI n k h) (R : RR n k h r) (hK : ∀ r', RR n k (ag h k) r' → ∀ y : Int32, y = x3 + 1 → L2 (z_sa G 6 r') x1 x2 y) : v_X6_isTakenBy_b91 K L2 (z_sa G 6 r) x1 x2 x3 0 := by
  have hn6 := H.2.2.1
  have hk8 := H.2.2.2.1
  unfold v_X6_isTakenBy_b91
  refine z_for k (fun i q => ∃ r', q = (z_sa G 6 r', x1, x2, x3, nI i) ∧ RR n k (ag h i) r') ?_ (Nat.zero_le k) ⟨r, rfl, by rw [ag_0]; exact R⟩
  rintro i ⟨G', y1, y2, y3, y4⟩ hi ⟨r', e, R'⟩ Lp hL
  obtain ⟨rfl, e2⟩ := Prod.mk.inj e
  obtain ⟨rfl, e3⟩ := Prod.mk.inj e2
  obtain ⟨rfl, e4⟩ := Prod.mk.inj e3
  obtain ⟨rfl, rfl⟩ := Prod.mk.inj e4
  show v_X6_isTakenBy_b91_s K L2 _ (z_sa G 6 r') y1 y2 y3 (nI i)
  unfold v_X6_isTakenBy_b91_s
  obtain ⟨r0, r1, r2, r3, r4, r5⟩ := id R'
  rw [z_sa_same, zn2, zn3, r2, r3]
  refine ⟨vi (a := 2) (by omega) (by omega), fun c => ?_, fun c => ?_⟩
  · have : i = k := by have := (nI_leI (by omega) (by omega)).mp c; omega
    subst this
    exact hK r' R'
  · have hlt : i < k := by
      rcases Nat.lt_or_ge i k with q | q
      · exact q
      · exact absurd (nI_le q (by omega)) c
    rw [i34, zi (show 34 + i < 1000 by omega)]
    have hb := bs_256 (HI_ag H i)
    have b132 : ∀ b : Int32, b = (if h 10 i = 1 then 1 else 0) → v_X6_isTakenBy_b132 K L2 (fun h x1 x2 x3 x4 => Lp (h, x1, x2, x3, x4)) (z_sa G 6 r') y1 y2 y3 (nI i) (nI (34 + i)) (r' (34 + i)) b := by
      intro b eb
      unfold v_X6_isTakenBy_b132
      rw [zi (show 34 + i < 1000 by omega)]
      refine ⟨vi (by omega) (by omega), ?_⟩
      intro h13 e13 y ey
      rw [sa_ss] at e13
      exact hL (_, _, _, _, _) hlt ⟨_, by rw [e13, ey, nI_1], RR_ag R' hlt hk8 hn6 eb⟩
    refine ⟨vi (by omega) (by omega), vi (a := 3) (by omega) (by omega), s_has (by omega) (by omega) ?_⟩
    rw [bs_bit]
    have el : lyP (ag h i) i = decide (h 10 i = 1) := by unfold lyP; rw [ag_ne _ _ _ (by decide)]
    refine br0 (fun w => b132 0 ?_) (fun w => b132 1 ?_)
    · have : ¬ h 10 i = 1 := by
        intro q
        rw [el, q] at w
        simp [hlt] at w
      rw [if_neg this]
    · rw [el, Bool.and_eq_true] at w
      rw [if_pos (of_decide_eq_true w.2)]
/-- the one who takes a glove up in a reign has it ever after -/
theorem taken_ever {n k p g i : Nat} {h : z_G} (H : HN n k h) (hp : p < n) (hg : g < k) (hi : i < 30) (ht : tg k (perL k (itr n k h i) p) p = nI g) : itr n k h 30 12 g = nI p := by
  have Hi := HN_itr H i
  have hk8 := H.1.2.2.2.1
  have e1 : perL k (itr n k h i) (p + 1) = wr (perL k (itr n k h i) p) p g := by
    show P1 k _ p = _
    unfold P1
    rw [ht, if_neg (nI_ne4 (by omega)), zi (by omega)]
  have a : ∀ x, perL k (itr n k h i) (p + 1 + x) 12 g = nI p ∨ n < p + 1 + x := by
    intro x
    rcases Nat.lt_or_ge n (p + 1 + x) with q | q
    · exact Or.inr q
    · left
      have : ∀ x, p + 1 + x ≤ n → perL k (itr n k h i) (p + 1 + x) 12 g = nI p ∧ ¬ perL k (itr n k h i) (p + 1 + x) 10 g = 1 := by
        intro x
        induction x with
        | zero =>
          intro _
          rw [Nat.add_zero, e1, wr_12, wr_10, if_pos rfl, if_pos rfl]
          exact ⟨rfl, by decide⟩
        | succ x ih =>
          intro hx
          obtain ⟨b1, b2⟩ := ih (by omega)
          obtain ⟨c1, c2⟩ := gone_P1 (r := p + 1 + x) (g := g) (HI_perL Hi.1 (p + 1 + x) (by omega)) b2
          have es : perL k (itr n k h i) (p + 1 + (x + 1)) = P1 k (perL k (itr n k h i) (p + 1 + x)) (p + 1 + x) := rfl
          rw [es, c1, c2]
          exact ⟨b1, b2⟩
      exact (this x q).1
  have a10 : ∀ x, p + 1 + x ≤ n → ¬ perL k (itr n k h i) (p + 1 + x) 10 g = 1 := by
    intro x
    induction x with
    | zero =>
      intro _
      rw [Nat.add_zero, e1, wr_10, if_pos rfl]
      decide
    | succ x ih =>
      intro hx
      obtain ⟨c1, c2⟩ := gone_P1 (r := p + 1 + x) (g := g) (HI_perL Hi.1 (p + 1 + x) (by omega)) (ih (by omega))
      have es : perL k (itr n k h i) (p + 1 + (x + 1)) = P1 k (perL k (itr n k h i) (p + 1 + x)) (p + 1 + x) := rfl
      rw [es, c2]
      exact ih (by omega)
  have n1 : perL k (itr n k h i) n 12 g = nI p := by
    rcases a (n - (p + 1)) with q | q
    · rw [show p + 1 + (n - (p + 1)) = n by omega] at q; exact q
    · omega
  have n2 : ¬ perL k (itr n k h i) n 10 g = 1 := by
    have := a10 (n - (p + 1)) (by omega)
    rw [show p + 1 + (n - (p + 1)) = n by omega] at this
    exact this
  have s1 : itr n k h (i + 1) 12 g = nI p := by rw [itr_s, rgn_c _ _ _ _ (by decide) (by decide)]; exact n1
  have s2 : ¬ itr n k h (i + 1) 10 g = 1 := by rw [itr_s, rgn_c _ _ _ _ (by decide) (by decide)]; exact n2
  have := (gone_itr H s2 (29 - i)).1
  rw [show i + 1 + (29 - i) = 30 by omega] at this
  rw [this]; exact s1
theorem r_isTakenBy {n k q g : Nat} {h G : z_G} {r : Nat → Int32} {K : Int32 → z_G → Prop} (H : HN n k h) (T : TR n h (G 2)) (R : RR n k h r) (hg : g < k) (hq : q < n) (h10 : h 10 g = 1) (h12 : h 12 g = -4) (hK : ∀ r', K (bI (decide (itr n k h 30 12 g = nI q))) (z_sa G 6 r')) : v_X6_isTakenBy (z_sa G 6 r) (nI g) (nI q) K := by
  have hn6 := H.1.2.2.1
  have hk8 := H.1.2.2.2.1
  unfold v_X6_isTakenBy v_X6_isTakenBy_b2
  refine z_for 30 (fun i z => ∃ r' v, z = (z_sa G 6 r', nI g, nI q, nI i) ∧ RR n k (z_ss (itr n k h i) 0 2 v) r' ∧ itr n k h i 10 g = 1 ∧ itr n k h i 12 g = -4) ?_ (Nat.zero_le 30) ⟨r, h 0 2, rfl, by show RR n k (z_ss h 0 2 (h 0 2)) r; rw [ss_self]; exact R, h10, h12⟩
  rintro i ⟨G', x1, x2, x3⟩ hi ⟨r', v, e, R', g10, g12⟩ Lp hL
  obtain ⟨rfl, e2⟩ := Prod.mk.inj e
  obtain ⟨rfl, e3⟩ := Prod.mk.inj e2
  obtain ⟨rfl, rfl⟩ := Prod.mk.inj e3
  show v_X6_isTakenBy_b2_s K _ (z_sa G 6 r') (nI g) (nI q) (nI i)
  unfold v_X6_isTakenBy_b2_s
  refine ⟨fun c => ?_, fun c => ?_⟩
  · have : i = 30 := by have := (nI_leI (a := 30) (by omega) (by omega)).mp c; omega
    subst this
    refine kE2 (hK r') ?_ rfl
    rw [g12]
    have : ¬ (-4 : Int32) = nI q := fun z => nI_ne4 (g := q) (by omega) z.symm
    simp [this]; rfl
  · have hlt : i < 30 := by
      rcases Nat.lt_or_ge i 30 with z | z
      · exact z
      · exact absurd (nI_le (a := 30) z (by omega)) c
    have Hi := HN_itr H i
    unfold v_X6_isTakenBy_b11
    refine z_for n (fun p z => ∃ r', z = (z_sa G 6 r', nI g, nI q, nI i, nI p) ∧ RR n k (z_ss (perL k (itr n k h i) p) 0 2 v) r' ∧ perL k (itr n k h i) p 10 g = 1 ∧ perL k (itr n k h i) p 12 g = -4) ?_ (Nat.zero_le n) ⟨r', rfl, R', g10, g12⟩
    rintro p ⟨G', x1, x2, x3, x4⟩ hp ⟨r', e, R', g10, g12⟩ Lq hM
    obtain ⟨rfl, e2⟩ := Prod.mk.inj e
    obtain ⟨rfl, e3⟩ := Prod.mk.inj e2
    obtain ⟨rfl, e4⟩ := Prod.mk.inj e3
    obtain ⟨rfl, rfl⟩ := Prod.mk.inj e4
    show v_X6_isTakenBy_b11_s K _ _ (z_sa G 6 r') (nI g) (nI q) (nI i) (nI p)
    unfold v_X6_isTakenBy_b11_s
    rw [z_sa_ne (show 2 ≠ 6 by decide), zn0, T.1]
    have Hp := HI_perL Hi.1 p hp
    refine ⟨vi (a := 0) (by omega) (by omega), fun c => ?_, fun c => ?_⟩
    · have : p = n := by have := (nI_leI (by omega) (by omega)).mp c; omega
      subst this
      refine r_age2 (HI_02 Hp v) R' ?_
      intro r'' R'' y ey
      refine hL (_, _, _, _) hlt ⟨r'', v, by rw [ey, nI_1], ?_, ?_, ?_⟩
      · rw [ag_02] at R''
        show RR p k (z_ss (rgn p k (itr p k h i)) 0 2 v) r''
        unfold rgn
        rw [ss_ss]
        exact R''
      · rw [itr_s, rgn_c _ _ _ _ (by decide) (by decide)]; exact g10
      · rw [itr_s, rgn_c _ _ _ _ (by decide) (by decide)]; exact g12
    · have hlp : p < n := by
        rcases Nat.lt_or_ge p n with z | z
        · exact z
        · exact absurd (nI_le z (by omega)) c
      rw [i7, zi (show 7 + p < 1000 by omega), T.2.2 p hlp]
      have e6 : perL k (itr n k h i) p 6 = h 6 := by
        rw [perL_c _ _ _ (by decide) (by decide) (by decide) (by decide), itr_c _ _ _ _ (by decide) (by decide) (by decide) (by decide) (by decide)]
      have e4' : perL k (itr n k h i) p 4 = h 4 := by
        rw [perL_c _ _ _ (by decide) (by decide) (by decide) (by decide), itr_c _ _ _ _ (by decide) (by decide) (by decide) (by decide) (by decide)]
      have Tp : TR n (z_ss (perL k (itr n k h i) p) 0 2 v) (z_sa G 6 r' 2) := by
        rw [z_sa_ne (by decide)]
        exact TR_02 (TR_cong T (fun x _ => by rw [e4']) (fun x _ => by rw [e6])) v
      have b47 : v_X6_isTakenBy_b47 K (fun h x1 x2 x3 => Lp (h, x1, x2, x3)) (fun h x1 x2 x3 x4 => Lq (h, x1, x2, x3, x4)) (z_sa G 6 r') (nI g) (nI q) (nI i) (nI p) (tg k (perL k (itr n k h i) p) p) := by
        unfold v_X6_isTakenBy_b47
        refine ⟨fun d => ⟨fun w => ?_, fun w => ?_⟩, fun d => ?_⟩
        · intro y ey
          have es : perL k (itr n k h i) (p + 1) = perL k (itr n k h i) p := by
            show P1 k _ p = _
            unfold P1; rw [if_pos w]
          exact hM (_, _, _, _, _) hlp ⟨r', by rw [ey, nI_1], by rw [es]; exact R', by rw [es]; exact g10, by rw [es]; exact g12⟩
        · rcases tg_cases k (perL k (itr n k h i) p) p with e | ⟨g', hg', hc, e⟩
          · exact absurd e w
          · have hgg : ¬ g = g' := fun z => d (by rw [e, z])
            rw [e]
            have hown : ¬ z_ss (perL k (itr n k h i) p) 0 2 v 9 g' = nI p := by
              rw [z_ss_ne (by decide)]; exact can_own hc
            refine r_goWear (HI_02 Hp v) R' hg' hlp hown ?_
            intro r'' R'' y ey
            have es : perL k (itr n k h i) (p + 1) = wr (perL k (itr n k h i) p) p g' := by
              show P1 k _ p = _
              unfold P1; rw [if_neg w, e, zi (by omega)]
            refine hM (_, _, _, _, _) hlp ⟨r'', by rw [ey, nI_1], ?_, ?_, ?_⟩
            · rw [es, ← wr_02]; exact R''
            · rw [es, wr_10, if_neg hgg]; exact g10
            · rw [es, wr_12, if_neg hgg]; exact g12
        · have hev := taken_ever H hlp hg hlt d
          refine ⟨fun w => ?_, fun w => ?_⟩
          · refine kE2 (hK r') ?_ rfl
            rw [hev]; simp [w]; rfl
          · refine kE2 (hK r') ?_ rfl
            rw [hev]; simp [w]; rfl
      rw [tg_alt, e6] at b47
      refine ⟨vi (by omega) (by omega), fun d => ?_, fun d => ?_⟩
      · rw [if_neg d] at b47; exact b47
      · rw [if_pos d] at b47
        refine r_lowestFit (HI_02 Hp v) Tp (by rw [z_sa_same]; exact R') hlp ?_
        have el : low (z_ss (perL k (itr n k h i) p) 0 2 v) p k = low (perL k (itr n k h i) p) p k := loF_cong (fun x _ _ => can_02 _ v p x)
        rw [el]
        exact b47
