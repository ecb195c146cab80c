/-! ===== PURE: the reference's reigns, rows aside and kept ===== -/
theorem low_out {h : z_G} {p k : Nat} (h0 : ¬ 0 < h 5 p) : low h p k = -4 := by
  unfold low
  rcases loF_cases (can h p) k 0 with ⟨e, -⟩ | ⟨g, -, -, h3, -⟩
  · exact e
  · unfold can at h3
    simp [h0] at h3
theorem tg_alt (k : Nat) (h : z_G) (p : Nat) : tg k h p = if h 6 p = 1 then low h p k else -4 := by
  unfold tg
  by_cases h1 : h 6 p = 1
  · by_cases h2 : 0 < h 5 p
    · rw [if_pos ⟨h1, h2⟩, if_pos h1]
    · rw [if_neg (fun q => h2 q.2), if_pos h1, low_out h2]
  · rw [if_neg (fun q => h1 q.1), if_neg h1]
theorem can_own {h : z_G} {p g : Nat} (hc : can h p g = true) : ¬ h 9 g = nI p := by
  unfold can at hc
  simp only [Bool.and_eq_true] at hc
  exact of_decide_eq_true hc.2.1
theorem lyP_of {h h' : z_G} (e : h 10 = h' 10) : lyP h = lyP h' := by funext g; unfold lyP; rw [e]
theorem RR_ag {n k i : Nat} {h : z_G} {r : Nat → Int32} {b : Int32} (R : RR n k (ag h i) r) (hi : i < k) (hk : k ≤ 8) (hn : n ≤ 6) (hb : b = if h 10 i = 1 then 1 else 0) : RR n k (ag h (i + 1)) (upd r (34 + i) (r (34 + i) + b)) := by
  obtain ⟨r0, r1, r2, r3, r4, r5⟩ := R
  have e10 : ag h i 10 = ag h (i + 1) 10 := by rw [ag_ne _ _ _ (by decide), ag_ne _ _ _ (by decide)]
  refine ⟨?_, ?_, ?_, ?_, fun p hp => ?_, fun g hg => ?_⟩
  · rw [upd_ne (by omega), r0, ag_ne _ _ _ (by decide), ag_ne _ _ _ (by decide)]
  · rw [upd_ne (by omega), r1, ag_ne _ _ _ (by decide), ag_ne _ _ _ (by decide)]
  · rw [upd_ne (by omega), r2]
  · rw [upd_ne (by omega), r3, lyP_of e10]
  · rw [upd_ne (by omega), r4 p hp, ag_ne _ _ _ (by decide), ag_ne _ _ _ (by decide)]
  · obtain ⟨a1, a2, a3, a4⟩ := r5 g hg
    rw [ag_ne _ _ _ (by decide)] at a1 a2 a3
    rw [upd_ne (by omega), upd_ne (by omega), upd_ne (by omega), ag_ne _ _ _ (by decide), ag_ne _ _ _ (by decide), ag_ne _ _ _ (by decide)]
    refine ⟨a1, a2, a3, ?_⟩
    by_cases e : g = i
    · subst e
      rw [upd_eq, a4, ag_11, ag_11, hb]
      by_cases h1 : h 10 g = 1
      · simp [h1]
      · simp [h1]
    · rw [upd_ne (by omega), a4, ag_11, ag_11]
      by_cases h1 : g < i
      · have : g < i + 1 := by omega
        simp [h1, this]
      · have : ¬ g < i + 1 := by omega
        simp [h1, this]
theorem r_ageing {n k : Nat} {h G : z_G} {r : Nat → Int32} {K : z_G → Prop} (H : HI n k h) (R : RR n k h r) (hK : ∀ r', RR n k (z_ss (ag h k) 0 2 (h 0 2 + 1)) r' → K (z_sa G 6 r')) : v_X6_goReign_b56 K (z_sa G 6 r) 0 := by
  have hn6 := H.2.2.1
  have hk8 := H.2.2.2.1
  unfold v_X6_goReign_b56
  refine z_for k (fun i q => ∃ r', q = (z_sa G 6 r', nI i) ∧ RR n k (ag h i) r') ?_ (Nat.zero_le k) ⟨r, rfl, by rw [ag_0]; exact R⟩
  rintro i ⟨G', x1⟩ hi ⟨r', e, R'⟩ Lp hL
  obtain ⟨rfl, rfl⟩ := Prod.mk.inj e
  show v_X6_goReign_b56_s K _ (z_sa G 6 r') (nI i)
  unfold v_X6_goReign_b56_s
  obtain ⟨r0, r1, r2, r3, r4, r5⟩ := id R'
  rw [z_sa_same, zn2, zn0, zn3, r2, r3]
  refine ⟨vi (a := 2) (by omega) (by omega), fun c => ⟨vi (a := 0) (by omega) (by omega), vi (a := 0) (by omega) (by omega), ?_⟩, fun c => ?_⟩
  · have : i = k := by have := (nI_leI (by omega) (by omega)).mp c; omega
    subst this
    intro h7 e7
    rw [sa_ss] at e7
    subst e7
    apply hK
    refine ⟨?_, ?_, ?_, ?_, fun p hp => ?_, fun g hg => ?_⟩
    · rw [upd_eq, r0, ag_ne _ _ _ (by decide), z_ss_rd]; simp
    · rw [upd_ne (by omega), r1, z_ss_rd]; simp
    · rw [upd_ne (by omega), r2]
    · rw [upd_ne (by omega), r3, lyP_of (h := ag h i) (h' := z_ss (ag h i) 0 2 (h 0 2 + 1)) (by rw [z_ss_ne (by decide)])]
    · rw [upd_ne (by omega), r4 p hp, z_ss_ne (by decide)]
    · obtain ⟨a1, a2, a3, a4⟩ := r5 g hg
      rw [upd_ne (by omega), upd_ne (by omega), upd_ne (by omega), upd_ne (by omega), z_ss_ne (by decide), z_ss_ne (by decide), z_ss_ne (by decide), z_ss_ne (by decide)]
      exact ⟨a1, a2, a3, a4⟩
  · have hlt : i < k := by
      rcases Nat.lt_or_ge i k with q | q
      · exact q
      · exact absurd (nI_le q (by omega)) c
    rw [i34, zi (show 34 + i < 1000 by omega)]
    have hb := bs_256 (HI_ag H i)
    have b94 : ∀ b : Int32, b = (if h 10 i = 1 then 1 else 0) → v_X6_goReign_b94 K (fun h x1 => Lp (h, x1)) (z_sa G 6 r') (nI i) (nI (34 + i)) (r' (34 + i)) b := by
      intro b eb
      unfold v_X6_goReign_b94
      rw [zi (show 34 + i < 1000 by omega)]
      refine ⟨vi (by omega) (by omega), ?_⟩
      intro h13 e13 y ey
      rw [sa_ss] at e13
      exact hL (_, _) hlt ⟨_, by rw [e13, ey, nI_1], RR_ag R' hlt hk8 hn6 eb⟩
    refine ⟨vi (by omega) (by omega), vi (a := 3) (by omega) (by omega), s_has (by omega) (by omega) ?_⟩
    rw [bs_bit]
    have el : lyP (ag h i) i = decide (h 10 i = 1) := by unfold lyP; rw [ag_ne _ _ _ (by decide)]
    refine br0 (fun w => b94 0 ?_) (fun w => b94 1 ?_)
    · have : ¬ h 10 i = 1 := by
        intro q
        rw [el, q] at w
        simp [hlt] at w
      rw [if_neg this]
    · rw [el, Bool.and_eq_true] at w
      rw [if_pos (of_decide_eq_true w.2)]
theorem r_goReign {n k : Nat} {h G : z_G} {r : Nat → Int32} {K : z_G → Prop} (H : HI n k h) (T : TR n h (G 2)) (R : RR n k h r) (hK : ∀ r', RR n k (rgn n k h) r' → K (z_sa G 6 r')) : v_X6_goReign (z_sa G 6 r) K := by
  have hn6 := H.2.2.1
  have hk8 := H.2.2.2.1
  unfold v_X6_goReign v_X6_goReign_b2
  refine z_for n (fun i q => ∃ r', q = (z_sa G 6 r', nI i) ∧ RR n k (perL k h i) r') ?_ (Nat.zero_le n) ⟨r, rfl, R⟩
  rintro i ⟨G', x1⟩ hi ⟨r', e, R'⟩ Lp hL
  obtain ⟨rfl, rfl⟩ := Prod.mk.inj e
  show v_X6_goReign_b2_s K _ (z_sa G 6 r') (nI i)
  unfold v_X6_goReign_b2_s
  rw [z_sa_ne (show 2 ≠ 6 by decide), zn0, T.1]
  have Hi := HI_perL H i hi
  refine ⟨vi (a := 0) (by omega) (by omega), fun c => ?_, fun c => ?_⟩
  · have : i = n := by have := (nI_leI (by omega) (by omega)).mp c; omega
    subst this
    exact r_ageing Hi R' hK
  · have hlt : i < n := by
      rcases Nat.lt_or_ge i n with q | q
      · exact q
      · exact absurd (nI_le q (by omega)) c
    rw [i7, zi (show 7 + i < 1000 by omega), T.2.2 i hlt]
    have e6 : perL k h i 6 = h 6 := perL_c _ _ _ (by decide) (by decide) (by decide) (by decide) i
    have Ti : TR n (perL k h i) (z_sa G 6 r' 2) := by
      rw [z_sa_ne (by decide)]
      exact TR_cong T (fun p _ => by rw [perL_c _ _ _ (by decide) (by decide) (by decide) (by decide)]) (fun p _ => by rw [e6])
    have b35 : v_X6_goReign_b35 K (fun h x1 => Lp (h, x1)) (z_sa G 6 r') (nI i) (tg k (perL k h i) i) := by
      unfold v_X6_goReign_b35
      refine ⟨fun d => ?_, fun d => ?_⟩
      · intro y ey
        refine hL (_, _) hlt ⟨r', by rw [ey, nI_1], ?_⟩
        show RR n k (P1 k (perL k h i) i) r'
        unfold P1
        rw [if_pos d]
        exact R'
      · rcases tg_cases k (perL k h i) i with e | ⟨g, hg, hc, e⟩
        · exact absurd e d
        · rw [e]
          refine r_goWear Hi R' hg hlt (can_own hc) ?_
          intro r'' R'' y ey
          refine hL (_, _) hlt ⟨r'', by rw [ey, nI_1], ?_⟩
          show RR n k (P1 k (perL k h i) i) r''
          unfold P1
          rw [if_neg d, e, zi (by omega)]
          exact R''
    rw [tg_alt, e6] at b35
    refine ⟨vi (by omega) (by omega), fun d => ?_, fun d => ?_⟩
    · rw [if_neg d] at b35; exact b35
    · rw [if_pos d] at b35
      exact r_lowestFit Hi Ti (by rw [z_sa_same]; exact R') hlt b35
theorem TR_itr {n k : Nat} {h : z_G} {t : Nat → Int32} (T : TR n h t) (j : Nat) : TR n (itr n k h j) t :=
  TR_cong T (fun p _ => by rw [itr_c _ _ _ _ (by decide) (by decide) (by decide) (by decide) (by decide)]) (fun p _ => by rw [itr_c _ _ _ _ (by decide) (by decide) (by decide) (by decide) (by decide)])
theorem r_goReigns {n k m : Nat} {h G : z_G} {r : Nat → Int32} {K : z_G → Prop} (H : HN n k h) (T : TR n h (G 2)) (R : RR n k h r) (hm : m < 2 ^ 30) (hK : ∀ r', RR n k (itr n k h m) r' → K (z_sa G 6 r')) : v_X6_goReigns (z_sa G 6 r) (nI m) K := by
  unfold v_X6_goReigns v_X6_goReigns_b2
  refine z_for m (fun i q => ∃ r', q = (z_sa G 6 r', nI m, nI i) ∧ RR n k (itr n k h i) r') ?_ (Nat.zero_le m) ⟨r, rfl, R⟩
  rintro i ⟨G', x1, x2⟩ hi ⟨r', e, R'⟩ Lp hL
  obtain ⟨rfl, e2⟩ := Prod.mk.inj e
  obtain ⟨rfl, rfl⟩ := Prod.mk.inj e2
  show v_X6_goReigns_b2_s K _ (z_sa G 6 r') (nI m) (nI i)
  unfold v_X6_goReigns_b2_s
  refine ⟨fun c => ?_, fun c => ?_⟩
  · have : i = m := by have := (nI_leI (by omega) (by omega)).mp c; omega
    subst this
    exact hK r' R'
  · have hlt : i < m := by
      rcases Nat.lt_or_ge i m with q | q
      · exact q
      · exact absurd (nI_le q (by omega)) c
    refine r_goReign (HN_itr H i).1 (TR_itr T i) R' ?_
    intro r'' R'' y ey
    exact hL (_, _, _) hlt ⟨r'', by rw [ey, nI_1], R''⟩
/-- the first i places out of a row -/
def asd (a b : Nat → Int32) (i : Nat) : Nat → Int32 := fun j => if j < i then a j else b j
theorem asd_s (a b : Nat → Int32) (i : Nat) : upd (asd a b i) i (a i) = asd a b (i + 1) := by
  funext j
  unfold upd asd
  by_cases h : j = i
  · subst h; simp
  · by_cases h1 : j < i
    · have : j < i + 1 := by omega
      simp [h, h1, this]
    · have : ¬ j < i + 1 := by omega
      simp [h, h1, this]
theorem asd_0 (a b : Nat → Int32) : asd a b 0 = b := by funext j; simp [asd]
theorem asd_in {a b : Nat → Int32} {i j : Nat} (h : j < i) : asd a b i j = a j := if_pos h
theorem r_aside {G : z_G} {K : z_G → Prop} (hK : K (z_sa G 6 (asd (G 5) (G 6) 42))) : v_X6_aside G K := by
  unfold v_X6_aside v_X6_aside_b2
  refine z_for 42 (fun i q => q = (z_sa G 6 (asd (G 5) (G 6) i), nI i)) ?_ (Nat.zero_le 42) (by rw [asd_0, sa_self]; rfl)
  rintro i ⟨G', x1⟩ hi e Lp hL
  obtain ⟨rfl, rfl⟩ := Prod.mk.inj e
  show v_X6_aside_b2_s K _ (z_sa G 6 (asd (G 5) (G 6) i)) (nI i)
  unfold v_X6_aside_b2_s
  refine ⟨fun c => ?_, fun c => ?_⟩
  · have : i = 42 := by have := (nI_leI (a := 42) (by omega) (by omega)).mp c; omega
    subst this
    exact hK
  · have hlt : i < 42 := by
      rcases Nat.lt_or_ge i 42 with q | q
      · exact q
      · exact absurd (nI_le (a := 42) q (by omega)) c
    refine ⟨vi hlt (by omega), vi hlt (by omega), ?_⟩
    intro h4 e4 y ey
    rw [zi (show i < 1000 by omega), z_sa_ne (show 5 ≠ 6 by decide), sa_ss, asd_s] at e4
    exact hL (_, _) hlt (by rw [e4, ey, nI_1])
theorem r_settle {G : z_G} {K : z_G → Prop} (hK : K (z_sa G 5 (asd (G 6) (G 5) 42))) : v_X6_settle G K := by
  unfold v_X6_settle v_X6_settle_b2
  refine z_for 42 (fun i q => q = (z_sa G 5 (asd (G 6) (G 5) i), nI i)) ?_ (Nat.zero_le 42) (by rw [asd_0, sa_self]; rfl)
  rintro i ⟨G', x1⟩ hi e Lp hL
  obtain ⟨rfl, rfl⟩ := Prod.mk.inj e
  show v_X6_settle_b2_s K _ (z_sa G 5 (asd (G 6) (G 5) i)) (nI i)
  unfold v_X6_settle_b2_s
  refine ⟨fun c => ?_, fun c => ?_⟩
  · have : i = 42 := by have := (nI_leI (a := 42) (by omega) (by omega)).mp c; omega
    subst this
    exact hK
  · have hlt : i < 42 := by
      rcases Nat.lt_or_ge i 42 with q | q
      · exact q
      · exact absurd (nI_le (a := 42) q (by omega)) c
    refine ⟨vi hlt (by omega), vi hlt (by omega), ?_⟩
    intro h4 e4 y ey
    rw [zi (show i < 1000 by omega), z_sa_ne (show 6 ≠ 5 by decide), sa_ss, asd_s] at e4
    exact hL (_, _) hlt (by rw [e4, ey, nI_1])
theorem bs_add {P Q : Nat → Bool} {k g m : Nat} (h : ∀ j, j < m → (decide (j < m) && Q j) = ((decide (j < k) && P j) || decide (j = g))) (hkm : k ≤ m) (hm : m ≤ 8) (hg : g < m) : nI (bs P k) ||| ((1 : Int32) <<< (nI g &&& 31)) = nI (bs Q m) := by
  rw [shl1 (by omega), nI_or]
  congr 1
  apply Nat.eq_of_testBit_eq
  intro j
  rw [Nat.testBit_or, bs_bit, bs_bit, Nat.testBit_two_pow]
  by_cases hj : j < m
  · rw [h j hj]
    by_cases e : j = g
    · subst e; simp
    · have e2 : ¬ g = j := fun q => e q.symm
      simp [e, e2]
  · have h1 : ¬ j < k := by omega
    have h2 : ¬ g = j := by omega
    simp [hj, h1, h2]
/-- lays a glove: in place of one, or one more (m gloves then) -/
theorem r_lays {n k m g s q : Nat} {h G : z_G} {r : Nat → Int32} {a : Int32} {K : z_G → Prop} (H : HN n k h) (R : RR n k h r) (hm : m ≤ 8) (hkm : k ≤ m) (hmk : m ≤ k + 1) (hg : g < m) (hgk : k ≤ g ∨ m = k) (hK : ∀ r', r' 2 = nI k → (∀ x : Nat → Int32, (∀ j, j ≠ 2 → x j = r' j) → x 2 = nI m → RR n m (pg (z_ss h 0 1 (nI m)) g a (nI s) (nI q)) x) → K (z_sa G 6 r')) : v_X6_lays (z_sa G 6 r) (nI g) a (nI s) (nI q) K := by
  obtain ⟨r0, r1, r2, r3, r4, r5⟩ := R
  have hn6 := H.1.2.2.1
  have hb := bs_256 H.1
  unfold v_X6_lays
  rw [i10, i18, i26, i34, zi (show 10 + g < 1000 by omega), zi (show 18 + g < 1000 by omega), zi (show 26 + g < 1000 by omega), zi (show 34 + g < 1000 by omega), zn3]
  refine ⟨vi (by omega) (by omega), ?_⟩
  intro h2 e2
  rw [sa_ss] at e2
  subst e2
  refine ⟨vi (by omega) (by omega), ?_⟩
  intro h4 e4
  rw [sa_ss] at e4
  subst e4
  refine ⟨vi (by omega) (by omega), ?_⟩
  intro h6 e6
  rw [sa_ss] at e6
  subst e6
  refine ⟨vi (by omega) (by omega), ?_⟩
  intro h8 e8
  rw [sa_ss] at e8
  subst e8
  refine ⟨vi (a := 3) (by omega) (by omega), vi (a := 3) (by omega) (by omega), ?_⟩
  intro h11 e11
  rw [z_sa_same, upd_ne (by omega), upd_ne (by omega), upd_ne (by omega), upd_ne (by omega), r3, bs_add (Q := lyP (pg (z_ss h 0 1 (nI m)) g a (nI s) (nI q))) (m := m) (fun j hj => ?_) hkm hm hg, sa_ss] at e11
  · subst e11
    apply hK
    · rw [upd_ne (by omega), upd_ne (by omega), upd_ne (by omega), upd_ne (by omega), upd_ne (by omega), r2]
    · intro x ex x2
      refine ⟨?_, ?_, x2, ?_, fun p hp => ?_, fun y hy => ?_⟩
      · rw [ex 0 (by omega), upd_ne (by omega), upd_ne (by omega), upd_ne (by omega), upd_ne (by omega), upd_ne (by omega), r0, pg_0 _ _ _ _ _ _ (by decide), z_ss_rd]; simp
      · rw [ex 1 (by omega), upd_ne (by omega), upd_ne (by omega), upd_ne (by omega), upd_ne (by omega), upd_ne (by omega), r1, pg_0 _ _ _ _ _ _ (by decide), z_ss_rd]; simp
      · rw [ex 3 (by omega), upd_eq]
      · rw [ex _ (by omega), upd_ne (by omega), upd_ne (by omega), upd_ne (by omega), upd_ne (by omega), upd_ne (by omega), r4 p hp, pg_0 _ _ _ _ _ _ (by decide), z_ss_ne (by decide)]
      · rw [ex _ (by omega), ex _ (by omega), ex _ (by omega), ex _ (by omega), pg_rd, pg_rd, pg_rd, pg_rd]
        by_cases e : y = g
        · subst e
          refine ⟨?_, ?_, ?_, ?_⟩
          · rw [upd_ne (by omega), upd_ne (by omega), upd_ne (by omega), upd_ne (by omega), upd_eq]; simp
          · rw [upd_ne (by omega), upd_ne (by omega), upd_ne (by omega), upd_eq]; simp
          · rw [upd_ne (by omega), upd_ne (by omega), upd_eq]; simp
          · rw [upd_ne (by omega), upd_eq]; simp
        · obtain ⟨a1, a2, a3, a4⟩ := r5 y (by omega)
          rw [if_neg e, if_neg e, if_neg e, if_neg e, z_ss_ne (by decide), z_ss_ne (by decide), z_ss_ne (by decide), z_ss_ne (by decide), ← a1, ← a2, ← a3, ← a4]
          refine ⟨?_, ?_, ?_, ?_⟩ <;> rw [upd_ne (by omega), upd_ne (by omega), upd_ne (by omega), upd_ne (by omega), upd_ne (by omega)]
  · unfold lyP
    rw [pg_rd]
    by_cases e : j = g
    · subst e; simp [hj]
    · rw [if_neg e, z_ss_ne (by decide)]
      have : j < k := by omega
      simp [hj, this, e]
