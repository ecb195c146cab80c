/-! ===== PURE: calls: fault, lay ===== -/
theorem asd_z (a b : Nat → Int32) : asd a b 0 = b := by
  funext j
  exact if_neg (by omega)
theorem asd_st (a b : Nat → Int32) (i : Nat) : upd (asd a b i) i (a i) = asd a b (i + 1) := by
  funext j
  unfold asd
  by_cases e : j = i
  · subst e; rw [upd_eq, if_pos (by omega)]
  · rw [upd_ne e]
    by_cases h : j < i
    · rw [if_pos h, if_pos (by omega)]
    · rw [if_neg h, if_neg (by omega)]
theorem r_empty {G : z_G} {K : z_G → Prop} (hK : K (z_sa (z_sa G 3 (asd (fun _ => 0) (G 3) 13)) 4 (asd (fun _ => 0) (G 4) 42))) : v_X6_empty G K := by
  unfold v_X6_empty v_X6_empty_b2
  refine z_for 13 (fun i s => s = (z_sa G 3 (asd (fun _ => 0) (G 3) i), nI i)) ?_ (Nat.zero_le 13) (by rw [asd_z, sa_self]; rfl)
  rintro i ⟨g, x1⟩ hi e Lp hL
  obtain ⟨rfl, rfl⟩ := Prod.mk.inj e
  show v_X6_empty_b2_s K _ (z_sa G 3 (asd (fun _ => 0) (G 3) i)) (nI i)
  unfold v_X6_empty_b2_s
  refine ⟨fun c => ?_, fun c => ?_⟩
  · have : i = 13 := by have := (nI_leI (a := 13) (by omega) (by omega)).mp c; omega
    subst this
    unfold v_X6_empty_b23
    refine z_for 42 (fun i s => s = (z_sa (z_sa G 3 (asd (fun _ => 0) (G 3) 13)) 4 (asd (fun _ => 0) (G 4) i), nI i)) ?_ (Nat.zero_le 42) (by rw [asd_z]; have := sa_self (z_sa G 3 (asd (fun _ => 0) (G 3) 13)) 4; rw [z_sa_ne (show 4 ≠ 3 by decide)] at this; rw [this]; rfl)
    rintro i ⟨g, x1⟩ hi e Lp hL
    obtain ⟨rfl, rfl⟩ := Prod.mk.inj e
    show v_X6_empty_b23_s K _ (z_sa (z_sa G 3 (asd (fun _ => 0) (G 3) 13)) 4 (asd (fun _ => 0) (G 4) i)) (nI i)
    unfold v_X6_empty_b23_s
    refine ⟨fun c => ?_, fun c => ?_⟩
    · have : i = 42 := by have := (nI_leI (a := 42) (by omega) (by omega)).mp c; omega
      subst this
      exact hK
    · have hlt : i < 42 := by
        rcases Nat.lt_or_ge i 42 with q | q
        · exact q
        · exact absurd (nI_le (a := 42) q (by omega)) c
      rw [zi (show i < 1000 by omega)]
      refine ⟨vi (by omega) (by omega), fun h4 e4 y5 e5 => hL (_, _) hlt ?_⟩
      rw [e4, e5, nI_1, sa_ss]
      exact congrArg (fun f => (z_sa (z_sa G 3 (asd (fun _ => 0) (G 3) 13)) 4 f, nI (i + 1))) (asd_st (fun _ => 0) (G 4) i)
  · have hlt : i < 13 := by
      rcases Nat.lt_or_ge i 13 with q | q
      · exact q
      · exact absurd (nI_le (a := 13) q (by omega)) c
    rw [zi (show i < 1000 by omega)]
    refine ⟨vi (by omega) (by omega), fun h4 e4 y5 e5 => hL (_, _) hlt ?_⟩
    rw [e4, e5, nI_1, sa_ss]
    exact congrArg (fun f => (z_sa G 3 f, nI (i + 1))) (asd_st (fun _ => 0) (G 3) i)
theorem r_begin {G : z_G} {K : z_G → Prop} (hK : K (z_ss (z_ss (z_ss (z_sa (z_sa G 2 (asd (G 3) (G 2) 13)) 5 (asd (G 4) (G 5) 42)) 0 12 0) 0 8 0) 0 10 0)) : v_X6_begin G K := by
  unfold v_X6_begin v_X6_begin_b2
  refine z_for 13 (fun i s => s = (z_sa G 2 (asd (G 3) (G 2) i), nI i)) ?_ (Nat.zero_le 13) (by rw [asd_z, sa_self]; rfl)
  rintro i ⟨g, x1⟩ hi e Lp hL
  obtain ⟨rfl, rfl⟩ := Prod.mk.inj e
  show v_X6_begin_b2_s K _ (z_sa G 2 (asd (G 3) (G 2) i)) (nI i)
  unfold v_X6_begin_b2_s
  refine ⟨fun c => ?_, fun c => ?_⟩
  · have : i = 13 := by have := (nI_leI (a := 13) (by omega) (by omega)).mp c; omega
    subst this
    unfold v_X6_begin_b28
    refine z_for 42 (fun i s => s = (z_sa (z_sa G 2 (asd (G 3) (G 2) 13)) 5 (asd (G 4) (G 5) i), nI i)) ?_ (Nat.zero_le 42) (by rw [asd_z]; have := sa_self (z_sa G 2 (asd (G 3) (G 2) 13)) 5; rw [z_sa_ne (show 5 ≠ 2 by decide)] at this; rw [this]; rfl)
    rintro i ⟨g, x1⟩ hi e Lp hL
    obtain ⟨rfl, rfl⟩ := Prod.mk.inj e
    show v_X6_begin_b28_s K _ (z_sa (z_sa G 2 (asd (G 3) (G 2) 13)) 5 (asd (G 4) (G 5) i)) (nI i)
    unfold v_X6_begin_b28_s
    refine ⟨fun c => ?_, fun c => ?_⟩
    · have : i = 42 := by have := (nI_leI (a := 42) (by omega) (by omega)).mp c; omega
      subst this
      intro h3 e3 h4 e4 h5 e5
      rw [e5, e4, e3]
      exact hK
    · have hlt : i < 42 := by
        rcases Nat.lt_or_ge i 42 with q | q
        · exact q
        · exact absurd (nI_le (a := 42) q (by omega)) c
      rw [zi (show i < 1000 by omega), z_sa_ne (show 4 ≠ 5 by decide), z_sa_ne (show 4 ≠ 2 by decide)]
      refine ⟨vi (by omega) (by omega), vi (by omega) (by omega), fun h4 e4 y5 e5 => hL (_, _) hlt ?_⟩
      rw [e4, e5, nI_1, sa_ss, asd_st]
  · have hlt : i < 13 := by
      rcases Nat.lt_or_ge i 13 with q | q
      · exact q
      · exact absurd (nI_le (a := 13) q (by omega)) c
    rw [zi (show i < 1000 by omega), z_sa_ne (show 3 ≠ 2 by decide)]
    refine ⟨vi (by omega) (by omega), vi (by omega) (by omega), fun h4 e4 y5 e5 => hL (_, _) hlt ?_⟩
    rw [e4, e5, nI_1, sa_ss, asd_st]
theorem r_all {G hd : z_G} {L : Nat → Int32} {len : Nat} {K : Int32 → z_G → Prop} (e0 : G 0 0 = nI len) (hl : len ≤ 200) (hLt : ∀ j, j < len → G 1 j = L j) (N1 : NF hd) (hK : ∀ G', FR G G' → ((rdF L len 200 0 0 0 (em hd)).1 = -4 → RD (rdF L len 200 0 0 0 (em hd)).2.1 (rdF L len 200 0 0 0 (em hd)).2.2.1 (rdF L len 200 0 0 0 (em hd)).2.2.2 G') → K (rdF L len 200 0 0 0 (em hd)).1 G') : v_X6_readAll G K := by
  unfold v_X6_readAll
  refine r_empty ?_
  intro h2 e2
  unfold v_X6_readAll_b9
  have F2 : FR G h2 := by
    refine ⟨fun c c0 c3 c4 _ => ?_, fun j hj => ?_⟩
    · rw [e2, z_ss_ne c0, z_sa_ne c4, z_sa_ne c3]
    · rw [e2, z_ss_same, upd_ne hj, z_sa_ne (by decide), z_sa_ne (by decide)]
  have t3 : ∀ j, j < 13 → h2 3 j = 0 := fun j hj => by rw [e2, z_ss_ne (by decide), z_sa_ne (by decide), z_sa_same]; exact if_pos hj
  have t4 : ∀ j, j < 42 → h2 4 j = 0 := fun j hj => by rw [e2, z_ss_ne (by decide), z_sa_same]; exact if_pos hj
  have D2 : RD 0 0 (em hd) h2 := ⟨HN_em N1, ⟨t3 0 (by omega), fun p hp => by omega, fun p hp => by omega⟩, ⟨(t4 0 (by omega)).trans rfl, (t4 1 (by omega)).trans rfl, t4 2 (by omega), t4 3 (by omega), fun p hp => by omega, fun g hg => by omega⟩, fun g _ hg => t4 _ (by omega)⟩
  refine z_for 200 (fun i s => ∃ q n k h, FR G s ∧ s 0 13 = nI q ∧ q ≤ len ∧ i ≤ q ∧ RD n k h s ∧ rdF L len 200 0 0 0 (em hd) = rdF L len (200 - i) q n k h) ?_ (Nat.zero_le 200) ⟨0, 0, 0, em hd, F2, by rw [e2, z_ss_same, upd_eq]; rfl, by omega, by omega, D2, rfl⟩
  rintro i s hi ⟨q, n, k, h, F, eq, hq, hiq, D, er⟩ Lp hL
  show v_X6_readAll_b9_s K _ s
  unfold v_X6_readAll_b9_s
  have s0 : s 0 0 = nI len := (F.2 0 (by decide)).trans e0
  have s1 : ∀ j, j < len → s 1 j = L j := fun j hj => by rw [F.1 1 (by decide) (by decide) (by decide) (by decide)]; exact hLt j hj
  rw [s0, eq]
  refine ⟨fun c => ?_, fun c => ?_⟩
  · have c := (nI_leI (by omega) (by omega)).mp c
    have r : rdF L len (200 - i) q n k h = (-4, n, k, h) := by
      rcases Nat.eq_zero_or_pos (200 - i) with z | z
      · rw [z]; rfl
      · obtain ⟨f, hf⟩ : ∃ f, 200 - i = f + 1 := ⟨200 - i - 1, by omega⟩
        rw [hf]; exact if_pos c
    rw [er, r] at hK
    exact hK s F (fun _ => D)
  · have hlt : q < len := by
      rcases Nat.lt_or_ge q len with z | z
      · exact z
      · exact absurd (nI_le z (by omega)) c
    have hi2 : i < 200 := by omega
    obtain ⟨f, hf⟩ : ∃ f, 200 - i = f + 1 := ⟨200 - i - 1, by omega⟩
    have hf2 : 200 - (i + 1) = f := by omega
    have er1 : rdF L len 200 0 0 0 (em hd) = if ik L len n k q = 1 then rdF L len f (qs L len (q + 1) 3) (n + 1) k (npq L len q n h) else if ik L len n k q = 2 then rdF L len f (qs L len (q + 1) 3) n (k + 1) (ngq L len q k h) else (nI q, n, k, h) := by
      rw [er, hf]; exact if_neg (by omega)
    have adv : (ik L len n k q = 1 ∨ ik L len n k q = 2) → qs L len (q + 1) 3 ≤ len ∧ q < qs L len (q + 1) 3 := by
      intro z
      have ht : it3 L len (q + 1) = true := by
        cases hc : it3 L len (q + 1)
        · have e00 : ik L len n k q = 0 := by unfold ik; rw [hc]; simp
          omega
        · rfl
      unfold it3 at ht
      simp only [Bool.and_eq_true] at ht
      have a0 := (ok_lt (by decide) ht.1).1
      have a1 := (ok_lt (by decide) ht.2.1).1
      have a2 := (ok_lt (by decide) ht.2.2).1
      have q1 : qs L len (q + 1) 1 = q + 1 + pnI L len (q + 1) + 1 := rfl
      have q2 : qs L len (q + 1) 2 = qs L len (q + 1) 1 + pnI L len (qs L len (q + 1) 1) + 1 := rfl
      have q3 : qs L len (q + 1) 3 = qs L len (q + 1) 2 + pnI L len (qs L len (q + 1) 2) + 1 := rfl
      omega
    intro y4 e4
    refine r_item s0 eq hl hlt s1 D (fun z G' F' => ?_) (fun z G' F' p1 D' => ?_) (fun z G' F' p1 D' => ?_)
    · refine ⟨fun w => absurd rfl w, fun _ => ?_⟩
      rw [if_neg (by omega), if_neg (by omega)] at er1
      rw [er1] at hK
      rw [e4]
      exact hK G' (FR_tr F F') (fun w => absurd w (nI_ne4 (by omega)))
    · have := adv (Or.inl z)
      exact ⟨fun _ => hL _ hi2 ⟨_, n + 1, k, _, FR_tr F F', p1, this.1, by omega, D', by rw [er1, if_pos z, hf2]⟩, fun w => absurd w (by decide)⟩
    · have := adv (Or.inr z)
      exact ⟨fun _ => hL _ hi2 ⟨_, n, k + 1, _, FR_tr F F', p1, this.1, by omega, D', by rw [er1, if_neg (by omega), if_pos z, hf2]⟩, fun w => absurd w (by decide)⟩
theorem RL_read {X : z_X} {n k : Nat} {h13 hd G' : z_G} {len : Nat} (R : RLn X n k) (e0 : X 13 0 0 = nI len) (S : SC h13 (X 13 2) len) (N1 : NF hd) (F : FR (X 19) G') : RLn (z_up (z_up (z_up X 13 h13) 1 hd) 19 G') n k := by
  have N := R.2.2.2.2.2
  refine RL_frame R (fun i h1 h2 h3 h4 => by rw [z_up_ne h4, z_up_ne h1, z_up_ne h3]) ?_ ?_ ?_ ?_ (fun c hc => ?_) (fun j hj => ?_)
  · rw [z_up_ne (by decide), z_up_same]; exact N1
  · rw [z_up_ne (by decide), z_up_ne (by decide), z_up_ne (by decide)]; exact N 2 (by decide)
  · rw [z_up_ne (by decide), z_up_ne (by decide), z_up_same, S.1, e0]
  · rw [z_up_ne (by decide), z_up_ne (by decide), z_up_same, S.2]
  · rw [z_up_same]; exact F.1 c (by omega) (by omega) (by omega) (by omega)
  · rw [z_up_same]; exact F.2 j (by omega)
theorem t_fault {X : z_X} {n k : Nat} (R : RLn X n k) : v_X5_fault X (fun r X' => v_X6_fault (X' 19) (fun r2 h' => r = r2 ∧ RLE (z_up X' 19 h'))) := by
  obtain ⟨⟨len, l1, l2, l3, l4⟩, -, -, -, -, N⟩ := id R
  unfold v_X5_fault v_X6_fault
  refine s_into (L := X 13 2) (len := len) ⟨l1, rfl⟩ l3 (N 1 (by decide)) (fun h' S' H' => ?_)
  dsimp only
  rw [z_up_ne (show 19 ≠ 1 by decide), z_up_ne (show 19 ≠ 13 by decide)]
  exact r_all (L := X 13 2) (hd := X 1) l2 l3 l4 (N 1 (by decide)) (fun G' F _ => ⟨rfl, n, k, RL_read R l1 S' H'.2 F⟩)
theorem t_layAll {X : z_X} {n k : Nat} (R : RLn X n k) : v_X5_lay X (fun r X' => v_X6_lay (X' 19) (fun r2 h' => r = r2 ∧ RLE (z_up X' 19 h'))) := by
  obtain ⟨⟨len, l1, l2, l3, l4⟩, -, ⟨u, x, hu, hx, u0, u1, u2, old⟩, ⟨w, y, hw, hy, w0, w1, w2, wld⟩, -, N⟩ := id R
  unfold v_X5_lay
  refine s_into (L := X 13 2) (len := len) ⟨l1, rfl⟩ l3 (N 1 (by decide)) (fun h' S' H' => ?_)
  generalize hrd : rdF (X 13 2) len 200 0 0 0 (em (X 1)) = rd at H'
  obtain ⟨r, n', k', hd⟩ := rd
  dsimp only at H' ⊢
  have hn6 := H'.1.2.2.1
  have ref : ∀ (a : Int32) (X' : z_X), X' 19 = X 19 → (¬ r = -4 → ∀ G', FR (X 19) G' → a = -2 ∧ RLE (z_up X' 19 G')) → (r = -4 → ∀ G', FR (X 19) G' → RD n' k' hd G' → (¬ 2 ≤ n' → a = -2 ∧ RLE (z_up X' 19 G')) ∧ (2 ≤ n' → a = nI n' ∧ RLE (z_up X' 19 (z_ss (z_ss (z_ss (z_sa (z_sa G' 2 (asd (G' 3) (G' 2) 13)) 5 (asd (G' 4) (G' 5) 42)) 0 12 0) 0 8 0) 0 10 0)))) → v_X6_lay (X' 19) (fun r2 h' => a = r2 ∧ RLE (z_up X' 19 h')) := by
    intro a X' e19 k1 k2
    unfold v_X6_lay
    rw [e19]
    refine r_all (L := X 13 2) (hd := X 1) l2 l3 l4 (N 1 (by decide)) (fun G' F hD => ?_)
    rw [hrd] at hD ⊢
    dsimp only at hD ⊢
    refine ⟨fun c => k1 c G' F, fun c => ?_⟩
    have D := hD c
    obtain ⟨q1, q2⟩ := k2 c G' F D
    rw [zn0, D.2.1.1]
    refine ⟨vi (a := 0) (by omega) (by omega), fun d => r_begin ⟨vi (a := 0) (by omega) (by omega), ?_⟩, fun d => q1 (fun z => d (nI_le (a := 2) z (by omega)))⟩
    have en : z_ss (z_ss (z_ss (z_sa (z_sa G' 2 (asd (G' 3) (G' 2) 13)) 5 (asd (G' 4) (G' 5) 42)) 0 12 0) 0 8 0) 0 10 0 2 0 = nI n' := by
      rw [z_ss_ne (by decide), z_ss_ne (by decide), z_ss_ne (by decide), z_sa_ne (by decide), z_sa_same, asd_in (by decide)]; exact D.2.1.1
    rw [en]
    exact q2 ((nI_leI (a := 2) (by omega) (by omega)).mp d)
  have b19 : z_up (z_up X 13 h') 1 hd 19 = X 19 := by rw [z_up_ne (by decide), z_up_ne (by decide)]
  refine ⟨fun c => ref _ _ b19 (fun _ G' F => ⟨rfl, n, k, RL_read R l1 S' H'.2 F⟩) (fun q => absurd q c), fun c => ?_⟩
  rw [z_up_same, H'.1.1]
  refine ⟨fun d => ?_, fun d => ref _ _ b19 (fun q => absurd c q) (fun _ G' F D => ⟨fun _ => ⟨rfl, n, k, RL_read R l1 S' H'.2 F⟩, fun z => absurd (nI_le (a := 2) z (by omega)) d⟩)⟩
  have hn2 : 2 ≤ n' := (nI_leI (a := 2) (by omega) (by omega)).mp d
  refine s_copy (by decide) (by rw [z_up_ne (by decide), z_up_ne (by decide)]; exact N 0 (by decide)) (by rw [z_up_same]; exact H'.2) ?_
  rw [z_up_same]
  intro Y6 e6 Y7 e7 Y8 e8
  have o : ∀ i, i ≠ 0 → i ≠ 1 → i ≠ 13 → i ≠ 14 → i ≠ 15 → i ≠ 16 → Y8 i = X i := by
    intro i a0 a1 a13 a14 a15 a16
    rw [e8, z_up_ne a16, e7, z_up_ne a15, e6, z_up_ne a14, z_up_ne a0, z_up_ne a1, z_up_ne a13]
  have y0 : Y8 0 = hd := by rw [e8, z_up_ne (by decide), e7, z_up_ne (by decide), e6, z_up_ne (by decide), z_up_same]
  have y1 : Y8 1 = hd := by rw [e8, z_up_ne (by decide), e7, z_up_ne (by decide), e6, z_up_ne (by decide), z_up_ne (by decide), z_up_same]
  have y13 : Y8 13 = h' := by rw [e8, z_up_ne (by decide), e7, z_up_ne (by decide), e6, z_up_ne (by decide), z_up_ne (by decide), z_up_ne (by decide), z_up_same]
  have y14 : Y8 14 = z_ss (X 14) 0 0 0 := by rw [e8, z_up_ne (by decide), e7, z_up_ne (by decide), e6, z_up_same, z_up_ne (by decide), z_up_ne (by decide), z_up_ne (by decide)]
  have y15 : Y8 15 = z_ss (X 15) 0 0 0 := by rw [e8, z_up_ne (by decide), e7, z_up_same, e6, z_up_ne (by decide), z_up_ne (by decide), z_up_ne (by decide), z_up_ne (by decide)]
  have y16 : Y8 16 = z_ss (X 16) 0 0 0 := by rw [e8, z_up_same, e7, z_up_ne (by decide), e6, z_up_ne (by decide), z_up_ne (by decide), z_up_ne (by decide), z_up_ne (by decide)]
  rw [y0, H'.1.1]
  refine ref _ _ (o 19 (by decide) (by decide) (by decide) (by decide) (by decide) (by decide)) (fun q => absurd c q) (fun _ G' F D => ⟨fun z => absurd hn2 z, fun _ => ⟨rfl, n', k', ?_⟩⟩)
  obtain ⟨DH, DT, DW, -⟩ := D
  have c19 : ∀ x, x ≠ 0 → x ≠ 2 → x ≠ 3 → x ≠ 4 → x ≠ 5 → x ≠ 14 → z_ss (z_ss (z_ss (z_sa (z_sa G' 2 (asd (G' 3) (G' 2) 13)) 5 (asd (G' 4) (G' 5) 42)) 0 12 0) 0 8 0) 0 10 0 x = X 19 x := by
    intro x a0 a2 a3 a4 a5 a14
    rw [z_ss_ne a0, z_ss_ne a0, z_ss_ne a0, z_sa_ne a5, z_sa_ne a2]
    exact F.1 x a0 a3 a4 a14
  refine ⟨⟨len, ?_, ?_, l3, fun j hj => ?_⟩, ⟨?_, hn2, ?_, ?_⟩, ⟨0, x, by omega, hx, ?_, ?_, ?_, fun j hj => by omega⟩, ⟨0, y, by omega, hy, ?_, ?_, ?_, fun j hj => by omega⟩, ⟨0, by omega, ?_, ?_, fun j hj => by omega⟩, fun i hi => ?_⟩
  · rw [z_up_ne (by decide), y13]; exact S'.1
  · rw [z_up_same, z_ss_same, upd_ne (by decide), z_ss_same, upd_ne (by decide), z_ss_same, upd_ne (by decide), z_sa_ne (by decide), z_sa_ne (by decide), F.2 0 (by decide)]; exact l2
  · rw [z_up_same, c19 1 (by decide) (by decide) (by decide) (by decide) (by decide) (by decide), z_up_ne (by decide), y13, S'.2]; exact l4 j hj
  · rw [z_up_ne (by decide), y0]; exact H'
  · rw [z_up_ne (by decide), y0, z_up_same, z_ss_ne (by decide), z_ss_ne (by decide), z_ss_ne (by decide), z_sa_ne (by decide), z_sa_same]
    exact ⟨by rw [asd_in (by decide)]; exact DT.1, fun p hp => by rw [asd_in (by omega)]; exact DT.2.1 p hp, fun p hp => by rw [asd_in (by omega)]; exact DT.2.2 p hp⟩
  · rw [z_up_ne (by decide), y0, z_up_same, z_ss_ne (by decide), z_ss_ne (by decide), z_ss_ne (by decide), z_sa_same]
    exact RR_42 H'.1 DW (fun j hj => asd_in hj)
  · rw [z_up_ne (by decide), y14, z_ss_same, upd_eq]; rfl
  · rw [z_up_ne (by decide), y14, z_ss_same, upd_ne (by decide)]; exact u1
  · rw [z_up_same, z_ss_same, upd_ne (by decide), z_ss_same, upd_eq]; rfl
  · rw [z_up_ne (by decide), y15, z_ss_same, upd_eq]; rfl
  · rw [z_up_ne (by decide), y15, z_ss_same, upd_ne (by decide)]; exact w1
  · rw [z_up_same, z_ss_same, upd_eq]; rfl
  · rw [z_up_ne (by decide), y16, z_ss_same, upd_eq]; rfl
  · rw [z_up_same, z_ss_same, upd_ne (by decide), z_ss_same, upd_ne (by decide), z_ss_same, upd_eq]; rfl
  · rw [z_up_ne (by omega)]
    by_cases a0 : i = 0
    · rw [a0, y0]; exact H'.2
    · by_cases a1 : i = 1
      · rw [a1, y1]; exact H'.2
      · rw [o i a0 a1 (by omega) (by omega) (by omega) (by omega)]; exact N i hi
