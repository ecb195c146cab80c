/-! ===== PURE: calls: likely ===== -/
def lkS (h : z_G) (p m : Nat) : Nat → Nat × Nat × Nat
  | 0 => (1, 1, 0)
  | g + 1 => if (lkS h p m g).2.2 < m ∧ can h p g = true then (if z_n (h 5 (z_n (h 9 g))) = 0 then ((lkS h p m g).1, (lkS h p m g).2.1, (lkS h p m g).2.2 + 1) else ((lkS h p m g).1 * z_n (h 5 p), (lkS h p m g).2.1 * (z_n (h 5 p) + z_n (h 5 (z_n (h 9 g)))), (lkS h p m g).2.2 + 1)) else lkS h p m g
theorem lk_no {h : z_G} {p m g : Nat} (c : ¬ ((lkS h p m g).2.2 < m ∧ can h p g = true)) : lkS h p m (g + 1) = lkS h p m g := if_neg c
theorem lk_0 {h : z_G} {p m g : Nat} (c : (lkS h p m g).2.2 < m ∧ can h p g = true) (o : z_n (h 5 (z_n (h 9 g))) = 0) : lkS h p m (g + 1) = ((lkS h p m g).1, (lkS h p m g).2.1, (lkS h p m g).2.2 + 1) := (if_pos c).trans (if_pos o)
theorem lk_1 {h : z_G} {p m g : Nat} (c : (lkS h p m g).2.2 < m ∧ can h p g = true) (o : ¬ z_n (h 5 (z_n (h 9 g))) = 0) : lkS h p m (g + 1) = ((lkS h p m g).1 * z_n (h 5 p), (lkS h p m g).2.1 * (z_n (h 5 p) + z_n (h 5 (z_n (h 9 g)))), (lkS h p m g).2.2 + 1) := (if_pos c).trans (if_neg o)
theorem lk_end {h : z_G} {p m g : Nat} (c : ¬ (lkS h p m g).2.2 < m) : ∀ j, lkS h p m (g + j) = lkS h p m g
  | 0 => rfl
  | j + 1 => by
    have ih := lk_end c j
    rw [← Nat.add_assoc, lk_no (by rw [ih]; exact fun q => c q.1), ih]
theorem lk_bd {n k : Nat} {h : z_G} {p m : Nat} (H : HI n k h) (hp : p < n) (h0 : ¬ h 5 p = 0) : ∀ g, g ≤ k → 1 ≤ (lkS h p m g).1 ∧ 1 ≤ (lkS h p m g).2.1 ∧ (lkS h p m g).1 ≤ 40 ^ (lkS h p m g).2.2 ∧ (lkS h p m g).2.1 ≤ 80 ^ (lkS h p m g).2.2 ∧ (lkS h p m g).2.2 ≤ m
  | 0, _ => by simp [lkS]
  | g + 1, hg => by
    have ih := lk_bd (m := m) H hp h0 g (by omega)
    obtain ⟨a1, a2, a3, a4, a5⟩ := ih
    obtain ⟨P, hP, eP⟩ := H.2.2.2.2.2.2.1 p hp
    obtain ⟨o, ho, eo⟩ := H.2.2.2.2.1 g (by omega)
    obtain ⟨O, hO, eO⟩ := H.2.2.2.2.2.2.1 o ho
    have hn6 := H.2.2.1
    have zP : z_n (h 5 p) = P := by rw [eP, z_n_nI (by omega)]
    have zO : z_n (h 5 (z_n (h 9 g))) = O := by rw [eo, z_n_nI (by omega), eO, z_n_nI (by omega)]
    have hP1 : 1 ≤ P := by
      rcases Nat.eq_zero_or_pos P with q | q
      · exact absurd (by rw [eP, q]; rfl) h0
      · exact q
    by_cases c : (lkS h p m g).2.2 < m ∧ can h p g = true
    · by_cases z : z_n (h 5 (z_n (h 9 g))) = 0
      · rw [lk_0 c z]
        dsimp only
        refine ⟨a1, a2, ?_, ?_, by omega⟩
        · exact Nat.le_trans a3 (Nat.pow_le_pow_right (by omega) (by omega))
        · exact Nat.le_trans a4 (Nat.pow_le_pow_right (by omega) (by omega))
      · rw [lk_1 c z, zP, zO]
        dsimp only
        refine ⟨Nat.mul_pos a1 hP1, Nat.mul_pos a2 (by omega), ?_, ?_, by omega⟩
        · show _ ≤ 40 ^ ((lkS h p m g).2.2 + 1)
          rw [Nat.pow_succ]; exact Nat.mul_le_mul a3 hP
        · show _ ≤ 80 ^ ((lkS h p m g).2.2 + 1)
          rw [Nat.pow_succ]; exact Nat.mul_le_mul a4 (by omega)
    · rw [lk_no c]; exact ⟨a1, a2, a3, a4, a5⟩
theorem pow40 {t : Nat} (h : t ≤ 4) : 40 ^ t ≤ 2560000 := Nat.le_trans (Nat.pow_le_pow_right (by omega) h) (by decide)
theorem pow80 {t : Nat} (h : t ≤ 4) : 80 ^ t ≤ 40960000 := Nat.le_trans (Nat.pow_le_pow_right (by omega) h) (by decide)
theorem gcd_st (u v : Nat) : Nat.gcd v (u % v) = Nat.gcd u v := by
  rw [Nat.gcd_comm v, ← Nat.gcd_rec, Nat.gcd_comm]
theorem mod_half {u v : Nat} (h0 : 0 < v) (h : v < u) : 2 * (u % v) ≤ u := by
  have h1 := Nat.mod_lt u h0
  have h2 := Nat.div_add_mod u v
  have h3 : 1 ≤ u / v := Nat.div_pos (by omega) h0
  have h4 : v * 1 ≤ v * (u / v) := Nat.mul_le_mul_left _ h3
  omega
theorem s_gcd {a b : Nat} {K : Int32 → Prop} (ha : a ≤ 2560000) (hb : b ≤ 40960000) (hK : K (nI (Nat.gcd a b))) : v_X5_commonDivisor (nI a) (nI b) K := by
  unfold v_X5_commonDivisor v_X5_commonDivisor_b7
  refine z_for 100 (fun i q => ∃ u v, q = (nI u, nI v, nI i) ∧ u < 2 ^ 31 ∧ v < 2 ^ 31 ∧ Nat.gcd u v = Nat.gcd a b ∧ ((i = 0 ∧ u * v ≤ a * b) ∨ (v < u ∧ u * v * 2 ^ i ≤ 2 * (a * b)))) ?_ (Nat.zero_le 100) ⟨a, b, rfl, by omega, by omega, rfl, Or.inl ⟨rfl, Nat.le_refl _⟩⟩
  rintro i ⟨x2, x3, x4⟩ hi ⟨u, v, e, hu, hv, hg, hd⟩ Lp hL
  obtain ⟨rfl, e2⟩ := Prod.mk.inj e
  obtain ⟨rfl, rfl⟩ := Prod.mk.inj e2
  show v_X5_commonDivisor_b7_s K _ (nI u) (nI v) (nI i)
  unfold v_X5_commonDivisor_b7_s
  have done : v = 0 → K (nI u) := by
    intro q
    rw [q, Nat.gcd_zero_right] at hg
    rw [hg]; exact hK
  refine ⟨fun c => done ?_, fun c => ⟨fun d => done ((nI_eq (b := 0) hv (by omega)).mp d), fun d => ⟨d, ?_⟩⟩⟩
  · have : i = 100 := by have := (nI_leI (a := 100) (by omega) (by omega)).mp c; omega
    subst this
    rcases Nat.eq_zero_or_pos v with q | q
    · exact q
    · exfalso
      rcases hd with ⟨z, -⟩ | ⟨huv, hP⟩
      · omega
      have h1 : 1 ≤ u * v := Nat.mul_pos (by omega) q
      have h2 : 1 * 2 ^ 100 ≤ u * v * 2 ^ 100 := Nat.mul_le_mul_right _ h1
      have h3 : a * b ≤ 2560000 * 40960000 := Nat.mul_le_mul ha hb
      have h4 : 1 * 2 ^ 100 ≤ 2 * (2560000 * 40960000) := Nat.le_trans h2 (Nat.le_trans hP (Nat.mul_le_mul_left _ h3))
      exact absurd h4 (by decide)
  · have hlt : i < 100 := by
      rcases Nat.lt_or_ge i 100 with q | q
      · exact q
      · exact absurd (nI_le (a := 100) q (by omega)) c
    have v0 : 0 < v := by
      rcases Nat.eq_zero_or_pos v with q | q
      · exact absurd (by rw [q]; rfl) d
      · exact q
    intro y4 e4 y5 e5
    rw [rem_nI hu v0 hv] at e4
    have hm := Nat.mod_lt u v0
    refine hL (_, _, _) hlt ⟨v, u % v, by rw [e4, e5, nI_1], hv, by omega, (gcd_st u v).trans hg, Or.inr ⟨hm, ?_⟩⟩
    rcases hd with ⟨q, hP⟩ | ⟨q, hP⟩
    · subst q
      have h1 : v * (u % v) ≤ v * u := Nat.mul_le_mul_left _ (Nat.mod_le u v)
      rw [Nat.mul_comm v u] at h1
      have h2 := Nat.mul_le_mul_right 2 (Nat.le_trans h1 hP)
      rw [Nat.mul_comm (a * b)] at h2
      exact h2
    · have h3 : v * (2 * (u % v)) ≤ v * u := Nat.mul_le_mul_left _ (mod_half v0 q)
      have e : v * (u % v) * 2 ^ (i + 1) = v * (2 * (u % v)) * 2 ^ i := by
        rw [Nat.pow_succ, Nat.mul_comm (2 ^ i) 2, ← Nat.mul_assoc, Nat.mul_assoc v, Nat.mul_comm (u % v) 2]
      rw [e]
      rw [Nat.mul_comm v u] at h3
      exact Nat.le_trans (Nat.mul_le_mul_right _ h3) hP
theorem r_gcd {G : z_G} {a b : Nat} {x3 : Int32} {K : Int32 → z_G → Prop} (ha : a < 2 ^ 31) (hb : b < 2 ^ 31) (ha1 : 1 ≤ a) (h1 : ¬ x3 = 0 → K (nI (b / Nat.gcd a b)) G) (h2 : x3 = 0 → K (nI (a / Nat.gcd a b)) G) : v_X6_likely_b199 K G x3 (nI a) (nI b) (nI a) (nI b) := by
  unfold v_X6_likely_b199
  refine z_fp_of (fun q => ∃ u v, q = (G, x3, nI a, nI b, nI u, nI v) ∧ u < 2 ^ 31 ∧ v < 2 ^ 31 ∧ Nat.gcd u v = Nat.gcd a b) (fun q => z_n q.2.2.2.2.2) ?_ ⟨a, b, rfl, ha, hb, rfl⟩
  rintro ⟨G', y3, y4, y5, y7, y8⟩ ⟨u, v, e, hu, hv, hg⟩ Lp hL
  obtain ⟨rfl, e1⟩ := Prod.mk.inj e
  obtain ⟨rfl, e2⟩ := Prod.mk.inj e1
  obtain ⟨rfl, e3⟩ := Prod.mk.inj e2
  obtain ⟨rfl, e4⟩ := Prod.mk.inj e3
  obtain ⟨rfl, rfl⟩ := Prod.mk.inj e4
  show v_X6_likely_b199_s K _ G' y3 (nI a) (nI b) (nI u) (nI v)
  unfold v_X6_likely_b199_s
  have g0 : 0 < Nat.gcd a b := Nat.gcd_pos_of_pos_left _ ha1
  have gl : Nat.gcd a b ≤ a := Nat.gcd_le_left _ ha1
  refine ⟨fun c => ?_, fun c => ⟨c, ?_⟩⟩
  · have : v = 0 := (nI_eq (b := 0) hv (by omega)).mp c
    subst this
    rw [Nat.gcd_zero_right] at hg
    subst hg
    have hne : ¬ nI (Nat.gcd a b) = 0 := fun q => by
      have := (nI_eq (b := 0) (by omega) (by omega)).mp q
      omega
    rw [pk_div (by omega) (by omega) (by omega), pk_div (by omega) (by omega) (by omega)]
    exact ⟨fun d => ⟨hne, h1 d⟩, fun d => ⟨hne, h2 d⟩⟩
  · have v0 : 0 < v := by
      rcases Nat.eq_zero_or_pos v with q | q
      · exact absurd (by rw [q]; rfl) c
      · exact q
    intro y17 e17
    rw [rem_nI hu v0 hv] at e17
    have hm := Nat.mod_lt u v0
    refine hL (_, _, _, _, _, _) ⟨v, u % v, by rw [e17], hv, by omega, (gcd_st u v).trans hg⟩ ?_
    show z_n y17 < z_n (nI v)
    rw [e17, z_n_nI (by omega), z_n_nI hv]
    exact hm
theorem s_likely {X : z_X} {n k p m : Nat} {x3 : Int32} {K : Int32 → Prop} (H : HI n k (X 0)) (hp : p < n) (hm : m ≤ 4) (h0 : ¬ X 0 5 p = 0) (h1 : ¬ x3 = 0 → K (nI ((lkS (X 0) p m k).2.1 / Nat.gcd (lkS (X 0) p m k).1 (lkS (X 0) p m k).2.1))) (h2 : x3 = 0 → K (nI ((lkS (X 0) p m k).1 / Nat.gcd (lkS (X 0) p m k).1 (lkS (X 0) p m k).2.1))) : v_X5_likely_b57 X K (nI p) (nI m) x3 1 1 0 0 := by
  have hn6 := H.2.2.1
  have hk8 := H.2.2.2.1
  have fin : ∀ g, g ≤ k → lkS (X 0) p m k = lkS (X 0) p m g → v_X5_likely_b156 X K x3 (nI (lkS (X 0) p m g).1) (nI (lkS (X 0) p m g).2.1) := by
    intro g hg e
    obtain ⟨a1, a2, a3, a4, a5⟩ := lk_bd (m := m) H hp h0 g hg
    have := pow40 (Nat.le_trans a5 hm)
    have := pow80 (Nat.le_trans a5 hm)
    rw [e] at h1 h2
    unfold v_X5_likely_b156
    have g0 : 0 < Nat.gcd (lkS (X 0) p m g).1 (lkS (X 0) p m g).2.1 := Nat.gcd_pos_of_pos_left _ a1
    have gl : Nat.gcd (lkS (X 0) p m g).1 (lkS (X 0) p m g).2.1 ≤ (lkS (X 0) p m g).1 := Nat.gcd_le_left _ a1
    refine s_gcd (by omega) (by omega) ⟨fun _ => ?_, fun c => absurd (nI_lt (a := 0) g0 (by omega)) c⟩
    have hne : ¬ nI (Nat.gcd (lkS (X 0) p m g).1 (lkS (X 0) p m g).2.1) = 0 := fun q => by
      have := (nI_eq (b := 0) (by omega) (by omega)).mp q
      omega
    rw [pk_div (by omega) (by omega) (by omega), pk_div (by omega) (by omega) (by omega)]
    exact ⟨fun d => ⟨hne, h1 d⟩, fun d => ⟨hne, h2 d⟩⟩
  unfold v_X5_likely_b57
  refine z_for k (fun g q => q = (nI p, nI m, x3, nI (lkS (X 0) p m g).1, nI (lkS (X 0) p m g).2.1, nI (lkS (X 0) p m g).2.2, nI g)) ?_ (Nat.zero_le k) rfl
  rintro g ⟨y1, y2, y3, y4, y5, y6, y7⟩ hg e Lp hL
  obtain ⟨rfl, e1⟩ := Prod.mk.inj e
  obtain ⟨rfl, e2⟩ := Prod.mk.inj e1
  obtain ⟨rfl, e3⟩ := Prod.mk.inj e2
  obtain ⟨rfl, e4⟩ := Prod.mk.inj e3
  obtain ⟨rfl, e5⟩ := Prod.mk.inj e4
  obtain ⟨rfl, rfl⟩ := Prod.mk.inj e5
  show v_X5_likely_b57_s X K _ (nI p) (nI m) y3 (nI (lkS (X 0) p m g).1) (nI (lkS (X 0) p m g).2.1) (nI (lkS (X 0) p m g).2.2) (nI g)
  unfold v_X5_likely_b57_s
  obtain ⟨a1, a2, a3, a4, a5⟩ := lk_bd (m := m) H hp h0 g hg
  rw [H.2.1]
  refine ⟨fun c => fin g hg ?_, fun c => ⟨fun d => fin g hg ?_, fun d => ?_⟩⟩
  · have : g = k := by have := (nI_leI (by omega) (by omega)).mp c; omega
    rw [this]
  · have : ¬ (lkS (X 0) p m g).2.2 < m := by have := (nI_leI (by omega) (by omega)).mp d; omega
    rw [show k = g + (k - g) by omega]
    exact lk_end this _
  · have hgk : g < k := by
      rcases Nat.lt_or_ge g k with q | q
      · exact q
      · exact absurd (nI_le q (by omega)) c
    have ht : (lkS (X 0) p m g).2.2 < m := by
      rcases Nat.lt_or_ge (lkS (X 0) p m g).2.2 m with q | q
      · exact q
      · exact absurd (nI_le q (by omega)) d
    obtain ⟨P, hP, eP⟩ := H.2.2.2.2.2.2.1 p hp
    obtain ⟨o, ho, eo⟩ := H.2.2.2.2.1 g hgk
    obtain ⟨O, hO, eO⟩ := H.2.2.2.2.2.2.1 o ho
    have zP : z_n (X 0 5 p) = P := by rw [eP, z_n_nI (by omega)]
    have zO : z_n (X 0 5 (z_n (X 0 9 g))) = O := by rw [eo, z_n_nI (by omega), eO, z_n_nI (by omega)]
    refine s_can (by omega) (by omega) (br1 (fun f => ?_) (fun f => ?_))
    · intro y18 e18
      rw [zi (show g < 1000 by omega), eo, zi (show o < 1000 by omega), zi (show p < 1000 by omega), eO, eP]
      refine ⟨vi (by omega) (by omega), vi (by omega) (by omega), ?_⟩
      intro y21 e21
      subst e21
      refine ⟨fun z => ?_, fun z => ⟨vi (by omega) (by omega), ?_⟩⟩
      · have z0 : O = 0 := by have := (nI_leI (b := 0) (by omega) (by omega)).mp z; omega
        intro y23 e23
        refine hL (_, _, _, _, _, _, _) hgk ?_
        rw [lk_0 ⟨ht, f⟩ (by rw [zO]; exact z0), e18, e23, nI_1, nI_1]
      · have z0 : ¬ O = 0 := fun q => z (by rw [q]; exact Int32.le_refl _)
        intro y25 e25
        refine ⟨vi (by omega) (by omega), ?_⟩
        intro y27 e27 y28 e28
        refine hL (_, _, _, _, _, _, _) hgk ?_
        rw [lk_1 ⟨ht, f⟩ (by rw [zO]; exact z0), zO, zP, e18, e25, e27, e28, nI_1, nI_1, nI_add, pk_mul, pk_mul]
    · intro y29 e29
      refine hL (_, _, _, _, _, _, _) hgk ?_
      rw [lk_no (fun q => bx q.2 f), e29, nI_1]
theorem r_likely {G h : z_G} {n k p m : Nat} {x3 : Int32} {K : Int32 → z_G → Prop} (H : HI n k h) (T : TR n h (G 2)) (W : RR n k h (G 6)) (W5 : RR n k h (G 5)) (hp : p < n) (hm : m ≤ 4) (h0 : ¬ h 5 p = 0) (h1 : ¬ x3 = 0 → K (nI ((lkS h p m k).2.1 / Nat.gcd (lkS h p m k).1 (lkS h p m k).2.1)) G) (h2 : x3 = 0 → K (nI ((lkS h p m k).1 / Nat.gcd (lkS h p m k).1 (lkS h p m k).2.1)) G) : v_X6_likely_b62 K G (nI p) x3 1 1 (nI m) 0 := by
  have hn6 := H.2.2.1
  have hk8 := H.2.2.2.1
  unfold v_X6_likely_b62
  refine z_for k (fun g q => q = (G, nI p, x3, nI (lkS h p m g).1, nI (lkS h p m g).2.1, nI (m - (lkS h p m g).2.2), nI g)) ?_ (Nat.zero_le k) rfl
  rintro g ⟨G', y1, y3, y4, y5, y6, y7⟩ hg e Lp hL
  obtain ⟨rfl, e1⟩ := Prod.mk.inj e
  obtain ⟨rfl, e2⟩ := Prod.mk.inj e1
  obtain ⟨rfl, e3⟩ := Prod.mk.inj e2
  obtain ⟨rfl, e4⟩ := Prod.mk.inj e3
  obtain ⟨rfl, e5⟩ := Prod.mk.inj e4
  obtain ⟨rfl, rfl⟩ := Prod.mk.inj e5
  show v_X6_likely_b62_s K _ G' (nI p) y3 (nI (lkS h p m g).1) (nI (lkS h p m g).2.1) (nI (m - (lkS h p m g).2.2)) (nI g)
  unfold v_X6_likely_b62_s
  obtain ⟨a1, a2, a3, a4, a5⟩ := lk_bd (m := m) H hp h0 g hg
  have b40 := pow40 (Nat.le_trans a5 hm)
  have b80 := pow80 (Nat.le_trans a5 hm)
  rw [zn2, W5.2.2.1]
  refine ⟨vi (a := 2) (by omega) (by omega), fun c => ?_, fun c => ?_⟩
  · have : g = k := by have := (nI_leI (by omega) (by omega)).mp c; omega
    subst this
    exact r_gcd (by omega) (by omega) a1 h1 h2
  · have hgk : g < k := by
      rcases Nat.lt_or_ge g k with q | q
      · exact q
      · exact absurd (nI_le q (by omega)) c
    obtain ⟨P, hP, eP⟩ := H.2.2.2.2.2.2.1 p hp
    obtain ⟨o, ho, eo⟩ := H.2.2.2.2.1 g hgk
    obtain ⟨O, hO, eO⟩ := H.2.2.2.2.2.2.1 o ho
    have zP : z_n (h 5 p) = P := by rw [eP, z_n_nI (by omega)]
    have zO : z_n (h 5 (z_n (h 9 g))) = O := by rw [eo, z_n_nI (by omega), eO, z_n_nI (by omega)]
    have hcan : cn8 k h p g = can h p g := by simp [cn8, hgk]
    obtain ⟨-, -, r9, -⟩ := W5.2.2.2.2.2 g hgk
    have m1' : ∀ x : Int32, x * 1 = x := fun x => Int32.mul_one x
    have s0 : ∀ x : Int32, x - 0 = x := fun x => Int32.sub_zero x
    have no : ¬ ((lkS h p m g).2.2 < m ∧ can h p g = true) → v_X6_likely_b92 K (fun h x1 x3 x4 x5 x6 x7 => Lp (h, x1, x3, x4, x5, x6, x7)) G' (nI p) y3 (nI (lkS h p m g).1) (nI (lkS h p m g).2.1) (nI (m - (lkS h p m g).2.2)) (nI g) := by
      intro hc
      unfold v_X6_likely_b92 v_X6_likely_b93
      refine ⟨fun _ => ?_, fun q => absurd rfl q⟩
      unfold v_X6_likely_b121
      refine ⟨fun _ => ?_, fun q => absurd rfl q⟩
      unfold v_X6_likely_b135
      intro y21 e21
      refine ⟨fun _ => ?_, fun q => absurd (Int32.le_refl _) q⟩
      unfold v_X6_likely_b157
      intro y23 e23
      refine ⟨fun _ => ?_, fun q => absurd (Int32.le_refl _) q⟩
      intro y25 e25 y26 e26
      refine hL (_, _, _, _, _, _, _) hgk ?_
      rw [lk_no hc, e21, e23, e25, e26, nI_1, m1', m1', s0]
    refine ⟨fun d => no (fun q => ?_), fun d => r_isFit H T W (by omega) hp ?_⟩
    · have := (nI_leI (b := 0) (by omega) (by omega)).mp d
      omega
    · have ht : (lkS h p m g).2.2 < m := by
        rcases Nat.lt_or_ge (lkS h p m g).2.2 m with q | q
        · exact q
        · exact absurd (nI_le (b := 0) (by omega) (by omega)) d
      rw [hcan]
      refine br0 (fun f => no (fun q => bx q.2 f)) (fun f => ?_)
      have e6 : nI (m - (lkS h p m g).2.2) - 1 = nI (m - ((lkS h p m g).2.2 + 1)) := by
        rw [show m - (lkS h p m g).2.2 = (m - ((lkS h p m g).2.2 + 1)) + 1 by omega, nI_pred]
      unfold v_X6_likely_b93
      refine ⟨fun q => absurd q (by decide), fun _ => ?_⟩
      rw [i26, zi (show 26 + g < 1000 by omega), r9, eo, i4, zi (show 4 + o < 1000 by omega), W5.2.2.2.2.1 o ho, eO]
      refine ⟨vi (by omega) (by omega), vi (by omega) (by omega), ?_⟩
      unfold v_X6_likely_b121
      refine ⟨fun q => absurd q (by decide), fun _ => ?_⟩
      unfold v_X6_likely_b135
      intro y21 e21
      rw [i4, zi (show 4 + p < 1000 by omega), W5.2.2.2.2.1 p hp, eP]
      unfold v_X6_likely_b157
      refine ⟨fun z => ?_, fun z => ⟨vi (by omega) (by omega), ?_⟩⟩
      · have z0 : O = 0 := by have := (nI_leI (b := 0) (by omega) (by omega)).mp z; omega
        intro y23 e23
        refine ⟨fun _ => ?_, fun q => absurd z q⟩
        intro y25 e25 y26 e26
        refine hL (_, _, _, _, _, _, _) hgk ?_
        rw [lk_0 ⟨ht, f⟩ (by rw [zO]; exact z0), e21, e23, e25, e26, e6, nI_1, m1', m1']
      · have z0 : ¬ O = 0 := fun q => z (by rw [q]; exact Int32.le_refl _)
        intro y23 e23
        rw [i4, zi (show 4 + p < 1000 by omega), W5.2.2.2.2.1 p hp, eP]
        refine ⟨fun q => absurd q z, fun _ => ⟨vi (by omega) (by omega), ?_⟩⟩
        intro y28 e28 y29 e29
        refine hL (_, _, _, _, _, _, _) hgk ?_
        rw [lk_1 ⟨ht, f⟩ (by rw [zO]; exact z0), zO, zP, e21, e23, e28, e29, e6, nI_1, nI_add, pk_mul, pk_mul]
theorem t_likely {X : z_X} {n k : Nat} (R : RLn X n k) (x y z : Int32) : v_X5_likely X x y z (fun r => v_X6_likely (X 19) x y z (fun r2 h' => r = r2 ∧ RLE (z_up X 19 h'))) := by
  obtain ⟨-, ⟨H, hn2, T, W⟩, -⟩ := id R
  have hn6 := H.1.2.2.1
  unfold v_X5_likely v_X6_likely
  refine c_isPerson H.1.1 (br0 (fun w => r_isPerson T.1 (br0 (fun _ => ⟨rfl, RE_bad R⟩) (fun q => bx q w))) (fun w => s_within (br0 (fun u => r_isPerson T.1 (br0 (fun q => bx w q) (fun _ => s_in (a := 0) (b := 4) rfl rfl rfl (br0 (fun _ => ⟨rfl, RE_bad R⟩) (fun q => bx q u))))) (fun u => s_within (br1 (fun v => ?_) (fun v => r_isPerson T.1 (br0 (fun q => bx w q) (fun _ => s_in (a := 0) (b := 4) rfl rfl rfl (br0 (fun q => bx u q) (fun _ => s_in (a := 0) (b := 1) rfl rfl rfl (br1 (fun q => bx q v) (fun _ => ⟨rfl, RE_bad R⟩))))))))))))
  obtain ⟨p, hp, rfl⟩ := (wi_nI (by omega)).mp w
  obtain ⟨m, -, hm, rfl⟩ := wi_nat (a := 0) (b := 4) (by omega) u (by omega)
  have ref : ∀ r : Int32, (X 0 5 p = 0 → r = -2) → (¬ X 0 5 p = 0 → ¬ z = 0 → r = nI ((lkS (X 0) p m k).2.1 / Nat.gcd (lkS (X 0) p m k).1 (lkS (X 0) p m k).2.1)) → (¬ X 0 5 p = 0 → z = 0 → r = nI ((lkS (X 0) p m k).1 / Nat.gcd (lkS (X 0) p m k).1 (lkS (X 0) p m k).2.1)) → v_X6_likely (X 19) (nI p) (nI m) z (fun r2 h' => r = r2 ∧ RLE (z_up X 19 h')) := by
    intro r k0 k1 k2
    unfold v_X6_likely
    rw [i4, zi (show 4 + p < 1000 by omega), W.2.2.2.2.1 p hp]
    refine r_isPerson T.1 (br0 (fun q => bx w q) (fun _ => s_in (a := 0) (b := 4) rfl rfl rfl (br0 (fun q => bx u q) (fun _ => s_in (a := 0) (b := 1) rfl rfl rfl (br1 (fun _ => ⟨vi (by omega) (by omega), fun c => r_aside ?_, fun c => ⟨k0 c, RE_bad R⟩⟩) (fun q => bx v q))))))
    exact r_likely H.1 (by rw [z_sa_ne (by decide)]; exact T) (by rw [z_sa_same]; exact RR_aside H.1 W) (by rw [z_sa_ne (by decide)]; exact W) hp hm c (fun d => ⟨k1 c d, _, _, RL_side R⟩) (fun d => ⟨k2 c d, _, _, RL_side R⟩)
  refine s_isOut (by omega) (br0 (fun c => ?_) (fun c => ?_))
  · have c := of_decide_eq_false c
    exact s_likely H.1 hp hm c (fun d => ref _ (fun q => absurd q c) (fun _ _ => rfl) (fun _ q => absurd q d)) (fun d => ref _ (fun q => absurd q c) (fun _ q => absurd d q) (fun _ _ => rfl))
  · have c := of_decide_eq_true c
    exact ref _ (fun _ => rfl) (fun q => absurd c q) (fun q => absurd c q)
