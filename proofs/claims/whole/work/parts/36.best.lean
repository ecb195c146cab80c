/-! ===== PURE: what is best ===== -/
theorem pop_cnt (x : Nat) (hx : x < 256) : pop x = cnt (fun j => x.testBit j) 8 := by
  have e : x = bs (fun j => x.testBit j) 8 := by
    apply Nat.eq_of_testBit_eq
    intro j
    rw [bs_bit]
    by_cases hj : j < 8
    · simp [hj]
    · have : x.testBit j = false := Nat.testBit_lt_two_pow (Nat.lt_of_lt_of_le hx (Nat.pow_le_pow_right (n := 2) (i := 8) (by omega) (by omega)))
      simp [hj, this]
  have h := pop_bs (fun j => x.testBit j) 8 (Nat.le_refl 8)
  rw [← e] at h
  exact h
theorem cnt_mono {P Q : Nat → Bool} (h : ∀ j, P j = true → Q j = true) : ∀ k, cnt P k ≤ cnt Q k
  | 0 => Nat.le_refl 0
  | k + 1 => by
    have := cnt_mono h k
    unfold cnt
    by_cases hp : P k = true
    · rw [if_pos hp, if_pos (h k hp)]; omega
    · rw [if_neg hp]; split <;> omega
theorem pop_sub {S L : Nat} (hL : L < 256) (h : S &&& L = S) : pop S ≤ pop L := by
  have hS : S ≤ L := by rw [← h]; exact Nat.and_le_right
  rw [pop_cnt S (by omega), pop_cnt L hL]
  refine cnt_mono (fun j hj => ?_) 8
  rw [← h, Nat.testBit_and, Bool.and_eq_true] at hj
  exact hj.2
/-- the best set: of fewest, of several the lowest -/
def Best (L : Nat) (safe : Nat → Bool) (r : Int32) : Prop :=
  (r = -4 ∧ ∀ S, S &&& L = S → safe S = false) ∨
  ∃ S, r = nI S ∧ S &&& L = S ∧ safe S = true ∧ ∀ S', S' &&& L = S' → safe S' = true → (pop S < pop S' ∨ (pop S = pop S' ∧ S ≤ S'))
theorem Best_one {L : Nat} {safe : Nat → Bool} {r r' : Int32} (h : Best L safe r) (h' : Best L safe r') : r = r' := by
  rcases h with ⟨e, h1⟩ | ⟨S, e, h1, h2, h3⟩ <;> rcases h' with ⟨e', g1⟩ | ⟨S', e', g1, g2, g3⟩
  · rw [e, e']
  · rw [h1 S' g1] at g2; cases g2
  · rw [g1 S h1] at h2; cases h2
  · have a := h3 S' g1 g2
    have b := g3 S h1 h2
    have : S = S' := by omega
    rw [e, e', this]
theorem sub_le {S L : Nat} (h : S &&& L = S) : S ≤ L := by rw [← h]; exact Nat.and_le_right
theorem s_away {n k m p o : Nat} {Y : z_X} {K : Int32 → z_X → Prop} (ho : o ≠ 2) (H : HN n k (Y o)) (H2 : NF (Y 2)) (hm : m < 2 ^ 30) (hp : p < 6) (hK : ∀ r h', Best (bs (lyP (Y o)) k) (sf n k (Y o) p m) r → NF h' → K r (z_up Y 2 h')) : v_X0_awayForSafety o Y (nI p) (nI m) K := by
  unfold v_X0_awayForSafety
  refine s_lying H.1 ?_
  have hL : bs (lyP (Y o)) k < 256 := Nat.lt_of_lt_of_le (bs_lt _ k) (pow8 (Nat.le_refl k) H.1.2.2.2.1)
  generalize bs (lyP (Y o)) k = L at hK hL
  refine s_bitCount hL ?_
  unfold v_X0_awayForSafety_b16
  generalize hsf : sf n k (Y o) p m = safe at hK
  have hp8 : pop L ≤ 8 := by rw [pop_cnt L hL]; exact cnt_le _ 8
  refine z_for (pop L + 1) (fun i q => ∃ h', NF h' ∧ q = (z_up Y 2 h', nI p, nI m, nI L, nI (pop L), nI i) ∧ ∀ S, S &&& L = S → pop S < i → safe S = false) ?_ (Nat.zero_le _) ⟨Y 2, H2, by rw [z_up_self]; rfl, fun S _ h => by omega⟩
  rintro i ⟨Y', x1, x2, x3, x4, x5⟩ hi ⟨h', N', e, hS⟩ Lp hLp
  obtain ⟨rfl, e2⟩ := Prod.mk.inj e
  obtain ⟨rfl, e3⟩ := Prod.mk.inj e2
  obtain ⟨rfl, e4⟩ := Prod.mk.inj e3
  obtain ⟨rfl, e5⟩ := Prod.mk.inj e4
  obtain ⟨rfl, rfl⟩ := Prod.mk.inj e5
  show v_X0_awayForSafety_b16_s o K _ (z_up Y 2 h') (nI p) (nI m) (nI L) (nI (pop L)) (nI i)
  unfold v_X0_awayForSafety_b16_s
  refine ⟨fun c => ?_, fun c => ?_⟩
  · have hlt : pop L < i := (nI_ltI (by omega) (by omega)).mp c
    refine hK _ _ (Or.inl ⟨rfl, fun S hs => hS S hs ?_⟩) N'
    have := pop_sub hL hs
    omega
  · have hle : i ≤ pop L := by
      rcases Nat.lt_or_ge (pop L) i with q | q
      · exact absurd (nI_lt q (by omega)) c
      · exact q
    unfold v_X0_awayForSafety_b26
    refine z_for (L + 1) (fun j q => ∃ h', NF h' ∧ q = (z_up Y 2 h', nI p, nI m, nI L, nI (pop L), nI i, nI j) ∧ ∀ S, S &&& L = S → (pop S < i ∨ pop S = i ∧ S < j) → safe S = false) ?_ (Nat.zero_le _) ⟨h', N', rfl, fun S hs hh => hS S hs (by omega)⟩
    rintro j ⟨Y', x1, x2, x3, x4, x5, x6⟩ hj ⟨h', N', e, hS⟩ Lq hLq
    obtain ⟨rfl, e2⟩ := Prod.mk.inj e
    obtain ⟨rfl, e3⟩ := Prod.mk.inj e2
    obtain ⟨rfl, e4⟩ := Prod.mk.inj e3
    obtain ⟨rfl, e5⟩ := Prod.mk.inj e4
    obtain ⟨rfl, e6⟩ := Prod.mk.inj e5
    obtain ⟨rfl, rfl⟩ := Prod.mk.inj e6
    show v_X0_awayForSafety_b26_s o K _ _ (z_up Y 2 h') (nI p) (nI m) (nI L) (nI (pop L)) (nI i) (nI j)
    unfold v_X0_awayForSafety_b26_s
    refine ⟨fun c => ?_, fun c => ?_⟩
    · have hlt : L < j := (nI_ltI (by omega) (by omega)).mp c
      intro y ey
      refine hLp (_, _, _, _, _, _) (by omega) ⟨h', N', by rw [ey, nI_1], fun S hs hh => hS S hs ?_⟩
      have := sub_le hs
      omega
    · have hle2 : j ≤ L := by
        rcases Nat.lt_or_ge L j with q | q
        · exact absurd (nI_lt q (by omega)) c
        · exact q
      rw [nI_and]
      have next : ∀ (h'' : z_G), NF h'' → (j &&& L = j → pop j = i → safe j = false) → ∀ y : Int32, y = nI j + 1 → Lq (z_up Y 2 h'', nI p, nI m, nI L, nI (pop L), nI i, y) := by
        intro h'' N'' hn y ey
        refine hLq _ (by omega) ⟨h'', N'', by rw [ey, nI_1], fun S hs hh => ?_⟩
        by_cases eS : S = j
        · subst eS
          rcases hh with hh | hh
          · exact hS S hs (Or.inl hh)
          · exact hn hs hh.1
        · exact hS S hs (by omega)
      have hjL : j &&& L ≤ L := Nat.and_le_right
      refine ⟨fun d => ?_, fun d => s_bitCount (by omega) ⟨fun w => ?_, fun w => ?_⟩⟩
      · have d : ¬ j &&& L = j := fun q => d (by rw [q])
        exact next h' N' (fun q => absurd q d)
      · have w : ¬ pop j = i := fun q => w (by rw [q])
        exact next h' N' (fun _ q => absurd q w)
      · have d : j &&& L = j := (nI_eq (by omega) (by omega)).mp d
        have hpj : pop j ≤ 8 := by rw [pop_cnt j (by omega)]; exact cnt_le _ 8
        have w : pop j = i := (nI_eq (by omega) (by omega)).mp w
        refine s_isSafe ho (by rw [up2 ho]; exact H) (by rw [z_up_same]; exact N') (by omega) hm hp ?_
        intro h3 N3
        rw [z_up_up, up2 ho, hsf]
        refine br0 (fun z => ?_) (fun z => ?_)
        · exact next h3 N3 (fun _ _ => z)
        · refine hK _ _ (Or.inr ⟨j, rfl, d, z, fun S' hs' hz' => ?_⟩) N3
          rcases Nat.lt_trichotomy (pop S') i with q | q | q
          · rw [hS S' hs' (Or.inl q)] at hz'; cases hz'
          · rcases Nat.lt_or_ge S' j with r | r
            · rw [hS S' hs' (Or.inr ⟨q, r⟩)] at hz'; cases hz'
            · right; exact ⟨by omega, r⟩
          · left; omega
/-- whether a glove may fit a hand in time -/
def mf (a s d : Int32) : Nat → Nat → Bool
  | _, 0 => false
  | i, j + 1 => lk a (szn a s (nI (5 * i))) d || mf a s d (i + 1) j
theorem mf_of {a s d : Int32} : ∀ {j i x : Nat}, i ≤ x → x < i + j → lk a (szn a s (nI (5 * x))) d = true → mf a s d i j = true
  | 0, i, x, h1, h2, _ => by omega
  | j + 1, i, x, h1, h2, h3 => by
    unfold mf
    by_cases e : x = i
    · subst e; rw [h3]; rfl
    · rw [mf_of (i := i + 1) (x := x) (by omega) (by omega) h3, Bool.or_true]
theorem s_mayFit {a s d : Int32} {K : Int32 → Prop} (hK : K (bI (mf a s d 0 6))) : v_X0_mayFitInTime a s d K := by
  unfold v_X0_mayFitInTime v_X0_mayFitInTime_b2
  refine z_for 6 (fun i q => q = (a, s, d, nI (5 * i)) ∧ mf a s d 0 6 = mf a s d i (6 - i)) ?_ (Nat.zero_le 6) ⟨rfl, rfl⟩
  rintro i ⟨x0, x1, x2, x3⟩ hi ⟨e, hmf⟩ Lp hL
  obtain ⟨rfl, e2⟩ := Prod.mk.inj e
  obtain ⟨rfl, e3⟩ := Prod.mk.inj e2
  obtain ⟨rfl, rfl⟩ := Prod.mk.inj e3
  show v_X0_mayFitInTime_b2_s K _ x0 x1 x2 (nI (5 * i))
  unfold v_X0_mayFitInTime_b2_s
  refine ⟨fun c => ?_, fun c => s_sizeByNow (s_isAsLarge (br0 (fun w => ?_) (fun w => ?_)))⟩
  · have : 30 ≤ 5 * i := (nI_leI (a := 30) (by omega) (by omega)).mp c
    rw [show 6 - i = 0 by omega] at hmf
    exact kF hK hmf
  · have hlt : i < 6 := by
      rcases Nat.lt_or_ge i 6 with q | q
      · exact q
      · exact absurd (nI_le (a := 30) (by omega) (by omega)) c
    intro y ey
    refine hL (_, _, _, _) hlt ⟨?_, ?_⟩
    · rw [ey, show (5 : Int32) = nI 5 from rfl, nI_add, show 5 * i + 5 = 5 * (i + 1) by omega]
    · rw [show 6 - i = (6 - (i + 1)) + 1 by omega] at hmf
      rw [hmf]
      show (lk x0 (szn x0 x1 (nI (5 * i))) x2 || _) = _
      rw [w, Bool.false_or]
  · have hlt : i < 6 := by
      rcases Nat.lt_or_ge i 6 with q | q
      · exact q
      · exact absurd (nI_le (a := 30) (by omega) (by omega)) c
    refine kT hK ?_
    rw [hmf, show 6 - i = (6 - (i + 1)) + 1 by omega]
    show (lk x0 (szn x0 x1 (nI (5 * i))) x2 || _) = _
    rw [w, Bool.true_or]
/-- a glove that lies no more: who took it up stays -/
theorem gone_P1 {n k g r : Nat} {h : z_G} (H : HI n k h) (h0 : ¬ h 10 g = 1) : P1 k h r 12 g = h 12 g ∧ P1 k h r 10 g = h 10 g := by
  unfold P1
  rcases tg_cases k h r with e | ⟨g', hg, hc, e⟩
  · rw [if_pos e]; exact ⟨rfl, rfl⟩
  · have hk := H.2.2.2.1
    rw [if_neg (by rw [e]; exact nI_ne4 (by omega)), e, z_n_nI (by omega), wr_12, wr_10]
    have : ¬ g = g' := by
      intro q
      subst q
      unfold can at hc
      simp [h0] at hc
    rw [if_neg this, if_neg this]
    exact ⟨rfl, rfl⟩
theorem gone_perL {n k g : Nat} {h : z_G} (H : HI n k h) (h0 : ¬ h 10 g = 1) : ∀ r, r ≤ n → perL k h r 12 g = h 12 g ∧ perL k h r 10 g = h 10 g
  | 0, _ => ⟨rfl, rfl⟩
  | r + 1, hr => by
    obtain ⟨a, b⟩ := gone_perL H h0 r (by omega)
    obtain ⟨c, d⟩ := gone_P1 (r := r) (g := g) (HI_perL H r (by omega)) (by rw [b]; exact h0)
    exact ⟨c.trans a, d.trans b⟩
theorem rgn_c (n k : Nat) (h : z_G) (x : Nat) (h0 : x ≠ 0) (h11 : x ≠ 11) : rgn n k h x = perL k h n x := by
  unfold rgn
  rw [z_ss_ne h0, ag_ne _ _ _ h11]
theorem gone_rgn {n k g : Nat} {h : z_G} (H : HI n k h) (h0 : ¬ h 10 g = 1) : rgn n k h 12 g = h 12 g ∧ rgn n k h 10 g = h 10 g := by
  rw [rgn_c _ _ _ _ (by decide) (by decide), rgn_c _ _ _ _ (by decide) (by decide)]
  exact gone_perL H h0 n (Nat.le_refl n)
theorem gone_itr {n k g : Nat} {h : z_G} (H : HN n k h) {i : Nat} (h0 : ¬ itr n k h i 10 g = 1) : ∀ j, itr n k h (i + j) 12 g = itr n k h i 12 g ∧ ¬ itr n k h (i + j) 10 g = 1
  | 0 => ⟨rfl, h0⟩
  | j + 1 => by
    obtain ⟨a, b⟩ := gone_itr H h0 j
    obtain ⟨c, d⟩ := gone_rgn (HN_itr H (i + j)).1 b
    exact ⟨c.trans a, by show ¬ rgn n k (itr n k h (i + j)) 10 g = 1; rw [d]; exact b⟩
/-- thrown by p, with k gloves there: whether q takes it up in 30 reigns -/
def tkn (n k : Nat) (h : z_G) (a s : Int32) (p q : Nat) : Bool := decide (itr n (k + 1) (ng h k a s (nI p)) 30 12 k = nI q)
theorem s_isTakenUp {n k a s p q o : Nat} {Y : z_X} {K : Int32 → z_X → Prop} (ho : o ≠ 2) (H : HN n k (Y o)) (H2 : NF (Y 2)) (hk : k < 8) (ha : a < 4) (hs : 1 ≤ s) (hs2 : s ≤ 20) (hp : p < n) (hK : ∀ h', NF h' → K (bI (tkn n k (Y o) (nI a) (nI s) p q)) (z_up Y 2 h')) : v_X0_isTakenUp o Y (nI a) (nI s) (nI p) (nI q) K := by
  unfold v_X0_isTakenUp
  refine s_copy ho H2 H.2 ?_
  rw [z_up_same]
  obtain ⟨h1, h2, h3, -⟩ := id H.1
  intro y2 e2
  rw [h2] at e2
  subst e2
  have ok : okG n k (nI a) (nI s) (nI p) = true := by
    unfold okG
    have w1 : wi (nI a) 0 3 = true := decide_eq_true ⟨nI_pos' (by omega), nI_le (b := 3) (by omega) (by omega)⟩
    have w2 : wi (nI s) 1 20 = true := decide_eq_true ⟨nI_le (a := 1) (by omega) (by omega), nI_le (b := 20) (by omega) (by omega)⟩
    have w3 : wi (nI p) 0 (nI n - 1) = true := (wi_nI (by omega)).mpr ⟨p, hp, rfl⟩
    simp [hk, w1, w2, w3]
  refine s_addGlove h1 h2 (by omega) (fun q => by rw [ok] at q; cases q) (fun _ => ?_)
  intro Y5 e5
  rw [z_up_up] at e5
  subst e5
  refine ⟨fun _ => ?_, fun q => absurd q (by decide)⟩
  have H' : HN n (k + 1) (ng (Y o) k (nI a) (nI s) (nI p)) := HN_ng H hk hs hs2 hp
  have ht : tkn n k (Y o) (nI a) (nI s) p q = decide (itr n (k + 1) (ng (Y o) k (nI a) (nI s) (nI p)) 30 12 k = nI q) := rfl
  generalize tkn n k (Y o) (nI a) (nI s) p q = tv at ht hK
  generalize ng (Y o) k (nI a) (nI s) (nI p) = h at ht H'
  unfold v_X0_isTakenUp_b39
  have fin : ∀ i, itr n (k + 1) h i 12 k = itr n (k + 1) h 30 12 k → v_X0_isTakenUp_b80 o K (z_up Y 2 (itr n (k + 1) h i)) (nI q) (nI k) := by
    intro i hi
    unfold v_X0_isTakenUp_b80
    rw [z_up_same, z_n_nI (show k < 2 ^ 31 by omega), hi]
    refine ⟨vp_in_nI hk (by omega), fun c => ?_, fun c => ?_⟩
    · refine kE2 (hK _ (HN_itr H' i).2) ?_ rfl
      rw [ht]; simp [c]; rfl
    · refine kE2 (hK _ (HN_itr H' i).2) ?_ rfl
      rw [ht]; simp [c]; rfl
  refine z_for 30 (fun i z => ∃ b : Bool, z = (z_up Y 2 (itr n (k + 1) h i), nI q, nI k, bI b, nI i) ∧ (b = false → Fz n (k + 1) (itr n (k + 1) h i))) ?_ (Nat.zero_le 30) ⟨true, rfl, fun q => by cases q⟩
  rintro i ⟨Y', x1, x2, x3, x4⟩ hi ⟨b, e, hb⟩ Lp hL
  obtain ⟨rfl, e2⟩ := Prod.mk.inj e
  obtain ⟨rfl, e3⟩ := Prod.mk.inj e2
  obtain ⟨rfl, e4⟩ := Prod.mk.inj e3
  obtain ⟨rfl, rfl⟩ := Prod.mk.inj e4
  show v_X0_isTakenUp_b39_s o K _ (z_up Y 2 (itr n (k + 1) h i)) (nI q) (nI k) (bI b) (nI i)
  unfold v_X0_isTakenUp_b39_s
  refine ⟨fun c => ?_, fun c => br0 (fun w => ?_) (fun w => ⟨vp_in_nI hk (by omega), fun d => ?_, fun d => ?_⟩)⟩
  · have : i = 30 := by have := (nI_leI (a := 30) (by omega) (by omega)).mp c; omega
    subst this
    exact fin 30 rfl
  · exact fin i (by rw [(fz_late (hb w) hi).2.2])
  · rw [z_up_same, z_n_nI (show k < 2 ^ 31 by omega)] at d
    have := (gone_itr H' d (30 - i)).1
    rw [show i + (30 - i) = 30 by omega] at this
    exact fin i this.symm
  · have hlt : i < 30 := by
      rcases Nat.lt_or_ge i 30 with q | q
      · exact q
      · exact absurd (nI_le (a := 30) q (by omega)) c
    rw [z_up_same]
    refine s_rgn (HN_itr H' i).1 ?_
    intro Y8 e8 y ey
    rw [z_up_up] at e8
    exact hL (_, _, _, _, _) hlt ⟨_, by rw [e8, ey, nI_1]; rfl, fun q => (fz_rgn (fz_of q)).1⟩
