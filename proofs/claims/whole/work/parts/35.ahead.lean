/-! ===== PURE: what comes of a hall ===== -/
def itr (n k : Nat) (h : z_G) : Nat → z_G
  | 0 => h
  | j + 1 => rgn n k (itr n k h j)
theorem itr_s (n k : Nat) (h : z_G) (j : Nat) : itr n k h (j + 1) = rgn n k (itr n k h j) := rfl
theorem itr_add (n k : Nat) (h : z_G) (i : Nat) : ∀ j, itr n k (itr n k h i) j = itr n k h (i + j)
  | 0 => rfl
  | j + 1 => by rw [itr_s, itr_add n k h i j]; rfl
theorem HN_itr {n k : Nat} {h : z_G} (H : HN n k h) : ∀ j, HN n k (itr n k h j)
  | 0 => H
  | j + 1 => HN_rgn (HN_itr H j)
/-- nothing is taken up, nothing shrinks -/
def Fz (n k : Nat) (h : z_G) : Prop := (∀ p, p < n → tg k h p = -4) ∧ stl h k = false
theorem perL_stay {k : Nat} {h : z_G} : ∀ {p : Nat}, anyT k h p = false → perL k h p = h ∧ ∀ q, q < p → tg k h q = -4
  | 0, _ => ⟨rfl, fun q hq => by omega⟩
  | p + 1, ha => by
    have ha : (anyT k h p || decide (¬ tg k (perL k h p) p = -4)) = false := ha
    rw [Bool.or_eq_false_iff] at ha
    obtain ⟨h1, h2⟩ := perL_stay ha.1
    have h3 := of_decide_eq_false ha.2
    rw [h1] at h3
    have h4 : tg k h p = -4 := Classical.not_not.mp h3
    refine ⟨?_, fun q hq => ?_⟩
    · show P1 k (perL k h p) p = h
      rw [h1]; unfold P1; rw [if_pos h4]
    · by_cases e : q = p
      · rw [e]; exact h4
      · exact h2 q (by omega)
theorem perL_fz {k : Nat} {h : z_G} : ∀ {p : Nat}, (∀ q, q < p → tg k h q = -4) → perL k h p = h
  | 0, _ => rfl
  | p + 1, ha => by
    show P1 k (perL k h p) p = h
    rw [perL_fz (fun q hq => ha q (by omega))]
    unfold P1
    rw [if_pos (ha p (by omega))]
theorem fz_of {n k : Nat} {h : z_G} (hm : mvg n k h = false) : Fz n k h := by
  unfold mvg at hm
  rw [Bool.or_eq_false_iff] at hm
  obtain ⟨h1, h2⟩ := perL_stay hm.1
  rw [h1] at hm
  exact ⟨h2, hm.2⟩
theorem stl_no {h : z_G} : ∀ {k : Nat}, stl h k = false → ∀ g, g < k → h 10 g = 1 → ¬ h 7 g = 3
  | 0, _, g, hg, _ => by omega
  | k + 1, hs, g, hg, h1 => by
    have hs : (stl h k || (decide (h 10 k = 1) && decide (h 7 k = 3))) = false := hs
    rw [Bool.or_eq_false_iff] at hs
    by_cases e : g = k
    · subst e
      intro h3
      have := hs.2
      rw [h1, h3] at this
      simp at this
    · exact stl_no hs.1 g (by omega) h1
theorem stl_cong {h h' : z_G} : ∀ {k : Nat}, (∀ g, g < k → h 10 g = h' 10 g ∧ h 7 g = h' 7 g) → stl h k = stl h' k
  | 0, _ => rfl
  | k + 1, e => by
    unfold stl
    rw [stl_cong (fun g hg => e g (by omega)), (e k (by omega)).1, (e k (by omega)).2]
theorem fz_rgn {n k : Nat} {h : z_G} (F : Fz n k h) : Fz n k (rgn n k h) ∧ rgn n k h 5 = h 5 ∧ rgn n k h 10 = h 10 ∧ rgn n k h 12 = h 12 := by
  obtain ⟨h1, h2⟩ := F
  have e : rgn n k h = z_ss (ag h k) 0 2 (h 0 2 + 1) := by unfold rgn; rw [perL_fz h1]
  have c : ∀ x, x ≠ 0 → x ≠ 11 → rgn n k h x = h x := fun x hx0 hx => by rw [e, z_ss_ne hx0, ag_ne _ _ _ hx]
  refine ⟨⟨fun p hp => ?_, ?_⟩, c 5 (by decide) (by decide), c 10 (by decide) (by decide), c 12 (by decide) (by decide)⟩
  · rw [← h1 p hp]
    unfold tg
    rw [c 6 (by decide) (by decide), c 5 (by decide) (by decide)]
    have hl : low (rgn n k h) p k = low h p k := by
      unfold low
      refine loF_cong (fun g _ hg => ?_)
      unfold can
      rw [c 10 (by decide) (by decide), c 9 (by decide) (by decide), c 5 (by decide) (by decide), c 7 (by decide) (by decide), c 8 (by decide) (by decide), c 4 (by decide) (by decide)]
      by_cases hg1 : h 10 g = 1
      · have := stl_no h2 g (by omega) hg1
        unfold szn
        rw [if_neg this, if_neg this]
      · simp [hg1]
    rw [hl]
  · rw [← h2]
    exact stl_cong (fun g _ => by rw [c 10 (by decide) (by decide), c 7 (by decide) (by decide)]; exact ⟨rfl, rfl⟩)
theorem fz_itr {n k : Nat} {h : z_G} (F : Fz n k h) : ∀ j, Fz n k (itr n k h j) ∧ itr n k h j 5 = h 5 ∧ itr n k h j 10 = h 10 ∧ itr n k h j 12 = h 12
  | 0 => ⟨F, rfl, rfl, rfl⟩
  | j + 1 => by
    obtain ⟨a1, a2, a3, a4⟩ := fz_itr F j
    obtain ⟨b1, b2, b3, b4⟩ := fz_rgn a1
    exact ⟨b1, b2.trans a2, b3.trans a3, b4.trans a4⟩
theorem fz_late {n k : Nat} {h : z_G} {i m : Nat} (F : Fz n k (itr n k h i)) (hi : i ≤ m) : itr n k h m 5 = itr n k h i 5 ∧ itr n k h m 10 = itr n k h i 10 ∧ itr n k h m 12 = itr n k h i 12 := by
  have := (fz_itr F (m - i)).2
  rw [itr_add, show i + (m - i) = m by omega] at this
  exact this
theorem s_goOn {n k m : Nat} {h : z_G} {K : z_G → Prop} (H : HN n k h) (hm : m < 2 ^ 30) (hK : ∀ h', HN n k h' → h' 5 = itr n k h m 5 → K h') : v_X0_goOn h (nI m) K := by
  unfold v_X0_goOn v_X0_goOn_b4
  refine z_for m (fun i q => ∃ b : Bool, q = (itr n k h i, nI m, bI b, nI i) ∧ (b = false → Fz n k (itr n k h i))) ?_ (Nat.zero_le m) ⟨true, rfl, fun q => by cases q⟩
  rintro i ⟨h', x1, x2, x3⟩ hi ⟨b, e, hb⟩ Lp hL
  obtain ⟨rfl, e2⟩ := Prod.mk.inj e
  obtain ⟨rfl, e3⟩ := Prod.mk.inj e2
  obtain ⟨rfl, rfl⟩ := Prod.mk.inj e3
  show v_X0_goOn_b4_s K _ (itr n k h i) (nI m) (bI b) (nI i)
  unfold v_X0_goOn_b4_s
  refine ⟨fun c => ?_, fun c => br0 (fun w => ?_) (fun w => s_rgn (HN_itr H i).1 ?_)⟩
  · have : i = m := by have := (nI_leI (by omega) (by omega)).mp c; omega
    subst this
    exact hK _ (HN_itr H i) rfl
  · exact hK _ (HN_itr H i) (fz_late (hb w) hi).1.symm
  · have hlt : i < m := by
      rcases Nat.lt_or_ge i m with q | q
      · exact q
      · exact absurd (nI_le q (by omega)) c
    intro y ey
    exact hL (_, _, _, _) hlt ⟨_, by rw [ey, nI_1]; rfl, fun q => (fz_rgn (fz_of q)).1⟩
theorem up2 {Y : z_X} {h : z_G} {o : Nat} (ho : o ≠ 2) : z_up Y 2 h o = Y o := z_up_ne ho
theorem s_mightBehind {n k m p o : Nat} {Y : z_X} {K : Int32 → z_X → Prop} (ho : o ≠ 2) (H : HN n k (Y o)) (H2 : NF (Y 2)) (hm : m < 2 ^ 30) (hp : p < 6) (hK : ∀ h', NF h' → K (itr n k (Y o) m 5 p) (z_up Y 2 h')) : v_X0_mightBehind o Y (nI m) (nI p) K := by
  unfold v_X0_mightBehind
  refine s_copy ho H2 H.2 ?_
  rw [z_up_same]
  refine s_goOn H hm ?_
  intro h' H' e5 Y3 eY
  rw [z_up_up] at eY
  rw [eY, z_up_same, z_n_nI (show p < 2 ^ 31 by omega), e5]
  exact ⟨vp_in_nI hp (by omega), hK h' H'.2⟩
theorem stP_of {h h' : z_G} (e : h 5 = h' 5) : stP h = stP h' := by
  funext p; unfold stP; rw [e]
theorem s_standingAtLast {n k o : Nat} {Y : z_X} {K : Int32 → z_X → Prop} (ho : o ≠ 2) (H : HN n k (Y o)) (H2 : NF (Y 2)) (hK : ∀ h', NF h' → K (nI (bs (stP (itr n k (Y o) 30)) n)) (z_up Y 2 h')) : v_X0_standingAtLast o Y K := by
  unfold v_X0_standingAtLast
  refine s_copy ho H2 H.2 ?_
  rw [z_up_same]
  refine s_goOn (m := 30) H (by decide) ?_
  intro h' H' e5 Y3 eY
  rw [z_up_up] at eY
  rw [eY, z_up_same]
  refine s_standing H'.1 ?_
  rw [stP_of e5]
  exact hK h' H'.2
theorem s_whenGone {n k g o : Nat} {Y : z_X} {K : Int32 → z_X → Prop} (ho : o ≠ 2) (H : HN n k (Y o)) (H2 : NF (Y 2)) (hg : g < 8) (hK : ∀ h', NF h' → K (loF (fun i => decide (itr n k (Y o) i 10 g = 0)) 0 31) (z_up Y 2 h')) : v_X0_whenGone o Y (nI g) K := by
  unfold v_X0_whenGone
  refine s_copy ho H2 H.2 ?_
  unfold v_X0_whenGone_b13
  refine z_for 31 (fun i q => ∃ b : Bool, q = (z_up Y 2 (itr n k (Y o) i), nI g, bI b, nI i) ∧ (b = false → Fz n k (itr n k (Y o) i) ∧ ¬ itr n k (Y o) i 10 g = 0) ∧ ∀ j, j < i → ¬ itr n k (Y o) j 10 g = 0) ?_ (Nat.zero_le 31) ⟨true, rfl, fun q => (by cases q), fun j hj => by omega⟩
  rintro i ⟨Y', x1, x2, x3⟩ hi ⟨b, e, hb, hbe⟩ Lp hL
  obtain ⟨rfl, e2⟩ := Prod.mk.inj e
  obtain ⟨rfl, e3⟩ := Prod.mk.inj e2
  obtain ⟨rfl, rfl⟩ := Prod.mk.inj e3
  show v_X0_whenGone_b13_s o K _ (z_up Y 2 (itr n k (Y o) i)) (nI g) (bI b) (nI i)
  unfold v_X0_whenGone_b13_s
  have Hi := HN_itr H i
  have none : (∀ j, j < 31 → ¬ itr n k (Y o) j 10 g = 0) → K (-4) (z_up Y 2 (itr n k (Y o) i)) := by
    intro hall
    refine kE2 (hK _ Hi.2) ?_ rfl
    rcases loF_cases (fun i => decide (itr n k (Y o) i 10 g = 0)) 31 0 with ⟨q, -⟩ | ⟨j, -, j2, j3, -⟩
    · exact q.symm
    · exact absurd (of_decide_eq_true j3) (hall j (by omega))
  refine ⟨fun c => ?_, fun c => br0 (fun w => ?_) (fun w => ⟨vp_in_nI hg (by omega), fun d => ?_, fun d => ?_⟩)⟩
  · have : 30 < i := (nI_ltI (a := 30) (by omega) (by omega)).mp c
    exact none (fun j hj => hbe j (by omega))
  · refine none (fun j hj => ?_)
    rcases Nat.lt_or_ge j i with q | q
    · exact hbe j q
    · rw [(fz_late (hb w).1 q).2.1]
      exact (hb w).2
  · have hlt : i < 31 := by
      rcases Nat.lt_or_ge i 31 with q | q
      · exact q
      · exact absurd (nI_lt (a := 30) (by omega) (by omega)) c
    rw [z_up_same, z_n_nI (show g < 2 ^ 31 by omega)] at d
    rw [z_up_same]
    refine s_rgn Hi.1 ?_
    intro Y8 e8 y ey
    rw [z_up_up] at e8
    refine hL (_, _, _, _) hlt ⟨_, by rw [e8, ey, nI_1]; rfl, fun q => ?_, fun j hj => ?_⟩
    · obtain ⟨f1, -, f3, -⟩ := fz_rgn (fz_of q)
      exact ⟨f1, by show ¬ rgn n k (itr n k (Y o) i) 10 g = 0; rw [f3]; exact d⟩
    · by_cases ej : j = i
      · rw [ej]; exact d
      · exact hbe j (by omega)
  · rw [z_up_same, z_n_nI (show g < 2 ^ 31 by omega)] at d
    refine kE2 (hK _ Hi.2) ?_ rfl
    have hlt : i < 31 := by
      rcases Nat.lt_or_ge i 31 with q | q
      · exact q
      · exact absurd (nI_lt (a := 30) (by omega) (by omega)) c
    have key : ∀ j, j ≤ i → loF (fun i => decide (itr n k (Y o) i 10 g = 0)) (i - j) (31 - (i - j)) = nI i := by
      intro j
      induction j with
      | zero =>
        intro _
        rw [show 31 - (i - 0) = (30 - i) + 1 by omega, loF_s]
        simp [d]
      | succ j ih =>
        intro hj
        rw [show 31 - (i - (j + 1)) = (31 - (i - j)) + 1 by omega, loF_s]
        have := hbe (i - (j + 1)) (by omega)
        simp [this]
        rw [show i - (j + 1) + 1 = i - j by omega]
        exact ih (by omega)
    have := key i (Nat.le_refl i)
    rw [Nat.sub_self] at this
    exact this.symm
/-- who is out stays out -/
theorem out_P1 {n k p r : Nat} {h : z_G} (H : HI n k h) (hr : r < n) (h0 : h 5 p = 0) : P1 k h r 5 p = 0 := by
  unfold P1
  rcases tg_cases k h r with e | ⟨g, hg, hc, e⟩
  · rw [if_pos e]; exact h0
  · have hk := H.2.2.2.1
    rw [if_neg (by rw [e]; exact nI_ne4 (by omega)), e, z_n_nI (by omega), wr_5]
    split
    · exact h0
    · rename_i hne
      rw [if_neg (fun q => hne (by rw [← q]; exact h0))]
      rw [if_neg]
      · exact h0
      · intro q
        subst q
        unfold can at hc
        simp [h0] at hc
theorem out_rgn {n k p : Nat} {h : z_G} (H : HI n k h) (h0 : h 5 p = 0) : rgn n k h 5 p = 0 := by
  have key : ∀ r, r ≤ n → perL k h r 5 p = 0 := by
    intro r
    induction r with
    | zero => intro _; exact h0
    | succ r ih => intro hr; exact out_P1 (HI_perL H r (by omega)) (by omega) (ih (by omega))
  unfold rgn
  rw [z_ss_ne (by decide), ag_ne _ _ _ (by decide)]
  exact key n (Nat.le_refl n)
theorem out_itr {n k p : Nat} {h : z_G} (H : HN n k h) {i : Nat} (h0 : itr n k h i 5 p = 0) : ∀ j, itr n k h (i + j) 5 p = 0
  | 0 => h0
  | j + 1 => out_rgn (HN_itr H (i + j)).1 (out_itr H h0 j)
/-- safe when a set is taken away -/
def sf (n k : Nat) (h : z_G) (p m b : Nat) : Bool := decide (¬ itr n k (ta h b k) m 5 p = 0)
theorem s_isSafe {n k m p b o : Nat} {Y : z_X} {K : Int32 → z_X → Prop} (ho : o ≠ 2) (H : HN n k (Y o)) (H2 : NF (Y 2)) (hb : b < 2 ^ 31) (hm : m < 2 ^ 30) (hp : p < 6) (hK : ∀ h', NF h' → K (bI (sf n k (Y o) p m b)) (z_up Y 2 h')) : v_X0_isSafe o Y (nI b) (nI p) (nI m) K := by
  unfold v_X0_isSafe
  refine s_copy ho H2 H.2 ?_
  rw [z_up_same]
  refine s_takeAway H.1 hb ?_
  intro Y3 e3
  rw [z_up_up] at e3
  have H' : HN n k (ta (Y o) b k) := HN_ta H b
  have hs : sf n k (Y o) p m b = decide (¬ itr n k (ta (Y o) b k) m 5 p = 0) := rfl
  generalize sf n k (Y o) p m b = sv at hs hK
  generalize ta (Y o) b k = h at hs e3 H'
  subst e3
  unfold v_X0_isSafe_b22
  have fin : ∀ i, ((itr n k h i 5 p = 0) ↔ (itr n k h m 5 p = 0)) → v_X0_isSafe_b60 o K (z_up Y 2 (itr n k h i)) (nI p) := by
    intro i hi
    unfold v_X0_isSafe_b60
    rw [z_up_same]
    refine s_isOut hp (br1 (fun w => ?_) (fun w => ?_))
    · refine kE2 (hK _ (HN_itr H' i).2) ?_ rfl
      have := hi.mp (of_decide_eq_true w)
      rw [hs, this]; rfl
    · refine kE2 (hK _ (HN_itr H' i).2) ?_ rfl
      have h1 := of_decide_eq_false w
      rw [hi] at h1
      rw [hs]; simp [h1]; rfl
  refine z_for m (fun i q => ∃ b : Bool, q = (z_up Y 2 (itr n k h i), nI p, nI m, bI b, nI i) ∧ (b = false → Fz n k (itr n k h i))) ?_ (Nat.zero_le m) ⟨true, rfl, fun q => by cases q⟩
  rintro i ⟨Y', x1, x2, x3, x4⟩ hi ⟨b, e, hb⟩ Lp hL
  obtain ⟨rfl, e2⟩ := Prod.mk.inj e
  obtain ⟨rfl, e3⟩ := Prod.mk.inj e2
  obtain ⟨rfl, e4⟩ := Prod.mk.inj e3
  obtain ⟨rfl, rfl⟩ := Prod.mk.inj e4
  show v_X0_isSafe_b22_s o K _ (z_up Y 2 (itr n k h i)) (nI p) (nI m) (bI b) (nI i)
  unfold v_X0_isSafe_b22_s
  refine ⟨fun c => ?_, fun c => br0 (fun w => ?_) (fun w => ?_)⟩
  · have : i = m := by have := (nI_leI (by omega) (by omega)).mp c; omega
    subst this
    exact fin i Iff.rfl
  · exact fin i (by rw [(fz_late (hb w) hi).1])
  · rw [z_up_same]
    refine s_isOut hp (br1 (fun z => ?_) (fun z => s_rgn (HN_itr H' i).1 ?_))
    · have z := of_decide_eq_true z
      refine fin i ⟨fun _ => ?_, fun _ => z⟩
      have := out_itr H' z (m - i)
      rw [show i + (m - i) = m by omega] at this
      exact this
    · have hlt : i < m := by
        rcases Nat.lt_or_ge i m with q | q
        · exact q
        · exact absurd (nI_le q (by omega)) c
      intro Y8 e8 y ey
      rw [z_up_up] at e8
      exact hL (_, _, _, _, _) hlt ⟨_, by rw [e8, ey, nI_1]; rfl, fun q => (fz_rgn (fz_of q)).1⟩
