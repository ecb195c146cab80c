/-! ===== PURE: calls: hands, sizes, kinds ===== -/
def hl (P : Nat → Bool) : Nat → Int32 × Int32
  | 0 => (0, -4)
  | i + 1 => if P (20 - i) then ((hl P i).1 + 1, nI (20 - i)) else hl P i
theorem hl_t {P : Nat → Bool} {i : Nat} (h : P (20 - i) = true) : hl P (i + 1) = ((hl P i).1 + 1, nI (20 - i)) := if_pos h
theorem hl_f {P : Nat → Bool} {i : Nat} (h : P (20 - i) = false) : hl P (i + 1) = hl P i := if_neg (by rw [h]; decide)
theorem dn20 {i : Nat} (h : i < 20) : nI (20 - i) + (-1 : Int32) = nI (20 - (i + 1)) := by
  rw [m1, show 20 - i = (20 - (i + 1)) + 1 by omega, nI_pred]
theorem see_hand {X : z_X} {n k s : Nat} {p : Nat} {d : Int32} (H : HI n k (X 0)) (W : RR n k (X 0) (X 19 5)) (hp : p < 6) (hs : ∀ i, i < s → ∃ g p, g < 8 ∧ p < n ∧ X 16 1 i = nI g ∧ X 16 2 i = nI p ∧ X 19 11 (3 * i) = nI g ∧ X 19 11 (3 * i + 1) = nI p ∧ X 19 11 (3 * i + 2) = X 16 3 i) : alF (qP (X 19) k (nI p) d (-4) 0 0) s = alF (hP X k (nI p) d) s := by
  have hk8 := H.2.2.2.1
  refine alF_cong (fun i hi => ?_)
  obtain ⟨g, q, f1, f2, f3, f4, f5, f6, f7⟩ := hs i hi
  unfold qP hP qR qK qS qH
  rw [f3, f4, f5, f6, f7, zi (show g < 1000 by omega), if_pos rfl, if_pos rfl, if_neg (nI_ne4 (by omega)), decide_eq_false (nI_ne4 (show g < 2 ^ 31 by omega)), Bool.or_false]
  have ew : wi (nI g) 0 (nI k - 1) = decide (g < k) := by
    by_cases h : g < k
    · rw [decide_eq_true h]; exact (wi_nI (by omega)).mpr ⟨g, h, rfl⟩
    · rw [decide_eq_false h]
      cases hw : wi (nI g) 0 (nI k - 1)
      · rfl
      · obtain ⟨g', h1, h2⟩ := (wi_nI (by omega)).mp hw
        have := (nI_eq (by omega) (by omega)).mp h2
        omega
  rw [ew]
  by_cases h : g < k
  · obtain ⟨a1, a2, a3, a4⟩ := W.2.2.2.2.2 g h
    rw [a1, a2, a4, decide_eq_true h, Bool.true_and, Bool.and_true]
  · rw [decide_eq_false h, Bool.false_and, Bool.and_false]; rfl
theorem see_glove {X : z_X} {n k s gx : Nat} {a z : Int32} (H : HI n k (X 0)) (T : TR n (X 0) (X 19 2)) (W : RR n k (X 0) (X 19 5)) (hx : gx < k) (hs : ∀ i, i < s → ∃ g p, g < 8 ∧ p < n ∧ X 16 1 i = nI g ∧ X 16 2 i = nI p ∧ X 19 11 (3 * i) = nI g ∧ X 19 11 (3 * i + 1) = nI p ∧ X 19 11 (3 * i + 2) = X 16 3 i) : alF (qP (X 19) k (-4) 0 (nI gx) a z) s = alF (gP X (nI gx) a z) s := by
  have hk8 := H.2.2.2.1
  have hn6 := H.2.2.1
  refine alF_cong (fun i hi => ?_)
  obtain ⟨g, q, f1, f2, f3, f4, f5, f6, f7⟩ := hs i hi
  unfold qP gP qR qK qS qH
  rw [f3, f4, f5, f6, f7, zi (show g < 1000 by omega), zi (show q < 1000 by omega), zi (show gx < 1000 by omega), if_neg (nI_ne4 (by omega)), if_neg (nI_ne4 (by omega)), if_pos rfl, decide_eq_false (nI_ne4 (show q < 2 ^ 31 by omega)), Bool.false_or, T.2.1 q f2]
  by_cases h : g = gx
  · subst h
    obtain ⟨a1, a2, a3, a4⟩ := W.2.2.2.2.2 g hx
    rw [a4, decide_eq_true hx, Bool.true_and]
  · have : ¬ nI g = nI gx := fun e => h ((nI_eq (by omega) (by omega)).mp e)
    rw [decide_eq_false this, Bool.and_false]; rfl
theorem s_hands {X : z_X} {x y : Int32} {P : Nat → Bool} {K : Int32 → Prop} (hP : ∀ d, 1 ≤ d → d ≤ 20 → ∀ K' : Int32 → Prop, K' (bI (P d)) → v_X4_allowHand 0 X x (nI d) K') (h1 : ¬ y = 0 → K (hl P 20).2) (h2 : y = 0 → K (hl P 20).1) : v_X5_hands_b32 X K x y 0 (-4) 20 := by
  unfold v_X5_hands_b32
  refine z_for 20 (fun i q => q = (x, y, (hl P i).1, (hl P i).2, nI (20 - i))) ?_ (Nat.zero_le 20) rfl
  rintro i ⟨y1, y2, y3, y4, y5⟩ hi e Lp hL
  obtain ⟨rfl, e2⟩ := Prod.mk.inj e
  obtain ⟨rfl, e3⟩ := Prod.mk.inj e2
  obtain ⟨rfl, e4⟩ := Prod.mk.inj e3
  obtain ⟨rfl, rfl⟩ := Prod.mk.inj e4
  show v_X5_hands_b32_s X K _ y1 y2 (hl P i).1 (hl P i).2 (nI (20 - i))
  unfold v_X5_hands_b32_s
  refine ⟨fun c => ?_, fun c => ?_⟩
  · have : i = 20 := by have := (nI_ltI (b := 1) (by omega) (by omega)).mp c; omega
    subst this
    exact ⟨h1, h2⟩
  · have hlt : i < 20 := by
      rcases Nat.lt_or_ge i 20 with q | q
      · exact q
      · exact absurd (nI_lt (b := 1) (show 20 - i < 1 by omega) (by omega)) c
    refine hP (20 - i) (by omega) (by omega) _ (br0 (fun a => ?_) (fun a => ?_))
    · intro y ey
      refine hL _ hlt ?_
      rw [ey, hl_f a, dn20 hlt]
    · intro z ez y ey
      refine hL _ hlt ?_
      rw [ey, ez, hl_t a, dn20 hlt]
theorem r_hands {G : z_G} {x y : Int32} {P : Nat → Bool} {K : Int32 → Prop} (hP : ∀ d, 1 ≤ d → d ≤ 20 → ∀ K' : Int32 → Prop, K' (bI (P d)) → v_X6_isSeen G x (nI d) (-4) 0 0 K') (h1 : ¬ y = 0 → K (hl P 20).2) (h2 : y = 0 → K (hl P 20).1) : v_X6_hands_b30 G K x y 0 (-4) 20 := by
  unfold v_X6_hands_b30
  refine z_for 20 (fun i q => q = (x, y, (hl P i).1, (hl P i).2, nI (20 - i))) ?_ (Nat.zero_le 20) rfl
  rintro i ⟨y1, y2, y3, y4, y5⟩ hi e Lp hL
  obtain ⟨rfl, e2⟩ := Prod.mk.inj e
  obtain ⟨rfl, e3⟩ := Prod.mk.inj e2
  obtain ⟨rfl, e4⟩ := Prod.mk.inj e3
  obtain ⟨rfl, rfl⟩ := Prod.mk.inj e4
  show v_X6_hands_b30_s G K _ y1 y2 (hl P i).1 (hl P i).2 (nI (20 - i))
  unfold v_X6_hands_b30_s v_X6_hands_b59
  refine ⟨fun c => ?_, fun c => ?_⟩
  · have : i = 20 := by have := (nI_leI (b := 0) (by omega) (by omega)).mp c; omega
    subst this
    exact ⟨h1, h2⟩
  · have hlt : i < 20 := by
      rcases Nat.lt_or_ge i 20 with q | q
      · exact q
      · exact absurd (nI_le (b := 0) (show 20 - i ≤ 0 by omega) (by omega)) c
    refine hP (20 - i) (by omega) (by omega) _ (br0 (fun a => ?_) (fun a => ?_))
    · intro z ez
      rw [a]
      refine ⟨fun _ y ey => hL (_, _, _, _, _) hlt ?_, fun q => absurd rfl q⟩
      rw [ey, ez, hl_f a, dn20 hlt, Int32.add_zero]
    · intro z ez
      rw [a]
      refine ⟨fun q => absurd q (by decide), fun _ y ey => hL (_, _, _, _, _) hlt ?_⟩
      rw [ey, ez, hl_t a, dn20 hlt]
theorem t_hands {X : z_X} {n k : Nat} (R : RLn X n k) (x y : Int32) : v_X5_hands X x y (fun r => v_X6_hands (X 19) x y (fun r2 => r = r2 ∧ RLE X)) := by
  obtain ⟨-, ⟨H, hn2, T, W⟩, -, -, ⟨s, s1, s2, s3, s4⟩, -⟩ := id R
  have hn6 := H.1.2.2.1
  have hk8 := H.1.2.2.2.1
  have RE : RLE X := ⟨n, k, R⟩
  unfold v_X5_hands v_X6_hands
  refine c_isPerson H.1.1 (br0 (fun w => r_isPerson T.1 (br0 (fun _ => ⟨rfl, RE⟩) (fun q => bx q w))) (fun w => s_within (br1 (fun u => ?_) (fun u => r_isPerson T.1 (br0 (fun q => bx w q) (fun _ => s_in (a := 0) (b := 1) rfl rfl rfl (br1 (fun q => bx q u) (fun _ => ⟨rfl, RE⟩))))))))
  obtain ⟨p, hp, rfl⟩ := (wi_nI (by omega)).mp w
  have ref : ∀ r : Int32, (¬ y = 0 → r = (hl (fun d => alF (hP X k (nI p) (nI d)) s) 20).2) → (y = 0 → r = (hl (fun d => alF (hP X k (nI p) (nI d)) s) 20).1) → v_X6_hands (X 19) (nI p) y (fun r2 => r = r2 ∧ RLE X) := by
    intro r k1 k2
    unfold v_X6_hands
    refine r_isPerson T.1 (br0 (fun q => bx w q) (fun _ => s_in (a := 0) (b := 1) rfl rfl rfl (br1 (fun _ => r_hands (P := fun d => alF (hP X k (nI p) (nI d)) s) (fun d _ _ K' hK' => ?_) (fun z => ⟨k1 z, RE⟩) (fun z => ⟨k2 z, RE⟩)) (fun q => bx u q))))
    refine r_isSeen W.2.2.1 hk8 s1 s3 (fun i hi => ?_) ?_
    · obtain ⟨g, q, f1, f2, f3, f4, f5, f6, f7⟩ := s4 i hi
      exact ⟨g, q, f1, by omega, f5, f6⟩
    · rw [see_hand H.1 W (by omega) s4]; exact hK'
  refine s_hands (P := fun d => alF (hP X k (nI p) (nI d)) s) (fun d _ _ K' hK' => s_allowHand H.1 s1 s2 (fun i hi => ?_) hK') (fun z => ref _ (fun _ => rfl) (fun q => absurd q z)) (fun z => ref _ (fun q => absurd z q) (fun _ => rfl))
  obtain ⟨g, q, f1, f2, f3, f4, f5, f6, f7⟩ := s4 i hi
  exact ⟨g, f1, f3⟩
theorem s_sizes {X : z_X} {g : Nat} {y : Int32} {P : Nat → Bool} {K : Int32 → Prop} (hg : g < 8) (hP : ∀ d, 1 ≤ d → d ≤ 20 → ∀ K' : Int32 → Prop, K' (bI (P d)) → v_X4_allowGlove 0 X (nI g) (X 0 7 g) (nI d) K') (h1 : ¬ y = 0 → K (hl P 20).2) (h2 : y = 0 → K (hl P 20).1) : v_X5_sizes_b32 X K (nI g) y 0 (-4) 20 := by
  unfold v_X5_sizes_b32
  refine z_for 20 (fun i q => q = (nI g, y, (hl P i).1, (hl P i).2, nI (20 - i))) ?_ (Nat.zero_le 20) rfl
  rintro i ⟨y1, y2, y3, y4, y5⟩ hi e Lp hL
  obtain ⟨rfl, e2⟩ := Prod.mk.inj e
  obtain ⟨rfl, e3⟩ := Prod.mk.inj e2
  obtain ⟨rfl, e4⟩ := Prod.mk.inj e3
  obtain ⟨rfl, rfl⟩ := Prod.mk.inj e4
  show v_X5_sizes_b32_s X K _ (nI g) y2 (hl P i).1 (hl P i).2 (nI (20 - i))
  unfold v_X5_sizes_b32_s
  rw [zi (show g < 1000 by omega)]
  refine ⟨fun c => ?_, fun c => ⟨vi (by omega) (by omega), ?_⟩⟩
  · have : i = 20 := by have := (nI_ltI (b := 1) (by omega) (by omega)).mp c; omega
    subst this
    exact ⟨h1, h2⟩
  · have hlt : i < 20 := by
      rcases Nat.lt_or_ge i 20 with q | q
      · exact q
      · exact absurd (nI_lt (b := 1) (show 20 - i < 1 by omega) (by omega)) c
    refine hP (20 - i) (by omega) (by omega) _ (br0 (fun a => ?_) (fun a => ?_))
    · intro y ey
      refine hL (_, _, _, _, _) hlt ?_
      rw [ey, hl_f a, dn20 hlt]
    · intro z ez y ey
      refine hL (_, _, _, _, _) hlt ?_
      rw [ey, ez, hl_t a, dn20 hlt]
theorem r_sizes {G : z_G} {g : Nat} {y : Int32} {P : Nat → Bool} {K : Int32 → Prop} (hg : g < 8) (hP : ∀ d, 1 ≤ d → d ≤ 20 → ∀ K' : Int32 → Prop, K' (bI (P d)) → v_X6_isSeen G (-4) 0 (nI g) (G 5 (10 + g)) (nI d) K') (h1 : ¬ y = 0 → K (hl P 20).2) (h2 : y = 0 → K (hl P 20).1) : v_X6_sizes_b30 G K (nI g) y 0 (-4) 20 := by
  unfold v_X6_sizes_b30
  refine z_for 20 (fun i q => q = (nI g, y, (hl P i).1, (hl P i).2, nI (20 - i))) ?_ (Nat.zero_le 20) rfl
  rintro i ⟨y1, y2, y3, y4, y5⟩ hi e Lp hL
  obtain ⟨rfl, e2⟩ := Prod.mk.inj e
  obtain ⟨rfl, e3⟩ := Prod.mk.inj e2
  obtain ⟨rfl, e4⟩ := Prod.mk.inj e3
  obtain ⟨rfl, rfl⟩ := Prod.mk.inj e4
  show v_X6_sizes_b30_s G K _ (nI g) y2 (hl P i).1 (hl P i).2 (nI (20 - i))
  unfold v_X6_sizes_b30_s v_X6_sizes_b67
  rw [i10, zi (show 10 + g < 1000 by omega)]
  refine ⟨fun c => ?_, fun c => ⟨vi (by omega) (by omega), ?_⟩⟩
  · have : i = 20 := by have := (nI_leI (b := 0) (by omega) (by omega)).mp c; omega
    subst this
    exact ⟨h1, h2⟩
  · have hlt : i < 20 := by
      rcases Nat.lt_or_ge i 20 with q | q
      · exact q
      · exact absurd (nI_le (b := 0) (show 20 - i ≤ 0 by omega) (by omega)) c
    refine hP (20 - i) (by omega) (by omega) _ (br0 (fun a => ?_) (fun a => ?_))
    · intro z ez
      rw [a]
      refine ⟨fun _ y ey => hL (_, _, _, _, _) hlt ?_, fun q => absurd rfl q⟩
      rw [ey, ez, hl_f a, dn20 hlt, Int32.add_zero]
    · intro z ez
      rw [a]
      refine ⟨fun q => absurd q (by decide), fun _ y ey => hL (_, _, _, _, _) hlt ?_⟩
      rw [ey, ez, hl_t a, dn20 hlt]
theorem t_sizes {X : z_X} {n k : Nat} (R : RLn X n k) (x y : Int32) : v_X5_sizes X x y (fun r => v_X6_sizes (X 19) x y (fun r2 => r = r2 ∧ RLE X)) := by
  obtain ⟨-, ⟨H, hn2, T, W⟩, -, -, ⟨s, s1, s2, s3, s4⟩, -⟩ := id R
  have hn6 := H.1.2.2.1
  have hk8 := H.1.2.2.2.1
  have RE : RLE X := ⟨n, k, R⟩
  unfold v_X5_sizes v_X6_sizes
  refine c_isGlove H.1.2.1 (br0 (fun w => r_isGlove W.2.2.1 (br0 (fun _ => ⟨rfl, RE⟩) (fun q => bx q w))) (fun w => s_within (br1 (fun u => ?_) (fun u => r_isGlove W.2.2.1 (br0 (fun q => bx w q) (fun _ => s_in (a := 0) (b := 1) rfl rfl rfl (br1 (fun q => bx q u) (fun _ => ⟨rfl, RE⟩))))))))
  obtain ⟨g, hg, rfl⟩ := (wi_nI (by omega)).mp w
  obtain ⟨a1, -, -, -⟩ := W.2.2.2.2.2 g hg
  have ref : ∀ r : Int32, (¬ y = 0 → r = (hl (fun d => alF (gP X (nI g) (X 0 7 g) (nI d)) s) 20).2) → (y = 0 → r = (hl (fun d => alF (gP X (nI g) (X 0 7 g) (nI d)) s) 20).1) → v_X6_sizes (X 19) (nI g) y (fun r2 => r = r2 ∧ RLE X) := by
    intro r k1 k2
    unfold v_X6_sizes
    refine r_isGlove W.2.2.1 (br0 (fun q => bx w q) (fun _ => s_in (a := 0) (b := 1) rfl rfl rfl (br1 (fun _ => r_sizes (P := fun d => alF (gP X (nI g) (X 0 7 g) (nI d)) s) (by omega) (fun d _ _ K' hK' => ?_) (fun z => ⟨k1 z, RE⟩) (fun z => ⟨k2 z, RE⟩)) (fun q => bx u q))))
    refine r_isSeen W.2.2.1 hk8 s1 s3 (fun i hi => ?_) ?_
    · obtain ⟨g, q, f1, f2, f3, f4, f5, f6, f7⟩ := s4 i hi
      exact ⟨g, q, f1, by omega, f5, f6⟩
    · rw [see_glove H.1 T W hg s4, a1]; exact hK'
  refine s_sizes (P := fun d => alF (gP X (nI g) (X 0 7 g) (nI d)) s) (by omega) (fun d _ _ K' hK' => s_allowGlove H.1 s1 s2 (by omega) (fun i hi => ?_) hK') (fun z => ref _ (fun _ => rfl) (fun q => absurd q z)) (fun z => ref _ (fun q => absurd z q) (fun _ => rfl))
  obtain ⟨g, q, f1, f2, f3, f4, f5, f6, f7⟩ := s4 i hi
  exact ⟨q, f2, f4⟩
theorem bs_t {P : Nat → Bool} {i : Nat} (h : P i = true) : bs P (i + 1) = (bs P i ||| 2 ^ i) := by
  show (bs P i ||| (if P i then 2 ^ i else 0)) = _
  rw [if_pos h]
theorem bs_f {P : Nat → Bool} {i : Nat} (h : P i = false) : bs P (i + 1) = bs P i := by
  show (bs P i ||| (if P i then 2 ^ i else 0)) = _
  rw [if_neg (by rw [h]; decide), Nat.or_zero]
theorem t_kinds {X : z_X} {n k : Nat} (R : RLn X n k) (x : Int32) : v_X5_kinds X x (fun r => v_X6_kinds (X 19) x (fun r2 => r = r2 ∧ RLE X)) := by
  obtain ⟨-, ⟨H, hn2, T, W⟩, -, -, ⟨s, s1, s2, s3, s4⟩, -⟩ := id R
  have hn6 := H.1.2.2.1
  have hk8 := H.1.2.2.2.1
  have RE : RLE X := ⟨n, k, R⟩
  unfold v_X5_kinds v_X6_kinds
  refine c_isGlove H.1.2.1 (br1 (fun w => ?_) (fun w => r_isGlove W.2.2.1 (br1 (fun q => bx q w) (fun _ => ⟨rfl, RE⟩))))
  obtain ⟨g, hg, rfl⟩ := (wi_nI (by omega)).mp w
  obtain ⟨-, a2, -, -⟩ := W.2.2.2.2.2 g hg
  unfold v_X5_kinds_b17
  refine z_for 4 (fun i q => q = (nI g, nI (bs (fun a => alF (gP X (nI g) (nI a) (X 0 8 g)) s) i), nI i)) ?_ (Nat.zero_le 4) rfl
  rintro i ⟨y1, y2, y3⟩ hi e Lp hL
  obtain ⟨rfl, e2⟩ := Prod.mk.inj e
  obtain ⟨rfl, rfl⟩ := Prod.mk.inj e2
  show v_X5_kinds_b17_s X _ _ (nI g) (nI (bs (fun a => alF (gP X (nI g) (nI a) (X 0 8 g)) s) i)) (nI i)
  unfold v_X5_kinds_b17_s
  refine ⟨fun c => ?_, fun c => ?_⟩
  · have : i = 4 := by have := (nI_leI (a := 4) (by omega) (by omega)).mp c; omega
    subst this
    refine r_isGlove W.2.2.1 (br1 (fun _ => ?_) (fun q => bx w q))
    unfold v_X6_kinds_b14
    refine z_for 4 (fun i q => q = (nI g, nI (bs (fun a => alF (gP X (nI g) (nI a) (X 0 8 g)) s) i), nI i)) ?_ (Nat.zero_le 4) rfl
    rintro i ⟨y1, y2, y3⟩ hi e Lp hL
    obtain ⟨rfl, e2⟩ := Prod.mk.inj e
    obtain ⟨rfl, rfl⟩ := Prod.mk.inj e2
    show v_X6_kinds_b14_s (X 19) _ _ (nI g) (nI (bs (fun a => alF (gP X (nI g) (nI a) (X 0 8 g)) s) i)) (nI i)
    unfold v_X6_kinds_b14_s
    refine ⟨fun c => ?_, fun c => ?_⟩
    · have : i = 4 := by have := (nI_leI (a := 4) (by omega) (by omega)).mp c; omega
      subst this
      exact ⟨rfl, RE⟩
    · have hlt : i < 4 := by
        rcases Nat.lt_or_ge i 4 with q | q
        · exact q
        · exact absurd (nI_le (a := 4) q (by omega)) c
      rw [i18, zi (show 18 + g < 1000 by omega), a2]
      refine ⟨vi (by omega) (by omega), r_isSeen W.2.2.1 hk8 s1 s3 (fun i hi => ?_) ?_⟩
      · obtain ⟨g, q, f1, f2, f3, f4, f5, f6, f7⟩ := s4 i hi
        exact ⟨g, q, f1, by omega, f5, f6⟩
      · rw [see_glove H.1 T W hg s4]
        refine br0 (fun a => ?_) (fun a => ?_)
        · intro z ez y ey
          refine hL (_, _, _) hlt ?_
          rw [ey, ez, show (0 : Int32) = nI 0 from rfl, nI_or, Nat.or_zero, nI_1, bs_f (P := fun a => alF (gP X (nI g) (nI a) (X 0 8 g)) s) (i := i) a]
        · intro z ez y ey
          refine hL (_, _, _) hlt ?_
          rw [ey, ez, shl1 (by omega), nI_or, nI_1, bs_t (P := fun a => alF (gP X (nI g) (nI a) (X 0 8 g)) s) (i := i) a]
  · have hlt : i < 4 := by
      rcases Nat.lt_or_ge i 4 with q | q
      · exact q
      · exact absurd (nI_le (a := 4) q (by omega)) c
    rw [zi (show g < 1000 by omega)]
    refine ⟨vi (by omega) (by omega), s_allowGlove H.1 s1 s2 (by omega) (fun i hi => ?_) ?_⟩
    · obtain ⟨g, q, f1, f2, f3, f4, f5, f6, f7⟩ := s4 i hi
      exact ⟨q, f2, f4⟩
    · refine br0 (fun a => ?_) (fun a => ?_)
      · intro y ey
        refine hL (_, _, _) hlt ?_
        rw [ey, nI_1, bs_f (P := fun a => alF (gP X (nI g) (nI a) (X 0 8 g)) s) (i := i) a]
      · intro z ez y ey
        refine hL (_, _, _) hlt ?_
        rw [ey, ez, shl1 (by omega), nI_or, nI_1, bs_t (P := fun a => alF (gP X (nI g) (nI a) (X 0 8 g)) s) (i := i) a]
