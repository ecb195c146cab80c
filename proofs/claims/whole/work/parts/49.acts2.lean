/-! ===== PURE: calls: take, stretch, wear, hurl, pass ===== -/
theorem act_end {X X1 : z_X} {n k k' u x : Nat} {h' G3 : z_G} {f : Nat → Int32} (R : RLn X n k) (hu : u ≤ 8) (hx : x < 8) (old : ∀ j, j < u → ∃ kj, HN n kj (X (3 + (x + 8 - u + j) % 8)) ∧ TR n (X (3 + (x + 8 - u + j) % 8)) (X 19 2) ∧ RR n kj (X (3 + (x + 8 - u + j) % 8)) (fun i => X 19 7 (42 * j + i))) (P : PT X X1 14 3 8 u x) (F : NT (X 19) 7 8 u f) (H' : HN n k' h') (T' : TR n h' (X 19 2)) (W' : RR n k' h' (G3 5)) (g7 : G3 7 = f) (g8 : G3 0 8 = nI (min (u + 1) 8)) (g : ∀ c, c = 1 ∨ c = 2 ∨ c = 9 ∨ c = 11 → G3 c = X 19 c) (s : ∀ j, j = 0 ∨ j = 10 ∨ j = 12 → G3 0 j = X 19 0 j) : RLE (z_up (z_up X1 0 h') 19 G3) := by
  obtain ⟨-, ⟨H, hn2, T, W⟩, -, -, -, N⟩ := id R
  obtain ⟨p1, p2, p3, p4⟩ := P
  refine ⟨n, k', RL_act R (fun i hi => ?_) (fun c hc => ?_) (fun j hj => ?_) (SK_put (X := X) (by omega) hu hx old H T W ?_ ?_ ?_ ?_ ?_ (fun i hi h1 => ?_) ?_) ⟨?_, hn2, ?_, ?_⟩ (fun i hi => ?_)⟩
  · rw [z_up_ne (by omega), z_up_ne (by omega), p4 i (by omega) (by omega)]
  · rw [z_up_same]; exact g c hc
  · rw [z_up_same]; exact s j hj
  · rw [z_up_ne (by decide), z_up_ne (by decide)]; exact p1
  · rw [z_up_ne (by decide), z_up_ne (by decide)]; exact p2
  · rw [z_up_same]; exact g8
  · rw [z_up_same]; exact g 2 (by omega)
  · rw [z_up_ne (by omega), z_up_ne (by omega)]; exact p3
  · rw [z_up_ne (by omega), z_up_ne (by omega), p4 _ (by omega) (by omega)]
  · rw [z_up_same, g7]; exact F
  · rw [z_up_ne (by decide), z_up_same]; exact H'
  · rw [z_up_ne (by decide), z_up_same, z_up_same, g 2 (by omega)]; exact T'
  · rw [z_up_ne (by decide), z_up_same, z_up_same]; exact W'
  · rw [z_up_ne (by omega)]
    by_cases e : i = 0
    · rw [e, z_up_same]; exact H'.2
    · rw [z_up_ne e]
      by_cases e2 : i = 3 + x
      · rw [e2, p3]; exact N 0 (by omega)
      · rw [p4 i (by omega) e2]; exact N i (by omega)
theorem lyP_bit {n k g : Nat} {h : z_G} (H : HI n k h) (hg : g < k) : (bs (lyP h) k).testBit g = decide (h 10 g = 1) := by
  rw [bs_bit, decide_eq_true hg]; rfl
theorem t_take {X : z_X} {n k : Nat} (R : RLn X n k) (a : Int32) : v_X5_take X a (fun r X' => v_X6_take (X' 19) a (fun r2 h' => r = r2 ∧ RLE (z_up X' 19 h'))) := by
  obtain ⟨-, ⟨H, hn2, T, W⟩, ⟨u, x, hu, hx, u0, u1, u2, old⟩, -, -, N⟩ := id R
  have hk8 := H.1.2.2.2.1
  have hL := bs_256 H.1
  unfold v_X5_take v_X6_take
  refine c_isGlove H.1.2.1 (br1 (fun w => ?_) (fun w => r_isGlove W.2.2.1 (br1 (fun q => bx q w) (fun _ => ⟨rfl, RE_bad R⟩))))
  obtain ⟨g, hg, rfl⟩ := (wi_nI (by omega)).mp w
  rw [zi (show g < 1000 by omega)]
  refine ⟨vi (by omega) (by omega), fun c => ?_, fun c => ?_⟩
  · have h1 : X 0 10 g = 1 := by
      rcases H.1.2.2.2.2.2.1 g hg with q | q
      · exact absurd q c
      · exact q
    refine s_put (by omega) hu hx u0 u1 (by omega) (by omega) (N _ (by omega)) (N 0 (by omega)) (fun X1 P => ⟨vi (by omega) (by omega), ?_⟩)
    have P' := P
    obtain ⟨p1, p2, p3, p4⟩ := P'
    have e0 : X1 0 = X 0 := p4 0 (by decide) (by omega)
    have e19 : X1 19 = X 19 := p4 19 (by decide) (by omega)
    intro Y7 e7
    rw [e0] at e7
    have H' : HN n k (z_ss (X 0) 10 g 0) := HN_lie H hg
    have hL' := bs_256 H'.1
    subst e7
    dsimp only
    rw [z_up_same]
    refine s_lying H'.1 (s_bitCount hL' ?_)
    rw [z_up_ne (show 19 ≠ 0 by decide), e19, zn3, W.2.2.2.1]
    refine r_isGlove W.2.2.1 (br1 (fun _ => ⟨vi (a := 3) (by omega) (by omega), s_has (by omega) (by omega) (br1 (fun _ => ?_) (fun q => ?_))⟩) (fun q => bx w q))
    · refine r_note hu u2 (fun f F => ⟨vi (a := 3) (by omega) (by omega), vi (a := 3) (by omega) (by omega), ?_⟩)
      intro h9 e9
      have g5 : z_ss (z_sa (X 19) 7 f) 0 8 (nI (min (u + 1) 8)) 5 = X 19 5 := by rw [z_ss_ne (by decide), z_sa_ne (by decide)]
      have eb : nI (bs (lyP (X 0)) k) &&& (((1 : Int32) <<< (nI g &&& 31)) ^^^ (-1 : Int32)) = nI (bs (lyP (z_ss (X 0) 10 g 0)) k) := by
        refine bs_del (fun j hj => ?_) (by omega) (by omega)
        unfold lyP
        rw [z_ss_rd]
        by_cases e : j = g
        · subst e; simp
        · simp [e]
      rw [g5, W.2.2.2.1, eb] at e9
      have r3 : h9 5 3 = nI (bs (lyP (z_ss (X 0) 10 g 0)) k) := by rw [e9, z_ss_same, upd_eq]
      rw [r3]
      refine ⟨vi (a := 3) (by omega) (by omega), s_ones hL' ⟨rfl, act_end R hu hx old P F H' (TR_cong T (fun x _ => by rw [z_ss_ne (by decide)]) (fun x _ => by rw [z_ss_ne (by decide)])) ?_ ?_ ?_ (fun c hc => ?_) (fun j hj => ?_)⟩⟩
      · have e5 : h9 5 = upd (X 19 5) 3 (nI (bs (lyP (z_ss (X 0) 10 g 0)) k)) := by rw [e9, z_ss_same, g5]
        rw [e5]
        obtain ⟨r0, r1, r2, -, r4, r5⟩ := W
        refine ⟨by rw [upd_ne (by omega), z_ss_ne (by decide)]; exact r0, by rw [upd_ne (by omega), z_ss_ne (by decide)]; exact r1, by rw [upd_ne (by omega)]; exact r2, upd_eq _ _ _, fun x hx => by rw [upd_ne (by omega), z_ss_ne (by decide)]; exact r4 x hx, fun x hx => ?_⟩
        rw [upd_ne (by omega), upd_ne (by omega), upd_ne (by omega), upd_ne (by omega), z_ss_ne (by decide), z_ss_ne (by decide), z_ss_ne (by decide), z_ss_ne (by decide)]
        exact r5 x hx
      · rw [e9, z_ss_ne (by decide), z_ss_ne (by decide), z_sa_same]
      · rw [e9, z_ss_ne (by decide), z_ss_same, upd_eq]
      · rw [e9, z_ss_ne (by omega), z_ss_ne (by omega), z_sa_ne (by omega)]
      · rw [e9, z_ss_ne (by decide), z_ss_same, upd_ne (by omega), z_sa_ne (by decide)]
    · rw [lyP_bit H.1 hg, h1] at q
      cases q
  · refine r_isGlove W.2.2.1 (br1 (fun _ => ⟨vi (a := 3) (by omega) (by omega), ?_⟩) (fun q => bx w q))
    rw [zn3, W.2.2.2.1]
    refine s_has (by omega) (by omega) (br1 (fun q => ?_) (fun _ => ⟨rfl, RE_bad R⟩))
    rw [lyP_bit H.1 hg, c] at q
    cases q
theorem t_stretch {X : z_X} {n k : Nat} (R : RLn X n k) (a : Int32) : v_X5_stretch X a (fun r X' => v_X6_stretch (X' 19) a (fun r2 h' => r = r2 ∧ RLE (z_up X' 19 h'))) := by
  obtain ⟨-, ⟨H, hn2, T, W⟩, ⟨u, x, hu, hx, u0, u1, u2, old⟩, -, -, N⟩ := id R
  have hk8 := H.1.2.2.2.1
  have hL := bs_256 H.1
  unfold v_X5_stretch v_X6_stretch
  refine c_isGlove H.1.2.1 (br1 (fun w => ?_) (fun w => r_isGlove W.2.2.1 (br1 (fun q => bx q w) (fun _ => ⟨rfl, RE_bad R⟩))))
  obtain ⟨g, hg, rfl⟩ := (wi_nI (by omega)).mp w
  obtain ⟨a1, a2, a3, a4⟩ := W.2.2.2.2.2 g hg
  have ref : ∀ (r : Int32) (X' : z_X), X' 19 = X 19 → ((¬ (X 0 7 g = 1 ∧ X 0 10 g = 1 ∧ ¬ X 0 8 g = 20)) → r = -2 ∧ RLE (z_up X' 19 (X 19))) → ((X 0 7 g = 1 ∧ X 0 10 g = 1 ∧ ¬ X 0 8 g = 20) → ∀ f, NT (X 19) 7 8 u f → r = X 0 8 g + 1 ∧ RLE (z_up X' 19 (z_ss (z_ss (z_sa (X 19) 7 f) 0 8 (nI (min (u + 1) 8))) 5 (18 + g) (X 0 8 g + 1)))) → v_X6_stretch (X' 19) (nI g) (fun r2 h' => r = r2 ∧ RLE (z_up X' 19 h')) := by
    intro r X' e19 k1 k2
    unfold v_X6_stretch
    rw [e19, i10, i18, zi (show 10 + g < 1000 by omega), zi (show 18 + g < 1000 by omega), a1, a2, zn3, W.2.2.2.1]
    refine r_isGlove W.2.2.1 (br1 (fun _ => ⟨vi (by omega) (by omega), fun c => k1 (fun q => c q.1), fun c => ⟨vi (a := 3) (by omega) (by omega), s_has (by omega) (by omega) ?_⟩⟩) (fun q => bx w q))
    rw [lyP_bit H.1 hg]
    refine br0 (fun d => k1 (fun q => of_decide_eq_false d q.2.1)) (fun d => ⟨vi (by omega) (by omega), fun e => ?_, fun e => k1 (fun q => q.2.2 e)⟩)
    refine r_note hu u2 (fun f F => ⟨vi (by omega) (by omega), vi (by omega) (by omega), ?_⟩)
    have g5 : z_ss (z_sa (X 19) 7 f) 0 8 (nI (min (u + 1) 8)) 5 = X 19 5 := by rw [z_ss_ne (by decide), z_sa_ne (by decide)]
    rw [g5, a2]
    intro h13 e13
    have r3 : h13 5 (18 + g) = X 0 8 g + 1 := by rw [e13, z_ss_same, upd_eq]
    rw [r3, e13]
    exact ⟨vi (by omega) (by omega), k2 ⟨c, of_decide_eq_true d, e⟩ f F⟩
  rw [zi (show g < 1000 by omega)]
  obtain ⟨z, hz1, hz2, ez⟩ := H.1.2.2.2.2.2.2.2 g hg
  refine ⟨vi (by omega) (by omega), fun c => ref (-2) X rfl (fun _ => ⟨rfl, RE_bad R⟩) (fun q => absurd q.1 c), fun c => ⟨vi (by omega) (by omega), fun d => ref (-2) X rfl (fun _ => ⟨rfl, RE_bad R⟩) (fun q => absurd (d.symm.trans q.2.1) (by decide)), fun d => ⟨vi (by omega) (by omega), fun e => ?_, fun e => ref (-2) X rfl (fun _ => ⟨rfl, RE_bad R⟩) (fun q => absurd ?_ q.2.2)⟩⟩⟩
  · have h1 : X 0 10 g = 1 := by
      rcases H.1.2.2.2.2.2.1 g hg with q | q
      · exact absurd q d
      · exact q
    have hz : z < 20 := by rw [ez] at e; exact (nI_ltI (b := 20) (by omega) (by omega)).mp e
    have hne : ¬ X 0 8 g = 20 := by
      rw [ez]; intro q
      have := (nI_eq (b := 20) (by omega) (by omega)).mp q
      omega
    refine s_put (by omega) hu hx u0 u1 (by omega) (by omega) (N _ (by omega)) (N 0 (by omega)) (fun X1 P => ⟨vi (by omega) (by omega), vi (by omega) (by omega), ?_⟩)
    have P' := P
    obtain ⟨p1, p2, p3, p4⟩ := P'
    have e0 : X1 0 = X 0 := p4 0 (by decide) (by omega)
    have e19 : X1 19 = X 19 := p4 19 (by decide) (by omega)
    rw [e0]
    intro Y12 e12
    subst e12
    have er : z_up X1 0 (z_ss (X 0) 8 g (X 0 8 g + 1)) 0 8 g = X 0 8 g + 1 := by rw [z_up_same, z_ss_same, upd_eq]
    rw [er]
    refine ⟨vi (by omega) (by omega), ref _ _ (by rw [z_up_ne (by decide)]; exact e19) (fun q => absurd ⟨c, h1, hne⟩ q) (fun _ f F => ⟨rfl, ?_⟩)⟩
    have H' : HN n k (z_ss (X 0) 8 g (X 0 8 g + 1)) := by
      obtain ⟨⟨h1, h2, h3, h4, h5, h6, h7, h8⟩, H2⟩ := H
      refine ⟨⟨by rw [z_ss_ne (by decide)]; exact h1, by rw [z_ss_ne (by decide)]; exact h2, h3, h4, fun x hx => by rw [z_ss_ne (by decide)]; exact h5 x hx, fun x hx => by rw [z_ss_ne (by decide)]; exact h6 x hx, fun x hx => by rw [z_ss_ne (by decide)]; exact h7 x hx, fun x hx => ?_⟩, NF_ss H2 (rel_of (by omega))⟩
      rw [z_ss_rd]
      split
      · exact ⟨z + 1, by omega, by omega, by rw [ez, nI_1]⟩
      · exact h8 x hx
    refine act_end R hu hx old P F H' (TR_cong T (fun x _ => by rw [z_ss_ne (by decide)]) (fun x _ => by rw [z_ss_ne (by decide)])) ?_ ?_ ?_ (fun c hc => ?_) (fun j hj => ?_)
    · rw [z_ss_same, z_ss_ne (by decide), z_sa_ne (by decide)]
      obtain ⟨r0, r1, r2, r3, r4, r5⟩ := W
      have hn6 := H.1.2.2.1
      refine ⟨by rw [upd_ne (by omega), z_ss_ne (by decide)]; exact r0, by rw [upd_ne (by omega), z_ss_ne (by decide)]; exact r1, by rw [upd_ne (by omega)]; exact r2, ?_, fun x hx => by rw [upd_ne (by omega), z_ss_ne (by decide)]; exact r4 x hx, fun x hx => ?_⟩
      · rw [upd_ne (by omega), r3]
        exact congrArg nI (bs_cong (fun j _ => by unfold lyP; rw [z_ss_ne (by decide)]))
      · obtain ⟨b1, b2, b3, b4⟩ := r5 x hx
        refine ⟨?_, ?_, ?_, ?_⟩
        · rw [upd_ne (by omega), z_ss_ne (by decide)]; exact b1
        · rw [z_ss_same]
          by_cases ex : x = g
          · subst ex; rw [upd_eq, upd_eq]
          · rw [upd_ne (by omega), upd_ne ex]; exact b2
        · rw [upd_ne (by omega), z_ss_ne (by decide)]; exact b3
        · rw [upd_ne (by omega), z_ss_ne (by decide)]; exact b4
    · rw [z_ss_ne (by decide), z_ss_ne (by decide), z_sa_same]
    · rw [z_ss_ne (by decide), z_ss_same, upd_eq]
    · rw [z_ss_ne (by omega), z_ss_ne (by omega), z_sa_ne (by omega)]
    · rw [z_ss_ne (by decide), z_ss_same, upd_ne (by omega), z_sa_ne (by decide)]
  · rw [ez] at e ⊢
    have : z = 20 := by
      rcases Nat.lt_or_ge z 20 with q | q
      · exact absurd (nI_lt (b := 20) q (by omega)) e
      · omega
    rw [this]; rfl
theorem t_wear {X : z_X} {n k : Nat} (R : RLn X n k) (a b : Int32) : v_X5_wear X a b (fun r X' => v_X6_wear (X' 19) a b (fun r2 h' => r = r2 ∧ RLE (z_up X' 19 h'))) := by
  obtain ⟨-, ⟨H, hn2, T, W⟩, ⟨u, x, hu, hx, u0, u1, u2, old⟩, -, -, N⟩ := id R
  have hk8 := H.1.2.2.2.1
  have hn6 := H.1.2.2.1
  unfold v_X5_wear v_X6_wear
  refine c_isPerson H.1.1 (br0 (fun w => r_isPerson T.1 (br0 (fun _ => ⟨rfl, RE_bad R⟩) (fun q => bx q w))) (fun w => c_isGlove H.1.2.1 (br1 (fun v => ?_) (fun v => r_isPerson T.1 (br0 (fun q => bx w q) (fun _ => r_isGlove W.2.2.1 (br1 (fun q => bx q v) (fun _ => ⟨rfl, RE_bad R⟩))))))))
  obtain ⟨p, hp, rfl⟩ := (wi_nI (by omega)).mp w
  obtain ⟨g, hg, rfl⟩ := (wi_nI (by omega)).mp v
  have hcan : cn8 k (X 0) p g = can (X 0) p g := by simp [cn8, hg]
  have ref : ∀ (r : Int32) (X' : z_X), X' 19 = X 19 → (can (X 0) p g = false → ∀ r6, r = -2 ∧ RLE (z_up X' 19 (z_sa (X 19) 6 r6))) → (can (X 0) p g = true → ∀ f r6 G3, NT (X 19) 7 8 u f → RR n k (wr (X 0) p g) r6 → (∀ i, i < 42 → G3 5 i = r6 i) → G3 7 = f → G3 0 8 = nI (min (u + 1) 8) → (∀ c, c = 1 ∨ c = 2 ∨ c = 9 ∨ c = 11 → G3 c = X 19 c) → (∀ j, j = 0 ∨ j = 10 ∨ j = 12 → G3 0 j = X 19 0 j) → r = wr (X 0) p g 5 p ∧ RLE (z_up X' 19 G3)) → v_X6_wear (X' 19) (nI p) (nI g) (fun r2 h' => r = r2 ∧ RLE (z_up X' 19 h')) := by
    intro r X' e19 k1 k2
    unfold v_X6_wear
    rw [e19]
    refine r_isPerson T.1 (br0 (fun q => bx w q) (fun _ => r_isGlove W.2.2.1 (br1 (fun _ => r_aside ?_) (fun q => bx v q))))
    refine r_isFit H.1 (by rw [z_sa_ne (by decide)]; exact T) (by rw [z_sa_same]; exact RR_aside H.1 W) (by omega) hp ?_
    rw [hcan]
    refine br1 (fun c => ?_) (fun c => k1 c _)
    refine r_note hu (by rw [z_sa_ne (by decide)]; exact u2) (fun f F => ?_)
    have eG : z_ss (z_sa (z_sa (X 19) 6 (asd (X 19 5) (X 19 6) 42)) 7 f) 0 8 (nI (min (u + 1) 8)) = z_sa (z_ss (z_sa (X 19) 7 f) 0 8 (nI (min (u + 1) 8))) 6 (asd (X 19 5) (X 19 6) 42) := by
      funext i j
      simp only [z_ss_rd, z_sa_rd]
      by_cases h6 : i = 6
      · subst h6; simp
      · simp [h6]
    rw [eG]
    have hne : ¬ X 0 9 g = nI p := by
      unfold can at c
      simp only [Bool.and_eq_true, decide_eq_true_eq] at c
      exact c.2.1
    have F' : NT (X 19) 7 8 u f := by
      obtain ⟨f1, f2, f3⟩ := F
      refine ⟨fun q j hj i hi => ?_, fun q j hj i hi => ?_, fun i hi => ?_⟩
      · rw [f1 q j hj i hi, z_sa_ne (by decide)]
      · rw [f2 q j hj i hi, z_sa_ne (by decide)]
      · rw [f3 i hi, z_sa_ne (by decide)]
    refine r_goWear H.1 (RR_aside H.1 W) hg hp hne (fun r' R' => r_settle ?_)
    rw [z_sa_same, i4, zi (show 4 + p < 1000 by omega)]
    refine ⟨vi (by omega) (by omega), ?_⟩
    rw [z_sa_same, asd_in (by omega), R'.2.2.2.2.1 p hp]
    refine k2 c f r' _ F' R' (fun i hi => ?_) ?_ ?_ (fun c hc => ?_) (fun j hj => ?_)
    · rw [z_sa_same, asd_in hi]
    · rw [z_sa_ne (by decide), z_sa_ne (by decide), z_ss_ne (by decide), z_sa_same]
    · rw [z_sa_ne (by decide), z_sa_ne (by decide), z_ss_same, upd_eq]
    · rw [z_sa_ne (by omega), z_sa_ne (by omega), z_ss_ne (by omega), z_sa_ne (by omega)]
    · rw [z_sa_ne (by decide), z_sa_ne (by decide), z_ss_same, upd_ne (by omega), z_sa_ne (by decide)]
  refine s_can (by omega) (by omega) (br1 (fun c => ?_) (fun c => ref _ _ rfl (fun _ r6 => ⟨rfl, _, _, RL_side R⟩) (fun q => bx q c)))
  obtain ⟨o, ho, eo⟩ := H.1.2.2.2.2.1 g hg
  refine s_put (by omega) hu hx u0 u1 (by omega) (by omega) (N _ (by omega)) (N 0 (by omega)) (fun X1 P => ?_)
  have P' := P
  obtain ⟨p1, p2, p3, p4⟩ := P'
  have e0 : X1 0 = X 0 := p4 0 (by decide) (by omega)
  have e19 : X1 19 = X 19 := p4 19 (by decide) (by omega)
  rw [e0]
  refine s_wr (by omega) (by omega) eo (by omega) ?_
  intro Y9 e9
  subst e9
  rw [zi (show p < 1000 by omega)]
  refine ⟨vi (by omega) (by omega), ref _ _ (by rw [z_up_ne (by decide)]; exact e19) (fun q => bx c q) (fun _ f r6 G3 F R6 q5 q7 q8 qc qs => ⟨by rw [z_up_same], ?_⟩)⟩
  exact act_end R hu hx old P F (HN_wr H hp hg) (TR_cong T (fun x _ => by rw [wr_cell _ _ _ _ (by decide) (by decide) (by decide) (by decide)]) (fun x _ => by rw [wr_cell _ _ _ _ (by decide) (by decide) (by decide) (by decide)])) (RR_42 (HN_wr H hp hg).1 R6 q5) q7 q8 qc qs
