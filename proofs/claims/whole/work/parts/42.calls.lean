/-! ===== PURE: calls, one by one: fight, count, behind, lies, last, first ===== -/
def fgA (n : Nat) (h : z_G) (x y : Int32) : Int32 := if wi x 0 (nI n - 1) = false ∨ wi y 0 (nI n - 1) = false ∨ x = y then -1 else if h 5 (z_n x) = 0 ∨ h 5 (z_n y) = 0 then -2 else if h 5 (z_n x) = h 5 (z_n y) then 2 else if h 5 (z_n x) ≤ h 5 (z_n y) then 0 else 1
theorem c_fight {X : z_X} {n k : Nat} (H : HN n k (X 0)) (x y : Int32) {K : Int32 → Prop} (hK : K (fgA n (X 0) x y)) : v_X5_fight X x y K := by
  have hn6 := H.1.2.2.1
  unfold v_X5_fight
  refine c_isPerson H.1.1 (br0 (fun w => kE hK (by simp [fgA, w])) (fun w => c_isPerson H.1.1 (br0 (fun u => kE hK (by simp [fgA, u])) (fun u => ⟨fun e => ?_, fun e => kE hK (by simp [fgA, e])⟩))))
  have hK2 := hK
  unfold fgA at hK
  rw [if_neg (by simp [w, u, e])] at hK
  obtain ⟨p, hp, rfl⟩ := (wi_nI (by omega)).mp w
  obtain ⟨q, hq, rfl⟩ := (wi_nI (by omega)).mp u
  rw [zi (show p < 1000 by omega), zi (show q < 1000 by omega)] at hK ⊢
  refine s_isOut (by omega) (br1 (fun a => ?_) (fun a => s_isOut (by omega) (br0 (fun b => ⟨vi (by omega) (by omega), vi (by omega) (by omega), fun c => ⟨vi (by omega) (by omega), vi (by omega) (by omega), fun d => ?_, fun d => ?_⟩, fun c => ?_⟩) (fun b => ?_))))
  · rw [if_pos (Or.inl (of_decide_eq_true a))] at hK; exact hK
  · rw [if_neg (fun z => z.elim (of_decide_eq_false a) (of_decide_eq_false b)), if_neg c, if_pos d] at hK; exact hK
  · rw [if_neg (fun z => z.elim (of_decide_eq_false a) (of_decide_eq_false b)), if_neg c, if_neg d] at hK; exact hK
  · rw [if_neg (fun z => z.elim (of_decide_eq_false a) (of_decide_eq_false b)), if_pos c] at hK; exact hK
  · rw [if_pos (Or.inr (of_decide_eq_true b))] at hK; exact hK
theorem rr_fight {n k : Nat} {h G : z_G} (H : HN n k h) (T : TR n h (G 2)) (W : RR n k h (G 5)) (x y : Int32) {K : Int32 → Prop} (hK : K (fgA n h x y)) : v_X6_fight G x y K := by
  have hn6 := H.1.2.2.1
  unfold v_X6_fight
  refine r_isPerson T.1 (br0 (fun w => kE hK (by simp [fgA, w])) (fun w => r_isPerson T.1 (br0 (fun u => kE hK (by simp [fgA, u])) (fun u => ⟨fun e => ?_, fun e => kE hK (by simp [fgA, e])⟩))))
  unfold fgA at hK
  rw [if_neg (by simp [w, u, e])] at hK
  obtain ⟨p, hp, rfl⟩ := (wi_nI (by omega)).mp w
  obtain ⟨q, hq, rfl⟩ := (wi_nI (by omega)).mp u
  rw [i4, i4, zi (show 4 + p < 1000 by omega), zi (show 4 + q < 1000 by omega), W.2.2.2.2.1 p hp, W.2.2.2.2.1 q hq]
  rw [zi (show p < 1000 by omega), zi (show q < 1000 by omega)] at hK
  refine ⟨vi (by omega) (by omega), ?_⟩
  intro y7 e7
  subst e7
  refine ⟨vi (by omega) (by omega), ?_⟩
  intro y9 e9
  subst e9
  refine ⟨fun a => ?_, fun a => ⟨fun b => ⟨fun c => ⟨fun d => ?_, fun d => ?_⟩, fun c => ?_⟩, fun b => ?_⟩⟩
  · rw [if_pos (Or.inl a)] at hK; exact hK
  · rw [if_neg (fun z => z.elim a b), if_pos (Int32.le_antisymm c d)] at hK; exact hK
  · rw [if_neg (fun z => z.elim a b), if_neg (fun z => d (by rw [z]; exact Int32.le_refl _)), if_pos c] at hK; exact hK
  · rw [if_neg (fun z => z.elim a b), if_neg (fun z => c (by rw [z]; exact Int32.le_refl _)), if_neg c] at hK; exact hK
  · rw [if_pos (Or.inr b)] at hK; exact hK
theorem t_fight {X : z_X} {n k : Nat} (R : RLn X n k) (x y : Int32) : v_X5_fight X x y (fun r => v_X6_fight (X 19) x y (fun r2 => r = r2 ∧ RLE X)) := by
  obtain ⟨-, ⟨H, hn2, T, W⟩, -⟩ := id R
  exact c_fight H x y (rr_fight H T W x y ⟨rfl, n, k, R⟩)
theorem r_outMany {n k : Nat} {h G : z_G} {K : Int32 → Prop} (H : HI n k h) (T : TR n h (G 2)) (W : RR n k h (G 5)) (hK : K (nI (cnt (fun p => decide (h 5 p = 0)) n))) : v_X6_outMany G K := by
  have hn6 := H.2.2.1
  unfold v_X6_outMany v_X6_outMany_b4
  refine z_for n (fun i q => q = (nI (cnt (fun p => decide (h 5 p = 0)) i), nI i)) ?_ (Nat.zero_le n) rfl
  rintro i ⟨x1, x2⟩ hi e Lp hL
  obtain ⟨rfl, rfl⟩ := Prod.mk.inj e
  show v_X6_outMany_b4_s G K _ (nI (cnt (fun p => decide (h 5 p = 0)) i)) (nI i)
  unfold v_X6_outMany_b4_s
  rw [zn0, T.1]
  refine ⟨vi (a := 0) (by omega) (by omega), fun c => ?_, fun c => ?_⟩
  · have : i = n := by have := (nI_leI (by omega) (by omega)).mp c; omega
    subst this
    exact hK
  · have hlt : i < n := by
      rcases Nat.lt_or_ge i n with q | q
      · exact q
      · exact absurd (nI_le q (by omega)) c
    rw [i4, zi (show 4 + i < 1000 by omega), W.2.2.2.2.1 i hlt]
    refine ⟨vi (by omega) (by omega), fun d => ?_, fun d => ?_⟩
    · intro y ey z ez
      refine hL (_, _) hlt ?_
      rw [ey, ez, nI_1, Int32.add_zero]
      show _ = (nI (cnt _ i + (if decide (h 5 i = 0) = true then 1 else 0)), _)
      simp [d]
    · intro y ey z ez
      refine hL (_, _) hlt ?_
      rw [ey, ez, nI_1, nI_1]
      show _ = (nI (cnt _ i + (if decide (h 5 i = 0) = true then 1 else 0)), _)
      simp [d]
theorem out_cnt {n k : Nat} {h : z_G} (H : HI n k h) : nI n - nI (pop (bs (stP h) n)) = nI (cnt (fun p => decide (h 5 p = 0)) n) := by
  have hn6 := H.2.2.1
  rw [pop_bs _ n (by omega), pk_sub (cnt_le _ n)]
  have e := cnt_not (stP h) n
  have e2 : cnt (fun g => !stP h g) n = cnt (fun p => decide (h 5 p = 0)) n := cnt_cong (fun j hj => by
    obtain ⟨a, ha, ea⟩ := H.2.2.2.2.2.2.1 j hj
    show (!stP h j) = decide (h 5 j = 0)
    unfold stP
    rw [ea]
    by_cases h0 : a = 0
    · subst h0; rfl
    · have h1 : 0 < nI a := nI_lt (a := 0) (by omega) (by omega)
      have h2 : ¬ nI a = 0 := nI_ne0 (by omega) (by omega)
      simp [h1, h2])
  rw [e2] at e
  rw [show n - cnt (stP h) n = cnt (fun p => decide (h 5 p = 0)) n by omega]
theorem bs_64 {n k : Nat} {h : z_G} (H : HI n k h) : bs (stP h) n < 256 := Nat.lt_of_lt_of_le (bs_lt _ n) (pow8 (k := 8) (by have := H.2.2.1; omega) (by omega))
theorem t_count {X : z_X} {n k : Nat} (R : RLn X n k) (x : Int32) : v_X5_count X x (fun r => v_X6_count (X 19) x (fun r2 => r = r2 ∧ RLE X)) := by
  obtain ⟨⟨len, l1, l2, -⟩, ⟨H, hn2, T, W⟩, ⟨u, ux, -, -, u1, -, u2, -⟩, ⟨v, vx, -, -, v1, -, v2, -⟩, ⟨sc, -, s1, s2, -⟩, -⟩ := id R
  have RE : RLE X := ⟨n, k, R⟩
  unfold v_X5_count v_X6_count
  rw [zn0, zn1, zn2, zn3, T.1, W.1, W.2.1, W.2.2.1, W.2.2.2.1, l1, l2, u1, u2, v1, v2, s1, s2, H.1.1, H.1.2.1]
  have rest : ∀ (a b : Nat), a < 10 → b < 10 → a ≠ b → nI a = (nI b : Int32) → False := fun a b ha hb hne e => hne ((nI_eq (by omega) (by omega)).mp e)
  refine ⟨fun e => ?_, fun e => ?_, fun e => ?_, fun e => s_standing H.1 (s_bitCount (bs_64 H.1) ?_), fun e => s_lying H.1 (s_bitCount (bs_256 H.1) ?_), fun e => ?_, fun e => ?_, fun e => ?_, fun e => ?_, fun e => ?_, fun e0 e1 e2 e3 e4 e5 e6 e7 e8 e9 => ?_⟩
  · subst e
    exact ⟨fun _ => ⟨vi (a := 0) (by omega) (by omega), rfl, RE⟩, fun q => absurd q (by decide), fun q => absurd q (by decide), fun q => absurd q (by decide), fun q => absurd q (by decide), fun q => absurd q (by decide), fun q => absurd q (by decide), fun q => absurd q (by decide), fun q => absurd q (by decide), fun q => absurd q (by decide), fun q => absurd rfl q⟩
  · subst e
    exact ⟨fun q => absurd q (by decide), fun _ => ⟨vi (a := 2) (by omega) (by omega), rfl, RE⟩, fun q => absurd q (by decide), fun q => absurd q (by decide), fun q => absurd q (by decide), fun q => absurd q (by decide), fun q => absurd q (by decide), fun q => absurd q (by decide), fun q => absurd q (by decide), fun q => absurd q (by decide), fun _ q => absurd rfl q⟩
  · subst e
    exact ⟨fun q => absurd q (by decide), fun q => absurd q (by decide), fun _ => ⟨vi (a := 0) (by omega) (by omega), rfl, RE⟩, fun q => absurd q (by decide), fun q => absurd q (by decide), fun q => absurd q (by decide), fun q => absurd q (by decide), fun q => absurd q (by decide), fun q => absurd q (by decide), fun q => absurd q (by decide), fun _ _ q => absurd rfl q⟩
  · subst e
    exact ⟨fun q => absurd q (by decide), fun q => absurd q (by decide), fun q => absurd q (by decide), fun _ => r_outMany H.1 T W ⟨out_cnt H.1, RE⟩, fun q => absurd q (by decide), fun q => absurd q (by decide), fun q => absurd q (by decide), fun q => absurd q (by decide), fun q => absurd q (by decide), fun q => absurd q (by decide), fun _ _ _ q => absurd rfl q⟩
  · subst e
    exact ⟨fun q => absurd q (by decide), fun q => absurd q (by decide), fun q => absurd q (by decide), fun q => absurd q (by decide), fun _ => ⟨vi (a := 3) (by omega) (by omega), s_ones (bs_256 H.1) ⟨rfl, RE⟩⟩, fun q => absurd q (by decide), fun q => absurd q (by decide), fun q => absurd q (by decide), fun q => absurd q (by decide), fun q => absurd q (by decide), fun _ _ _ _ q => absurd rfl q⟩
  · subst e
    exact ⟨fun q => absurd q (by decide), fun q => absurd q (by decide), fun q => absurd q (by decide), fun q => absurd q (by decide), fun q => absurd q (by decide), fun _ => ⟨vi (a := 1) (by omega) (by omega), rfl, RE⟩, fun q => absurd q (by decide), fun q => absurd q (by decide), fun q => absurd q (by decide), fun q => absurd q (by decide), fun _ _ _ _ _ q => absurd rfl q⟩
  · subst e
    exact ⟨fun q => absurd q (by decide), fun q => absurd q (by decide), fun q => absurd q (by decide), fun q => absurd q (by decide), fun q => absurd q (by decide), fun q => absurd q (by decide), fun _ => ⟨rfl, RE⟩, fun q => absurd q (by decide), fun q => absurd q (by decide), fun q => absurd q (by decide), fun _ _ _ _ _ _ q => absurd rfl q⟩
  · subst e
    exact ⟨fun q => absurd q (by decide), fun q => absurd q (by decide), fun q => absurd q (by decide), fun q => absurd q (by decide), fun q => absurd q (by decide), fun q => absurd q (by decide), fun q => absurd q (by decide), fun _ => ⟨rfl, RE⟩, fun q => absurd q (by decide), fun q => absurd q (by decide), fun _ _ _ _ _ _ _ q => absurd rfl q⟩
  · subst e
    exact ⟨fun q => absurd q (by decide), fun q => absurd q (by decide), fun q => absurd q (by decide), fun q => absurd q (by decide), fun q => absurd q (by decide), fun q => absurd q (by decide), fun q => absurd q (by decide), fun q => absurd q (by decide), fun _ => ⟨rfl, RE⟩, fun q => absurd q (by decide), fun _ _ _ _ _ _ _ _ q => absurd rfl q⟩
  · subst e
    exact ⟨fun q => absurd q (by decide), fun q => absurd q (by decide), fun q => absurd q (by decide), fun q => absurd q (by decide), fun q => absurd q (by decide), fun q => absurd q (by decide), fun q => absurd q (by decide), fun q => absurd q (by decide), fun q => absurd q (by decide), fun _ => ⟨rfl, RE⟩, fun _ _ _ _ _ _ _ _ _ q => absurd rfl q⟩
  · exact ⟨fun q => absurd q e0, fun q => absurd q e1, fun q => absurd q e2, fun q => absurd q e3, fun q => absurd q e4, fun q => absurd q e5, fun q => absurd q e6, fun q => absurd q e7, fun q => absurd q e8, fun q => absurd q e9, fun _ _ _ _ _ _ _ _ _ _ => ⟨rfl, RE⟩⟩
theorem RL_both {X : z_X} {n k : Nat} {h' : z_G} {r : Nat → Int32} (R : RLn X n k) (hN : NF h') : RLn (z_up (z_up X 2 h') 19 (z_sa (X 19) 6 r)) n k := by
  have := RL_side (r := r) (RL_ahead R hN)
  rw [z_up_ne (show 19 ≠ 2 by decide)] at this
  exact this
theorem RE_bad {X : z_X} {n k : Nat} (R : RLn X n k) : RLE (z_up X 19 (X 19)) := by rw [z_up_self]; exact ⟨n, k, R⟩
theorem t_behind {X : z_X} {n k : Nat} (R : RLn X n k) (x y : Int32) : v_X5_behind X x y (fun r X' => v_X6_behind (X' 19) x y (fun r2 h' => r = r2 ∧ RLE (z_up X' 19 h'))) := by
  obtain ⟨-, ⟨H, hn2, T, W⟩, -, -, -, N⟩ := id R
  have hn6 := H.1.2.2.1
  unfold v_X5_behind v_X6_behind
  refine s_within (br0 (fun w => s_in (a := 0) (b := 30) rfl rfl rfl (br0 (fun _ => ⟨rfl, RE_bad R⟩) (fun q => bx q w))) (fun w => c_isPerson H.1.1 (br1 (fun u => ?_) (fun u => s_in (a := 0) (b := 30) rfl rfl rfl (br0 (fun q => bx w q) (fun _ => r_isPerson T.1 (br1 (fun q => bx q u) (fun _ => ⟨rfl, RE_bad R⟩))))))))
  obtain ⟨m, hm, rfl⟩ := wi_up (m := 30) (by omega) w
  obtain ⟨p, hp, rfl⟩ := (wi_nI (by omega)).mp u
  refine s_mightBehind (by decide) H (N 2 (by decide)) (by omega) (by omega) ?_
  intro h' hN
  dsimp only
  rw [z_up_ne (show 19 ≠ 2 by decide)]
  refine s_in (a := 0) (b := 30) rfl rfl rfl (br0 (fun q => bx w q) (fun _ => r_isPerson T.1 (br1 (fun _ => r_aside (r_goReigns H T (RR_aside H.1 W) (by omega) ?_)) (fun q => bx u q))))
  intro r' R'
  rw [i4, zi (show 4 + p < 1000 by omega), z_sa_same, R'.2.2.2.2.1 p hp]
  exact ⟨vi (by omega) (by omega), rfl, _, _, RL_both R hN⟩
theorem t_last {X : z_X} {n k : Nat} (R : RLn X n k) : v_X5_last X (fun r X' => v_X6_last (X' 19) (fun r2 h' => r = r2 ∧ RLE (z_up X' 19 h'))) := by
  obtain ⟨-, ⟨H, hn2, T, W⟩, -, -, -, N⟩ := id R
  have hn6 := H.1.2.2.1
  unfold v_X5_last v_X6_last
  refine s_standingAtLast (by decide) H (N 2 (by decide)) ?_
  intro h' hN
  dsimp only
  rw [z_up_ne (show 19 ≠ 2 by decide)]
  refine r_aside (r_goReigns (m := 30) H T (RR_aside H.1 W) (by omega) ?_)
  intro r' R'
  unfold v_X6_last_b14
  refine z_for n (fun i q => q = (z_sa (X 19) 6 r', nI (bs (stP (itr n k (X 0) 30)) i), nI i)) ?_ (Nat.zero_le n) rfl
  rintro i ⟨G', x1, x2⟩ hi e Lp hL
  obtain ⟨rfl, e2⟩ := Prod.mk.inj e
  obtain ⟨rfl, rfl⟩ := Prod.mk.inj e2
  show v_X6_last_b14_s _ _ (z_sa (X 19) 6 r') (nI (bs (stP (itr n k (X 0) 30)) i)) (nI i)
  unfold v_X6_last_b14_s
  rw [z_sa_ne (show 2 ≠ 6 by decide), zn0, T.1, z_sa_same]
  refine ⟨vi (a := 0) (by omega) (by omega), fun c => ?_, fun c => ?_⟩
  · have : i = n := by have := (nI_leI (by omega) (by omega)).mp c; omega
    subst this
    exact ⟨rfl, _, _, RL_both R hN⟩
  · have hlt : i < n := by
      rcases Nat.lt_or_ge i n with q | q
      · exact q
      · exact absurd (nI_le q (by omega)) c
    rw [i4, zi (show 4 + i < 1000 by omega), R'.2.2.2.2.1 i hlt]
    refine ⟨vi (by omega) (by omega), fun d => ?_, fun d => ?_⟩
    · intro y ey z ez
      refine hL (_, _, _) hlt ?_
      rw [ey, ez, nI_1]
      show _ = (_, nI (bs (stP (itr n k (X 0) 30)) i ||| (if stP (itr n k (X 0) 30) i then 2 ^ i else 0)), _)
      have : stP (itr n k (X 0) 30) i = false := decide_eq_false (Int32.not_lt.mpr d)
      rw [this, show (0 : Int32) = nI 0 from rfl, nI_or]; rfl
    · intro y ey z ez
      refine hL (_, _, _) hlt ?_
      rw [ey, ez, nI_1, shl1 (by omega), nI_or]
      show _ = (_, nI (bs (stP (itr n k (X 0) 30)) i ||| (if stP (itr n k (X 0) 30) i then 2 ^ i else 0)), _)
      have : stP (itr n k (X 0) 30) i = true := decide_eq_true (Int32.not_le.mp d)
      rw [this]; rfl
theorem t_lies {X : z_X} {n k : Nat} (R : RLn X n k) (x : Int32) : v_X5_lies X x (fun r X' => v_X6_lies (X' 19) x (fun r2 h' => r = r2 ∧ RLE (z_up X' 19 h'))) := by
  obtain ⟨-, ⟨H, hn2, T, W⟩, -, -, -, N⟩ := id R
  have hk8 := H.1.2.2.2.1
  unfold v_X5_lies v_X6_lies
  refine c_isGlove H.1.2.1 (br0 (fun w => r_isGlove W.2.2.1 (br1 (fun q => bx q w) (fun _ => ⟨rfl, RE_bad R⟩))) (fun w => ?_))
  obtain ⟨g, hg, rfl⟩ := (wi_nI (by omega)).mp w
  refine s_whenGone (by decide) H (N 2 (by decide)) (by omega) ?_
  intro h' hN
  dsimp only
  rw [z_up_ne (show 19 ≠ 2 by decide)]
  refine r_isGlove W.2.2.1 (br1 (fun _ => r_aside ?_) (fun q => bx w q))
  unfold v_X6_lies_b16
  refine z_for 31 (fun i q => ∃ r', q = (z_sa (X 19) 6 r', nI g, nI i) ∧ RR n k (itr n k (X 0) i) r' ∧ loF (fun i => decide (itr n k (X 0) i 10 g = 0)) 0 31 = loF (fun i => decide (itr n k (X 0) i 10 g = 0)) i (31 - i)) ?_ (Nat.zero_le 31) ⟨_, rfl, RR_aside H.1 W, rfl⟩
  rintro i ⟨G', x1, x2⟩ hi ⟨r', e, R', hl⟩ Lp hL
  obtain ⟨rfl, e2⟩ := Prod.mk.inj e
  obtain ⟨rfl, rfl⟩ := Prod.mk.inj e2
  show v_X6_lies_b16_s _ _ (z_sa (X 19) 6 r') (nI g) (nI i)
  unfold v_X6_lies_b16_s
  refine ⟨fun c => ?_, fun c => ?_⟩
  · have : i = 31 := by have := (nI_leI (a := 31) (by omega) (by omega)).mp c; omega
    subst this
    exact ⟨hl, _, _, RL_both R hN⟩
  · have hlt : i < 31 := by
      rcases Nat.lt_or_ge i 31 with q | q
      · exact q
      · exact absurd (nI_le (a := 31) q (by omega)) c
    have Hi := HN_itr H i
    have hb := bs_256 Hi.1
    rw [show 31 - i = (31 - (i + 1)) + 1 by omega, loF_s _ i (31 - (i + 1))] at hl
    rw [zn3, z_sa_same, R'.2.2.2.1]
    refine ⟨vi (a := 3) (by omega) (by omega), s_has (by omega) (by omega) ?_⟩
    rw [bs_bit, decide_eq_true hg, Bool.true_and]
    refine br1 (fun d => r_goReign Hi.1 (TR_itr T i) R' ?_) (fun d => ?_)
    · intro r'' R'' y ey
      have : ¬ itr n k (X 0) i 10 g = 0 := fun q => by
        have := of_decide_eq_true d
        rw [q] at this
        exact absurd this (by decide)
      rw [if_neg (by simpa using this)] at hl
      exact hL (_, _, _) hlt ⟨r'', by rw [ey, nI_1], R'', hl⟩
    · have : itr n k (X 0) i 10 g = 0 := by
        rcases Hi.1.2.2.2.2.2.1 g hg with q | q
        · exact q
        · exact absurd q (of_decide_eq_false d)
      rw [if_pos (by simpa using this)] at hl
      exact ⟨hl, _, _, RL_both R hN⟩
/-- which to take up first, and how much -/
def fb (h : z_G) (p : Nat) : Nat → Int32 × Int32
  | 0 => (-4, -4)
  | g + 1 => if can h p g = true ∧ ¬ mbt h p g ≤ (fb h p g).2 then (nI g, mbt h p g) else fb h p g
theorem c_first {X : z_X} {n k p : Nat} {y : Int32} (H : HN n k (X 0)) (hp : p < n) {K : Int32 → Prop} (hK : K (if y = 0 then (fb (X 0) p k).1 else (fb (X 0) p k).2)) : v_X5_first_b32 X K (nI p) y (-4) (-4) 0 := by
  have hn6 := H.1.2.2.1
  have hk8 := H.1.2.2.2.1
  unfold v_X5_first_b32
  refine z_for k (fun i q => q = (nI p, y, (fb (X 0) p i).1, (fb (X 0) p i).2, nI i)) ?_ (Nat.zero_le k) rfl
  rintro i ⟨x1, x2, x3, x4, x5⟩ hi e Lp hL
  obtain ⟨rfl, e2⟩ := Prod.mk.inj e
  obtain ⟨rfl, e3⟩ := Prod.mk.inj e2
  obtain ⟨rfl, e4⟩ := Prod.mk.inj e3
  obtain ⟨rfl, rfl⟩ := Prod.mk.inj e4
  show v_X5_first_b32_s X K _ (nI p) x2 (fb (X 0) p i).1 (fb (X 0) p i).2 (nI i)
  unfold v_X5_first_b32_s
  rw [H.1.2.1]
  refine ⟨fun c => ?_, fun c => ?_⟩
  · have : i = k := by have := (nI_leI (by omega) (by omega)).mp c; omega
    subst this
    exact ⟨fun d => by rw [if_neg d] at hK; exact hK, fun d => by rw [if_pos d] at hK; exact hK⟩
  · have hlt : i < k := by
      rcases Nat.lt_or_ge i k with q | q
      · exact q
      · exact absurd (nI_le q (by omega)) c
    obtain ⟨q, hq, eq⟩ := H.1.2.2.2.2.1 i hlt
    refine s_can (by omega) (by omega) (br0 (fun w => ?_) (fun w => s_mbt (by omega) (by omega) eq (by omega) ⟨fun d => ?_, fun d => s_mbt (by omega) (by omega) eq (by omega) ?_⟩))
    · intro z ez
      refine hL (_, _, _, _, _) hlt ?_
      have : fb (X 0) p (i + 1) = fb (X 0) p i := by
        show (if _ then _ else _) = _
        rw [if_neg (fun q => by rw [w] at q; exact absurd q.1 (by decide))]
      rw [this, ez, nI_1]
    · intro z ez
      refine hL (_, _, _, _, _) hlt ?_
      have : fb (X 0) p (i + 1) = fb (X 0) p i := by
        show (if _ then _ else _) = _
        rw [if_neg (fun q => q.2 d)]
      rw [this, ez, nI_1]
    · intro z ez
      refine hL (_, _, _, _, _) hlt ?_
      have : fb (X 0) p (i + 1) = (nI i, mbt (X 0) p i) := by
        show (if _ then _ else _) = _
        rw [if_pos ⟨w, d⟩]
      rw [this, ez, nI_1]
theorem wr_mbt {h : z_G} {p g : Nat} (hne : ¬ z_n (h 9 g) = p) : wr h p g 5 p = mbt h p g := by
  rw [wr_5]
  unfold mbt
  split
  · rfl
  · rw [if_neg (fun q => hne q.symm), if_pos rfl]
theorem r_first {n k p : Nat} {h G : z_G} {y : Int32} (H : HN n k h) (T : TR n h (G 2)) (W : RR n k h (G 5)) (hp : p < n) {K : Int32 → z_G → Prop} (hK : ∀ r', K (if y = 0 then (fb h p k).1 else (fb h p k).2) (z_sa G 6 r')) : v_X6_first_b30 K G (nI p) y (-4) (-4) 0 := by
  have hn6 := H.1.2.2.1
  have hk8 := H.1.2.2.2.1
  unfold v_X6_first_b30
  refine z_for k (fun i q => ∃ r', q = (z_sa G 6 r', nI p, y, (fb h p i).1, (fb h p i).2, nI i)) ?_ (Nat.zero_le k) ⟨G 6, by rw [sa_self]; rfl⟩
  rintro i ⟨G', x1, x2, x3, x4, x5⟩ hi ⟨r', e⟩ Lp hL
  obtain ⟨rfl, e1⟩ := Prod.mk.inj e
  obtain ⟨rfl, e2⟩ := Prod.mk.inj e1
  obtain ⟨rfl, e3⟩ := Prod.mk.inj e2
  obtain ⟨rfl, e4⟩ := Prod.mk.inj e3
  obtain ⟨rfl, rfl⟩ := Prod.mk.inj e4
  show v_X6_first_b30_s K _ (z_sa G 6 r') (nI p) x2 (fb h p i).1 (fb h p i).2 (nI i)
  unfold v_X6_first_b30_s v_X6_first_b81
  rw [zn2, z_sa_ne (show 5 ≠ 6 by decide), W.2.2.1]
  refine ⟨vi (a := 2) (by omega) (by omega), fun c => ?_, fun c => ?_⟩
  · have : i = k := by have := (nI_leI (by omega) (by omega)).mp c; omega
    subst this
    have := hK r'
    exact ⟨fun d => by rw [if_neg d] at this; exact this, fun d => by rw [if_pos d] at this; exact this⟩
  · have hlt : i < k := by
      rcases Nat.lt_or_ge i k with q | q
      · exact q
      · exact absurd (nI_le q (by omega)) c
    obtain ⟨q, hq, eq⟩ := H.1.2.2.2.2.1 i hlt
    refine r_aside ?_
    rw [sa_sa, z_sa_ne (show 5 ≠ 6 by decide), z_sa_same]
    refine r_isFit H.1 (by rw [z_sa_ne (by decide)]; exact T) (by rw [z_sa_same]; exact RR_aside H.1 W) (by omega) hp ?_
    rw [show cn8 k h p i = can h p i by simp [cn8, hlt]]
    refine br0 (fun w => ?_) (fun w => r_goWear H.1 (RR_aside H.1 W) hlt hp (can_own w) ?_)
    · intro z ez
      refine hL (_, _, _, _, _, _) hlt ⟨asd (G 5) r' 42, ?_⟩
      have : fb h p (i + 1) = fb h p i := by
        show (if _ then _ else _) = _
        rw [if_neg (fun q => by rw [w] at q; exact absurd q.1 (by decide))]
      rw [this, ez, nI_1]
    · intro r'' R''
      have ew : wr h p i 5 p = mbt h p i := wr_mbt (fun z => can_own w (by rw [eq, ← z, eq, zi (by omega)]))
      rw [i4, zi (show 4 + p < 1000 by omega), z_sa_same, R''.2.2.2.2.1 p hp, ew]
      refine ⟨vi (by omega) (by omega), fun d => ⟨vi (by omega) (by omega), fun _ => ?_, fun q => absurd d q⟩, fun d => ⟨vi (by omega) (by omega), fun q => absurd q d, fun _ => ⟨vi (by omega) (by omega), ?_⟩⟩⟩
      · intro z ez
        refine hL (_, _, _, _, _, _) hlt ⟨r'', ?_⟩
        have : fb h p (i + 1) = fb h p i := by
          show (if _ then _ else _) = _
          rw [if_neg (fun q => q.2 d)]
        rw [this, ez, nI_1]
      · intro u eu z ez
        refine hL (_, _, _, _, _, _) hlt ⟨r'', ?_⟩
        have : fb h p (i + 1) = (nI i, mbt h p i) := by
          show (if _ then _ else _) = _
          rw [if_pos ⟨w, d⟩]
        rw [this, ez, nI_1, eu]
theorem t_first {X : z_X} {n k : Nat} (R : RLn X n k) (x y : Int32) : v_X5_first X x y (fun r => v_X6_first (X 19) x y (fun r2 h' => r = r2 ∧ RLE (z_up X 19 h'))) := by
  obtain ⟨-, ⟨H, hn2, T, W⟩, -⟩ := id R
  have hn6 := H.1.2.2.1
  unfold v_X5_first v_X6_first
  refine c_isPerson H.1.1 (br0 (fun w => r_isPerson T.1 (br0 (fun _ => ⟨rfl, RE_bad R⟩) (fun q => bx q w))) (fun w => s_within (br1 (fun u => ?_) (fun u => r_isPerson T.1 (br0 (fun q => bx w q) (fun _ => s_in (a := 0) (b := 1) rfl rfl rfl (br1 (fun q => bx q u) (fun _ => ⟨rfl, RE_bad R⟩))))))))
  obtain ⟨p, hp, rfl⟩ := (wi_nI (by omega)).mp w
  refine c_first H hp (r_isPerson T.1 (br0 (fun q => bx w q) (fun _ => s_in (a := 0) (b := 1) rfl rfl rfl (br1 (fun _ => r_first H T W hp ?_) (fun q => bx u q)))))
  intro r'
  exact ⟨rfl, _, _, RL_side R⟩
