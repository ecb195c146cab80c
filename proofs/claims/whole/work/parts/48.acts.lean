/-! ===== PURE: calls: undo, keep, back ===== -/
theorem RL_act {X X' : z_X} {n k k' : Nat} (R : RLn X n k) (h : ∀ i, i = 1 ∨ i = 2 ∨ i = 11 ∨ i = 12 ∨ i = 13 ∨ i = 15 ∨ i = 16 → X' i = X i) (g : ∀ c, c = 1 ∨ c = 2 ∨ c = 9 ∨ c = 11 → X' 19 c = X 19 c) (s : ∀ j, j = 0 ∨ j = 10 ∨ j = 12 → X' 19 0 j = X 19 0 j) (S : SK X' n 14 3 8 7 8) (N : A_now X' n k') (F : ∀ i, i < 11 → NF (X' i)) : RLn X' n k' := by
  obtain ⟨A, -, -, S2, V, NN⟩ := R
  refine ⟨A_txt_frame A (by rw [h 13 (by omega)]) (by rw [h 13 (by omega)]) (g 1 (by omega)) (s 0 (by omega)), N, S, ?_, A_see_frame V (h 16 (by omega)) (g 11 (by omega)) (s 12 (by omega)), fun i hi => ?_⟩
  · refine SK_frame S2 (by decide) (by rw [h 15 (by omega)]) (by rw [h 15 (by omega)]) (s 10 (by omega)) (g 2 (by omega)) (g 9 (by omega)) (fun i hi => h _ (by omega))
  · by_cases e : i < 11
    · exact F i e
    · rw [h i (by omega)]; exact NN i hi
theorem t_undo {X : z_X} {n k : Nat} (R : RLn X n k) : v_X5_undo X (fun r X' => v_X6_undo (X' 19) (fun r2 h' => r = r2 ∧ RLE (z_up X' 19 h'))) := by
  obtain ⟨A, ⟨H, hn2, T, W⟩, ⟨u, x, hu, hx, u0, u1, u2, old⟩, S2, V, N⟩ := id R
  unfold v_X5_undo
  refine s_bring (by omega) hu hx u0 u1 (by omega) (by omega) (fun i hi => N _ (by omega)) (N 0 (by omega)) (fun h0 => ?_) (fun h0 X1 P => ?_)
  · subst h0
    refine ⟨fun _ => ?_, fun q => absurd rfl q⟩
    unfold v_X6_undo
    try dsimp only
    rw [u2]
    exact ⟨fun q => absurd rfl q, fun _ => ⟨rfl, RE_bad R⟩⟩
  · obtain ⟨p1, p2, p3, p4⟩ := P
    refine ⟨fun q => absurd q (by decide), fun _ => ?_⟩
    have e19 : X1 19 = X 19 := p4 19 (by decide) (by decide)
    unfold v_X6_undo
    try dsimp only
    rw [e19, u2]
    refine ⟨fun _ => ?_, fun q => absurd ((nI_eq (b := 0) (by omega) (by omega)).mp q) h0⟩
    intro h2 e2
    have em : nI u - 1 = nI (u - 1) := by
      obtain ⟨v, rfl⟩ : ∃ v, u = v + 1 := ⟨u - 1, by omega⟩
      rw [nI_pred]; rfl
    rw [em] at e2
    have g8 : h2 0 8 = nI (u - 1) := by rw [e2, z_ss_same, upd_eq]
    have g7 : h2 7 = X 19 7 := by rw [e2, z_ss_ne (by decide)]
    have g5 : h2 5 = X 19 5 := by rw [e2, z_ss_ne (by decide)]
    refine r_undo (by omega) g8 ?_
    rw [g7, g5]
    obtain ⟨kj, a1, a2, a3⟩ := old (u - 1) (by omega)
    rw [show x + 8 - u + (u - 1) = x + 8 - 1 by omega] at a1 a2 a3
    have sl : 3 + (x + 8 - 1) % 8 < 11 := by have := Nat.mod_lt (x + 8 - 1) (show 0 < 8 by omega); omega
    have c19 : ∀ c, c ≠ 0 → c ≠ 5 → z_sa h2 5 (bkf (X 19 7) (X 19 5) (u - 1) 42) c = X 19 c := fun c q0 q5 => by rw [z_sa_ne q5, e2, z_ss_ne q0]
    have c0 : ∀ j, j ≠ 8 → z_sa h2 5 (bkf (X 19 7) (X 19 5) (u - 1) 42) 0 j = X 19 0 j := fun j q => by rw [z_sa_ne (by decide), e2, z_ss_same, upd_ne q]
    refine ⟨p1, n, kj, RL_act R (fun i hi => ?_) (fun c hc => ?_) (fun j hj => ?_) (SK_back (X := X) (by omega) hu hx h0 old ?_ ?_ ?_ ?_ ?_ (fun i hi => ?_)) ⟨?_, hn2, ?_, ?_⟩ (fun i hi => ?_)⟩
    · rw [z_up_ne (by omega), p4 i (by omega) (by omega)]
    · rw [z_up_same, c19 c (by omega) (by omega)]
    · rw [z_up_same, c0 j (by omega)]
    · rw [z_up_ne (by decide)]; exact p1
    · rw [z_up_ne (by decide)]; exact p2
    · rw [z_up_same, z_sa_ne (by decide)]; exact g8
    · rw [z_up_same, c19 2 (by decide) (by decide)]
    · rw [z_up_same, c19 7 (by decide) (by decide)]
    · rw [z_up_ne (by omega), p4 _ (by omega) (by omega)]
    · rw [z_up_ne (by decide), p3]; exact a1
    · rw [z_up_ne (by decide), p3, z_up_same, c19 2 (by decide) (by decide)]; exact a2
    · rw [z_up_ne (by decide), p3, z_up_same, z_sa_same]
      exact RR_42 a1.1 a3 (fun i hi => if_pos hi)
    · rw [z_up_ne (by omega)]
      by_cases e : i = 0
      · rw [e, p3]; exact N _ (by omega)
      · rw [p4 i (by omega) e]; exact N i (by omega)
theorem t_keep {X : z_X} {n k : Nat} (R : RLn X n k) : v_X5_keep X (fun r X' => v_X6_keep (X' 19) (fun r2 h' => r = r2 ∧ RLE (z_up X' 19 h'))) := by
  obtain ⟨A, ⟨H, hn2, T, W⟩, S1, ⟨u, x, hu, hx, u0, u1, u2, old⟩, V, N⟩ := id R
  unfold v_X5_keep
  rw [u0]
  refine ⟨fun c => ?_, fun c => ?_⟩
  · have hlt : u < 2 := (nI_ltI (b := 2) (by omega) (by omega)).mp c
    refine s_put (by omega) hu hx u0 u1 (by omega) (by omega) (N _ (by omega)) (N 0 (by omega)) (fun X1 P => ?_)
    obtain ⟨p1, p2, p3, p4⟩ := P
    have e19 : X1 19 = X 19 := p4 19 (by decide) (by omega)
    unfold v_X6_keep
    try dsimp only
    rw [e19, u2, p1]
    refine ⟨fun _ => ?_, fun q => ?_⟩
    · refine r_keep hlt u2 (fun f F => ⟨by rw [Nat.min_eq_left (by omega)], n, k, ?_⟩)
      have c19 : ∀ c, c ≠ 0 → c ≠ 9 → z_ss (z_sa (X 19) 9 f) 0 10 (nI (min (u + 1) 2)) c = X 19 c := fun c q0 q9 => by rw [z_ss_ne q0, z_sa_ne q9]
      have c0 : ∀ j, j ≠ 10 → z_ss (z_sa (X 19) 9 f) 0 10 (nI (min (u + 1) 2)) 0 j = X 19 0 j := fun j q => by rw [z_ss_same, upd_ne q, z_sa_ne (by decide)]
      refine ⟨A_txt_frame A ?_ ?_ ?_ ?_, ⟨?_, hn2, ?_, ?_⟩, SK_frame S1 (by omega) ?_ ?_ ?_ ?_ ?_ (fun i hi => ?_), SK_put (X := X) (by omega) hu hx old H T W ?_ ?_ ?_ ?_ ?_ (fun i hi h1 => ?_) ?_, A_see_frame V ?_ ?_ ?_, fun i hi => ?_⟩
      · rw [z_up_ne (by decide), p4 13 (by decide) (by omega)]
      · rw [z_up_ne (by decide), p4 13 (by decide) (by omega)]
      · rw [z_up_same, c19 1 (by decide) (by decide)]
      · rw [z_up_same, c0 0 (by decide)]
      · rw [z_up_ne (by decide), p4 0 (by decide) (by omega)]; exact H
      · rw [z_up_ne (by decide), p4 0 (by decide) (by omega), z_up_same, c19 2 (by decide) (by decide)]; exact T
      · rw [z_up_ne (by decide), p4 0 (by decide) (by omega), z_up_same, c19 5 (by decide) (by decide)]; exact W
      · rw [z_up_ne (by decide), p4 14 (by decide) (by omega)]
      · rw [z_up_ne (by decide), p4 14 (by decide) (by omega)]
      · rw [z_up_same, c0 8 (by decide)]
      · rw [z_up_same, c19 2 (by decide) (by decide)]
      · rw [z_up_same, c19 7 (by decide) (by decide)]
      · rw [z_up_ne (by omega), p4 _ (by omega) (by omega)]
      · rw [z_up_ne (by decide)]; exact p1
      · rw [z_up_ne (by decide)]; exact p2
      · rw [z_up_same, z_ss_same, upd_eq]
      · rw [z_up_same, c19 2 (by decide) (by decide)]
      · rw [z_up_ne (by omega)]; exact p3
      · rw [z_up_ne (by omega), p4 _ (by omega) (by omega)]
      · rw [z_up_same, z_ss_ne (by decide), z_sa_same]; exact F
      · rw [z_up_ne (by decide), p4 16 (by decide) (by omega)]
      · rw [z_up_same, c19 11 (by decide) (by decide)]
      · rw [z_up_same, c0 12 (by decide)]
      · rw [z_up_ne (by omega)]
        by_cases e : i = 11 + x
        · rw [e, p3]; exact N 0 (by omega)
        · rw [p4 i (by omega) e]; exact N i hi
    · have := (nI_eq (b := 2) (by omega) (by omega)).mp q
      omega
  · have e2 : u = 2 := by
      rcases Nat.lt_or_ge u 2 with q | q
      · exact absurd (nI_lt (b := 2) q (by omega)) c
      · omega
    subst e2
    unfold v_X6_keep
    try dsimp only
    rw [u2]
    exact ⟨fun q => absurd rfl q, fun _ => ⟨rfl, RE_bad R⟩⟩
theorem t_back {X : z_X} {n k : Nat} (R : RLn X n k) : v_X5_back X (fun r X' => v_X6_back (X' 19) (fun r2 h' => r = r2 ∧ RLE (z_up X' 19 h'))) := by
  obtain ⟨A, ⟨H, hn2, T, W⟩, ⟨w, y, hw, hy, w0, w1, w2, wld⟩, ⟨u, x, hu, hx, u0, u1, u2, old⟩, V, N⟩ := id R
  unfold v_X5_back
  refine s_bring (by omega) hu hx u0 u1 (by omega) (by omega) (fun i hi => N _ (by omega)) (N 0 (by omega)) (fun h0 => ?_) (fun h0 X1 P => ?_)
  · subst h0
    refine ⟨fun q => absurd rfl q, fun _ => ?_⟩
    unfold v_X6_back
    try dsimp only
    rw [u2]
    exact ⟨fun q => absurd rfl q, fun _ => ⟨rfl, RE_bad R⟩⟩
  · obtain ⟨p1, p2, p3, p4⟩ := P
    refine ⟨fun _ => ?_, fun q => absurd q (by decide)⟩
    intro Y4 e4
    have o4 : ∀ i, i ≠ 14 → Y4 i = X1 i := fun i hi => by rw [e4, z_up_ne hi]
    have e19 : Y4 19 = X 19 := by rw [o4 19 (by decide)]; exact p4 19 (by decide) (by decide)
    unfold v_X6_back
    try dsimp only
    rw [e19, u2, o4 15 (by decide), p1]
    refine ⟨fun _ => ?_, fun q => absurd ((nI_eq (b := 0) (by omega) (by omega)).mp q) h0⟩
    intro h2 e2
    have em : nI u - 1 = nI (u - 1) := by
      obtain ⟨v, rfl⟩ : ∃ v, u = v + 1 := ⟨u - 1, by omega⟩
      rw [nI_pred]; rfl
    rw [em] at e2
    have g8 : h2 0 10 = nI (u - 1) := by rw [e2, z_ss_same, upd_eq]
    have g9 : h2 9 = X 19 9 := by rw [e2, z_ss_ne (by decide)]
    have g5 : h2 5 = X 19 5 := by rw [e2, z_ss_ne (by decide)]
    refine r_back (by omega) g8 ?_
    rw [g9, g5]
    obtain ⟨kj, a1, a2, a3⟩ := old (u - 1) (by omega)
    rw [show x + 2 - u + (u - 1) = x + 2 - 1 by omega] at a1 a2 a3
    have sl : 11 + (x + 2 - 1) % 2 < 13 := by have := Nat.mod_lt (x + 2 - 1) (show 0 < 2 by omega); omega
    have c19 : ∀ c, c ≠ 0 → c ≠ 5 → z_ss (z_sa h2 5 (bkf (X 19 9) (X 19 5) (u - 1) 42)) 0 8 0 c = X 19 c := fun c q0 q5 => by rw [z_ss_ne q0, z_sa_ne q5, e2, z_ss_ne q0]
    have c0 : ∀ j, j ≠ 8 → j ≠ 10 → z_ss (z_sa h2 5 (bkf (X 19 9) (X 19 5) (u - 1) 42)) 0 8 0 0 j = X 19 0 j := fun j q q2 => by rw [z_ss_same, upd_ne q, z_sa_ne (by decide), e2, z_ss_same, upd_ne q2]
    have b4 : ∀ i, i ≠ 0 → i ≠ 14 → i ≠ 15 → i ≠ 19 → z_up Y4 19 (z_ss (z_sa h2 5 (bkf (X 19 9) (X 19 5) (u - 1) 42)) 0 8 0) i = X i := fun i q0 q1 q2 q3 => by rw [z_up_ne q3, o4 i q1, p4 i q2 q0]
    refine ⟨rfl, n, kj, A_txt_frame A ?_ ?_ ?_ ?_, ⟨?_, hn2, ?_, ?_⟩, ⟨0, y, by omega, hy, ?_, ?_, ?_, fun j hj => by omega⟩, SK_back (X := X) (by omega) hu hx h0 old ?_ ?_ ?_ ?_ ?_ (fun i hi => ?_), A_see_frame V ?_ ?_ ?_, fun i hi => ?_⟩
    · rw [b4 13 (by decide) (by decide) (by decide) (by decide)]
    · rw [b4 13 (by decide) (by decide) (by decide) (by decide)]
    · rw [z_up_same, c19 1 (by decide) (by decide)]
    · rw [z_up_same, c0 0 (by decide) (by decide)]
    · rw [z_up_ne (by decide), o4 0 (by decide), p3]; exact a1
    · rw [z_up_ne (by decide), o4 0 (by decide), p3, z_up_same, c19 2 (by decide) (by decide)]; exact a2
    · rw [z_up_ne (by decide), o4 0 (by decide), p3, z_up_same, z_ss_ne (by decide), z_sa_same]
      exact RR_42 a1.1 a3 (fun i hi => if_pos hi)
    · rw [z_up_ne (by decide), e4, z_up_same, z_ss_same, upd_eq]; rfl
    · rw [z_up_ne (by decide), e4, z_up_same, z_ss_same, upd_ne (by decide), p4 14 (by decide) (by decide)]; exact w1
    · rw [z_up_same, z_ss_same, upd_eq]; rfl
    · rw [z_up_ne (by decide), o4 15 (by decide)]; exact p1
    · rw [z_up_ne (by decide), o4 15 (by decide)]; exact p2
    · rw [z_up_same, z_ss_same, upd_ne (by decide), z_sa_ne (by decide)]; exact g8
    · rw [z_up_same, c19 2 (by decide) (by decide)]
    · rw [z_up_same, c19 9 (by decide) (by decide)]
    · exact b4 _ (by omega) (by omega) (by omega) (by omega)
    · exact b4 16 (by decide) (by decide) (by decide) (by decide)
    · rw [z_up_same, c19 11 (by decide) (by decide)]
    · rw [z_up_same, c0 12 (by decide) (by decide)]
    · by_cases e : i = 0
      · rw [e, z_up_ne (by decide), o4 0 (by decide), p3]; exact N _ sl
      · rw [b4 i e (by omega) (by omega) (by omega)]; exact N i hi
