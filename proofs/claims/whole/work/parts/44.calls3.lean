/-! ===== PURE: calls: write, wipe, seen, forget ===== -/
theorem RL_ts {X X' : z_X} {n k : Nat} (R : RLn X n k) (A : A_txt X') (S : A_see X' n) (h : ∀ i, i ≠ 13 → i ≠ 16 → i ≠ 19 → X' i = X i) (g : ∀ c, c = 2 ∨ c = 5 ∨ c = 7 ∨ c = 9 → X' 19 c = X 19 c) (s : ∀ j, j = 8 ∨ j = 10 → X' 19 0 j = X 19 0 j) : RLn X' n k := by
  obtain ⟨-, ⟨a1, a2, a3, a4⟩, S1, S2, -, N⟩ := R
  have h0 := h 0 (by decide) (by decide) (by decide)
  refine ⟨A, ⟨by rw [h0]; exact a1, a2, by rw [h0, g 2 (by omega)]; exact a3, by rw [h0, g 5 (by omega)]; exact a4⟩, ?_, ?_, S, fun i hi => by rw [h i (by omega) (by omega) (by omega)]; exact N i hi⟩
  · exact SK_frame S1 (by decide) (by rw [h 14 (by decide) (by decide) (by decide)]) (by rw [h 14 (by decide) (by decide) (by decide)]) (s 8 (by omega)) (g 2 (by omega)) (g 7 (by omega)) (fun i hi => h _ (by omega) (by omega) (by omega))
  · exact SK_frame S2 (by decide) (by rw [h 15 (by decide) (by decide) (by decide)]) (by rw [h 15 (by decide) (by decide) (by decide)]) (s 10 (by omega)) (g 2 (by omega)) (g 9 (by omega)) (fun i hi => h _ (by omega) (by omega) (by omega))
theorem A_see_frame {X X' : z_X} {n : Nat} (S : A_see X n) (h : X' 16 = X 16) (g : X' 19 11 = X 19 11) (s : X' 19 0 12 = X 19 0 12) : A_see X' n := by
  unfold A_see
  rw [h, g, s]
  exact S
theorem A_txt_frame {X X' : z_X} (S : A_txt X) (h1 : X' 13 0 0 = X 13 0 0) (h2 : X' 13 2 = X 13 2) (g : X' 19 1 = X 19 1) (s : X' 19 0 0 = X 19 0 0) : A_txt X' := by
  unfold A_txt
  rw [h1, h2, g, s]
  exact S
theorem t_wipe {X : z_X} {n k : Nat} (R : RLn X n k) : v_X5_wipe X (fun r X' => v_X6_wipe (X' 19) (fun r2 h' => r = r2 ∧ RLE (z_up X' 19 h'))) := by
  obtain ⟨⟨len, l1, l2, l3, l4⟩, -, -, -, S, -⟩ := id R
  unfold v_X5_wipe v_X6_wipe
  intro y1 e1 Y2 e2 y3 e3 h4 e4
  subst e2
  rw [z_up_ne (by decide)] at e3 e4
  refine ⟨by rw [e1, e3, l1, l2], n, k, RL_ts R ⟨0, ?_, ?_, by omega, fun j hj => by omega⟩ (A_see_frame S ?_ ?_ ?_) (fun i h1 h2 h3 => ?_) (fun c hc => ?_) (fun j hj => ?_)⟩
  · rw [z_up_ne (by decide), z_up_same]; rfl
  · rw [z_up_same, e4]; rfl
  · rw [z_up_ne (by decide), z_up_ne (by decide)]
  · rw [z_up_same, e4, z_ss_ne (by decide)]
  · rw [z_up_same, e4, z_ss_same, upd_ne (by decide)]
  · rw [z_up_ne h3, z_up_ne h1]
  · rw [z_up_same, e4, z_ss_ne (by omega)]
  · rw [z_up_same, e4, z_ss_same, upd_ne (by omega)]
theorem t_forget {X : z_X} {n k : Nat} (R : RLn X n k) : v_X5_forget X (fun r X' => v_X6_forget (X' 19) (fun r2 h' => r = r2 ∧ RLE (z_up X' 19 h'))) := by
  obtain ⟨A, -, -, -, ⟨sc, s1, s2, s3, s4⟩, -⟩ := id R
  unfold v_X5_forget v_X6_forget
  intro y1 e1 Y2 e2 y3 e3 h4 e4
  subst e2
  rw [z_up_ne (by decide)] at e3 e4
  refine ⟨by rw [e1, e3, s2, s3], n, k, RL_ts R (A_txt_frame A ?_ ?_ ?_ ?_) ⟨0, by omega, ?_, ?_, fun j hj => by omega⟩ (fun i h1 h2 h3 => ?_) (fun c hc => ?_) (fun j hj => ?_)⟩
  · rw [z_up_ne (by decide), z_up_ne (by decide)]
  · rw [z_up_ne (by decide), z_up_ne (by decide)]
  · rw [z_up_same, e4, z_ss_ne (by decide)]
  · rw [z_up_same, e4, z_ss_same, upd_ne (by decide)]
  · rw [z_up_ne (by decide), z_up_same]; rfl
  · rw [z_up_same, e4]; rfl
  · rw [z_up_ne h3, z_up_ne h2]
  · rw [z_up_same, e4, z_ss_ne (by omega)]
  · rw [z_up_same, e4, z_ss_same, upd_ne (by omega)]
theorem t_write {X : z_X} {n k : Nat} (R : RLn X n k) (x : Int32) : v_X5_write X x (fun r X' => v_X6_write (X' 19) x (fun r2 h' => r = r2 ∧ RLE (z_up X' 19 h'))) := by
  obtain ⟨⟨len, l1, l2, l3, l4⟩, -, -, -, S, -⟩ := id R
  unfold v_X5_write v_X6_write v_X2_append
  refine s_within (br1 (fun w => ?_) (fun w => s_in (a := 32) (b := 126) rfl rfl rfl (br1 (fun q => bx q w) (fun _ => ⟨rfl, RE_bad R⟩))))
  rw [l1]
  refine ⟨fun c => ?_, fun c => ?_⟩
  · have hlt : len < 200 := (nI_ltI (b := 200) (by omega) (by omega)).mp c
    refine ⟨vi (by omega) (by omega), ?_⟩
    intro h3 e3 h4 e4 Y5 e5
    rw [zi (show len < 1000 by omega)] at e3
    subst e5
    dsimp only
    have r0 : h4 0 0 = nI (len + 1) := by rw [e4, z_ss_same, upd_eq, e3, z_ss_ne (by decide), l1, nI_1]
    refine ⟨fun q => absurd q (by decide), fun _ => ?_⟩
    rw [z_up_ne (show 19 ≠ 13 by decide), z_up_same, r0]
    refine s_in (a := 32) (b := 126) rfl rfl rfl (br1 (fun _ => ?_) (fun q => bx w q))
    rw [l2]
    refine ⟨fun _ => ⟨vi (by omega) (by omega), ?_⟩, fun q => ?_⟩
    · intro h5 e5 h6 e6
      rw [zi (show len < 1000 by omega)] at e5
      have r1 : h6 0 0 = nI (len + 1) := by rw [e6, z_ss_same, upd_eq, e5, z_ss_ne (by decide), l2, nI_1]
      refine ⟨r1.symm, n, k, RL_ts R ⟨len + 1, ?_, ?_, by omega, fun j hj => ?_⟩ (A_see_frame S ?_ ?_ ?_) (fun i h1 h2 h3 => ?_) (fun c hc => ?_) (fun j hj => ?_)⟩
      · rw [z_up_ne (by decide), z_up_same, r0]
      · rw [z_up_same, r1]
      · rw [z_up_same, z_up_ne (by decide), z_up_same, e6, z_ss_ne (by decide), e5, z_ss_same, e4, z_ss_ne (by decide), e3, z_ss_same]
        by_cases ej : j = len
        · subst ej; rw [upd_eq, upd_eq]
        · rw [upd_ne ej, upd_ne ej]; exact l4 j (by omega)
      · rw [z_up_ne (by decide), z_up_ne (by decide)]
      · rw [z_up_same, e6, z_ss_ne (by decide), e5, z_ss_ne (by decide)]
      · rw [z_up_same, e6, z_ss_same, upd_ne (by decide), e5, z_ss_ne (by decide)]
      · rw [z_up_ne h3, z_up_ne h1]
      · rw [z_up_same, e6, z_ss_ne (by omega), e5, z_ss_ne (by omega)]
      · rw [z_up_same, e6, z_ss_same, upd_ne (by omega), e5, z_ss_ne (by decide)]
    · have := (nI_eq (b := 200) (by omega) (by omega)).mp q
      omega
  · have e200 : len = 200 := by
      rcases Nat.lt_or_ge len 200 with q | q
      · exact absurd (nI_lt (b := 200) q (by omega)) c
      · omega
    intro Y5 e5
    rw [z_up_self] at e5
    subst e5
    refine ⟨fun _ => s_in (a := 32) (b := 126) rfl rfl rfl (br1 (fun _ => ?_) (fun q => bx w q)), fun q => absurd rfl q⟩
    rw [l2, e200]
    exact ⟨fun q => absurd rfl q, fun _ => ⟨rfl, RE_bad R⟩⟩
theorem t_seen {X : z_X} {n k : Nat} (R : RLn X n k) (x y z : Int32) : v_X5_seen X x y z (fun r X' => v_X6_seen (X' 19) x y z (fun r2 h' => r = r2 ∧ RLE (z_up X' 19 h'))) := by
  obtain ⟨A, ⟨H, hn2, T, W⟩, -, -, ⟨sc, s1, s2, s3, s4⟩, -⟩ := id R
  have hk8 := H.1.2.2.2.1
  have hn6 := H.1.2.2.1
  unfold v_X5_seen v_X6_seen v_X4_add
  refine c_isGlove H.1.2.1 (br0 (fun w => r_isGlove W.2.2.1 (br0 (fun _ => ⟨rfl, RE_bad R⟩) (fun q => bx q w))) (fun w => c_isPerson H.1.1 (br0 (fun u => r_isGlove W.2.2.1 (br0 (fun q => bx w q) (fun _ => r_isPerson T.1 (br0 (fun _ => ⟨rfl, RE_bad R⟩) (fun q => bx q u))))) (fun u => s_within (br1 (fun v => ?_) (fun v => r_isGlove W.2.2.1 (br0 (fun q => bx w q) (fun _ => r_isPerson T.1 (br0 (fun q => bx u q) (fun _ => s_in (a := 0) (b := 1) rfl rfl rfl (br1 (fun q => bx q v) (fun _ => ⟨rfl, RE_bad R⟩))))))))))))
  obtain ⟨g, hg, rfl⟩ := (wi_nI (by omega)).mp w
  obtain ⟨p, hp, rfl⟩ := (wi_nI (by omega)).mp u
  have ref : ∀ (r : Int32) (X' : z_X), X' 19 = X 19 → (sc < 6 → ∀ h', h' = z_ss (z_sa (X 19) 11 (upd (upd (upd (X 19 11) (3 * sc) (nI g)) (3 * sc + 1) (nI p)) (3 * sc + 2) z)) 0 12 (nI (sc + 1)) → r = nI (sc + 1) ∧ RLE (z_up X' 19 h')) → (¬ sc < 6 → r = -3 ∧ RLE (z_up X' 19 (X 19))) → v_X6_seen (X' 19) (nI g) (nI p) z (fun r2 h' => r = r2 ∧ RLE (z_up X' 19 h')) := by
    intro r X' e19 k1 k2
    unfold v_X6_seen
    rw [e19]
    refine r_isGlove W.2.2.1 (br0 (fun q => bx w q) (fun _ => r_isPerson T.1 (br0 (fun q => bx u q) (fun _ => s_in (a := 0) (b := 1) rfl rfl rfl (br1 (fun _ => ⟨fun q => ?_, fun q => ?_⟩) (fun q => bx v q))))))
    · have hlt : sc < 6 := by
        rcases Nat.lt_or_ge sc 6 with z | z
        · exact z
        · exact absurd (by rw [s3, show sc = 6 by omega]; rfl) q
      have m0 : (3 : Int32) * nI sc = nI (3 * sc) := by rw [show (3 : Int32) = nI 3 from rfl, pk_mul]
      rw [s3, m0]
      refine ⟨vi (by omega) (by omega), ?_⟩
      intro h9 e9
      rw [zi (show 3 * sc < 1000 by omega)] at e9
      have g9 : h9 0 12 = nI sc := by rw [e9, z_ss_ne (by decide)]; exact s3
      rw [g9, m0, nI_1]
      refine ⟨vi (by omega) (by omega), ?_⟩
      intro h11 e11
      rw [zi (show 3 * sc + 1 < 1000 by omega)] at e11
      have g11 : h11 0 12 = nI sc := by rw [e11, z_ss_ne (by decide)]; exact g9
      rw [g11, m0, show (2 : Int32) = nI 2 from rfl, nI_add]
      refine ⟨vi (by omega) (by omega), ?_⟩
      intro h13 e13
      rw [zi (show 3 * sc + 2 < 1000 by omega)] at e13
      have g13 : h13 0 12 = nI sc := by rw [e13, z_ss_ne (by decide)]; exact g11
      intro h14 e14
      rw [g13, nI_1] at e14
      have e : h14 = z_ss (z_sa (X 19) 11 (upd (upd (upd (X 19 11) (3 * sc) (nI g)) (3 * sc + 1) (nI p)) (3 * sc + 2) z)) 0 12 (nI (sc + 1)) := by
        rw [e14, e13, e11, e9]
        unfold z_ss
        simp only [z_sa_same, sa_sa]
      have e2 : h14 0 12 = nI (sc + 1) := by rw [e14, z_ss_same, upd_eq]
      rw [e2]
      exact k1 hlt h14 e
    · refine k2 (fun hlt => ?_)
      rw [s3] at q
      have := (nI_eq (b := 6) (by omega) (by omega)).mp q
      omega
  rw [s2]
  refine ⟨fun c => ?_, fun c => ?_⟩
  · have hlt : sc < 6 := (nI_ltI (b := 6) (by omega) (by omega)).mp c
    refine ⟨vi (by omega) (by omega), ?_⟩
    intro h3 e3
    rw [zi (show sc < 1000 by omega)] at e3
    have g3 : h3 0 0 = nI sc := by rw [e3, z_ss_ne (by decide)]; exact s2
    rw [g3]
    refine ⟨vi (by omega) (by omega), ?_⟩
    intro h5 e5
    rw [zi (show sc < 1000 by omega)] at e5
    have g5 : h5 0 0 = nI sc := by rw [e5, z_ss_ne (by decide)]; exact g3
    rw [g5]
    refine ⟨vi (by omega) (by omega), ?_⟩
    intro h7 e7
    rw [zi (show sc < 1000 by omega)] at e7
    have g7 : h7 0 0 = nI sc := by rw [e7, z_ss_ne (by decide)]; exact g5
    intro h8 e8
    rw [g7, nI_1] at e8
    intro Y9 e9
    refine ⟨fun q => absurd q (by decide), fun _ => ?_⟩
    have b1 : h8 1 = upd (X 16 1) sc (nI g) := by rw [e8, z_ss_ne (by decide), e7, z_ss_ne (by decide), e5, z_ss_ne (by decide), e3, z_ss_same]
    have b2 : h8 2 = upd (X 16 2) sc (nI p) := by rw [e8, z_ss_ne (by decide), e7, z_ss_ne (by decide), e5, z_ss_same, e3, z_ss_ne (by decide)]
    have b3 : h8 3 = upd (X 16 3) sc z := by rw [e8, z_ss_ne (by decide), e7, z_ss_same, e5, z_ss_ne (by decide), e3, z_ss_ne (by decide)]
    have b0 : h8 0 0 = nI (sc + 1) := by rw [e8, z_ss_same, upd_eq]
    subst e9
    dsimp only
    rw [z_up_same]
    rw [b0]
    refine ref (nI (sc + 1)) (z_up X 16 h8) (z_up_ne (by decide)) (fun _ h' e' => ⟨rfl, n, k, RL_ts R (A_txt_frame A ?_ ?_ ?_ ?_) ⟨sc + 1, by omega, ?_, ?_, fun i hi => ?_⟩ (fun i h1 h2 h3 => ?_) (fun c hc => ?_) (fun j hj => ?_)⟩) (fun q => absurd hlt q)
    · rw [z_up_ne (by decide), z_up_ne (by decide)]
    · rw [z_up_ne (by decide), z_up_ne (by decide)]
    · rw [z_up_same, e', z_ss_ne (by decide), z_sa_ne (by decide)]
    · rw [z_up_same, e', z_ss_same, upd_ne (by decide), z_sa_ne (by decide)]
    · rw [z_up_ne (by decide), z_up_same, b0]
    · rw [z_up_same, e', z_ss_same, upd_eq]
    · rw [z_up_ne (show 16 ≠ 19 by decide), z_up_same, z_up_same, b1, b2, b3, e', z_ss_ne (by decide), z_sa_same]
      by_cases ei : i = sc
      · subst ei
        refine ⟨g, p, by omega, hp, upd_eq _ _ _, upd_eq _ _ _, ?_, ?_, ?_⟩
        · rw [upd_ne (by omega), upd_ne (by omega), upd_eq]
        · rw [upd_ne (by omega), upd_eq]
        · rw [upd_eq, upd_eq]
      · obtain ⟨g', p', f1, f2, f3, f4, f5, f6, f7⟩ := s4 i (by omega)
        refine ⟨g', p', f1, f2, by rw [upd_ne ei]; exact f3, by rw [upd_ne ei]; exact f4, ?_, ?_, ?_⟩
        · rw [upd_ne (by omega), upd_ne (by omega), upd_ne (by omega)]; exact f5
        · rw [upd_ne (by omega), upd_ne (by omega), upd_ne (by omega)]; exact f6
        · rw [upd_ne (by omega), upd_ne (by omega), upd_ne (by omega), upd_ne ei]; exact f7
    · rw [z_up_ne h3, z_up_ne h2]
    · rw [z_up_same, e', z_ss_ne (by omega), z_sa_ne (by omega)]
    · rw [z_up_same, e', z_ss_same, upd_ne (by omega), z_sa_ne (by decide)]
  · intro Y9 e9
    rw [z_up_self] at e9
    rw [e9]
    exact ⟨fun _ => ref (-3) X rfl (fun hlt => absurd (nI_lt (b := 6) hlt (by omega)) c) (fun _ => ⟨rfl, RE_bad R⟩), fun q => absurd rfl q⟩
