/-! ===== PURE: class and reference side by side ===== -/
def A_txt (X : z_X) : Prop := ∃ len, X 13 0 0 = nI len ∧ X 19 0 0 = nI len ∧ len ≤ 200 ∧ ∀ j, j < len → X 19 1 j = X 13 2 j
def A_now (X : z_X) (n k : Nat) : Prop := HN n k (X 0) ∧ 2 ≤ n ∧ TR n (X 0) (X 19 2) ∧ RR n k (X 0) (X 19 5)
/-- a shelf of halls and rows: sg the shelf, sb its first hall, m its room, c the reference's rows, cs where it counts them -/
def SK (X : z_X) (n sg sb m c cs : Nat) : Prop := ∃ u x, u ≤ m ∧ x < m ∧ X sg 0 0 = nI u ∧ X sg 0 1 = nI x ∧ X 19 0 cs = nI u ∧ ∀ j, j < u → ∃ kj, HN n kj (X (sb + (x + m - u + j) % m)) ∧ TR n (X (sb + (x + m - u + j) % m)) (X 19 2) ∧ RR n kj (X (sb + (x + m - u + j) % m)) (fun i => X 19 c (42 * j + i))
def A_see (X : z_X) (n : Nat) : Prop := ∃ s, s ≤ 6 ∧ X 16 0 0 = nI s ∧ X 19 0 12 = nI s ∧ ∀ i, i < s → ∃ g p, g < 8 ∧ p < n ∧ X 16 1 i = nI g ∧ X 16 2 i = nI p ∧ X 19 11 (3 * i) = nI g ∧ X 19 11 (3 * i + 1) = nI p ∧ X 19 11 (3 * i + 2) = X 16 3 i
def A_nf (X : z_X) : Prop := ∀ i, i < 13 → NF (X i)
def RLn (X : z_X) (n k : Nat) : Prop := A_txt X ∧ A_now X n k ∧ SK X n 14 3 8 7 8 ∧ SK X n 15 11 2 9 10 ∧ A_see X n ∧ A_nf X
def RLE (X : z_X) : Prop := ∃ n k, RLn X n k
theorem SK_frame {X X' : z_X} {n sg sb m c cs : Nat} (S : SK X n sg sb m c cs) (hm : 0 < m) (e1 : X' sg 0 0 = X sg 0 0) (e2 : X' sg 0 1 = X sg 0 1) (e3 : X' 19 0 cs = X 19 0 cs) (e4 : X' 19 2 = X 19 2) (e5 : X' 19 c = X 19 c) (e6 : ∀ i, i < m → X' (sb + i) = X (sb + i)) : SK X' n sg sb m c cs := by
  obtain ⟨u, x, h1, h2, h3, h4, h5, h6⟩ := S
  refine ⟨u, x, h1, h2, e1.trans h3, e2.trans h4, e3.trans h5, fun j hj => ?_⟩
  obtain ⟨kj, a1, a2, a3⟩ := h6 j hj
  have hs : (x + m - u + j) % m < m := Nat.mod_lt _ hm
  rw [e6 _ hs, e4, e5]
  exact ⟨kj, a1, a2, a3⟩
theorem RL_frame {X X' : z_X} {n k : Nat} (R : RLn X n k) (h : ∀ i, i ≠ 1 → i ≠ 2 → i ≠ 13 → i ≠ 19 → X' i = X i) (n1 : NF (X' 1)) (n2 : NF (X' 2)) (t1 : X' 13 0 0 = X 13 0 0) (t2 : X' 13 2 = X 13 2) (g : ∀ c, c = 1 ∨ c = 2 ∨ c = 5 ∨ c = 7 ∨ c = 9 ∨ c = 11 → X' 19 c = X 19 c) (s : ∀ j, j = 0 ∨ j = 8 ∨ j = 10 ∨ j = 12 → X' 19 0 j = X 19 0 j) : RLn X' n k := by
  obtain ⟨⟨len, l1, l2, l3, l4⟩, ⟨a1, a2, a3, a4⟩, S1, S2, ⟨sc, s1, s2, s3, s4⟩, N⟩ := R
  have h0 := h 0 (by decide) (by decide) (by decide) (by decide)
  have h16 := h 16 (by decide) (by decide) (by decide) (by decide)
  refine ⟨⟨len, t1.trans l1, (s 0 (by omega)).trans l2, l3, fun j hj => by rw [g 1 (by omega), t2]; exact l4 j hj⟩, ⟨by rw [h0]; exact a1, a2, by rw [h0, g 2 (by omega)]; exact a3, by rw [h0, g 5 (by omega)]; exact a4⟩, ?_, ?_, ⟨sc, s1, by rw [h16]; exact s2, (s 12 (by omega)).trans s3, fun i hi => by rw [h16, g 11 (by omega)]; exact s4 i hi⟩, fun i hi => ?_⟩
  · exact SK_frame S1 (by decide) (by rw [h 14 (by decide) (by decide) (by decide) (by decide)]) (by rw [h 14 (by decide) (by decide) (by decide) (by decide)]) (s 8 (by omega)) (g 2 (by omega)) (g 7 (by omega)) (fun i hi => h _ (by omega) (by omega) (by omega) (by omega))
  · exact SK_frame S2 (by decide) (by rw [h 15 (by decide) (by decide) (by decide) (by decide)]) (by rw [h 15 (by decide) (by decide) (by decide) (by decide)]) (s 10 (by omega)) (g 2 (by omega)) (g 9 (by omega)) (fun i hi => h _ (by omega) (by omega) (by omega) (by omega))
  · by_cases e1 : i = 1
    · subst e1; exact n1
    · by_cases e2 : i = 2
      · subst e2; exact n2
      · rw [h i e1 e2 (by omega) (by omega)]; exact N i hi
theorem RL_side {X : z_X} {n k : Nat} {r : Nat → Int32} (R : RLn X n k) : RLn (z_up X 19 (z_sa (X 19) 6 r)) n k := by
  have N := R.2.2.2.2.2
  refine RL_frame R (fun i h1 h2 h3 h4 => z_up_ne h4) (by rw [z_up_ne (by decide)]; exact N 1 (by decide)) (by rw [z_up_ne (by decide)]; exact N 2 (by decide)) (by rw [z_up_ne (by decide)]) (by rw [z_up_ne (by decide)]) (fun c hc => ?_) (fun j _ => ?_)
  · rw [z_up_same, z_sa_ne (by omega)]
  · rw [z_up_same, z_sa_ne (by omega)]
theorem RL_ahead {X : z_X} {n k : Nat} {h' : z_G} (R : RLn X n k) (hN : NF h') : RLn (z_up X 2 h') n k := by
  have N := R.2.2.2.2.2
  exact RL_frame R (fun i h1 h2 h3 h4 => z_up_ne h2) (by rw [z_up_ne (by decide)]; exact N 1 (by decide)) (by rw [z_up_same]; exact hN) (by rw [z_up_ne (by decide)]) (by rw [z_up_ne (by decide)]) (fun c hc => by rw [z_up_ne (by decide)]) (fun j _ => by rw [z_up_ne (by decide)])
theorem bx {b : Bool} {P : Prop} (h1 : b = true) (h2 : b = false) : P := by rw [h1] at h2; cases h2
theorem c_isPerson {n : Nat} {h : z_G} {x : Int32} {K : Int32 → Prop} (hn : h 0 0 = nI n) (hK : K (bI (wi x 0 (nI n - 1)))) : v_X1_isPerson h x K := s_isPerson (by rw [hn]; exact hK)
theorem c_isGlove {k : Nat} {h : z_G} {x : Int32} {K : Int32 → Prop} (hk : h 0 1 = nI k) (hK : K (bI (wi x 0 (nI k - 1)))) : v_X1_isGlove h x K := s_isGlove (by rw [hk]; exact hK)
theorem r_isPerson {n : Nat} {G : z_G} {x : Int32} {K : Int32 → Prop} (hn : G 2 0 = nI n) (hK : K (bI (wi x 0 (nI n - 1)))) : v_X6_isPerson G x K := by
  unfold v_X6_isPerson
  rw [zn0, hn]
  exact ⟨vi (a := 0) (by omega) (by omega), s_in (a := 0) rfl rfl rfl ⟨bI_b _, hK⟩⟩
theorem r_isGlove {k : Nat} {G : z_G} {x : Int32} {K : Int32 → Prop} (hk : G 5 2 = nI k) (hK : K (bI (wi x 0 (nI k - 1)))) : v_X6_isGlove G x K := by
  unfold v_X6_isGlove
  rw [zn2, hk]
  exact ⟨vi (a := 2) (by omega) (by omega), s_in (a := 0) rfl rfl rfl ⟨bI_b _, hK⟩⟩
theorem wi_up {x : Int32} {m : Nat} (hm : m < 2 ^ 31) (h : wi x 0 (nI m) = true) : ∃ j, j ≤ m ∧ x = nI j := by
  obtain ⟨j, -, h2, h3⟩ := wi_nat (a := 0) hm h (by omega)
  exact ⟨j, h2, h3⟩
theorem wi_no {x : Int32} {a m : Nat} (hm : m < 2 ^ 31) (h : ∀ j, a ≤ j → j ≤ m → ¬ x = nI j) (ha : a < 2 ^ 31) : wi x (nI a) (nI m) = false := by
  cases hw : wi x (nI a) (nI m)
  · rfl
  · obtain ⟨j, h1, h2, h3⟩ := wi_nat hm hw ha
    exact absurd h3 (h j h1 h2)
theorem wi_yes {a m j : Nat} (h1 : a ≤ j) (h2 : j ≤ m) (hm : m < 2 ^ 31) : wi (nI j) (nI a) (nI m) = true := decide_eq_true ⟨nI_le h1 (by omega), nI_le h2 hm⟩
theorem t_person {X : z_X} {n k : Nat} (R : RLn X n k) (x y : Int32) : v_X5_person X x y (fun r => v_X6_person (X 19) x y (fun r2 => r = r2 ∧ RLE X)) := by
  obtain ⟨-, ⟨H, hn2, T, W⟩, -⟩ := id R
  have hn6 := H.1.2.2.1
  have RE : RLE X := ⟨n, k, R⟩
  unfold v_X5_person v_X6_person
  refine c_isPerson H.1.1 (br1 (fun w => ?_) (fun w => r_isPerson T.1 (br0 (fun _ => ⟨rfl, RE⟩) (fun q => bx q w))))
  obtain ⟨p, hp, rfl⟩ := (wi_nI (by omega)).mp w
  rw [zi (show p < 1000 by omega), i7, i4, i1, zi (show 7 + p < 1000 by omega), zi (show 4 + p < 1000 by omega), zi (show 1 + p < 1000 by omega), T.2.1 p hp, T.2.2 p hp, W.2.2.2.2.1 p hp]
  refine ⟨fun e => ⟨vi (by omega) (by omega), ?_⟩, fun e => ⟨vi (by omega) (by omega), ?_⟩, fun e => ⟨vi (by omega) (by omega), ?_⟩, fun e0 e1 e2 => ?_⟩
  · subst e
    refine r_isPerson T.1 (br0 (fun q => bx w q) (fun _ => s_in (a := 0) (b := nI 2) rfl rfl rfl (br1 (fun _ => ⟨fun q => absurd rfl q, fun _ => ⟨vi (by omega) (by omega), rfl, RE⟩⟩) (fun q => bx (wi_yes (j := 0) (a := 0) (m := 2) (by omega) (by omega) (by omega)) q))))
  · subst e
    refine r_isPerson T.1 (br0 (fun q => bx w q) (fun _ => s_in (a := 0) (b := nI 2) rfl rfl rfl (br1 (fun _ => ⟨fun _ => ⟨fun q => absurd rfl q, fun _ => ⟨vi (by omega) (by omega), rfl, RE⟩⟩, fun q => absurd q (by decide)⟩) (fun q => bx (wi_yes (j := 1) (a := 0) (m := 2) (by omega) (by omega) (by omega)) q))))
  · subst e
    refine r_isPerson T.1 (br0 (fun q => bx w q) (fun _ => s_in (a := 0) (b := nI 2) rfl rfl rfl (br1 (fun _ => ⟨fun _ => ⟨fun _ => ⟨vi (by omega) (by omega), rfl, RE⟩, fun q => absurd q (by decide)⟩, fun q => absurd q (by decide)⟩) (fun q => bx (wi_yes (j := 2) (a := 0) (m := 2) (by omega) (by omega) (by omega)) q))))
  · refine r_isPerson T.1 (br0 (fun q => bx w q) (fun _ => s_in (a := 0) (b := nI 2) rfl rfl rfl (br1 (fun q => ?_) (fun _ => ⟨rfl, RE⟩))))
    obtain ⟨j, hj, e⟩ := wi_up (m := 2) (by omega) q
    have : j = 0 ∨ j = 1 ∨ j = 2 := by omega
    rcases this with rfl | rfl | rfl
    · exact absurd e e0
    · exact absurd e e1
    · exact absurd e e2
theorem t_glove {X : z_X} {n k : Nat} (R : RLn X n k) (x y : Int32) : v_X5_glove X x y (fun r => v_X6_glove (X 19) x y (fun r2 => r = r2 ∧ RLE X)) := by
  obtain ⟨-, ⟨H, hn2, T, W⟩, -⟩ := id R
  have hk8 := H.1.2.2.2.1
  have RE : RLE X := ⟨n, k, R⟩
  unfold v_X5_glove v_X6_glove v_X6_glove_b99
  refine c_isGlove H.1.2.1 (br1 (fun w => ?_) (fun w => r_isGlove W.2.2.1 (br0 (fun _ => ⟨rfl, RE⟩) (fun q => bx q w))))
  obtain ⟨g, hg, rfl⟩ := (wi_nI (by omega)).mp w
  obtain ⟨a1, a2, a3, a4⟩ := W.2.2.2.2.2 g hg
  have hb := bs_256 H.1
  rw [zi (show g < 1000 by omega), i10, i18, i26, i34, zi (show 10 + g < 1000 by omega), zi (show 18 + g < 1000 by omega), zi (show 26 + g < 1000 by omega), zi (show 34 + g < 1000 by omega), a1, a2, a3, a4, zn3, W.2.2.2.1]
  have yes : ∀ j, j ≤ 4 → wi (nI j) 0 4 = true := fun j hj => wi_yes (a := 0) (m := 4) (by omega) hj (by omega)
  refine ⟨fun e => ⟨vi (by omega) (by omega), ?_⟩, fun e => ⟨vi (by omega) (by omega), vi (by omega) (by omega), vi (by omega) (by omega), s_sizeByNow ?_⟩, fun e => ⟨vi (by omega) (by omega), ?_⟩, fun e => ⟨vi (by omega) (by omega), ?_⟩, fun e => ⟨vi (by omega) (by omega), ?_⟩, fun e0 e1 e2 e3 e4 => ?_⟩
  · subst e
    refine r_isGlove W.2.2.1 (br0 (fun q => bx w q) (fun _ => s_in (a := 0) (b := nI 4) rfl rfl rfl (br1 (fun _ => ?_) (fun q => bx (yes 0 (by omega)) q))))
    exact ⟨fun _ => ⟨vi (by omega) (by omega), rfl, RE⟩, fun q => absurd q (by decide), fun q => absurd q (by decide), fun q => absurd q (by decide), fun q => absurd rfl q⟩
  · subst e
    refine r_isGlove W.2.2.1 (br0 (fun q => bx w q) (fun _ => s_in (a := 0) (b := nI 4) rfl rfl rfl (br1 (fun _ => ?_) (fun q => bx (yes 1 (by omega)) q))))
    have key : ∀ z : Int32, (if 0 < z then z else 0) = (if 0 ≤ z then z else 0) := by
      intro z
      by_cases h1 : 0 < z
      · rw [if_pos h1, if_pos (Int32.le_of_lt h1)]
      · rw [if_neg h1]
        by_cases h2 : 0 ≤ z
        · rw [if_pos h2]; exact Int32.le_antisymm h2 (Int32.not_lt.mp h1)
        · rw [if_neg h2]
    refine ⟨fun q => absurd q (by decide), fun _ => ⟨vi (by omega) (by omega), vi (by omega) (by omega), fun c => ?_, fun c => ⟨vi (by omega) (by omega), ?_⟩⟩, fun q => absurd q (by decide), fun q => absurd q (by decide), fun _ q => absurd rfl q⟩
    · intro u eu
      have es : szn (X 0 7 g) (X 0 8 g) (X 0 11 g) = u := by unfold szn; rw [if_neg c, eu]; grind
      rw [key, es]
      exact ⟨fun d => ⟨by rw [if_pos d], RE⟩, fun d => ⟨by rw [if_neg d], RE⟩⟩
    · intro u eu
      have es : szn (X 0 7 g) (X 0 8 g) (X 0 11 g) = u := by unfold szn; rw [if_pos c, eu]
      rw [key, es]
      exact ⟨fun d => ⟨by rw [if_pos d], RE⟩, fun d => ⟨by rw [if_neg d], RE⟩⟩
  · subst e
    refine r_isGlove W.2.2.1 (br0 (fun q => bx w q) (fun _ => s_in (a := 0) (b := nI 4) rfl rfl rfl (br1 (fun _ => ?_) (fun q => bx (yes 2 (by omega)) q))))
    exact ⟨fun q => absurd q (by decide), fun q => absurd q (by decide), fun _ => ⟨vi (by omega) (by omega), rfl, RE⟩, fun q => absurd q (by decide), fun _ _ q => absurd rfl q⟩
  · subst e
    refine r_isGlove W.2.2.1 (br0 (fun q => bx w q) (fun _ => s_in (a := 0) (b := nI 4) rfl rfl rfl (br1 (fun _ => ?_) (fun q => bx (yes 3 (by omega)) q))))
    refine ⟨fun q => absurd q (by decide), fun q => absurd q (by decide), fun q => absurd q (by decide), fun _ => ⟨vi (a := 3) (by omega) (by omega), ?_, RE⟩, fun _ _ _ q => absurd rfl q⟩
    have e1 : ((nI (bs (lyP (X 0)) k) >>> (nI g &&& 31)) &&& 1) = nI (bs (lyP (X 0)) k / 2 ^ g % 2) := by
      rw [pk_shrN (by omega) _ g (sh31 g (by omega)), show (1 : Int32) = nI 1 from rfl, nI_and, Nat.and_one_is_mod]
    rw [e1]
    have e2 := bs_bit (lyP (X 0)) k g
    rw [Nat.testBit_eq_decide_div_mod_eq] at e2
    have hlt : bs (lyP (X 0)) k / 2 ^ g % 2 < 2 := Nat.mod_lt _ (by omega)
    generalize bs (lyP (X 0)) k / 2 ^ g % 2 = z at e2 hlt ⊢
    rcases H.1.2.2.2.2.2.1 g hg with h0 | h1
    · have el : lyP (X 0) g = false := by unfold lyP; rw [h0]; rfl
      rw [el, Bool.and_false] at e2
      have := of_decide_eq_false e2
      rw [h0, show z = 0 by omega]; rfl
    · have el : lyP (X 0) g = true := by unfold lyP; rw [h1]; rfl
      rw [el, Bool.and_true, decide_eq_true hg] at e2
      have := of_decide_eq_true e2
      rw [h1, this]; rfl
  · subst e
    refine r_isGlove W.2.2.1 (br0 (fun q => bx w q) (fun _ => s_in (a := 0) (b := nI 4) rfl rfl rfl (br1 (fun _ => ?_) (fun q => bx (yes 4 (by omega)) q))))
    exact ⟨fun q => absurd q (by decide), fun q => absurd q (by decide), fun q => absurd q (by decide), fun q => absurd q (by decide), fun _ _ _ _ => ⟨vi (by omega) (by omega), rfl, RE⟩⟩
  · refine r_isGlove W.2.2.1 (br0 (fun q => bx w q) (fun _ => s_in (a := 0) (b := nI 4) rfl rfl rfl (br1 (fun q => ?_) (fun _ => ⟨rfl, RE⟩))))
    obtain ⟨j, hj, e⟩ := wi_up (m := 4) (by omega) q
    have : j = 0 ∨ j = 1 ∨ j = 2 ∨ j = 3 ∨ j = 4 := by omega
    rcases this with rfl | rfl | rfl | rfl | rfl
    · exact absurd e e0
    · exact absurd e e1
    · exact absurd e e2
    · exact absurd e e3
    · exact absurd e e4
theorem RR_aside {n k : Nat} {h : z_G} {a b : Nat → Int32} (H : HI n k h) (R : RR n k h a) : RR n k h (asd a b 42) := RR_cong H.2.2.1 H.2.2.2.1 R (fun j hj => asd_in hj)
theorem t_fits {X : z_X} {n k : Nat} (R : RLn X n k) (x y : Int32) : v_X5_fits X x y (fun r => v_X6_fits (X 19) x y (fun r2 h' => r = r2 ∧ RLE (z_up X 19 h'))) := by
  obtain ⟨-, ⟨H, hn2, T, W⟩, -⟩ := id R
  have hk8 := H.1.2.2.2.1
  have hn6 := H.1.2.2.1
  have RE : RLE (z_up X 19 (X 19)) := by rw [z_up_self]; exact ⟨n, k, R⟩
  unfold v_X5_fits v_X6_fits
  refine c_isGlove H.1.2.1 (br0 (fun w => r_isGlove W.2.2.1 (br0 (fun _ => ⟨rfl, RE⟩) (fun q => bx q w))) (fun w => c_isPerson H.1.1 (br1 (fun u => ?_) (fun u => r_isGlove W.2.2.1 (br0 (fun q => bx w q) (fun _ => r_isPerson T.1 (br1 (fun q => bx q u) (fun _ => ⟨rfl, RE⟩))))))))
  obtain ⟨g, hg, rfl⟩ := (wi_nI (by omega)).mp w
  obtain ⟨p, hp, rfl⟩ := (wi_nI (by omega)).mp u
  have hcan : cn8 k (X 0) p g = can (X 0) p g := by simp [cn8, hg]
  refine s_can (by omega) (by omega) ?_
  have ref : ∀ (r : Int32), r = bI (can (X 0) p g) → v_X6_isGlove (X 19) (nI g) (fun r1 => (r1 = 0 → r = -1 ∧ RLE (z_up X 19 (X 19))) ∧ (¬ r1 = 0 → v_X6_isPerson (X 19) (nI p) (fun r3 => (¬ r3 = 0 → v_X6_aside (X 19) (fun h5 => v_X6_isFit h5 (nI g) (nI p) (fun r6 => (r6 = 0 → r = 0 ∧ RLE (z_up X 19 h5)) ∧ (¬ r6 = 0 → r = 1 ∧ RLE (z_up X 19 h5))))) ∧ (r3 = 0 → r = -1 ∧ RLE (z_up X 19 (X 19)))))) := by
    intro r er
    refine r_isGlove W.2.2.1 (br0 (fun q => bx w q) (fun _ => r_isPerson T.1 (br1 (fun _ => r_aside ?_) (fun q => bx u q))))
    refine r_isFit H.1 (by rw [z_sa_ne (by decide)]; exact T) (by rw [z_sa_same]; exact RR_aside H.1 W) (by omega) hp ?_
    rw [hcan]
    exact br0 (fun z => ⟨by rw [er, z]; rfl, _, _, RL_side R⟩) (fun z => ⟨by rw [er, z]; rfl, _, _, RL_side R⟩)
  exact br0 (fun z => ref 0 (by rw [z]; rfl)) (fun z => ref 1 (by rw [z]; rfl))
