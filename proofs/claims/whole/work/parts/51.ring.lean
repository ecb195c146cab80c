/-! ===== PURE: calls: ring ===== -/
def ow (h : z_G) (k n T : Nat) : Nat := bs (fun o => (List.range n).any (fun p => (List.range k).any (fun g => T.testBit p && (can h p g && decide (h 9 g = nI o))))) 6
theorem ow_OW (h : z_G) (k n T : Nat) : OW h T k n 0 (ow h k n T) := by
  refine ⟨bs_lt _ 6, fun o => ?_⟩
  unfold ow
  rw [bs_bit, Bool.and_eq_true, decide_eq_true_iff]
  simp only [List.any_eq_true, List.mem_range, Bool.and_eq_true, decide_eq_true_eq]
  constructor
  · rintro ⟨h6, p, hp, g, hg, h1, h2, h3⟩
    exact ⟨p, g, Or.inl ⟨hp, hg⟩, h1, h2, h3, h6⟩
  · rintro ⟨p, g, h0, h1, h2, h3, h6⟩
    rcases h0 with ⟨hp, hg⟩ | ⟨-, q⟩
    · exact ⟨h6, p, hp, g, hg, h1, h2, h3⟩
    · omega
def OG (h : z_G) (T n g q W : Nat) : Prop := W < 64 ∧ ∀ o, W.testBit o = true ↔ ∃ p g', (g' < g ∧ p < n ∨ g' = g ∧ p < q) ∧ T.testBit p = true ∧ can h p g' = true ∧ h 9 g' = nI o ∧ o < 6
theorem OG_no {h : z_G} {T n g q W : Nat} (H : OG h T n g q W) (hn : ¬ (T.testBit q = true ∧ can h q g = true)) : OG h T n g (q + 1) W := by
  refine ⟨H.1, fun o => (H.2 o).trans ⟨?_, ?_⟩⟩
  · rintro ⟨p, g', h1, h2⟩
    exact ⟨p, g', by omega, h2⟩
  · rintro ⟨p, g', h1, h2, h3, h4⟩
    refine ⟨p, g', ?_, h2, h3, h4⟩
    rcases h1 with h1 | ⟨e1, h1⟩
    · exact Or.inl h1
    · right
      refine ⟨e1, ?_⟩
      rcases Nat.lt_or_ge p q with z | z
      · exact z
      · have : p = q := by omega
        subst this; subst e1
        exact absurd ⟨h2, h3⟩ hn
theorem OG_yes {h : z_G} {T n g q W o' : Nat} (H : OG h T n g q W) (h1 : T.testBit q = true) (h2 : can h q g = true) (h3 : h 9 g = nI o') (hq : o' < 6) : OG h T n g (q + 1) (W ||| 2 ^ o') := by
  refine ⟨Nat.or_lt_two_pow (n := 6) H.1 (Nat.pow_lt_pow_right (by omega) (by omega)), fun o => ?_⟩
  rw [Nat.testBit_or, Bool.or_eq_true, H.2 o, Nat.testBit_two_pow, decide_eq_true_iff]
  constructor
  · rintro (⟨p, g', a1, a2⟩ | rfl)
    · exact ⟨p, g', by omega, a2⟩
    · exact ⟨q, g, Or.inr ⟨rfl, by omega⟩, h1, h2, h3, hq⟩
  · rintro ⟨p, g', a1, a2, a3, a4, a5⟩
    rcases a1 with a1 | ⟨e1, a1⟩
    · exact Or.inl ⟨p, g', Or.inl a1, a2, a3, a4, a5⟩
    · rcases Nat.lt_or_ge p q with r | r
      · exact Or.inl ⟨p, g', Or.inr ⟨e1, r⟩, a2, a3, a4, a5⟩
      · subst e1
        right
        rw [h3] at a4
        exact (nI_eq (by omega) (by omega)).mp a4
theorem OG_ow {h : z_G} {T n k W : Nat} (H : OG h T n k 0 W) : W = ow h k n T := by
  refine OW_one (h := h) (T := T) (k := k) (i := n) ⟨H.1, fun o => (H.2 o).trans ⟨?_, ?_⟩⟩ (ow_OW h k n T)
  · rintro ⟨p, g, h1, h2⟩
    exact ⟨p, g, by omega, h2⟩
  · rintro ⟨p, g, h1, h2⟩
    exact ⟨p, g, by omega, h2⟩
def rgT (h : z_G) (k n p : Nat) : Nat → Nat
  | 0 => 2 ^ p
  | i + 1 => ow h k n (rgT h k n p i)
def rgA (P : Nat → Bool) : Nat → Nat → Int32
  | _, 0 => -4
  | i, j + 1 => if P i then nI (i + 1) else rgA P (i + 1) j
theorem rgT_lt {h : z_G} {k n p : Nat} (hp : p < 6) : ∀ i, rgT h k n p i < 64
  | 0 => by
    show 2 ^ p < 2 ^ 6
    exact Nat.pow_lt_pow_right (by omega) hp
  | i + 1 => (ow_OW h k n (rgT h k n p i)).1
theorem bit1 {W p : Nat} (hW : W < 2 ^ 31) (hp : p < 31) : ((nI W >>> (nI p &&& 31)) &&& 1) = bI (W.testBit p) := by
  rw [pk_shrN hW _ p (sh31 p (by omega)), show (1 : Int32) = nI 1 from rfl, nI_and, Nat.and_one_is_mod, Nat.testBit_eq_decide_div_mod_eq]
  have hlt : W / 2 ^ p % 2 < 2 := Nat.mod_lt _ (by omega)
  generalize W / 2 ^ p % 2 = z at hlt ⊢
  have : z = 0 ∨ z = 1 := by omega
  rcases this with rfl | rfl <;> rfl
theorem s_ring {X : z_X} {n k p : Nat} {K : Int32 → Prop} (H : HN n k (X 0)) (hp : p < n) (hK : K (rgA (fun i => (rgT (X 0) k n p (i + 1)).testBit p) 0 n)) : v_X5_ring_b19 X K (nI p) (nI (2 ^ p)) 1 := by
  have hn6 := H.1.2.2.1
  unfold v_X5_ring_b19
  refine z_for n (fun i q => q = (nI p, nI (rgT (X 0) k n p i), nI (i + 1)) ∧ rgA (fun i => (rgT (X 0) k n p (i + 1)).testBit p) 0 n = rgA (fun i => (rgT (X 0) k n p (i + 1)).testBit p) i (n - i)) ?_ (Nat.zero_le n) ⟨rfl, rfl⟩
  rintro i ⟨x1, x2, x3⟩ hi ⟨e, ha⟩ Lp hL
  obtain ⟨rfl, e2⟩ := Prod.mk.inj e
  obtain ⟨rfl, rfl⟩ := Prod.mk.inj e2
  show v_X5_ring_b19_s X K _ (nI p) (nI (rgT (X 0) k n p i)) (nI (i + 1))
  unfold v_X5_ring_b19_s
  rw [H.1.1]
  refine ⟨fun c => ?_, fun c => ?_⟩
  · have : i = n := by have := (nI_ltI (by omega) (by omega)).mp c; omega
    subst this
    rw [Nat.sub_self] at ha
    rw [ha] at hK
    exact hK
  · have hlt : i < n := by
      rcases Nat.lt_or_ge i n with q | q
      · exact q
      · exact absurd (nI_lt (show n < i + 1 by omega) (by omega)) c
    have hT := rgT_lt (h := X 0) (k := k) (n := n) (p := p) (by omega) i
    refine s_owners H.1 (by omega) (fun W O => ?_)
    have eW : W = rgT (X 0) k n p (i + 1) := OW_one O (ow_OW _ _ _ _)
    subst eW
    have hT' := rgT_lt (h := X 0) (k := k) (n := n) (p := p) (by omega) (i + 1)
    rw [bit1 (by omega) (by omega)]
    have st : rgA (fun i => (rgT (X 0) k n p (i + 1)).testBit p) i (n - i) = if (rgT (X 0) k n p (i + 1)).testBit p then nI (i + 1) else rgA (fun i => (rgT (X 0) k n p (i + 1)).testBit p) (i + 1) (n - (i + 1)) := by
      rw [show n - i = (n - (i + 1)) + 1 by omega]; rfl
    refine ⟨fun d => ?_, fun d => ?_⟩
    · intro y7 e7
      refine hL (_, _, _) hlt ⟨by rw [e7, nI_1], ?_⟩
      rw [ha, st, if_neg (fun q => d (by rw [q]; rfl))]
    · rw [bI_1] at d
      rw [ha, st, if_pos d] at hK
      exact hK
theorem r_ring {G h : z_G} {n k p : Nat} {K : Int32 → z_G → Prop} (H : HN n k h) (T : TR n h (G 2)) (W : RR n k h (G 6)) (e52 : G 5 2 = nI k) (hp : p < n) (hK : K (rgA (fun i => (rgT h k n p (i + 1)).testBit p) 0 n) G) : v_X6_ring_b20 K G (nI p) (nI (2 ^ p)) 1 := by
  have hn6 := H.1.2.2.1
  have hk8 := H.1.2.2.2.1
  unfold v_X6_ring_b20
  refine z_for n (fun i q => q = (G, nI p, nI (rgT h k n p i), nI (i + 1)) ∧ rgA (fun i => (rgT h k n p (i + 1)).testBit p) 0 n = rgA (fun i => (rgT h k n p (i + 1)).testBit p) i (n - i)) ?_ (Nat.zero_le n) ⟨rfl, rfl⟩
  rintro i ⟨G', x1, x2, x3⟩ hi ⟨e, ha⟩ Lp hL
  obtain ⟨rfl, e1⟩ := Prod.mk.inj e
  obtain ⟨rfl, e2⟩ := Prod.mk.inj e1
  obtain ⟨rfl, rfl⟩ := Prod.mk.inj e2
  show v_X6_ring_b20_s K _ G' (nI p) (nI (rgT h k n p i)) (nI (i + 1))
  unfold v_X6_ring_b20_s
  rw [zn0, T.1]
  refine ⟨vi (a := 0) (by omega) (by omega), fun c => ?_, fun c => ?_⟩
  · have : i = n := by have := (nI_ltI (by omega) (by omega)).mp c; omega
    subst this
    rw [Nat.sub_self] at ha
    rw [ha] at hK
    exact hK
  · have hlt : i < n := by
      rcases Nat.lt_or_ge i n with q | q
      · exact q
      · exact absurd (nI_lt (show n < i + 1 by omega) (by omega)) c
    have hT := rgT_lt (h := h) (k := k) (n := n) (p := p) (by omega) i
    have hT' := rgT_lt (h := h) (k := k) (n := n) (p := p) (by omega) (i + 1)
    have st : rgA (fun i => (rgT h k n p (i + 1)).testBit p) i (n - i) = if (rgT h k n p (i + 1)).testBit p then nI (i + 1) else rgA (fun i => (rgT h k n p (i + 1)).testBit p) (i + 1) (n - (i + 1)) := by
      rw [show n - i = (n - (i + 1)) + 1 by omega]; rfl
    unfold v_X6_ring_b36
    refine z_for k (fun g q => ∃ V, q = (G', nI p, nI (rgT h k n p i), nI (i + 1), nI V, nI g) ∧ OG h (rgT h k n p i) n g 0 V) ?_ (Nat.zero_le k) ⟨0, rfl, by decide, fun o => by simp⟩
    rintro g ⟨G2, y1, y2, y3, y4, y5⟩ hg ⟨V, e, O⟩ Lp2 hL2
    obtain ⟨rfl, e1⟩ := Prod.mk.inj e
    obtain ⟨rfl, e2⟩ := Prod.mk.inj e1
    obtain ⟨rfl, e3⟩ := Prod.mk.inj e2
    obtain ⟨rfl, e4⟩ := Prod.mk.inj e3
    obtain ⟨rfl, rfl⟩ := Prod.mk.inj e4
    show v_X6_ring_b36_s K _ _ G2 (nI p) (nI (rgT h k n p i)) (nI (i + 1)) (nI V) (nI g)
    unfold v_X6_ring_b36_s
    rw [zn2, e52]
    refine ⟨vi (a := 2) (by omega) (by omega), fun c => ?_, fun c => ?_⟩
    · have : g = k := by have := (nI_leI (by omega) (by omega)).mp c; omega
      subst this
      have eV : V = rgT h g n p (i + 1) := OG_ow O
      subst eV
      refine s_has (by omega) (by omega) (br0 (fun d => ?_) (fun d => ?_))
      · intro y11 e11
        refine hL (_, _, _, _) hlt ⟨by rw [e11, nI_1], ?_⟩
        rw [ha, st, if_neg (by rw [d]; decide)]
      · rw [ha, st, if_pos d] at hK
        exact hK
    · have hgk : g < k := by
        rcases Nat.lt_or_ge g k with q | q
        · exact q
        · exact absurd (nI_le q (by omega)) c
      unfold v_X6_ring_b50
      refine z_for n (fun q z => ∃ V, z = (G2, nI p, nI (rgT h k n p i), nI (i + 1), nI V, nI g, nI q) ∧ OG h (rgT h k n p i) n g q V) ?_ (Nat.zero_le n) ⟨V, rfl, O⟩
      rintro q ⟨G3, w1, w2, w3, w4, w5, w6⟩ hq ⟨V2, e, O2⟩ Lp3 hL3
      obtain ⟨rfl, e1⟩ := Prod.mk.inj e
      obtain ⟨rfl, e2⟩ := Prod.mk.inj e1
      obtain ⟨rfl, e3⟩ := Prod.mk.inj e2
      obtain ⟨rfl, e4⟩ := Prod.mk.inj e3
      obtain ⟨rfl, e5⟩ := Prod.mk.inj e4
      obtain ⟨rfl, rfl⟩ := Prod.mk.inj e5
      show v_X6_ring_b50_s K _ _ _ G3 (nI p) (nI (rgT h k n p i)) (nI (i + 1)) (nI V2) (nI g) (nI q)
      unfold v_X6_ring_b50_s
      rw [zn0, T.1]
      refine ⟨vi (a := 0) (by omega) (by omega), fun c => ?_, fun c => ?_⟩
      · have : q = n := by have := (nI_leI (by omega) (by omega)).mp c; omega
        intro y14 e14
        refine hL2 (_, _, _, _, _, _) hgk ⟨V2, by rw [e14, nI_1], O2.1, fun o => (O2.2 o).trans ⟨?_, ?_⟩⟩
        · rintro ⟨p', g', h1, h2⟩
          exact ⟨p', g', by omega, h2⟩
        · rintro ⟨p', g', h1, h2⟩
          exact ⟨p', g', by omega, h2⟩
      · have hqn : q < n := by
          rcases Nat.lt_or_ge q n with z | z
          · exact z
          · exact absurd (nI_le z (by omega)) c
        have hcan : cn8 k h q g = can h q g := by simp [cn8, hgk]
        refine s_has (by omega) (by omega) (br0 (fun d => ?_) (fun d => ?_))
        · intro y17 e17 y18 e18
          refine hL3 (_, _, _, _, _, _, _) hqn ⟨V2, by rw [e17, e18, nI_1, show (0 : Int32) = nI 0 from rfl, nI_or, Nat.or_zero], OG_no O2 (fun z => bx z.1 d)⟩
        · refine r_isFit H.1 T W (by omega) hqn ?_
          rw [hcan]
          refine br0 (fun f => ?_) (fun f => ?_)
          · intro y17 e17 y18 e18
            refine hL3 (_, _, _, _, _, _, _) hqn ⟨V2, by rw [e17, e18, nI_1, show (0 : Int32) = nI 0 from rfl, nI_or, Nat.or_zero], OG_no O2 (fun z => bx z.2 f)⟩
          · obtain ⟨o, ho, eo⟩ := H.1.2.2.2.2.1 g hgk
            obtain ⟨-, -, a3, -⟩ := W.2.2.2.2.2 g hgk
            rw [i26, zi (show 26 + g < 1000 by omega), a3, eo, shl1 (by omega), nI_or]
            refine ⟨vi (by omega) (by omega), ?_⟩
            intro y17 e17 y18 e18
            refine hL3 (_, _, _, _, _, _, _) hqn ⟨V2 ||| 2 ^ o, by rw [e17, e18, nI_1], OG_yes O2 d f eo (by omega)⟩
theorem t_ring {X : z_X} {n k : Nat} (R : RLn X n k) (x : Int32) : v_X5_ring X x (fun r => v_X6_ring (X 19) x (fun r2 h' => r = r2 ∧ RLE (z_up X 19 h'))) := by
  obtain ⟨-, ⟨H, hn2, T, W⟩, -⟩ := id R
  have hn6 := H.1.2.2.1
  unfold v_X5_ring v_X6_ring
  refine c_isPerson H.1.1 (br1 (fun w => ?_) (fun w => r_isPerson T.1 (br1 (fun q => bx q w) (fun _ => ⟨rfl, RE_bad R⟩))))
  obtain ⟨p, hp, rfl⟩ := (wi_nI (by omega)).mp w
  intro y3 e3
  rw [shl1 (by omega)] at e3
  subst e3
  refine s_ring H hp ?_
  refine r_isPerson T.1 (br1 (fun _ => r_aside ?_) (fun q => bx w q))
  intro y4 e4
  rw [shl1 (by omega)] at e4
  subst e4
  exact r_ring H (by rw [z_sa_ne (by decide)]; exact T) (by rw [z_sa_same]; exact RR_aside H.1 W) (by rw [z_sa_ne (by decide)]; exact W.2.2.1) hp ⟨rfl, _, _, RL_side R⟩
