/-! ===== PURE: the reference reads ===== -/
def RD (n k : Nat) (h G : z_G) : Prop := HN n k h ∧ TR n h (G 3) ∧ RR n k h (G 4) ∧ ∀ g, k ≤ g → g < 8 → G 4 (34 + g) = 0
def FR (G G' : z_G) : Prop := (∀ c, c ≠ 0 → c ≠ 3 → c ≠ 4 → c ≠ 14 → G' c = G c) ∧ ∀ j, j ≠ 13 → G' 0 j = G 0 j
theorem FR_refl (G : z_G) : FR G G := ⟨fun _ _ _ _ _ => rfl, fun _ _ => rfl⟩
theorem FR_tr {A B C : z_G} (h1 : FR A B) (h2 : FR B C) : FR A C := ⟨fun c a b d e => (h2.1 c a b d e).trans (h1.1 c a b d e), fun j hj => (h2.2 j hj).trans (h1.2 j hj)⟩
theorem r_personIs {n k : Nat} {h G : z_G} {a b c : Int32} {K : z_G → Prop} (D : RD n k h G) (hn : n < 6) (H' : HN (n + 1) k (np h n a b c)) (hK : ∀ G', FR G G' → G' 0 = G 0 → RD (n + 1) k (np h n a b c) G' → K G') : v_X6_personIs G a b c K := by
  obtain ⟨H, T, W, Z⟩ := D
  unfold v_X6_personIs
  rw [zn0, T.1, i1, zi (show 1 + n < 1000 by omega)]
  refine ⟨vi (a := 0) (by omega) (by omega), vi (by omega) (by omega), ?_⟩
  intro h3 e3
  have c3 : h3 3 0 = nI n := by rw [e3, z_ss_same, upd_ne (by omega)]; exact T.1
  rw [c3, i7, zi (show 7 + n < 1000 by omega)]
  refine ⟨vi (a := 0) (by omega) (by omega), vi (by omega) (by omega), ?_⟩
  intro h6 e6
  have c6 : h6 3 0 = nI n := by rw [e6, z_ss_same, upd_ne (by omega)]; exact c3
  rw [c6, i4, zi (show 4 + n < 1000 by omega)]
  refine ⟨vi (a := 0) (by omega) (by omega), vi (by omega) (by omega), ?_⟩
  intro h9 e9
  have c9 : h9 3 0 = nI n := by rw [e9, z_ss_ne (by decide)]; exact c6
  rw [c9, nI_1]
  refine ⟨vi (a := 0) (by omega) (by omega), vi (a := 0) (by omega) (by omega), ?_⟩
  intro h12 e12
  have r3 : h12 3 = upd (upd (upd (G 3) (1 + n) a) (7 + n) c) 0 (nI (n + 1)) := by
    rw [e12, z_ss_same, e9, z_ss_ne (by decide), e6, z_ss_same, e3, z_ss_same]
  have r4 : h12 4 = upd (G 4) (4 + n) b := by
    rw [e12, z_ss_ne (by decide), e9, z_ss_same, e6, z_ss_ne (by decide), e3, z_ss_ne (by decide)]
  have oth : ∀ x, x ≠ 3 → x ≠ 4 → h12 x = G x := by
    intro x h3' h4'
    rw [e12, z_ss_ne h3', e9, z_ss_ne h4', e6, z_ss_ne h3', e3, z_ss_ne h3']
  have hk8 := H.1.2.2.2.1
  refine hK h12 ⟨fun x _ x3 x4 _ => oth x x3 x4, fun j _ => by rw [oth 0 (by decide) (by decide)]⟩ (oth 0 (by decide) (by decide)) ⟨H', ⟨?_, fun p hp => ?_, fun p hp => ?_⟩, ⟨?_, ?_, ?_, ?_, fun p hp => ?_, fun g hg => ?_⟩, fun g h1 h2 => ?_⟩
  · rw [r3, upd_eq]
  · rw [r3, upd_ne (by omega), upd_ne (by omega)]
    unfold np
    rw [z_ss_ne (by decide), z_ss_ne (by decide), z_ss_ne (by decide), z_ss_same]
    by_cases e : p = n
    · rw [e, upd_eq, upd_eq]
    · rw [upd_ne (by omega), upd_ne e]; exact T.2.1 p (by omega)
  · rw [r3, upd_ne (by omega)]
    unfold np
    rw [z_ss_ne (by decide), z_ss_same, z_ss_ne (by decide), z_ss_ne (by decide)]
    by_cases e : p = n
    · rw [e, upd_eq, upd_eq]
    · rw [upd_ne (by omega), upd_ne (by omega), upd_ne e]; exact T.2.2 p (by omega)
  · rw [r4, upd_ne (by omega)]
    unfold np
    rw [z_ss_same, upd_ne (by omega), z_ss_ne (by decide), z_ss_ne (by decide), z_ss_ne (by decide)]; exact W.1
  · rw [r4, upd_ne (by omega)]
    unfold np
    rw [z_ss_same, upd_ne (by omega), z_ss_ne (by decide), z_ss_ne (by decide), z_ss_ne (by decide)]; exact W.2.1
  · rw [r4, upd_ne (by omega)]; exact W.2.2.1
  · rw [r4, upd_ne (by omega), W.2.2.2.1]
    refine congrArg nI (bs_cong (fun j _ => ?_))
    unfold lyP np
    rw [z_ss_ne (by decide), z_ss_ne (by decide), z_ss_ne (by decide), z_ss_ne (by decide)]
  · rw [r4]
    unfold np
    rw [z_ss_ne (by decide), z_ss_ne (by decide), z_ss_same, z_ss_ne (by decide)]
    by_cases e : p = n
    · rw [e, upd_eq, upd_eq]
    · rw [upd_ne (by omega), upd_ne e]; exact W.2.2.2.2.1 p (by omega)
  · have hc : ∀ x, 7 ≤ x → np h n a b c x = h x := by
      intro x hx
      unfold np
      rw [z_ss_ne (by omega), z_ss_ne (by omega), z_ss_ne (by omega), z_ss_ne (by omega)]
    rw [r4, upd_ne (by omega), upd_ne (by omega), upd_ne (by omega), upd_ne (by omega), hc 7 (by omega), hc 8 (by omega), hc 9 (by omega), hc 11 (by omega)]
    exact W.2.2.2.2.2 g hg
  · rw [r4, upd_ne (by omega)]; exact Z g h1 h2
theorem r_gloveIs {n k : Nat} {h G : z_G} {a b c : Int32} {K : z_G → Prop} (D : RD n k h G) (hk : k < 8) (H' : HN n (k + 1) (ng h k a b c)) (hK : ∀ G', FR G G' → G' 0 = G 0 → RD n (k + 1) (ng h k a b c) G' → K G') : v_X6_gloveIs G a b c K := by
  obtain ⟨H, T, W, Z⟩ := D
  have hn6 := H.1.2.2.1
  unfold v_X6_gloveIs
  rw [zn2, W.2.2.1, zn3]
  refine ⟨vi (a := 2) (by omega) (by omega), ?_⟩
  intro y2 e2
  subst e2
  rw [i10, i18, i26, zi (show 10 + k < 1000 by omega), zi (show 18 + k < 1000 by omega), zi (show 26 + k < 1000 by omega)]
  refine ⟨vi (by omega) (by omega), ?_⟩
  intro h4 e4
  refine ⟨vi (by omega) (by omega), ?_⟩
  intro h6 e6
  refine ⟨vi (by omega) (by omega), ?_⟩
  intro h8 e8
  refine ⟨vi (a := 3) (by omega) (by omega), vi (a := 3) (by omega) (by omega), ?_⟩
  intro h11 e11
  refine ⟨vi (a := 2) (by omega) (by omega), vi (a := 2) (by omega) (by omega), ?_⟩
  intro h14 e14
  have q8 : h8 4 = upd (upd (upd (G 4) (10 + k) a) (18 + k) b) (26 + k) c := by rw [e8, z_ss_same, e6, z_ss_same, e4, z_ss_same]
  have hng : ∀ x j, j ≠ k → 7 ≤ x → ng h k a b c x j = h x j := by
    intro x j hj hx
    unfold ng
    rw [pg_rd, if_neg hj, z_ss_ne (by omega)]
  have eb : nI (bs (lyP h) k) ||| ((1 : Int32) <<< (nI k &&& 31)) = nI (bs (lyP (ng h k a b c)) (k + 1)) := by
    refine bs_add (fun j hj => ?_) (by omega) (by omega) (by omega)
    unfold lyP
    by_cases e : j = k
    · subst e
      rw [ng_rd _ _ _ _ _ _ (by decide)]
      simp
    · rw [hng 10 j e (by decide)]
      have : j < k := by omega
      simp [e, this, hj]
  have q11 : h11 4 = upd (h8 4) 3 (nI (bs (lyP (ng h k a b c)) (k + 1))) := by
    rw [e11, z_ss_same]
    congr 1
    rw [q8, upd_ne (by omega), upd_ne (by omega), upd_ne (by omega), W.2.2.2.1, eb]
  have r4 : h14 4 = upd (upd (upd (upd (upd (G 4) (10 + k) a) (18 + k) b) (26 + k) c) 3 (nI (bs (lyP (ng h k a b c)) (k + 1)))) 2 (nI (k + 1)) := by
    have q2 : h11 4 2 = nI k := by rw [q11, upd_ne (by omega), q8, upd_ne (by omega), upd_ne (by omega), upd_ne (by omega)]; exact W.2.2.1
    rw [e14, z_ss_same, q2, nI_1, q11, q8]
  have oth : ∀ x, x ≠ 4 → h14 x = G x := by
    intro x h4'
    rw [e14, z_ss_ne h4', e11, z_ss_ne h4', e8, z_ss_ne h4', e6, z_ss_ne h4', e4, z_ss_ne h4']
  have hlow : ∀ x, x < 7 → x ≠ 0 → ng h k a b c x = h x := fun x h1 h2 => ng_4 _ _ _ _ _ _ h1 h2
  have h0j : ∀ j, j ≠ 1 → ng h k a b c 0 j = h 0 j := by
    intro j hj
    unfold ng
    rw [pg_0 _ _ _ _ _ _ (by decide), z_ss_same, upd_ne hj]
  refine hK h14 ⟨fun x _ _ x4 _ => oth x x4, fun j _ => by rw [oth 0 (by decide)]⟩ (oth 0 (by decide)) ⟨H', ?_, ⟨?_, ?_, ?_, ?_, fun p hp => ?_, fun g hg => ?_⟩, fun g h1 h2 => ?_⟩
  · rw [oth 3 (by decide)]
    exact TR_cong T (fun p _ => by rw [hlow 4 (by decide) (by decide)]) (fun p _ => by rw [hlow 6 (by decide) (by decide)])
  · rw [r4, upd_ne (by omega), upd_ne (by omega), upd_ne (by omega), upd_ne (by omega), upd_ne (by omega), h0j 2 (by decide)]; exact W.1
  · rw [r4, upd_ne (by omega), upd_ne (by omega), upd_ne (by omega), upd_ne (by omega), upd_ne (by omega), h0j 3 (by decide)]; exact W.2.1
  · rw [r4, upd_eq]
  · rw [r4, upd_ne (by omega), upd_eq]
  · rw [r4, upd_ne (by omega), upd_ne (by omega), upd_ne (by omega), upd_ne (by omega), upd_ne (by omega), hlow 5 (by decide) (by decide)]; exact W.2.2.2.2.1 p hp
  · rw [r4]
    by_cases e : g = k
    · subst e
      refine ⟨?_, ?_, ?_, ?_⟩
      · rw [upd_ne (by omega), upd_ne (by omega), upd_ne (by omega), upd_ne (by omega), upd_eq, ng_rd _ _ _ _ _ _ (by decide)]; rfl
      · rw [upd_ne (by omega), upd_ne (by omega), upd_ne (by omega), upd_eq, ng_rd _ _ _ _ _ _ (by decide)]; rfl
      · rw [upd_ne (by omega), upd_ne (by omega), upd_eq, ng_rd _ _ _ _ _ _ (by decide)]; rfl
      · rw [upd_ne (by omega), upd_ne (by omega), upd_ne (by omega), upd_ne (by omega), upd_ne (by omega), ng_rd _ _ _ _ _ _ (by decide)]
        exact Z g (by omega) (by omega)
    · obtain ⟨b1, b2, b3, b4⟩ := W.2.2.2.2.2 g (by omega)
      rw [hng 7 g e (by decide), hng 8 g e (by decide), hng 9 g e (by decide), hng 11 g e (by decide)]
      refine ⟨?_, ?_, ?_, ?_⟩
      · rw [upd_ne (by omega), upd_ne (by omega), upd_ne (by omega), upd_ne (by omega), upd_ne (by omega)]; exact b1
      · rw [upd_ne (by omega), upd_ne (by omega), upd_ne (by omega), upd_ne (by omega), upd_ne (by omega)]; exact b2
      · rw [upd_ne (by omega), upd_ne (by omega), upd_ne (by omega), upd_ne (by omega), upd_ne (by omega)]; exact b3
      · rw [upd_ne (by omega), upd_ne (by omega), upd_ne (by omega), upd_ne (by omega), upd_ne (by omega)]; exact b4
  · rw [r4, upd_ne (by omega), upd_ne (by omega), upd_ne (by omega), upd_ne (by omega), upd_ne (by omega)]; exact Z g (by omega) h2
theorem it3_nb {L : Nat → Int32} {len q i : Nat} (h : it3 L len q = true) (hi : i < 3) : ∃ a, a ≤ 99 ∧ nb L len q i = nI a := by
  unfold it3 at h
  simp only [Bool.and_eq_true] at h
  unfold nb
  have : i = 0 ∨ i = 1 ∨ i = 2 := by omega
  rcases this with rfl | rfl | rfl
  · exact vl_pos (ok_lt (by decide) h.1).2
  · exact vl_pos (ok_lt (by decide) h.2.1).2
  · exact vl_pos (ok_lt (by decide) h.2.2).2
theorem r_item {G h : z_G} {L : Nat → Int32} {len q n k : Nat} {K : Int32 → z_G → Prop} (e0 : G 0 0 = nI len) (e1 : G 0 13 = nI q) (hl : len ≤ 200) (hq : q < len) (hLt : ∀ j, j < len → G 1 j = L j) (D : RD n k h G) (hB : ik L len n k q = 0 → ∀ G', FR G G' → K 0 G') (hP : ik L len n k q = 1 → ∀ G', FR G G' → G' 0 13 = nI (qs L len (q + 1) 3) → RD (n + 1) k (npq L len q n h) G' → K 1 G') (hG : ik L len n k q = 2 → ∀ G', FR G G' → G' 0 13 = nI (qs L len (q + 1) 3) → RD n (k + 1) (ngq L len q k h) G' → K 1 G') : v_X6_item G K := by
  have D' := D
  obtain ⟨H, T, W, Z⟩ := D'
  have hn6 := H.1.2.2.1
  have hk8 := H.1.2.2.2.1
  unfold v_X6_item
  rw [e1]
  refine r_letterAt e0 hl (by omega) hLt ?_
  intro h2 e2
  rw [nI_1] at e2
  have g0 : h2 0 0 = nI len := by rw [e2, z_ss_same, upd_ne (by decide)]; exact e0
  have g13 : h2 0 13 = nI (q + 1) := by rw [e2, z_ss_same, upd_eq]
  have g1 : ∀ j, j < len → h2 1 j = L j := fun j hj => by rw [e2, z_ss_ne (by decide)]; exact hLt j hj
  have F : ∀ f v, FR G (z_ss (z_sa h2 14 f) 0 13 v) := by
    intro f v
    refine ⟨fun c c0 _ _ c14 => ?_, fun j hj => ?_⟩
    · rw [z_ss_ne c0, z_sa_ne c14, e2, z_ss_ne c0]
    · rw [z_ss_same, upd_ne hj, z_sa_ne (by decide), e2, z_ss_same, upd_ne hj]
  have f3 : ∀ f v, z_ss (z_sa h2 14 f) 0 13 v 3 = G 3 := fun f v => by rw [z_ss_ne (by decide), z_sa_ne (by decide), e2, z_ss_ne (by decide)]
  have f4 : ∀ f v, z_ss (z_sa h2 14 f) 0 13 v 4 = G 4 := fun f v => by rw [z_ss_ne (by decide), z_sa_ne (by decide), e2, z_ss_ne (by decide)]
  have f14 : ∀ f v, z_ss (z_sa h2 14 f) 0 13 v 14 = f := fun f v => by rw [z_ss_ne (by decide), z_sa_same]
  have fD : ∀ f v, RD n k h (z_ss (z_sa h2 14 f) 0 13 v) := fun f v => by
    unfold RD
    rw [f3, f4]; exact D
  refine ⟨fun a => ⟨fun b => ?_, fun b => ?_⟩, fun a => ?_⟩
  · have := F (h2 14) (h2 0 13)
    rw [sa_self, ss_self] at this
    exact hB (by unfold ik; rw [if_neg a, if_neg b]) h2 this
  · refine r_item3 (L := L) (len := len) (q := q + 1) g0 g13 hl (by omega) g1 (fun z f v => ⟨fun _ => hB ?_ _ (F f v), fun w => absurd rfl w⟩) (fun z f n0 n1 n2 => ⟨fun w => absurd w (by decide), fun _ => ?_⟩)
    · unfold ik; rw [if_neg a, if_pos b, z, Bool.false_and, if_neg (by decide)]
    · have bad : okG n k (nb L len (q + 1) 0) (nb L len (q + 1) 1) (nb L len (q + 1) 2) = false → K 0 (z_ss (z_sa h2 14 f) 0 13 (nI (qs L len (q + 1) 3))) := by
        intro w
        refine hB ?_ _ (F f _)
        unfold ik; rw [if_neg a, if_pos b, w, Bool.and_false, if_neg (by decide)]
      rw [f4, f14, f3, zn2, zn0, zn1, W.2.2.1, n0, n1, n2, T.1]
      obtain ⟨a0, ha0, ea0⟩ := it3_nb z (i := 0) (by omega)
      obtain ⟨a2, ha2, ea2⟩ := it3_nb z (i := 2) (by omega)
      refine ⟨vi (a := 2) (by omega) (by omega), fun c => bad ?_, fun c => ⟨vi (a := 0) (by omega) (by omega), fun d => bad ?_, fun d => ⟨vi (a := 1) (by omega) (by omega), s_in (a := 1) (b := 20) rfl rfl rfl (br0 (fun e => bad ?_) (fun e => ⟨vi (a := 2) (by omega) (by omega), vi (a := 0) (by omega) (by omega), fun g => ⟨vi (a := 0) (by omega) (by omega), vi (a := 1) (by omega) (by omega), vi (a := 2) (by omega) (by omega), ?_⟩, fun g => bad ?_⟩))⟩⟩⟩
      · have := (nI_eq (b := 8) (by omega) (by omega)).mp c
        unfold okG; rw [decide_eq_false (by omega)]; rfl
      · unfold okG
        have : wi (nb L len (q + 1) 0) 0 3 = false := decide_eq_false (fun w => Int32.not_le.mpr d w.2)
        rw [this, Bool.false_and, Bool.and_false]
      · unfold okG
        rw [e, Bool.false_and, Bool.and_false, Bool.and_false]
      · have hk : k < 8 := by
          rcases Nat.lt_or_ge k 8 with w | w
          · exact w
          · exact absurd (by rw [show k = 8 by omega]; rfl) c
        have w0 : wi (nb L len (q + 1) 0) 0 3 = true := by
          rw [ea0] at d ⊢
          refine wi_yes (a := 0) (m := 3) (by omega) ?_ (by omega)
          rcases Nat.lt_or_ge 3 a0 with w | w
          · exact absurd (nI_lt (a := 3) w (by omega)) d
          · exact w
        have w2 : wi (nb L len (q + 1) 2) 0 (nI n - 1) = true := by
          rw [ea2] at g ⊢
          exact (wi_nI (by omega)).mpr ⟨a2, (nI_ltI (by omega) (by omega)).mp g, rfl⟩
        have hik : ik L len n k q = 2 := by
          unfold ik okG
          rw [if_neg a, if_pos b, z, decide_eq_true hk, w0, e, w2, if_pos (by decide)]
        refine r_gloveIs (fD f _) hk (ok_ng H hik).1 (fun G' F' z0 D2 => hG hik G' (FR_tr (F f _) F') ?_ D2)
        rw [z0, z_ss_same, upd_eq]
      · unfold okG
        have : wi (nb L len (q + 1) 2) 0 (nI n - 1) = false := by
          cases hw : wi (nb L len (q + 1) 2) 0 (nI n - 1)
          · rfl
          · obtain ⟨p, hp, ep⟩ := (wi_nI (by omega)).mp hw
            exact absurd (by rw [ep]; exact nI_lt hp (by omega)) g
        rw [this, Bool.and_false, Bool.and_false, Bool.and_false]
  · refine r_item3 (L := L) (len := len) (q := q + 1) g0 g13 hl (by omega) g1 (fun z f v => ⟨fun _ => hB ?_ _ (F f v), fun w => absurd rfl w⟩) (fun z f n0 n1 n2 => ⟨fun w => absurd w (by decide), fun _ => ?_⟩)
    · unfold ik; rw [if_pos a, z, Bool.false_and, if_neg (by decide)]
    · have bad : okP n (nb L len (q + 1) 0) (nb L len (q + 1) 1) (nb L len (q + 1) 2) = false → K 0 (z_ss (z_sa h2 14 f) 0 13 (nI (qs L len (q + 1) 3))) := by
        intro w
        refine hB ?_ _ (F f _)
        unfold ik; rw [if_pos a, w, Bool.and_false, if_neg (by decide)]
      rw [f14, f3, zn2, zn0, zn1, n0, n1, n2, T.1]
      obtain ⟨a2, ha2, ea2⟩ := it3_nb z (i := 2) (by omega)
      refine ⟨vi (a := 0) (by omega) (by omega), fun c => bad ?_, fun c => ⟨vi (a := 0) (by omega) (by omega), s_in (a := 1) (b := 20) rfl rfl rfl (br0 (fun d => bad ?_) (fun d => ⟨vi (a := 1) (by omega) (by omega), s_in (a := 1) (b := 40) rfl rfl rfl (br0 (fun e => bad ?_) (fun e => ⟨vi (a := 2) (by omega) (by omega), fun g => ⟨vi (a := 0) (by omega) (by omega), vi (a := 1) (by omega) (by omega), vi (a := 2) (by omega) (by omega), ?_⟩, fun g => bad ?_⟩))⟩))⟩⟩
      · have := (nI_eq (b := 6) (by omega) (by omega)).mp c
        unfold okP; rw [decide_eq_false (by omega)]; rfl
      · unfold okP; rw [d, Bool.false_and, Bool.and_false]
      · unfold okP; rw [e, Bool.false_and, Bool.and_false, Bool.and_false]
      · have hn : n < 6 := by
          rcases Nat.lt_or_ge n 6 with w | w
          · exact w
          · exact absurd (by rw [show n = 6 by omega]; rfl) c
        have w2 : wi (nb L len (q + 1) 2) 0 1 = true := by
          rw [ea2] at g ⊢
          exact wi_yes (a := 0) (m := 1) (by omega) ((nI_leI (b := 1) (by omega) (by omega)).mp g) (by omega)
        have hik : ik L len n k q = 1 := by
          unfold ik okP
          rw [if_pos a, z, decide_eq_true hn, d, e, w2, if_pos (by decide)]
        refine r_personIs (fD f _) hn (ok_np H hik).1 (fun G' F' z0 D2 => hP hik G' (FR_tr (F f _) F') ?_ D2)
        rw [z0, z_ss_same, upd_eq]
      · unfold okP
        have : wi (nb L len (q + 1) 2) 0 1 = false := decide_eq_false (fun w => g w.2)
        rw [this, Bool.and_false, Bool.and_false, Bool.and_false]
