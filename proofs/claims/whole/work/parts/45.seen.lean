/-! ===== PURE: sightings ===== -/
def alF (P : Nat → Bool) : Nat → Bool
  | 0 => true
  | i + 1 => alF P i && P i
theorem alF_no {P : Nat → Bool} {i : Nat} (h : P i = false) : ∀ s, i < s → alF P s = false
  | 0, hs => by omega
  | s + 1, hs => by
    unfold alF
    by_cases e : i = s
    · subst e; rw [h, Bool.and_false]
    · rw [alF_no h s (by omega)]; rfl
theorem alF_cong {P Q : Nat → Bool} : ∀ {s : Nat}, (∀ i, i < s → P i = Q i) → alF P s = alF Q s
  | 0, _ => rfl
  | s + 1, h => by
    unfold alF
    rw [alF_cong (fun i hi => h i (by omega)), h s (by omega)]
def hP (X : z_X) (k : Nat) (x d : Int32) (i : Nat) : Bool := !(decide (X 16 2 i = x) && wi (X 16 1 i) 0 (nI k - 1)) || (lk (X 0 7 (z_n (X 16 1 i))) (szn (X 0 7 (z_n (X 16 1 i))) (X 0 8 (z_n (X 16 1 i))) (X 0 11 (z_n (X 16 1 i)))) d == decide (X 16 3 i = 1))
def gP (X : z_X) (x a s : Int32) (i : Nat) : Bool := !(decide (X 16 1 i = x)) || (lk a (szn a s (X 0 11 (z_n x))) (X 0 4 (z_n (X 16 2 i))) == decide (X 16 3 i = 1))
theorem s_allowHand {X : z_X} {n k s : Nat} {x d : Int32} {K : Int32 → Prop} (H : HI n k (X 0)) (hs : s ≤ 6) (e0 : X 16 0 0 = nI s) (hg : ∀ i, i < s → ∃ g, g < 8 ∧ X 16 1 i = nI g) (hK : K (bI (alF (hP X k x d) s))) : v_X4_allowHand 0 X x d K := by
  have hk8 := H.2.2.2.1
  unfold v_X4_allowHand v_X4_allowHand_b3
  refine z_for s (fun i q => q = (x, d, nI i) ∧ alF (hP X k x d) i = true) ?_ (Nat.zero_le s) ⟨rfl, rfl⟩
  rintro i ⟨x1, x2, x3⟩ hi ⟨e, ha⟩ Lp hL
  obtain ⟨rfl, e2⟩ := Prod.mk.inj e
  obtain ⟨rfl, rfl⟩ := Prod.mk.inj e2
  show v_X4_allowHand_b3_s 0 X K _ x1 x2 (nI i)
  unfold v_X4_allowHand_b3_s
  rw [e0]
  refine ⟨fun c => ?_, fun c => ?_⟩
  · have : i = s := by have := (nI_leI (by omega) (by omega)).mp c; omega
    subst this
    rw [ha] at hK
    exact hK
  · have hlt : i < s := by
      rcases Nat.lt_or_ge i s with q | q
      · exact q
      · exact absurd (nI_le q (by omega)) c
    obtain ⟨g, hg8, eg⟩ := hg i hlt
    have go : hP X k x1 x2 i = true → ∀ y : Int32, y = nI i + 1 → Lp (x1, x2, y) := by
      intro h y ey
      refine hL _ hlt ⟨by rw [ey, nI_1], ?_⟩
      show (alF (hP X k x1 x2) i && hP X k x1 x2 i) = true
      rw [ha, h]; rfl
    have stop : hP X k x1 x2 i = false → K 0 := by
      intro h
      rw [alF_no h s hlt] at hK
      exact hK
    refine ⟨vi (by omega) (by omega), ?_⟩
    intro y3 e3
    rw [zi (show i < 1000 by omega)] at e3
    rw [zi (show i < 1000 by omega)]
    refine ⟨vi (by omega) (by omega), fun q => go ?_, fun q => ?_⟩
    · unfold hP
      rw [decide_eq_false q]; rfl
    · refine c_isGlove H.2.1 (br1 (fun w => ?_) (fun w => go ?_))
      · rw [e3, eg, zi (show g < 1000 by omega)]
        refine ⟨vi (by omega) (by omega), vi (by omega) (by omega), vi (by omega) (by omega), s_sizeByNow ⟨vi (by omega) (by omega), s_isAsLarge ⟨vi (by omega) (by omega), ?_⟩⟩⟩
        have eh : hP X k x1 x2 i = (lk (X 0 7 g) (szn (X 0 7 g) (X 0 8 g) (X 0 11 g)) x2 == decide (X 16 3 i = 1)) := by
          unfold hP
          rw [decide_eq_true q, ← e3, w, e3, eg, zi (show g < 1000 by omega)]; rfl
        unfold v_X4_allowHand_b99
        refine ⟨fun f => ⟨fun z => go ?_, fun z => stop ?_⟩, fun f => ⟨fun z => go ?_, fun z => stop ?_⟩⟩
        · rw [eh, decide_eq_false f, (bI_0 _).mp z]; rfl
        · rw [eh, decide_eq_false f]
          cases hl : lk (X 0 7 g) (szn (X 0 7 g) (X 0 8 g) (X 0 11 g)) x2
          · exact absurd (by rw [hl]; rfl) z
          · rfl
        · rw [eh, decide_eq_true f, (bI_1 _).mp z]; rfl
        · rw [eh, decide_eq_true f]
          cases hl : lk (X 0 7 g) (szn (X 0 7 g) (X 0 8 g) (X 0 11 g)) x2
          · rfl
          · exact absurd (by rw [hl]; rfl) z
      · unfold hP
        rw [← e3, w, Bool.and_false]; rfl
theorem s_allowGlove {X : z_X} {n k s gx : Nat} {a z : Int32} {K : Int32 → Prop} (H : HI n k (X 0)) (hs : s ≤ 6) (e0 : X 16 0 0 = nI s) (hx : gx < 8) (hg : ∀ i, i < s → ∃ p, p < n ∧ X 16 2 i = nI p) (hK : K (bI (alF (gP X (nI gx) a z) s))) : v_X4_allowGlove 0 X (nI gx) a z K := by
  have hn6 := H.2.2.1
  unfold v_X4_allowGlove v_X4_allowGlove_b3
  refine z_for s (fun i q => q = (nI gx, a, z, nI i) ∧ alF (gP X (nI gx) a z) i = true) ?_ (Nat.zero_le s) ⟨rfl, rfl⟩
  rintro i ⟨x1, x2, x3, x4⟩ hi ⟨e, ha⟩ Lp hL
  obtain ⟨rfl, e2⟩ := Prod.mk.inj e
  obtain ⟨rfl, e3⟩ := Prod.mk.inj e2
  obtain ⟨rfl, rfl⟩ := Prod.mk.inj e3
  show v_X4_allowGlove_b3_s 0 X K _ (nI gx) x2 x3 (nI i)
  unfold v_X4_allowGlove_b3_s
  rw [e0]
  refine ⟨fun c => ?_, fun c => ?_⟩
  · have : i = s := by have := (nI_leI (by omega) (by omega)).mp c; omega
    subst this
    rw [ha] at hK
    exact hK
  · have hlt : i < s := by
      rcases Nat.lt_or_ge i s with q | q
      · exact q
      · exact absurd (nI_le q (by omega)) c
    obtain ⟨p, hp, ep⟩ := hg i hlt
    have go : gP X (nI gx) x2 x3 i = true → ∀ y : Int32, y = nI i + 1 → Lp (nI gx, x2, x3, y) := by
      intro h y ey
      refine hL _ hlt ⟨by rw [ey, nI_1], ?_⟩
      show (alF (gP X (nI gx) x2 x3) i && gP X (nI gx) x2 x3 i) = true
      rw [ha, h]; rfl
    have stop : gP X (nI gx) x2 x3 i = false → K 0 := by
      intro h
      rw [alF_no h s hlt] at hK
      exact hK
    refine ⟨vi (by omega) (by omega), ?_⟩
    intro y3 e3
    rw [zi (show i < 1000 by omega)] at e3
    rw [zi (show i < 1000 by omega)]
    refine ⟨vi (by omega) (by omega), fun q => go ?_, fun q => ?_⟩
    · unfold gP
      rw [decide_eq_false q]; rfl
    · refine c_isPerson H.1 (br1 (fun w => ?_) (fun w => ?_))
      · rw [e3, ep, zi (show p < 1000 by omega)]
        refine ⟨vi (by omega) (by omega), s_sizeByNow ⟨vi (by omega) (by omega), s_isAsLarge ⟨vi (by omega) (by omega), ?_⟩⟩⟩
        have eh : gP X (nI gx) x2 x3 i = (lk x2 (szn x2 x3 (X 0 11 (z_n (nI gx)))) (X 0 4 p) == decide (X 16 3 i = 1)) := by
          unfold gP
          rw [decide_eq_true q, ep, zi (show p < 1000 by omega)]; rfl
        unfold v_X4_allowGlove_b87
        refine ⟨fun f => ⟨fun z => go ?_, fun z => stop ?_⟩, fun f => ⟨fun z => go ?_, fun z => stop ?_⟩⟩
        · rw [eh, decide_eq_false f, (bI_0 _).mp z]; rfl
        · rw [eh, decide_eq_false f]
          cases hl : lk x2 (szn x2 x3 (X 0 11 (z_n (nI gx)))) (X 0 4 p)
          · exact absurd (by rw [hl]; rfl) z
          · rfl
        · rw [eh, decide_eq_true f, (bI_1 _).mp z]; rfl
        · rw [eh, decide_eq_true f]
          cases hl : lk x2 (szn x2 x3 (X 0 11 (z_n (nI gx)))) (X 0 4 p)
          · rfl
          · exact absurd (by rw [hl]; rfl) z
      · have : wi y3 0 (nI n - 1) = true := (wi_nI (by omega)).mpr ⟨p, hp, by rw [e3, ep]⟩
        exact bx this w
/-- what the reference asks of one sighting -/
def qR (G : z_G) (k : Nat) (x1 x3 : Int32) (i : Nat) : Bool := decide (z_n (G 11 (3 * i)) < k) && (decide (G 11 (3 * i + 1) = x1) || decide (G 11 (3 * i) = x3))
def qK (G : z_G) (x3 x4 : Int32) (g : Nat) : Int32 := if x3 = -4 then G 5 (10 + g) else x4
def qS (G : z_G) (x3 x5 : Int32) (g : Nat) : Int32 := if x3 = -4 then G 5 (18 + g) else x5
def qH (G : z_G) (x1 x2 : Int32) (p : Nat) : Int32 := if x1 = -4 then G 2 (1 + p) else x2
def qP (G : z_G) (k : Nat) (x1 x2 x3 x4 x5 : Int32) (i : Nat) : Bool := !(qR G k x1 x3 i) || (lk (qK G x3 x4 (z_n (G 11 (3 * i)))) (szn (qK G x3 x4 (z_n (G 11 (3 * i)))) (qS G x3 x5 (z_n (G 11 (3 * i)))) (G 5 (34 + z_n (G 11 (3 * i))))) (qH G x1 x2 (z_n (G 11 (3 * i + 1)))) == decide (G 11 (3 * i + 2) = 1))
theorem r_isSeen {G : z_G} {k s : Nat} {x1 x2 x3 x4 x5 : Int32} {K : Int32 → Prop} (hk : G 5 2 = nI k) (hk8 : k ≤ 8) (hs : s ≤ 6) (e0 : G 0 12 = nI s) (hg : ∀ i, i < s → ∃ g p, g < 8 ∧ p < 6 ∧ G 11 (3 * i) = nI g ∧ G 11 (3 * i + 1) = nI p) (hK : K (bI (alF (qP G k x1 x2 x3 x4 x5) s))) : v_X6_isSeen G x1 x2 x3 x4 x5 K := by
  unfold v_X6_isSeen v_X6_isSeen_b6
  refine z_for s (fun i q => q = (x1, x2, x3, x4, x5, bI (alF (qP G k x1 x2 x3 x4 x5) i), nI i)) ?_ (Nat.zero_le s) rfl
  rintro i ⟨y1, y2, y3, y4, y5, y6, y7⟩ hi e Lp hL
  obtain ⟨rfl, e2⟩ := Prod.mk.inj e
  obtain ⟨rfl, e3⟩ := Prod.mk.inj e2
  obtain ⟨rfl, e4⟩ := Prod.mk.inj e3
  obtain ⟨rfl, e5⟩ := Prod.mk.inj e4
  obtain ⟨rfl, e6⟩ := Prod.mk.inj e5
  obtain ⟨rfl, rfl⟩ := Prod.mk.inj e6
  show v_X6_isSeen_b6_s G K _ y1 y2 y3 y4 y5 (bI (alF (qP G k y1 y2 y3 y4 y5) i)) (nI i)
  unfold v_X6_isSeen_b6_s
  rw [e0]
  refine ⟨fun c => ?_, fun c => ?_⟩
  · have : i = s := by have := (nI_leI (by omega) (by omega)).mp c; omega
    subst this
    exact ⟨bI_b _, hK⟩
  · have hlt : i < s := by
      rcases Nat.lt_or_ge i s with q | q
      · exact q
      · exact absurd (nI_le q (by omega)) c
    obtain ⟨g, p, hg8, hp6, eg, ep⟩ := hg i hlt
    have go : ∀ b : Bool, b = (alF (qP G k y1 y2 y3 y4 y5) i && qP G k y1 y2 y3 y4 y5 i) → ∀ y : Int32, y = nI i + 1 → Lp (y1, y2, y3, y4, y5, bI b, y) := by
      intro b hb y ey
      refine hL _ hlt ?_
      rw [ey, nI_1, hb]; rfl
    have m0 : (3 : Int32) * nI i = nI (3 * i) := by rw [show (3 : Int32) = nI 3 from rfl, pk_mul]
    have m2 : (3 : Int32) * nI i + 2 = nI (3 * i + 2) := by rw [m0, show (2 : Int32) = nI 2 from rfl, nI_add]
    have m1' : (3 : Int32) * nI i + 1 = nI (3 * i + 1) := by rw [m0, nI_1]
    -- the end of one sighting
    have fin : ∀ (x9 : Bool) (t : Bool), x9 = qR G k y1 y3 i → (x9 = true → t = lk (qK G y3 y4 g) (szn (qK G y3 y4 g) (qS G y3 y5 g) (G 5 (34 + g))) (qH G y1 y2 p)) → v_X6_isSeen_b165 G K (fun x1 x2 x3 x4 x5 x6 x7 => Lp (x1, x2, x3, x4, x5, x6, x7)) y1 y2 y3 y4 y5 (bI (alF (qP G k y1 y2 y3 y4 y5) i)) (nI i) (bI x9) (bI t) := by
      intro x9 t h9 ht
      unfold v_X6_isSeen_b165 v_X6_isSeen_b199
      rw [m2, zi (show 3 * i + 2 < 1000 by omega)]
      have eq : qP G k y1 y2 y3 y4 y5 i = (!x9 || (t == decide (G 11 (3 * i + 2) = 1))) := by
        unfold qP
        rw [← h9, eg, ep, zi (show g < 1000 by omega), zi (show p < 1000 by omega)]
        cases x9
        · rfl
        · rw [← ht rfl]
      refine br0 (fun a => go false (by rw [a]; rfl)) (fun a => br0 (fun b => go true (by rw [a, eq, b]; rfl)) (fun b => ⟨vi (by omega) (by omega), fun f => ⟨fun z => go false ?_, fun z => go true ?_⟩, fun f => ⟨fun z => go false ?_, fun z => go true ?_⟩⟩))
      · rw [a, eq, b, decide_eq_false f]
        cases t
        · exact absurd rfl z
        · rfl
      · rw [a, eq, b, decide_eq_false f, (bI_0 _).mp z]; rfl
      · rw [a, eq, b, decide_eq_true f]
        cases t
        · rfl
        · exact absurd rfl z
      · rw [a, eq, b, decide_eq_true f, (bI_1 _).mp z]; rfl
    have mid : ∀ (x9 : Bool), x9 = qR G k y1 y3 i → v_X6_isSeen_b63 G K (fun x1 x2 x3 x4 x5 x6 x7 => Lp (x1, x2, x3, x4, x5, x6, x7)) y1 y2 y3 y4 y5 (bI (alF (qP G k y1 y2 y3 y4 y5) i)) (nI i) (nI g) (bI x9) := by
      intro x9 h9
      have b93 : v_X6_isSeen_b93 G K (fun x1 x2 x3 x4 x5 x6 x7 => Lp (x1, x2, x3, x4, x5, x6, x7)) y1 y2 y3 y4 y5 (bI (alF (qP G k y1 y2 y3 y4 y5) i)) (nI i) (nI g) (bI x9) (qH G y1 y2 p) := by
        unfold v_X6_isSeen_b93
        refine br0 (fun a => ?_) (fun a => ?_)
        · unfold v_X6_isSeen_b164
          exact fin x9 false h9 (fun q => bx q a)
        · have b144 : v_X6_isSeen_b144 G K (fun x1 x2 x3 x4 x5 x6 x7 => Lp (x1, x2, x3, x4, x5, x6, x7)) y1 y2 y3 y4 y5 (bI (alF (qP G k y1 y2 y3 y4 y5) i)) (nI i) (nI g) (bI x9) (qH G y1 y2 p) (qK G y3 y4 g) (qS G y3 y5 g) := by
            unfold v_X6_isSeen_b144
            rw [i34, zi (show 34 + g < 1000 by omega)]
            refine ⟨vi (by omega) (by omega), s_isLike (br0 (fun b => ?_) (fun b => ?_))⟩
            · unfold v_X6_isSeen_b164
              exact fin x9 false h9 (fun _ => b.symm)
            · exact fin x9 true h9 (fun _ => b.symm)
          unfold v_X6_isSeen_b123
          rw [i10, i18, zi (show 10 + g < 1000 by omega), zi (show 18 + g < 1000 by omega)]
          unfold qK qS at b144
          refine ⟨fun b => ⟨fun _ => ?_, fun q => absurd q b⟩, fun b => ⟨vi (by omega) (by omega), fun q => absurd b q, fun _ => ⟨vi (by omega) (by omega), ?_⟩⟩⟩
          · rw [if_neg b, if_neg b] at b144; exact b144
          · rw [if_pos b, if_pos b] at b144; exact b144
      unfold v_X6_isSeen_b63
      rw [m1', zi (show 3 * i + 1 < 1000 by omega), ep, i1, zi (show 1 + p < 1000 by omega)]
      unfold qH at b93
      refine ⟨fun b => ?_, fun b => ⟨vi (by omega) (by omega), vi (by omega) (by omega), ?_⟩⟩
      · rw [if_neg b] at b93; exact b93
      · rw [if_pos b] at b93; exact b93
    rw [m1', m0, zi (show 3 * i < 1000 by omega), zi (show 3 * i + 1 < 1000 by omega), zn2, hk]
    refine ⟨vi (by omega) (by omega), ?_⟩
    intro y e
    rw [eg] at e
    subst e
    have er : qR G k y1 y3 i = (decide (g < k) && (decide (G 11 (3 * i + 1) = y1) || decide (nI g = y3))) := by
      unfold qR
      rw [eg, zi (show g < 1000 by omega)]
    refine ⟨vi (a := 2) (by omega) (by omega), fun a => ?_, fun a => ⟨vi (by omega) (by omega), fun b => ?_, fun b => ⟨fun d => ?_, fun d => ?_⟩⟩⟩
    · have : ¬ g < k := by have := (nI_leI (by omega) (by omega)).mp a; omega
      unfold v_X6_isSeen_b62
      exact mid false (by rw [er, decide_eq_false this]; rfl)
    · have hgk : g < k := by
        rcases Nat.lt_or_ge g k with q | q
        · exact q
        · exact absurd (nI_le q (by omega)) a
      unfold v_X6_isSeen_b58
      exact mid true (by rw [er, decide_eq_true hgk, decide_eq_true b]; rfl)
    · unfold v_X6_isSeen_b62
      exact mid false (by rw [er, decide_eq_false b, decide_eq_false d, Bool.or_false, Bool.and_false])
    · have hgk : g < k := by
        rcases Nat.lt_or_ge g k with q | q
        · exact q
        · exact absurd (nI_le q (by omega)) a
      unfold v_X6_isSeen_b58
      exact mid true (by rw [er, decide_eq_true hgk, decide_eq_true d, Bool.or_true]; rfl)
