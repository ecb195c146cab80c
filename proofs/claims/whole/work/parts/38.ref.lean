/-! ===== PURE: the reference's rows ===== -/
theorem i1 (p : Nat) : (1 : Int32) + nI p = nI (1 + p) := nI_add 1 p
theorem i4 (p : Nat) : (4 : Int32) + nI p = nI (4 + p) := nI_add 4 p
theorem i7 (p : Nat) : (7 : Int32) + nI p = nI (7 + p) := nI_add 7 p
theorem i10 (p : Nat) : (10 : Int32) + nI p = nI (10 + p) := nI_add 10 p
theorem i18 (p : Nat) : (18 : Int32) + nI p = nI (18 + p) := nI_add 18 p
theorem i26 (p : Nat) : (26 : Int32) + nI p = nI (26 + p) := nI_add 26 p
theorem i34 (p : Nat) : (34 : Int32) + nI p = nI (34 + p) := nI_add 34 p
theorem zn0 : z_n (0 : Int32) = 0 := rfl
theorem zn1 : z_n (1 : Int32) = 1 := rfl
theorem zn2 : z_n (2 : Int32) = 2 := rfl
theorem zn3 : z_n (3 : Int32) = 3 := rfl
theorem vi {a m : Nat} (h : a < m) (hm : m < 1000) : vp_in (nI a) m := vp_in_nI h (by omega)
theorem zi {a : Nat} (h : a < 1000) : z_n (nI a) = a := z_n_nI (by omega)
/-- a row tells a hall -/
def RR (n k : Nat) (h : z_G) (r : Nat → Int32) : Prop := r 0 = h 0 2 ∧ r 1 = h 0 3 ∧ r 2 = nI k ∧ r 3 = nI (bs (lyP h) k) ∧ (∀ p, p < n → r (4 + p) = h 5 p) ∧ ∀ g, g < k → r (10 + g) = h 7 g ∧ r (18 + g) = h 8 g ∧ r (26 + g) = h 9 g ∧ r (34 + g) = h 11 g
/-- people as they are told -/
def TR (n : Nat) (h : z_G) (t : Nat → Int32) : Prop := t 0 = nI n ∧ (∀ p, p < n → t (1 + p) = h 4 p) ∧ ∀ p, p < n → t (7 + p) = h 6 p
theorem RR_cong {n k : Nat} {h : z_G} {r r' : Nat → Int32} (hn : n ≤ 6) (hk : k ≤ 8) (R : RR n k h r) (e : ∀ j, j < 42 → r' j = r j) : RR n k h r' := by
  obtain ⟨r0, r1, r2, r3, r4, r5⟩ := R
  refine ⟨by rw [e 0 (by omega)]; exact r0, by rw [e 1 (by omega)]; exact r1, by rw [e 2 (by omega)]; exact r2, by rw [e 3 (by omega)]; exact r3, fun p hp => by rw [e _ (by omega)]; exact r4 p hp, fun g hg => ?_⟩
  rw [e _ (by omega), e _ (by omega), e _ (by omega), e _ (by omega)]
  exact r5 g hg
theorem TR_cong {n : Nat} {h h' : z_G} {t : Nat → Int32} (T : TR n h t) (e4 : ∀ p, p < n → h' 4 p = h 4 p) (e6 : ∀ p, p < n → h' 6 p = h 6 p) : TR n h' t :=
  ⟨T.1, fun p hp => by rw [e4 p hp]; exact T.2.1 p hp, fun p hp => by rw [e6 p hp]; exact T.2.2 p hp⟩
theorem s_has {b g : Nat} {K : Int32 → Prop} (hb : b < 2 ^ 31) (hg : g < 31) (hK : K (bI (b.testBit g))) : v_X6_has (nI b) (nI g) K := by
  unfold v_X6_has
  rw [bit_nI hb hg]
  exact ⟨fun c => kF hK (by simpa using c), fun c => kT hK c⟩
theorem s_isLike14 {a d t : Int32} {K : Int32 → Prop} (hK : K (bI (lk a t d))) : v_X6_isLike_b14 K d a t := by
  unfold v_X6_isLike_b14 v_X6_isLike_b35
  unfold lk at hK
  refine ⟨fun c => kT hK ?_, fun c => ⟨fun e => ⟨fun f => ?_, fun f => ?_⟩, fun e => ⟨fun f => ?_, fun f => ⟨fun u => ?_, fun u => ⟨fun v => ?_, fun v => ?_⟩⟩⟩⟩⟩
  · split <;> simp [c]
  · rw [if_pos e] at hK; exact kF hK (by simp [c])
  · rw [f] at e; exact absurd e (by decide)
  · rw [if_neg e] at hK; exact kT hK (by simp [f])
  · rw [if_neg e] at hK; exact kF hK (by simp [c, f, u])
  · rw [if_neg e] at hK; exact kF hK (by simp [c, f, v])
  · rw [if_neg e] at hK; exact kT hK (by simp [u, v])
theorem s_isLike {a s l d : Int32} {K : Int32 → Prop} (hK : K (bI (lk a (szn a s l) d))) : v_X6_isLike d a s l K := by
  unfold v_X6_isLike
  unfold szn at hK
  refine ⟨fun c => ?_, fun c => ?_⟩
  · rw [if_neg c] at hK; exact s_isLike14 hK
  · rw [if_pos c] at hK; exact s_isLike14 hK
theorem bs_256 {n k : Nat} {h : z_G} (H : HI n k h) : bs (lyP h) k < 256 := Nat.lt_of_lt_of_le (bs_lt _ k) (pow8 (Nat.le_refl k) H.2.2.2.1)
/-- a glove fits, as the reference asks it: any of 8 -/
def cn8 (k : Nat) (h : z_G) (p g : Nat) : Bool := decide (g < k) && can h p g
theorem r_isFit {n k g p : Nat} {h G : z_G} {K : Int32 → Prop} (H : HI n k h) (T : TR n h (G 2)) (R : RR n k h (G 6)) (hg : g < 8) (hp : p < n) (hK : K (bI (cn8 k h p g))) : v_X6_isFit G (nI g) (nI p) K := by
  obtain ⟨r0, r1, r2, r3, r4, r5⟩ := R
  have hn6 := H.2.2.1
  have hb := bs_256 H
  unfold v_X6_isFit
  rw [i4, i26, i1, i10, i18, i34, zn3, r3, zi (show 4 + p < 1000 by omega), zi (show 26 + g < 1000 by omega), zi (show 1 + p < 1000 by omega), zi (show 10 + g < 1000 by omega), zi (show 18 + g < 1000 by omega), zi (show 34 + g < 1000 by omega), r4 p hp, T.2.1 p hp]
  refine ⟨vi (a := 3) (by omega) (by omega), s_has (by omega) (by omega) ?_⟩
  rw [bs_bit]
  refine br0 (fun w => kF hK ?_) (fun w => ?_)
  · unfold cn8 can
    cases h1 : decide (g < k)
    · rfl
    · rw [h1, Bool.true_and] at w
      unfold lyP at w
      rw [w]; rfl
  · rw [Bool.and_eq_true] at w
    have hgk := of_decide_eq_true w.1
    have h10 := of_decide_eq_true w.2
    obtain ⟨a1, a2, a3, a4⟩ := r5 g hgk
    rw [a1, a2, a3, a4]
    refine ⟨vi (by omega) (by omega), fun c => kF hK ?_, fun c => ⟨vi (by omega) (by omega), fun d => kF hK ?_, fun d => ⟨vi (by omega) (by omega), vi (by omega) (by omega), vi (by omega) (by omega), vi (by omega) (by omega), s_isLike (br0 (fun z => kF hK ?_) (fun z => kT hK ?_))⟩⟩⟩
    · have : ¬ 0 < h 5 p := Int32.not_lt.mpr c
      simp [cn8, can, this]
    · simp [cn8, can, d]
    · simp [cn8, can, z]
    · have : 0 < h 5 p := Int32.not_le.mp c
      simp [cn8, can, hgk, h10, d, this, z]
theorem low_8 {n k p : Nat} {h : z_G} (H : HI n k h) : loF (cn8 k h p) 0 8 = low h p k := by
  have hk := H.2.2.2.1
  have e1 : loF (cn8 k h p) 0 (k + (8 - k)) = loF (cn8 k h p) 0 k := loF_more (fun g h1 h2 => by
    have : ¬ g < k := by omega
    simp [cn8, this])
  rw [show k + (8 - k) = 8 by omega] at e1
  rw [e1]
  unfold low
  exact loF_cong (fun g h1 h2 => by
    have : g < k := by omega
    simp [cn8, this])
theorem m1 (a : Int32) : a + (-1 : Int32) = a - 1 := by grind
theorem r_lowestFit {n k p : Nat} {h G : z_G} {K : Int32 → Prop} (H : HI n k h) (T : TR n h (G 2)) (R : RR n k h (G 6)) (hp : p < n) (hK : K (low h p k)) : v_X6_lowestFit G (nI p) K := by
  unfold v_X6_lowestFit v_X6_lowestFit_b6
  refine z_for 8 (fun i q => q = (nI p, loF (cn8 k h p) (8 - i) i, nI (8 - i) - 1)) ?_ (Nat.zero_le 8) rfl
  rintro i ⟨x1, x2, x3⟩ hi e Lp hL
  obtain ⟨rfl, e2⟩ := Prod.mk.inj e
  obtain ⟨rfl, rfl⟩ := Prod.mk.inj e2
  show v_X6_lowestFit_b6_s G K _ (nI p) (loF (cn8 k h p) (8 - i) i) (nI (8 - i) - 1)
  unfold v_X6_lowestFit_b6_s
  refine ⟨fun c => ?_, fun c => ?_⟩
  · have : i = 8 := by
      rcases Nat.lt_or_ge i 8 with q | q
      · rw [show 8 - i = (7 - i) + 1 by omega, nI_pred] at c
        exact absurd c (nI_pos (by omega))
      · omega
    subst this
    rw [Nat.sub_self, low_8 H]
    exact hK
  · have hlt : i < 8 := by
      rcases Nat.lt_or_ge i 8 with q | q
      · exact q
      · rw [show 8 - i = 0 by omega] at c
        exact absurd (by decide) c
    have ex : nI (8 - i) - 1 = nI (7 - i) := by rw [show 8 - i = (7 - i) + 1 by omega, nI_pred]
    have es : loF (cn8 k h p) (8 - (i + 1)) (i + 1) = if cn8 k h p (7 - i) then nI (7 - i) else loF (cn8 k h p) (8 - i) i := by
      rw [show 8 - (i + 1) = 7 - i by omega, loF_s, show 7 - i + 1 = 8 - i by omega]
    rw [ex]
    refine r_isFit H T R (by omega) hp (br0 (fun w => ?_) (fun w => ?_))
    · intro y ey
      refine hL (_, _, _) hlt ?_
      rw [es, w, ey, m1, show 8 - (i + 1) = 7 - i by omega]
      rfl
    · intro y ey
      refine hL (_, _, _) hlt ?_
      rw [es, w, ey, m1, show 8 - (i + 1) = 7 - i by omega]
      rfl
theorem s_left {a b : Int32} {K : Int32 → Prop} (hn : ¬ a ≤ b) (hK : K (mbf a b)) : v_X6_left a b K := by
  unfold v_X6_left
  unfold mbf at hK
  rw [if_neg hn] at hK
  intro y ey
  subst ey
  refine ⟨fun c => ?_, fun c => ?_⟩
  · by_cases h1 : 1 < a - b / 2
    · rw [if_pos h1] at hK; exact hK
    · rw [if_neg h1] at hK
      have : a - b / 2 = 1 := Int32.le_antisymm (Int32.not_lt.mp h1) c
      rw [this]; exact hK
  · rw [if_neg (fun q => c (Int32.le_of_lt q))] at hK
    exact hK
theorem andn {x y z : Nat} (hz : ∀ j, j < 32 → z.testBit j = (x.testBit j && !y.testBit j)) : nI x &&& (nI y ^^^ (-1 : Int32)) = nI z := by
  apply Int32.toBitVec_inj.1
  show BitVec.ofNat 32 x &&& (BitVec.ofNat 32 y ^^^ (-1#32)) = BitVec.ofNat 32 z
  apply BitVec.eq_of_getLsbD_eq
  intro i hi
  have e : (-1#32).getLsbD i = true := by
    have : (-1#32) = BitVec.allOnes 32 := by decide
    rw [this, BitVec.getLsbD_allOnes]
    simpa using hi
  rw [BitVec.getLsbD_and, BitVec.getLsbD_xor, e, BitVec.getLsbD_ofNat, BitVec.getLsbD_ofNat, BitVec.getLsbD_ofNat, hz i hi]
  simp only [hi, decide_true, Bool.true_and, Bool.xor_true]
theorem sa_sa (G : z_G) (c : Nat) (f g : Nat → Int32) : z_sa (z_sa G c f) c g = z_sa G c g := by
  funext a
  unfold z_sa
  by_cases h : a = c <;> simp [h]
theorem sa_ss (G : z_G) (c j : Nat) (f : Nat → Int32) (v : Int32) : z_ss (z_sa G c f) c j v = z_sa G c (upd f j v) := by
  unfold z_ss
  rw [z_sa_same, sa_sa]
theorem sa_self (G : z_G) (c : Nat) : z_sa G c (G c) = G := by
  funext a
  unfold z_sa
  by_cases h : a = c
  · rw [if_pos h, h]
  · rw [if_neg h]
theorem lyP_wr (h : z_G) (p g j : Nat) : lyP (wr h p g) j = (lyP h j && !decide (j = g)) := by
  unfold lyP
  rw [wr_10]
  by_cases e : j = g
  · simp [e]
  · simp [e]
theorem bs_del {P Q : Nat → Bool} {k g : Nat} (h : ∀ j, j < k → Q j = (P j && !decide (j = g))) (hk : k ≤ 8) (hg : g < 31) : nI (bs P k) &&& (((1 : Int32) <<< (nI g &&& 31)) ^^^ (-1 : Int32)) = nI (bs Q k) := by
  rw [shl1 hg]
  refine andn (fun j hj => ?_)
  rw [bs_bit, bs_bit, Nat.testBit_two_pow]
  by_cases hjk : j < k
  · rw [h j hjk]
    by_cases e : j = g
    · subst e; simp
    · have e2 : ¬ g = j := fun q => e q.symm
      simp [e, e2]
  · simp [hjk]
theorem upd_ne {f : Nat → Int32} {k j : Nat} {x : Int32} (h : j ≠ k) : upd f k x j = f j := if_neg h
theorem upd_eq (f : Nat → Int32) (k : Nat) (x : Int32) : upd f k x k = x := if_pos rfl
theorem r_goWear {n k g p : Nat} {h G : z_G} {r : Nat → Int32} {K : z_G → Prop} (H : HI n k h) (R : RR n k h r) (hg : g < k) (hp : p < n) (hpq : ¬ h 9 g = nI p) (hK : ∀ r', RR n k (wr h p g) r' → K (z_sa G 6 r')) : v_X6_goWear (z_sa G 6 r) (nI p) (nI g) K := by
  obtain ⟨r0, r1, r2, r3, r4, r5⟩ := R
  have hn6 := H.2.2.1
  have hk8 := H.2.2.2.1
  obtain ⟨q, hq, eq⟩ := H.2.2.2.2.1 g hg
  have hne : q ≠ p := fun e => hpq (by rw [eq, e])
  obtain ⟨a1, a2, a3, a4⟩ := r5 g hg
  have zq : z_n (h 9 g) = q := by rw [eq]; exact zi (by omega)
  unfold v_X6_goWear
  rw [i26, zi (show 26 + g < 1000 by omega), z_sa_same, a3, eq]
  refine ⟨vi (by omega) (by omega), ?_⟩
  intro y2 e2
  subst e2
  rw [i4, i4, zi (show 4 + q < 1000 by omega), zi (show 4 + p < 1000 by omega), zn3, zn1, r3]
  refine ⟨vi (a := 3) (by omega) (by omega), vi (a := 3) (by omega) (by omega), ?_⟩
  intro h5 e5
  rw [bs_del (Q := lyP (wr h p g)) (fun j _ => lyP_wr h p g j) hk8 (by omega), sa_ss] at e5
  subst e5
  rw [z_sa_same, upd_ne (show 4 + p ≠ 3 by omega), upd_ne (show 4 + q ≠ 3 by omega), r4 p hp, r4 q hq]
  refine ⟨vi (by omega) (by omega), ?_⟩
  intro y7 e7
  subst e7
  refine ⟨vi (by omega) (by omega), ?_⟩
  intro y9 e9
  subst e9
  have cells : ∀ (f : Nat → Int32), f 0 = r 0 → f 1 = wr h p g 0 3 → f 2 = r 2 → f 3 = nI (bs (lyP (wr h p g)) k) → (∀ x, x < n → f (4 + x) = wr h p g 5 x) → (∀ x, x < k → f (10 + x) = r (10 + x) ∧ f (18 + x) = r (18 + x) ∧ f (26 + x) = r (26 + x) ∧ f (34 + x) = r (34 + x)) → RR n k (wr h p g) f := by
    intro f f0 f1 f2 f3 f4 f5
    refine ⟨by rw [f0, r0, wr_0 _ _ _ _ (by decide)], f1, by rw [f2, r2], f3, f4, fun x hx => ?_⟩
    obtain ⟨b1, b2, b3, b4⟩ := f5 x hx
    obtain ⟨c1, c2, c3, c4⟩ := r5 x hx
    rw [wr_cell _ _ _ 7 (by decide) (by decide) (by decide) (by decide), wr_cell _ _ _ 8 (by decide) (by decide) (by decide) (by decide), wr_cell _ _ _ 9 (by decide) (by decide) (by decide) (by decide), wr_cell _ _ _ 11 (by decide) (by decide) (by decide) (by decide)]
    exact ⟨b1.trans c1, b2.trans c2, b3.trans c3, b4.trans c4⟩
  refine ⟨fun c => ⟨vi (a := 1) (by omega) (by omega), vi (a := 1) (by omega) (by omega), ?_⟩, fun c => ?_⟩
  · intro h13 e13
    rw [sa_ss] at e13
    subst e13
    have fin : ∀ (u v : Int32), u = mbf (h 5 p) (h 5 q) → v = mbf (h 5 q) (h 5 p) → K (z_sa G 6 (upd (upd (upd (upd r 3 (nI (bs (lyP (wr h p g)) k))) 1 (upd r 3 (nI (bs (lyP (wr h p g)) k)) 1 + 1)) (4 + p) u) (4 + q) v)) := by
      intro u v eu ev
      apply hK
      refine cells _ ?_ ?_ ?_ ?_ ?_ ?_
      · rw [upd_ne (by omega), upd_ne (by omega), upd_ne (by omega), upd_ne (by omega)]
      · rw [upd_ne (by omega), upd_ne (by omega), upd_eq, upd_ne (by omega), r1, wr_03, zq, if_neg c]
      · rw [upd_ne (by omega), upd_ne (by omega), upd_ne (by omega), upd_ne (by omega)]
      · rw [upd_ne (by omega), upd_ne (by omega), upd_ne (by omega), upd_eq]
      · intro x hx
        rw [wr_5, zq, if_neg c]
        by_cases e1 : x = q
        · subst e1; rw [upd_eq, if_pos rfl, ev]
        · rw [upd_ne (by omega), if_neg e1]
          by_cases e2 : x = p
          · subst e2; rw [upd_eq, if_pos rfl, eu]
          · rw [upd_ne (by omega), if_neg e2, upd_ne (by omega), upd_ne (by omega), r4 x hx]
      · intro x hx
        have big : ∀ j, 10 ≤ j → upd (upd (upd (upd r 3 (nI (bs (lyP (wr h p g)) k))) 1 (upd r 3 (nI (bs (lyP (wr h p g)) k)) 1 + 1)) (4 + p) u) (4 + q) v j = r j := fun j hj => by
          rw [upd_ne (by omega), upd_ne (by omega), upd_ne (by omega), upd_ne (by omega)]
        exact ⟨big _ (by omega), big _ (by omega), big _ (by omega), big _ (by omega)⟩
    have b85 : ∀ u, u = mbf (h 5 p) (h 5 q) → v_X6_goWear_b85 K (z_sa G 6 (upd (upd r 3 (nI (bs (lyP (wr h p g)) k))) 1 (upd r 3 (nI (bs (lyP (wr h p g)) k)) 1 + 1))) (nI q) (h 5 p) (h 5 q) (nI (4 + p)) u := by
      intro u eu
      unfold v_X6_goWear_b85 v_X6_goWear_b111
      rw [i4, zi (show 4 + q < 1000 by omega), zi (show 4 + p < 1000 by omega)]
      refine ⟨vi (by omega) (by omega), ?_⟩
      intro h16 e16
      rw [sa_ss] at e16
      subst e16
      refine ⟨fun d => ⟨vi (by omega) (by omega), ?_⟩, fun d => s_left d ⟨vi (by omega) (by omega), ?_⟩⟩
      · intro h19 e19
        rw [sa_ss] at e19
        rw [e19]
        exact fin u 0 eu (by unfold mbf; rw [if_pos d])
      · intro h19 e19
        rw [sa_ss] at e19
        rw [e19]
        exact fin u _ eu rfl
    exact ⟨fun d => b85 0 (by unfold mbf; rw [if_pos d]), fun d => s_left d (b85 _ rfl)⟩
  · apply hK
    refine cells _ ?_ ?_ ?_ ?_ ?_ ?_
    · rw [upd_ne (by omega)]
    · rw [upd_ne (by omega), r1, wr_03, zq, if_pos c]
    · rw [upd_ne (by omega)]
    · rw [upd_eq]
    · intro x hx
      rw [upd_ne (by omega), wr_5, zq, if_pos c, r4 x hx]
    · intro x hx
      rw [upd_ne (by omega), upd_ne (by omega), upd_ne (by omega), upd_ne (by omega)]
      exact ⟨rfl, rfl, rfl, rfl⟩
