/-! ===== PURE: calls, one by one: safe, dare, ring, time ===== -/
theorem sub_zero {j L : Nat} (hj : j < 256) : nI j &&& (nI L ^^^ (-1 : Int32)) = 0 ↔ j &&& L = j := by
  have e := andn (x := j) (y := L) (z := bs (fun i => j.testBit i && !L.testBit i) 8) (fun i hi => by
    rw [bs_bit]
    by_cases h8 : i < 8
    · simp [h8]
    · have : j.testBit i = false := Nat.testBit_lt_two_pow (Nat.lt_of_lt_of_le hj (Nat.pow_le_pow_right (n := 2) (i := 8) (by omega) (by omega)))
      simp [h8, this])
  rw [e]
  have hb := bs_lt (fun i => j.testBit i && !L.testBit i) 8
  constructor
  · intro h
    have h0 : bs (fun i => j.testBit i && !L.testBit i) 8 = 0 := (nI_eq (b := 0) (by omega) (by omega)).mp h
    apply Nat.eq_of_testBit_eq
    intro i
    rw [Nat.testBit_and]
    have hi := bs_bit (fun i => j.testBit i && !L.testBit i) 8 i
    rw [h0, Nat.zero_testBit] at hi
    by_cases h8 : i < 8
    · cases h1 : j.testBit i <;> cases h2 : L.testBit i <;> simp_all
    · have : j.testBit i = false := Nat.testBit_lt_two_pow (Nat.lt_of_lt_of_le hj (Nat.pow_le_pow_right (n := 2) (i := 8) (by omega) (by omega)))
      simp [this]
  · intro h
    have : bs (fun i => j.testBit i && !L.testBit i) 8 = 0 := by
      apply Nat.eq_of_testBit_eq
      intro i
      rw [bs_bit, Nat.zero_testBit]
      have h1 : (j &&& L).testBit i = j.testBit i := by rw [h]
      rw [Nat.testBit_and] at h1
      cases h2 : j.testBit i <;> cases h3 : L.testBit i <;> simp_all
    rw [this]; rfl
/-- the best of the sets below j -/
def BU (L : Nat) (safe : Nat → Bool) (j : Nat) (b : Int32) : Prop :=
  (b = -4 ∧ ∀ S, S < j → S &&& L = S → safe S = false) ∨
  ∃ S, b = nI S ∧ S < j ∧ S &&& L = S ∧ safe S = true ∧ ∀ S', S' < j → S' &&& L = S' → safe S' = true → (pop S < pop S' ∨ (pop S = pop S' ∧ S ≤ S'))
theorem BU_best {L : Nat} {safe : Nat → Bool} {b : Int32} (hL : L < 256) (h : BU L safe 256 b) : Best L safe b := by
  rcases h with ⟨e, h1⟩ | ⟨S, e, h0, h1, h2, h3⟩
  · exact Or.inl ⟨e, fun S hs => h1 S (by have := sub_le hs; omega) hs⟩
  · exact Or.inr ⟨S, e, h1, h2, fun S' hs' => h3 S' (by have := sub_le hs'; omega) hs'⟩
theorem BU_skip {L : Nat} {safe : Nat → Bool} {j : Nat} {b : Int32} (h : BU L safe j b) (hs : j &&& L = j → safe j = true → ∃ S, b = nI S ∧ S < 256 ∧ pop S ≤ pop j) (hj : j < 256) : BU L safe (j + 1) b := by
  rcases h with ⟨e, h1⟩ | ⟨S, e, h0, h1, h2, h3⟩
  · left
    refine ⟨e, fun S hS hs' => ?_⟩
    by_cases q : S = j
    · subst q
      cases hsf : safe S
      · rfl
      · obtain ⟨S', e', hS', -⟩ := hs hs' hsf
        rw [e] at e'
        exact absurd e'.symm (nI_ne4 (by omega))
    · exact h1 S (by omega) hs'
  · right
    refine ⟨S, e, by omega, h1, h2, fun S' hS' hs' hz' => ?_⟩
    by_cases q : S' = j
    · subst q
      obtain ⟨S2, e2, hS2, hp⟩ := hs hs' hz'
      rw [e] at e2
      have : S = S2 := (nI_eq (by omega) (by omega)).mp e2
      subst this
      omega
    · exact h3 S' (by omega) hs' hz'
theorem BU_take {L : Nat} {safe : Nat → Bool} {j : Nat} {b : Int32} (h : BU L safe j b) (h1 : j &&& L = j) (h2 : safe j = true) (h3 : b = -4 ∨ ∃ S, b = nI S ∧ S < 256 ∧ pop j < pop S) (hj : j < 256) : BU L safe (j + 1) (nI j) := by
  right
  refine ⟨j, rfl, by omega, h1, h2, fun S' hS' hs' hz' => ?_⟩
  by_cases q : S' = j
  · right; subst q; exact ⟨rfl, Nat.le_refl _⟩
  · rcases h with ⟨e, g1⟩ | ⟨S, e, g0, g1, g2, g3⟩
    · rw [g1 S' (by omega) hs'] at hz'; cases hz'
    · rcases h3 with e3 | ⟨S3, e3, hS3, hp⟩
      · rw [e] at e3; exact absurd e3 (nI_ne4 (by omega))
      · rw [e] at e3
        have : S = S3 := (nI_eq (by omega) (by omega)).mp e3
        subst this
        have := g3 S' (by omega) hs' hz'
        omega
theorem r_safe {n k p m : Nat} {h G : z_G} {y : Int32} (H : HN n k h) (T : TR n h (G 2)) (W : RR n k h (G 5)) (hp : p < n) (hm : m < 2 ^ 30) {K : Int32 → z_G → Prop} (hK : ∀ b r', Best (bs (lyP h) k) (sf n k h p m) b → ((b = -4 → K b (z_sa G 6 r')) ∧ (¬ b = -4 → ((¬ y = 1 → v_X6_ones b (fun r10 => K r10 (z_sa G 6 r'))) ∧ (y = 1 → K b (z_sa G 6 r')))))) : v_X6_safe_b39 K G (nI p) (nI m) y (-4) 0 := by
  have hn6 := H.1.2.2.1
  have hk8 := H.1.2.2.2.1
  have hL := bs_256 H.1
  have W3 := W.2.2.2.1
  have hLd : ∀ i, (bs (lyP h) k).testBit i = (decide (i < k) && lyP h i) := fun i => bs_bit _ _ _
  unfold v_X6_safe_b39
  refine z_for 256 (fun j q => ∃ r' b, q = (z_sa G 6 r', nI p, nI m, y, b, nI j) ∧ BU (bs (lyP h) k) (sf n k h p m) j b) ?_ (Nat.zero_le 256) ⟨G 6, -4, by rw [sa_self]; rfl, Or.inl ⟨rfl, fun S hS => by omega⟩⟩
  rintro j ⟨G', x1, x2, x3, x4, x5⟩ hj ⟨r', b, e, B⟩ Lp hLp
  obtain ⟨rfl, e1⟩ := Prod.mk.inj e
  obtain ⟨rfl, e2⟩ := Prod.mk.inj e1
  obtain ⟨rfl, e3⟩ := Prod.mk.inj e2
  obtain ⟨rfl, e4⟩ := Prod.mk.inj e3
  obtain ⟨rfl, rfl⟩ := Prod.mk.inj e4
  show v_X6_safe_b39_s K _ (z_sa G 6 r') (nI p) (nI m) x3 x4 (nI j)
  unfold v_X6_safe_b39_s
  rw [z_sa_ne (show 5 ≠ 6 by decide), zn3, W3]
  refine ⟨fun c => ?_, fun c => ?_⟩
  · have : j = 256 := by have := (nI_leI (a := 256) (by omega) (by omega)).mp c; omega
    subst this
    exact hK x4 r' (BU_best hL B)
  · have hlt : j < 256 := by
      rcases Nat.lt_or_ge j 256 with q | q
      · exact q
      · exact absurd (nI_le (a := 256) q (by omega)) c
    rw [sub_zero hlt]
    have skip : ∀ (f : Nat → Int32), (j &&& bs (lyP h) k = j → sf n k h p m j = true → ∃ S, x4 = nI S ∧ S < 256 ∧ pop S ≤ pop j) → ∀ y : Int32, y = nI j + 1 → Lp (z_sa G 6 f, nI p, nI m, x3, x4, y) := by
      intro f hs y ey
      exact hLp _ hlt ⟨f, x4, by rw [ey, nI_1], BU_skip B hs hlt⟩
    have b81 : j &&& bs (lyP h) k = j → (x4 = -4 ∨ ∃ S, x4 = nI S ∧ S < 256 ∧ pop j < pop S) → v_X6_safe_b81 K (fun h x1 x2 x3 x4 x5 => Lp (h, x1, x2, x3, x4, x5)) (z_sa G 6 r') (nI p) (nI m) x3 x4 (nI j) := by
      intro hs hbest
      unfold v_X6_safe_b81
      refine r_aside ?_
      rw [sa_sa, z_sa_ne (show 5 ≠ 6 by decide), z_sa_same]
      have WA := RR_aside (b := r') H.1 W
      refine ⟨vi (a := 3) (by omega) (by omega), vi (a := 3) (by omega) (by omega), ?_⟩
      intro h18 e18
      rw [zn3, z_sa_same, WA.2.2.2.1, andn (z := bs (lyP (ta h j k)) k) (fun i _ => ?_), sa_ss] at e18
      · subst e18
        have Hta := HN_ta H j
        refine r_goReigns Hta (TR_cong T (fun x _ => by rw [ta_ne _ _ _ _ (by decide)]) (fun x _ => by rw [ta_ne _ _ _ _ (by decide)])) (r := upd (asd (G 5) r' 42) 3 (nI (bs (lyP (ta h j k)) k))) ?_ hm ?_
        · obtain ⟨r0, r1, r2, r3, r4, r5⟩ := WA
          refine ⟨by rw [upd_ne (by omega), ta_ne _ _ _ _ (by decide)]; exact r0, by rw [upd_ne (by omega), ta_ne _ _ _ _ (by decide)]; exact r1, by rw [upd_ne (by omega)]; exact r2, by rw [upd_eq], fun x hx => by rw [upd_ne (by omega), ta_ne _ _ _ _ (by decide)]; exact r4 x hx, fun x hx => ?_⟩
          rw [upd_ne (by omega), upd_ne (by omega), upd_ne (by omega), upd_ne (by omega), ta_ne _ _ _ _ (by decide), ta_ne _ _ _ _ (by decide), ta_ne _ _ _ _ (by decide), ta_ne _ _ _ _ (by decide)]
          exact r5 x hx
        · intro r'' R''
          rw [i4, zi (show 4 + p < 1000 by omega), z_sa_same, R''.2.2.2.2.1 p hp]
          obtain ⟨a, ha, ea⟩ := (HN_itr Hta m).1.2.2.2.2.2.2.1 p hp
          refine ⟨vi (by omega) (by omega), fun d => ?_, fun d => ?_⟩
          · refine skip r'' (fun _ q => ?_)
            have q := of_decide_eq_true q
            rw [ea] at d q
            have := (nI_leI (b := 0) (by omega) (by omega)).mp d
            exact absurd (by rw [show a = 0 by omega]; rfl) q
          · intro y ey
            refine hLp _ hlt ⟨r'', nI j, by rw [ey, nI_1], BU_take B hs ?_ hbest hlt⟩
            refine decide_eq_true (fun q => d ?_)
            rw [q]; exact Int32.le_refl _
      · rw [bs_bit, bs_bit]
        unfold lyP
        rw [ta_10]
        by_cases hik : i < k
        · cases hb : j.testBit i <;> simp [hik]
        · simp [hik]
    refine ⟨vi (a := 3) (by omega) (by omega), fun d => skip r' (fun q => absurd q d), fun d => ⟨fun w => b81 d (Or.inl w), fun w => ?_⟩⟩
    rcases B with ⟨e, -⟩ | ⟨S, e, g0, g1, g2, g3⟩
    · exact absurd e w
    · rw [e]
      refine s_ones hlt (s_ones (by omega) ⟨fun z => ?_, fun z => ?_⟩)
      · have pj : pop j ≤ 8 := by rw [pop_cnt j hlt]; exact cnt_le _ 8
        have pS : pop S ≤ 8 := by rw [pop_cnt S (by omega)]; exact cnt_le _ 8
        have := (nI_leI (by omega) (by omega)).mp z
        rw [← e]
        exact skip r' (fun _ _ => ⟨S, e, by omega, this⟩)
      · have pj : pop j ≤ 8 := by rw [pop_cnt j hlt]; exact cnt_le _ 8
        have pS : pop S ≤ 8 := by rw [pop_cnt S (by omega)]; exact cnt_le _ 8
        have : pop j < pop S := by
          rcases Nat.lt_or_ge (pop j) (pop S) with q | q
          · exact q
          · exact absurd (nI_le q (by omega)) z
        rw [← e]
        exact b81 d (Or.inr ⟨S, e, by omega, this⟩)
theorem t_safe {X : z_X} {n k : Nat} (R : RLn X n k) (x y z : Int32) : v_X5_safe X x y z (fun r X' => v_X6_safe (X' 19) x y z (fun r2 h' => r = r2 ∧ RLE (z_up X' 19 h'))) := by
  obtain ⟨-, ⟨H, hn2, T, W⟩, -, -, -, N⟩ := id R
  have hn6 := H.1.2.2.1
  unfold v_X5_safe v_X6_safe
  refine c_isPerson H.1.1 (br0 (fun w => r_isPerson T.1 (br0 (fun _ => ⟨rfl, RE_bad R⟩) (fun q => bx q w))) (fun w => s_within (br0 (fun u => r_isPerson T.1 (br0 (fun q => bx w q) (fun _ => s_in (a := 1) (b := 30) rfl rfl rfl (br0 (fun _ => ⟨rfl, RE_bad R⟩) (fun q => bx q u))))) (fun u => s_within (br1 (fun v => ?_) (fun v => r_isPerson T.1 (br0 (fun q => bx w q) (fun _ => s_in (a := 1) (b := 30) rfl rfl rfl (br0 (fun q => bx u q) (fun _ => s_in (a := 0) (b := 1) rfl rfl rfl (br1 (fun q => bx q v) (fun _ => ⟨rfl, RE_bad R⟩))))))))))) )
  obtain ⟨p, hp, rfl⟩ := (wi_nI (by omega)).mp w
  obtain ⟨m, hm1, hm, rfl⟩ := wi_nat (a := 1) (b := 30) (by omega) u (by omega)
  refine s_away (by decide) H (N 2 (by decide)) (by omega) (by omega) ?_
  intro r h' B hN
  dsimp only
  rw [z_up_ne (show 19 ≠ 2 by decide)]
  have hL := bs_256 H.1
  have ref : ∀ a : Int32, (r = -4 → a = r) → (∀ S, r = nI S → ¬ r = -4 → S < 256 → (z = 1 → a = r) ∧ (¬ z = 1 → a = nI (pop S))) → v_X6_isPerson (X 19) (nI p) (fun r1 => (r1 = 0 → a = -1 ∧ RLE (z_up (z_up X 2 h') 19 (X 19))) ∧ (¬ r1 = 0 → v_X6_in (nI m).toInt64 1 30 (fun r3 => (r3 = 0 → a = -1 ∧ RLE (z_up (z_up X 2 h') 19 (X 19))) ∧ (¬ r3 = 0 → v_X6_in z.toInt64 0 1 (fun r5 => (¬ r5 = 0 → v_X6_safe_b39 (fun r2 h'' => a = r2 ∧ RLE (z_up (z_up X 2 h') 19 h'')) (X 19) (nI p) (nI m) z (-4) 0) ∧ (r5 = 0 → a = -1 ∧ RLE (z_up (z_up X 2 h') 19 (X 19)))))))) := by
    intro a ha1 ha2
    refine r_isPerson T.1 (br0 (fun q => bx w q) (fun _ => s_in (a := 1) (b := 30) rfl rfl rfl (br0 (fun q => bx u q) (fun _ => s_in (a := 0) (b := 1) rfl rfl rfl (br1 (fun _ => r_safe H T W hp (by omega) ?_) (fun q => bx v q))))))
    intro b r' B'
    have hbr := Best_one B' B
    subst hbr
    refine ⟨fun e => ⟨ha1 e, _, _, RL_both R hN⟩, fun e => ?_⟩
    rcases B' with ⟨e', -⟩ | ⟨S, eS, hs, -, -⟩
    · exact absurd e' e
    · have hS : S < 256 := by have := sub_le hs; omega
      obtain ⟨g1, g2⟩ := ha2 S eS e hS
      refine ⟨fun d => ?_, fun d => ⟨g1 d, _, _, RL_both R hN⟩⟩
      rw [eS]
      exact s_ones hS ⟨g2 d, _, _, RL_both R hN⟩
  refine ⟨fun e => ref r (fun _ => rfl) (fun S _ _ _ => ⟨fun _ => rfl, fun q => absurd e q⟩), fun e => ⟨fun d => ?_, fun d => ref r (fun _ => rfl) (fun S _ q _ => absurd d q)⟩⟩
  rcases B with ⟨e', -⟩ | ⟨S, eS, hs, -, -⟩
  · exact absurd e' d
  · have hS : S < 256 := by have := sub_le hs; omega
    have bc := s_bitCount (b := S) (K := fun r11 => v_X6_isPerson (X 19) (nI p) (fun r1 => (r1 = 0 → r11 = -1 ∧ RLE (z_up (z_up X 2 h') 19 (X 19))) ∧ (¬ r1 = 0 → v_X6_in (nI m).toInt64 1 30 (fun r3 => (r3 = 0 → r11 = -1 ∧ RLE (z_up (z_up X 2 h') 19 (X 19))) ∧ (¬ r3 = 0 → v_X6_in z.toInt64 0 1 (fun r5 => (¬ r5 = 0 → v_X6_safe_b39 (fun r2 h'' => r11 = r2 ∧ RLE (z_up (z_up X 2 h') 19 h'')) (X 19) (nI p) (nI m) z (-4) 0) ∧ (r5 = 0 → r11 = -1 ∧ RLE (z_up (z_up X 2 h') 19 (X 19))))))))) hS (ref (nI (pop S)) (fun q => absurd q d) (fun S' eS' _ hS' => ⟨fun q => absurd q e, fun _ => by
      rw [eS] at eS'
      have : S = S' := (nI_eq (by omega) (by omega)).mp eS'
      rw [this]⟩))
    rw [eS]
    exact bc
theorem r_dare {n k p q : Nat} {h G : z_G} (H : HN n k h) (T : TR n h (G 2)) (W : RR n k h (G 5)) (hp : p < n) (hq : q < n) {K : Int32 → z_G → Prop} (hK : ∀ b r', (k < 8 → FirstC (tkc n k h p q) b) → (¬ k < 8 → b = -4) → K b (z_sa G 6 r')) : v_X6_dare_b58 K G (nI p) (nI q) (nI k) 0 := by
  have hn6 := H.1.2.2.1
  have hk8 := H.1.2.2.2.1
  unfold v_X6_dare_b58
  refine z_for 80 (fun c z => ∃ r', z = (z_sa G 6 r', nI p, nI q, nI k, nI c) ∧ (k < 8 → ∀ c', c' < c → tkc n k h p q c' = false)) ?_ (Nat.zero_le 80) ⟨G 6, by rw [sa_self]; rfl, fun _ c' hc' => by omega⟩
  rintro c ⟨G', x1, x2, x3, x4⟩ hc ⟨r', e, hS⟩ Lp hL
  obtain ⟨rfl, e1⟩ := Prod.mk.inj e
  obtain ⟨rfl, e2⟩ := Prod.mk.inj e1
  obtain ⟨rfl, e3⟩ := Prod.mk.inj e2
  obtain ⟨rfl, rfl⟩ := Prod.mk.inj e3
  show v_X6_dare_b58_s K _ (z_sa G 6 r') (nI p) (nI q) (nI k) (nI c)
  unfold v_X6_dare_b58_s
  refine ⟨fun d => ?_, fun d => ⟨fun w => ?_, fun w => ?_⟩⟩
  · have : c = 80 := by have := (nI_leI (a := 80) (by omega) (by omega)).mp d; omega
    subst this
    exact hK _ r' (fun h8 => Or.inl ⟨rfl, fun c' hc' => hS h8 c' hc'⟩) (fun _ => rfl)
  · have : 8 ≤ k := (nI_leI (a := 8) (by omega) (by omega)).mp w
    exact hK _ r' (fun h8 => by omega) (fun _ => rfl)
  · have hlt : c < 80 := by
      rcases Nat.lt_or_ge c 80 with z | z
      · exact z
      · exact absurd (nI_le (a := 80) z (by omega)) d
    have hk : k < 8 := by
      rcases Nat.lt_or_ge k 8 with z | z
      · exact z
      · exact absurd (nI_le (a := 8) z (by omega)) w
    have d1 : nI c / 20 = nI (c / 20) := by rw [show (20 : Int32) = nI 20 from rfl, pk_div (by omega) (by omega) (by omega)]
    have d2 : nI c - nI c / 20 * 20 + 1 = nI (c % 20 + 1) := by rw [show (20 : Int32) = nI 20 from rfl, rem_nI (by omega) (by omega) (by omega), nI_1]
    have d3 : 100 * (nI c / 20) + (nI c - nI c / 20 * 20) + 1 = nI (100 * (c / 20) + (c % 20 + 1)) := by
      rw [show (20 : Int32) = nI 20 from rfl, rem_nI (by omega) (by omega) (by omega), pk_div (by omega) (by omega) (by omega), show (100 : Int32) = nI 100 from rfl, pk_mul, nI_add, nI_1, Nat.add_assoc]
    rw [d2, d3, d1]
    refine r_aside ?_
    rw [sa_sa, z_sa_ne (show 5 ≠ 6 by decide), z_sa_same]
    refine r_lays (m := k + 1) H (RR_aside H.1 W) (by omega) (by omega) (by omega) (by omega) (Or.inl (Nat.le_refl k)) ?_
    intro r2 e2 hr2
    refine ⟨vi (a := 2) (by omega) (by omega), vi (a := 2) (by omega) (by omega), ?_⟩
    intro h18 e18
    rw [zn2, z_sa_same, e2, nI_1, sa_ss] at e18
    subst e18
    have Hn : HN n (k + 1) (ng h k (nI (c / 20)) (nI (c % 20 + 1)) (nI p)) := HN_ng H hk (by omega) (by omega) hp
    have Rn : RR n (k + 1) (ng h k (nI (c / 20)) (nI (c % 20 + 1)) (nI p)) (upd r2 2 (nI (k + 1))) := hr2 _ (fun j hj => upd_ne hj) (upd_eq _ _ _)
    refine r_isTakenBy Hn (TR_cong T (fun x _ => by rw [ng_4 _ _ _ _ _ _ (by decide) (by decide)]) (fun x _ => by rw [ng_4 _ _ _ _ _ _ (by decide) (by decide)])) Rn (by omega) hq (by rw [ng_rd _ _ _ _ _ _ (by decide)]; rfl) (by rw [ng_rd _ _ _ _ _ _ (by decide)]; rfl) ?_
    intro r3
    have et : decide (itr n (k + 1) (ng h k (nI (c / 20)) (nI (c % 20 + 1)) (nI p)) 30 12 k = nI q) = tkc n k h p q c := rfl
    rw [et]
    refine br0 (fun z => ?_) (fun z => ?_)
    · intro y ey
      refine hL (_, _, _, _, _) hlt ⟨r3, by rw [ey, nI_1], fun h8 c' hc' => ?_⟩
      by_cases e : c' = c
      · rw [e]; exact z
      · exact hS h8 c' (by omega)
    · exact hK _ r3 (fun h8 => Or.inr ⟨c, hlt, z, fun c' hc' => hS h8 c' hc', rfl⟩) (fun q => absurd hk q)
theorem t_dare {X : z_X} {n k : Nat} (R : RLn X n k) (x y : Int32) : v_X5_dare X x y (fun r X' => v_X6_dare (X' 19) x y (fun r2 h' => r = r2 ∧ RLE (z_up X' 19 h'))) := by
  obtain ⟨-, ⟨H, hn2, T, W⟩, -, -, -, N⟩ := id R
  have hn6 := H.1.2.2.1
  have hk8 := H.1.2.2.2.1
  unfold v_X5_dare v_X6_dare
  refine c_isPerson H.1.1 (br0 (fun w => r_isPerson T.1 (br0 (fun _ => ⟨rfl, RE_bad R⟩) (fun q => bx q w))) (fun w => c_isPerson H.1.1 (br0 (fun u => r_isPerson T.1 (br0 (fun q => bx w q) (fun _ => r_isPerson T.1 (br0 (fun _ => ⟨rfl, RE_bad R⟩) (fun q => bx q u))))) (fun u => ⟨fun e => ?_, fun e => r_isPerson T.1 (br0 (fun q => bx w q) (fun _ => r_isPerson T.1 (br0 (fun q => bx u q) (fun _ => ⟨fun q => absurd e q, fun _ => ⟨rfl, RE_bad R⟩⟩))))⟩))))
  obtain ⟨p, hp, rfl⟩ := (wi_nI (by omega)).mp w
  obtain ⟨q, hq, rfl⟩ := (wi_nI (by omega)).mp u
  rw [H.1.2.1]
  have ref : ∀ (a : Int32) (X' : z_X), X' 19 = X 19 → (X 0 5 p = 0 → a = -2 ∧ RLE (z_up X' 19 (X 19))) → (¬ X 0 5 p = 0 → X 0 5 q = 0 → a = -2 ∧ RLE (z_up X' 19 (X 19))) → (¬ X 0 5 p = 0 → ¬ X 0 5 q = 0 → ∀ b r', (k < 8 → FirstC (tkc n k (X 0) p q) b) → (¬ k < 8 → b = -4) → a = b ∧ RLE (z_up X' 19 (z_sa (X 19) 6 r'))) → v_X6_isPerson (X' 19) (nI p) (fun r1 => (r1 = 0 → a = -1 ∧ RLE (z_up X' 19 (X' 19))) ∧ (¬ r1 = 0 → v_X6_isPerson (X' 19) (nI q) (fun r3 => (r3 = 0 → a = -1 ∧ RLE (z_up X' 19 (X' 19))) ∧ (¬ r3 = 0 → ((¬ nI p = nI q → (vp_in (4 + nI p) 42 ∧ ((X' 19 5 (z_n (4 + nI p)) = 0 → a = -2 ∧ RLE (z_up X' 19 (X' 19))) ∧ (¬ X' 19 5 (z_n (4 + nI p)) = 0 → (vp_in (4 + nI q) 42 ∧ ((¬ X' 19 5 (z_n (4 + nI q)) = 0 → (vp_in 2 42 ∧ ∀ y11 : Int32, y11 = X' 19 5 (z_n 2) → v_X6_dare_b58 (fun r2 h' => a = r2 ∧ RLE (z_up X' 19 h')) (X' 19) (nI p) (nI q) y11 0)) ∧ (X' 19 5 (z_n (4 + nI q)) = 0 → a = -2 ∧ RLE (z_up X' 19 (X' 19))))))))) ∧ (nI p = nI q → a = -1 ∧ RLE (z_up X' 19 (X' 19)))))))) := by
    intro a X' e19 k1 k2 k3
    rw [e19, i4, i4, zi (show 4 + p < 1000 by omega), zi (show 4 + q < 1000 by omega), W.2.2.2.2.1 p hp, W.2.2.2.2.1 q hq, zn2, W.2.2.1]
    refine r_isPerson T.1 (br0 (fun z => bx w z) (fun _ => r_isPerson T.1 (br0 (fun z => bx u z) (fun _ => ⟨fun _ => ⟨vi (by omega) (by omega), fun z => k1 z, fun z1 => ⟨vi (by omega) (by omega), fun z2 => ⟨vi (a := 2) (by omega) (by omega), ?_⟩, fun z2 => k2 z1 z2⟩⟩, fun z => absurd z e⟩))))
    intro y11 e11
    subst e11
    exact r_dare H T W hp hq (k3 z1 z2)
  refine s_isOut (by omega) (br1 (fun a => ?_) (fun a => s_isOut (by omega) (br0 (fun b => ⟨fun c => ?_, fun c => ?_⟩) (fun b => ?_))))
  · have a := of_decide_eq_true a
    exact ref (-2) X rfl (fun _ => ⟨rfl, RE_bad R⟩) (fun z => absurd a z) (fun z => absurd a z)
  · have a := of_decide_eq_false a
    have b := of_decide_eq_false b
    have hk : k < 8 := (nI_ltI (b := 8) (by omega) (by omega)).mp c
    refine s_gloveToThrow (by decide) H (N 2 (by decide)) hk hp hq ?_
    intro r h' F hN
    refine ref r (z_up X 2 h') (z_up_ne (by decide)) (fun z => absurd z a) (fun _ z => absurd z b) (fun _ _ b' r' hb _ => ⟨FirstC_one F (hb hk), _, _, RL_both R hN⟩)
  · have a := of_decide_eq_false a
    have b := of_decide_eq_false b
    have hk : ¬ k < 8 := fun z => c (nI_lt (b := 8) z (by omega))
    exact ref (-4) X rfl (fun z => absurd z a) (fun _ z => absurd z b) (fun _ _ b' r' _ hb => ⟨(hb hk).symm, _, _, RL_side R⟩)
  · have a := of_decide_eq_false a
    have b := of_decide_eq_true b
    exact ref (-2) X rfl (fun z => absurd z a) (fun _ _ => ⟨rfl, RE_bad R⟩) (fun _ z => absurd b z)
