/-! ===== PURE: calls: time ===== -/
theorem dst_46 (n k : Nat) (h : z_G) (d c : Nat) (hc : c = 4 ∨ c = 6) : dst n k h d c = h c := by
  unfold dst
  split
  · split
    · rfl
    · exact pg_0 _ _ _ _ _ _ (by omega)
  · split
    · split
      · rfl
      · exact z_ss_ne (by omega)
    · rfl
theorem tmi_46 (n k : Nat) (h : z_G) (z c : Nat) (hc : c = 4 ∨ c = 6) : ∀ i, tmi n k h z i c = h c
  | 0 => rfl
  | i + 1 => by
    show itr n k (dst n k (tmi n k h z i) (drw z i)) 1 c = h c
    rw [itr_c _ _ _ _ (by omega) (by omega) (by omega) (by omega) (by omega), dst_46 _ _ _ _ _ hc, tmi_46 n k h z c hc i]
theorem r_time {n k z m : Nat} {h G : z_G} {x3 : Int32} {K : Int32 → z_G → Prop} (H : HN n k h) (hn : 0 < n) (T : TR n h (G 2)) (W : RR n k h (G 6)) (hz : z ≤ 9999) (hm : m ≤ 60) (k0 : x3 = 0 → ∀ r, K (nI (cnt (fun p => decide (tmi n k h z m 5 p = 0)) n)) (z_sa G 6 r)) (k1 : x3 = 1 → ∀ r, K (nI (pop (bs (lyP (tmi n k h z m)) k))) (z_sa G 6 r)) (k2 : ¬ x3 = 0 → ¬ x3 = 1 → ∀ r, K (sm (tmi n k h z m) n) (z_sa G 6 r)) : v_X6_time_b45 K G (nI z) (nI m) x3 0 := by
  have hn6 := H.1.2.2.1
  unfold v_X6_time_b45
  refine z_for m (fun i q => ∃ r, q = (z_sa G 6 r, nI z, nI m, x3, nI i) ∧ RR n k (tmi n k h z i) r) ?_ (Nat.zero_le m) ⟨G 6, by rw [sa_self]; rfl, W⟩
  rintro i ⟨G', x1, x2, x3', x4⟩ hi ⟨r, e, Ri⟩ Lp hL
  obtain ⟨rfl, e1⟩ := Prod.mk.inj e
  obtain ⟨rfl, e2⟩ := Prod.mk.inj e1
  obtain ⟨rfl, e3⟩ := Prod.mk.inj e2
  obtain ⟨rfl, rfl⟩ := Prod.mk.inj e3
  show v_X6_time_b45_s K _ (z_sa G 6 r) (nI z) (nI m) x3' (nI i)
  unfold v_X6_time_b45_s
  refine ⟨fun c => ?_, fun c => ?_⟩
  · have : i = m := by have := (nI_leI (by omega) (by omega)).mp c; omega
    subst this
    have Hi := HN_tmi H hn z i
    have hL2 := bs_256 Hi.1
    unfold v_X6_time_b104
    refine z_for n (fun p q => q = (z_sa G 6 r, x3', nI (cnt (fun p => decide (tmi n k h z i 5 p = 0)) p), sm (tmi n k h z i) p, nI p)) ?_ (Nat.zero_le n) rfl
    rintro p ⟨G', y3, y4, y5, y6⟩ hp f Lp hL
    obtain ⟨rfl, f1⟩ := Prod.mk.inj f
    obtain ⟨rfl, f2⟩ := Prod.mk.inj f1
    obtain ⟨rfl, f3⟩ := Prod.mk.inj f2
    obtain ⟨rfl, rfl⟩ := Prod.mk.inj f3
    show v_X6_time_b104_s K _ (z_sa G 6 r) y3 (nI (cnt (fun p => decide (tmi n k h z i 5 p = 0)) p)) (sm (tmi n k h z i) p) (nI p)
    unfold v_X6_time_b104_s v_X6_time_b134
    rw [z_sa_ne (show 2 ≠ 6 by decide), zn0, T.1, z_sa_same, zn3, Ri.2.2.2.1]
    refine ⟨vi (a := 0) (by omega) (by omega), fun d => ?_, fun d => ?_⟩
    · have : p = n := by have := (nI_leI (by omega) (by omega)).mp d; omega
      subst this
      exact ⟨fun a => ⟨fun b => k2 a b r, fun b => ⟨vi (a := 3) (by omega) (by omega), s_ones hL2 (k1 b r)⟩⟩, fun a => k0 a r⟩
    · have hlt : p < n := by
        rcases Nat.lt_or_ge p n with q | q
        · exact q
        · exact absurd (nI_le q (by omega)) d
      rw [i4, zi (show 4 + p < 1000 by omega), Ri.2.2.2.2.1 p hlt]
      refine ⟨vi (by omega) (by omega), fun f => ?_, fun f => ?_⟩
      · intro y17 e17
        refine ⟨vi (by omega) (by omega), fun y19 e19 y20 e20 => hL (_, _, _, _, _) hlt ?_⟩
        rw [e17, e19, e20, nI_1, Int32.add_zero]
        show _ = (_, _, nI (cnt _ p + (if decide (tmi n k h z i 5 p = 0) then 1 else 0)), _, _)
        rw [decide_eq_false f]; rfl
      · intro y17 e17
        refine ⟨vi (by omega) (by omega), fun y19 e19 y20 e20 => hL (_, _, _, _, _) hlt ?_⟩
        rw [e17, e19, e20, nI_1, nI_1]
        show _ = (_, _, nI (cnt _ p + (if decide (tmi n k h z i 5 p = 0) then 1 else 0)), _, _)
        rw [decide_eq_true f]; rfl
  · have hlt : i < m := by
      rcases Nat.lt_or_ge i m with q | q
      · exact q
      · exact absurd (nI_le q (by omega)) c
    have Hi := HN_tmi H hn z i
    intro y21 e21
    rw [drx_l hz (show i ≤ 60 by omega)] at e21
    have sq := drx_sq hz (show i ≤ 60 by omega)
    have hd := drw_lt z i
    have ed : (Int64.toInt32 (y21 * y21 - y21 * y21 / (65521 : Int64) * (65521 : Int64))) / (2 : Int32) = nI (drw z i) := by
      rw [e21, lN_mul, show (65521 : Int64) = lN 65521 from rfl, pk_lRem sq (by omega) (by omega), lN_i, show (2 : Int32) = nI 2 from rfl, pk_div (by omega) (by omega) (by omega)]
      rfl
    rw [ed]
    have Ti : TR n (tmi n k h z i) (G 2) := TR_cong T (fun p _ => by rw [tmi_46 _ _ _ _ _ (Or.inl rfl)]) (fun p _ => by rw [tmi_46 _ _ _ _ _ (Or.inr rfl)])
    refine r_goDrawn Hi hn Ti Ri (by omega) (fun r1 R1 => ?_)
    refine r_goReign (HN_dst Hi hn _).1 (TR_cong Ti (fun p _ => by rw [dst_46 _ _ _ _ _ (Or.inl rfl)]) (fun p _ => by rw [dst_46 _ _ _ _ _ (Or.inr rfl)])) R1 (fun r2 R2 => ?_)
    intro y24 e24
    exact hL (_, _, _, _, _) hlt ⟨r2, by rw [e24, nI_1], R2⟩
theorem t_time {X : z_X} {n k : Nat} (R : RLn X n k) (x y v : Int32) : v_X5_time X x y v (fun r X' => v_X6_time (X' 19) x y v (fun r2 h' => r = r2 ∧ RLE (z_up X' 19 h'))) := by
  obtain ⟨-, ⟨H, hn2, T, W⟩, -, -, -, N⟩ := id R
  have hn6 := H.1.2.2.1
  have hk8 := H.1.2.2.2.1
  unfold v_X5_time v_X6_time
  refine s_within (br0 (fun a => s_in (a := 0) (b := 9999) rfl rfl rfl (br0 (fun _ => ⟨rfl, RE_bad R⟩) (fun q => bx q a))) (fun a => s_within (br0 (fun b => s_in (a := 0) (b := 9999) rfl rfl rfl (br0 (fun q => bx a q) (fun _ => s_in (a := 1) (b := 60) rfl rfl rfl (br0 (fun _ => ⟨rfl, RE_bad R⟩) (fun q => bx q b))))) (fun b => s_within (br1 (fun c => ?_) (fun c => s_in (a := 0) (b := 9999) rfl rfl rfl (br0 (fun q => bx a q) (fun _ => s_in (a := 1) (b := 60) rfl rfl rfl (br0 (fun q => bx b q) (fun _ => s_in (a := 0) (b := 2) rfl rfl rfl (br1 (fun q => bx q c) (fun _ => ⟨rfl, RE_bad R⟩))))))))))))
  obtain ⟨z, -, hz, rfl⟩ := wi_nat (a := 0) (b := 9999) (by omega) a (by omega)
  obtain ⟨m, hm1, hm, rfl⟩ := wi_nat (a := 1) (b := 60) (by omega) b (by omega)
  have Ht := HN_tmi H (by omega : 0 < n) z m
  have ref : ∀ r : Int32, (v = 0 → r = nI (cnt (fun p => decide (tmi n k (X 0) z m 5 p = 0)) n)) → (v = 1 → r = nI (pop (bs (lyP (tmi n k (X 0) z m)) k))) → (¬ v = 0 → ¬ v = 1 → r = sm (tmi n k (X 0) z m) n) → v_X6_time (z_up X 2 (tmi n k (X 0) z m) 19) (nI z) (nI m) v (fun r2 h' => r = r2 ∧ RLE (z_up (z_up X 2 (tmi n k (X 0) z m)) 19 h')) := by
    intro r q0 q1 q2
    unfold v_X6_time
    rw [z_up_ne (show 19 ≠ 2 by decide)]
    refine s_in (a := 0) (b := 9999) rfl rfl rfl (br0 (fun q => bx a q) (fun _ => s_in (a := 1) (b := 60) rfl rfl rfl (br0 (fun q => bx b q) (fun _ => s_in (a := 0) (b := 2) rfl rfl rfl (br1 (fun _ => r_aside ?_) (fun q => bx c q))))))
    refine r_time H (by omega) (by rw [z_sa_ne (by decide)]; exact T) (by rw [z_sa_same]; exact RR_aside H.1 W) hz hm (fun e r' => ?_) (fun e r' => ?_) (fun e e2 r' => ?_)
    · rw [sa_sa]; exact ⟨q0 e, _, _, RL_both R Ht.2⟩
    · rw [sa_sa]; exact ⟨q1 e, _, _, RL_both R Ht.2⟩
    · rw [sa_sa]; exact ⟨q2 e e2, _, _, RL_both R Ht.2⟩
  refine s_behindDraws (by decide) H (by omega) (N 2 (by decide)) hz hm ?_
  rw [z_up_same, Ht.1.1]
  refine ⟨fun e => ?_, fun e => ?_, fun e e2 => ?_⟩
  · refine s_standing Ht.1 (s_bitCount (bs_64 Ht.1) ?_)
    exact ref _ (fun _ => out_cnt Ht.1) (fun q => absurd (e.symm.trans q) (by decide)) (fun q => absurd e q)
  · refine s_lying Ht.1 (s_bitCount (bs_256 Ht.1) ?_)
    exact ref _ (fun q => absurd (e.symm.trans q) (by decide)) (fun _ => rfl) (fun _ q => absurd e q)
  · refine s_mightOfAll Ht.1 ?_
    exact ref _ (fun q => absurd q e) (fun q => absurd q e2) (fun _ _ => rfl)
