/-! ===== PURE: calls: pass, hurl ===== -/
theorem note_aside {X : z_X} {f : Nat → Int32} {v : Int32} {r : Nat → Int32} : ∀ G, G = z_sa (z_ss (z_sa (X 19) 7 f) 0 8 v) 6 r → G 5 = X 19 5 ∧ G 2 = X 19 2 := by
  intro G e
  rw [e, z_sa_ne (by decide), z_sa_ne (by decide), z_ss_ne (by decide), z_ss_ne (by decide), z_sa_ne (by decide), z_sa_ne (by decide)]
  exact ⟨rfl, rfl⟩
theorem t_pass {X : z_X} {n k : Nat} (R : RLn X n k) (a : Int32) : v_X5_pass X a (fun r X' => v_X6_pass (X' 19) a (fun r2 h' => r = r2 ∧ RLE (z_up X' 19 h'))) := by
  obtain ⟨-, ⟨H, hn2, T, W⟩, ⟨u, x, hu, hx, u0, u1, u2, old⟩, -, -, N⟩ := id R
  have hk8 := H.1.2.2.2.1
  unfold v_X5_pass v_X6_pass
  refine s_within (br1 (fun w => ?_) (fun w => s_in (a := 1) (b := 20) rfl rfl rfl (br1 (fun q => bx q w) (fun _ => ⟨rfl, RE_bad R⟩))))
  obtain ⟨m, hm1, hm, rfl⟩ := wi_nat (a := 1) (b := 20) (by omega) w (by omega)
  refine ⟨fun c => ?_, fun c => ?_⟩
  · refine s_put (by omega) hu hx u0 u1 (by omega) (by omega) (N _ (by omega)) (N 0 (by omega)) (fun X1 P => ?_)
    have P' := P
    obtain ⟨p1, p2, p3, p4⟩ := P'
    have e0 : X1 0 = X 0 := p4 0 (by decide) (by omega)
    have e19 : X1 19 = X 19 := p4 19 (by decide) (by omega)
    intro y5 e5
    rw [e0] at e5
    unfold v_X5_pass_b51
    refine z_for m (fun i q => q = (z_up X1 0 (itr n k (X 0) i), nI m, y5, nI i)) ?_ (Nat.zero_le m) (by show _ = (z_up X1 0 (X 0), _, _, _); rw [← e0, z_up_self]; rfl)
    rintro i ⟨y1, y2, y3, y4⟩ hi ei Lp hL
    obtain ⟨rfl, e2⟩ := Prod.mk.inj ei
    obtain ⟨rfl, e3⟩ := Prod.mk.inj e2
    obtain ⟨rfl, rfl⟩ := Prod.mk.inj e3
    show v_X5_pass_b51_s _ _ (z_up X1 0 (itr n k (X 0) i)) (nI m) y3 (nI i)
    unfold v_X5_pass_b51_s
    rw [z_up_same]
    refine ⟨fun d => ?_, fun d => ?_⟩
    · have : i = m := by have := (nI_leI (by omega) (by omega)).mp d; omega
      subst this
      dsimp only
      rw [z_up_ne (show 19 ≠ 0 by decide), e19]
      refine s_in (a := 1) (b := 20) rfl rfl rfl (br1 (fun _ => ⟨vi (a := 0) (by omega) (by omega), ?_⟩) (fun q => bx w q))
      rw [zn0, W.1]
      refine ⟨fun _ => ?_, fun q => absurd c q⟩
      refine r_note hu u2 (fun f F => r_aside ?_)
      have g5 : z_ss (z_sa (X 19) 7 f) 0 8 (nI (min (u + 1) 8)) 5 = X 19 5 := by rw [z_ss_ne (by decide), z_sa_ne (by decide)]
      rw [g5]
      refine r_goReigns H (by rw [z_ss_ne (by decide), z_sa_ne (by decide)]; exact T) (RR_aside H.1 W) (by omega) (fun r' R' => ⟨vi (a := 1) (by omega) (by omega), vi (a := 1) (by omega) (by omega), ?_⟩)
      intro y10 e10
      rw [zn1, z_sa_same, z_sa_ne (by decide), g5, R'.2.1, W.2.1] at e10
      refine r_settle ⟨by rw [e10, e5], ?_⟩
      refine act_end R hu hx old P F (HN_itr H i) (TR_itr T i) (RR_42 (HN_itr H i).1 R' (fun j hj => ?_)) ?_ ?_ (fun c hc => ?_) (fun j hj => ?_)
      · rw [z_sa_same, z_sa_same, asd_in hj]
      · rw [z_sa_ne (by decide), z_sa_ne (by decide), z_ss_ne (by decide), z_sa_same]
      · rw [z_sa_ne (by decide), z_sa_ne (by decide), z_ss_same, upd_eq]
      · rw [z_sa_ne (by omega), z_sa_ne (by omega), z_ss_ne (by omega), z_sa_ne (by omega)]
      · rw [z_sa_ne (by decide), z_sa_ne (by decide), z_ss_same, upd_ne (by omega), z_sa_ne (by decide)]
    · have hlt : i < m := by
        rcases Nat.lt_or_ge i m with q | q
        · exact q
        · exact absurd (nI_le q (by omega)) d
      refine s_rgn (HN_itr H i).1 ?_
      intro Y9 e9 y10 e10
      refine hL (_, _, _, _) hlt ?_
      rw [e9, e10, nI_1, z_up_up]; rfl
  · refine s_in (a := 1) (b := 20) rfl rfl rfl (br1 (fun _ => ⟨vi (a := 0) (by omega) (by omega), ?_⟩) (fun q => bx w q))
    rw [zn0, W.1]
    exact ⟨fun q => absurd q c, fun _ => ⟨rfl, RE_bad R⟩⟩
theorem t_hurl {X : z_X} {n k : Nat} (R : RLn X n k) (a b d : Int32) : v_X5_hurl X a b d (fun r X' => v_X6_hurl (X' 19) a b d (fun r2 h' => r = r2 ∧ RLE (z_up X' 19 h'))) := by
  obtain ⟨-, ⟨H, hn2, T, W⟩, ⟨u, x, hu, hx, u0, u1, u2, old⟩, -, -, N⟩ := id R
  have hk8 := H.1.2.2.2.1
  have hn6 := H.1.2.2.1
  unfold v_X5_hurl v_X6_hurl
  refine c_isPerson H.1.1 (br0 (fun w => r_isPerson T.1 (br0 (fun _ => ⟨rfl, RE_bad R⟩) (fun q => bx q w))) (fun w => s_within (br0 (fun v => r_isPerson T.1 (br0 (fun q => bx w q) (fun _ => s_in (a := 0) (b := 3) rfl rfl rfl (br0 (fun _ => ⟨rfl, RE_bad R⟩) (fun q => bx q v))))) (fun v => s_within (br1 (fun z => ?_) (fun z => r_isPerson T.1 (br0 (fun q => bx w q) (fun _ => s_in (a := 0) (b := 3) rfl rfl rfl (br0 (fun q => bx v q) (fun _ => s_in (a := 1) (b := 20) rfl rfl rfl (br1 (fun q => bx q z) (fun _ => ⟨rfl, RE_bad R⟩))))))))))))
  obtain ⟨p, hp, rfl⟩ := (wi_nI (by omega)).mp w
  obtain ⟨s, hs1, hs, rfl⟩ := wi_nat (a := 1) (b := 20) (by omega) z (by omega)
  have ref : ∀ (r : Int32) (X' : z_X), X' 19 = X 19 → (X 0 5 p = 0 → r = -2 ∧ RLE (z_up X' 19 (X 19))) → (¬ X 0 5 p = 0 → k = 8 → r = -3 ∧ RLE (z_up X' 19 (X 19))) → (¬ X 0 5 p = 0 → k < 8 → ∀ f r6 G3, NT (X 19) 7 8 u f → RR n (k + 1) (ng (X 0) k b (nI s) (nI p)) r6 → (∀ i, i < 42 → G3 5 i = r6 i) → G3 7 = f → G3 0 8 = nI (min (u + 1) 8) → (∀ c, c = 1 ∨ c = 2 ∨ c = 9 ∨ c = 11 → G3 c = X 19 c) → (∀ j, j = 0 ∨ j = 10 ∨ j = 12 → G3 0 j = X 19 0 j) → r = nI k ∧ RLE (z_up X' 19 G3)) → v_X6_hurl (X' 19) (nI p) b (nI s) (fun r2 h' => r = r2 ∧ RLE (z_up X' 19 h')) := by
    intro r X' e19 k1 k2 k3
    unfold v_X6_hurl
    rw [e19, i4, zi (show 4 + p < 1000 by omega), W.2.2.2.2.1 p hp, zn2, W.2.2.1]
    refine r_isPerson T.1 (br0 (fun q => bx w q) (fun _ => s_in (a := 0) (b := 3) rfl rfl rfl (br0 (fun q => bx v q) (fun _ => s_in (a := 1) (b := 20) rfl rfl rfl (br1 (fun _ => ⟨vi (by omega) (by omega), fun c => ⟨vi (a := 2) (by omega) (by omega), fun e => ?_, fun e => ?_⟩, fun c => k1 c⟩) (fun q => bx z q))))))
    · have hk : k < 8 := by
        rcases Nat.lt_or_ge k 8 with q | q
        · exact q
        · exact absurd (by rw [show k = 8 by omega]; rfl) e
      refine r_note hu u2 (fun f F => r_aside ⟨vi (a := 2) (by omega) (by omega), ?_⟩)
      have g5 : z_ss (z_sa (X 19) 7 f) 0 8 (nI (min (u + 1) 8)) 5 = X 19 5 := by rw [z_ss_ne (by decide), z_sa_ne (by decide)]
      rw [g5, z_sa_same, asd_in (show 2 < 42 by omega), W.2.2.1]
      refine r_lays (m := k + 1) H (RR_aside H.1 W) (by omega) (by omega) (by omega) (by omega) (Or.inl (Nat.le_refl k)) ?_
      intro r2 e2 hr2
      refine ⟨vi (a := 2) (by omega) (by omega), vi (a := 2) (by omega) (by omega), ?_⟩
      intro h17 e17
      rw [z_sa_same, e2, nI_1, sa_ss] at e17
      subst e17
      have Rn : RR n (k + 1) (ng (X 0) k b (nI s) (nI p)) (upd r2 2 (nI (k + 1))) := hr2 _ (fun j hj => upd_ne hj) (upd_eq _ _ _)
      refine r_settle ⟨vi (a := 2) (by omega) (by omega), ?_⟩
      rw [z_sa_same, asd_in (show 2 < 42 by omega), z_sa_same, upd_eq, nI_pred]
      refine k3 c hk f _ _ F Rn (fun i hi => ?_) ?_ ?_ (fun c hc => ?_) (fun j hj => ?_)
      · rw [z_sa_same, asd_in hi]
      · rw [z_sa_ne (by decide), z_sa_ne (by decide), z_ss_ne (by decide), z_sa_same]
      · rw [z_sa_ne (by decide), z_sa_ne (by decide), z_ss_same, upd_eq]
      · rw [z_sa_ne (by omega), z_sa_ne (by omega), z_ss_ne (by omega), z_sa_ne (by omega)]
      · rw [z_sa_ne (by decide), z_sa_ne (by decide), z_ss_same, upd_ne (by omega), z_sa_ne (by decide)]
    · exact k2 c ((nI_eq (b := 8) (by omega) (by omega)).mp e)
  rw [H.1.2.1]
  refine s_isOut (by omega) (br0 (fun c => ⟨fun e => ?_, fun e => ?_⟩) (fun c => ?_))
  · have c := of_decide_eq_false c
    have hk : k < 8 := (nI_ltI (b := 8) (by omega) (by omega)).mp e
    refine s_put (by omega) hu hx u0 u1 (by omega) (by omega) (N _ (by omega)) (N 0 (by omega)) (fun X1 P => ?_)
    have P' := P
    obtain ⟨p1, p2, p3, p4⟩ := P'
    have e0 : X1 0 = X 0 := p4 0 (by decide) (by omega)
    have e19 : X1 19 = X 19 := p4 19 (by decide) (by omega)
    rw [e0]
    have ok : okG n k b (nI s) (nI p) = true := by
      unfold okG
      rw [decide_eq_true hk, v, z, w]; rfl
    refine s_addGlove H.1.1 H.1.2.1 hk8 (fun q => bx ok q) (fun _ => ?_)
    intro Y13 e13
    subst e13
    have H' : HN n (k + 1) (ng (X 0) k b (nI s) (nI p)) := HN_ng H hk hs1 hs hp
    rw [z_up_same, H'.1.2.1, nI_pred]
    refine ref _ _ (by rw [z_up_ne (by decide)]; exact e19) (fun q => absurd q c) (fun _ q => by omega) (fun _ _ f r6 G3 F R6 q5 q7 q8 qc qs => ⟨rfl, ?_⟩)
    exact act_end R hu hx old P F H' (TR_cong T (fun x _ => by rw [ng_4 _ _ _ _ _ _ (by decide) (by decide)]) (fun x _ => by rw [ng_4 _ _ _ _ _ _ (by decide) (by decide)])) (RR_42 H'.1 R6 q5) q7 q8 qc qs
  · have c := of_decide_eq_false c
    exact ref _ _ rfl (fun q => absurd q c) (fun _ _ => ⟨rfl, RE_bad R⟩) (fun _ q => absurd (nI_lt (b := 8) q (by omega)) e)
  · have c := of_decide_eq_true c
    exact ref _ _ rfl (fun _ => ⟨rfl, RE_bad R⟩) (fun q => absurd c q) (fun q => absurd c q)
