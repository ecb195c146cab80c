/-! ===== PURE: the start: class and reference tell the same hall ===== -/
def gq0 : z_G := em (zz 0)
def gq1 : z_G := np gq0 0 (nI 8) (nI 10) (nI 1)
def gq2 : z_G := np gq1 1 (nI 6) (nI 12) (nI 0)
def gq3 : z_G := np gq2 2 (nI 4) (nI 7) (nI 1)
def gq4 : z_G := np gq3 3 (nI 9) (nI 20) (nI 0)
def gq5 : z_G := np gq4 4 (nI 7) (nI 5) (nI 1)
def gq6 : z_G := ng gq5 0 (nI 0) (nI 8) (nI 3)
def gq7 : z_G := ng gq6 1 (nI 1) (nI 5) (nI 1)
def gq8 : z_G := ng gq7 2 (nI 2) (nI 4) (nI 3)
def gq9 : z_G := ng gq8 3 (nI 3) (nI 9) (nI 1)
def gq10 : z_G := ng gq9 4 (nI 0) (nI 7) (nI 0)
theorem hq0 : HN 0 0 gq0 := HN_em zz_NF
theorem hq1 : HN 1 0 gq1 := HN_np hq0 (by decide) (by decide)
theorem hq2 : HN 2 0 gq2 := HN_np hq1 (by decide) (by decide)
theorem hq3 : HN 3 0 gq3 := HN_np hq2 (by decide) (by decide)
theorem hq4 : HN 4 0 gq4 := HN_np hq3 (by decide) (by decide)
theorem hq5 : HN 5 0 gq5 := HN_np hq4 (by decide) (by decide)
theorem hq6 : HN 5 1 gq6 := HN_ng hq5 (by decide) (by decide) (by decide) (by decide)
theorem hq7 : HN 5 2 gq7 := HN_ng hq6 (by decide) (by decide) (by decide) (by decide)
theorem hq8 : HN 5 3 gq8 := HN_ng hq7 (by decide) (by decide) (by decide) (by decide)
theorem hq9 : HN 5 4 gq9 := HN_ng hq8 (by decide) (by decide) (by decide) (by decide)
theorem hq10 : HN 5 5 gq10 := HN_ng hq9 (by decide) (by decide) (by decide) (by decide)
theorem rd_p {f q n k q' : Nat} {h : z_G} {a b c : Int32} (hq : q < 73) (hk : ik (txL 73) 73 n k q = 1) (h3 : qs (txL 73) 73 (q + 1) 3 = q') (ha : nb (txL 73) 73 (q + 1) 0 = a) (hb : nb (txL 73) 73 (q + 1) 1 = b) (hc : nb (txL 73) 73 (q + 1) 2 = c) : rdF (txL 73) 73 (f + 1) q n k h = rdF (txL 73) 73 f q' (n + 1) k (np h n a b c) := by
  rw [rdF, if_neg (by omega), if_pos hk, h3]
  unfold npq
  rw [ha, hb, hc]
theorem rd_g {f q n k q' : Nat} {h : z_G} {a b c : Int32} (hq : q < 73) (hk : ik (txL 73) 73 n k q = 2) (h3 : qs (txL 73) 73 (q + 1) 3 = q') (ha : nb (txL 73) 73 (q + 1) 0 = a) (hb : nb (txL 73) 73 (q + 1) 1 = b) (hc : nb (txL 73) 73 (q + 1) 2 = c) : rdF (txL 73) 73 (f + 1) q n k h = rdF (txL 73) 73 f q' n (k + 1) (ng h k a b c) := by
  rw [rdF, if_neg (by omega), if_neg (by omega), if_pos hk, h3]
  unfold ngq
  rw [ha, hb, hc]
theorem rq0 : rdF (txL 73) 73 (199 + 1) 0 0 0 gq0 = rdF (txL 73) 73 199 8 1 0 gq1 := rd_p (by decide) (by decide +kernel) (by decide +kernel) (by decide +kernel) (by decide +kernel) (by decide +kernel)
theorem rq1 : rdF (txL 73) 73 (198 + 1) 8 1 0 gq1 = rdF (txL 73) 73 198 16 2 0 gq2 := rd_p (by decide) (by decide +kernel) (by decide +kernel) (by decide +kernel) (by decide +kernel) (by decide +kernel)
theorem rq2 : rdF (txL 73) 73 (197 + 1) 16 2 0 gq2 = rdF (txL 73) 73 197 23 3 0 gq3 := rd_p (by decide) (by decide +kernel) (by decide +kernel) (by decide +kernel) (by decide +kernel) (by decide +kernel)
theorem rq3 : rdF (txL 73) 73 (196 + 1) 23 3 0 gq3 = rdF (txL 73) 73 196 31 4 0 gq4 := rd_p (by decide) (by decide +kernel) (by decide +kernel) (by decide +kernel) (by decide +kernel) (by decide +kernel)
theorem rq4 : rdF (txL 73) 73 (195 + 1) 31 4 0 gq4 = rdF (txL 73) 73 195 38 5 0 gq5 := rd_p (by decide) (by decide +kernel) (by decide +kernel) (by decide +kernel) (by decide +kernel) (by decide +kernel)
theorem rq5 : rdF (txL 73) 73 (194 + 1) 38 5 0 gq5 = rdF (txL 73) 73 194 45 5 1 gq6 := rd_g (by decide) (by decide +kernel) (by decide +kernel) (by decide +kernel) (by decide +kernel) (by decide +kernel)
theorem rq6 : rdF (txL 73) 73 (193 + 1) 45 5 1 gq6 = rdF (txL 73) 73 193 52 5 2 gq7 := rd_g (by decide) (by decide +kernel) (by decide +kernel) (by decide +kernel) (by decide +kernel) (by decide +kernel)
theorem rq7 : rdF (txL 73) 73 (192 + 1) 52 5 2 gq7 = rdF (txL 73) 73 192 59 5 3 gq8 := rd_g (by decide) (by decide +kernel) (by decide +kernel) (by decide +kernel) (by decide +kernel) (by decide +kernel)
theorem rq8 : rdF (txL 73) 73 (191 + 1) 59 5 3 gq8 = rdF (txL 73) 73 191 66 5 4 gq9 := rd_g (by decide) (by decide +kernel) (by decide +kernel) (by decide +kernel) (by decide +kernel) (by decide +kernel)
theorem rq9 : rdF (txL 73) 73 (190 + 1) 66 5 4 gq9 = rdF (txL 73) 73 190 73 5 5 gq10 := rd_g (by decide) (by decide +kernel) (by decide +kernel) (by decide +kernel) (by decide +kernel) (by decide +kernel)
theorem rq10 : rdF (txL 73) 73 (189 + 1) 73 5 5 gq10 = (-4, 5, 5, gq10) := by rw [rdF, if_pos (Nat.le_refl 73)]
theorem hE5_eq : hE5 = gq10 := by
  have e : rdF (txL 73) 73 200 0 0 0 gq0 = (-4, 5, 5, gq10) := rq0.trans (rq1.trans (rq2.trans (rq3.trans (rq4.trans (rq5.trans (rq6.trans (rq7.trans (rq8.trans (rq9.trans (rq10))))))))))
  show (rdF (txL 73) 73 200 0 0 0 gq0).2.2.2 = gq10
  rw [e]
def St6 (G : z_G) : Prop := G 0 0 = 0 ∧ G 0 8 = 0 ∧ G 0 10 = 0 ∧ G 0 12 = 0 ∧ TR 5 gq10 (G 2) ∧ RR 5 5 gq10 (G 5)
def RZ (n k : Nat) (h G : z_G) : Prop := G 0 = zz 19 0 ∧ RD n k h G
theorem p_empty : v_X6_empty (zz 19) (fun G => RZ 0 0 gq0 G) := by
  refine r_empty ⟨?_, hq0, ⟨?_, fun p hp => absurd hp (Nat.not_lt_zero p), fun p hp => absurd hp (Nat.not_lt_zero p)⟩, ⟨?_, ?_, ?_, ?_, fun p hp => absurd hp (Nat.not_lt_zero p), fun g hg => absurd hg (Nat.not_lt_zero g)⟩, fun g _ hg => ?_⟩
  · rw [z_sa_ne (by decide), z_sa_ne (by decide)]
  · rw [z_sa_ne (by decide), z_sa_same, asd_in (by decide)]; rfl
  · rw [z_sa_same, asd_in (by decide)]; rfl
  · rw [z_sa_same, asd_in (by decide)]; rfl
  · rw [z_sa_same, asd_in (by decide)]; rfl
  · rw [z_sa_same, asd_in (by decide)]; rfl
  · rw [z_sa_same, asd_in (by omega)]
theorem p_person {n k : Nat} {h G : z_G} {a b c : Int32} (R : RZ n k h G) (hn : n < 6) (H' : HN (n + 1) k (np h n a b c)) : v_X6_personIs G a b c (fun G' => RZ (n + 1) k (np h n a b c) G') := r_personIs R.2 hn H' (fun G' _ e D => ⟨e.trans R.1, D⟩)
theorem p_glove {n k : Nat} {h G : z_G} {a b c : Int32} (R : RZ n k h G) (hk : k < 8) (H' : HN n (k + 1) (ng h k a b c)) : v_X6_gloveIs G a b c (fun G' => RZ n (k + 1) (ng h k a b c) G') := r_gloveIs R.2 hk H' (fun G' _ e D => ⟨e.trans R.1, D⟩)
theorem p_begin {G : z_G} (R : RZ 5 5 gq10 G) : v_X6_begin G (fun G' => St6 G') := by
  obtain ⟨e0, DH, DT, DW, -⟩ := R
  refine r_begin ⟨?_, ?_, ?_, ?_, ?_, ?_⟩
  · rw [z_ss_same, upd_ne (by decide), z_ss_same, upd_ne (by decide), z_ss_same, upd_ne (by decide), z_sa_ne (by decide), z_sa_ne (by decide), e0]
  · rw [z_ss_same, upd_ne (by decide), z_ss_same, upd_eq]
  · rw [z_ss_same, upd_eq]
  · rw [z_ss_same, upd_ne (by decide), z_ss_same, upd_ne (by decide), z_ss_same, upd_eq]
  · rw [z_ss_ne (by decide), z_ss_ne (by decide), z_ss_ne (by decide), z_sa_ne (by decide), z_sa_same]
    exact ⟨by rw [asd_in (by decide)]; exact DT.1, fun p hp => by rw [asd_in (by omega)]; exact DT.2.1 p hp, fun p hp => by rw [asd_in (by omega)]; exact DT.2.2 p hp⟩
  · rw [z_ss_ne (by decide), z_ss_ne (by decide), z_ss_ne (by decide), z_sa_same]
    exact RR_42 DH.1 DW (fun j hj => asd_in hj)
theorem zz_nf (o : Nat) : NF (zz o) := fun _ _ _ => rfl
theorem start_RL {X : z_X} (h13 : X 13 0 0 = 0) (h0 : X 0 = hE5) (hz : ∀ o, o ≠ 0 → o ≠ 13 → o ≠ 19 → X o = zz o) (h6 : St6 (X 19)) : RLE X := by
  rw [hE5_eq] at h0
  obtain ⟨g0, g8, g10, g12, T, W⟩ := h6
  have z14 := hz 14 (by decide) (by decide) (by decide)
  have z15 := hz 15 (by decide) (by decide) (by decide)
  have z16 := hz 16 (by decide) (by decide) (by decide)
  refine ⟨5, 5, ⟨0, h13, g0, by omega, fun j hj => absurd hj (Nat.not_lt_zero j)⟩, ⟨by rw [h0]; exact hq10, by omega, by rw [h0]; exact T, by rw [h0]; exact W⟩, ⟨0, 0, by omega, by omega, by rw [z14]; rfl, by rw [z14]; rfl, g8, fun j hj => absurd hj (Nat.not_lt_zero j)⟩, ⟨0, 0, by omega, by omega, by rw [z15]; rfl, by rw [z15]; rfl, g10, fun j hj => absurd hj (Nat.not_lt_zero j)⟩, ⟨0, by omega, by rw [z16]; rfl, g12, fun j hj => absurd hj (Nat.not_lt_zero j)⟩, fun i hi => ?_⟩
  by_cases a0 : i = 0
  · subst a0; rw [h0]; exact hq10.2
  · rw [hz i a0 (by omega) (by omega)]; exact zz_nf i
