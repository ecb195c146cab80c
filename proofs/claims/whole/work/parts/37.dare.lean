/-! ===== PURE: the glove to throw; draws ===== -/
theorem perL_c (k : Nat) (h : z_G) (x : Nat) (h0 : x ≠ 0) (h5 : x ≠ 5) (h10 : x ≠ 10) (h12 : x ≠ 12) : ∀ r, perL k h r x = h x
  | 0 => rfl
  | r + 1 => by
    show P1 k (perL k h r) r x = h x
    unfold P1
    split
    · exact perL_c k h x h0 h5 h10 h12 r
    · rw [wr_cell _ _ _ _ h0 h5 h10 h12]; exact perL_c k h x h0 h5 h10 h12 r
/-- a glove that lies through part of a reign, or the one who has taken it up -/
theorem per_taken {n k g : Nat} {h : z_G} (H : HI n k h) (h0 : h 10 g = 1) : ∀ r, r ≤ n → (perL k h r 10 g = 1 ∧ perL k h r 12 g = h 12 g) ∨ (¬ perL k h r 10 g = 1 ∧ ∃ r', r' < r ∧ perL k h r 12 g = nI r' ∧ can (perL k h r') r' g = true)
  | 0, _ => Or.inl ⟨h0, rfl⟩
  | r + 1, hr => by
    have Hr := HI_perL H r (by omega)
    have hk := Hr.2.2.2.1
    rcases per_taken H h0 r (by omega) with ⟨a, b⟩ | ⟨a, r', b1, b2, b3⟩
    · rcases tg_cases k (perL k h r) r with e | ⟨g', hg, hc, e⟩
      · have es : perL k h (r + 1) = perL k h r := by
          show P1 k (perL k h r) r = _
          unfold P1; rw [if_pos e]
        rw [es]; exact Or.inl ⟨a, b⟩
      · have es : perL k h (r + 1) = wr (perL k h r) r g' := by
          show P1 k (perL k h r) r = _
          unfold P1
          rw [if_neg (by rw [e]; exact nI_ne4 (by omega)), e, z_n_nI (by omega)]
        rw [es, wr_10, wr_12]
        by_cases eg : g = g'
        · subst eg
          right
          rw [if_pos rfl, if_pos rfl]
          exact ⟨by decide, r, by omega, rfl, hc⟩
        · rw [if_neg eg, if_neg eg]
          exact Or.inl ⟨a, b⟩
    · obtain ⟨c, d⟩ := gone_P1 (r := r) (g := g) Hr a
      right
      refine ⟨by show ¬ P1 k (perL k h r) r 10 g = 1; rw [d]; exact a, r', by omega, ?_, b3⟩
      show P1 k (perL k h r) r 12 g = nI r'
      rw [c]; exact b2
theorem can_lk {h : z_G} {p g : Nat} (hc : can h p g = true) : lk (h 7 g) (szn (h 7 g) (h 8 g) (h 11 g)) (h 4 p) = true := by
  unfold can at hc
  simp only [Bool.and_eq_true] at hc
  exact hc.2.2.2
theorem itr_c (n k : Nat) (h : z_G) (x : Nat) (h0 : x ≠ 0) (h5 : x ≠ 5) (h10 : x ≠ 10) (h11 : x ≠ 11) (h12 : x ≠ 12) : ∀ j, itr n k h j x = h x
  | 0 => rfl
  | j + 1 => by
    rw [itr_s, rgn_c _ _ _ _ h0 h11, perL_c _ _ _ h0 h5 h10 h12]
    exact itr_c n k h x h0 h5 h10 h11 h12 j
theorem szn5 {a s : Int32} {j : Nat} (hj : j < 1000) : szn a s (nI j) = szn a s (nI (5 * (j / 5))) := by
  unfold szn
  rw [show (5 : Int32) = nI 5 from rfl, pk_div (by omega) (by omega) (by omega), pk_div (by omega) (by omega) (by omega), Nat.mul_div_cancel_left _ (by omega)]
theorem rgn_11 (n k : Nat) (h : z_G) (g : Nat) : rgn n k h 11 g = if g < k ∧ perL k h n 10 g = 1 then h 11 g + 1 else h 11 g := by
  unfold rgn
  rw [z_ss_ne (by decide), ag_11, perL_c k h 11 (by decide) (by decide) (by decide) (by decide)]
theorem tkn_mf {n k q : Nat} {h : z_G} {g : Nat} (H : HN n k h) (hg : g < k) (hq : q < n) (h10 : h 10 g = 1) (h12 : h 12 g = -4) (h11 : h 11 g = 0) : ∀ j, j ≤ 30 → (itr n k h j 10 g = 1 ∧ itr n k h j 12 g = -4 ∧ itr n k h j 11 g = nI j) ∨ (¬ itr n k h j 10 g = 1 ∧ (itr n k h j 12 g = nI q → mf (h 7 g) (h 8 g) (h 4 q) 0 6 = true))
  | 0, _ => Or.inl ⟨h10, h12, h11⟩
  | j + 1, hj => by
    have Hj := HN_itr H j
    have hn6 := H.1.2.2.1
    rcases tkn_mf H hg hq h10 h12 h11 j (by omega) with ⟨a, b, c⟩ | ⟨a, b⟩
    · rcases per_taken Hj.1 a n (Nat.le_refl n) with ⟨d, e⟩ | ⟨d, r', d1, d2, d3⟩
      · left
        rw [itr_s, rgn_11, rgn_c _ _ _ _ (by decide) (by decide), rgn_c _ _ _ _ (by decide) (by decide), if_pos ⟨hg, d⟩]
        exact ⟨d, e.trans b, by rw [c, nI_1]⟩
      · right
        rw [itr_s, rgn_c _ _ _ _ (by decide) (by decide), rgn_c _ _ _ _ (by decide) (by decide)]
        refine ⟨d, fun e => ?_⟩
        rw [d2] at e
        have er : r' = q := (nI_eq (by omega) (by omega)).mp e
        subst er
        have hl := can_lk d3
        rw [perL_c _ _ _ (by decide) (by decide) (by decide) (by decide), perL_c _ _ _ (by decide) (by decide) (by decide) (by decide), perL_c _ _ _ (by decide) (by decide) (by decide) (by decide), perL_c _ _ _ (by decide) (by decide) (by decide) (by decide)] at hl
        rw [c, itr_c _ _ _ _ (by decide) (by decide) (by decide) (by decide) (by decide), itr_c _ _ _ _ (by decide) (by decide) (by decide) (by decide) (by decide), itr_c _ _ _ _ (by decide) (by decide) (by decide) (by decide) (by decide), szn5 (by omega)] at hl
        exact mf_of (Nat.zero_le _) (by omega) hl
    · right
      obtain ⟨c, d⟩ := gone_rgn Hj.1 a
      rw [itr_s, c, d]
      exact ⟨a, b⟩
theorem ng_rd (h : z_G) (k : Nat) (a b c : Int32) (x : Nat) (hx : 7 ≤ x) : ng h k a b c x k = if x = 7 then a else if x = 8 then b else if x = 9 then c else if x = 10 then 1 else if x = 11 then 0 else if x = 12 then -4 else h x k := by
  unfold ng
  have e : z_ss h 0 1 (nI (k + 1)) x k = h x k := by rw [z_ss_rd, if_neg (by omega)]
  rw [pg_rd, if_pos rfl, e]
theorem ng_4 (h : z_G) (k : Nat) (a b c : Int32) (x : Nat) (hx : x < 7) (h0 : x ≠ 0) : ng h k a b c x = h x := by
  unfold ng
  rw [pg_0 _ _ _ _ _ _ hx, z_ss_ne h0]
theorem tkn_may {n k s p q : Nat} {h : z_G} {a : Int32} (H : HN n k h) (hk : k < 8) (hs : 1 ≤ s) (hs2 : s ≤ 20) (hp : p < n) (hq : q < n) (ht : tkn n k h a (nI s) p q = true) : mf a (nI s) (h 4 q) 0 6 = true := by
  have H' : HN n (k + 1) (ng h k a (nI s) (nI p)) := HN_ng H hk hs hs2 hp
  have ht := of_decide_eq_true ht
  have key := tkn_mf (g := k) (q := q) H' (by omega) hq (by rw [ng_rd _ _ _ _ _ _ (by decide)]; rfl) (by rw [ng_rd _ _ _ _ _ _ (by decide)]; rfl) (by rw [ng_rd _ _ _ _ _ _ (by decide)]; rfl) 30 (Nat.le_refl 30)
  have hn6 := H.1.2.2.1
  rcases key with ⟨-, b, -⟩ | ⟨-, b⟩
  · rw [b] at ht
    exact absurd ht.symm (nI_ne4 (by omega))
  · have := b ht
    rw [ng_rd _ _ _ _ _ _ (by decide), ng_rd _ _ _ _ _ _ (by decide), ng_4 _ _ _ _ _ _ (by decide) (by decide)] at this
    exact this
/-- the first of 80 codes -/
def FirstC (T : Nat → Bool) (r : Int32) : Prop := (r = -4 ∧ ∀ c, c < 80 → T c = false) ∨ ∃ c, c < 80 ∧ T c = true ∧ (∀ c', c' < c → T c' = false) ∧ r = nI (100 * (c / 20) + (c % 20 + 1))
theorem FirstC_one {T : Nat → Bool} {r r' : Int32} (h : FirstC T r) (h' : FirstC T r') : r = r' := by
  rcases h with ⟨e, h1⟩ | ⟨c, h1, h2, h3, e⟩ <;> rcases h' with ⟨e', g1⟩ | ⟨c', g1, g2, g3, e'⟩
  · rw [e, e']
  · rw [h1 c' g1] at g2; cases g2
  · rw [g1 c h1] at h2; cases h2
  · have : c = c' := by
      rcases Nat.lt_trichotomy c c' with q | q | q
      · rw [g3 c q] at h2; cases h2
      · exact q
      · rw [h3 c' q] at g2; cases g2
    rw [e, e', this]
def tkc (n k : Nat) (h : z_G) (p q c : Nat) : Bool := tkn n k h (nI (c / 20)) (nI (c % 20 + 1)) p q
theorem s_gloveToThrow {n k p q o : Nat} {Y : z_X} {K : Int32 → z_X → Prop} (ho : o ≠ 2) (H : HN n k (Y o)) (H2 : NF (Y 2)) (hk : k < 8) (hp : p < n) (hq : q < n) (hK : ∀ r h', FirstC (tkc n k (Y o) p q) r → NF h' → K r (z_up Y 2 h')) : v_X0_gloveToThrow o Y (nI p) (nI q) K := by
  have hn6 := H.1.2.2.1
  unfold v_X0_gloveToThrow v_X0_gloveToThrow_b3
  refine z_for 4 (fun i z => ∃ h', NF h' ∧ z = (z_up Y 2 h', nI p, nI q, nI i) ∧ ∀ c, c < 20 * i → tkc n k (Y o) p q c = false) ?_ (Nat.zero_le 4) ⟨Y 2, H2, by rw [z_up_self]; rfl, fun c hc => by omega⟩
  rintro i ⟨Y', x1, x2, x3⟩ hi ⟨h', N', e, hS⟩ Lp hL
  obtain ⟨rfl, e2⟩ := Prod.mk.inj e
  obtain ⟨rfl, e3⟩ := Prod.mk.inj e2
  obtain ⟨rfl, rfl⟩ := Prod.mk.inj e3
  show v_X0_gloveToThrow_b3_s o K _ (z_up Y 2 h') (nI p) (nI q) (nI i)
  unfold v_X0_gloveToThrow_b3_s
  refine ⟨fun c => ?_, fun c => ?_⟩
  · have : i = 4 := by have := (nI_leI (a := 4) (by omega) (by omega)).mp c; omega
    subst this
    exact hK _ _ (Or.inl ⟨rfl, fun c hc => hS c (by omega)⟩) N'
  · have hlt : i < 4 := by
      rcases Nat.lt_or_ge i 4 with q | q
      · exact q
      · exact absurd (nI_le (a := 4) q (by omega)) c
    unfold v_X0_gloveToThrow_b12
    refine z_for 20 (fun j z => ∃ h', NF h' ∧ z = (z_up Y 2 h', nI p, nI q, nI i, nI (j + 1)) ∧ ∀ c, c < 20 * i + j → tkc n k (Y o) p q c = false) ?_ (Nat.zero_le 20) ⟨h', N', rfl, fun c hc => hS c (by omega)⟩
    rintro j ⟨Y', x1, x2, x3, x4⟩ hj ⟨h', N', e, hS⟩ Lq hM
    obtain ⟨rfl, e2⟩ := Prod.mk.inj e
    obtain ⟨rfl, e3⟩ := Prod.mk.inj e2
    obtain ⟨rfl, e4⟩ := Prod.mk.inj e3
    obtain ⟨rfl, rfl⟩ := Prod.mk.inj e4
    show v_X0_gloveToThrow_b12_s o K _ _ (z_up Y 2 h') (nI p) (nI q) (nI i) (nI (j + 1))
    unfold v_X0_gloveToThrow_b12_s
    refine ⟨fun c => ?_, fun c => ?_⟩
    · have : 20 < j + 1 := (nI_ltI (a := 20) (by omega) (by omega)).mp c
      intro y ey
      exact hL (_, _, _, _) hlt ⟨h', N', by rw [ey, nI_1], fun c hc => hS c (by omega)⟩
    · have hlj : j < 20 := by
        rcases Nat.lt_or_ge j 20 with q | q
        · exact q
        · exact absurd (nI_lt (a := 20) (by omega) (by omega)) c
      have ec : tkc n k (Y o) p q (20 * i + j) = tkn n k (Y o) (nI i) (nI (j + 1)) p q := by
        unfold tkc
        rw [show (20 * i + j) / 20 = i by omega, show (20 * i + j) % 20 = j by omega]
      have next : ∀ (h'' : z_G), NF h'' → tkn n k (Y o) (nI i) (nI (j + 1)) p q = false → ∀ y : Int32, y = nI (j + 1) + 1 → Lq (z_up Y 2 h'', nI p, nI q, nI i, y) := by
        intro h'' N'' hn y ey
        refine hM _ hlj ⟨h'', N'', by rw [ey, nI_1], fun c hc => ?_⟩
        by_cases e : c = 20 * i + j
        · rw [e, ec]; exact hn
        · exact hS c (by omega)
      rw [up2 ho, z_n_nI (show q < 2 ^ 31 by omega)]
      refine ⟨vp_in_nI (by omega) (by omega), s_mayFit (br0 (fun w => ?_) (fun w => ?_))⟩
      · refine next h' N' ?_
        cases ht : tkn n k (Y o) (nI i) (nI (j + 1)) p q
        · rfl
        · have := tkn_may H hk (by omega) (by omega) hp hq ht
          rw [w] at this; cases this
      · refine s_isTakenUp ho (by rw [up2 ho]; exact H) (by rw [z_up_same]; exact N') hk (by omega) (by omega) (by omega) hp ?_
        intro h3 N3
        rw [z_up_up, up2 ho]
        refine br0 (fun z => next h3 N3 z) (fun z => ?_)
        refine hK _ _ (Or.inr ⟨20 * i + j, by omega, by rw [ec]; exact z, fun c hc => hS c hc, ?_⟩) N3
        rw [show (100 : Int32) = nI 100 from rfl, pk_mul, nI_add, show (20 * i + j) / 20 = i by omega, show (20 * i + j) % 20 = j by omega]
/-! draws -/
def drx (z i : Nat) : Nat := 7919 * z + 6151 * i + 1
def drw (z i : Nat) : Nat := drx z i * drx z i % 65521 / 2
theorem drw_lt (z i : Nat) : drw z i < 32761 := by unfold drw; omega
theorem drx_le {z i : Nat} (hz : z ≤ 9999) (hi : i ≤ 60) : drx z i ≤ 80000000 := by unfold drx; omega
theorem drx_sq {z i : Nat} (hz : z ≤ 9999) (hi : i ≤ 60) : drx z i * drx z i < 2 ^ 63 :=
  Nat.lt_of_le_of_lt (Nat.mul_le_mul (drx_le hz hi) (drx_le hz hi)) (by decide)
theorem drx_l {z i : Nat} (hz : z ≤ 9999) (hi : i ≤ 60) : ((7919 : Int64) * (nI z).toInt64 + (6151 : Int64) * (nI i).toInt64) + (1 : Int64) = lN (drx z i) := by
  rw [nI_l (by omega), nI_l (by omega), show (7919 : Int64) = lN 7919 from rfl, show (6151 : Int64) = lN 6151 from rfl, lN_mul, lN_mul, lN_add, lN_1]
  rfl
theorem rem_nI {a d : Nat} (ha : a < 2 ^ 31) (h0 : 0 < d) (hd : d < 2 ^ 31) : nI a - nI a / nI d * nI d = nI (a % d) := pk_rem ha h0 hd
/-- one act by a draw -/
def dst (n k : Nat) (h : z_G) (d : Nat) : z_G :=
  if d / 8 % 4 = 0 then
    (if loF (fun g => decide (h 10 g = 0)) 0 k = -4 ∨ h 5 (d % n) = 0 then h else pg h (z_n (loF (fun g => decide (h 10 g = 0)) 0 k)) (nI (d / 32 % 4)) (nI (d / 128 % 20 + 1)) (nI (d % n)))
  else if d / 8 % 4 = 1 then
    (if loF (fun g => decide (h 10 g = 1)) 0 k = -4 then h else z_ss h 10 (z_n (loF (fun g => decide (h 10 g = 1)) 0 k)) 0)
  else h
theorem HN_pg {n k g s q : Nat} {h : z_G} {a : Int32} (H : HN n k h) (hg : g < k) (hs : 1 ≤ s) (hs2 : s ≤ 20) (hq : q < n) : HN n k (pg h g a (nI s) (nI q)) := by
  obtain ⟨⟨h1, h2, h3, h4, h5, h6, h7, h8⟩, H2⟩ := H
  refine ⟨⟨by rw [pg_0 _ _ _ _ _ _ (by decide)]; exact h1, by rw [pg_0 _ _ _ _ _ _ (by decide)]; exact h2, h3, h4, fun x hx => ?_, fun x hx => ?_, fun x hx => ?_, fun x hx => ?_⟩, NF_pg H2 (by omega)⟩
  · rw [pg_rd]
    split
    · exact ⟨q, hq, by simp⟩
    · exact h5 x hx
  · rw [pg_rd]
    split
    · simp [z_b]
    · exact h6 x hx
  · rw [pg_0 _ _ _ _ _ _ (by decide)]; exact h7 x hx
  · rw [pg_rd]
    split
    · exact ⟨s, hs, hs2, by simp⟩
    · exact h8 x hx
theorem HN_lie {n k g : Nat} {h : z_G} (H : HN n k h) (hg : g < k) : HN n k (z_ss h 10 g 0) := by
  obtain ⟨⟨h1, h2, h3, h4, h5, h6, h7, h8⟩, H2⟩ := H
  refine ⟨⟨by rw [z_ss_ne (by decide)]; exact h1, by rw [z_ss_ne (by decide)]; exact h2, h3, h4, fun x hx => by rw [z_ss_ne (by decide)]; exact h5 x hx, fun x hx => ?_, fun x hx => by rw [z_ss_ne (by decide)]; exact h7 x hx, fun x hx => by rw [z_ss_ne (by decide)]; exact h8 x hx⟩, NF_ss H2 (rel_of (by omega))⟩
  rw [z_ss_rd]
  split
  · exact Or.inl rfl
  · exact h6 x hx
theorem HN_dst {n k : Nat} {h : z_G} (H : HN n k h) (hn : 0 < n) (d : Nat) : HN n k (dst n k h d) := by
  have hk := H.1.2.2.2.1
  unfold dst
  split
  · split
    · exact H
    · rename_i hne
      rcases loF_cases (fun g => decide (h 10 g = 0)) k 0 with ⟨e, -⟩ | ⟨g, -, h2, -, e⟩
      · exact absurd (Or.inl e) hne
      · rw [e, z_n_nI (by omega)]
        exact HN_pg H (by omega) (by omega) (by omega) (Nat.mod_lt _ hn)
  · split
    · split
      · exact H
      · rename_i hne
        rcases loF_cases (fun g => decide (h 10 g = 1)) k 0 with ⟨e, -⟩ | ⟨g, -, h2, -, e⟩
        · exact absurd e hne
        · rw [e, z_n_nI (by omega)]
          exact HN_lie H (by omega)
    · exact H
theorem s_actByDraw {n k z i : Nat} {h : z_G} {K : z_G → Prop} (H : HN n k h) (hn : 0 < n) (hz : z ≤ 9999) (hi : i ≤ 60) (hK : K (dst n k h (drw z i))) : v_X0_actByDraw h (nI z) (nI i) K := by
  unfold v_X0_actByDraw
  intro y1 e1 y2 e2 y3 e3
  rw [drx_l hz hi] at e1
  have sq := drx_sq hz hi
  have hd := drw_lt z i
  have e2' : y2 = nI (drw z i) := by
    rw [e2, e1, lN_mul, show (65521 : Int64) = lN 65521 from rfl, pk_lRem sq (by omega) (by omega), show (2 : Int64) = lN 2 from rfl, pk_lDiv (by omega) (by omega) (by omega), lN_i]
    rfl
  clear e2
  have e3' : y3 = nI (drw z i / 8 % 4) := by
    rw [e3, e2', show (8 : Int32) = nI 8 from rfl, pk_div (by omega) (by omega) (by omega), show (4 : Int32) = nI 4 from rfl, rem_nI (by omega) (by omega) (by omega)]
  clear e3
  subst e2'
  generalize hdd : drw z i = d at *
  have hn6 := H.1.2.2.1
  have hk8 := H.1.2.2.2.1
  have b70 : ∀ (h' : z_G), HN n k h' → (d / 8 % 4 = 1 → K (if loF (fun g => decide (h' 10 g = 1)) 0 k = -4 then h' else z_ss h' 10 (z_n (loF (fun g => decide (h' 10 g = 1)) 0 k)) 0)) → (¬ d / 8 % 4 = 1 → K h') → v_X0_actByDraw_b70 K h' y3 := by
    intro h' H' k1 k2
    unfold v_X0_actByDraw_b70
    rw [e3']
    refine ⟨fun c => k2 (fun q => c (by rw [q]; rfl)), fun c => ?_⟩
    have c : d / 8 % 4 = 1 := (nI_eq (b := 1) (by omega) (by omega)).mp c
    have k1 := k1 c
    refine s_lowestWith H'.1 ?_
    refine ⟨fun w => ?_, fun w => ?_⟩
    · rw [if_pos w] at k1; exact k1
    · rw [if_neg w] at k1
      rcases loF_cases (fun g => decide (h' 10 g = 1)) k 0 with ⟨e, -⟩ | ⟨g, -, h2, -, e⟩
      · exact absurd e w
      · rw [e] at k1 ⊢
        refine ⟨vp_in_nI (by omega) (by omega), ?_⟩
        intro h9 e9
        exact kE k1 e9
  unfold dst at hK
  rw [H.1.1]
  refine ⟨fun c => ?_, fun c => ?_⟩
  · have c : ¬ d / 8 % 4 = 0 := fun q => c (by rw [e3', q]; rfl)
    rw [if_neg c] at hK
    refine b70 h H (fun q => ?_) (fun q => ?_)
    · rw [if_pos q] at hK; exact hK
    · rw [if_neg q] at hK; exact hK
  · have c : d / 8 % 4 = 0 := by
      rw [e3'] at c
      exact (nI_eq (b := 0) (by omega) (by omega)).mp c
    rw [if_pos c] at hK
    refine ⟨fun w => absurd w (nI_nle hn (by omega)), fun _ => ⟨nI_ne0 hn (by omega), ?_⟩⟩
    rw [rem_nI (by omega) hn (by omega)]
    have fin : ∀ h', HN n k h' → K h' → v_X0_actByDraw_b70 K h' y3 := fun h' H' k' => b70 h' H' (fun q => by omega) (fun _ => k')
    unfold v_X0_throwByDraw
    have hm : d % n < n := Nat.mod_lt _ hn
    refine s_lowestWith H.1 ⟨fun w => ?_, fun w => s_isOut (by omega) (br1 (fun u => ?_) (fun u => ?_))⟩
    · rw [if_pos (Or.inl w)] at hK
      exact fin h H hK
    · rw [if_pos (Or.inr (of_decide_eq_true u))] at hK
      exact fin h H hK
    · have u := of_decide_eq_false u
      rw [if_neg (fun q => q.elim w u)] at hK
      rcases loF_cases (fun g => decide (h 10 g = 0)) k 0 with ⟨e, -⟩ | ⟨g, -, h2, -, e⟩
      · exact absurd e w
      · rw [e, z_n_nI (show g < 2 ^ 31 by omega)] at hK
        have q1 : nI d / 32 - nI d / 32 / 4 * 4 = nI (d / 32 % 4) := by
          rw [show (32 : Int32) = nI 32 from rfl, show (4 : Int32) = nI 4 from rfl, pk_div (a := d) (d := 32) (by omega) (by omega) (by omega), rem_nI (by omega) (by omega) (by omega)]
        have q2 : nI d / 128 - nI d / 128 / 20 * 20 + 1 = nI (d / 128 % 20 + 1) := by
          rw [show (128 : Int32) = nI 128 from rfl, show (20 : Int32) = nI 20 from rfl, pk_div (a := d) (d := 128) (by omega) (by omega) (by omega), rem_nI (by omega) (by omega) (by omega), nI_1]
        rw [e, q1, q2]
        refine s_putGlove (by omega) ?_
        exact fin _ (HN_pg H (by omega) (by omega) (by omega) hm) hK
/-- a time by draws -/
def tmi (n k : Nat) (h : z_G) (z : Nat) : Nat → z_G
  | 0 => h
  | i + 1 => rgn n k (dst n k (tmi n k h z i) (drw z i))
theorem HN_tmi {n k : Nat} {h : z_G} (H : HN n k h) (hn : 0 < n) (z : Nat) : ∀ i, HN n k (tmi n k h z i)
  | 0 => H
  | i + 1 => HN_rgn (HN_dst (HN_tmi H hn z i) hn _)
theorem s_behindDraws {n k z m o : Nat} {Y : z_X} {K : z_X → Prop} (ho : o ≠ 2) (H : HN n k (Y o)) (hn : 0 < n) (H2 : NF (Y 2)) (hz : z ≤ 9999) (hm : m ≤ 60) (hK : K (z_up Y 2 (tmi n k (Y o) z m))) : v_X0_hallBehindDraws o Y (nI z) (nI m) K := by
  unfold v_X0_hallBehindDraws
  refine s_copy ho H2 H.2 ?_
  unfold v_X0_hallBehindDraws_b11
  refine z_for m (fun i q => q = (z_up Y 2 (tmi n k (Y o) z i), nI z, nI m, nI i)) ?_ (Nat.zero_le m) rfl
  rintro i ⟨Y', x1, x2, x3⟩ hi e Lp hL
  obtain ⟨rfl, e2⟩ := Prod.mk.inj e
  obtain ⟨rfl, e3⟩ := Prod.mk.inj e2
  obtain ⟨rfl, rfl⟩ := Prod.mk.inj e3
  show v_X0_hallBehindDraws_b11_s o K _ (z_up Y 2 (tmi n k (Y o) z i)) (nI z) (nI m) (nI i)
  unfold v_X0_hallBehindDraws_b11_s
  refine ⟨fun c => ?_, fun c => ?_⟩
  · have : i = m := by have := (nI_leI (by omega) (by omega)).mp c; omega
    subst this
    exact hK
  · have hlt : i < m := by
      rcases Nat.lt_or_ge i m with q | q
      · exact q
      · exact absurd (nI_le q (by omega)) c
    rw [z_up_same]
    have Hi := HN_tmi H hn z i
    refine s_actByDraw Hi hn hz (by omega) ?_
    intro Y4 e4
    rw [z_up_up] at e4
    subst e4
    rw [z_up_same]
    refine s_rgn (HN_dst Hi hn _).1 ?_
    intro Y7 e7 y ey
    rw [z_up_up] at e7
    exact hL (_, _, _, _) hlt (by rw [e7, ey, nI_1]; rfl)
