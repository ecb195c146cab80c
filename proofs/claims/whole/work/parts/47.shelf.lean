/-! ===== PURE: shelves and rows ===== -/
def PT (X X1 : z_X) (sg sb m u x : Nat) : Prop := X1 sg 0 0 = nI (min (u + 1) m) ∧ X1 sg 0 1 = nI ((x + 1) % m) ∧ X1 (sb + x) = X 0 ∧ ∀ i, i ≠ sg → i ≠ sb + x → X1 i = X i
theorem s_put {X : z_X} {sg sb m u x : Nat} {K : z_X → Prop} (hm : m ≤ 8) (hu : u ≤ m) (hx : x < m) (e0 : X sg 0 0 = nI u) (e1 : X sg 0 1 = nI x) (hb : 0 < sb) (hs : sb + x ≠ sg) (n1 : NF (X (sb + x))) (n2 : NF (X 0)) (hK : ∀ X1, PT X X1 sg sb m u x → K X1) : v_X3_put sg sb m 0 X K := by
  unfold v_X3_put
  rw [e1, zi (show x < 1000 by omega)]
  refine ⟨vi hx (by omega), s_copy (by omega) n1 n2 ?_⟩
  rw [z_up_ne (fun e => hs e.symm), e1, nI_1]
  have fin : ∀ t : Int32, t = nI ((x + 1) % m) → v_X3_put_b45 sg sb m 0 K (z_up X (sb + x) (X 0)) t := by
    intro t ht
    unfold v_X3_put_b45
    intro Y4 e4 Y5 e5
    have c0 : Y4 sg 0 0 = nI u := by rw [e4, z_up_same, z_ss_same, upd_ne (by omega), z_up_ne (fun e => hs e.symm)]; exact e0
    rw [c0, nI_1] at e5
    have cv : (if nI m < nI (u + 1) then nI m else nI (u + 1)) = nI (min (u + 1) m) := by
      by_cases c : m < u + 1
      · rw [if_pos (nI_lt c (by omega)), Nat.min_eq_right (by omega)]
      · rw [if_neg (fun q => c ((nI_ltI (by omega) (by omega)).mp q)), Nat.min_eq_left (by omega)]
    rw [cv] at e5
    refine hK Y5 ⟨?_, ?_, ?_, fun i h1 h2 => ?_⟩
    · rw [e5, z_up_same, z_ss_same, upd_eq]
    · rw [e5, z_up_same, z_ss_same, upd_ne (by omega), e4, z_up_same, z_ss_same, upd_eq, ht]
    · rw [e5, z_up_ne hs, e4, z_up_ne hs, z_up_same]
    · rw [e5, z_up_ne h1, e4, z_up_ne h1, z_up_ne h2]
  refine ⟨fun c => fin _ ?_, fun c => fin _ ?_⟩
  · have : x + 1 = m := by have := (nI_leI (by omega) (by omega)).mp c; omega
    rw [this, Nat.mod_self]; rfl
  · have : x + 1 < m := by
      rcases Nat.lt_or_ge (x + 1) m with q | q
      · exact q
      · exact absurd (nI_le q (by omega)) c
    rw [Nat.mod_eq_of_lt this]
def BT (X X1 : z_X) (sg sb m u x : Nat) : Prop := X1 sg 0 0 = nI (u - 1) ∧ X1 sg 0 1 = nI ((x + m - 1) % m) ∧ X1 0 = X (sb + (x + m - 1) % m) ∧ ∀ i, i ≠ sg → i ≠ 0 → X1 i = X i
theorem s_bring {X : z_X} {sg sb m u x : Nat} {K : Int32 → z_X → Prop} (hm : m ≤ 8) (hu : u ≤ m) (hx : x < m) (e0 : X sg 0 0 = nI u) (e1 : X sg 0 1 = nI x) (hb : 0 < sb) (hs : sb + m ≤ sg) (n1 : ∀ i, i < m → NF (X (sb + i))) (n2 : NF (X 0)) (hF : u = 0 → K 0 X) (hK : ¬ u = 0 → ∀ X1, BT X X1 sg sb m u x → K 1 X1) : v_X3_bringBack sg sb m 0 X K := by
  unfold v_X3_bringBack
  rw [e0, e1]
  have fin : ¬ u = 0 → ∀ t : Int32, t = nI ((x + m - 1) % m) → v_X3_bringBack_b33 sg sb m 0 K X t := by
    intro h0 t ht
    have hlt : (x + m - 1) % m < m := Nat.mod_lt _ (by omega)
    unfold v_X3_bringBack_b33
    intro Y3 e3 Y4 e4
    have c0 : Y3 sg 0 0 = nI u := by rw [e3, z_up_same, z_ss_same, upd_ne (by omega)]; exact e0
    have c1 : Y4 sg 0 1 = nI ((x + m - 1) % m) := by rw [e4, z_up_same, z_ss_same, upd_ne (by omega), e3, z_up_same, z_ss_same, upd_eq, ht]
    have c2 : Y4 sg 0 0 = nI (u - 1) := by
      rw [e4, z_up_same, z_ss_same, upd_eq, c0]
      obtain ⟨v, rfl⟩ : ∃ v, u = v + 1 := ⟨u - 1, by omega⟩
      rw [nI_pred]; rfl
    have oth : ∀ i, i ≠ sg → Y4 i = X i := fun i hi => by rw [e4, z_up_ne hi, e3, z_up_ne hi]
    rw [c1, zi (show (x + m - 1) % m < 1000 by omega)]
    refine ⟨vi hlt (by omega), s_copy (by omega) (by rw [oth 0 (by omega)]; exact n2) (by rw [oth _ (by omega)]; exact n1 _ hlt) (hK h0 _ ⟨?_, ?_, ?_, fun i h1 h2 => ?_⟩)⟩
    · rw [z_up_ne (by omega)]; exact c2
    · rw [z_up_ne (by omega)]; exact c1
    · rw [z_up_same, oth _ (by omega)]
    · rw [z_up_ne h2, oth i h1]
  refine ⟨fun c => ?_, fun c => hF ?_⟩
  · have h0 : ¬ u = 0 := fun q => c (by rw [q]; rfl)
    refine ⟨fun d => fin h0 _ ?_, fun d => fin h0 _ ?_⟩
    · have : x = 0 := by have := (nI_leI (b := 0) (by omega) (by omega)).mp d; omega
      subst this
      obtain ⟨v, rfl⟩ : ∃ v, m = v + 1 := ⟨m - 1, by omega⟩
      rw [nI_pred, Nat.mod_eq_of_lt (by omega)]
      congr 1; omega
    · have : 0 < x := by
        rcases Nat.eq_zero_or_pos x with q | q
        · exact absurd (nI_le (b := 0) (by omega) (by omega)) d
        · exact q
      obtain ⟨v, rfl⟩ : ∃ v, x = v + 1 := ⟨x - 1, by omega⟩
      rw [nI_pred, show v + 1 + m - 1 = v + m by omega, Nat.add_mod_right, Nat.mod_eq_of_lt (by omega)]
  · exact (nI_eq (b := 0) (by omega) (by omega)).mp c
def NT (G : z_G) (c m u : Nat) (f : Nat → Int32) : Prop := (u < m → ∀ j, j < u → ∀ i, i < 42 → f (42 * j + i) = G c (42 * j + i)) ∧ (u = m → ∀ j, j + 1 < m → ∀ i, i < 42 → f (42 * j + i) = G c (42 * (j + 1) + i)) ∧ ∀ i, i < 42 → f (42 * (min (u + 1) m - 1) + i) = G 5 i
def npf (a b : Nat → Int32) (u i : Nat) : Nat → Int32 := fun j => if 42 * u ≤ j ∧ j < 42 * u + i then a (j - 42 * u) else b j
theorem npf_0 (a b : Nat → Int32) (u : Nat) : npf a b u 0 = b := by
  funext j
  exact if_neg (by omega)
theorem npf_s (a b : Nat → Int32) (u i : Nat) : upd (npf a b u i) (42 * u + i) (a i) = npf a b u (i + 1) := by
  funext j
  unfold npf
  by_cases e : j = 42 * u + i
  · subst e
    rw [upd_eq, if_pos (by omega)]
    congr 1; omega
  · rw [upd_ne e]
    by_cases h : 42 * u ≤ j ∧ j < 42 * u + i
    · rw [if_pos h, if_pos (by omega)]
    · rw [if_neg h, if_neg (by omega)]
def shf (b : Nat → Int32) (i : Nat) : Nat → Int32 := fun j => if j < i then b (42 + j) else b j
theorem shf_0 (b : Nat → Int32) : shf b 0 = b := by
  funext j
  exact if_neg (by omega)
theorem shf_s (b : Nat → Int32) (i : Nat) : upd (shf b i) i (b (42 + i)) = shf b (i + 1) := by
  funext j
  unfold shf
  by_cases e : j = i
  · subst e
    rw [upd_eq, if_pos (by omega)]
  · rw [upd_ne e]
    by_cases h : j < i
    · rw [if_pos h, if_pos (by omega)]
    · rw [if_neg h, if_neg (by omega)]
theorem m42 (u i : Nat) : (42 : Int32) * nI u + nI i = nI (42 * u + i) := by rw [show (42 : Int32) = nI 42 from rfl, pk_mul, nI_add]
theorem i42 (i : Nat) : (42 : Int32) + nI i = nI (42 + i) := nI_add 42 i
theorem r_note51 {G : z_G} {u : Nat} {K : z_G → Prop} (hu : u < 8) (e : G 0 8 = nI u) (hK : K (z_ss (z_sa G 7 (npf (G 5) (G 7) u 42)) 0 8 (nI (u + 1)))) : v_X6_note_b51 K G 0 := by
  unfold v_X6_note_b51
  refine z_for 42 (fun i q => q = (z_sa G 7 (npf (G 5) (G 7) u i), nI i)) ?_ (Nat.zero_le 42) (by rw [npf_0, sa_self]; rfl)
  rintro i ⟨y1, y2⟩ hi ei Lp hL
  obtain ⟨rfl, rfl⟩ := Prod.mk.inj ei
  show v_X6_note_b51_s K _ (z_sa G 7 (npf (G 5) (G 7) u i)) (nI i)
  unfold v_X6_note_b51_s
  rw [z_sa_ne (show 0 ≠ 7 by decide), z_sa_ne (show 5 ≠ 7 by decide), e]
  refine ⟨fun c => ?_, fun c => ?_⟩
  · have : i = 42 := by have := (nI_leI (a := 42) (by omega) (by omega)).mp c; omega
    subst this
    intro h3 e3
    rw [e3, nI_1]
    exact hK
  · have hlt : i < 42 := by
      rcases Nat.lt_or_ge i 42 with q | q
      · exact q
      · exact absurd (nI_le (a := 42) q (by omega)) c
    rw [m42, zi (show 42 * u + i < 1000 by omega), zi (show i < 1000 by omega)]
    refine ⟨vi (by omega) (by omega), vi (by omega) (by omega), ?_⟩
    intro h6 e6 y7 e7
    refine hL (_, _) hlt ?_
    rw [e6, e7, nI_1, sa_ss, npf_s]
theorem r_note {G : z_G} {u : Nat} {K : z_G → Prop} (hu : u ≤ 8) (e : G 0 8 = nI u) (hK : ∀ f, NT G 7 8 u f → K (z_ss (z_sa G 7 f) 0 8 (nI (min (u + 1) 8)))) : v_X6_note G K := by
  unfold v_X6_note
  refine ⟨fun c => ?_, fun c => ?_⟩
  · have hlt : u < 8 := by
      rcases Nat.lt_or_ge u 8 with q | q
      · exact q
      · exact absurd (by rw [e, show u = 8 by omega]; rfl) c
    refine r_note51 hlt e ?_
    have := hK (npf (G 5) (G 7) u 42) ⟨fun _ j hj i hi => if_neg (by omega), fun q => by omega, fun i hi => ?_⟩
    · rw [Nat.min_eq_left (by omega)] at this; exact this
    · rw [Nat.min_eq_left (by omega)]
      unfold npf
      rw [if_pos (by omega)]
      congr 1; omega
  · have h8 : u = 8 := by rw [e] at c; exact (nI_eq (b := 8) (by omega) (by omega)).mp c
    subst h8
    unfold v_X6_note_b11
    refine z_for 294 (fun i q => q = (z_sa G 7 (shf (G 7) i), nI i)) ?_ (Nat.zero_le 294) (by rw [shf_0, sa_self]; rfl)
    rintro i ⟨y1, y2⟩ hi ei Lp hL
    obtain ⟨rfl, rfl⟩ := Prod.mk.inj ei
    show v_X6_note_b11_s K _ (z_sa G 7 (shf (G 7) i)) (nI i)
    unfold v_X6_note_b11_s
    rw [z_sa_ne (show 0 ≠ 7 by decide), e]
    refine ⟨fun c => ?_, fun c => ?_⟩
    · have : i = 294 := by have := (nI_leI (a := 294) (by omega) (by omega)).mp c; omega
      subst this
      intro h9 e9
      have g0 : h9 0 8 = nI 7 := by rw [e9, z_ss_same, upd_eq, show (8 : Nat) = 7 + 1 from rfl, nI_pred]
      have g7 : h9 7 = shf (G 7) 294 := by rw [e9, z_ss_ne (by decide), z_sa_same]
      have g5 : h9 5 = G 5 := by rw [e9, z_ss_ne (by decide), z_sa_ne (by decide)]
      refine r_note51 (u := 7) (by omega) g0 ?_
      rw [g7, g5]
      have eq : z_ss (z_sa h9 7 (npf (G 5) (shf (G 7) 294) 7 42)) 0 8 (nI (7 + 1)) = z_ss (z_sa G 7 (npf (G 5) (shf (G 7) 294) 7 42)) 0 8 (nI (min (8 + 1) 8)) := by
        rw [e9]
        funext a b
        simp only [z_ss_rd, z_sa_rd]
        by_cases h0 : a = 0 ∧ b = 8
        · simp [h0]
        · by_cases h7 : a = 7 <;> simp [h0, h7]
      rw [eq]
      refine hK _ ⟨fun q => by omega, fun _ j hj i hi => ?_, fun i hi => ?_⟩
      · unfold npf shf
        rw [if_neg (by omega), if_pos (by omega)]
        congr 1; omega
      · unfold npf
        rw [show min (8 + 1) 8 - 1 = 7 from rfl, if_pos (by omega), show 42 * 7 + i - 42 * 7 = i by omega]
    · have hlt : i < 294 := by
        rcases Nat.lt_or_ge i 294 with q | q
        · exact q
        · exact absurd (nI_le (a := 294) q (by omega)) c
      rw [i42, zi (show 42 + i < 1000 by omega), zi (show i < 1000 by omega)]
      refine ⟨vi (by omega) (by omega), vi (by omega) (by omega), ?_⟩
      intro h6 e6 y7 e7
      refine hL (_, _) hlt ?_
      have : z_sa G 7 (shf (G 7) i) 7 (42 + i) = G 7 (42 + i) := by
        rw [z_sa_same]; exact if_neg (by omega)
      rw [e6, e7, nI_1, sa_ss, this, shf_s]
theorem r_keep {G : z_G} {u : Nat} {K : Int32 → z_G → Prop} (hu : u < 2) (e : G 0 10 = nI u) (hK : ∀ f, NT G 9 2 u f → K (nI (u + 1)) (z_ss (z_sa G 9 f) 0 10 (nI (min (u + 1) 2)))) : v_X6_keep_b13 K G 0 := by
  unfold v_X6_keep_b13
  refine z_for 42 (fun i q => q = (z_sa G 9 (npf (G 5) (G 9) u i), nI i)) ?_ (Nat.zero_le 42) (by rw [npf_0, sa_self]; rfl)
  rintro i ⟨y1, y2⟩ hi ei Lp hL
  obtain ⟨rfl, rfl⟩ := Prod.mk.inj ei
  show v_X6_keep_b13_s K _ (z_sa G 9 (npf (G 5) (G 9) u i)) (nI i)
  unfold v_X6_keep_b13_s
  rw [z_sa_ne (show 0 ≠ 9 by decide), z_sa_ne (show 5 ≠ 9 by decide), e]
  refine ⟨fun c => ?_, fun c => ?_⟩
  · have : i = 42 := by have := (nI_leI (a := 42) (by omega) (by omega)).mp c; omega
    subst this
    intro h3 e3
    rw [nI_1] at e3
    have := hK (npf (G 5) (G 9) u 42) ⟨fun _ j hj i hi => if_neg (by omega), fun q => by omega, fun i hi => ?_⟩
    · rw [Nat.min_eq_left (by omega)] at this
      have g : h3 0 10 = nI (u + 1) := by rw [e3, z_ss_same, upd_eq]
      rw [g, e3]; exact this
    · rw [Nat.min_eq_left (by omega)]
      unfold npf
      rw [if_pos (by omega)]
      congr 1; omega
  · have hlt : i < 42 := by
      rcases Nat.lt_or_ge i 42 with q | q
      · exact q
      · exact absurd (nI_le (a := 42) q (by omega)) c
    rw [m42, zi (show 42 * u + i < 1000 by omega), zi (show i < 1000 by omega)]
    refine ⟨vi (by omega) (by omega), vi (by omega) (by omega), ?_⟩
    intro h6 e6 y7 e7
    refine hL (_, _) hlt ?_
    rw [e6, e7, nI_1, sa_ss, npf_s]
def bkf (a b : Nat → Int32) (u i : Nat) : Nat → Int32 := fun j => if j < i then a (42 * u + j) else b j
theorem bkf_0 (a b : Nat → Int32) (u : Nat) : bkf a b u 0 = b := by
  funext j
  exact if_neg (by omega)
theorem bkf_s (a b : Nat → Int32) (u i : Nat) : upd (bkf a b u i) i (a (42 * u + i)) = bkf a b u (i + 1) := by
  funext j
  unfold bkf
  by_cases e : j = i
  · subst e
    rw [upd_eq, if_pos (by omega)]
  · rw [upd_ne e]
    by_cases h : j < i
    · rw [if_pos h, if_pos (by omega)]
    · rw [if_neg h, if_neg (by omega)]
theorem r_undo {G : z_G} {u : Nat} {K : Int32 → z_G → Prop} (hu : u < 8) (e : G 0 8 = nI u) (hK : K (nI u) (z_sa G 5 (bkf (G 7) (G 5) u 42))) : v_X6_undo_b22 K G 0 := by
  unfold v_X6_undo_b22
  refine z_for 42 (fun i q => q = (z_sa G 5 (bkf (G 7) (G 5) u i), nI i)) ?_ (Nat.zero_le 42) (by rw [bkf_0, sa_self]; rfl)
  rintro i ⟨y1, y2⟩ hi ei Lp hL
  obtain ⟨rfl, rfl⟩ := Prod.mk.inj ei
  show v_X6_undo_b22_s K _ (z_sa G 5 (bkf (G 7) (G 5) u i)) (nI i)
  unfold v_X6_undo_b22_s
  rw [z_sa_ne (show 0 ≠ 5 by decide), z_sa_ne (show 7 ≠ 5 by decide), e]
  refine ⟨fun c => ?_, fun c => ?_⟩
  · have : i = 42 := by have := (nI_leI (a := 42) (by omega) (by omega)).mp c; omega
    subst this
    exact hK
  · have hlt : i < 42 := by
      rcases Nat.lt_or_ge i 42 with q | q
      · exact q
      · exact absurd (nI_le (a := 42) q (by omega)) c
    rw [m42, zi (show 42 * u + i < 1000 by omega), zi (show i < 1000 by omega)]
    refine ⟨vi (by omega) (by omega), vi (by omega) (by omega), ?_⟩
    intro h6 e6 y7 e7
    refine hL (_, _) hlt ?_
    rw [e6, e7, nI_1, sa_ss, bkf_s]
theorem r_back {G : z_G} {u : Nat} {K : Int32 → z_G → Prop} (hu : u < 2) (e : G 0 10 = nI u) (hK : K (nI u) (z_ss (z_sa G 5 (bkf (G 9) (G 5) u 42)) 0 8 0)) : v_X6_back_b22 K G 0 := by
  unfold v_X6_back_b22
  refine z_for 42 (fun i q => q = (z_sa G 5 (bkf (G 9) (G 5) u i), nI i)) ?_ (Nat.zero_le 42) (by rw [bkf_0, sa_self]; rfl)
  rintro i ⟨y1, y2⟩ hi ei Lp hL
  obtain ⟨rfl, rfl⟩ := Prod.mk.inj ei
  show v_X6_back_b22_s K _ (z_sa G 5 (bkf (G 9) (G 5) u i)) (nI i)
  unfold v_X6_back_b22_s
  rw [z_sa_ne (show 0 ≠ 5 by decide), z_sa_ne (show 9 ≠ 5 by decide), e]
  refine ⟨fun c => ?_, fun c => ?_⟩
  · have : i = 42 := by have := (nI_leI (a := 42) (by omega) (by omega)).mp c; omega
    subst this
    intro h4 e4
    have g : h4 0 10 = nI u := by rw [e4, z_ss_same, upd_ne (by decide), z_sa_ne (by decide)]; exact e
    rw [g, e4]; exact hK
  · have hlt : i < 42 := by
      rcases Nat.lt_or_ge i 42 with q | q
      · exact q
      · exact absurd (nI_le (a := 42) q (by omega)) c
    rw [m42, zi (show 42 * u + i < 1000 by omega), zi (show i < 1000 by omega)]
    refine ⟨vi (by omega) (by omega), vi (by omega) (by omega), ?_⟩
    intro h6 e6 y7 e7
    refine hL (_, _) hlt ?_
    rw [e6, e7, nI_1, sa_ss, bkf_s]
theorem RR_42 {n k : Nat} {h : z_G} {r r' : Nat → Int32} (H : HI n k h) (R : RR n k h r) (e : ∀ i, i < 42 → r' i = r i) : RR n k h r' := RR_cong H.2.2.1 H.2.2.2.1 R e
theorem SK_put {X X' : z_X} {n k m sg sb c cs u x : Nat} (hm : 0 < m) (hu : u ≤ m) (hx : x < m) (old : ∀ j, j < u → ∃ kj, HN n kj (X (sb + (x + m - u + j) % m)) ∧ TR n (X (sb + (x + m - u + j) % m)) (X 19 2) ∧ RR n kj (X (sb + (x + m - u + j) % m)) (fun i => X 19 c (42 * j + i))) (H : HN n k (X 0)) (T : TR n (X 0) (X 19 2)) (W : RR n k (X 0) (X 19 5)) (e1 : X' sg 0 0 = nI (min (u + 1) m)) (e2 : X' sg 0 1 = nI ((x + 1) % m)) (e3 : X' 19 0 cs = nI (min (u + 1) m)) (e4 : X' 19 2 = X 19 2) (e5 : X' (sb + x) = X 0) (e6 : ∀ i, i < m → i ≠ x → X' (sb + i) = X (sb + i)) (N : NT (X 19) c m u (X' 19 c)) : SK X' n sg sb m c cs := by
  obtain ⟨r1, r2, r3⟩ := N
  refine ⟨min (u + 1) m, (x + 1) % m, by omega, Nat.mod_lt _ hm, e1, e2, e3, fun j hj => ?_⟩
  have es : ((x + 1) % m + m - min (u + 1) m + j) % m = (x + 1 + (m - min (u + 1) m + j)) % m := by
    rw [show (x + 1) % m + m - min (u + 1) m + j = (x + 1) % m + (m - min (u + 1) m + j) by omega, Nat.mod_add_mod]
  rw [es, e4]
  by_cases top : j + 1 = min (u + 1) m
  · have ex : (x + 1 + (m - min (u + 1) m + j)) % m = x := by
      rw [show x + 1 + (m - min (u + 1) m + j) = x + m by omega, Nat.add_mod_right, Nat.mod_eq_of_lt hx]
    rw [ex, e5]
    refine ⟨k, H, T, RR_42 H.1 W (fun i hi => ?_)⟩
    have := r3 i hi
    rw [← top] at this
    exact this
  · have key : ∀ a, 0 < a → a < m → (x + a) % m ≠ x := by
      intro a h1 h2 h3
      rcases Nat.lt_or_ge (x + a) m with q | q
      · rw [Nat.mod_eq_of_lt q] at h3; omega
      · rw [Nat.mod_eq_sub_mod q, Nat.mod_eq_of_lt (by omega)] at h3; omega
    have hlt : ∀ a, (x + a) % m < m := fun a => Nat.mod_lt _ hm
    by_cases hum : u < m
    · have emin : min (u + 1) m = u + 1 := Nat.min_eq_left (by omega)
      rw [emin] at hj top ⊢
      obtain ⟨kj, a1, a2, a3⟩ := old j (by omega)
      rw [show x + 1 + (m - (u + 1) + j) = x + (m - u + j) by omega, e6 _ (hlt _) (key _ (by omega) (by omega))]
      rw [show x + m - u + j = x + (m - u + j) by omega] at a1 a2 a3
      exact ⟨kj, a1, a2, RR_42 a1.1 a3 (fun i hi => r1 hum j (by omega) i hi)⟩
    · have eum : u = m := by omega
      have emin : min (u + 1) m = m := Nat.min_eq_right (by omega)
      rw [emin] at hj top ⊢
      obtain ⟨kj, a1, a2, a3⟩ := old (j + 1) (by omega)
      rw [show x + 1 + (m - m + j) = x + (j + 1) by omega, e6 _ (hlt _) (key _ (by omega) (by omega))]
      rw [show x + m - u + (j + 1) = x + (j + 1) by omega] at a1 a2 a3
      exact ⟨kj, a1, a2, RR_42 a1.1 a3 (fun i hi => r2 eum j (by omega) i hi)⟩
theorem SK_back {X X' : z_X} {n m sg sb c cs u x : Nat} (hm : 0 < m) (hu : u ≤ m) (hx : x < m) (h0 : ¬ u = 0) (old : ∀ j, j < u → ∃ kj, HN n kj (X (sb + (x + m - u + j) % m)) ∧ TR n (X (sb + (x + m - u + j) % m)) (X 19 2) ∧ RR n kj (X (sb + (x + m - u + j) % m)) (fun i => X 19 c (42 * j + i))) (e1 : X' sg 0 0 = nI (u - 1)) (e2 : X' sg 0 1 = nI ((x + m - 1) % m)) (e3 : X' 19 0 cs = nI (u - 1)) (e4 : X' 19 2 = X 19 2) (e5 : X' 19 c = X 19 c) (e6 : ∀ i, i < m → X' (sb + i) = X (sb + i)) : SK X' n sg sb m c cs := by
  refine ⟨u - 1, (x + m - 1) % m, by omega, Nat.mod_lt _ hm, e1, e2, e3, fun j hj => ?_⟩
  obtain ⟨kj, a1, a2, a3⟩ := old j (by omega)
  have es : ((x + m - 1) % m + m - (u - 1) + j) % m = (x + m - u + j) % m := by
    rw [show (x + m - 1) % m + m - (u - 1) + j = (x + m - 1) % m + (m - (u - 1) + j) by omega, Nat.mod_add_mod, show x + m - 1 + (m - (u - 1) + j) = x + m - u + j + m by omega, Nat.add_mod_right]
  rw [es, e4, e5, e6 _ (Nat.mod_lt _ hm)]
  exact ⟨kj, a1, a2, a3⟩
