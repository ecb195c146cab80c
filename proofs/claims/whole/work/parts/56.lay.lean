/-! ===== PURE: calls: fault, lay ===== -/
def ik (L : Nat → Int32) (len n k q : Nat) : Nat := if lt L len q = 112 then (if (it3 L len (q + 1) && okP n (nb L len (q + 1) 0) (nb L len (q + 1) 1) (nb L len (q + 1) 2)) = true then 1 else 0) else if lt L len q = 103 then (if (it3 L len (q + 1) && okG n k (nb L len (q + 1) 0) (nb L len (q + 1) 1) (nb L len (q + 1) 2)) = true then 2 else 0) else 0
def npq (L : Nat → Int32) (len q n : Nat) (h : z_G) : z_G := np h n (nb L len (q + 1) 0) (nb L len (q + 1) 1) (nb L len (q + 1) 2)
def ngq (L : Nat → Int32) (len q k : Nat) (h : z_G) : z_G := ng h k (nb L len (q + 1) 0) (nb L len (q + 1) 1) (nb L len (q + 1) 2)
def rdF (L : Nat → Int32) (len : Nat) : Nat → Nat → Nat → Nat → z_G → Int32 × Nat × Nat × z_G
  | 0, _, n, k, h => (-4, n, k, h)
  | f + 1, q, n, k, h => if len ≤ q then (-4, n, k, h) else if ik L len n k q = 1 then rdF L len f (qs L len (q + 1) 3) (n + 1) k (npq L len q n h) else if ik L len n k q = 2 then rdF L len f (qs L len (q + 1) 3) n (k + 1) (ngq L len q k h) else (nI q, n, k, h)
theorem s_item {Y : z_X} {L : Nat → Int32} {len q n k : Nat} {K : Int32 → z_X → Prop} (S : SC (Y 13) L len) (e1 : Y 13 0 1 = nI q) (hl : len ≤ 200) (hq : q < len) (H : HN n k (Y 1)) (hB : ik L len n k q = 0 → ∀ h', SC h' L len → K 0 (z_up Y 13 h')) (hP : ik L len n k q = 1 → ∀ h', SC h' L len → h' 0 1 = nI (qs L len (q + 1) 3) → qs L len (q + 1) 3 ≤ len → q < qs L len (q + 1) 3 → K 1 (z_up (z_up Y 13 h') 1 (npq L len q n (Y 1)))) (hG : ik L len n k q = 2 → ∀ h', SC h' L len → h' 0 1 = nI (qs L len (q + 1) 3) → qs L len (q + 1) 3 ≤ len → q < qs L len (q + 1) 3 → K 1 (z_up (z_up Y 13 h') 1 (ngq L len q k (Y 1)))) : v_X2_readItem 1 Y K := by
  have hn6 := H.1.2.2.1
  have hk8 := H.1.2.2.2.1
  have st : ∀ g : z_G, g = z_ss (Y 13) 0 1 (nI (q + 1)) → SC g L len ∧ g 0 1 = nI (q + 1) := by
    intro g eg
    refine ⟨⟨?_, ?_⟩, ?_⟩
    · rw [eg, z_ss_same, upd_ne (by decide)]; exact S.1
    · rw [eg, z_ss_ne (by decide)]; exact S.2
    · rw [eg, z_ss_same, upd_eq]
  unfold v_X2_readItem
  refine s_readSign (by decide) S.1 e1 hl (by omega) (fun a _ => ?_) (fun a => ?_)
  · rw [S.2] at a
    intro Y3 e3
    obtain ⟨Sg, eg⟩ := st _ rfl
    refine ⟨fun _ => ?_, fun z => absurd z (by decide)⟩
    rw [e3]
    refine s_item3 (L := L) (len := len) (q := q + 1) (by rw [z_up_same]; exact Sg) (by rw [z_up_same]; exact eg) hl (by omega) (fun z h' S' => ?_) (fun z h' S' p1 p2 p3 n0 n1 n2 => ?_)
    · rw [z_up_up]
      refine hB ?_ h' S'
      unfold ik; rw [if_pos a, z, Bool.false_and, if_neg (by decide)]
    · rw [z_up_up]
      unfold v_X2_readItem_b24_s
      refine ⟨fun _ => ⟨fun w => absurd w (by decide), fun _ => ⟨vi (a := 0) (by omega) (by omega), vi (a := 1) (by omega) (by omega), vi (a := 2) (by omega) (by omega), ?_⟩⟩, fun c => absurd (Int32.le_refl _) c⟩
      rw [z_up_same, zn0, zn1, zn2, n0, n1, n2, z_up_ne (show 1 ≠ 13 by decide)]
      refine s_addPerson H.1.1 hn6 (fun w => ?_) (fun w => ?_)
      · intro Y18 e18
        have : Y18 = z_up Y 13 h' := by
          rw [e18]
          have := z_up_self (z_up Y 13 h') 1
          rw [z_up_ne (show 1 ≠ 13 by decide)] at this
          exact this
        rw [this]
        refine ⟨Or.inl rfl, hB ?_ h' S'⟩
        unfold ik; rw [if_pos a, w, Bool.and_false, if_neg (by decide)]
      · intro Y18 e18
        rw [e18]
        refine ⟨Or.inr rfl, hP ?_ h' S' p1 p2 (by omega)⟩
        unfold ik; rw [if_pos a, z, w, if_pos (by decide)]
  · rw [S.2] at a
    intro Y3 e3
    rw [z_up_self] at e3
    refine ⟨fun z => absurd rfl z, fun _ => ?_⟩
    rw [e3]
    refine s_readSign (by decide) S.1 e1 hl (by omega) (fun b _ => ?_) (fun b => ?_)
    · rw [S.2] at b
      intro Y34 e34
      obtain ⟨Sg, eg⟩ := st _ rfl
      refine ⟨fun _ => ?_, fun z => absurd z (by decide)⟩
      rw [e34]
      refine s_item3 (L := L) (len := len) (q := q + 1) (by rw [z_up_same]; exact Sg) (by rw [z_up_same]; exact eg) hl (by omega) (fun z h' S' => ?_) (fun z h' S' p1 p2 p3 n0 n1 n2 => ?_)
      · rw [z_up_up]
        refine hB ?_ h' S'
        unfold ik; rw [if_neg a, if_pos b, z, Bool.false_and, if_neg (by decide)]
      · rw [z_up_up]
        unfold v_X2_readItem_b24_s
        refine ⟨fun _ => ⟨fun _ => ⟨vi (a := 0) (by omega) (by omega), vi (a := 1) (by omega) (by omega), vi (a := 2) (by omega) (by omega), ?_⟩, fun w => absurd rfl w⟩, fun c => absurd (Int32.le_refl _) c⟩
        rw [z_up_same, zn0, zn1, zn2, n0, n1, n2, z_up_ne (show 1 ≠ 13 by decide)]
        refine s_addGlove H.1.1 H.1.2.1 hk8 (fun w => ?_) (fun w => ?_)
        · intro Y18 e18
          have : Y18 = z_up Y 13 h' := by
            rw [e18]
            have := z_up_self (z_up Y 13 h') 1
            rw [z_up_ne (show 1 ≠ 13 by decide)] at this
            exact this
          rw [this]
          refine ⟨Or.inl rfl, hB ?_ h' S'⟩
          unfold ik; rw [if_neg a, if_pos b, w, Bool.and_false, if_neg (by decide)]
        · intro Y18 e18
          rw [e18]
          refine ⟨Or.inr rfl, hG ?_ h' S' p1 p2 (by omega)⟩
          unfold ik; rw [if_neg a, if_pos b, z, w, if_pos (by decide)]
    · rw [S.2] at b
      intro Y34 e34
      rw [z_up_self] at e34
      refine ⟨fun z => absurd rfl z, fun _ => ?_⟩
      rw [e34]
      have := hB (by unfold ik; rw [if_neg a, if_neg b]) (Y 13) S
      rw [z_up_self] at this
      exact this
theorem ok_np {L : Nat → Int32} {len n k q : Nat} {h : z_G} (H : HN n k h) (e : ik L len n k q = 1) : HN (n + 1) k (npq L len q n h) ∧ n < 6 := by
  unfold ik at e
  by_cases a : lt L len q = 112
  · rw [if_pos a] at e
    by_cases b : (it3 L len (q + 1) && okP n (nb L len (q + 1) 0) (nb L len (q + 1) 1) (nb L len (q + 1) 2)) = true
    · rw [Bool.and_eq_true] at b
      have b2 := b.2
      unfold okP at b2
      simp only [Bool.and_eq_true] at b2
      obtain ⟨c1, c2, c3, c4⟩ := b2
      obtain ⟨m, -, hm, em⟩ := wi_nat (a := 1) (b := 40) (by omega) c3 (by omega)
      unfold npq
      rw [em]
      exact ⟨HN_np H (of_decide_eq_true c1) hm, of_decide_eq_true c1⟩
    · rw [if_neg b] at e
      omega
  · rw [if_neg a] at e
    by_cases b : lt L len q = 103
    · rw [if_pos b] at e
      split at e <;> omega
    · rw [if_neg b] at e
      omega
theorem ok_ng {L : Nat → Int32} {len n k q : Nat} {h : z_G} (H : HN n k h) (e : ik L len n k q = 2) : HN n (k + 1) (ngq L len q k h) ∧ k < 8 := by
  have hn6 := H.1.2.2.1
  unfold ik at e
  by_cases a : lt L len q = 112
  · rw [if_pos a] at e
    split at e <;> omega
  · rw [if_neg a] at e
    by_cases b : lt L len q = 103
    · rw [if_pos b] at e
      by_cases b : (it3 L len (q + 1) && okG n k (nb L len (q + 1) 0) (nb L len (q + 1) 1) (nb L len (q + 1) 2)) = true
      · rw [Bool.and_eq_true] at b
        have b2 := b.2
        unfold okG at b2
        simp only [Bool.and_eq_true] at b2
        obtain ⟨c1, c2, c3, c4⟩ := b2
        obtain ⟨m, hm1, hm, em⟩ := wi_nat (a := 1) (b := 20) (by omega) c3 (by omega)
        obtain ⟨o, ho, eo⟩ := (wi_nI (by omega)).mp c4
        unfold ngq
        rw [em, eo]
        exact ⟨HN_ng H (of_decide_eq_true c1) hm1 hm ho, of_decide_eq_true c1⟩
      · rw [if_neg b] at e
        omega
    · rw [if_neg b] at e
      omega
theorem s_into {X : z_X} {L : Nat → Int32} {len : Nat} {K : Int32 → z_X → Prop} (S : SC (X 13) L len) (hl : len ≤ 200) (N1 : NF (X 1)) (hK : ∀ h', SC h' L len → HN (rdF L len 200 0 0 0 (em (X 1))).2.1 (rdF L len 200 0 0 0 (em (X 1))).2.2.1 (rdF L len 200 0 0 0 (em (X 1))).2.2.2 → K (rdF L len 200 0 0 0 (em (X 1))).1 (z_up (z_up X 13 h') 1 (rdF L len 200 0 0 0 (em (X 1))).2.2.2)) : v_X2_readInto 1 X K := by
  unfold v_X2_readInto
  refine s_empty ?_
  intro Y2 e2 Y3 e3
  unfold v_X2_readInto_b11
  have e3' : Y3 = z_up (z_up X 13 (z_ss (X 13) 0 1 0)) 1 (em (X 1)) := by
    rw [e3, e2, z_up_ne (show 13 ≠ 1 by decide)]
    funext i
    by_cases h1 : i = 1
    · subst h1; rw [z_up_ne (by decide), z_up_same, z_up_same]
    · rw [z_up_ne (o := 1) h1]
      by_cases h13 : i = 13
      · subst h13; rw [z_up_same, z_up_same]
      · rw [z_up_ne h13, z_up_ne h13, z_up_ne h1]
  refine z_for 200 (fun i s => ∃ q n k h h', s = (z_up (z_up X 13 h') 1 h, nI i) ∧ SC h' L len ∧ h' 0 1 = nI q ∧ q ≤ len ∧ i ≤ q ∧ HN n k h ∧ rdF L len 200 0 0 0 (em (X 1)) = rdF L len (200 - i) q n k h) ?_ (Nat.zero_le 200) ⟨0, 0, 0, em (X 1), z_ss (X 13) 0 1 0, by rw [e3']; rfl, ⟨by rw [z_ss_same, upd_ne (by decide)]; exact S.1, by rw [z_ss_ne (by decide)]; exact S.2⟩, by rw [z_ss_same, upd_eq]; rfl, by omega, by omega, HN_em N1, rfl⟩
  rintro i ⟨Y, x2⟩ hi ⟨q, n, k, h, h', e, Sh, eq, hq, hiq, H, er⟩ Lp hL
  obtain ⟨rfl, rfl⟩ := Prod.mk.inj e
  show v_X2_readInto_b11_s 1 K _ (z_up (z_up X 13 h') 1 h) (nI i)
  unfold v_X2_readInto_b11_s
  have g13 : z_up (z_up X 13 h') 1 h 13 = h' := by rw [z_up_ne (by decide), z_up_same]
  rw [g13, Sh.1, eq]
  have stop : len ≤ q → K (-4) (z_up (z_up X 13 h') 1 h) := by
    intro c
    have r : rdF L len (200 - i) q n k h = (-4, n, k, h) := by
      rcases Nat.eq_zero_or_pos (200 - i) with z | z
      · rw [z]; rfl
      · obtain ⟨f, hf⟩ : ∃ f, 200 - i = f + 1 := ⟨200 - i - 1, by omega⟩
        rw [hf]; exact if_pos c
    rw [er, r] at hK
    exact hK h' Sh H
  refine ⟨fun c => stop ?_, fun c => ⟨fun d => stop ((nI_leI (by omega) (by omega)).mp d), fun d => ?_⟩⟩
  · have := (nI_leI (a := 200) (by omega) (by omega)).mp c; omega
  · have hi2 : i < 200 := by
      rcases Nat.lt_or_ge i 200 with z | z
      · exact z
      · exact absurd (nI_le (a := 200) z (by omega)) c
    have hlt : q < len := by
      rcases Nat.lt_or_ge q len with z | z
      · exact z
      · exact absurd (nI_le z (by omega)) d
    obtain ⟨f, hf⟩ : ∃ f, 200 - i = f + 1 := ⟨200 - i - 1, by omega⟩
    have hf2 : 200 - (i + 1) = f := by omega
    have er1 : rdF L len 200 0 0 0 (em (X 1)) = if ik L len n k q = 1 then rdF L len f (qs L len (q + 1) 3) (n + 1) k (npq L len q n h) else if ik L len n k q = 2 then rdF L len f (qs L len (q + 1) 3) n (k + 1) (ngq L len q k h) else (nI q, n, k, h) := by
      rw [er, hf]; exact if_neg (by omega)
    intro y6 e6
    refine s_item (L := L) (len := len) (q := q) (n := n) (k := k) (by rw [g13]; exact Sh) (by rw [g13]; exact eq) hl hlt (by rw [z_up_same]; exact H) (fun z g Sg => ?_) (fun z g Sg p1 p2 p3 => ?_) (fun z g Sg p1 p2 p3 => ?_)
    · refine ⟨fun w => absurd rfl w, fun _ => ?_⟩
      rw [if_neg (by omega), if_neg (by omega)] at er1
      rw [er1] at hK
      have := hK g Sg H
      rw [e6]
      have ex : z_up (z_up (z_up X 13 h') 1 h) 13 g = z_up (z_up X 13 g) 1 h := by
        funext i
        by_cases h1 : i = 1
        · subst h1; rw [z_up_ne (by decide), z_up_same, z_up_same]
        · by_cases h13 : i = 13
          · subst h13; rw [z_up_same, z_up_ne (by decide), z_up_same]
          · rw [z_up_ne h13, z_up_ne h1, z_up_ne h13, z_up_ne h1, z_up_ne h13]
      rw [ex]; exact this
    · refine ⟨fun _ y10 e10 => hL (_, _) hi2 ⟨qs L len (q + 1) 3, n + 1, k, npq L len q n h, g, ?_, Sg, p1, p2, by omega, (ok_np H z).1, ?_⟩, fun w => absurd w (by decide)⟩
      · rw [e10, nI_1, z_up_same]
        congr 1
        funext i
        by_cases h1 : i = 1
        · subst h1; rw [z_up_same, z_up_same]
        · rw [z_up_ne h1, z_up_ne h1]
          by_cases h13 : i = 13
          · subst h13; rw [z_up_same, z_up_same]
          · rw [z_up_ne h13, z_up_ne h1, z_up_ne h13, z_up_ne h13]
      · rw [er1, if_pos z, hf2]
    · refine ⟨fun _ y10 e10 => hL (_, _) hi2 ⟨qs L len (q + 1) 3, n, k + 1, ngq L len q k h, g, ?_, Sg, p1, p2, by omega, (ok_ng H z).1, ?_⟩, fun w => absurd w (by decide)⟩
      · rw [e10, nI_1, z_up_same]
        congr 1
        funext i
        by_cases h1 : i = 1
        · subst h1; rw [z_up_same, z_up_same]
        · rw [z_up_ne h1, z_up_ne h1]
          by_cases h13 : i = 13
          · subst h13; rw [z_up_same, z_up_same]
          · rw [z_up_ne h13, z_up_ne h1, z_up_ne h13, z_up_ne h13]
      · rw [er1, if_neg (by omega), if_pos z, hf2]
