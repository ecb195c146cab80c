/-! ===== PURE: the text is read into the hall itself (printed) ===== -/
theorem s_item30 {Y : z_X} {L : Nat → Int32} {len q : Nat} {x2 : Int32} {K : Int32 → z_X → Prop} (S : SC (Y 13) L len) (e1 : Y 13 0 1 = nI q) (hl : len ≤ 200) (hq : q ≤ len) (hF : it3 L len q = false → ∀ h', SC h' L len → K 0 (z_up Y 13 h')) (hT : it3 L len q = true → ∀ h', SC h' L len → h' 0 1 = nI (qs L len q 3) → qs L len q 3 ≤ len → q < qs L len q 3 → h' 3 0 = nb L len q 0 → h' 3 1 = nb L len q 1 → h' 3 2 = nb L len q 2 → v_X2_readItem_b24_s 0 K (fun _ _ _ => False) (z_up Y 13 h') x2 (nI 3)) : v_X2_readItem_b24 0 K Y x2 0 := by
  unfold v_X2_readItem_b24
  refine z_for 3 (fun i s => ∃ h', s = (z_up Y 13 h', x2, nI i) ∧ SC h' L len ∧ h' 0 1 = nI (qs L len q i) ∧ qs L len q i ≤ len ∧ q ≤ qs L len q i ∧ (0 < i → q < qs L len q i) ∧ (∀ j, j < i → h' 3 j = nb L len q j) ∧ ∀ j, j < i → okN L len (qs L len q j) (sgn j) = true) ?_ (Nat.zero_le 3) ⟨Y 13, by rw [z_up_self]; rfl, S, e1, hq, Nat.le_refl _, fun z => by omega, fun j hj => by omega, fun j hj => by omega⟩
  rintro i ⟨Y', x2', x3⟩ hi ⟨h', e, Si, ei, hqi, hqq, hq0, hn, hok⟩ Lp hL
  obtain ⟨rfl, e2⟩ := Prod.mk.inj e
  obtain ⟨rfl, rfl⟩ := Prod.mk.inj e2
  show v_X2_readItem_b24_s 0 K _ (z_up Y 13 h') x2' (nI i)
  by_cases h3 : i = 3
  · subst h3
    have T := hT (ok_all hok) h' Si ei hqi (hq0 (by omega)) (hn 0 (by omega)) (hn 1 (by omega)) (hn 2 (by omega))
    unfold v_X2_readItem_b24_s at T ⊢
    exact ⟨T.1, fun c => absurd (Int32.le_refl _) c⟩
  · have hi3 : i < 3 := by omega
    unfold v_X2_readItem_b24_s
    refine ⟨fun c => ?_, fun c => ?_⟩
    · have := (nI_leI (a := 3) (by omega) (by omega)).mp c; omega
    · rw [z_up_same, zi (show i < 1000 by omega)]
      refine s_readNumber Si.1 ei hl hqi ?_
      rw [Si.2]
      intro Y21 e21
      rw [z_up_up] at e21
      subst e21
      refine ⟨vi (by omega) (by omega), ?_⟩
      intro Y23 e23
      rw [z_up_up, z_up_same] at e23
      subst e23
      have c3 : ∀ g : z_G, g = z_ss (z_ss h' 0 1 (nI (qs L len q i + pnI L len (qs L len q i)))) 3 i (vl L (qs L len q i) (pnI L len (qs L len q i))) → SC g L len ∧ g 0 1 = nI (qs L len q i + pnI L len (qs L len q i)) ∧ g 3 i = nb L len q i ∧ ∀ j, j ≠ i → g 3 j = h' 3 j := by
        intro g eg
        refine ⟨⟨?_, ?_⟩, ?_, ?_, fun j hj => ?_⟩
        · rw [eg, z_ss_ne (by decide), z_ss_same, upd_ne (by decide)]; exact Si.1
        · rw [eg, z_ss_ne (by decide), z_ss_ne (by decide)]; exact Si.2
        · rw [eg, z_ss_ne (by decide), z_ss_same, upd_eq]
        · rw [eg, z_ss_same, upd_eq]; rfl
        · rw [eg, z_ss_same, upd_ne hj, z_ss_ne (by decide)]
      generalize hg : z_ss (z_ss h' 0 1 (nI (qs L len q i + pnI L len (qs L len q i)))) 3 i (vl L (qs L len q i) (pnI L len (qs L len q i))) = g
      obtain ⟨Sg, eg1, eg3, egj⟩ := c3 g hg.symm
      rw [z_up_same, eg3]
      have pos : ¬ nb L len q i < 0 → 1 ≤ pnI L len (qs L len q i) := by
        intro z
        rcases Nat.lt_or_ge 0 (pnI L len (qs L len q i)) with w | w
        · exact w
        · exact absurd (by unfold nb; rw [vl_neg (by omega)]; decide) z
      have pnle : qs L len q i + pnI L len (qs L len q i) ≤ len := by
        unfold pnI
        by_cases d0 : dg L len (qs L len q i) = true
        · rw [if_pos d0]
          have := (dg_yes d0).1
          by_cases d1 : dg L len (qs L len q i + 1) = true
          · rw [if_pos d1]; have := (dg_yes d1).1; omega
          · rw [if_neg d1]; omega
        · rw [if_neg d0]; omega
      have b61 : ¬ nb L len q i < 0 → v_X2_readItem_b61 0 K (fun Y x2 x3 => Lp (Y, x2, x3)) (z_up Y 13 g) x2' (nI i) (sgn i) := by
        intro z
        unfold v_X2_readItem_b61
        rw [z_up_same]
        refine s_readSign (sgn_0 i) Sg.1 eg1 hl pnle (fun a b => ?_) (fun a => ?_)
        · rw [Sg.2] at a
          intro Y29 e29
          rw [z_up_up] at e29
          refine ⟨fun _ y31 e31 => hL (_, _, _) hi3 ⟨z_ss g 0 1 (nI (qs L len q i + pnI L len (qs L len q i) + 1)), by rw [e29, e31, nI_1], ⟨?_, ?_⟩, ?_, ?_, ?_, fun _ => ?_, fun j hj => ?_, fun j hj => ?_⟩, fun w => absurd w (by decide)⟩
          · rw [z_ss_same, upd_ne (by decide)]; exact Sg.1
          · rw [z_ss_ne (by decide)]; exact Sg.2
          · rw [z_ss_same, upd_eq]; rfl
          · show qs L len q i + pnI L len (qs L len q i) + 1 ≤ len
            omega
          · show q ≤ qs L len q i + pnI L len (qs L len q i) + 1
            omega
          · show q < qs L len q i + pnI L len (qs L len q i) + 1
            omega
          · rw [z_ss_ne (by decide)]
            by_cases ej : j = i
            · rw [ej]; exact eg3
            · rw [egj j ej]; exact hn j (by omega)
          · by_cases ej : j = i
            · rw [ej]; unfold okN
              rw [decide_eq_true (pos z), decide_eq_true a]; rfl
            · exact hok j (by omega)
        · rw [Sg.2] at a
          intro Y29 e29
          rw [z_up_up] at e29
          refine ⟨fun w => absurd rfl w, fun _ => ?_⟩
          rw [e29]
          refine hF (ok_no hi3 ?_) g Sg
          unfold okN
          rw [decide_eq_false a, Bool.and_false]
      refine ⟨vi (by omega) (by omega), fun z => hF (ok_no hi3 ?_) g Sg, fun z => ⟨fun w => ?_, fun w => ?_⟩⟩
      · unfold okN
        have : ¬ 1 ≤ pnI L len (qs L len q i) := by
          intro w
          obtain ⟨a, ha, ea⟩ := vl_pos w
          unfold nb at z
          rw [ea] at z
          have := (nI_ltI (b := 0) (by omega) (by omega)).mp z
          omega
        rw [decide_eq_false this]; rfl
      · have := b61 z
        unfold sgn at this
        rw [if_pos ((nI_leI (a := 2) (by omega) (by omega)).mp w)] at this
        exact this
      · have := b61 z
        unfold sgn at this
        rw [if_neg (fun q => w (nI_le (a := 2) q (by omega)))] at this
        exact this
theorem s_item0 {Y : z_X} {L : Nat → Int32} {len q n k : Nat} {K : Int32 → z_X → Prop} (S : SC (Y 13) L len) (e1 : Y 13 0 1 = nI q) (hl : len ≤ 200) (hq : q < len) (H : HN n k (Y 0)) (hB : ik L len n k q = 0 → ∀ h', SC h' L len → K 0 (z_up Y 13 h')) (hP : ik L len n k q = 1 → ∀ h', SC h' L len → h' 0 1 = nI (qs L len (q + 1) 3) → qs L len (q + 1) 3 ≤ len → q < qs L len (q + 1) 3 → K 1 (z_up (z_up Y 13 h') 0 (npq L len q n (Y 0)))) (hG : ik L len n k q = 2 → ∀ h', SC h' L len → h' 0 1 = nI (qs L len (q + 1) 3) → qs L len (q + 1) 3 ≤ len → q < qs L len (q + 1) 3 → K 1 (z_up (z_up Y 13 h') 0 (ngq L len q k (Y 0)))) : v_X2_readItem 0 Y K := by
  have hn6 := H.1.2.2.1
  have hk8 := H.1.2.2.2.1
  have st : ∀ g : z_G, g = z_ss (Y 13) 0 1 (nI (q + 1)) → SC g L len ∧ g 0 1 = nI (q + 1) := by
    intro g eg
    refine ⟨⟨?_, ?_⟩, ?_⟩
    · rw [eg, z_ss_same, upd_ne (by decide)]; exact S.1
    · rw [eg, z_ss_ne (by decide)]; exact S.2
    · rw [eg, z_ss_same, upd_eq]
  unfold v_X2_readItem
  refine s_readSign (by decide) S.1 e1 hl (by omega) (fun a _ => ?_) (fun a => ?_)
  · rw [S.2] at a
    intro Y3 e3
    obtain ⟨Sg, eg⟩ := st _ rfl
    refine ⟨fun _ => ?_, fun z => absurd z (by decide)⟩
    rw [e3]
    refine s_item30 (L := L) (len := len) (q := q + 1) (by rw [z_up_same]; exact Sg) (by rw [z_up_same]; exact eg) hl (by omega) (fun z h' S' => ?_) (fun z h' S' p1 p2 p3 n0 n1 n2 => ?_)
    · rw [z_up_up]
      refine hB ?_ h' S'
      unfold ik; rw [if_pos a, z, Bool.false_and, if_neg (by decide)]
    · rw [z_up_up]
      unfold v_X2_readItem_b24_s
      refine ⟨fun _ => ⟨fun w => absurd w (by decide), fun _ => ⟨vi (a := 0) (by omega) (by omega), vi (a := 1) (by omega) (by omega), vi (a := 2) (by omega) (by omega), ?_⟩⟩, fun c => absurd (Int32.le_refl _) c⟩
      rw [z_up_same, zn0, zn1, zn2, n0, n1, n2, z_up_ne (show 0 ≠ 13 by decide)]
      refine s_addPerson H.1.1 hn6 (fun w => ?_) (fun w => ?_)
      · intro Y18 e18
        have : Y18 = z_up Y 13 h' := by
          rw [e18]
          have := z_up_self (z_up Y 13 h') 0
          rw [z_up_ne (show 0 ≠ 13 by decide)] at this
          exact this
        rw [this]
        refine ⟨Or.inl rfl, hB ?_ h' S'⟩
        unfold ik; rw [if_pos a, w, Bool.and_false, if_neg (by decide)]
      · intro Y18 e18
        rw [e18]
        refine ⟨Or.inr rfl, hP ?_ h' S' p1 p2 (by omega)⟩
        unfold ik; rw [if_pos a, z, w, if_pos (by decide)]
  · rw [S.2] at a
    intro Y3 e3
    rw [z_up_self] at e3
    refine ⟨fun z => absurd rfl z, fun _ => ?_⟩
    rw [e3]
    refine s_readSign (by decide) S.1 e1 hl (by omega) (fun b _ => ?_) (fun b => ?_)
    · rw [S.2] at b
      intro Y34 e34
      obtain ⟨Sg, eg⟩ := st _ rfl
      refine ⟨fun _ => ?_, fun z => absurd z (by decide)⟩
      rw [e34]
      refine s_item30 (L := L) (len := len) (q := q + 1) (by rw [z_up_same]; exact Sg) (by rw [z_up_same]; exact eg) hl (by omega) (fun z h' S' => ?_) (fun z h' S' p1 p2 p3 n0 n1 n2 => ?_)
      · rw [z_up_up]
        refine hB ?_ h' S'
        unfold ik; rw [if_neg a, if_pos b, z, Bool.false_and, if_neg (by decide)]
      · rw [z_up_up]
        unfold v_X2_readItem_b24_s
        refine ⟨fun _ => ⟨fun _ => ⟨vi (a := 0) (by omega) (by omega), vi (a := 1) (by omega) (by omega), vi (a := 2) (by omega) (by omega), ?_⟩, fun w => absurd rfl w⟩, fun c => absurd (Int32.le_refl _) c⟩
        rw [z_up_same, zn0, zn1, zn2, n0, n1, n2, z_up_ne (show 0 ≠ 13 by decide)]
        refine s_addGlove H.1.1 H.1.2.1 hk8 (fun w => ?_) (fun w => ?_)
        · intro Y18 e18
          have : Y18 = z_up Y 13 h' := by
            rw [e18]
            have := z_up_self (z_up Y 13 h') 0
            rw [z_up_ne (show 0 ≠ 13 by decide)] at this
            exact this
          rw [this]
          refine ⟨Or.inl rfl, hB ?_ h' S'⟩
          unfold ik; rw [if_neg a, if_pos b, w, Bool.and_false, if_neg (by decide)]
        · intro Y18 e18
          rw [e18]
          refine ⟨Or.inr rfl, hG ?_ h' S' p1 p2 (by omega)⟩
          unfold ik; rw [if_neg a, if_pos b, z, w, if_pos (by decide)]
    · rw [S.2] at b
      intro Y34 e34
      rw [z_up_self] at e34
      refine ⟨fun z => absurd rfl z, fun _ => ?_⟩
      rw [e34]
      have := hB (by unfold ik; rw [if_neg a, if_neg b]) (Y 13) S
      rw [z_up_self] at this
      exact this
theorem s_into0 {X : z_X} {L : Nat → Int32} {len : Nat} {K : Int32 → z_X → Prop} (S : SC (X 13) L len) (hl : len ≤ 200) (N1 : NF (X 0)) (hK : ∀ h', SC h' L len → HN (rdF L len 200 0 0 0 (em (X 0))).2.1 (rdF L len 200 0 0 0 (em (X 0))).2.2.1 (rdF L len 200 0 0 0 (em (X 0))).2.2.2 → K (rdF L len 200 0 0 0 (em (X 0))).1 (z_up (z_up X 13 h') 0 (rdF L len 200 0 0 0 (em (X 0))).2.2.2)) : v_X2_readInto 0 X K := by
  unfold v_X2_readInto
  refine s_empty ?_
  intro Y2 e2 Y3 e3
  unfold v_X2_readInto_b11
  have e3' : Y3 = z_up (z_up X 13 (z_ss (X 13) 0 1 0)) 0 (em (X 0)) := by
    rw [e3, e2, z_up_ne (show 13 ≠ 0 by decide)]
    funext i
    by_cases h1 : i = 0
    · subst h1; rw [z_up_ne (by decide), z_up_same, z_up_same]
    · rw [z_up_ne (o := 0) h1]
      by_cases h13 : i = 13
      · subst h13; rw [z_up_same, z_up_same]
      · rw [z_up_ne h13, z_up_ne h13, z_up_ne h1]
  refine z_for 200 (fun i s => ∃ q n k h h', s = (z_up (z_up X 13 h') 0 h, nI i) ∧ SC h' L len ∧ h' 0 1 = nI q ∧ q ≤ len ∧ i ≤ q ∧ HN n k h ∧ rdF L len 200 0 0 0 (em (X 0)) = rdF L len (200 - i) q n k h) ?_ (Nat.zero_le 200) ⟨0, 0, 0, em (X 0), z_ss (X 13) 0 1 0, by rw [e3']; rfl, ⟨by rw [z_ss_same, upd_ne (by decide)]; exact S.1, by rw [z_ss_ne (by decide)]; exact S.2⟩, by rw [z_ss_same, upd_eq]; rfl, by omega, by omega, HN_em N1, rfl⟩
  rintro i ⟨Y, x2⟩ hi ⟨q, n, k, h, h', e, Sh, eq, hq, hiq, H, er⟩ Lp hL
  obtain ⟨rfl, rfl⟩ := Prod.mk.inj e
  show v_X2_readInto_b11_s 0 K _ (z_up (z_up X 13 h') 0 h) (nI i)
  unfold v_X2_readInto_b11_s
  have g13 : z_up (z_up X 13 h') 0 h 13 = h' := by rw [z_up_ne (by decide), z_up_same]
  rw [g13, Sh.1, eq]
  have stop : len ≤ q → K (-4) (z_up (z_up X 13 h') 0 h) := by
    intro c
    have r : rdF L len (200 - i) q n k h = (-4, n, k, h) := by
      rcases Nat.eq_zero_or_pos (200 - i) with z | z
      · rw [z]; rfl
      · obtain ⟨f, hf⟩ : ∃ f, 200 - i = f + 1 := ⟨200 - i - 1, by omega⟩
        rw [hf]; exact if_pos c
    rw [er, r] at hK
    exact hK h' Sh H
  refine ⟨fun c => stop ?_, fun c => ⟨fun d => stop ((nI_leI (by omega) (by omega)).mp d), fun d => ?_⟩⟩
  · have := (nI_leI (a := 200) (by omega) (by omega)).mp c; omega
  · have hi2 : i < 200 := by
      rcases Nat.lt_or_ge i 200 with z | z
      · exact z
      · exact absurd (nI_le (a := 200) z (by omega)) c
    have hlt : q < len := by
      rcases Nat.lt_or_ge q len with z | z
      · exact z
      · exact absurd (nI_le z (by omega)) d
    obtain ⟨f, hf⟩ : ∃ f, 200 - i = f + 1 := ⟨200 - i - 1, by omega⟩
    have hf2 : 200 - (i + 1) = f := by omega
    have er1 : rdF L len 200 0 0 0 (em (X 0)) = if ik L len n k q = 1 then rdF L len f (qs L len (q + 1) 3) (n + 1) k (npq L len q n h) else if ik L len n k q = 2 then rdF L len f (qs L len (q + 1) 3) n (k + 1) (ngq L len q k h) else (nI q, n, k, h) := by
      rw [er, hf]; exact if_neg (by omega)
    intro y6 e6
    refine s_item0 (L := L) (len := len) (q := q) (n := n) (k := k) (by rw [g13]; exact Sh) (by rw [g13]; exact eq) hl hlt (by rw [z_up_same]; exact H) (fun z g Sg => ?_) (fun z g Sg p1 p2 p3 => ?_) (fun z g Sg p1 p2 p3 => ?_)
    · refine ⟨fun w => absurd rfl w, fun _ => ?_⟩
      rw [if_neg (by omega), if_neg (by omega)] at er1
      rw [er1] at hK
      have := hK g Sg H
      rw [e6]
      have ex : z_up (z_up (z_up X 13 h') 0 h) 13 g = z_up (z_up X 13 g) 0 h := by
        funext i
        by_cases h1 : i = 0
        · subst h1; rw [z_up_ne (by decide), z_up_same, z_up_same]
        · by_cases h13 : i = 13
          · subst h13; rw [z_up_same, z_up_ne (by decide), z_up_same]
          · rw [z_up_ne h13, z_up_ne h1, z_up_ne h13, z_up_ne h1, z_up_ne h13]
      rw [ex]; exact this
    · refine ⟨fun _ y10 e10 => hL (_, _) hi2 ⟨qs L len (q + 1) 3, n + 1, k, npq L len q n h, g, ?_, Sg, p1, p2, by omega, (ok_np H z).1, ?_⟩, fun w => absurd w (by decide)⟩
      · rw [e10, nI_1, z_up_same]
        congr 1
        funext i
        by_cases h1 : i = 0
        · subst h1; rw [z_up_same, z_up_same]
        · rw [z_up_ne h1, z_up_ne h1]
          by_cases h13 : i = 13
          · subst h13; rw [z_up_same, z_up_same]
          · rw [z_up_ne h13, z_up_ne h1, z_up_ne h13, z_up_ne h13]
      · rw [er1, if_pos z, hf2]
    · refine ⟨fun _ y10 e10 => hL (_, _) hi2 ⟨qs L len (q + 1) 3, n, k + 1, ngq L len q k h, g, ?_, Sg, p1, p2, by omega, (ok_ng H z).1, ?_⟩, fun w => absurd w (by decide)⟩
      · rw [e10, nI_1, z_up_same]
        congr 1
        funext i
        by_cases h1 : i = 0
        · subst h1; rw [z_up_same, z_up_same]
        · rw [z_up_ne h1, z_up_ne h1]
          by_cases h13 : i = 13
          · subst h13; rw [z_up_same, z_up_same]
          · rw [z_up_ne h13, z_up_ne h1, z_up_ne h13, z_up_ne h13]
      · rw [er1, if_neg (by omega), if_pos z, hf2]

