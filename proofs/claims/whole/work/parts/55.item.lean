/-! ===== PURE: reading: one item ===== -/
def qs (L : Nat → Int32) (len q : Nat) : Nat → Nat
  | 0 => q
  | i + 1 => qs L len q i + pnI L len (qs L len q i) + 1
def sgn (i : Nat) : Int32 := if 2 ≤ i then 59 else 44
def it3 (L : Nat → Int32) (len q : Nat) : Bool := okN L len (qs L len q 0) 44 && (okN L len (qs L len q 1) 44 && okN L len (qs L len q 2) 59)
def nb (L : Nat → Int32) (len q i : Nat) : Int32 := vl L (qs L len q i) (pnI L len (qs L len q i))
theorem ok_no {L : Nat → Int32} {len q i : Nat} (hi : i < 3) (h : okN L len (qs L len q i) (sgn i) = false) : it3 L len q = false := by
  unfold it3
  have : i = 0 ∨ i = 1 ∨ i = 2 := by omega
  rcases this with rfl | rfl | rfl
  · have h : okN L len (qs L len q 0) 44 = false := h
    rw [h]; rfl
  · have h : okN L len (qs L len q 1) 44 = false := h
    rw [h, Bool.false_and, Bool.and_false]
  · have h : okN L len (qs L len q 2) 59 = false := h
    rw [h, Bool.and_false, Bool.and_false]
theorem ok_all {L : Nat → Int32} {len q : Nat} (h : ∀ i, i < 3 → okN L len (qs L len q i) (sgn i) = true) : it3 L len q = true := by
  unfold it3
  have h0 : okN L len (qs L len q 0) 44 = true := h 0 (by omega)
  have h1 : okN L len (qs L len q 1) 44 = true := h 1 (by omega)
  have h2 : okN L len (qs L len q 2) 59 = true := h 2 (by omega)
  rw [h0, h1, h2]; rfl
theorem ok_lt {L : Nat → Int32} {len q : Nat} {s : Int32} (hs : ¬ s = 0) (h : okN L len q s = true) : q + pnI L len q < len ∧ 1 ≤ pnI L len q := by
  unfold okN at h
  rw [Bool.and_eq_true, decide_eq_true_iff, decide_eq_true_iff] at h
  refine ⟨?_, h.1⟩
  have h2 := h.2
  unfold lt at h2
  by_cases c : q + pnI L len q < len
  · exact c
  · rw [if_neg c] at h2
    exact absurd h2.symm hs
theorem sgn_0 (i : Nat) : ¬ sgn i = 0 := by
  unfold sgn
  split <;> decide
theorem vl_pos {L : Nat → Int32} {len q : Nat} (h : 1 ≤ pnI L len q) : ∃ a, a ≤ 99 ∧ vl L q (pnI L len q) = nI a := by
  unfold pnI at h ⊢
  by_cases d0 : dg L len q = true
  · rw [if_pos d0] at h ⊢
    obtain ⟨-, hv0, -⟩ := dg_yes d0
    by_cases d1 : dg L len (q + 1) = true
    · rw [if_pos d1]
      obtain ⟨-, hv1, -⟩ := dg_yes d1
      exact ⟨_, by omega, vl_2 L q⟩
    · rw [if_neg d1]
      exact ⟨_, by omega, vl_1 L q⟩
  · rw [if_neg d0] at h
    omega
theorem vl_neg {L : Nat → Int32} {len q : Nat} (h : ¬ 1 ≤ pnI L len q) : vl L q (pnI L len q) = -1 := by
  have : pnI L len q = 0 := by omega
  rw [this]; rfl
/-- the scroll keeps its letters -/
def SC (h : z_G) (L : Nat → Int32) (len : Nat) : Prop := h 0 0 = nI len ∧ h 2 = L
theorem s_item3 {Y : z_X} {L : Nat → Int32} {len q : Nat} {x2 : Int32} {K : Int32 → z_X → Prop} (S : SC (Y 13) L len) (e1 : Y 13 0 1 = nI q) (hl : len ≤ 200) (hq : q ≤ len) (hF : it3 L len q = false → ∀ h', SC h' L len → K 0 (z_up Y 13 h')) (hT : it3 L len q = true → ∀ h', SC h' L len → h' 0 1 = nI (qs L len q 3) → qs L len q 3 ≤ len → q < qs L len q 3 → h' 3 0 = nb L len q 0 → h' 3 1 = nb L len q 1 → h' 3 2 = nb L len q 2 → v_X2_readItem_b24_s 1 K (fun _ _ _ => False) (z_up Y 13 h') x2 (nI 3)) : v_X2_readItem_b24 1 K Y x2 0 := by
  unfold v_X2_readItem_b24
  refine z_for 3 (fun i s => ∃ h', s = (z_up Y 13 h', x2, nI i) ∧ SC h' L len ∧ h' 0 1 = nI (qs L len q i) ∧ qs L len q i ≤ len ∧ q ≤ qs L len q i ∧ (0 < i → q < qs L len q i) ∧ (∀ j, j < i → h' 3 j = nb L len q j) ∧ ∀ j, j < i → okN L len (qs L len q j) (sgn j) = true) ?_ (Nat.zero_le 3) ⟨Y 13, by rw [z_up_self]; rfl, S, e1, hq, Nat.le_refl _, fun z => by omega, fun j hj => by omega, fun j hj => by omega⟩
  rintro i ⟨Y', x2', x3⟩ hi ⟨h', e, Si, ei, hqi, hqq, hq0, hn, hok⟩ Lp hL
  obtain ⟨rfl, e2⟩ := Prod.mk.inj e
  obtain ⟨rfl, rfl⟩ := Prod.mk.inj e2
  show v_X2_readItem_b24_s 1 K _ (z_up Y 13 h') x2' (nI i)
  by_cases h3 : i = 3
  · subst h3
    have T := hT (ok_all hok) h' Si ei hqi (hq0 (by omega)) (hn 0 (by omega)) (hn 1 (by omega)) (hn 2 (by omega))
    unfold v_X2_readItem_b24_s at T ⊢
    exact ⟨T.1, fun c => absurd (Int32.le_refl _) c⟩
  · have hi3 : i < 3 := by omega
    unfold v_X2_readItem_b24_s
    refine ⟨fun c => ?_, fun c => ?_⟩
    · have := (nI_leI (a := 3) (by omega) (by omega)).mp c; omega
    · rw [z_up_same, zi (show i < 1000 by omega)]
      refine s_readNumber Si.1 ei hl hqi ?_
      rw [Si.2]
      intro Y21 e21
      rw [z_up_up] at e21
      subst e21
      refine ⟨vi (by omega) (by omega), ?_⟩
      intro Y23 e23
      rw [z_up_up, z_up_same] at e23
      subst e23
      have c3 : ∀ g : z_G, g = z_ss (z_ss h' 0 1 (nI (qs L len q i + pnI L len (qs L len q i)))) 3 i (vl L (qs L len q i) (pnI L len (qs L len q i))) → SC g L len ∧ g 0 1 = nI (qs L len q i + pnI L len (qs L len q i)) ∧ g 3 i = nb L len q i ∧ ∀ j, j ≠ i → g 3 j = h' 3 j := by
        intro g eg
        refine ⟨⟨?_, ?_⟩, ?_, ?_, fun j hj => ?_⟩
        · rw [eg, z_ss_ne (by decide), z_ss_same, upd_ne (by decide)]; exact Si.1
        · rw [eg, z_ss_ne (by decide), z_ss_ne (by decide)]; exact Si.2
        · rw [eg, z_ss_ne (by decide), z_ss_same, upd_eq]
        · rw [eg, z_ss_same, upd_eq]; rfl
        · rw [eg, z_ss_same, upd_ne hj, z_ss_ne (by decide)]
      generalize hg : z_ss (z_ss h' 0 1 (nI (qs L len q i + pnI L len (qs L len q i)))) 3 i (vl L (qs L len q i) (pnI L len (qs L len q i))) = g
      obtain ⟨Sg, eg1, eg3, egj⟩ := c3 g hg.symm
      rw [z_up_same, eg3]
      have pos : ¬ nb L len q i < 0 → 1 ≤ pnI L len (qs L len q i) := by
        intro z
        rcases Nat.lt_or_ge 0 (pnI L len (qs L len q i)) with w | w
        · exact w
        · exact absurd (by unfold nb; rw [vl_neg (by omega)]; decide) z
      have pnle : qs L len q i + pnI L len (qs L len q i) ≤ len := by
        unfold pnI
        by_cases d0 : dg L len (qs L len q i) = true
        · rw [if_pos d0]
          have := (dg_yes d0).1
          by_cases d1 : dg L len (qs L len q i + 1) = true
          · rw [if_pos d1]; have := (dg_yes d1).1; omega
          · rw [if_neg d1]; omega
        · rw [if_neg d0]; omega
      have b61 : ¬ nb L len q i < 0 → v_X2_readItem_b61 1 K (fun Y x2 x3 => Lp (Y, x2, x3)) (z_up Y 13 g) x2' (nI i) (sgn i) := by
        intro z
        unfold v_X2_readItem_b61
        rw [z_up_same]
        refine s_readSign (sgn_0 i) Sg.1 eg1 hl pnle (fun a b => ?_) (fun a => ?_)
        · rw [Sg.2] at a
          intro Y29 e29
          rw [z_up_up] at e29
          refine ⟨fun _ y31 e31 => hL (_, _, _) hi3 ⟨z_ss g 0 1 (nI (qs L len q i + pnI L len (qs L len q i) + 1)), by rw [e29, e31, nI_1], ⟨?_, ?_⟩, ?_, ?_, ?_, fun _ => ?_, fun j hj => ?_, fun j hj => ?_⟩, fun w => absurd w (by decide)⟩
          · rw [z_ss_same, upd_ne (by decide)]; exact Sg.1
          · rw [z_ss_ne (by decide)]; exact Sg.2
          · rw [z_ss_same, upd_eq]; rfl
          · show qs L len q i + pnI L len (qs L len q i) + 1 ≤ len
            omega
          · show q ≤ qs L len q i + pnI L len (qs L len q i) + 1
            omega
          · show q < qs L len q i + pnI L len (qs L len q i) + 1
            omega
          · rw [z_ss_ne (by decide)]
            by_cases ej : j = i
            · rw [ej]; exact eg3
            · rw [egj j ej]; exact hn j (by omega)
          · by_cases ej : j = i
            · rw [ej]; unfold okN
              rw [decide_eq_true (pos z), decide_eq_true a]; rfl
            · exact hok j (by omega)
        · rw [Sg.2] at a
          intro Y29 e29
          rw [z_up_up] at e29
          refine ⟨fun w => absurd rfl w, fun _ => ?_⟩
          rw [e29]
          refine hF (ok_no hi3 ?_) g Sg
          unfold okN
          rw [decide_eq_false a, Bool.and_false]
      refine ⟨vi (by omega) (by omega), fun z => hF (ok_no hi3 ?_) g Sg, fun z => ⟨fun w => ?_, fun w => ?_⟩⟩
      · unfold okN
        have : ¬ 1 ≤ pnI L len (qs L len q i) := by
          intro w
          obtain ⟨a, ha, ea⟩ := vl_pos w
          unfold nb at z
          rw [ea] at z
          have := (nI_ltI (b := 0) (by omega) (by omega)).mp z
          omega
        rw [decide_eq_false this]; rfl
      · have := b61 z
        unfold sgn at this
        rw [if_pos ((nI_leI (a := 2) (by omega) (by omega)).mp w)] at this
        exact this
      · have := b61 z
        unfold sgn at this
        rw [if_neg (fun q => w (nI_le (a := 2) q (by omega)))] at this
        exact this
theorem r_item3 {G : z_G} {L : Nat → Int32} {len q : Nat} {K : Int32 → z_G → Prop} (e0 : G 0 0 = nI len) (e1 : G 0 13 = nI q) (hl : len ≤ 200) (hq : q ≤ len) (hLt : ∀ j, j < len → G 1 j = L j) (hF : it3 L len q = false → ∀ f v, K 0 (z_ss (z_sa G 14 f) 0 13 v)) (hT : it3 L len q = true → ∀ f, f 0 = nb L len q 0 → f 1 = nb L len q 1 → f 2 = nb L len q 2 → K 1 (z_ss (z_sa G 14 f) 0 13 (nI (qs L len q 3)))) : v_X6_numbers G K := by
  unfold v_X6_numbers v_X6_numbers_b2
  refine z_for 3 (fun i s => ∃ f, s = (z_ss (z_sa G 14 f) 0 13 (nI (qs L len q i)), nI i) ∧ qs L len q i ≤ len ∧ (∀ j, j < i → f j = nb L len q j) ∧ ∀ j, j < i → okN L len (qs L len q j) (sgn j) = true) ?_ (Nat.zero_le 3) ⟨G 14, by rw [sa_self]; show _ = (z_ss G 0 13 (nI q), _); rw [← e1, ss_self]; rfl, hq, fun j hj => by omega, fun j hj => by omega⟩
  rintro i ⟨G', x1⟩ hi ⟨f, e, hqi, hn, hok⟩ Lp hL
  obtain ⟨rfl, rfl⟩ := Prod.mk.inj e
  show v_X6_numbers_b2_s K _ (z_ss (z_sa G 14 f) 0 13 (nI (qs L len q i))) (nI i)
  unfold v_X6_numbers_b2_s
  refine ⟨fun c => ?_, fun c => ?_⟩
  · have : i = 3 := by have := (nI_leI (a := 3) (by omega) (by omega)).mp c; omega
    subst this
    exact hT (ok_all hok) f (hn 0 (by omega)) (hn 1 (by omega)) (hn 2 (by omega))
  · have hi3 : i < 3 := by
      rcases Nat.lt_or_ge i 3 with z | z
      · exact z
      · exact absurd (nI_le (a := 3) z (by omega)) c
    have hs : (if 2 ≤ i then (59 : Int32) else 44) = sgn i := rfl
    refine r_number (L := L) (len := len) (q := qs L len q i) (x := i) ?_ ?_ hl hqi hi3 (fun j hj => ?_) (fun z v => ?_) (fun z => ?_)
    · rw [z_ss_same, upd_ne (by decide), z_sa_ne (by decide)]; exact e0
    · rw [z_ss_same, upd_eq]
    · rw [z_ss_ne (by decide), z_sa_ne (by decide)]; exact hLt j hj
    · rw [ss_ss]
      exact hF (ok_no hi3 z) f v
    · have hlt := (ok_lt (sgn_0 i) z).1
      refine hL (_, _) hi3 ⟨upd f i (nb L len q i), ?_, ?_, fun j hj => ?_, fun j hj => ?_⟩
      · rw [ss_comm _ _ _ (by omega), ss_ss, ss_comm _ _ _ (by omega), sa_ss]; rfl
      · show qs L len q i + pnI L len (qs L len q i) + 1 ≤ len
        omega
      · by_cases ej : j = i
        · rw [ej, upd_eq]
        · rw [upd_ne ej]; exact hn j (by omega)
      · by_cases ej : j = i
        · rw [ej]; exact z
        · exact hok j (by omega)
