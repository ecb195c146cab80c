/-! ===== PURE: reading: letters and numbers ===== -/
def lt (L : Nat → Int32) (len q : Nat) : Int32 := if q < len then L q else 0
def dg (L : Nat → Int32) (len q : Nat) : Bool := wi (lt L len q) 48 57
def dv (L : Nat → Int32) (q : Nat) : Nat := z_n (L q) - 48
def vl (L : Nat → Int32) (q i : Nat) : Int32 := if i = 0 then -1 else if i = 1 then nI (dv L q) else nI (10 * dv L q + dv L (q + 1))
def pnI (L : Nat → Int32) (len q : Nat) : Nat := if dg L len q then (if dg L len (q + 1) then 2 else 1) else 0
def okN (L : Nat → Int32) (len q : Nat) (s : Int32) : Bool := decide (1 ≤ pnI L len q) && decide (lt L len (q + pnI L len q) = s)
theorem dg_yes {L : Nat → Int32} {len q : Nat} (h : dg L len q = true) : q < len ∧ dv L q ≤ 9 ∧ L q = nI (dv L q + 48) := by
  unfold dg lt at h
  by_cases c : q < len
  · rw [if_pos c] at h
    obtain ⟨j, h1, h2, e⟩ := wi_nat (a := 48) (b := 57) (by omega) h (by omega)
    have ed : dv L q = j - 48 := by unfold dv; rw [e, z_n_nI (by omega)]
    exact ⟨c, by omega, by rw [e, ed]; congr 1; omega⟩
  · rw [if_neg c] at h
    exact absurd h (by decide)
theorem dg_in {L : Nat → Int32} {len q : Nat} (h : q < len) : dg L len q = wi (L q) 48 57 := by
  unfold dg lt
  rw [if_pos h]
theorem vl_1 (L : Nat → Int32) (q : Nat) : vl L q 1 = nI (dv L q) := rfl
theorem vl_2 (L : Nat → Int32) (q : Nat) : vl L q 2 = nI (10 * dv L q + dv L (q + 1)) := rfl
theorem s_readNumber {h : z_G} {len q : Nat} {K : Int32 → z_G → Prop} (e0 : h 0 0 = nI len) (e1 : h 0 1 = nI q) (hl : len ≤ 200) (hq : q ≤ len) (hK : K (vl (h 2) q (pnI (h 2) len q)) (z_ss h 0 1 (nI (q + pnI (h 2) len q)))) : v_X2_readNumber h K := by
  unfold v_X2_readNumber v_X2_readNumber_b4
  refine z_for 2 (fun i s => s = (z_ss h 0 1 (nI (q + i)), vl (h 2) q i, nI i) ∧ q + i ≤ len ∧ ∀ j, j < i → dg (h 2) len (q + j) = true) ?_ (Nat.zero_le 2) ⟨by rw [Nat.add_zero, ← e1, ss_self]; rfl, hq, fun j hj => by omega⟩
  rintro i ⟨g, x1, x2⟩ hi ⟨e, hqi, hd⟩ Lp hL
  obtain ⟨rfl, e2⟩ := Prod.mk.inj e
  obtain ⟨rfl, rfl⟩ := Prod.mk.inj e2
  have c0 : z_ss h 0 1 (nI (q + i)) 0 0 = nI len := by rw [z_ss_same, upd_ne (by decide)]; exact e0
  have c1 : z_ss h 0 1 (nI (q + i)) 0 1 = nI (q + i) := by rw [z_ss_same, upd_eq]
  show v_X2_readNumber_b4_s K _ (z_ss h 0 1 (nI (q + i))) (vl (h 2) q i) (nI i)
  unfold v_X2_readNumber_b4_s
  rw [c0, c1, z_ss_ne (show 2 ≠ 0 by decide)]
  have stop : pnI (h 2) len q = i → K (vl (h 2) q i) (z_ss h 0 1 (nI (q + i))) := fun z => by rw [← z]; exact hK
  have p2 : i = 2 → pnI (h 2) len q = i := by
    intro z; subst z
    have d0 := hd 0 (by omega)
    have d1 := hd 1 (by omega)
    rw [Nat.add_zero] at d0
    unfold pnI; rw [if_pos d0, if_pos d1]
  have pn : i < 2 → dg (h 2) len (q + i) = false → pnI (h 2) len q = i := by
    intro z1 z2
    have : i = 0 ∨ i = 1 := by omega
    rcases this with rfl | rfl
    · rw [Nat.add_zero] at z2
      unfold pnI; rw [if_neg (by rw [z2]; decide)]
    · have d0 := hd 0 (by omega)
      rw [Nat.add_zero] at d0
      unfold pnI; rw [if_pos d0, if_neg (by rw [z2]; decide)]
  refine ⟨fun c => stop (p2 ?_), fun c => ?_⟩
  · have := (nI_leI (a := 2) (by omega) (by omega)).mp c; omega
  · have hi2 : i < 2 := by
      rcases Nat.lt_or_ge i 2 with z | z
      · exact z
      · exact absurd (nI_le (a := 2) z (by omega)) c
    refine ⟨fun d => stop (pn hi2 ?_), fun d => ?_⟩
    · have := (nI_leI (by omega) (by omega)).mp d
      unfold dg lt
      rw [if_neg (by omega)]; decide
    · have hlt : q + i < len := by
        rcases Nat.lt_or_ge (q + i) len with z | z
        · exact z
        · exact absurd (nI_le z (by omega)) d
      rw [zi (show q + i < 1000 by omega)]
      refine ⟨vi (by omega) (by omega), s_within (br0 (fun f => stop (pn hi2 (by rw [dg_in hlt]; exact f))) (fun f => ⟨vi (by omega) (by omega), ?_⟩))⟩
      have hdi : dg (h 2) len (q + i) = true := by rw [dg_in hlt]; exact f
      obtain ⟨-, hv, ev⟩ := dg_yes hdi
      intro y7 e7 h8 e8 y9 e9
      refine hL (_, _, _) hi2 ⟨?_, by omega, fun j hj => ?_⟩
      · rw [e8, e9, ss_ss, nI_1, nI_1]
        have ey : y7 = vl (h 2) q (i + 1) := by
          rw [e7, ev]
          have : i = 0 ∨ i = 1 := by omega
          rcases this with rfl | rfl
          · have : (if vl (h 2) q 0 < 0 then (0 : Int32) else vl (h 2) q 0) = nI 0 := by
              show (if (-1 : Int32) < 0 then (0 : Int32) else -1) = 0
              decide
            rw [this, show (10 : Int32) = nI 10 from rfl, pk_mul, nI_add, show (48 : Int32) = nI 48 from rfl, pk_sub (by omega), vl_1]
            have : dv (h 2) (q + 0) = dv (h 2) q := rfl
            congr 1; omega
          · have d0 := hd 0 (by omega)
            rw [Nat.add_zero] at d0
            obtain ⟨-, hv0, -⟩ := dg_yes d0
            have : (if vl (h 2) q 1 < 0 then (0 : Int32) else vl (h 2) q 1) = nI (dv (h 2) q) := by
              rw [vl_1, if_neg]
              intro z
              have := (nI_ltI (b := 0) (by omega) (by omega)).mp z
              omega
            rw [this, show (10 : Int32) = nI 10 from rfl, pk_mul, nI_add, show (48 : Int32) = nI 48 from rfl, pk_sub (by omega), vl_2]
            congr 1; omega
        rw [ey, Nat.add_assoc]
      · by_cases z : j = i
        · rw [z]; exact hdi
        · exact hd j (by omega)
theorem s_readSign {h : z_G} {len q : Nat} {s : Int32} {K : Int32 → z_G → Prop} (hs : ¬ s = 0) (e0 : h 0 0 = nI len) (e1 : h 0 1 = nI q) (hl : len ≤ 200) (hq : q ≤ len) (hT : lt (h 2) len q = s → q < len → K 1 (z_ss h 0 1 (nI (q + 1)))) (hF : ¬ lt (h 2) len q = s → K 0 h) : v_X2_readSign h s K := by
  unfold v_X2_readSign
  rw [e0, e1]
  refine ⟨fun c => hF ?_, fun c => ?_⟩
  · have := (nI_leI (by omega) (by omega)).mp c
    unfold lt
    rw [if_neg (by omega)]
    exact fun z => hs z.symm
  · have hlt : q < len := by
      rcases Nat.lt_or_ge q len with z | z
      · exact z
      · exact absurd (nI_le z (by omega)) c
    rw [zi (show q < 1000 by omega), nI_1]
    have el : lt (h 2) len q = h 2 q := if_pos hlt
    rw [el] at hT hF
    refine ⟨vi (by omega) (by omega), fun d => ?_, hF⟩
    intro h4 e4
    rw [e4]; exact hT d hlt
theorem r_letterAt {G : z_G} {L : Nat → Int32} {len q : Nat} {K : Int32 → Prop} (e0 : G 0 0 = nI len) (hl : len ≤ 200) (hq : q < 1000) (hL : ∀ j, j < len → G 1 j = L j) (hK : K (lt L len q)) : v_X6_letterAt G (nI q) K := by
  unfold v_X6_letterAt
  rw [e0]
  unfold lt at hK
  refine ⟨fun c => ?_, fun c => ?_⟩
  · have := (nI_leI (by omega) (by omega)).mp c
    rw [if_neg (by omega)] at hK; exact hK
  · have hlt : q < len := by
      rcases Nat.lt_or_ge q len with z | z
      · exact z
      · exact absurd (nI_le z (by omega)) c
    rw [if_pos hlt] at hK
    rw [zi hq, hL q hlt]
    exact ⟨vi (by omega) (by omega), hK⟩
theorem r_number {G : z_G} {L : Nat → Int32} {len q x : Nat} {K : Int32 → z_G → Prop} {L2 : z_G → Int32 → Prop} (e0 : G 0 0 = nI len) (e1 : G 0 13 = nI q) (hl : len ≤ 200) (hq : q ≤ len) (hx : x < 3) (hLt : ∀ j, j < len → G 1 j = L j) (hF : okN L len q (if 2 ≤ x then 59 else 44) = false → ∀ v, K 0 (z_ss G 0 13 v)) (hT : okN L len q (if 2 ≤ x then 59 else 44) = true → L2 (z_ss (z_ss G 14 x (vl L q (pnI L len q))) 0 13 (nI (q + pnI L len q + 1))) (nI (x + 1))) : v_X6_numbers_b11 K L2 G (nI x) 0 0 := by
  unfold v_X6_numbers_b11
  refine z_for 3 (fun i s => ∃ v, s = (z_ss G 0 13 (nI (q + i)), nI x, nI i, v) ∧ q + i ≤ len ∧ (∀ j, j < i → dg L len (q + j) = true) ∧ (i = 0 → v = 0) ∧ (1 ≤ i → i ≤ 2 → v = vl L q i)) ?_ (Nat.zero_le 3) ⟨0, by rw [Nat.add_zero, ← e1, ss_self]; rfl, hq, fun j hj => by omega, fun _ => rfl, fun z => by omega⟩
  rintro i ⟨g, x1, x2, x3⟩ hi ⟨v, e, hqi, hd, hv0, hv⟩ Lp hL
  obtain ⟨rfl, e2⟩ := Prod.mk.inj e
  obtain ⟨rfl, e3⟩ := Prod.mk.inj e2
  obtain ⟨rfl, rfl⟩ := Prod.mk.inj e3
  have c0 : z_ss G 0 13 (nI (q + i)) 0 0 = nI len := by rw [z_ss_same, upd_ne (by decide)]; exact e0
  have c1 : z_ss G 0 13 (nI (q + i)) 0 13 = nI (q + i) := by rw [z_ss_same, upd_eq]
  have cL : ∀ j, j < len → z_ss G 0 13 (nI (q + i)) 1 j = L j := fun j hj => by rw [z_ss_ne (by decide)]; exact hLt j hj
  show v_X6_numbers_b11_s K L2 _ (z_ss G 0 13 (nI (q + i))) (nI x) (nI i) x3
  unfold v_X6_numbers_b11_s
  rw [c1]
  have b70 : (i = 3 ∨ dg L len (q + i) = false) → v_X6_numbers_b70 K L2 (z_ss G 0 13 (nI (q + i))) (nI x) (nI i) x3 := by
    intro hend
    unfold v_X6_numbers_b70
    have notok : (i = 0 ∨ i = 3) → okN L len q (if 2 ≤ x then 59 else 44) = false := by
      intro z
      rcases z with rfl | rfl
      · rcases hend with z | z
        · omega
        · rw [Nat.add_zero] at z
          unfold okN pnI
          rw [if_neg (by rw [z]; decide)]; rfl
      · have d0 := hd 0 (by omega)
        have d1 := hd 1 (by omega)
        have d2 := hd 2 (by omega)
        rw [Nat.add_zero] at d0
        obtain ⟨hlt2, hv2, ev2⟩ := dg_yes d2
        unfold okN pnI
        rw [if_pos d0, if_pos d1]
        have : ¬ lt L len (q + 2) = (if 2 ≤ x then 59 else 44) := by
          unfold lt
          rw [if_pos hlt2, ev2]
          split
          · intro z
            have := (nI_eq (b := 59) (by omega) (by omega)).mp z
            omega
          · intro z
            have := (nI_eq (b := 44) (by omega) (by omega)).mp z
            omega
        rw [decide_eq_false this, Bool.and_false]
    refine s_in (a := 1) (b := 2) rfl rfl rfl (br0 (fun z => ?_) (fun z => ?_))
    · refine hF (notok ?_) _
      rcases Nat.lt_or_ge i 1 with a | a
      · omega
      · rcases Nat.lt_or_ge 2 i with b | b
        · omega
        · exact bx (wi_yes (a := 1) (m := 2) a b (by omega)) z
    · obtain ⟨j, hj1, hj2, ej⟩ := wi_nat (a := 1) (b := 2) (by omega) z (by omega)
      have : i = j := (nI_eq (by omega) (by omega)).mp ej
      subst this
      have ep : pnI L len q = i := by
        have d0 := hd 0 (by omega)
        rw [Nat.add_zero] at d0
        unfold pnI
        rw [if_pos d0]
        have : i = 1 ∨ i = 2 := by omega
        rcases this with rfl | rfl
        · rcases hend with z | z
          · omega
          · rw [if_neg (by rw [z]; decide)]
        · rw [if_pos (hd 1 (by omega))]
      rw [c1]
      refine r_letterAt c0 hl (by omega) cL ?_
      have fin : ∀ t : Int32, t = (if 2 ≤ x then 59 else 44) → v_X6_numbers_b102 K L2 (z_ss G 0 13 (nI (q + i))) (nI x) x3 (lt L len (q + i)) t := by
        intro t et
        unfold v_X6_numbers_b102
        rw [zi (show x < 1000 by omega)]
        refine ⟨fun a => ⟨vi (by omega) (by omega), ?_⟩, fun a => hF ?_ _⟩
        · intro h11 e11 h12 e12 y13 e13
          have c : h11 0 13 = nI (q + i) := by rw [e11, z_ss_ne (by decide)]; exact c1
          have ok : okN L len q (if 2 ≤ x then 59 else 44) = true := by
            unfold okN
            rw [ep, decide_eq_true hj1, ← et, decide_eq_true a]; rfl
          have := hT ok
          rw [ep, ← hv hj1 hj2] at this
          rw [e13, nI_1, e12, c, nI_1, e11, ss_comm _ _ _ (by omega), ss_ss]
          rw [ss_comm _ _ _ (by omega)] at this
          exact this
        · unfold okN
          rw [ep, ← et, decide_eq_false a, Bool.and_false]
      refine ⟨fun a => fin _ ?_, fun a => fin _ ?_⟩
      · rw [if_pos ((nI_leI (a := 2) (by omega) (by omega)).mp a)]
      · rw [if_neg (fun z => a (nI_le (a := 2) z (by omega)))]
  refine r_letterAt c0 hl (by omega) cL ?_
  refine s_in (a := 48) (b := 57) rfl rfl rfl (br0 (fun f => b70 (Or.inr f)) (fun f => ⟨fun c => b70 (Or.inl ?_), fun c => ?_⟩))
  · have := (nI_leI (a := 3) (by omega) (by omega)).mp c; omega
  · have hi3 : i < 3 := by
      rcases Nat.lt_or_ge i 3 with z | z
      · exact z
      · exact absurd (nI_le (a := 3) z (by omega)) c
    have hdi : dg L len (q + i) = true := f
    obtain ⟨hlt, hvi, ev⟩ := dg_yes hdi
    refine r_letterAt c0 hl (by omega) cL ?_
    have el : lt L len (q + i) = nI (dv L (q + i) + 48) := by unfold lt; rw [if_pos hlt]; exact ev
    rw [el]
    intro y16 e16 y17 e17 h18 e18
    refine hL (_, _, _, _) hi3 ⟨y16, ?_, by omega, fun j hj => ?_, fun z => by omega, fun z1 z2 => ?_⟩
    · rw [e17, e18, ss_ss, nI_1, nI_1, Nat.add_assoc]
    · by_cases z : j = i
      · rw [z]; exact hdi
      · exact hd j (by omega)
    · rw [e16]
      have : i = 0 ∨ i = 1 := by omega
      rcases this with rfl | rfl
      · rw [hv0 rfl, show (10 : Int32) * 0 = nI 0 from rfl, nI_add, show (48 : Int32) = nI 48 from rfl, pk_sub (by omega), vl_1]
        have : dv L (q + 0) = dv L q := rfl
        congr 1; omega
      · rw [hv (by omega) (by omega), vl_1, show (10 : Int32) = nI 10 from rfl, pk_mul, nI_add, show (48 : Int32) = nI 48 from rfl, pk_sub (by omega), vl_2]
        congr 1 <;> omega
