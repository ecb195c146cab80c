/-! ===== PRINTED (wip/whole/gen/gen.py): layout rows, rooms ===== -/
theorem z_lH_0 {o : Nat} (ho : o < 13) : z_lay o 0 = .inr (.inl (1, [none, none, none, none, some (o, 4), some (o, 5), some (o, 6), some (o, 7), some (o, 8), some (o, 9), some (o, 10), some (o, 11), some (o, 12)])) := z_layh ho 0
theorem z_lH_4 {o : Nat} (ho : o < 13) : z_lay o 4 = .inl 6 := z_layh ho 4
theorem z_lH_5 {o : Nat} (ho : o < 13) : z_lay o 5 = .inl 6 := z_layh ho 5
theorem z_lH_6 {o : Nat} (ho : o < 13) : z_lay o 6 = .inl 6 := z_layh ho 6
theorem z_lH_7 {o : Nat} (ho : o < 13) : z_lay o 7 = .inl 8 := z_layh ho 7
theorem z_lH_8 {o : Nat} (ho : o < 13) : z_lay o 8 = .inl 8 := z_layh ho 8
theorem z_lH_9 {o : Nat} (ho : o < 13) : z_lay o 9 = .inl 8 := z_layh ho 9
theorem z_lH_10 {o : Nat} (ho : o < 13) : z_lay o 10 = .inl 8 := z_layh ho 10
theorem z_lH_11 {o : Nat} (ho : o < 13) : z_lay o 11 = .inl 8 := z_layh ho 11
theorem z_lH_12 {o : Nat} (ho : o < 13) : z_lay o 12 = .inl 8 := z_layh ho 12
theorem z_l_13_0 : z_lay 13 0 = .inr (.inl (2, [none, none, some (13, 2), some (13, 3)])) := rfl
theorem z_l_13_2 : z_lay 13 2 = .inl 200 := rfl
theorem z_l_13_3 : z_lay 13 3 = .inl 3 := rfl
theorem z_l_14_0 : z_lay 14 0 = .inr (.inl (3, [none, none, some (14, 2)])) := rfl
theorem z_l_14_2 : z_lay 14 2 = .inr (.inr [(3, 0), (4, 0), (5, 0), (6, 0), (7, 0), (8, 0), (9, 0), (10, 0)]) := rfl
theorem z_l_15_0 : z_lay 15 0 = .inr (.inl (3, [none, none, some (15, 2)])) := rfl
theorem z_l_15_2 : z_lay 15 2 = .inr (.inr [(11, 0), (12, 0)]) := rfl
theorem z_l_16_0 : z_lay 16 0 = .inr (.inl (4, [none, some (16, 1), some (16, 2), some (16, 3)])) := rfl
theorem z_l_16_1 : z_lay 16 1 = .inl 6 := rfl
theorem z_l_16_2 : z_lay 16 2 = .inl 6 := rfl
theorem z_l_16_3 : z_lay 16 3 = .inl 6 := rfl
theorem z_l_17_0 : z_lay 17 0 = .inr (.inl (0, [some (2, 0)])) := rfl
theorem z_l_18_0 : z_lay 18 0 = .inr (.inl (5, [some (13, 0), some (0, 0), some (1, 0), some (14, 0), some (15, 0), some (16, 0), some (17, 0)])) := rfl
theorem z_l_19_0 : z_lay 19 0 = .inr (.inl (6, [none, some (19, 1), some (19, 2), some (19, 3), some (19, 4), some (19, 5), some (19, 6), some (19, 7), none, some (19, 9), none, some (19, 11), none, none, some (19, 14)])) := rfl
theorem z_l_19_1 : z_lay 19 1 = .inl 200 := rfl
theorem z_l_19_2 : z_lay 19 2 = .inl 13 := rfl
theorem z_l_19_3 : z_lay 19 3 = .inl 13 := rfl
theorem z_l_19_4 : z_lay 19 4 = .inl 42 := rfl
theorem z_l_19_5 : z_lay 19 5 = .inl 42 := rfl
theorem z_l_19_6 : z_lay 19 6 = .inl 42 := rfl
theorem z_l_19_7 : z_lay 19 7 = .inl 336 := rfl
theorem z_l_19_9 : z_lay 19 9 = .inl 84 := rfl
theorem z_l_19_11 : z_lay 19 11 = .inl 18 := rfl
theorem z_l_19_14 : z_lay 19 14 = .inl 3 := rfl
def z_Sh (E : z_E) (sg sb sn : Nat) : Prop := ∃ rs : List (Nat × Nat), (sg, 0) ∈ z_c E ∧ (sg, 2) ∈ z_c E ∧ z_lay sg 0 = .inr (.inl (3, [none, none, some (sg, 2)])) ∧ z_lay sg 2 = .inr (.inr rs) ∧ rs.length = sn ∧ (∀ i, i < sn → rs[i]? = some (sb + i, 0)) ∧ sb + sn ≤ 13
theorem z_s14 {E : z_E} (hC : z_cls E) : z_Sh E 14 3 8 := ⟨_, hC.2 _ (List.mem_of_getElem? (i := 3) rfl), hC.2 _ (List.mem_of_getElem? (i := 4) rfl), z_l_14_0, z_l_14_2, rfl, fun i hi => by match i, hi with | 0, _ | 1, _ | 2, _ | 3, _ | 4, _ | 5, _ | 6, _ | 7, _ => rfl, by decide⟩
theorem z_s15 {E : z_E} (hC : z_cls E) : z_Sh E 15 11 2 := ⟨_, hC.2 _ (List.mem_of_getElem? (i := 5) rfl), hC.2 _ (List.mem_of_getElem? (i := 6) rfl), z_l_15_0, z_l_15_2, rfl, fun i hi => by match i, hi with | 0, _ | 1, _ => rfl, by decide⟩
theorem z_P_self {E : z_E} {Y : z_X} {H : Heap} (o : Nat) (h : z_P E Y H) : z_P E (z_up Y o (Y o)) H := by rw [z_up_self]; exact h
abbrev rJ6_bitCount_0f7a4 : Room := { frames := 0, cells := 0, slots := 0, locals := 0 }
abbrev rX1_lowestWith : Room := { frames := 0, cells := 0, slots := 0, locals := 0 }
abbrev rX1_isOut : Room := { frames := 0, cells := 0, slots := 0, locals := 0 }
abbrev rX1_putGlove : Room := { frames := 0, cells := 0, slots := 0, locals := 0 }
abbrev rX0_throwByDraw : Room := { frames := 1, cells := 0, slots := 0, locals := 24 }
abbrev rX0_actByDraw : Room := { frames := 2, cells := 0, slots := 0, locals := 47 }
abbrev rX1_lyingAsBits : Room := { frames := 0, cells := 0, slots := 0, locals := 0 }
abbrev rX1_copyFrom : Room := { frames := 1, cells := 0, slots := 0, locals := 26 }
abbrev rX1_takeAway : Room := { frames := 0, cells := 0, slots := 0, locals := 0 }
abbrev rX5_sizeByNow : Room := { frames := 0, cells := 0, slots := 0, locals := 0 }
abbrev rX5_isAsLarge : Room := { frames := 0, cells := 0, slots := 0, locals := 0 }
abbrev rX1_canTakeUp : Room := { frames := 1, cells := 0, slots := 0, locals := 23 }
abbrev rX1_lowestFor : Room := { frames := 2, cells := 0, slots := 0, locals := 45 }
abbrev rX5_mightByFight : Room := { frames := 1, cells := 0, slots := 0, locals := 21 }
abbrev rX1_takeUp : Room := { frames := 2, cells := 0, slots := 0, locals := 42 }
abbrev rX1_reignGoesBy : Room := { frames := 3, cells := 0, slots := 0, locals := 67 }
abbrev rX0_isSafe : Room := { frames := 4, cells := 0, slots := 0, locals := 90 }
abbrev rX0_awayForSafety : Room := { frames := 5, cells := 0, slots := 0, locals := 116 }
abbrev rX0_mayFitInTime : Room := { frames := 1, cells := 0, slots := 0, locals := 23 }
abbrev rX5_within : Room := { frames := 0, cells := 0, slots := 0, locals := 0 }
abbrev rX1_isPerson : Room := { frames := 1, cells := 0, slots := 0, locals := 22 }
abbrev rX1_addGlove : Room := { frames := 2, cells := 0, slots := 0, locals := 43 }
abbrev rX0_isTakenUp : Room := { frames := 4, cells := 0, slots := 0, locals := 90 }
abbrev rX0_gloveToThrow : Room := { frames := 5, cells := 0, slots := 0, locals := 118 }
abbrev rX0_goOn : Room := { frames := 4, cells := 0, slots := 0, locals := 90 }
abbrev rX0_hallBehindDraws : Room := { frames := 4, cells := 0, slots := 0, locals := 90 }
abbrev rX0_mightBehind : Room := { frames := 5, cells := 0, slots := 0, locals := 113 }
abbrev rX1_standingAsBits : Room := { frames := 0, cells := 0, slots := 0, locals := 0 }
abbrev rX0_standingAtLast : Room := { frames := 5, cells := 0, slots := 0, locals := 113 }
abbrev rX0_whenGone : Room := { frames := 4, cells := 0, slots := 0, locals := 90 }
abbrev rX1_addPerson : Room := { frames := 1, cells := 0, slots := 0, locals := 22 }
abbrev rX1_empty : Room := { frames := 0, cells := 0, slots := 0, locals := 0 }
abbrev rX1_isGlove : Room := { frames := 1, cells := 0, slots := 0, locals := 22 }
abbrev rX1_mightByTaking : Room := { frames := 2, cells := 0, slots := 0, locals := 42 }
abbrev rX1_mightOfAll : Room := { frames := 0, cells := 0, slots := 0, locals := 0 }
abbrev rX1_ownersWithin : Room := { frames := 2, cells := 0, slots := 0, locals := 45 }
abbrev rX2_append : Room := { frames := 0, cells := 0, slots := 0, locals := 0 }
abbrev rX2_readSign : Room := { frames := 0, cells := 0, slots := 0, locals := 0 }
abbrev rX2_readNumber : Room := { frames := 1, cells := 0, slots := 0, locals := 22 }
abbrev rX2_readItem : Room := { frames := 3, cells := 0, slots := 0, locals := 66 }
abbrev rX2_readInto : Room := { frames := 4, cells := 0, slots := 0, locals := 89 }
abbrev rX3_bringBack : Room := { frames := 2, cells := 0, slots := 0, locals := 47 }
abbrev rX3_put : Room := { frames := 2, cells := 0, slots := 0, locals := 47 }
abbrev rX4_add : Room := { frames := 0, cells := 0, slots := 0, locals := 0 }
abbrev rX4_allowGlove : Room := { frames := 2, cells := 0, slots := 0, locals := 43 }
abbrev rX4_allowHand : Room := { frames := 2, cells := 0, slots := 0, locals := 43 }
abbrev rX5_back : Room := { frames := 3, cells := 0, slots := 0, locals := 68 }
abbrev rX5_behind : Room := { frames := 6, cells := 0, slots := 0, locals := 136 }
abbrev rX5_commonDivisor : Room := { frames := 0, cells := 0, slots := 0, locals := 0 }
abbrev rX5_count : Room := { frames := 1, cells := 0, slots := 0, locals := 22 }
abbrev rX5_dare : Room := { frames := 6, cells := 0, slots := 0, locals := 143 }
abbrev rX5_fault : Room := { frames := 5, cells := 0, slots := 0, locals := 112 }
abbrev rX5_fight : Room := { frames := 2, cells := 0, slots := 0, locals := 43 }
abbrev rX5_first : Room := { frames := 3, cells := 0, slots := 0, locals := 65 }
abbrev rX5_fits : Room := { frames := 2, cells := 0, slots := 0, locals := 45 }
abbrev rX5_forget : Room := { frames := 0, cells := 0, slots := 0, locals := 0 }
abbrev rX5_glove : Room := { frames := 2, cells := 0, slots := 0, locals := 43 }
abbrev rX5_hands : Room := { frames := 3, cells := 0, slots := 0, locals := 69 }
abbrev rX5_hurl : Room := { frames := 3, cells := 0, slots := 0, locals := 69 }
abbrev rX5_keep : Room := { frames := 3, cells := 0, slots := 0, locals := 69 }
abbrev rX5_kinds : Room := { frames := 3, cells := 0, slots := 0, locals := 70 }
abbrev rX5_last : Room := { frames := 6, cells := 0, slots := 0, locals := 134 }
abbrev rX5_lay : Room := { frames := 5, cells := 0, slots := 0, locals := 112 }
abbrev rX5_lies : Room := { frames := 5, cells := 0, slots := 0, locals := 114 }
abbrev rX5_likely : Room := { frames := 2, cells := 0, slots := 0, locals := 45 }
abbrev rX5_pass : Room := { frames := 4, cells := 0, slots := 0, locals := 90 }
abbrev rX5_person : Room := { frames := 2, cells := 0, slots := 0, locals := 43 }
abbrev rX5_ring : Room := { frames := 3, cells := 0, slots := 0, locals := 69 }
abbrev rX5_safe : Room := { frames := 6, cells := 0, slots := 0, locals := 143 }
abbrev rX5_seen : Room := { frames := 2, cells := 0, slots := 0, locals := 43 }
abbrev rX5_sizes : Room := { frames := 3, cells := 0, slots := 0, locals := 70 }
abbrev rX5_stretch : Room := { frames := 3, cells := 0, slots := 0, locals := 69 }
abbrev rX5_take : Room := { frames := 3, cells := 0, slots := 0, locals := 69 }
abbrev rX5_time : Room := { frames := 5, cells := 0, slots := 0, locals := 114 }
abbrev rX5_undo : Room := { frames := 3, cells := 0, slots := 0, locals := 68 }
abbrev rX5_wear : Room := { frames := 3, cells := 0, slots := 0, locals := 69 }
abbrev rX5_wipe : Room := { frames := 0, cells := 0, slots := 0, locals := 0 }
abbrev rX5_write : Room := { frames := 1, cells := 0, slots := 0, locals := 22 }
abbrev rX6_aside : Room := { frames := 0, cells := 0, slots := 0, locals := 0 }
abbrev rX6_back : Room := { frames := 0, cells := 0, slots := 0, locals := 0 }
abbrev rX6_begin : Room := { frames := 0, cells := 0, slots := 0, locals := 0 }
abbrev rX6_in : Room := { frames := 0, cells := 0, slots := 0, locals := 0 }
abbrev rX6_isPerson : Room := { frames := 1, cells := 0, slots := 0, locals := 25 }
abbrev rX6_has : Room := { frames := 0, cells := 0, slots := 0, locals := 0 }
abbrev rX6_isLike : Room := { frames := 0, cells := 0, slots := 0, locals := 0 }
abbrev rX6_isFit : Room := { frames := 1, cells := 0, slots := 0, locals := 24 }
abbrev rX6_lowestFit : Room := { frames := 2, cells := 0, slots := 0, locals := 46 }
abbrev rX6_left : Room := { frames := 0, cells := 0, slots := 0, locals := 0 }
abbrev rX6_goWear : Room := { frames := 1, cells := 0, slots := 0, locals := 22 }
abbrev rX6_goReign : Room := { frames := 3, cells := 0, slots := 0, locals := 69 }
abbrev rX6_goReigns : Room := { frames := 4, cells := 0, slots := 0, locals := 91 }
abbrev rX6_behind : Room := { frames := 5, cells := 0, slots := 0, locals := 113 }
abbrev rX6_outMany : Room := { frames := 0, cells := 0, slots := 0, locals := 0 }
abbrev rX6_ones : Room := { frames := 0, cells := 0, slots := 0, locals := 0 }
abbrev rX6_count : Room := { frames := 1, cells := 0, slots := 0, locals := 22 }
abbrev rX6_lays : Room := { frames := 0, cells := 0, slots := 0, locals := 0 }
abbrev rX6_isTakenBy : Room := { frames := 3, cells := 0, slots := 0, locals := 69 }
abbrev rX6_dare : Room := { frames := 4, cells := 0, slots := 0, locals := 94 }
abbrev rX6_empty : Room := { frames := 0, cells := 0, slots := 0, locals := 0 }
abbrev rX6_letterAt : Room := { frames := 0, cells := 0, slots := 0, locals := 0 }
abbrev rX6_numbers : Room := { frames := 1, cells := 0, slots := 0, locals := 25 }
abbrev rX6_personIs : Room := { frames := 0, cells := 0, slots := 0, locals := 0 }
abbrev rX6_gloveIs : Room := { frames := 0, cells := 0, slots := 0, locals := 0 }
abbrev rX6_item : Room := { frames := 2, cells := 0, slots := 0, locals := 48 }
abbrev rX6_readAll : Room := { frames := 3, cells := 0, slots := 0, locals := 69 }
abbrev rX6_fault : Room := { frames := 4, cells := 0, slots := 0, locals := 90 }
abbrev rX6_fight : Room := { frames := 2, cells := 0, slots := 0, locals := 46 }
abbrev rX6_first : Room := { frames := 2, cells := 0, slots := 0, locals := 47 }
abbrev rX6_isGlove : Room := { frames := 1, cells := 0, slots := 0, locals := 25 }
abbrev rX6_fits : Room := { frames := 2, cells := 0, slots := 0, locals := 46 }
abbrev rX6_forget : Room := { frames := 0, cells := 0, slots := 0, locals := 0 }
abbrev rX6_glove : Room := { frames := 2, cells := 0, slots := 0, locals := 46 }
abbrev rX6_lowestThat : Room := { frames := 1, cells := 0, slots := 0, locals := 21 }
abbrev rX6_goDrawn : Room := { frames := 2, cells := 0, slots := 0, locals := 44 }
abbrev rX6_isSeen : Room := { frames := 1, cells := 0, slots := 0, locals := 24 }
abbrev rX6_hands : Room := { frames := 2, cells := 0, slots := 0, locals := 55 }
abbrev rX6_note : Room := { frames := 0, cells := 0, slots := 0, locals := 0 }
abbrev rX6_settle : Room := { frames := 0, cells := 0, slots := 0, locals := 0 }
abbrev rX6_hurl : Room := { frames := 2, cells := 0, slots := 0, locals := 46 }
abbrev rX6_keep : Room := { frames := 0, cells := 0, slots := 0, locals := 0 }
abbrev rX6_kinds : Room := { frames := 2, cells := 0, slots := 0, locals := 55 }
abbrev rX6_last : Room := { frames := 5, cells := 0, slots := 0, locals := 113 }
abbrev rX6_lay : Room := { frames := 4, cells := 0, slots := 0, locals := 90 }
abbrev rX6_lies : Room := { frames := 4, cells := 0, slots := 0, locals := 91 }
abbrev rX6_likely : Room := { frames := 2, cells := 0, slots := 0, locals := 46 }
abbrev rX6_pass : Room := { frames := 5, cells := 0, slots := 0, locals := 113 }
abbrev rX6_person : Room := { frames := 2, cells := 0, slots := 0, locals := 46 }
abbrev rX6_ring : Room := { frames := 2, cells := 0, slots := 0, locals := 46 }
abbrev rX6_safe : Room := { frames := 5, cells := 0, slots := 0, locals := 113 }
abbrev rX6_seen : Room := { frames := 2, cells := 0, slots := 0, locals := 46 }
abbrev rX6_sizes : Room := { frames := 2, cells := 0, slots := 0, locals := 55 }
abbrev rX6_stretch : Room := { frames := 2, cells := 0, slots := 0, locals := 46 }
abbrev rX6_take : Room := { frames := 2, cells := 0, slots := 0, locals := 46 }
abbrev rX6_time : Room := { frames := 4, cells := 0, slots := 0, locals := 91 }
abbrev rX6_undo : Room := { frames := 0, cells := 0, slots := 0, locals := 0 }
abbrev rX6_wear : Room := { frames := 2, cells := 0, slots := 0, locals := 47 }
abbrev rX6_wipe : Room := { frames := 0, cells := 0, slots := 0, locals := 0 }
abbrev rX6_write : Room := { frames := 1, cells := 0, slots := 0, locals := 25 }
