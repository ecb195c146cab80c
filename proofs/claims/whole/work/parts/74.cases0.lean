/-! ===== THE LAW: its cases (printed by wip/whole/gen/law.py) ===== -/
set_option maxHeartbeats 4000000 in
set_option maxRecDepth 100000 in
theorem q_write {p : Program} (l : Launch) {e : Env} {s : State} {m : MethodId} {below : List Frame} {meth : Method} {c : Code} {E : z_E} {A : Nat → Prop} {b L i : Nat} {xs : Nat → Int32} (C : lw_Cx p s m c b L xs E A) (hL : L ≤ 256) (hi : i + 4 ≤ L) {Q : State → Prop} {ls : Array Slot} (kk : ∀ (X : z_X) (H : Heap) (locs : List Loc), RLE X → z_P E X H → va_S A s.heap H locs → W p l e room_1 s m #[Value.ref b] below meth c H locs 154 2088 Q (F0 m 1005 ls [])) {X : z_X} {H : Heap} {locs : List Loc} (hR : RLE X) (hP : z_P E X H) (hS : va_S A s.heap H locs) (hl : lv_has ls 4 (lw_L E b i)) : W p l e room_1 s m #[Value.ref b] below meth c H locs 154 2088 Q (F0 m 172 ls []) := by
  obtain ⟨hx, hb, hml, hown, hts, hX, hbl, hbA, hK, hE, hC, hM, hsub⟩ := id C
  obtain ⟨n, k, R⟩ := hR
  refine lv_aload_n hx hb dL_law_172 rfl (lv_at hl 1 rfl) ?_
  refine lw_arg C hL hi hS hl (k := 1) (by decide) rfl dL_law_173 dL_law_174 dL_law_175 dL_law_176 dL_law_177 ?_
  refine y_vi (C := RX5) (T := TX5) (N := 7) (o := 18) (As := [.int (xs (i + 1))]) (rest := []) ⟨hx, hb, hml, hown, hts⟩ (m_X5_write l hE hC X (xs (i + 1)) _ (t_write R (xs (i + 1)))) (cwV 1 hts gL_law_X5_write rfl rfl rfl (by decide +kernel) ⟨Nat.le_of_ble_eq_true rfl, Nat.le_of_ble_eq_true rfl⟩) hK hP hsub hS (hC.2 (18, 0) (List.mem_of_getElem? (i := 12) rfl)) z_l_18_0 rfl rfl hl.1 rfl (Nat.le_of_ble_eq_true rfl) dL_law_178 ⟨Nat.le_of_ble_eq_true rfl, Nat.le_of_ble_eq_true rfl⟩ (fun r u H locs hk hP hS => ?_)
  refine lv_aload_n hx hb dL_law_181 rfl (lv_at hl 2 rfl) ?_
  refine lw_arg C hL hi hS hl (k := 1) (by decide) rfl dL_law_182 dL_law_183 dL_law_184 dL_law_185 dL_law_186 ?_
  refine y_vi (C := RX6) (T := TX6) (N := 15) (o := 19) (As := [.int (xs (i + 1))]) (rest := [.int r]) ⟨hx, hb, hml, hown, hts⟩ (m_X6_write l hE hM u (u 19) (xs (i + 1)) _ hk) (cwV 1 hts gL_law_X6_write rfl rfl rfl (by decide +kernel) ⟨Nat.le_of_ble_eq_true rfl, Nat.le_of_ble_eq_true rfl⟩) hK (z_P_self 19 hP) hsub hS (hM (19, 0) (List.mem_of_getElem? (i := 0) rfl)) z_l_19_0 rfl rfl hl.1 rfl (Nat.le_of_ble_eq_true rfl) dL_law_187 ⟨Nat.le_of_ble_eq_true rfl, Nat.le_of_ble_eq_true rfl⟩ (fun r2 u2 H locs hk hP hS => ?_)
  obtain ⟨h', ev, er, hR⟩ := hk
  rw [ev] at hP
  exact lv_icmp_eq (tgt := 1005) hx hb dL_law_190 (by decide) (fun _ => kk _ _ _ hR hP hS) (fun c9 => absurd er c9)
set_option maxHeartbeats 4000000 in
set_option maxRecDepth 100000 in
theorem q_wipe {p : Program} (l : Launch) {e : Env} {s : State} {m : MethodId} {below : List Frame} {meth : Method} {c : Code} {E : z_E} {A : Nat → Prop} {b L i : Nat} {xs : Nat → Int32} (C : lw_Cx p s m c b L xs E A) (hL : L ≤ 256) (hi : i + 4 ≤ L) {Q : State → Prop} {ls : Array Slot} (kk : ∀ (X : z_X) (H : Heap) (locs : List Loc), RLE X → z_P E X H → va_S A s.heap H locs → W p l e room_1 s m #[Value.ref b] below meth c H locs 154 2088 Q (F0 m 1005 ls [])) {X : z_X} {H : Heap} {locs : List Loc} (hR : RLE X) (hP : z_P E X H) (hS : va_S A s.heap H locs) (hl : lv_has ls 4 (lw_L E b i)) : W p l e room_1 s m #[Value.ref b] below meth c H locs 154 2088 Q (F0 m 195 ls []) := by
  obtain ⟨hx, hb, hml, hown, hts, hX, hbl, hbA, hK, hE, hC, hM, hsub⟩ := id C
  obtain ⟨n, k, R⟩ := hR
  refine lv_aload_n hx hb dL_law_195 rfl (lv_at hl 1 rfl) ?_
  refine y_vi (C := RX5) (T := TX5) (N := 7) (o := 18) (As := []) (rest := []) ⟨hx, hb, hml, hown, hts⟩ (m_X5_wipe l hE hC X  _ (t_wipe R )) (cwV 0 hts gL_law_X5_wipe rfl rfl rfl (by decide +kernel) ⟨Nat.le_of_ble_eq_true rfl, Nat.le_of_ble_eq_true rfl⟩) hK hP hsub hS (hC.2 (18, 0) (List.mem_of_getElem? (i := 12) rfl)) z_l_18_0 rfl rfl hl.1 rfl (Nat.le_of_ble_eq_true rfl) dL_law_196 ⟨Nat.le_of_ble_eq_true rfl, Nat.le_of_ble_eq_true rfl⟩ (fun r u H locs hk hP hS => ?_)
  refine lv_aload_n hx hb dL_law_199 rfl (lv_at hl 2 rfl) ?_
  refine y_vi (C := RX6) (T := TX6) (N := 15) (o := 19) (As := []) (rest := [.int r]) ⟨hx, hb, hml, hown, hts⟩ (m_X6_wipe l hE hM u (u 19)  _ hk) (cwV 0 hts gL_law_X6_wipe rfl rfl rfl (by decide +kernel) ⟨Nat.le_of_ble_eq_true rfl, Nat.le_of_ble_eq_true rfl⟩) hK (z_P_self 19 hP) hsub hS (hM (19, 0) (List.mem_of_getElem? (i := 0) rfl)) z_l_19_0 rfl rfl hl.1 rfl (Nat.le_of_ble_eq_true rfl) dL_law_200 ⟨Nat.le_of_ble_eq_true rfl, Nat.le_of_ble_eq_true rfl⟩ (fun r2 u2 H locs hk hP hS => ?_)
  obtain ⟨h', ev, er, hR⟩ := hk
  rw [ev] at hP
  exact lv_icmp_eq (tgt := 1005) hx hb dL_law_203 (by decide) (fun _ => kk _ _ _ hR hP hS) (fun c9 => absurd er c9)
set_option maxHeartbeats 4000000 in
set_option maxRecDepth 100000 in
theorem q_fault {p : Program} (l : Launch) {e : Env} {s : State} {m : MethodId} {below : List Frame} {meth : Method} {c : Code} {E : z_E} {A : Nat → Prop} {b L i : Nat} {xs : Nat → Int32} (C : lw_Cx p s m c b L xs E A) (hL : L ≤ 256) (hi : i + 4 ≤ L) {Q : State → Prop} {ls : Array Slot} (kk : ∀ (X : z_X) (H : Heap) (locs : List Loc), RLE X → z_P E X H → va_S A s.heap H locs → W p l e room_1 s m #[Value.ref b] below meth c H locs 154 2088 Q (F0 m 1005 ls [])) {X : z_X} {H : Heap} {locs : List Loc} (hR : RLE X) (hP : z_P E X H) (hS : va_S A s.heap H locs) (hl : lv_has ls 4 (lw_L E b i)) : W p l e room_1 s m #[Value.ref b] below meth c H locs 154 2088 Q (F0 m 208 ls []) := by
  obtain ⟨hx, hb, hml, hown, hts, hX, hbl, hbA, hK, hE, hC, hM, hsub⟩ := id C
  obtain ⟨n, k, R⟩ := hR
  refine lv_aload_n hx hb dL_law_208 rfl (lv_at hl 1 rfl) ?_
  refine y_vi (C := RX5) (T := TX5) (N := 7) (o := 18) (As := []) (rest := []) ⟨hx, hb, hml, hown, hts⟩ (m_X5_fault l hE hC X  _ (t_fault R )) (cwV 0 hts gL_law_X5_fault rfl rfl rfl (by decide +kernel) ⟨Nat.le_of_ble_eq_true rfl, Nat.le_of_ble_eq_true rfl⟩) hK hP hsub hS (hC.2 (18, 0) (List.mem_of_getElem? (i := 12) rfl)) z_l_18_0 rfl rfl hl.1 rfl (Nat.le_of_ble_eq_true rfl) dL_law_209 ⟨Nat.le_of_ble_eq_true rfl, Nat.le_of_ble_eq_true rfl⟩ (fun r u H locs hk hP hS => ?_)
  refine lv_aload_n hx hb dL_law_212 rfl (lv_at hl 2 rfl) ?_
  refine y_vi (C := RX6) (T := TX6) (N := 15) (o := 19) (As := []) (rest := [.int r]) ⟨hx, hb, hml, hown, hts⟩ (m_X6_fault l hE hM u (u 19)  _ hk) (cwV 0 hts gL_law_X6_fault rfl rfl rfl (by decide +kernel) ⟨Nat.le_of_ble_eq_true rfl, Nat.le_of_ble_eq_true rfl⟩) hK (z_P_self 19 hP) hsub hS (hM (19, 0) (List.mem_of_getElem? (i := 0) rfl)) z_l_19_0 rfl rfl hl.1 rfl (Nat.le_of_ble_eq_true rfl) dL_law_213 ⟨Nat.le_of_ble_eq_true rfl, Nat.le_of_ble_eq_true rfl⟩ (fun r2 u2 H locs hk hP hS => ?_)
  obtain ⟨h', ev, er, hR⟩ := hk
  rw [ev] at hP
  exact lv_icmp_eq (tgt := 1005) hx hb dL_law_216 (by decide) (fun _ => kk _ _ _ hR hP hS) (fun c9 => absurd er c9)
set_option maxHeartbeats 4000000 in
set_option maxRecDepth 100000 in
theorem q_lay {p : Program} (l : Launch) {e : Env} {s : State} {m : MethodId} {below : List Frame} {meth : Method} {c : Code} {E : z_E} {A : Nat → Prop} {b L i : Nat} {xs : Nat → Int32} (C : lw_Cx p s m c b L xs E A) (hL : L ≤ 256) (hi : i + 4 ≤ L) {Q : State → Prop} {ls : Array Slot} (kk : ∀ (X : z_X) (H : Heap) (locs : List Loc), RLE X → z_P E X H → va_S A s.heap H locs → W p l e room_1 s m #[Value.ref b] below meth c H locs 154 2088 Q (F0 m 1005 ls [])) {X : z_X} {H : Heap} {locs : List Loc} (hR : RLE X) (hP : z_P E X H) (hS : va_S A s.heap H locs) (hl : lv_has ls 4 (lw_L E b i)) : W p l e room_1 s m #[Value.ref b] below meth c H locs 154 2088 Q (F0 m 221 ls []) := by
  obtain ⟨hx, hb, hml, hown, hts, hX, hbl, hbA, hK, hE, hC, hM, hsub⟩ := id C
  obtain ⟨n, k, R⟩ := hR
  refine lv_aload_n hx hb dL_law_221 rfl (lv_at hl 1 rfl) ?_
  refine y_vi (C := RX5) (T := TX5) (N := 7) (o := 18) (As := []) (rest := []) ⟨hx, hb, hml, hown, hts⟩ (m_X5_lay l hE hC X  _ (t_layAll R )) (cwV 0 hts gL_law_X5_lay rfl rfl rfl (by decide +kernel) ⟨Nat.le_of_ble_eq_true rfl, Nat.le_of_ble_eq_true rfl⟩) hK hP hsub hS (hC.2 (18, 0) (List.mem_of_getElem? (i := 12) rfl)) z_l_18_0 rfl rfl hl.1 rfl (Nat.le_of_ble_eq_true rfl) dL_law_222 ⟨Nat.le_of_ble_eq_true rfl, Nat.le_of_ble_eq_true rfl⟩ (fun r u H locs hk hP hS => ?_)
  refine lv_aload_n hx hb dL_law_225 rfl (lv_at hl 2 rfl) ?_
  refine y_vi (C := RX6) (T := TX6) (N := 15) (o := 19) (As := []) (rest := [.int r]) ⟨hx, hb, hml, hown, hts⟩ (m_X6_lay l hE hM u (u 19)  _ hk) (cwV 0 hts gL_law_X6_lay rfl rfl rfl (by decide +kernel) ⟨Nat.le_of_ble_eq_true rfl, Nat.le_of_ble_eq_true rfl⟩) hK (z_P_self 19 hP) hsub hS (hM (19, 0) (List.mem_of_getElem? (i := 0) rfl)) z_l_19_0 rfl rfl hl.1 rfl (Nat.le_of_ble_eq_true rfl) dL_law_226 ⟨Nat.le_of_ble_eq_true rfl, Nat.le_of_ble_eq_true rfl⟩ (fun r2 u2 H locs hk hP hS => ?_)
  obtain ⟨h', ev, er, hR⟩ := hk
  rw [ev] at hP
  exact lv_icmp_eq (tgt := 1005) hx hb dL_law_229 (by decide) (fun _ => kk _ _ _ hR hP hS) (fun c9 => absurd er c9)
set_option maxHeartbeats 4000000 in
set_option maxRecDepth 100000 in
theorem q_person {p : Program} (l : Launch) {e : Env} {s : State} {m : MethodId} {below : List Frame} {meth : Method} {c : Code} {E : z_E} {A : Nat → Prop} {b L i : Nat} {xs : Nat → Int32} (C : lw_Cx p s m c b L xs E A) (hL : L ≤ 256) (hi : i + 4 ≤ L) {Q : State → Prop} {ls : Array Slot} (kk : ∀ (X : z_X) (H : Heap) (locs : List Loc), RLE X → z_P E X H → va_S A s.heap H locs → W p l e room_1 s m #[Value.ref b] below meth c H locs 154 2088 Q (F0 m 1005 ls [])) {X : z_X} {H : Heap} {locs : List Loc} (hR : RLE X) (hP : z_P E X H) (hS : va_S A s.heap H locs) (hl : lv_has ls 4 (lw_L E b i)) : W p l e room_1 s m #[Value.ref b] below meth c H locs 154 2088 Q (F0 m 234 ls []) := by
  obtain ⟨hx, hb, hml, hown, hts, hX, hbl, hbA, hK, hE, hC, hM, hsub⟩ := id C
  obtain ⟨n, k, R⟩ := hR
  refine lv_aload_n hx hb dL_law_234 rfl (lv_at hl 1 rfl) ?_
  refine lw_arg C hL hi hS hl (k := 1) (by decide) rfl dL_law_235 dL_law_236 dL_law_237 dL_law_238 dL_law_239 ?_
  refine lw_arg C hL hi hS hl (k := 2) (by decide) rfl dL_law_240 dL_law_241 dL_law_242 dL_law_243 dL_law_244 ?_
  refine y_vi (C := RX5) (T := TX5) (N := 7) (o := 18) (As := [.int (xs (i + 1)), .int (xs (i + 2))]) (rest := []) ⟨hx, hb, hml, hown, hts⟩ (m_X5_person l hE hC X (xs (i + 1)) (xs (i + 2)) _ (t_person R (xs (i + 1)) (xs (i + 2)))) (cwV 2 hts gL_law_X5_person rfl rfl rfl (by decide +kernel) ⟨Nat.le_of_ble_eq_true rfl, Nat.le_of_ble_eq_true rfl⟩) hK hP hsub hS (hC.2 (18, 0) (List.mem_of_getElem? (i := 12) rfl)) z_l_18_0 rfl rfl hl.1 rfl (Nat.le_of_ble_eq_true rfl) dL_law_245 ⟨Nat.le_of_ble_eq_true rfl, Nat.le_of_ble_eq_true rfl⟩ (fun r u H locs hk hP hS => ?_)
  obtain ⟨eu, hk⟩ := hk
  rw [eu] at hP
  refine lv_aload_n hx hb dL_law_248 rfl (lv_at hl 2 rfl) ?_
  refine lw_arg C hL hi hS hl (k := 1) (by decide) rfl dL_law_249 dL_law_250 dL_law_251 dL_law_252 dL_law_253 ?_
  refine lw_arg C hL hi hS hl (k := 2) (by decide) rfl dL_law_254 dL_law_255 dL_law_256 dL_law_257 dL_law_258 ?_
  refine y_vi (C := RX6) (T := TX6) (N := 15) (o := 19) (As := [.int (xs (i + 1)), .int (xs (i + 2))]) (rest := [.int r]) ⟨hx, hb, hml, hown, hts⟩ (m_X6_person l hE hM X (X 19) (xs (i + 1)) (xs (i + 2)) _ hk) (cwV 2 hts gL_law_X6_person rfl rfl rfl (by decide +kernel) ⟨Nat.le_of_ble_eq_true rfl, Nat.le_of_ble_eq_true rfl⟩) hK (z_P_self 19 hP) hsub hS (hM (19, 0) (List.mem_of_getElem? (i := 0) rfl)) z_l_19_0 rfl rfl hl.1 rfl (Nat.le_of_ble_eq_true rfl) dL_law_259 ⟨Nat.le_of_ble_eq_true rfl, Nat.le_of_ble_eq_true rfl⟩ (fun r2 u2 H locs hk hP hS => ?_)
  obtain ⟨ev, er, hR⟩ := hk
  rw [ev, z_up_self] at hP
  exact lv_icmp_eq (tgt := 1005) hx hb dL_law_262 (by decide) (fun _ => kk X _ _ hR hP hS) (fun c9 => absurd er c9)
set_option maxHeartbeats 4000000 in
set_option maxRecDepth 100000 in
theorem q_glove {p : Program} (l : Launch) {e : Env} {s : State} {m : MethodId} {below : List Frame} {meth : Method} {c : Code} {E : z_E} {A : Nat → Prop} {b L i : Nat} {xs : Nat → Int32} (C : lw_Cx p s m c b L xs E A) (hL : L ≤ 256) (hi : i + 4 ≤ L) {Q : State → Prop} {ls : Array Slot} (kk : ∀ (X : z_X) (H : Heap) (locs : List Loc), RLE X → z_P E X H → va_S A s.heap H locs → W p l e room_1 s m #[Value.ref b] below meth c H locs 154 2088 Q (F0 m 1005 ls [])) {X : z_X} {H : Heap} {locs : List Loc} (hR : RLE X) (hP : z_P E X H) (hS : va_S A s.heap H locs) (hl : lv_has ls 4 (lw_L E b i)) : W p l e room_1 s m #[Value.ref b] below meth c H locs 154 2088 Q (F0 m 267 ls []) := by
  obtain ⟨hx, hb, hml, hown, hts, hX, hbl, hbA, hK, hE, hC, hM, hsub⟩ := id C
  obtain ⟨n, k, R⟩ := hR
  refine lv_aload_n hx hb dL_law_267 rfl (lv_at hl 1 rfl) ?_
  refine lw_arg C hL hi hS hl (k := 1) (by decide) rfl dL_law_268 dL_law_269 dL_law_270 dL_law_271 dL_law_272 ?_
  refine lw_arg C hL hi hS hl (k := 2) (by decide) rfl dL_law_273 dL_law_274 dL_law_275 dL_law_276 dL_law_277 ?_
  refine y_vi (C := RX5) (T := TX5) (N := 7) (o := 18) (As := [.int (xs (i + 1)), .int (xs (i + 2))]) (rest := []) ⟨hx, hb, hml, hown, hts⟩ (m_X5_glove l hE hC X (xs (i + 1)) (xs (i + 2)) _ (t_glove R (xs (i + 1)) (xs (i + 2)))) (cwV 2 hts gL_law_X5_glove rfl rfl rfl (by decide +kernel) ⟨Nat.le_of_ble_eq_true rfl, Nat.le_of_ble_eq_true rfl⟩) hK hP hsub hS (hC.2 (18, 0) (List.mem_of_getElem? (i := 12) rfl)) z_l_18_0 rfl rfl hl.1 rfl (Nat.le_of_ble_eq_true rfl) dL_law_278 ⟨Nat.le_of_ble_eq_true rfl, Nat.le_of_ble_eq_true rfl⟩ (fun r u H locs hk hP hS => ?_)
  obtain ⟨eu, hk⟩ := hk
  rw [eu] at hP
  refine lv_aload_n hx hb dL_law_281 rfl (lv_at hl 2 rfl) ?_
  refine lw_arg C hL hi hS hl (k := 1) (by decide) rfl dL_law_282 dL_law_283 dL_law_284 dL_law_285 dL_law_286 ?_
  refine lw_arg C hL hi hS hl (k := 2) (by decide) rfl dL_law_287 dL_law_288 dL_law_289 dL_law_290 dL_law_291 ?_
  refine y_vi (C := RX6) (T := TX6) (N := 15) (o := 19) (As := [.int (xs (i + 1)), .int (xs (i + 2))]) (rest := [.int r]) ⟨hx, hb, hml, hown, hts⟩ (m_X6_glove l hE hM X (X 19) (xs (i + 1)) (xs (i + 2)) _ hk) (cwV 2 hts gL_law_X6_glove rfl rfl rfl (by decide +kernel) ⟨Nat.le_of_ble_eq_true rfl, Nat.le_of_ble_eq_true rfl⟩) hK (z_P_self 19 hP) hsub hS (hM (19, 0) (List.mem_of_getElem? (i := 0) rfl)) z_l_19_0 rfl rfl hl.1 rfl (Nat.le_of_ble_eq_true rfl) dL_law_292 ⟨Nat.le_of_ble_eq_true rfl, Nat.le_of_ble_eq_true rfl⟩ (fun r2 u2 H locs hk hP hS => ?_)
  obtain ⟨ev, er, hR⟩ := hk
  rw [ev, z_up_self] at hP
  exact lv_icmp_eq (tgt := 1005) hx hb dL_law_295 (by decide) (fun _ => kk X _ _ hR hP hS) (fun c9 => absurd er c9)
set_option maxHeartbeats 4000000 in
set_option maxRecDepth 100000 in
theorem q_fits {p : Program} (l : Launch) {e : Env} {s : State} {m : MethodId} {below : List Frame} {meth : Method} {c : Code} {E : z_E} {A : Nat → Prop} {b L i : Nat} {xs : Nat → Int32} (C : lw_Cx p s m c b L xs E A) (hL : L ≤ 256) (hi : i + 4 ≤ L) {Q : State → Prop} {ls : Array Slot} (kk : ∀ (X : z_X) (H : Heap) (locs : List Loc), RLE X → z_P E X H → va_S A s.heap H locs → W p l e room_1 s m #[Value.ref b] below meth c H locs 154 2088 Q (F0 m 1005 ls [])) {X : z_X} {H : Heap} {locs : List Loc} (hR : RLE X) (hP : z_P E X H) (hS : va_S A s.heap H locs) (hl : lv_has ls 4 (lw_L E b i)) : W p l e room_1 s m #[Value.ref b] below meth c H locs 154 2088 Q (F0 m 300 ls []) := by
  obtain ⟨hx, hb, hml, hown, hts, hX, hbl, hbA, hK, hE, hC, hM, hsub⟩ := id C
  obtain ⟨n, k, R⟩ := hR
  refine lv_aload_n hx hb dL_law_300 rfl (lv_at hl 1 rfl) ?_
  refine lw_arg C hL hi hS hl (k := 1) (by decide) rfl dL_law_301 dL_law_302 dL_law_303 dL_law_304 dL_law_305 ?_
  refine lw_arg C hL hi hS hl (k := 2) (by decide) rfl dL_law_306 dL_law_307 dL_law_308 dL_law_309 dL_law_310 ?_
  refine y_vi (C := RX5) (T := TX5) (N := 7) (o := 18) (As := [.int (xs (i + 1)), .int (xs (i + 2))]) (rest := []) ⟨hx, hb, hml, hown, hts⟩ (m_X5_fits l hE hC X (xs (i + 1)) (xs (i + 2)) _ (t_fits R (xs (i + 1)) (xs (i + 2)))) (cwV 2 hts gL_law_X5_fits rfl rfl rfl (by decide +kernel) ⟨Nat.le_of_ble_eq_true rfl, Nat.le_of_ble_eq_true rfl⟩) hK hP hsub hS (hC.2 (18, 0) (List.mem_of_getElem? (i := 12) rfl)) z_l_18_0 rfl rfl hl.1 rfl (Nat.le_of_ble_eq_true rfl) dL_law_311 ⟨Nat.le_of_ble_eq_true rfl, Nat.le_of_ble_eq_true rfl⟩ (fun r u H locs hk hP hS => ?_)
  obtain ⟨eu, hk⟩ := hk
  rw [eu] at hP
  refine lv_aload_n hx hb dL_law_314 rfl (lv_at hl 2 rfl) ?_
  refine lw_arg C hL hi hS hl (k := 1) (by decide) rfl dL_law_315 dL_law_316 dL_law_317 dL_law_318 dL_law_319 ?_
  refine lw_arg C hL hi hS hl (k := 2) (by decide) rfl dL_law_320 dL_law_321 dL_law_322 dL_law_323 dL_law_324 ?_
  refine y_vi (C := RX6) (T := TX6) (N := 15) (o := 19) (As := [.int (xs (i + 1)), .int (xs (i + 2))]) (rest := [.int r]) ⟨hx, hb, hml, hown, hts⟩ (m_X6_fits l hE hM X (X 19) (xs (i + 1)) (xs (i + 2)) _ hk) (cwV 2 hts gL_law_X6_fits rfl rfl rfl (by decide +kernel) ⟨Nat.le_of_ble_eq_true rfl, Nat.le_of_ble_eq_true rfl⟩) hK (z_P_self 19 hP) hsub hS (hM (19, 0) (List.mem_of_getElem? (i := 0) rfl)) z_l_19_0 rfl rfl hl.1 rfl (Nat.le_of_ble_eq_true rfl) dL_law_325 ⟨Nat.le_of_ble_eq_true rfl, Nat.le_of_ble_eq_true rfl⟩ (fun r2 u2 H locs hk hP hS => ?_)
  obtain ⟨h', ev, er, hR⟩ := hk
  rw [ev] at hP
  exact lv_icmp_eq (tgt := 1005) hx hb dL_law_328 (by decide) (fun _ => kk _ _ _ hR hP hS) (fun c9 => absurd er c9)
set_option maxHeartbeats 4000000 in
set_option maxRecDepth 100000 in
theorem q_fight {p : Program} (l : Launch) {e : Env} {s : State} {m : MethodId} {below : List Frame} {meth : Method} {c : Code} {E : z_E} {A : Nat → Prop} {b L i : Nat} {xs : Nat → Int32} (C : lw_Cx p s m c b L xs E A) (hL : L ≤ 256) (hi : i + 4 ≤ L) {Q : State → Prop} {ls : Array Slot} (kk : ∀ (X : z_X) (H : Heap) (locs : List Loc), RLE X → z_P E X H → va_S A s.heap H locs → W p l e room_1 s m #[Value.ref b] below meth c H locs 154 2088 Q (F0 m 1005 ls [])) {X : z_X} {H : Heap} {locs : List Loc} (hR : RLE X) (hP : z_P E X H) (hS : va_S A s.heap H locs) (hl : lv_has ls 4 (lw_L E b i)) : W p l e room_1 s m #[Value.ref b] below meth c H locs 154 2088 Q (F0 m 333 ls []) := by
  obtain ⟨hx, hb, hml, hown, hts, hX, hbl, hbA, hK, hE, hC, hM, hsub⟩ := id C
  obtain ⟨n, k, R⟩ := hR
  refine lv_aload_n hx hb dL_law_333 rfl (lv_at hl 1 rfl) ?_
  refine lw_arg C hL hi hS hl (k := 1) (by decide) rfl dL_law_334 dL_law_335 dL_law_336 dL_law_337 dL_law_338 ?_
  refine lw_arg C hL hi hS hl (k := 2) (by decide) rfl dL_law_339 dL_law_340 dL_law_341 dL_law_342 dL_law_343 ?_
  refine y_vi (C := RX5) (T := TX5) (N := 7) (o := 18) (As := [.int (xs (i + 1)), .int (xs (i + 2))]) (rest := []) ⟨hx, hb, hml, hown, hts⟩ (m_X5_fight l hE hC X (xs (i + 1)) (xs (i + 2)) _ (t_fight R (xs (i + 1)) (xs (i + 2)))) (cwV 2 hts gL_law_X5_fight rfl rfl rfl (by decide +kernel) ⟨Nat.le_of_ble_eq_true rfl, Nat.le_of_ble_eq_true rfl⟩) hK hP hsub hS (hC.2 (18, 0) (List.mem_of_getElem? (i := 12) rfl)) z_l_18_0 rfl rfl hl.1 rfl (Nat.le_of_ble_eq_true rfl) dL_law_344 ⟨Nat.le_of_ble_eq_true rfl, Nat.le_of_ble_eq_true rfl⟩ (fun r u H locs hk hP hS => ?_)
  obtain ⟨eu, hk⟩ := hk
  rw [eu] at hP
  refine lv_aload_n hx hb dL_law_347 rfl (lv_at hl 2 rfl) ?_
  refine lw_arg C hL hi hS hl (k := 1) (by decide) rfl dL_law_348 dL_law_349 dL_law_350 dL_law_351 dL_law_352 ?_
  refine lw_arg C hL hi hS hl (k := 2) (by decide) rfl dL_law_353 dL_law_354 dL_law_355 dL_law_356 dL_law_357 ?_
  refine y_vi (C := RX6) (T := TX6) (N := 15) (o := 19) (As := [.int (xs (i + 1)), .int (xs (i + 2))]) (rest := [.int r]) ⟨hx, hb, hml, hown, hts⟩ (m_X6_fight l hE hM X (X 19) (xs (i + 1)) (xs (i + 2)) _ hk) (cwV 2 hts gL_law_X6_fight rfl rfl rfl (by decide +kernel) ⟨Nat.le_of_ble_eq_true rfl, Nat.le_of_ble_eq_true rfl⟩) hK (z_P_self 19 hP) hsub hS (hM (19, 0) (List.mem_of_getElem? (i := 0) rfl)) z_l_19_0 rfl rfl hl.1 rfl (Nat.le_of_ble_eq_true rfl) dL_law_358 ⟨Nat.le_of_ble_eq_true rfl, Nat.le_of_ble_eq_true rfl⟩ (fun r2 u2 H locs hk hP hS => ?_)
  obtain ⟨ev, er, hR⟩ := hk
  rw [ev, z_up_self] at hP
  exact lv_icmp_eq (tgt := 1005) hx hb dL_law_361 (by decide) (fun _ => kk X _ _ hR hP hS) (fun c9 => absurd er c9)
set_option maxHeartbeats 4000000 in
set_option maxRecDepth 100000 in
theorem q_pass {p : Program} (l : Launch) {e : Env} {s : State} {m : MethodId} {below : List Frame} {meth : Method} {c : Code} {E : z_E} {A : Nat → Prop} {b L i : Nat} {xs : Nat → Int32} (C : lw_Cx p s m c b L xs E A) (hL : L ≤ 256) (hi : i + 4 ≤ L) {Q : State → Prop} {ls : Array Slot} (kk : ∀ (X : z_X) (H : Heap) (locs : List Loc), RLE X → z_P E X H → va_S A s.heap H locs → W p l e room_1 s m #[Value.ref b] below meth c H locs 154 2088 Q (F0 m 1005 ls [])) {X : z_X} {H : Heap} {locs : List Loc} (hR : RLE X) (hP : z_P E X H) (hS : va_S A s.heap H locs) (hl : lv_has ls 4 (lw_L E b i)) : W p l e room_1 s m #[Value.ref b] below meth c H locs 154 2088 Q (F0 m 366 ls []) := by
  obtain ⟨hx, hb, hml, hown, hts, hX, hbl, hbA, hK, hE, hC, hM, hsub⟩ := id C
  obtain ⟨n, k, R⟩ := hR
  refine lv_aload_n hx hb dL_law_366 rfl (lv_at hl 1 rfl) ?_
  refine lw_arg C hL hi hS hl (k := 1) (by decide) rfl dL_law_367 dL_law_368 dL_law_369 dL_law_370 dL_law_371 ?_
  refine y_vi (C := RX5) (T := TX5) (N := 7) (o := 18) (As := [.int (xs (i + 1))]) (rest := []) ⟨hx, hb, hml, hown, hts⟩ (m_X5_pass l hE hC X (xs (i + 1)) _ (t_pass R (xs (i + 1)))) (cwV 1 hts gL_law_X5_pass rfl rfl rfl (by decide +kernel) ⟨Nat.le_of_ble_eq_true rfl, Nat.le_of_ble_eq_true rfl⟩) hK hP hsub hS (hC.2 (18, 0) (List.mem_of_getElem? (i := 12) rfl)) z_l_18_0 rfl rfl hl.1 rfl (Nat.le_of_ble_eq_true rfl) dL_law_372 ⟨Nat.le_of_ble_eq_true rfl, Nat.le_of_ble_eq_true rfl⟩ (fun r u H locs hk hP hS => ?_)
  refine lv_aload_n hx hb dL_law_375 rfl (lv_at hl 2 rfl) ?_
  refine lw_arg C hL hi hS hl (k := 1) (by decide) rfl dL_law_376 dL_law_377 dL_law_378 dL_law_379 dL_law_380 ?_
  refine y_vi (C := RX6) (T := TX6) (N := 15) (o := 19) (As := [.int (xs (i + 1))]) (rest := [.int r]) ⟨hx, hb, hml, hown, hts⟩ (m_X6_pass l hE hM u (u 19) (xs (i + 1)) _ hk) (cwV 1 hts gL_law_X6_pass rfl rfl rfl (by decide +kernel) ⟨Nat.le_of_ble_eq_true rfl, Nat.le_of_ble_eq_true rfl⟩) hK (z_P_self 19 hP) hsub hS (hM (19, 0) (List.mem_of_getElem? (i := 0) rfl)) z_l_19_0 rfl rfl hl.1 rfl (Nat.le_of_ble_eq_true rfl) dL_law_381 ⟨Nat.le_of_ble_eq_true rfl, Nat.le_of_ble_eq_true rfl⟩ (fun r2 u2 H locs hk hP hS => ?_)
  obtain ⟨h', ev, er, hR⟩ := hk
  rw [ev] at hP
  exact lv_icmp_eq (tgt := 1005) hx hb dL_law_384 (by decide) (fun _ => kk _ _ _ hR hP hS) (fun c9 => absurd er c9)
set_option maxHeartbeats 4000000 in
set_option maxRecDepth 100000 in
theorem q_hurl {p : Program} (l : Launch) {e : Env} {s : State} {m : MethodId} {below : List Frame} {meth : Method} {c : Code} {E : z_E} {A : Nat → Prop} {b L i : Nat} {xs : Nat → Int32} (C : lw_Cx p s m c b L xs E A) (hL : L ≤ 256) (hi : i + 4 ≤ L) {Q : State → Prop} {ls : Array Slot} (kk : ∀ (X : z_X) (H : Heap) (locs : List Loc), RLE X → z_P E X H → va_S A s.heap H locs → W p l e room_1 s m #[Value.ref b] below meth c H locs 154 2088 Q (F0 m 1005 ls [])) {X : z_X} {H : Heap} {locs : List Loc} (hR : RLE X) (hP : z_P E X H) (hS : va_S A s.heap H locs) (hl : lv_has ls 4 (lw_L E b i)) : W p l e room_1 s m #[Value.ref b] below meth c H locs 154 2088 Q (F0 m 389 ls []) := by
  obtain ⟨hx, hb, hml, hown, hts, hX, hbl, hbA, hK, hE, hC, hM, hsub⟩ := id C
  obtain ⟨n, k, R⟩ := hR
  refine lv_aload_n hx hb dL_law_389 rfl (lv_at hl 1 rfl) ?_
  refine lw_arg C hL hi hS hl (k := 1) (by decide) rfl dL_law_390 dL_law_391 dL_law_392 dL_law_393 dL_law_394 ?_
  refine lw_arg C hL hi hS hl (k := 2) (by decide) rfl dL_law_395 dL_law_396 dL_law_397 dL_law_398 dL_law_399 ?_
  refine lw_arg C hL hi hS hl (k := 3) (by decide) rfl dL_law_400 dL_law_401 dL_law_402 dL_law_403 dL_law_404 ?_
  refine y_vi (C := RX5) (T := TX5) (N := 7) (o := 18) (As := [.int (xs (i + 1)), .int (xs (i + 2)), .int (xs (i + 3))]) (rest := []) ⟨hx, hb, hml, hown, hts⟩ (m_X5_hurl l hE hC X (xs (i + 1)) (xs (i + 2)) (xs (i + 3)) _ (t_hurl R (xs (i + 1)) (xs (i + 2)) (xs (i + 3)))) (cwV 3 hts gL_law_X5_hurl rfl rfl rfl (by decide +kernel) ⟨Nat.le_of_ble_eq_true rfl, Nat.le_of_ble_eq_true rfl⟩) hK hP hsub hS (hC.2 (18, 0) (List.mem_of_getElem? (i := 12) rfl)) z_l_18_0 rfl rfl hl.1 rfl (Nat.le_of_ble_eq_true rfl) dL_law_405 ⟨Nat.le_of_ble_eq_true rfl, Nat.le_of_ble_eq_true rfl⟩ (fun r u H locs hk hP hS => ?_)
  refine lv_aload_n hx hb dL_law_408 rfl (lv_at hl 2 rfl) ?_
  refine lw_arg C hL hi hS hl (k := 1) (by decide) rfl dL_law_409 dL_law_410 dL_law_411 dL_law_412 dL_law_413 ?_
  refine lw_arg C hL hi hS hl (k := 2) (by decide) rfl dL_law_414 dL_law_415 dL_law_416 dL_law_417 dL_law_418 ?_
  refine lw_arg C hL hi hS hl (k := 3) (by decide) rfl dL_law_419 dL_law_420 dL_law_421 dL_law_422 dL_law_423 ?_
  refine y_vi (C := RX6) (T := TX6) (N := 15) (o := 19) (As := [.int (xs (i + 1)), .int (xs (i + 2)), .int (xs (i + 3))]) (rest := [.int r]) ⟨hx, hb, hml, hown, hts⟩ (m_X6_hurl l hE hM u (u 19) (xs (i + 1)) (xs (i + 2)) (xs (i + 3)) _ hk) (cwV 3 hts gL_law_X6_hurl rfl rfl rfl (by decide +kernel) ⟨Nat.le_of_ble_eq_true rfl, Nat.le_of_ble_eq_true rfl⟩) hK (z_P_self 19 hP) hsub hS (hM (19, 0) (List.mem_of_getElem? (i := 0) rfl)) z_l_19_0 rfl rfl hl.1 rfl (Nat.le_of_ble_eq_true rfl) dL_law_424 ⟨Nat.le_of_ble_eq_true rfl, Nat.le_of_ble_eq_true rfl⟩ (fun r2 u2 H locs hk hP hS => ?_)
  obtain ⟨h', ev, er, hR⟩ := hk
  rw [ev] at hP
  exact lv_icmp_eq (tgt := 1005) hx hb dL_law_427 (by decide) (fun _ => kk _ _ _ hR hP hS) (fun c9 => absurd er c9)
set_option maxHeartbeats 4000000 in
set_option maxRecDepth 100000 in
theorem q_take {p : Program} (l : Launch) {e : Env} {s : State} {m : MethodId} {below : List Frame} {meth : Method} {c : Code} {E : z_E} {A : Nat → Prop} {b L i : Nat} {xs : Nat → Int32} (C : lw_Cx p s m c b L xs E A) (hL : L ≤ 256) (hi : i + 4 ≤ L) {Q : State → Prop} {ls : Array Slot} (kk : ∀ (X : z_X) (H : Heap) (locs : List Loc), RLE X → z_P E X H → va_S A s.heap H locs → W p l e room_1 s m #[Value.ref b] below meth c H locs 154 2088 Q (F0 m 1005 ls [])) {X : z_X} {H : Heap} {locs : List Loc} (hR : RLE X) (hP : z_P E X H) (hS : va_S A s.heap H locs) (hl : lv_has ls 4 (lw_L E b i)) : W p l e room_1 s m #[Value.ref b] below meth c H locs 154 2088 Q (F0 m 432 ls []) := by
  obtain ⟨hx, hb, hml, hown, hts, hX, hbl, hbA, hK, hE, hC, hM, hsub⟩ := id C
  obtain ⟨n, k, R⟩ := hR
  refine lv_aload_n hx hb dL_law_432 rfl (lv_at hl 1 rfl) ?_
  refine lw_arg C hL hi hS hl (k := 1) (by decide) rfl dL_law_433 dL_law_434 dL_law_435 dL_law_436 dL_law_437 ?_
  refine y_vi (C := RX5) (T := TX5) (N := 7) (o := 18) (As := [.int (xs (i + 1))]) (rest := []) ⟨hx, hb, hml, hown, hts⟩ (m_X5_take l hE hC X (xs (i + 1)) _ (t_take R (xs (i + 1)))) (cwV 1 hts gL_law_X5_take rfl rfl rfl (by decide +kernel) ⟨Nat.le_of_ble_eq_true rfl, Nat.le_of_ble_eq_true rfl⟩) hK hP hsub hS (hC.2 (18, 0) (List.mem_of_getElem? (i := 12) rfl)) z_l_18_0 rfl rfl hl.1 rfl (Nat.le_of_ble_eq_true rfl) dL_law_438 ⟨Nat.le_of_ble_eq_true rfl, Nat.le_of_ble_eq_true rfl⟩ (fun r u H locs hk hP hS => ?_)
  refine lv_aload_n hx hb dL_law_441 rfl (lv_at hl 2 rfl) ?_
  refine lw_arg C hL hi hS hl (k := 1) (by decide) rfl dL_law_442 dL_law_443 dL_law_444 dL_law_445 dL_law_446 ?_
  refine y_vi (C := RX6) (T := TX6) (N := 15) (o := 19) (As := [.int (xs (i + 1))]) (rest := [.int r]) ⟨hx, hb, hml, hown, hts⟩ (m_X6_take l hE hM u (u 19) (xs (i + 1)) _ hk) (cwV 1 hts gL_law_X6_take rfl rfl rfl (by decide +kernel) ⟨Nat.le_of_ble_eq_true rfl, Nat.le_of_ble_eq_true rfl⟩) hK (z_P_self 19 hP) hsub hS (hM (19, 0) (List.mem_of_getElem? (i := 0) rfl)) z_l_19_0 rfl rfl hl.1 rfl (Nat.le_of_ble_eq_true rfl) dL_law_447 ⟨Nat.le_of_ble_eq_true rfl, Nat.le_of_ble_eq_true rfl⟩ (fun r2 u2 H locs hk hP hS => ?_)
  obtain ⟨h', ev, er, hR⟩ := hk
  rw [ev] at hP
  exact lv_icmp_eq (tgt := 1005) hx hb dL_law_450 (by decide) (fun _ => kk _ _ _ hR hP hS) (fun c9 => absurd er c9)
set_option maxHeartbeats 4000000 in
set_option maxRecDepth 100000 in
theorem q_stretch {p : Program} (l : Launch) {e : Env} {s : State} {m : MethodId} {below : List Frame} {meth : Method} {c : Code} {E : z_E} {A : Nat → Prop} {b L i : Nat} {xs : Nat → Int32} (C : lw_Cx p s m c b L xs E A) (hL : L ≤ 256) (hi : i + 4 ≤ L) {Q : State → Prop} {ls : Array Slot} (kk : ∀ (X : z_X) (H : Heap) (locs : List Loc), RLE X → z_P E X H → va_S A s.heap H locs → W p l e room_1 s m #[Value.ref b] below meth c H locs 154 2088 Q (F0 m 1005 ls [])) {X : z_X} {H : Heap} {locs : List Loc} (hR : RLE X) (hP : z_P E X H) (hS : va_S A s.heap H locs) (hl : lv_has ls 4 (lw_L E b i)) : W p l e room_1 s m #[Value.ref b] below meth c H locs 154 2088 Q (F0 m 455 ls []) := by
  obtain ⟨hx, hb, hml, hown, hts, hX, hbl, hbA, hK, hE, hC, hM, hsub⟩ := id C
  obtain ⟨n, k, R⟩ := hR
  refine lv_aload_n hx hb dL_law_455 rfl (lv_at hl 1 rfl) ?_
  refine lw_arg C hL hi hS hl (k := 1) (by decide) rfl dL_law_456 dL_law_457 dL_law_458 dL_law_459 dL_law_460 ?_
  refine y_vi (C := RX5) (T := TX5) (N := 7) (o := 18) (As := [.int (xs (i + 1))]) (rest := []) ⟨hx, hb, hml, hown, hts⟩ (m_X5_stretch l hE hC X (xs (i + 1)) _ (t_stretch R (xs (i + 1)))) (cwV 1 hts gL_law_X5_stretch rfl rfl rfl (by decide +kernel) ⟨Nat.le_of_ble_eq_true rfl, Nat.le_of_ble_eq_true rfl⟩) hK hP hsub hS (hC.2 (18, 0) (List.mem_of_getElem? (i := 12) rfl)) z_l_18_0 rfl rfl hl.1 rfl (Nat.le_of_ble_eq_true rfl) dL_law_461 ⟨Nat.le_of_ble_eq_true rfl, Nat.le_of_ble_eq_true rfl⟩ (fun r u H locs hk hP hS => ?_)
  refine lv_aload_n hx hb dL_law_464 rfl (lv_at hl 2 rfl) ?_
  refine lw_arg C hL hi hS hl (k := 1) (by decide) rfl dL_law_465 dL_law_466 dL_law_467 dL_law_468 dL_law_469 ?_
  refine y_vi (C := RX6) (T := TX6) (N := 15) (o := 19) (As := [.int (xs (i + 1))]) (rest := [.int r]) ⟨hx, hb, hml, hown, hts⟩ (m_X6_stretch l hE hM u (u 19) (xs (i + 1)) _ hk) (cwV 1 hts gL_law_X6_stretch rfl rfl rfl (by decide +kernel) ⟨Nat.le_of_ble_eq_true rfl, Nat.le_of_ble_eq_true rfl⟩) hK (z_P_self 19 hP) hsub hS (hM (19, 0) (List.mem_of_getElem? (i := 0) rfl)) z_l_19_0 rfl rfl hl.1 rfl (Nat.le_of_ble_eq_true rfl) dL_law_470 ⟨Nat.le_of_ble_eq_true rfl, Nat.le_of_ble_eq_true rfl⟩ (fun r2 u2 H locs hk hP hS => ?_)
  obtain ⟨h', ev, er, hR⟩ := hk
  rw [ev] at hP
  exact lv_icmp_eq (tgt := 1005) hx hb dL_law_473 (by decide) (fun _ => kk _ _ _ hR hP hS) (fun c9 => absurd er c9)
set_option maxHeartbeats 4000000 in
set_option maxRecDepth 100000 in
theorem q_wear {p : Program} (l : Launch) {e : Env} {s : State} {m : MethodId} {below : List Frame} {meth : Method} {c : Code} {E : z_E} {A : Nat → Prop} {b L i : Nat} {xs : Nat → Int32} (C : lw_Cx p s m c b L xs E A) (hL : L ≤ 256) (hi : i + 4 ≤ L) {Q : State → Prop} {ls : Array Slot} (kk : ∀ (X : z_X) (H : Heap) (locs : List Loc), RLE X → z_P E X H → va_S A s.heap H locs → W p l e room_1 s m #[Value.ref b] below meth c H locs 154 2088 Q (F0 m 1005 ls [])) {X : z_X} {H : Heap} {locs : List Loc} (hR : RLE X) (hP : z_P E X H) (hS : va_S A s.heap H locs) (hl : lv_has ls 4 (lw_L E b i)) : W p l e room_1 s m #[Value.ref b] below meth c H locs 154 2088 Q (F0 m 478 ls []) := by
  obtain ⟨hx, hb, hml, hown, hts, hX, hbl, hbA, hK, hE, hC, hM, hsub⟩ := id C
  obtain ⟨n, k, R⟩ := hR
  refine lv_aload_n hx hb dL_law_478 rfl (lv_at hl 1 rfl) ?_
  refine lw_arg C hL hi hS hl (k := 1) (by decide) rfl dL_law_479 dL_law_480 dL_law_481 dL_law_482 dL_law_483 ?_
  refine lw_arg C hL hi hS hl (k := 2) (by decide) rfl dL_law_484 dL_law_485 dL_law_486 dL_law_487 dL_law_488 ?_
  refine y_vi (C := RX5) (T := TX5) (N := 7) (o := 18) (As := [.int (xs (i + 1)), .int (xs (i + 2))]) (rest := []) ⟨hx, hb, hml, hown, hts⟩ (m_X5_wear l hE hC X (xs (i + 1)) (xs (i + 2)) _ (t_wear R (xs (i + 1)) (xs (i + 2)))) (cwV 2 hts gL_law_X5_wear rfl rfl rfl (by decide +kernel) ⟨Nat.le_of_ble_eq_true rfl, Nat.le_of_ble_eq_true rfl⟩) hK hP hsub hS (hC.2 (18, 0) (List.mem_of_getElem? (i := 12) rfl)) z_l_18_0 rfl rfl hl.1 rfl (Nat.le_of_ble_eq_true rfl) dL_law_489 ⟨Nat.le_of_ble_eq_true rfl, Nat.le_of_ble_eq_true rfl⟩ (fun r u H locs hk hP hS => ?_)
  refine lv_aload_n hx hb dL_law_492 rfl (lv_at hl 2 rfl) ?_
  refine lw_arg C hL hi hS hl (k := 1) (by decide) rfl dL_law_493 dL_law_494 dL_law_495 dL_law_496 dL_law_497 ?_
  refine lw_arg C hL hi hS hl (k := 2) (by decide) rfl dL_law_498 dL_law_499 dL_law_500 dL_law_501 dL_law_502 ?_
  refine y_vi (C := RX6) (T := TX6) (N := 15) (o := 19) (As := [.int (xs (i + 1)), .int (xs (i + 2))]) (rest := [.int r]) ⟨hx, hb, hml, hown, hts⟩ (m_X6_wear l hE hM u (u 19) (xs (i + 1)) (xs (i + 2)) _ hk) (cwV 2 hts gL_law_X6_wear rfl rfl rfl (by decide +kernel) ⟨Nat.le_of_ble_eq_true rfl, Nat.le_of_ble_eq_true rfl⟩) hK (z_P_self 19 hP) hsub hS (hM (19, 0) (List.mem_of_getElem? (i := 0) rfl)) z_l_19_0 rfl rfl hl.1 rfl (Nat.le_of_ble_eq_true rfl) dL_law_503 ⟨Nat.le_of_ble_eq_true rfl, Nat.le_of_ble_eq_true rfl⟩ (fun r2 u2 H locs hk hP hS => ?_)
  obtain ⟨h', ev, er, hR⟩ := hk
  rw [ev] at hP
  exact lv_icmp_eq (tgt := 1005) hx hb dL_law_506 (by decide) (fun _ => kk _ _ _ hR hP hS) (fun c9 => absurd er c9)
set_option maxHeartbeats 4000000 in
set_option maxRecDepth 100000 in
theorem q_undo {p : Program} (l : Launch) {e : Env} {s : State} {m : MethodId} {below : List Frame} {meth : Method} {c : Code} {E : z_E} {A : Nat → Prop} {b L i : Nat} {xs : Nat → Int32} (C : lw_Cx p s m c b L xs E A) (hL : L ≤ 256) (hi : i + 4 ≤ L) {Q : State → Prop} {ls : Array Slot} (kk : ∀ (X : z_X) (H : Heap) (locs : List Loc), RLE X → z_P E X H → va_S A s.heap H locs → W p l e room_1 s m #[Value.ref b] below meth c H locs 154 2088 Q (F0 m 1005 ls [])) {X : z_X} {H : Heap} {locs : List Loc} (hR : RLE X) (hP : z_P E X H) (hS : va_S A s.heap H locs) (hl : lv_has ls 4 (lw_L E b i)) : W p l e room_1 s m #[Value.ref b] below meth c H locs 154 2088 Q (F0 m 511 ls []) := by
  obtain ⟨hx, hb, hml, hown, hts, hX, hbl, hbA, hK, hE, hC, hM, hsub⟩ := id C
  obtain ⟨n, k, R⟩ := hR
  refine lv_aload_n hx hb dL_law_511 rfl (lv_at hl 1 rfl) ?_
  refine y_vi (C := RX5) (T := TX5) (N := 7) (o := 18) (As := []) (rest := []) ⟨hx, hb, hml, hown, hts⟩ (m_X5_undo l hE hC X  _ (t_undo R )) (cwV 0 hts gL_law_X5_undo rfl rfl rfl (by decide +kernel) ⟨Nat.le_of_ble_eq_true rfl, Nat.le_of_ble_eq_true rfl⟩) hK hP hsub hS (hC.2 (18, 0) (List.mem_of_getElem? (i := 12) rfl)) z_l_18_0 rfl rfl hl.1 rfl (Nat.le_of_ble_eq_true rfl) dL_law_512 ⟨Nat.le_of_ble_eq_true rfl, Nat.le_of_ble_eq_true rfl⟩ (fun r u H locs hk hP hS => ?_)
  refine lv_aload_n hx hb dL_law_515 rfl (lv_at hl 2 rfl) ?_
  refine y_vi (C := RX6) (T := TX6) (N := 15) (o := 19) (As := []) (rest := [.int r]) ⟨hx, hb, hml, hown, hts⟩ (m_X6_undo l hE hM u (u 19)  _ hk) (cwV 0 hts gL_law_X6_undo rfl rfl rfl (by decide +kernel) ⟨Nat.le_of_ble_eq_true rfl, Nat.le_of_ble_eq_true rfl⟩) hK (z_P_self 19 hP) hsub hS (hM (19, 0) (List.mem_of_getElem? (i := 0) rfl)) z_l_19_0 rfl rfl hl.1 rfl (Nat.le_of_ble_eq_true rfl) dL_law_516 ⟨Nat.le_of_ble_eq_true rfl, Nat.le_of_ble_eq_true rfl⟩ (fun r2 u2 H locs hk hP hS => ?_)
  obtain ⟨h', ev, er, hR⟩ := hk
  rw [ev] at hP
  exact lv_icmp_eq (tgt := 1005) hx hb dL_law_519 (by decide) (fun _ => kk _ _ _ hR hP hS) (fun c9 => absurd er c9)
set_option maxHeartbeats 4000000 in
set_option maxRecDepth 100000 in
theorem q_behind {p : Program} (l : Launch) {e : Env} {s : State} {m : MethodId} {below : List Frame} {meth : Method} {c : Code} {E : z_E} {A : Nat → Prop} {b L i : Nat} {xs : Nat → Int32} (C : lw_Cx p s m c b L xs E A) (hL : L ≤ 256) (hi : i + 4 ≤ L) {Q : State → Prop} {ls : Array Slot} (kk : ∀ (X : z_X) (H : Heap) (locs : List Loc), RLE X → z_P E X H → va_S A s.heap H locs → W p l e room_1 s m #[Value.ref b] below meth c H locs 154 2088 Q (F0 m 1005 ls [])) {X : z_X} {H : Heap} {locs : List Loc} (hR : RLE X) (hP : z_P E X H) (hS : va_S A s.heap H locs) (hl : lv_has ls 4 (lw_L E b i)) : W p l e room_1 s m #[Value.ref b] below meth c H locs 154 2088 Q (F0 m 524 ls []) := by
  obtain ⟨hx, hb, hml, hown, hts, hX, hbl, hbA, hK, hE, hC, hM, hsub⟩ := id C
  obtain ⟨n, k, R⟩ := hR
  refine lv_aload_n hx hb dL_law_524 rfl (lv_at hl 1 rfl) ?_
  refine lw_arg C hL hi hS hl (k := 1) (by decide) rfl dL_law_525 dL_law_526 dL_law_527 dL_law_528 dL_law_529 ?_
  refine lw_arg C hL hi hS hl (k := 2) (by decide) rfl dL_law_530 dL_law_531 dL_law_532 dL_law_533 dL_law_534 ?_
  refine y_vi (C := RX5) (T := TX5) (N := 7) (o := 18) (As := [.int (xs (i + 1)), .int (xs (i + 2))]) (rest := []) ⟨hx, hb, hml, hown, hts⟩ (m_X5_behind l hE hC X (xs (i + 1)) (xs (i + 2)) _ (t_behind R (xs (i + 1)) (xs (i + 2)))) (cwV 2 hts gL_law_X5_behind rfl rfl rfl (by decide +kernel) ⟨Nat.le_of_ble_eq_true rfl, Nat.le_of_ble_eq_true rfl⟩) hK hP hsub hS (hC.2 (18, 0) (List.mem_of_getElem? (i := 12) rfl)) z_l_18_0 rfl rfl hl.1 rfl (Nat.le_of_ble_eq_true rfl) dL_law_535 ⟨Nat.le_of_ble_eq_true rfl, Nat.le_of_ble_eq_true rfl⟩ (fun r u H locs hk hP hS => ?_)
  refine lv_aload_n hx hb dL_law_538 rfl (lv_at hl 2 rfl) ?_
  refine lw_arg C hL hi hS hl (k := 1) (by decide) rfl dL_law_539 dL_law_540 dL_law_541 dL_law_542 dL_law_543 ?_
  refine lw_arg C hL hi hS hl (k := 2) (by decide) rfl dL_law_544 dL_law_545 dL_law_546 dL_law_547 dL_law_548 ?_
  refine y_vi (C := RX6) (T := TX6) (N := 15) (o := 19) (As := [.int (xs (i + 1)), .int (xs (i + 2))]) (rest := [.int r]) ⟨hx, hb, hml, hown, hts⟩ (m_X6_behind l hE hM u (u 19) (xs (i + 1)) (xs (i + 2)) _ hk) (cwV 2 hts gL_law_X6_behind rfl rfl rfl (by decide +kernel) ⟨Nat.le_of_ble_eq_true rfl, Nat.le_of_ble_eq_true rfl⟩) hK (z_P_self 19 hP) hsub hS (hM (19, 0) (List.mem_of_getElem? (i := 0) rfl)) z_l_19_0 rfl rfl hl.1 rfl (Nat.le_of_ble_eq_true rfl) dL_law_549 ⟨Nat.le_of_ble_eq_true rfl, Nat.le_of_ble_eq_true rfl⟩ (fun r2 u2 H locs hk hP hS => ?_)
  obtain ⟨h', ev, er, hR⟩ := hk
  rw [ev] at hP
  exact lv_icmp_eq (tgt := 1005) hx hb dL_law_552 (by decide) (fun _ => kk _ _ _ hR hP hS) (fun c9 => absurd er c9)
set_option maxHeartbeats 4000000 in
set_option maxRecDepth 100000 in
theorem q_lies {p : Program} (l : Launch) {e : Env} {s : State} {m : MethodId} {below : List Frame} {meth : Method} {c : Code} {E : z_E} {A : Nat → Prop} {b L i : Nat} {xs : Nat → Int32} (C : lw_Cx p s m c b L xs E A) (hL : L ≤ 256) (hi : i + 4 ≤ L) {Q : State → Prop} {ls : Array Slot} (kk : ∀ (X : z_X) (H : Heap) (locs : List Loc), RLE X → z_P E X H → va_S A s.heap H locs → W p l e room_1 s m #[Value.ref b] below meth c H locs 154 2088 Q (F0 m 1005 ls [])) {X : z_X} {H : Heap} {locs : List Loc} (hR : RLE X) (hP : z_P E X H) (hS : va_S A s.heap H locs) (hl : lv_has ls 4 (lw_L E b i)) : W p l e room_1 s m #[Value.ref b] below meth c H locs 154 2088 Q (F0 m 557 ls []) := by
  obtain ⟨hx, hb, hml, hown, hts, hX, hbl, hbA, hK, hE, hC, hM, hsub⟩ := id C
  obtain ⟨n, k, R⟩ := hR
  refine lv_aload_n hx hb dL_law_557 rfl (lv_at hl 1 rfl) ?_
  refine lw_arg C hL hi hS hl (k := 1) (by decide) rfl dL_law_558 dL_law_559 dL_law_560 dL_law_561 dL_law_562 ?_
  refine y_vi (C := RX5) (T := TX5) (N := 7) (o := 18) (As := [.int (xs (i + 1))]) (rest := []) ⟨hx, hb, hml, hown, hts⟩ (m_X5_lies l hE hC X (xs (i + 1)) _ (t_lies R (xs (i + 1)))) (cwV 1 hts gL_law_X5_lies rfl rfl rfl (by decide +kernel) ⟨Nat.le_of_ble_eq_true rfl, Nat.le_of_ble_eq_true rfl⟩) hK hP hsub hS (hC.2 (18, 0) (List.mem_of_getElem? (i := 12) rfl)) z_l_18_0 rfl rfl hl.1 rfl (Nat.le_of_ble_eq_true rfl) dL_law_563 ⟨Nat.le_of_ble_eq_true rfl, Nat.le_of_ble_eq_true rfl⟩ (fun r u H locs hk hP hS => ?_)
  refine lv_aload_n hx hb dL_law_566 rfl (lv_at hl 2 rfl) ?_
  refine lw_arg C hL hi hS hl (k := 1) (by decide) rfl dL_law_567 dL_law_568 dL_law_569 dL_law_570 dL_law_571 ?_
  refine y_vi (C := RX6) (T := TX6) (N := 15) (o := 19) (As := [.int (xs (i + 1))]) (rest := [.int r]) ⟨hx, hb, hml, hown, hts⟩ (m_X6_lies l hE hM u (u 19) (xs (i + 1)) _ hk) (cwV 1 hts gL_law_X6_lies rfl rfl rfl (by decide +kernel) ⟨Nat.le_of_ble_eq_true rfl, Nat.le_of_ble_eq_true rfl⟩) hK (z_P_self 19 hP) hsub hS (hM (19, 0) (List.mem_of_getElem? (i := 0) rfl)) z_l_19_0 rfl rfl hl.1 rfl (Nat.le_of_ble_eq_true rfl) dL_law_572 ⟨Nat.le_of_ble_eq_true rfl, Nat.le_of_ble_eq_true rfl⟩ (fun r2 u2 H locs hk hP hS => ?_)
  obtain ⟨h', ev, er, hR⟩ := hk
  rw [ev] at hP
  exact lv_icmp_eq (tgt := 1005) hx hb dL_law_575 (by decide) (fun _ => kk _ _ _ hR hP hS) (fun c9 => absurd er c9)
