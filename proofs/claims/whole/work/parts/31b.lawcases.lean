/-! ===== the law: its cases ===== -/
set_option maxRecDepth 100000 in
set_option maxHeartbeats 4000000 in
theorem lw_c2 {p : Program} {l : Launch} {e : Env} {s : State} {m : MethodId} {below : List Frame} {meth : Method} {c : Code} {b L a o z i : Nat} {xs : Nat → Int32} {G : xG} {ls : Array Slot} {H : Heap} {locs : List Loc} {Q : State → Prop} (S : CallFix p m c cL_law 4 s #[Value.ref b] wsL_law RL) (hKC : KC2 G z s) (hX : va_X b L xs s s.heap) (hzs : s.heap.size = z) (hbl : b < z) (ha : z ≤ a) (ho : a + 230 ≤ o) (hj : i + 7 ≤ L) (hN : L ≤ 3584) (hL : ∀ q ∈ locs, z ≤ q.base) (hW : WD G a o z s H) (hl : lv_has ls 4 [(0, .ref b), (1, .ref a), (2, .ref o), (3, .int (nI i))])
    (kk : ∀ (H1 : Heap) (locs1 : List Loc), (∀ q ∈ locs1, z ≤ q.base) → WD G a o z s H1 → W p l e room_1 s m #[Value.ref b] below meth c H1 locs1 235 9009 Q (F0 m 912 ls [])) : W p l e room_1 s m #[Value.ref b] below meth c H locs 235 9009 Q (F0 m 198 ls []) := by
  obtain ⟨dv, v, hv, kv, tv, rv, vt, fv, wv, M, h_hl, h_bk, h_hs, h_hu, h_tx, h_tr, h_tb, h_tw, h_ws, h_md, r, h, ht, hc, hsh, hz0, hsz⟩ := hW
  have hK := hKC.1
  obtain ⟨hx, hb, hml, hown, hts⟩ := id S
  obtain ⟨r0, v', hv', kv', M', e7, e8, r1, h1, m4, m0⟩ := s_pay r h dv (xs (i + 1)) (xs (i + 2))
  refine lv_aload_n hx hb dL_law_198 rfl (lv_at hl 1 rfl) ?_
  refine x_arg S hl 0 3 rfl rfl hX hzs hbl hz0 hsz hL 1 (by decide) (by omega) hN dL_law_199 dL_law_200 dL_law_201 dL_law_202 dL_law_203 ?_
  refine x_arg S hl 0 3 rfl rfl hX hzs hbl hz0 hsz hL 2 (by decide) (by omega) hN dL_law_204 dL_law_205 dL_law_206 dL_law_207 dL_law_208 ?_
  refine x_callVi (As := [.int (xs (i + 1)), .int (xs (i + 2))]) (rest := []) S hK (c_X7_pay l G z a dv v hv kv (xs (i + 1)) (xs (i + 2)) r0 v' hv' kv' (by omega) (by omega) e7) gL_law_X7_pay rfl 2 (by decide +kernel) rfl ⟨Nat.le_of_ble_eq_true rfl, Nat.le_of_ble_eq_true rfl⟩ h_hl 0 (by decide) rfl rfl rfl ⟨h_hl, h_bk, h_hs, h_hu⟩ hl.1 rfl (Nat.le_of_ble_eq_true rfl) dL_law_209 hL ⟨Nat.le_of_ble_eq_true rfl, Nat.le_of_ble_eq_true rfl⟩ (fun H1 locs hL hpost => ?_)
  obtain ⟨n_bk, n_hs, n_hu, hfr⟩ := hpost
  have h_hl := h_hl.kept hfr (fun q h1 h2 h3 => by (try dsimp only at h3); omega)
  have h_bk := n_bk
  have h_hs := n_hs
  have h_hu := n_hu
  have h_tx := h_tx.kept hfr (fun q h1 h2 h3 => by (try dsimp only at h3); omega)
  have h_tr := h_tr.kept hfr (fun q h1 h2 h3 => by (try dsimp only at h3); omega)
  have h_tb := h_tb.kept hfr (fun q h1 h2 h3 => by (try dsimp only at h3); omega)
  have h_tw := h_tw.kept hfr (fun q h1 h2 h3 => by (try dsimp only at h3); omega)
  have h_ws := h_ws.kept hfr (fun q h1 h2 h3 => by (try dsimp only at h3); omega)
  have h_md := h_md.kept hfr (fun q h1 h2 h3 => by (try dsimp only at h3); omega)
  have hz0 : ∀ q, q < z → H1[q]? = s.heap[q]? := fun q hq => (hfr.2 q (fun h3 => by (try dsimp only at h3); omega)).trans (hz0 q hq)
  have hsz : s.heap.size ≤ H1.size := hfr.1 ▸ hsz
  refine lv_aload_n hx hb dL_law_212 rfl (lv_at hl 2 rfl) ?_
  refine x_arg S hl 0 3 rfl rfl hX hzs hbl hz0 hsz hL 1 (by decide) (by omega) hN dL_law_213 dL_law_214 dL_law_215 dL_law_216 dL_law_217 ?_
  refine x_arg S hl 0 3 rfl rfl hX hzs hbl hz0 hsz hL 2 (by decide) (by omega) hN dL_law_218 dL_law_219 dL_law_220 dL_law_221 dL_law_222 ?_
  refine x_callVi (As := [.int (xs (i + 1)), .int (xs (i + 2))]) (rest := [.int r0]) S hK (c_X8_pay l G z o M (xs (i + 1)) (xs (i + 2)) r0 M' (by omega) e8) gL_law_X8_pay rfl 2 (by decide +kernel) rfl ⟨Nat.le_of_ble_eq_true rfl, Nat.le_of_ble_eq_true rfl⟩ h_md 0 (by decide) rfl rfl rfl h_md hl.1 rfl (Nat.le_of_ble_eq_true rfl) dL_law_223 hL ⟨Nat.le_of_ble_eq_true rfl, Nat.le_of_ble_eq_true rfl⟩ (fun H1 locs hL hpost => ?_)
  obtain ⟨n_md, hfr⟩ := hpost
  have h_md := n_md
  have h_hl := h_hl.kept hfr (fun q h1 h2 h3 => by (try dsimp only at h3); omega)
  have h_bk := h_bk.kept hfr (fun q h1 h2 h3 => by (try dsimp only at h3); omega)
  have h_hs := h_hs.kept hfr (fun q h1 h2 h3 => by (try dsimp only at h3); omega)
  have h_hu := h_hu.kept hfr (fun q h1 h2 h3 => by (try dsimp only at h3); omega)
  have h_tx := h_tx.kept hfr (fun q h1 h2 h3 => by (try dsimp only at h3); omega)
  have h_tr := h_tr.kept hfr (fun q h1 h2 h3 => by (try dsimp only at h3); omega)
  have h_tb := h_tb.kept hfr (fun q h1 h2 h3 => by (try dsimp only at h3); omega)
  have h_tw := h_tw.kept hfr (fun q h1 h2 h3 => by (try dsimp only at h3); omega)
  have h_ws := h_ws.kept hfr (fun q h1 h2 h3 => by (try dsimp only at h3); omega)
  have hz0 : ∀ q, q < z → H1[q]? = s.heap[q]? := fun q hq => (hfr.2 q (fun h3 => by (try dsimp only at h3); omega)).trans (hz0 q hq)
  have hsz : s.heap.size ≤ H1.size := hfr.1 ▸ hsz
  refine lv_icmp_eq (tgt := 912) hx hb dL_law_226 (by decide) (fun _ => ?_) (fun cc1 => absurd rfl cc1)
  exact kk _ _ hL ⟨dv, v', hv', kv', tv, rv, vt, fv, wv, M', h_hl, h_bk, h_hs, h_hu, h_tx, h_tr, h_tb, h_tw, h_ws, h_md, r1, h1, (ht.cong rfl rfl (m0 6 (by decide)) m4), (CR.cong hc rfl (m0 4 (by decide))), hsh, hz0, hsz⟩

set_option maxRecDepth 100000 in
set_option maxHeartbeats 4000000 in
theorem lw_c3 {p : Program} {l : Launch} {e : Env} {s : State} {m : MethodId} {below : List Frame} {meth : Method} {c : Code} {b L a o z i : Nat} {xs : Nat → Int32} {G : xG} {ls : Array Slot} {H : Heap} {locs : List Loc} {Q : State → Prop} (S : CallFix p m c cL_law 4 s #[Value.ref b] wsL_law RL) (hKC : KC2 G z s) (hX : va_X b L xs s s.heap) (hzs : s.heap.size = z) (hbl : b < z) (ha : z ≤ a) (ho : a + 230 ≤ o) (hj : i + 7 ≤ L) (hN : L ≤ 3584) (hL : ∀ q ∈ locs, z ≤ q.base) (hW : WD G a o z s H) (hl : lv_has ls 4 [(0, .ref b), (1, .ref a), (2, .ref o), (3, .int (nI i))])
    (kk : ∀ (H1 : Heap) (locs1 : List Loc), (∀ q ∈ locs1, z ≤ q.base) → WD G a o z s H1 → W p l e room_1 s m #[Value.ref b] below meth c H1 locs1 235 9009 Q (F0 m 912 ls [])) : W p l e room_1 s m #[Value.ref b] below meth c H locs 235 9009 Q (F0 m 231 ls []) := by
  obtain ⟨dv, v, hv, kv, tv, rv, vt, fv, wv, M, h_hl, h_bk, h_hs, h_hu, h_tx, h_tr, h_tb, h_tw, h_ws, h_md, r, h, ht, hc, hsh, hz0, hsz⟩ := hW
  have hK := hKC.1
  obtain ⟨hx, hb, hml, hown, hts⟩ := id S
  obtain ⟨r0, v', hv', kv', M', e7, e8, r1, h1, m4, m0⟩ := s_set r h dv (xs (i + 1)) (xs (i + 2))
  refine lv_aload_n hx hb dL_law_231 rfl (lv_at hl 1 rfl) ?_
  refine x_arg S hl 0 3 rfl rfl hX hzs hbl hz0 hsz hL 1 (by decide) (by omega) hN dL_law_232 dL_law_233 dL_law_234 dL_law_235 dL_law_236 ?_
  refine x_arg S hl 0 3 rfl rfl hX hzs hbl hz0 hsz hL 2 (by decide) (by omega) hN dL_law_237 dL_law_238 dL_law_239 dL_law_240 dL_law_241 ?_
  refine x_callVK (As := [.int (xs (i + 1)), .int (xs (i + 2))]) (rest := []) S hK (fun U hU hW => hKC.go hz0 hU hW) (fun U g mk q h => h.calling) (c2_X7_set l G z a dv v hv kv (xs (i + 1)) (xs (i + 2)) r0 v' hv' kv' (by omega) (by omega) e7) gL_law_X7_set rfl 2 (by decide +kernel) rfl ⟨Nat.le_of_ble_eq_true rfl, Nat.le_of_ble_eq_true rfl⟩ h_hl 0 (by decide) rfl rfl rfl ⟨h_hl, h_bk, h_hs, h_hu⟩ hl.1 rfl (Nat.le_of_ble_eq_true rfl) dL_law_242 hL ⟨Nat.le_of_ble_eq_true rfl, Nat.le_of_ble_eq_true rfl⟩ (fun H1 locs hL hpost => ?_)
  obtain ⟨n_bk, n_hs, n_hu, hfr⟩ := hpost
  have h_hl := h_hl.kept hfr (fun q h1 h2 h3 => by (try dsimp only at h3); omega)
  have h_bk := n_bk
  have h_hs := n_hs
  have h_hu := n_hu
  have h_tx := h_tx.kept hfr (fun q h1 h2 h3 => by (try dsimp only at h3); omega)
  have h_tr := h_tr.kept hfr (fun q h1 h2 h3 => by (try dsimp only at h3); omega)
  have h_tb := h_tb.kept hfr (fun q h1 h2 h3 => by (try dsimp only at h3); omega)
  have h_tw := h_tw.kept hfr (fun q h1 h2 h3 => by (try dsimp only at h3); omega)
  have h_ws := h_ws.kept hfr (fun q h1 h2 h3 => by (try dsimp only at h3); omega)
  have h_md := h_md.kept hfr (fun q h1 h2 h3 => by (try dsimp only at h3); omega)
  have hz0 : ∀ q, q < z → H1[q]? = s.heap[q]? := fun q hq => (hfr.2 q (fun h3 => by (try dsimp only at h3); omega)).trans (hz0 q hq)
  have hsz : s.heap.size ≤ H1.size := hfr.1 ▸ hsz
  refine lv_aload_n hx hb dL_law_245 rfl (lv_at hl 2 rfl) ?_
  refine x_arg S hl 0 3 rfl rfl hX hzs hbl hz0 hsz hL 1 (by decide) (by omega) hN dL_law_246 dL_law_247 dL_law_248 dL_law_249 dL_law_250 ?_
  refine x_arg S hl 0 3 rfl rfl hX hzs hbl hz0 hsz hL 2 (by decide) (by omega) hN dL_law_251 dL_law_252 dL_law_253 dL_law_254 dL_law_255 ?_
  refine x_callVi (As := [.int (xs (i + 1)), .int (xs (i + 2))]) (rest := [.int r0]) S hK (c_X8_set l G z o M (xs (i + 1)) (xs (i + 2)) r0 M' (by omega) e8) gL_law_X8_set rfl 2 (by decide +kernel) rfl ⟨Nat.le_of_ble_eq_true rfl, Nat.le_of_ble_eq_true rfl⟩ h_md 0 (by decide) rfl rfl rfl h_md hl.1 rfl (Nat.le_of_ble_eq_true rfl) dL_law_256 hL ⟨Nat.le_of_ble_eq_true rfl, Nat.le_of_ble_eq_true rfl⟩ (fun H1 locs hL hpost => ?_)
  obtain ⟨n_md, hfr⟩ := hpost
  have h_md := n_md
  have h_hl := h_hl.kept hfr (fun q h1 h2 h3 => by (try dsimp only at h3); omega)
  have h_bk := h_bk.kept hfr (fun q h1 h2 h3 => by (try dsimp only at h3); omega)
  have h_hs := h_hs.kept hfr (fun q h1 h2 h3 => by (try dsimp only at h3); omega)
  have h_hu := h_hu.kept hfr (fun q h1 h2 h3 => by (try dsimp only at h3); omega)
  have h_tx := h_tx.kept hfr (fun q h1 h2 h3 => by (try dsimp only at h3); omega)
  have h_tr := h_tr.kept hfr (fun q h1 h2 h3 => by (try dsimp only at h3); omega)
  have h_tb := h_tb.kept hfr (fun q h1 h2 h3 => by (try dsimp only at h3); omega)
  have h_tw := h_tw.kept hfr (fun q h1 h2 h3 => by (try dsimp only at h3); omega)
  have h_ws := h_ws.kept hfr (fun q h1 h2 h3 => by (try dsimp only at h3); omega)
  have hz0 : ∀ q, q < z → H1[q]? = s.heap[q]? := fun q hq => (hfr.2 q (fun h3 => by (try dsimp only at h3); omega)).trans (hz0 q hq)
  have hsz : s.heap.size ≤ H1.size := hfr.1 ▸ hsz
  refine lv_icmp_eq (tgt := 912) hx hb dL_law_259 (by decide) (fun _ => ?_) (fun cc1 => absurd rfl cc1)
  exact kk _ _ hL ⟨dv, v', hv', kv', tv, rv, vt, fv, wv, M', h_hl, h_bk, h_hs, h_hu, h_tx, h_tr, h_tb, h_tw, h_ws, h_md, r1, h1, (ht.cong rfl rfl (m0 6 (by decide)) m4), (CR.cong hc rfl (m0 4 (by decide))), hsh, hz0, hsz⟩

set_option maxRecDepth 100000 in
set_option maxHeartbeats 4000000 in
theorem lw_c4 {p : Program} {l : Launch} {e : Env} {s : State} {m : MethodId} {below : List Frame} {meth : Method} {c : Code} {b L a o z i : Nat} {xs : Nat → Int32} {G : xG} {ls : Array Slot} {H : Heap} {locs : List Loc} {Q : State → Prop} (S : CallFix p m c cL_law 4 s #[Value.ref b] wsL_law RL) (hKC : KC2 G z s) (hX : va_X b L xs s s.heap) (hzs : s.heap.size = z) (hbl : b < z) (ha : z ≤ a) (ho : a + 230 ≤ o) (hj : i + 7 ≤ L) (hN : L ≤ 3584) (hL : ∀ q ∈ locs, z ≤ q.base) (hW : WD G a o z s H) (hl : lv_has ls 4 [(0, .ref b), (1, .ref a), (2, .ref o), (3, .int (nI i))])
    (kk : ∀ (H1 : Heap) (locs1 : List Loc), (∀ q ∈ locs1, z ≤ q.base) → WD G a o z s H1 → W p l e room_1 s m #[Value.ref b] below meth c H1 locs1 235 9009 Q (F0 m 912 ls [])) : W p l e room_1 s m #[Value.ref b] below meth c H locs 235 9009 Q (F0 m 264 ls []) := by
  obtain ⟨dv, v, hv, kv, tv, rv, vt, fv, wv, M, h_hl, h_bk, h_hs, h_hu, h_tx, h_tr, h_tb, h_tw, h_ws, h_md, r, h, ht, hc, hsh, hz0, hsz⟩ := hW
  have hK := hKC.1
  obtain ⟨hx, hb, hml, hown, hts⟩ := id S
  obtain ⟨r0, dv', v', hv', kv', wv', M', e7, e8, r1, h1, c1, m4, m6⟩ := s_hire r h hc wv (xs (i + 1)) (xs (i + 2)) (xs (i + 3)) (xs (i + 4)) (xs (i + 5)) (xs (i + 6))
  refine lv_aload_n hx hb dL_law_264 rfl (lv_at hl 1 rfl) ?_
  refine x_arg S hl 0 3 rfl rfl hX hzs hbl hz0 hsz hL 1 (by decide) (by omega) hN dL_law_265 dL_law_266 dL_law_267 dL_law_268 dL_law_269 ?_
  refine x_arg S hl 0 3 rfl rfl hX hzs hbl hz0 hsz hL 2 (by decide) (by omega) hN dL_law_270 dL_law_271 dL_law_272 dL_law_273 dL_law_274 ?_
  refine x_arg S hl 0 3 rfl rfl hX hzs hbl hz0 hsz hL 3 (by decide) (by omega) hN dL_law_275 dL_law_276 dL_law_277 dL_law_278 dL_law_279 ?_
  refine x_arg S hl 0 3 rfl rfl hX hzs hbl hz0 hsz hL 4 (by decide) (by omega) hN dL_law_280 dL_law_281 dL_law_282 dL_law_283 dL_law_284 ?_
  refine x_arg S hl 0 3 rfl rfl hX hzs hbl hz0 hsz hL 5 (by decide) (by omega) hN dL_law_285 dL_law_286 dL_law_287 dL_law_288 dL_law_289 ?_
  refine x_argB S hl 0 3 rfl rfl hX hzs hbl hz0 hsz hL 6 (by decide) (by omega) hN dL_law_290 dL_law_291 dL_law_292 dL_law_294 dL_law_295 ?_
  refine x_callVi (As := [.int (xs (i + 1)), .int (xs (i + 2)), .int (xs (i + 3)), .int (xs (i + 4)), .int (xs (i + 5)), .int (xs (i + 6))]) (rest := []) S hK (c_X7_hire l G z a dv v hv kv wv (xs (i + 1)) (xs (i + 2)) (xs (i + 3)) (xs (i + 4)) (xs (i + 5)) (xs (i + 6)) r0 dv' v' hv' kv' wv' (by omega) (by omega) (by omega) (by omega) e7) gL_law_X7_hire rfl 6 (by decide +kernel) rfl ⟨Nat.le_of_ble_eq_true rfl, Nat.le_of_ble_eq_true rfl⟩ h_hl 0 (by decide) rfl rfl rfl ⟨h_hl, h_bk, h_hs, h_hu, h_ws⟩ hl.1 rfl (Nat.le_of_ble_eq_true rfl) dL_law_296 hL ⟨Nat.le_of_ble_eq_true rfl, Nat.le_of_ble_eq_true rfl⟩ (fun H1 locs hL hpost => ?_)
  obtain ⟨n_hl, n_bk, n_hs, n_hu, n_ws, hfr⟩ := hpost
  have h_hl := n_hl
  have h_bk := n_bk
  have h_hs := n_hs
  have h_hu := n_hu
  have h_tx := h_tx.kept hfr (fun q h1 h2 h3 => by (try dsimp only at h3); omega)
  have h_tr := h_tr.kept hfr (fun q h1 h2 h3 => by (try dsimp only at h3); omega)
  have h_tb := h_tb.kept hfr (fun q h1 h2 h3 => by (try dsimp only at h3); omega)
  have h_tw := h_tw.kept hfr (fun q h1 h2 h3 => by (try dsimp only at h3); omega)
  have h_ws := n_ws
  have h_md := h_md.kept hfr (fun q h1 h2 h3 => by (try dsimp only at h3); omega)
  have hz0 : ∀ q, q < z → H1[q]? = s.heap[q]? := fun q hq => (hfr.2 q (fun h3 => by (try dsimp only at h3); omega)).trans (hz0 q hq)
  have hsz : s.heap.size ≤ H1.size := hfr.1 ▸ hsz
  refine lv_aload_n hx hb dL_law_299 rfl (lv_at hl 2 rfl) ?_
  refine x_arg S hl 0 3 rfl rfl hX hzs hbl hz0 hsz hL 1 (by decide) (by omega) hN dL_law_300 dL_law_301 dL_law_302 dL_law_303 dL_law_304 ?_
  refine x_arg S hl 0 3 rfl rfl hX hzs hbl hz0 hsz hL 2 (by decide) (by omega) hN dL_law_305 dL_law_306 dL_law_307 dL_law_308 dL_law_309 ?_
  refine x_arg S hl 0 3 rfl rfl hX hzs hbl hz0 hsz hL 3 (by decide) (by omega) hN dL_law_310 dL_law_311 dL_law_312 dL_law_313 dL_law_314 ?_
  refine x_arg S hl 0 3 rfl rfl hX hzs hbl hz0 hsz hL 4 (by decide) (by omega) hN dL_law_315 dL_law_316 dL_law_317 dL_law_318 dL_law_319 ?_
  refine x_arg S hl 0 3 rfl rfl hX hzs hbl hz0 hsz hL 5 (by decide) (by omega) hN dL_law_320 dL_law_321 dL_law_322 dL_law_323 dL_law_324 ?_
  refine x_argB S hl 0 3 rfl rfl hX hzs hbl hz0 hsz hL 6 (by decide) (by omega) hN dL_law_325 dL_law_326 dL_law_327 dL_law_329 dL_law_330 ?_
  refine x_callVi (As := [.int (xs (i + 1)), .int (xs (i + 2)), .int (xs (i + 3)), .int (xs (i + 4)), .int (xs (i + 5)), .int (xs (i + 6))]) (rest := [.int r0]) S hK (c_X8_hire l G z o M (xs (i + 1)) (xs (i + 2)) (xs (i + 3)) (xs (i + 4)) (xs (i + 5)) (xs (i + 6)) r0 M' (by omega) e8) gL_law_X8_hire rfl 6 (by decide +kernel) rfl ⟨Nat.le_of_ble_eq_true rfl, Nat.le_of_ble_eq_true rfl⟩ h_md 0 (by decide) rfl rfl rfl h_md hl.1 rfl (Nat.le_of_ble_eq_true rfl) dL_law_331 hL ⟨Nat.le_of_ble_eq_true rfl, Nat.le_of_ble_eq_true rfl⟩ (fun H1 locs hL hpost => ?_)
  obtain ⟨n_md, hfr⟩ := hpost
  have h_md := n_md
  have h_hl := h_hl.kept hfr (fun q h1 h2 h3 => by (try dsimp only at h3); omega)
  have h_bk := h_bk.kept hfr (fun q h1 h2 h3 => by (try dsimp only at h3); omega)
  have h_hs := h_hs.kept hfr (fun q h1 h2 h3 => by (try dsimp only at h3); omega)
  have h_hu := h_hu.kept hfr (fun q h1 h2 h3 => by (try dsimp only at h3); omega)
  have h_tx := h_tx.kept hfr (fun q h1 h2 h3 => by (try dsimp only at h3); omega)
  have h_tr := h_tr.kept hfr (fun q h1 h2 h3 => by (try dsimp only at h3); omega)
  have h_tb := h_tb.kept hfr (fun q h1 h2 h3 => by (try dsimp only at h3); omega)
  have h_tw := h_tw.kept hfr (fun q h1 h2 h3 => by (try dsimp only at h3); omega)
  have h_ws := h_ws.kept hfr (fun q h1 h2 h3 => by (try dsimp only at h3); omega)
  have hz0 : ∀ q, q < z → H1[q]? = s.heap[q]? := fun q hq => (hfr.2 q (fun h3 => by (try dsimp only at h3); omega)).trans (hz0 q hq)
  have hsz : s.heap.size ≤ H1.size := hfr.1 ▸ hsz
  refine lv_icmp_eq (tgt := 912) hx hb dL_law_334 (by decide) (fun _ => ?_) (fun cc1 => absurd rfl cc1)
  exact kk _ _ hL ⟨dv', v', hv', kv', tv, rv, vt, fv, wv', M', h_hl, h_bk, h_hs, h_hu, h_tx, h_tr, h_tb, h_tw, h_ws, h_md, r1, h1, (ht.cong rfl rfl m6 m4), c1, hsh, hz0, hsz⟩

set_option maxRecDepth 100000 in
set_option maxHeartbeats 4000000 in
theorem lw_c5 {p : Program} {l : Launch} {e : Env} {s : State} {m : MethodId} {below : List Frame} {meth : Method} {c : Code} {b L a o z i : Nat} {xs : Nat → Int32} {G : xG} {ls : Array Slot} {H : Heap} {locs : List Loc} {Q : State → Prop} (S : CallFix p m c cL_law 4 s #[Value.ref b] wsL_law RL) (hKC : KC2 G z s) (hX : va_X b L xs s s.heap) (hzs : s.heap.size = z) (hbl : b < z) (ha : z ≤ a) (ho : a + 230 ≤ o) (hj : i + 7 ≤ L) (hN : L ≤ 3584) (hL : ∀ q ∈ locs, z ≤ q.base) (hW : WD G a o z s H) (hl : lv_has ls 4 [(0, .ref b), (1, .ref a), (2, .ref o), (3, .int (nI i))])
    (kk : ∀ (H1 : Heap) (locs1 : List Loc), (∀ q ∈ locs1, z ≤ q.base) → WD G a o z s H1 → W p l e room_1 s m #[Value.ref b] below meth c H1 locs1 235 9009 Q (F0 m 912 ls [])) : W p l e room_1 s m #[Value.ref b] below meth c H locs 235 9009 Q (F0 m 339 ls []) := by
  obtain ⟨dv, v, hv, kv, tv, rv, vt, fv, wv, M, h_hl, h_bk, h_hs, h_hu, h_tx, h_tr, h_tb, h_tw, h_ws, h_md, r, h, ht, hc, hsh, hz0, hsz⟩ := hW
  have hK := hKC.1
  obtain ⟨hx, hb, hml, hown, hts⟩ := id S
  obtain ⟨r0, e7, e8⟩ := s_clash hc
  refine lv_aload_n hx hb dL_law_339 rfl (lv_at hl 1 rfl) ?_
  refine x_callVi (As := []) (rest := []) S hK (c_X7_clash l G z a dv r0 e7) gL_law_X7_clash rfl 0 (by decide +kernel) rfl ⟨Nat.le_of_ble_eq_true rfl, Nat.le_of_ble_eq_true rfl⟩ h_hl 0 (by decide) rfl rfl rfl h_hl hl.1 rfl (Nat.le_of_ble_eq_true rfl) dL_law_340 hL ⟨Nat.le_of_ble_eq_true rfl, Nat.le_of_ble_eq_true rfl⟩ (fun H1 locs hL hpost => ?_)
  subst hpost
  refine lv_aload_n hx hb dL_law_343 rfl (lv_at hl 2 rfl) ?_
  refine x_callVi (As := []) (rest := [.int r0]) S hK (c_X8_clash l G z o M r0 e8) gL_law_X8_clash rfl 0 (by decide +kernel) rfl ⟨Nat.le_of_ble_eq_true rfl, Nat.le_of_ble_eq_true rfl⟩ h_md 0 (by decide) rfl rfl rfl h_md hl.1 rfl (Nat.le_of_ble_eq_true rfl) dL_law_344 hL ⟨Nat.le_of_ble_eq_true rfl, Nat.le_of_ble_eq_true rfl⟩ (fun H1 locs hL hpost => ?_)
  subst hpost
  refine lv_icmp_eq (tgt := 912) hx hb dL_law_347 (by decide) (fun _ => ?_) (fun cc1 => absurd rfl cc1)
  exact kk _ _ hL ⟨dv, v, hv, kv, tv, rv, vt, fv, wv, M, h_hl, h_bk, h_hs, h_hu, h_tx, h_tr, h_tb, h_tw, h_ws, h_md, r, h, ht, hc, hsh, hz0, hsz⟩

set_option maxRecDepth 100000 in
set_option maxHeartbeats 4000000 in
theorem lw_c6 {p : Program} {l : Launch} {e : Env} {s : State} {m : MethodId} {below : List Frame} {meth : Method} {c : Code} {b L a o z i : Nat} {xs : Nat → Int32} {G : xG} {ls : Array Slot} {H : Heap} {locs : List Loc} {Q : State → Prop} (S : CallFix p m c cL_law 4 s #[Value.ref b] wsL_law RL) (hKC : KC2 G z s) (hX : va_X b L xs s s.heap) (hzs : s.heap.size = z) (hbl : b < z) (ha : z ≤ a) (ho : a + 230 ≤ o) (hj : i + 7 ≤ L) (hN : L ≤ 3584) (hL : ∀ q ∈ locs, z ≤ q.base) (hW : WD G a o z s H) (hl : lv_has ls 4 [(0, .ref b), (1, .ref a), (2, .ref o), (3, .int (nI i))])
    (kk : ∀ (H1 : Heap) (locs1 : List Loc), (∀ q ∈ locs1, z ≤ q.base) → WD G a o z s H1 → W p l e room_1 s m #[Value.ref b] below meth c H1 locs1 235 9009 Q (F0 m 912 ls [])) : W p l e room_1 s m #[Value.ref b] below meth c H locs 235 9009 Q (F0 m 352 ls []) := by
  obtain ⟨dv, v, hv, kv, tv, rv, vt, fv, wv, M, h_hl, h_bk, h_hs, h_hu, h_tx, h_tr, h_tb, h_tw, h_ws, h_md, r, h, ht, hc, hsh, hz0, hsz⟩ := hW
  have hK := hKC.1
  obtain ⟨hx, hb, hml, hown, hts⟩ := id S
  obtain ⟨r0, e7, e8⟩ := s_hireInfo r dv (xs (i + 1)) (xs (i + 2))
  refine lv_aload_n hx hb dL_law_352 rfl (lv_at hl 1 rfl) ?_
  refine x_arg S hl 0 3 rfl rfl hX hzs hbl hz0 hsz hL 1 (by decide) (by omega) hN dL_law_353 dL_law_354 dL_law_355 dL_law_356 dL_law_357 ?_
  refine x_arg S hl 0 3 rfl rfl hX hzs hbl hz0 hsz hL 2 (by decide) (by omega) hN dL_law_358 dL_law_359 dL_law_360 dL_law_361 dL_law_362 ?_
  refine x_callVi (As := [.int (xs (i + 1)), .int (xs (i + 2))]) (rest := []) S hK (c_X7_hireInfo l G z a dv v (xs (i + 1)) (xs (i + 2)) r0 e7) gL_law_X7_hireInfo rfl 2 (by decide +kernel) rfl ⟨Nat.le_of_ble_eq_true rfl, Nat.le_of_ble_eq_true rfl⟩ h_hl 0 (by decide) rfl rfl rfl ⟨h_hl, h_bk⟩ hl.1 rfl (Nat.le_of_ble_eq_true rfl) dL_law_363 hL ⟨Nat.le_of_ble_eq_true rfl, Nat.le_of_ble_eq_true rfl⟩ (fun H1 locs hL hpost => ?_)
  subst hpost
  refine lv_aload_n hx hb dL_law_366 rfl (lv_at hl 2 rfl) ?_
  refine x_arg S hl 0 3 rfl rfl hX hzs hbl hz0 hsz hL 1 (by decide) (by omega) hN dL_law_367 dL_law_368 dL_law_369 dL_law_370 dL_law_371 ?_
  refine x_arg S hl 0 3 rfl rfl hX hzs hbl hz0 hsz hL 2 (by decide) (by omega) hN dL_law_372 dL_law_373 dL_law_374 dL_law_375 dL_law_376 ?_
  refine x_callVi (As := [.int (xs (i + 1)), .int (xs (i + 2))]) (rest := [.int r0]) S hK (c_X8_hireInfo l G z o M (xs (i + 1)) (xs (i + 2)) r0 e8) gL_law_X8_hireInfo rfl 2 (by decide +kernel) rfl ⟨Nat.le_of_ble_eq_true rfl, Nat.le_of_ble_eq_true rfl⟩ h_md 0 (by decide) rfl rfl rfl h_md hl.1 rfl (Nat.le_of_ble_eq_true rfl) dL_law_377 hL ⟨Nat.le_of_ble_eq_true rfl, Nat.le_of_ble_eq_true rfl⟩ (fun H1 locs hL hpost => ?_)
  subst hpost
  refine lv_icmp_eq (tgt := 912) hx hb dL_law_380 (by decide) (fun _ => ?_) (fun cc1 => absurd rfl cc1)
  exact kk _ _ hL ⟨dv, v, hv, kv, tv, rv, vt, fv, wv, M, h_hl, h_bk, h_hs, h_hu, h_tx, h_tr, h_tb, h_tw, h_ws, h_md, r, h, ht, hc, hsh, hz0, hsz⟩

set_option maxRecDepth 100000 in
set_option maxHeartbeats 4000000 in
theorem lw_c7 {p : Program} {l : Launch} {e : Env} {s : State} {m : MethodId} {below : List Frame} {meth : Method} {c : Code} {b L a o z i : Nat} {xs : Nat → Int32} {G : xG} {ls : Array Slot} {H : Heap} {locs : List Loc} {Q : State → Prop} (S : CallFix p m c cL_law 4 s #[Value.ref b] wsL_law RL) (hKC : KC2 G z s) (hX : va_X b L xs s s.heap) (hzs : s.heap.size = z) (hbl : b < z) (ha : z ≤ a) (ho : a + 230 ≤ o) (hj : i + 7 ≤ L) (hN : L ≤ 3584) (hL : ∀ q ∈ locs, z ≤ q.base) (hW : WD G a o z s H) (hl : lv_has ls 4 [(0, .ref b), (1, .ref a), (2, .ref o), (3, .int (nI i))])
    (kk : ∀ (H1 : Heap) (locs1 : List Loc), (∀ q ∈ locs1, z ≤ q.base) → WD G a o z s H1 → W p l e room_1 s m #[Value.ref b] below meth c H1 locs1 235 9009 Q (F0 m 912 ls [])) : W p l e room_1 s m #[Value.ref b] below meth c H locs 235 9009 Q (F0 m 385 ls []) := by
  obtain ⟨dv, v, hv, kv, tv, rv, vt, fv, wv, M, h_hl, h_bk, h_hs, h_hu, h_tx, h_tr, h_tb, h_tw, h_ws, h_md, r, h, ht, hc, hsh, hz0, hsz⟩ := hW
  have hK := hKC.1
  obtain ⟨hx, hb, hml, hown, hts⟩ := id S
  obtain ⟨r0, e7, e8⟩ := s_session r dv (xs (i + 1)) (xs (i + 2))
  refine lv_aload_n hx hb dL_law_385 rfl (lv_at hl 1 rfl) ?_
  refine x_arg S hl 0 3 rfl rfl hX hzs hbl hz0 hsz hL 1 (by decide) (by omega) hN dL_law_386 dL_law_387 dL_law_388 dL_law_389 dL_law_390 ?_
  refine x_arg S hl 0 3 rfl rfl hX hzs hbl hz0 hsz hL 2 (by decide) (by omega) hN dL_law_391 dL_law_392 dL_law_393 dL_law_394 dL_law_395 ?_
  refine x_callVi (As := [.int (xs (i + 1)), .int (xs (i + 2))]) (rest := []) S hK (c_X7_session l G z a dv v (xs (i + 1)) (xs (i + 2)) r0 e7) gL_law_X7_session rfl 2 (by decide +kernel) rfl ⟨Nat.le_of_ble_eq_true rfl, Nat.le_of_ble_eq_true rfl⟩ h_hl 0 (by decide) rfl rfl rfl ⟨h_hl, h_bk⟩ hl.1 rfl (Nat.le_of_ble_eq_true rfl) dL_law_396 hL ⟨Nat.le_of_ble_eq_true rfl, Nat.le_of_ble_eq_true rfl⟩ (fun H1 locs hL hpost => ?_)
  subst hpost
  refine lv_aload_n hx hb dL_law_399 rfl (lv_at hl 2 rfl) ?_
  refine x_arg S hl 0 3 rfl rfl hX hzs hbl hz0 hsz hL 1 (by decide) (by omega) hN dL_law_400 dL_law_401 dL_law_402 dL_law_403 dL_law_404 ?_
  refine x_arg S hl 0 3 rfl rfl hX hzs hbl hz0 hsz hL 2 (by decide) (by omega) hN dL_law_405 dL_law_406 dL_law_407 dL_law_408 dL_law_409 ?_
  refine x_callVi (As := [.int (xs (i + 1)), .int (xs (i + 2))]) (rest := [.int r0]) S hK (c_X8_session l G z o M (xs (i + 1)) (xs (i + 2)) r0 e8) gL_law_X8_session rfl 2 (by decide +kernel) rfl ⟨Nat.le_of_ble_eq_true rfl, Nat.le_of_ble_eq_true rfl⟩ h_md 0 (by decide) rfl rfl rfl h_md hl.1 rfl (Nat.le_of_ble_eq_true rfl) dL_law_410 hL ⟨Nat.le_of_ble_eq_true rfl, Nat.le_of_ble_eq_true rfl⟩ (fun H1 locs hL hpost => ?_)
  subst hpost
  refine lv_icmp_eq (tgt := 912) hx hb dL_law_413 (by decide) (fun _ => ?_) (fun cc1 => absurd rfl cc1)
  exact kk _ _ hL ⟨dv, v, hv, kv, tv, rv, vt, fv, wv, M, h_hl, h_bk, h_hs, h_hu, h_tx, h_tr, h_tb, h_tw, h_ws, h_md, r, h, ht, hc, hsh, hz0, hsz⟩

set_option maxRecDepth 100000 in
set_option maxHeartbeats 4000000 in
theorem lw_c8 {p : Program} {l : Launch} {e : Env} {s : State} {m : MethodId} {below : List Frame} {meth : Method} {c : Code} {b L a o z i : Nat} {xs : Nat → Int32} {G : xG} {ls : Array Slot} {H : Heap} {locs : List Loc} {Q : State → Prop} (S : CallFix p m c cL_law 4 s #[Value.ref b] wsL_law RL) (hKC : KC2 G z s) (hX : va_X b L xs s s.heap) (hzs : s.heap.size = z) (hbl : b < z) (ha : z ≤ a) (ho : a + 230 ≤ o) (hj : i + 7 ≤ L) (hN : L ≤ 3584) (hL : ∀ q ∈ locs, z ≤ q.base) (hW : WD G a o z s H) (hl : lv_has ls 4 [(0, .ref b), (1, .ref a), (2, .ref o), (3, .int (nI i))])
    (kk : ∀ (H1 : Heap) (locs1 : List Loc), (∀ q ∈ locs1, z ≤ q.base) → WD G a o z s H1 → W p l e room_1 s m #[Value.ref b] below meth c H1 locs1 235 9009 Q (F0 m 912 ls [])) : W p l e room_1 s m #[Value.ref b] below meth c H locs 235 9009 Q (F0 m 418 ls []) := by
  obtain ⟨dv, v, hv, kv, tv, rv, vt, fv, wv, M, h_hl, h_bk, h_hs, h_hu, h_tx, h_tr, h_tb, h_tw, h_ws, h_md, r, h, ht, hc, hsh, hz0, hsz⟩ := hW
  have hK := hKC.1
  obtain ⟨hx, hb, hml, hown, hts⟩ := id S
  obtain ⟨r0, v', hv', kv', M', e7, e8, r1, h1, m4, m0⟩ := s_cancel r h dv (xs (i + 1))
  refine lv_aload_n hx hb dL_law_418 rfl (lv_at hl 1 rfl) ?_
  refine x_arg S hl 0 3 rfl rfl hX hzs hbl hz0 hsz hL 1 (by decide) (by omega) hN dL_law_419 dL_law_420 dL_law_421 dL_law_422 dL_law_423 ?_
  refine x_callVi (As := [.int (xs (i + 1))]) (rest := []) S hK (c_X7_cancel l G z a dv v hv kv (xs (i + 1)) r0 v' hv' kv' (by omega) (by omega) e7) gL_law_X7_cancel rfl 1 (by decide +kernel) rfl ⟨Nat.le_of_ble_eq_true rfl, Nat.le_of_ble_eq_true rfl⟩ h_hl 0 (by decide) rfl rfl rfl ⟨h_hl, h_bk, h_hs, h_hu⟩ hl.1 rfl (Nat.le_of_ble_eq_true rfl) dL_law_424 hL ⟨Nat.le_of_ble_eq_true rfl, Nat.le_of_ble_eq_true rfl⟩ (fun H1 locs hL hpost => ?_)
  obtain ⟨n_bk, n_hs, n_hu, hfr⟩ := hpost
  have h_hl := h_hl.kept hfr (fun q h1 h2 h3 => by (try dsimp only at h3); omega)
  have h_bk := n_bk
  have h_hs := n_hs
  have h_hu := n_hu
  have h_tx := h_tx.kept hfr (fun q h1 h2 h3 => by (try dsimp only at h3); omega)
  have h_tr := h_tr.kept hfr (fun q h1 h2 h3 => by (try dsimp only at h3); omega)
  have h_tb := h_tb.kept hfr (fun q h1 h2 h3 => by (try dsimp only at h3); omega)
  have h_tw := h_tw.kept hfr (fun q h1 h2 h3 => by (try dsimp only at h3); omega)
  have h_ws := h_ws.kept hfr (fun q h1 h2 h3 => by (try dsimp only at h3); omega)
  have h_md := h_md.kept hfr (fun q h1 h2 h3 => by (try dsimp only at h3); omega)
  have hz0 : ∀ q, q < z → H1[q]? = s.heap[q]? := fun q hq => (hfr.2 q (fun h3 => by (try dsimp only at h3); omega)).trans (hz0 q hq)
  have hsz : s.heap.size ≤ H1.size := hfr.1 ▸ hsz
  refine lv_aload_n hx hb dL_law_427 rfl (lv_at hl 2 rfl) ?_
  refine x_arg S hl 0 3 rfl rfl hX hzs hbl hz0 hsz hL 1 (by decide) (by omega) hN dL_law_428 dL_law_429 dL_law_430 dL_law_431 dL_law_432 ?_
  refine x_callVi (As := [.int (xs (i + 1))]) (rest := [.int r0]) S hK (c_X8_cancel l G z o M (xs (i + 1)) r0 M' (by omega) e8) gL_law_X8_cancel rfl 1 (by decide +kernel) rfl ⟨Nat.le_of_ble_eq_true rfl, Nat.le_of_ble_eq_true rfl⟩ h_md 0 (by decide) rfl rfl rfl h_md hl.1 rfl (Nat.le_of_ble_eq_true rfl) dL_law_433 hL ⟨Nat.le_of_ble_eq_true rfl, Nat.le_of_ble_eq_true rfl⟩ (fun H1 locs hL hpost => ?_)
  obtain ⟨n_md, hfr⟩ := hpost
  have h_md := n_md
  have h_hl := h_hl.kept hfr (fun q h1 h2 h3 => by (try dsimp only at h3); omega)
  have h_bk := h_bk.kept hfr (fun q h1 h2 h3 => by (try dsimp only at h3); omega)
  have h_hs := h_hs.kept hfr (fun q h1 h2 h3 => by (try dsimp only at h3); omega)
  have h_hu := h_hu.kept hfr (fun q h1 h2 h3 => by (try dsimp only at h3); omega)
  have h_tx := h_tx.kept hfr (fun q h1 h2 h3 => by (try dsimp only at h3); omega)
  have h_tr := h_tr.kept hfr (fun q h1 h2 h3 => by (try dsimp only at h3); omega)
  have h_tb := h_tb.kept hfr (fun q h1 h2 h3 => by (try dsimp only at h3); omega)
  have h_tw := h_tw.kept hfr (fun q h1 h2 h3 => by (try dsimp only at h3); omega)
  have h_ws := h_ws.kept hfr (fun q h1 h2 h3 => by (try dsimp only at h3); omega)
  have hz0 : ∀ q, q < z → H1[q]? = s.heap[q]? := fun q hq => (hfr.2 q (fun h3 => by (try dsimp only at h3); omega)).trans (hz0 q hq)
  have hsz : s.heap.size ≤ H1.size := hfr.1 ▸ hsz
  refine lv_icmp_eq (tgt := 912) hx hb dL_law_436 (by decide) (fun _ => ?_) (fun cc1 => absurd rfl cc1)
  exact kk _ _ hL ⟨dv, v', hv', kv', tv, rv, vt, fv, wv, M', h_hl, h_bk, h_hs, h_hu, h_tx, h_tr, h_tb, h_tw, h_ws, h_md, r1, h1, (ht.cong rfl rfl (m0 6 (by decide)) m4), (CR.cong hc rfl (m0 4 (by decide))), hsh, hz0, hsz⟩

set_option maxRecDepth 100000 in
set_option maxHeartbeats 4000000 in
theorem lw_c9 {p : Program} {l : Launch} {e : Env} {s : State} {m : MethodId} {below : List Frame} {meth : Method} {c : Code} {b L a o z i : Nat} {xs : Nat → Int32} {G : xG} {ls : Array Slot} {H : Heap} {locs : List Loc} {Q : State → Prop} (S : CallFix p m c cL_law 4 s #[Value.ref b] wsL_law RL) (hKC : KC2 G z s) (hX : va_X b L xs s s.heap) (hzs : s.heap.size = z) (hbl : b < z) (ha : z ≤ a) (ho : a + 230 ≤ o) (hj : i + 7 ≤ L) (hN : L ≤ 3584) (hL : ∀ q ∈ locs, z ≤ q.base) (hW : WD G a o z s H) (hl : lv_has ls 4 [(0, .ref b), (1, .ref a), (2, .ref o), (3, .int (nI i))])
    (kk : ∀ (H1 : Heap) (locs1 : List Loc), (∀ q ∈ locs1, z ≤ q.base) → WD G a o z s H1 → W p l e room_1 s m #[Value.ref b] below meth c H1 locs1 235 9009 Q (F0 m 912 ls [])) : W p l e room_1 s m #[Value.ref b] below meth c H locs 235 9009 Q (F0 m 441 ls []) := by
  obtain ⟨dv, v, hv, kv, tv, rv, vt, fv, wv, M, h_hl, h_bk, h_hs, h_hu, h_tx, h_tr, h_tb, h_tw, h_ws, h_md, r, h, ht, hc, hsh, hz0, hsz⟩ := hW
  have hK := hKC.1
  obtain ⟨hx, hb, hml, hown, hts⟩ := id S
  obtain ⟨r0, wv', e7, e8⟩ := s_price r dv wv (xs (i + 1)) (xs (i + 2)) (xs (i + 3))
  refine lv_aload_n hx hb dL_law_441 rfl (lv_at hl 1 rfl) ?_
  refine x_arg S hl 0 3 rfl rfl hX hzs hbl hz0 hsz hL 1 (by decide) (by omega) hN dL_law_442 dL_law_443 dL_law_444 dL_law_445 dL_law_446 ?_
  refine x_arg S hl 0 3 rfl rfl hX hzs hbl hz0 hsz hL 2 (by decide) (by omega) hN dL_law_447 dL_law_448 dL_law_449 dL_law_450 dL_law_451 ?_
  refine x_arg S hl 0 3 rfl rfl hX hzs hbl hz0 hsz hL 3 (by decide) (by omega) hN dL_law_452 dL_law_453 dL_law_454 dL_law_455 dL_law_456 ?_
  refine x_callVi (As := [.int (xs (i + 1)), .int (xs (i + 2)), .int (xs (i + 3))]) (rest := []) S hK (c_X7_price l G z a dv v wv (xs (i + 1)) (xs (i + 2)) (xs (i + 3)) r0 wv' (by omega) e7) gL_law_X7_price rfl 3 (by decide +kernel) rfl ⟨Nat.le_of_ble_eq_true rfl, Nat.le_of_ble_eq_true rfl⟩ h_hl 0 (by decide) rfl rfl rfl ⟨h_hl, h_bk, h_ws⟩ hl.1 rfl (Nat.le_of_ble_eq_true rfl) dL_law_457 hL ⟨Nat.le_of_ble_eq_true rfl, Nat.le_of_ble_eq_true rfl⟩ (fun H1 locs hL hpost => ?_)
  obtain ⟨n_ws, hfr⟩ := hpost
  have h_hl := h_hl.kept hfr (fun q h1 h2 h3 => by (try dsimp only at h3); omega)
  have h_bk := h_bk.kept hfr (fun q h1 h2 h3 => by (try dsimp only at h3); omega)
  have h_hs := h_hs.kept hfr (fun q h1 h2 h3 => by (try dsimp only at h3); omega)
  have h_hu := h_hu.kept hfr (fun q h1 h2 h3 => by (try dsimp only at h3); omega)
  have h_tx := h_tx.kept hfr (fun q h1 h2 h3 => by (try dsimp only at h3); omega)
  have h_tr := h_tr.kept hfr (fun q h1 h2 h3 => by (try dsimp only at h3); omega)
  have h_tb := h_tb.kept hfr (fun q h1 h2 h3 => by (try dsimp only at h3); omega)
  have h_tw := h_tw.kept hfr (fun q h1 h2 h3 => by (try dsimp only at h3); omega)
  have h_ws := n_ws
  have h_md := h_md.kept hfr (fun q h1 h2 h3 => by (try dsimp only at h3); omega)
  have hz0 : ∀ q, q < z → H1[q]? = s.heap[q]? := fun q hq => (hfr.2 q (fun h3 => by (try dsimp only at h3); omega)).trans (hz0 q hq)
  have hsz : s.heap.size ≤ H1.size := hfr.1 ▸ hsz
  refine lv_aload_n hx hb dL_law_460 rfl (lv_at hl 2 rfl) ?_
  refine x_arg S hl 0 3 rfl rfl hX hzs hbl hz0 hsz hL 1 (by decide) (by omega) hN dL_law_461 dL_law_462 dL_law_463 dL_law_464 dL_law_465 ?_
  refine x_arg S hl 0 3 rfl rfl hX hzs hbl hz0 hsz hL 2 (by decide) (by omega) hN dL_law_466 dL_law_467 dL_law_468 dL_law_469 dL_law_470 ?_
  refine x_arg S hl 0 3 rfl rfl hX hzs hbl hz0 hsz hL 3 (by decide) (by omega) hN dL_law_471 dL_law_472 dL_law_473 dL_law_474 dL_law_475 ?_
  refine x_callVi (As := [.int (xs (i + 1)), .int (xs (i + 2)), .int (xs (i + 3))]) (rest := [.int r0]) S hK (c_X8_price l G z o M (xs (i + 1)) (xs (i + 2)) (xs (i + 3)) r0 e8) gL_law_X8_price rfl 3 (by decide +kernel) rfl ⟨Nat.le_of_ble_eq_true rfl, Nat.le_of_ble_eq_true rfl⟩ h_md 0 (by decide) rfl rfl rfl h_md hl.1 rfl (Nat.le_of_ble_eq_true rfl) dL_law_476 hL ⟨Nat.le_of_ble_eq_true rfl, Nat.le_of_ble_eq_true rfl⟩ (fun H1 locs hL hpost => ?_)
  subst hpost
  refine lv_icmp_eq (tgt := 912) hx hb dL_law_479 (by decide) (fun _ => ?_) (fun cc1 => absurd rfl cc1)
  exact kk _ _ hL ⟨dv, v, hv, kv, tv, rv, vt, fv, wv', M, h_hl, h_bk, h_hs, h_hu, h_tx, h_tr, h_tb, h_tw, h_ws, h_md, r, h, ht, hc, hsh, hz0, hsz⟩

set_option maxRecDepth 100000 in
set_option maxHeartbeats 4000000 in
theorem lw_c10 {p : Program} {l : Launch} {e : Env} {s : State} {m : MethodId} {below : List Frame} {meth : Method} {c : Code} {b L a o z i : Nat} {xs : Nat → Int32} {G : xG} {ls : Array Slot} {H : Heap} {locs : List Loc} {Q : State → Prop} (S : CallFix p m c cL_law 4 s #[Value.ref b] wsL_law RL) (hKC : KC2 G z s) (hX : va_X b L xs s s.heap) (hzs : s.heap.size = z) (hbl : b < z) (ha : z ≤ a) (ho : a + 230 ≤ o) (hj : i + 7 ≤ L) (hN : L ≤ 3584) (hL : ∀ q ∈ locs, z ≤ q.base) (hW : WD G a o z s H) (hl : lv_has ls 4 [(0, .ref b), (1, .ref a), (2, .ref o), (3, .int (nI i))])
    (kk : ∀ (H1 : Heap) (locs1 : List Loc), (∀ q ∈ locs1, z ≤ q.base) → WD G a o z s H1 → W p l e room_1 s m #[Value.ref b] below meth c H1 locs1 235 9009 Q (F0 m 912 ls [])) : W p l e room_1 s m #[Value.ref b] below meth c H locs 235 9009 Q (F0 m 484 ls []) := by
  obtain ⟨dv, v, hv, kv, tv, rv, vt, fv, wv, M, h_hl, h_bk, h_hs, h_hu, h_tx, h_tr, h_tb, h_tw, h_ws, h_md, r, h, ht, hc, hsh, hz0, hsz⟩ := hW
  have hK := hKC.1
  obtain ⟨hx, hb, hml, hown, hts⟩ := id S
  obtain ⟨r0, e7, e8⟩ := s_taken r dv (xs (i + 1)) (xs (i + 2))
  refine lv_aload_n hx hb dL_law_484 rfl (lv_at hl 1 rfl) ?_
  refine x_arg S hl 0 3 rfl rfl hX hzs hbl hz0 hsz hL 1 (by decide) (by omega) hN dL_law_485 dL_law_486 dL_law_487 dL_law_488 dL_law_489 ?_
  refine x_arg S hl 0 3 rfl rfl hX hzs hbl hz0 hsz hL 2 (by decide) (by omega) hN dL_law_490 dL_law_491 dL_law_492 dL_law_493 dL_law_494 ?_
  refine x_callVi (As := [.int (xs (i + 1)), .int (xs (i + 2))]) (rest := []) S hK (c_X7_taken l G z a dv v (xs (i + 1)) (xs (i + 2)) r0 e7) gL_law_X7_taken rfl 2 (by decide +kernel) rfl ⟨Nat.le_of_ble_eq_true rfl, Nat.le_of_ble_eq_true rfl⟩ h_hl 0 (by decide) rfl rfl rfl ⟨h_hl, h_bk⟩ hl.1 rfl (Nat.le_of_ble_eq_true rfl) dL_law_495 hL ⟨Nat.le_of_ble_eq_true rfl, Nat.le_of_ble_eq_true rfl⟩ (fun H1 locs hL hpost => ?_)
  subst hpost
  refine lv_aload_n hx hb dL_law_498 rfl (lv_at hl 2 rfl) ?_
  refine x_arg S hl 0 3 rfl rfl hX hzs hbl hz0 hsz hL 1 (by decide) (by omega) hN dL_law_499 dL_law_500 dL_law_501 dL_law_502 dL_law_503 ?_
  refine x_arg S hl 0 3 rfl rfl hX hzs hbl hz0 hsz hL 2 (by decide) (by omega) hN dL_law_504 dL_law_505 dL_law_506 dL_law_507 dL_law_508 ?_
  refine x_callVi (As := [.int (xs (i + 1)), .int (xs (i + 2))]) (rest := [.int r0]) S hK (c_X8_taken l G z o M (xs (i + 1)) (xs (i + 2)) r0 e8) gL_law_X8_taken rfl 2 (by decide +kernel) rfl ⟨Nat.le_of_ble_eq_true rfl, Nat.le_of_ble_eq_true rfl⟩ h_md 0 (by decide) rfl rfl rfl h_md hl.1 rfl (Nat.le_of_ble_eq_true rfl) dL_law_509 hL ⟨Nat.le_of_ble_eq_true rfl, Nat.le_of_ble_eq_true rfl⟩ (fun H1 locs hL hpost => ?_)
  subst hpost
  refine lv_icmp_eq (tgt := 912) hx hb dL_law_512 (by decide) (fun _ => ?_) (fun cc1 => absurd rfl cc1)
  exact kk _ _ hL ⟨dv, v, hv, kv, tv, rv, vt, fv, wv, M, h_hl, h_bk, h_hs, h_hu, h_tx, h_tr, h_tb, h_tw, h_ws, h_md, r, h, ht, hc, hsh, hz0, hsz⟩

set_option maxRecDepth 100000 in
set_option maxHeartbeats 4000000 in
theorem lw_c11 {p : Program} {l : Launch} {e : Env} {s : State} {m : MethodId} {below : List Frame} {meth : Method} {c : Code} {b L a o z i : Nat} {xs : Nat → Int32} {G : xG} {ls : Array Slot} {H : Heap} {locs : List Loc} {Q : State → Prop} (S : CallFix p m c cL_law 4 s #[Value.ref b] wsL_law RL) (hKC : KC2 G z s) (hX : va_X b L xs s s.heap) (hzs : s.heap.size = z) (hbl : b < z) (ha : z ≤ a) (ho : a + 230 ≤ o) (hj : i + 7 ≤ L) (hN : L ≤ 3584) (hL : ∀ q ∈ locs, z ≤ q.base) (hW : WD G a o z s H) (hl : lv_has ls 4 [(0, .ref b), (1, .ref a), (2, .ref o), (3, .int (nI i))])
    (kk : ∀ (H1 : Heap) (locs1 : List Loc), (∀ q ∈ locs1, z ≤ q.base) → WD G a o z s H1 → W p l e room_1 s m #[Value.ref b] below meth c H1 locs1 235 9009 Q (F0 m 912 ls [])) : W p l e room_1 s m #[Value.ref b] below meth c H locs 235 9009 Q (F0 m 517 ls []) := by
  obtain ⟨dv, v, hv, kv, tv, rv, vt, fv, wv, M, h_hl, h_bk, h_hs, h_hu, h_tx, h_tr, h_tb, h_tw, h_ws, h_md, r, h, ht, hc, hsh, hz0, hsz⟩ := hW
  have hK := hKC.1
  obtain ⟨hx, hb, hml, hown, hts⟩ := id S
  obtain ⟨r0, e7, e8⟩ := s_firstFree r dv (xs (i + 1)) (xs (i + 2)) (xs (i + 3)) (xs (i + 4))
  refine lv_aload_n hx hb dL_law_517 rfl (lv_at hl 1 rfl) ?_
  refine x_arg S hl 0 3 rfl rfl hX hzs hbl hz0 hsz hL 1 (by decide) (by omega) hN dL_law_518 dL_law_519 dL_law_520 dL_law_521 dL_law_522 ?_
  refine x_arg S hl 0 3 rfl rfl hX hzs hbl hz0 hsz hL 2 (by decide) (by omega) hN dL_law_523 dL_law_524 dL_law_525 dL_law_526 dL_law_527 ?_
  refine x_arg S hl 0 3 rfl rfl hX hzs hbl hz0 hsz hL 3 (by decide) (by omega) hN dL_law_528 dL_law_529 dL_law_530 dL_law_531 dL_law_532 ?_
  refine x_arg S hl 0 3 rfl rfl hX hzs hbl hz0 hsz hL 4 (by decide) (by omega) hN dL_law_533 dL_law_534 dL_law_535 dL_law_536 dL_law_537 ?_
  refine x_callVi (As := [.int (xs (i + 1)), .int (xs (i + 2)), .int (xs (i + 3)), .int (xs (i + 4))]) (rest := []) S hK (c_X7_firstFree l G z a dv v (xs (i + 1)) (xs (i + 2)) (xs (i + 3)) (xs (i + 4)) r0 e7) gL_law_X7_firstFree rfl 4 (by decide +kernel) rfl ⟨Nat.le_of_ble_eq_true rfl, Nat.le_of_ble_eq_true rfl⟩ h_hl 0 (by decide) rfl rfl rfl ⟨h_hl, h_bk⟩ hl.1 rfl (Nat.le_of_ble_eq_true rfl) dL_law_538 hL ⟨Nat.le_of_ble_eq_true rfl, Nat.le_of_ble_eq_true rfl⟩ (fun H1 locs hL hpost => ?_)
  subst hpost
  refine lv_aload_n hx hb dL_law_541 rfl (lv_at hl 2 rfl) ?_
  refine x_arg S hl 0 3 rfl rfl hX hzs hbl hz0 hsz hL 1 (by decide) (by omega) hN dL_law_542 dL_law_543 dL_law_544 dL_law_545 dL_law_546 ?_
  refine x_arg S hl 0 3 rfl rfl hX hzs hbl hz0 hsz hL 2 (by decide) (by omega) hN dL_law_547 dL_law_548 dL_law_549 dL_law_550 dL_law_551 ?_
  refine x_arg S hl 0 3 rfl rfl hX hzs hbl hz0 hsz hL 3 (by decide) (by omega) hN dL_law_552 dL_law_553 dL_law_554 dL_law_555 dL_law_556 ?_
  refine x_arg S hl 0 3 rfl rfl hX hzs hbl hz0 hsz hL 4 (by decide) (by omega) hN dL_law_557 dL_law_558 dL_law_559 dL_law_560 dL_law_561 ?_
  refine x_callVi (As := [.int (xs (i + 1)), .int (xs (i + 2)), .int (xs (i + 3)), .int (xs (i + 4))]) (rest := [.int r0]) S hK (c_X8_firstFree l G z o M (xs (i + 1)) (xs (i + 2)) (xs (i + 3)) (xs (i + 4)) r0 e8) gL_law_X8_firstFree rfl 4 (by decide +kernel) rfl ⟨Nat.le_of_ble_eq_true rfl, Nat.le_of_ble_eq_true rfl⟩ h_md 0 (by decide) rfl rfl rfl h_md hl.1 rfl (Nat.le_of_ble_eq_true rfl) dL_law_562 hL ⟨Nat.le_of_ble_eq_true rfl, Nat.le_of_ble_eq_true rfl⟩ (fun H1 locs hL hpost => ?_)
  subst hpost
  refine lv_icmp_eq (tgt := 912) hx hb dL_law_565 (by decide) (fun _ => ?_) (fun cc1 => absurd rfl cc1)
  exact kk _ _ hL ⟨dv, v, hv, kv, tv, rv, vt, fv, wv, M, h_hl, h_bk, h_hs, h_hu, h_tx, h_tr, h_tb, h_tw, h_ws, h_md, r, h, ht, hc, hsh, hz0, hsz⟩

set_option maxRecDepth 100000 in
set_option maxHeartbeats 4000000 in
theorem lw_c12 {p : Program} {l : Launch} {e : Env} {s : State} {m : MethodId} {below : List Frame} {meth : Method} {c : Code} {b L a o z i : Nat} {xs : Nat → Int32} {G : xG} {ls : Array Slot} {H : Heap} {locs : List Loc} {Q : State → Prop} (S : CallFix p m c cL_law 4 s #[Value.ref b] wsL_law RL) (hKC : KC2 G z s) (hX : va_X b L xs s s.heap) (hzs : s.heap.size = z) (hbl : b < z) (ha : z ≤ a) (ho : a + 230 ≤ o) (hj : i + 7 ≤ L) (hN : L ≤ 3584) (hL : ∀ q ∈ locs, z ≤ q.base) (hW : WD G a o z s H) (hl : lv_has ls 4 [(0, .ref b), (1, .ref a), (2, .ref o), (3, .int (nI i))])
    (kk : ∀ (H1 : Heap) (locs1 : List Loc), (∀ q ∈ locs1, z ≤ q.base) → WD G a o z s H1 → W p l e room_1 s m #[Value.ref b] below meth c H1 locs1 235 9009 Q (F0 m 912 ls [])) : W p l e room_1 s m #[Value.ref b] below meth c H locs 235 9009 Q (F0 m 570 ls []) := by
  obtain ⟨dv, v, hv, kv, tv, rv, vt, fv, wv, M, h_hl, h_bk, h_hs, h_hu, h_tx, h_tr, h_tb, h_tw, h_ws, h_md, r, h, ht, hc, hsh, hz0, hsz⟩ := hW
  have hK := hKC.1
  obtain ⟨hx, hb, hml, hown, hts⟩ := id S
  obtain ⟨r0, e7, e8⟩ := s_inOrder r dv (xs (i + 1))
  refine lv_aload_n hx hb dL_law_570 rfl (lv_at hl 1 rfl) ?_
  refine x_arg S hl 0 3 rfl rfl hX hzs hbl hz0 hsz hL 1 (by decide) (by omega) hN dL_law_571 dL_law_572 dL_law_573 dL_law_574 dL_law_575 ?_
  refine x_callVi (As := [.int (xs (i + 1))]) (rest := []) S hK (c_X7_inOrder l G z a dv v (xs (i + 1)) r0 e7) gL_law_X7_inOrder rfl 1 (by decide +kernel) rfl ⟨Nat.le_of_ble_eq_true rfl, Nat.le_of_ble_eq_true rfl⟩ h_hl 0 (by decide) rfl rfl rfl ⟨h_hl, h_bk⟩ hl.1 rfl (Nat.le_of_ble_eq_true rfl) dL_law_576 hL ⟨Nat.le_of_ble_eq_true rfl, Nat.le_of_ble_eq_true rfl⟩ (fun H1 locs hL hpost => ?_)
  subst hpost
  refine lv_aload_n hx hb dL_law_579 rfl (lv_at hl 2 rfl) ?_
  refine x_arg S hl 0 3 rfl rfl hX hzs hbl hz0 hsz hL 1 (by decide) (by omega) hN dL_law_580 dL_law_581 dL_law_582 dL_law_583 dL_law_584 ?_
  refine x_callVi (As := [.int (xs (i + 1))]) (rest := [.int r0]) S hK (c_X8_inOrder l G z o M (xs (i + 1)) r0 e8) gL_law_X8_inOrder rfl 1 (by decide +kernel) rfl ⟨Nat.le_of_ble_eq_true rfl, Nat.le_of_ble_eq_true rfl⟩ h_md 0 (by decide) rfl rfl rfl h_md hl.1 rfl (Nat.le_of_ble_eq_true rfl) dL_law_585 hL ⟨Nat.le_of_ble_eq_true rfl, Nat.le_of_ble_eq_true rfl⟩ (fun H1 locs hL hpost => ?_)
  subst hpost
  refine lv_icmp_eq (tgt := 912) hx hb dL_law_588 (by decide) (fun _ => ?_) (fun cc1 => absurd rfl cc1)
  exact kk _ _ hL ⟨dv, v, hv, kv, tv, rv, vt, fv, wv, M, h_hl, h_bk, h_hs, h_hu, h_tx, h_tr, h_tb, h_tw, h_ws, h_md, r, h, ht, hc, hsh, hz0, hsz⟩

set_option maxRecDepth 100000 in
set_option maxHeartbeats 4000000 in
theorem lw_c13 {p : Program} {l : Launch} {e : Env} {s : State} {m : MethodId} {below : List Frame} {meth : Method} {c : Code} {b L a o z i : Nat} {xs : Nat → Int32} {G : xG} {ls : Array Slot} {H : Heap} {locs : List Loc} {Q : State → Prop} (S : CallFix p m c cL_law 4 s #[Value.ref b] wsL_law RL) (hKC : KC2 G z s) (hX : va_X b L xs s s.heap) (hzs : s.heap.size = z) (hbl : b < z) (ha : z ≤ a) (ho : a + 230 ≤ o) (hj : i + 7 ≤ L) (hN : L ≤ 3584) (hL : ∀ q ∈ locs, z ≤ q.base) (hW : WD G a o z s H) (hl : lv_has ls 4 [(0, .ref b), (1, .ref a), (2, .ref o), (3, .int (nI i))])
    (kk : ∀ (H1 : Heap) (locs1 : List Loc), (∀ q ∈ locs1, z ≤ q.base) → WD G a o z s H1 → W p l e room_1 s m #[Value.ref b] below meth c H1 locs1 235 9009 Q (F0 m 912 ls [])) : W p l e room_1 s m #[Value.ref b] below meth c H locs 235 9009 Q (F0 m 593 ls []) := by
  obtain ⟨dv, v, hv, kv, tv, rv, vt, fv, wv, M, h_hl, h_bk, h_hs, h_hu, h_tx, h_tr, h_tb, h_tw, h_ws, h_md, r, h, ht, hc, hsh, hz0, hsz⟩ := hW
  have hK := hKC.1
  obtain ⟨hx, hb, hml, hown, hts⟩ := id S
  obtain ⟨r0, v', hv', kv', M', e7, e8, r1, h1, m4, m0⟩ := s_pass r h dv (xs (i + 1))
  refine lv_aload_n hx hb dL_law_593 rfl (lv_at hl 1 rfl) ?_
  refine x_arg S hl 0 3 rfl rfl hX hzs hbl hz0 hsz hL 1 (by decide) (by omega) hN dL_law_594 dL_law_595 dL_law_596 dL_law_597 dL_law_598 ?_
  refine x_callVi (As := [.int (xs (i + 1))]) (rest := []) S hK (c_X7_pass l G z a dv v hv kv (xs (i + 1)) r0 v' hv' kv' (by omega) (by omega) e7) gL_law_X7_pass rfl 1 (by decide +kernel) rfl ⟨Nat.le_of_ble_eq_true rfl, Nat.le_of_ble_eq_true rfl⟩ h_hl 0 (by decide) rfl rfl rfl ⟨h_hl, h_bk, h_hs, h_hu⟩ hl.1 rfl (Nat.le_of_ble_eq_true rfl) dL_law_599 hL ⟨Nat.le_of_ble_eq_true rfl, Nat.le_of_ble_eq_true rfl⟩ (fun H1 locs hL hpost => ?_)
  obtain ⟨n_bk, n_hs, n_hu, hfr⟩ := hpost
  have h_hl := h_hl.kept hfr (fun q h1 h2 h3 => by (try dsimp only at h3); omega)
  have h_bk := n_bk
  have h_hs := n_hs
  have h_hu := n_hu
  have h_tx := h_tx.kept hfr (fun q h1 h2 h3 => by (try dsimp only at h3); omega)
  have h_tr := h_tr.kept hfr (fun q h1 h2 h3 => by (try dsimp only at h3); omega)
  have h_tb := h_tb.kept hfr (fun q h1 h2 h3 => by (try dsimp only at h3); omega)
  have h_tw := h_tw.kept hfr (fun q h1 h2 h3 => by (try dsimp only at h3); omega)
  have h_ws := h_ws.kept hfr (fun q h1 h2 h3 => by (try dsimp only at h3); omega)
  have h_md := h_md.kept hfr (fun q h1 h2 h3 => by (try dsimp only at h3); omega)
  have hz0 : ∀ q, q < z → H1[q]? = s.heap[q]? := fun q hq => (hfr.2 q (fun h3 => by (try dsimp only at h3); omega)).trans (hz0 q hq)
  have hsz : s.heap.size ≤ H1.size := hfr.1 ▸ hsz
  refine lv_aload_n hx hb dL_law_602 rfl (lv_at hl 2 rfl) ?_
  refine x_arg S hl 0 3 rfl rfl hX hzs hbl hz0 hsz hL 1 (by decide) (by omega) hN dL_law_603 dL_law_604 dL_law_605 dL_law_606 dL_law_607 ?_
  refine x_callVi (As := [.int (xs (i + 1))]) (rest := [.int r0]) S hK (c_X8_pass l G z o M (xs (i + 1)) r0 M' (by omega) e8) gL_law_X8_pass rfl 1 (by decide +kernel) rfl ⟨Nat.le_of_ble_eq_true rfl, Nat.le_of_ble_eq_true rfl⟩ h_md 0 (by decide) rfl rfl rfl h_md hl.1 rfl (Nat.le_of_ble_eq_true rfl) dL_law_608 hL ⟨Nat.le_of_ble_eq_true rfl, Nat.le_of_ble_eq_true rfl⟩ (fun H1 locs hL hpost => ?_)
  obtain ⟨n_md, hfr⟩ := hpost
  have h_md := n_md
  have h_hl := h_hl.kept hfr (fun q h1 h2 h3 => by (try dsimp only at h3); omega)
  have h_bk := h_bk.kept hfr (fun q h1 h2 h3 => by (try dsimp only at h3); omega)
  have h_hs := h_hs.kept hfr (fun q h1 h2 h3 => by (try dsimp only at h3); omega)
  have h_hu := h_hu.kept hfr (fun q h1 h2 h3 => by (try dsimp only at h3); omega)
  have h_tx := h_tx.kept hfr (fun q h1 h2 h3 => by (try dsimp only at h3); omega)
  have h_tr := h_tr.kept hfr (fun q h1 h2 h3 => by (try dsimp only at h3); omega)
  have h_tb := h_tb.kept hfr (fun q h1 h2 h3 => by (try dsimp only at h3); omega)
  have h_tw := h_tw.kept hfr (fun q h1 h2 h3 => by (try dsimp only at h3); omega)
  have h_ws := h_ws.kept hfr (fun q h1 h2 h3 => by (try dsimp only at h3); omega)
  have hz0 : ∀ q, q < z → H1[q]? = s.heap[q]? := fun q hq => (hfr.2 q (fun h3 => by (try dsimp only at h3); omega)).trans (hz0 q hq)
  have hsz : s.heap.size ≤ H1.size := hfr.1 ▸ hsz
  refine lv_icmp_eq (tgt := 912) hx hb dL_law_611 (by decide) (fun _ => ?_) (fun cc1 => absurd rfl cc1)
  exact kk _ _ hL ⟨dv, v', hv', kv', tv, rv, vt, fv, wv, M', h_hl, h_bk, h_hs, h_hu, h_tx, h_tr, h_tb, h_tw, h_ws, h_md, r1, h1, (ht.cong rfl rfl (m0 6 (by decide)) m4), (CR.cong hc rfl (m0 4 (by decide))), hsh, hz0, hsz⟩
