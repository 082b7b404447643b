/-! ===== the law: its end (written by program) ===== -/
set_option maxRecDepth 100000 in
set_option maxHeartbeats 4000000 in
theorem law_tail {p : Program} {e : Env} {s : State} {m : MethodId} {below : List Frame} {meth : Method} {c : Code} {l : Launch} {b L z A O : Nat} {xs : Nat → Int32} {G : xG} {d k : Nat} {M N : xV} {H : Heap} {locs : List Loc} {ls : Array Slot} (S : CallFix p m c cL_law 10 s #[Value.ref b] wsL_law RL) (hr : meth.sig.returnType = ret) (hlocks : meth.locks = false) (hKC : KC2 G z s) (hX : va_X b L xs s s.heap) (hzs : s.heap.size = z) (hbl : b < z) (hA : z ≤ A) (hO : A + 230 ≤ O) (hL3 : L ≤ 260) (T : TW d k M N) (hk : k ≤ 49) (hd : d ≤ 50) (h_mo : WH G A M H) (h_mp : WH G O N H) (hz0 : ∀ q, q < z → H[q]? = s.heap[q]?) (hsz : s.heap.size ≤ H.size) (hL : ∀ q ∈ locs, z ≤ q.base) (hl : lv_has ls 10 [(0, .ref b), (1, .ref A), (2, .ref O), (3, .int (nI d)), (4, .int 1)]) : W p l e room_1 s m #[Value.ref b] below meth c H locs 460 7982 (lw_Z below #[Value.ref b] s) (F0 m 148 ls []) := by
  obtain ⟨hx, hb, hml, hown, hts⟩ := id S
  have hK := hKC.1
  obtain ⟨D, C, u, M1, M2, e1, e2, e3, e4, hu, e5, e6, pw, pw', sh, h9, h0⟩ := end_pay T hk
  obtain ⟨u0, hu0, f0⟩ := up_ok (cw L xs 50) (p2 := 30) (n := 30) rfl (by decide) (by decide)
  obtain ⟨u1, hu1, f1⟩ := up_ok (cw L xs 51) (p2 := 7) (n := 7) rfl (by decide) (by decide)
  obtain ⟨u2, hu2, f2⟩ := up_ok (cw L xs 52) (p2 := 15) (n := 15) rfl (by decide) (by decide)
  obtain ⟨a, a', e7, e8, hab⟩ := end_free pw pw' sh h9 h0 hd (ro := 1 + u1) (u := u0) (l := 1 + u2) (by omega) (by omega) (by omega) (by omega) (by omega)
  have ec : f_X8_count M2 0 = some (nI (cN (M2 1) 0)) := by
    obtain ⟨dv, v, hv, kv, tv, r, -⟩ := pw
    rw [cnt_0, r.wd]
  obtain ⟨E0, hE0⟩ : ∃ y, y = cN (M2 1) 0 := ⟨_, rfl⟩
  rw [← hE0] at ec e7 e8 h0
  refine lv_aload_n hx hb dL_law_148 rfl (lv_at hl 1 rfl) ?_
  refine lv_iconst (v := 0) hx hb dL_law_149 (by decide) ?_
  refine lv_iconst (v := 2) hx hb dL_law_150 (by decide) ?_
  refine x_callW (As := [.int 0, .int 2]) (rest := []) S hKC hz0 h_mo (h_X7_hirer l G z A M 0 2 D e1) gL_law_X7_hirer rfl 2 (by decide +kernel) rfl ⟨Nat.le_of_ble_eq_true rfl, Nat.le_of_ble_eq_true rfl⟩ h_mo hl.1 rfl (Nat.le_of_ble_eq_true rfl) dL_law_151 hL ⟨Nat.le_of_ble_eq_true rfl, Nat.le_of_ble_eq_true rfl⟩ (fun H1 locs hL hpost => ?_)
  subst hpost
  refine lv_istore (lv' := [(5, .int D), (0, .ref b), (1, .ref A), (2, .ref O), (3, .int (nI d)), (4, .int 1)]) hx hb dL_law_154 hl (by decide) rfl (fun ls hl => ?_)
  refine lv_aload_n hx hb dL_law_156 rfl (lv_at hl 2 rfl) ?_
  refine lv_iconst (v := 3) hx hb dL_law_157 (by decide) ?_
  refine x_callW (As := [.int 3]) (rest := []) S hKC hz0 h_mo (h_X7_count l G z A M 3 C e2) gL_law_X7_count rfl 1 (by decide +kernel) rfl ⟨Nat.le_of_ble_eq_true rfl, Nat.le_of_ble_eq_true rfl⟩ h_mo hl.1 rfl (Nat.le_of_ble_eq_true rfl) dL_law_158 hL ⟨Nat.le_of_ble_eq_true rfl, Nat.le_of_ble_eq_true rfl⟩ (fun H1 locs hL hpost => ?_)
  subst hpost
  refine lv_istore (lv' := [(6, .int C), (5, .int D), (0, .ref b), (1, .ref A), (2, .ref O), (3, .int (nI d)), (4, .int 1)]) hx hb dL_law_161 hl (by decide) rfl (fun ls hl => ?_)
  refine lv_iload hx hb dL_law_163 (lv_at hl 6 rfl) ?_
  refine lv_if_eq (tgt := 215) hx hb dL_law_165 (by decide) (fun c9 => absurd c9 (by decide)) (fun _ => ?_)
  refine lv_aload_n hx hb dL_law_168 rfl (lv_at hl 3 rfl) ?_
  refine lv_iconst (v := 0) hx hb dL_law_169 (by decide) ?_
  refine lv_bipush (v := 7) hx hb dL_law_170 (by decide) ?_
  refine x_callW (As := [.int 0, .int 7]) (rest := []) S hKC hz0 h_mo (h_X7_pay l G z A M 0 7 (D - 7) M1 hA e3) gL_law_X7_pay rfl 2 (by decide +kernel) rfl ⟨Nat.le_of_ble_eq_true rfl, Nat.le_of_ble_eq_true rfl⟩ h_mo hl.1 rfl (Nat.le_of_ble_eq_true rfl) dL_law_172 hL ⟨Nat.le_of_ble_eq_true rfl, Nat.le_of_ble_eq_true rfl⟩ (fun H1 locs hL hpost => ?_)
  obtain ⟨h_mo, hfr⟩ := hpost
  have h_mp := h_mp.kept hfr (fun q h1 h2 h3 => by (try dsimp only at h3); omega)
  have hz0 : ∀ q, q < z → H1[q]? = s.heap[q]? := fun q hq => (hfr.2 q (fun h3 => by (try dsimp only at h3); omega)).trans (hz0 q hq)
  have hsz : s.heap.size ≤ H1.size := hfr.1 ▸ hsz
  refine lv_iload hx hb dL_law_175 (lv_at hl 1 rfl) ?_
  refine lv_bipush (v := 7) hx hb dL_law_177 (by decide) ?_
  refine lv_isub hx hb dL_law_179 ?_
  refine lv_icmp_ne (tgt := 215) hx hb dL_law_180 (by decide) (fun c9 => absurd rfl c9) (fun _ => ?_)
  refine lv_aload_n hx hb dL_law_183 rfl (lv_at hl 3 rfl) ?_
  refine x_callW (As := []) (rest := []) S hKC hz0 h_mo (h_X7_undo l G z A M1 (nI u) M2 hA e4) gL_law_X7_undo rfl 0 (by decide +kernel) rfl ⟨Nat.le_of_ble_eq_true rfl, Nat.le_of_ble_eq_true rfl⟩ h_mo hl.1 rfl (Nat.le_of_ble_eq_true rfl) dL_law_184 hL ⟨Nat.le_of_ble_eq_true rfl, Nat.le_of_ble_eq_true rfl⟩ (fun H1 locs hL hpost => ?_)
  obtain ⟨h_mo, hfr⟩ := hpost
  have h_mp := h_mp.kept hfr (fun q h1 h2 h3 => by (try dsimp only at h3); omega)
  have hz0 : ∀ q, q < z → H1[q]? = s.heap[q]? := fun q hq => (hfr.2 q (fun h3 => by (try dsimp only at h3); omega)).trans (hz0 q hq)
  have hsz : s.heap.size ≤ H1.size := hfr.1 ▸ hsz
  refine lv_if_lt (tgt := 215) hx hb dL_law_187 (by decide) (fun c9 => absurd c9 (nI_pos (by omega))) (fun _ => ?_)
  refine lv_aload_n hx hb dL_law_190 rfl (lv_at hl 3 rfl) ?_
  refine lv_iconst (v := 0) hx hb dL_law_191 (by decide) ?_
  refine lv_iconst (v := 2) hx hb dL_law_192 (by decide) ?_
  refine x_callW (As := [.int 0, .int 2]) (rest := []) S hKC hz0 h_mo (h_X7_hirer l G z A M2 0 2 D e5) gL_law_X7_hirer rfl 2 (by decide +kernel) rfl ⟨Nat.le_of_ble_eq_true rfl, Nat.le_of_ble_eq_true rfl⟩ h_mo hl.1 rfl (Nat.le_of_ble_eq_true rfl) dL_law_193 hL ⟨Nat.le_of_ble_eq_true rfl, Nat.le_of_ble_eq_true rfl⟩ (fun H1 locs hL hpost => ?_)
  subst hpost
  refine lv_iload hx hb dL_law_196 (lv_at hl 1 rfl) ?_
  refine lv_icmp_ne (tgt := 215) hx hb dL_law_198 (by decide) (fun c9 => absurd rfl c9) (fun _ => ?_)
  refine lv_aload_n hx hb dL_law_201 rfl (lv_at hl 3 rfl) ?_
  refine lv_iconst (v := 3) hx hb dL_law_202 (by decide) ?_
  refine x_callW (As := [.int 3]) (rest := []) S hKC hz0 h_mo (h_X7_count l G z A M2 3 C e6) gL_law_X7_count rfl 1 (by decide +kernel) rfl ⟨Nat.le_of_ble_eq_true rfl, Nat.le_of_ble_eq_true rfl⟩ h_mo hl.1 rfl (Nat.le_of_ble_eq_true rfl) dL_law_203 hL ⟨Nat.le_of_ble_eq_true rfl, Nat.le_of_ble_eq_true rfl⟩ (fun H1 locs hL hpost => ?_)
  subst hpost
  refine lv_iload hx hb dL_law_206 (lv_at hl 0 rfl) ?_
  refine lv_icmp_ne (tgt := 215) hx hb dL_law_208 (by decide) (fun c9 => absurd rfl c9) (fun _ => ?_)
  refine lv_iconst (v := 1) hx hb dL_law_211 (by decide) ?_
  refine lv_goto (tgt := 216) hx hb dL_law_212 (by decide) ?_
  refine lv_istore (lv' := [(4, .int 1), (6, .int C), (5, .int D), (0, .ref b), (1, .ref A), (2, .ref O), (3, .int (nI d))]) hx hb dL_law_216 hl (by decide) rfl (fun ls hl => ?_)
  refine lv_aload_n hx hb dL_law_218 rfl (lv_at hl 4 rfl) ?_
  refine lv_iconst (v := 0) hx hb dL_law_219 (by decide) ?_
  refine x_callW (As := [.int 0]) (rest := []) S hKC hz0 h_mo (h_X7_count l G z A M2 0 (nI E0) ec) gL_law_X7_count rfl 1 (by decide +kernel) rfl ⟨Nat.le_of_ble_eq_true rfl, Nat.le_of_ble_eq_true rfl⟩ h_mo hl.1 rfl (Nat.le_of_ble_eq_true rfl) dL_law_220 hL ⟨Nat.le_of_ble_eq_true rfl, Nat.le_of_ble_eq_true rfl⟩ (fun H1 locs hL hpost => ?_)
  subst hpost
  refine lv_aload_n hx hb dL_law_223 rfl (lv_at hl 3 rfl) ?_
  refine lv_bipush (v := 50) hx hb dL_law_224 (by decide) ?_
  refine x_callTK (As := [.ref b, .int 50]) (rest := [.int (nI E0)]) S (fun U hU hV => (hX.moved hV.alike).at hU (hz0 b hbl)) (fun U g mk q h => KX.calling h) (c_L_cell l z b L xs 50 (by omega) hL3) gL_law_L_cell rfl 2 (by decide +kernel) rfl ⟨Nat.le_of_ble_eq_true rfl, Nat.le_of_ble_eq_true rfl⟩ rfl hl.1 rfl (Nat.le_of_ble_eq_true rfl) dL_law_226 hL ⟨Nat.le_of_ble_eq_true rfl, Nat.le_of_ble_eq_true rfl⟩ (fun H1 locs hL hpost => ?_)
  subst hpost
  refine lv_bipush (v := 30) hx hb dL_law_229 (by decide) ?_
  refine x_callTi (As := [.int (cw L xs 50), .int 30]) (rest := [.int (nI E0)]) S hK (c_L_up l G z ((cw L xs 50)) 30 (nI u0) f0) gL_law_L_up rfl 2 (by decide +kernel) rfl ⟨Nat.le_of_ble_eq_true rfl, Nat.le_of_ble_eq_true rfl⟩ rfl hl.1 rfl (Nat.le_of_ble_eq_true rfl) dL_law_231 hL ⟨Nat.le_of_ble_eq_true rfl, Nat.le_of_ble_eq_true rfl⟩ (fun H1 locs hL hpost => ?_)
  subst hpost
  refine lv_iadd hx hb dL_law_234 ?_
  refine x_top (x := nI (E0 + u0)) (nI_add E0 u0).symm ?_
  refine lv_istore (lv' := [(7, .int (nI (E0 + u0))), (4, .int 1), (6, .int C), (5, .int D), (0, .ref b), (1, .ref A), (2, .ref O), (3, .int (nI d))]) hx hb dL_law_235 hl (by decide) rfl (fun ls hl => ?_)
  refine lv_aload_n hx hb dL_law_237 rfl (lv_at hl 5 rfl) ?_
  refine lv_iconst (v := 1) hx hb dL_law_238 (by decide) ?_
  refine lv_iconst (v := 1) hx hb dL_law_239 (by decide) ?_
  refine lv_aload_n hx hb dL_law_240 rfl (lv_at hl 4 rfl) ?_
  refine lv_bipush (v := 51) hx hb dL_law_241 (by decide) ?_
  refine x_callTK (As := [.ref b, .int 51]) (rest := [.int 1, .int 1, .ref A]) S (fun U hU hV => (hX.moved hV.alike).at hU (hz0 b hbl)) (fun U g mk q h => KX.calling h) (c_L_cell l z b L xs 51 (by omega) hL3) gL_law_L_cell rfl 2 (by decide +kernel) rfl ⟨Nat.le_of_ble_eq_true rfl, Nat.le_of_ble_eq_true rfl⟩ rfl hl.1 rfl (Nat.le_of_ble_eq_true rfl) dL_law_243 hL ⟨Nat.le_of_ble_eq_true rfl, Nat.le_of_ble_eq_true rfl⟩ (fun H1 locs hL hpost => ?_)
  subst hpost
  refine lv_bipush (v := 7) hx hb dL_law_246 (by decide) ?_
  refine x_callTi (As := [.int (cw L xs 51), .int 7]) (rest := [.int 1, .int 1, .ref A]) S hK (c_L_up l G z ((cw L xs 51)) 7 (nI u1) f1) gL_law_L_up rfl 2 (by decide +kernel) rfl ⟨Nat.le_of_ble_eq_true rfl, Nat.le_of_ble_eq_true rfl⟩ rfl hl.1 rfl (Nat.le_of_ble_eq_true rfl) dL_law_248 hL ⟨Nat.le_of_ble_eq_true rfl, Nat.le_of_ble_eq_true rfl⟩ (fun H1 locs hL hpost => ?_)
  subst hpost
  refine lv_iadd hx hb dL_law_251 ?_
  refine x_top (x := nI (1 + u1)) (one_add u1).symm ?_
  refine lv_iload hx hb dL_law_252 (lv_at hl 0 rfl) ?_
  refine lv_iconst (v := 1) hx hb dL_law_254 (by decide) ?_
  refine lv_aload_n hx hb dL_law_255 rfl (lv_at hl 4 rfl) ?_
  refine lv_bipush (v := 52) hx hb dL_law_256 (by decide) ?_
  refine x_callTK (As := [.ref b, .int 52]) (rest := [.int 1, .int (nI (E0 + u0)), .int (nI (1 + u1)), .int 1, .ref A]) S (fun U hU hV => (hX.moved hV.alike).at hU (hz0 b hbl)) (fun U g mk q h => KX.calling h) (c_L_cell l z b L xs 52 (by omega) hL3) gL_law_L_cell rfl 2 (by decide +kernel) rfl ⟨Nat.le_of_ble_eq_true rfl, Nat.le_of_ble_eq_true rfl⟩ rfl hl.1 rfl (Nat.le_of_ble_eq_true rfl) dL_law_258 hL ⟨Nat.le_of_ble_eq_true rfl, Nat.le_of_ble_eq_true rfl⟩ (fun H1 locs hL hpost => ?_)
  subst hpost
  refine lv_bipush (v := 15) hx hb dL_law_261 (by decide) ?_
  refine x_callTi (As := [.int (cw L xs 52), .int 15]) (rest := [.int 1, .int (nI (E0 + u0)), .int (nI (1 + u1)), .int 1, .ref A]) S hK (c_L_up l G z ((cw L xs 52)) 15 (nI u2) f2) gL_law_L_up rfl 2 (by decide +kernel) rfl ⟨Nat.le_of_ble_eq_true rfl, Nat.le_of_ble_eq_true rfl⟩ rfl hl.1 rfl (Nat.le_of_ble_eq_true rfl) dL_law_263 hL ⟨Nat.le_of_ble_eq_true rfl, Nat.le_of_ble_eq_true rfl⟩ (fun H1 locs hL hpost => ?_)
  subst hpost
  refine lv_iadd hx hb dL_law_266 ?_
  refine x_top (x := nI (1 + u2)) (one_add u2).symm ?_
  refine x_callW (As := [.int 1, .int (nI (1 + u1)), .int (nI (E0 + u0)), .int (nI (1 + u2))]) (rest := []) S hKC hz0 h_mo (h_X7_firstFree l G z A M2 1 (nI (1 + u1)) (nI (E0 + u0)) (nI (1 + u2)) a e7) gL_law_X7_firstFree rfl 4 (by decide +kernel) rfl ⟨Nat.le_of_ble_eq_true rfl, Nat.le_of_ble_eq_true rfl⟩ h_mo hl.1 rfl (Nat.le_of_ble_eq_true rfl) dL_law_267 hL ⟨Nat.le_of_ble_eq_true rfl, Nat.le_of_ble_eq_true rfl⟩ (fun H1 locs hL hpost => ?_)
  subst hpost
  refine lv_istore (lv' := [(8, .int a), (7, .int (nI (E0 + u0))), (4, .int 1), (6, .int C), (5, .int D), (0, .ref b), (1, .ref A), (2, .ref O), (3, .int (nI d))]) hx hb dL_law_270 hl (by decide) rfl (fun ls hl => ?_)
  refine lv_aload_n hx hb dL_law_272 rfl (lv_at hl 7 rfl) ?_
  refine lv_iconst (v := 1) hx hb dL_law_273 (by decide) ?_
  refine lv_iconst (v := 1) hx hb dL_law_274 (by decide) ?_
  refine lv_aload_n hx hb dL_law_275 rfl (lv_at hl 5 rfl) ?_
  refine lv_bipush (v := 51) hx hb dL_law_276 (by decide) ?_
  refine x_callTK (As := [.ref b, .int 51]) (rest := [.int 1, .int 1, .ref O]) S (fun U hU hV => (hX.moved hV.alike).at hU (hz0 b hbl)) (fun U g mk q h => KX.calling h) (c_L_cell l z b L xs 51 (by omega) hL3) gL_law_L_cell rfl 2 (by decide +kernel) rfl ⟨Nat.le_of_ble_eq_true rfl, Nat.le_of_ble_eq_true rfl⟩ rfl hl.1 rfl (Nat.le_of_ble_eq_true rfl) dL_law_278 hL ⟨Nat.le_of_ble_eq_true rfl, Nat.le_of_ble_eq_true rfl⟩ (fun H1 locs hL hpost => ?_)
  subst hpost
  refine lv_bipush (v := 7) hx hb dL_law_281 (by decide) ?_
  refine x_callTi (As := [.int (cw L xs 51), .int 7]) (rest := [.int 1, .int 1, .ref O]) S hK (c_L_up l G z ((cw L xs 51)) 7 (nI u1) f1) gL_law_L_up rfl 2 (by decide +kernel) rfl ⟨Nat.le_of_ble_eq_true rfl, Nat.le_of_ble_eq_true rfl⟩ rfl hl.1 rfl (Nat.le_of_ble_eq_true rfl) dL_law_283 hL ⟨Nat.le_of_ble_eq_true rfl, Nat.le_of_ble_eq_true rfl⟩ (fun H1 locs hL hpost => ?_)
  subst hpost
  refine lv_iadd hx hb dL_law_286 ?_
  refine x_top (x := nI (1 + u1)) (one_add u1).symm ?_
  refine lv_iload hx hb dL_law_287 (lv_at hl 1 rfl) ?_
  refine lv_iload_n hx hb dL_law_289 rfl (lv_at hl 8 rfl) ?_
  refine lv_iadd hx hb dL_law_290 ?_
  refine x_top (x := nI (E0 + u0 + d)) (nI_add (E0 + u0) d).symm ?_
  refine lv_iconst (v := 1) hx hb dL_law_291 (by decide) ?_
  refine lv_aload_n hx hb dL_law_292 rfl (lv_at hl 5 rfl) ?_
  refine lv_bipush (v := 52) hx hb dL_law_293 (by decide) ?_
  refine x_callTK (As := [.ref b, .int 52]) (rest := [.int 1, .int (nI (E0 + u0 + d)), .int (nI (1 + u1)), .int 1, .ref O]) S (fun U hU hV => (hX.moved hV.alike).at hU (hz0 b hbl)) (fun U g mk q h => KX.calling h) (c_L_cell l z b L xs 52 (by omega) hL3) gL_law_L_cell rfl 2 (by decide +kernel) rfl ⟨Nat.le_of_ble_eq_true rfl, Nat.le_of_ble_eq_true rfl⟩ rfl hl.1 rfl (Nat.le_of_ble_eq_true rfl) dL_law_295 hL ⟨Nat.le_of_ble_eq_true rfl, Nat.le_of_ble_eq_true rfl⟩ (fun H1 locs hL hpost => ?_)
  subst hpost
  refine lv_bipush (v := 15) hx hb dL_law_298 (by decide) ?_
  refine x_callTi (As := [.int (cw L xs 52), .int 15]) (rest := [.int 1, .int (nI (E0 + u0 + d)), .int (nI (1 + u1)), .int 1, .ref O]) S hK (c_L_up l G z ((cw L xs 52)) 15 (nI u2) f2) gL_law_L_up rfl 2 (by decide +kernel) rfl ⟨Nat.le_of_ble_eq_true rfl, Nat.le_of_ble_eq_true rfl⟩ rfl hl.1 rfl (Nat.le_of_ble_eq_true rfl) dL_law_300 hL ⟨Nat.le_of_ble_eq_true rfl, Nat.le_of_ble_eq_true rfl⟩ (fun H1 locs hL hpost => ?_)
  subst hpost
  refine lv_iadd hx hb dL_law_303 ?_
  refine x_top (x := nI (1 + u2)) (one_add u2).symm ?_
  refine x_callW (As := [.int 1, .int (nI (1 + u1)), .int (nI (E0 + u0 + d)), .int (nI (1 + u2))]) (rest := []) S hKC hz0 h_mp (h_X7_firstFree l G z O N 1 (nI (1 + u1)) (nI (E0 + u0 + d)) (nI (1 + u2)) a' e8) gL_law_X7_firstFree rfl 4 (by decide +kernel) rfl ⟨Nat.le_of_ble_eq_true rfl, Nat.le_of_ble_eq_true rfl⟩ h_mp hl.1 rfl (Nat.le_of_ble_eq_true rfl) dL_law_304 hL ⟨Nat.le_of_ble_eq_true rfl, Nat.le_of_ble_eq_true rfl⟩ (fun H1 locs hL hpost => ?_)
  subst hpost
  refine lv_istore (lv' := [(9, .int a'), (8, .int a), (7, .int (nI (E0 + u0))), (4, .int 1), (6, .int C), (5, .int D), (0, .ref b), (1, .ref A), (2, .ref O), (3, .int (nI d))]) hx hb dL_law_307 hl (by decide) rfl (fun ls hl => ?_)
  refine lv_iload hx hb dL_law_309 (lv_at hl 3 rfl) ?_
  refine lv_if_eq (tgt := 348) hx hb dL_law_311 (by decide) (fun c9 => absurd c9 (by decide)) (fun _ => ?_)
  have fin : W p l e room_1 s m #[Value.ref b] below meth c H1 locs 460 7982 (lw_Z below #[Value.ref b] s) (F0 m 344 ls []) := by
    refine lv_iconst (v := 1) hx hb dL_law_344 (by decide) ?_
    refine lv_goto (tgt := 349) hx hb dL_law_345 (by decide) ?_
    refine va_forget (fun q hq => by rw [hzs]; exact hL q hq) ?_
    refine W.widen (k := 600000) (n := 7302250) (Nat.le_of_ble_eq_true rfl) (Nat.le_of_ble_eq_true rfl) ?_
    exact lw_ret hx hb hr hlocks dL_law_349
  rcases hab with ⟨n1, n2⟩ | ⟨n1, n2⟩
  · refine lv_iload hx hb dL_law_314 (lv_at hl 1 rfl) ?_
    refine lv_if_ge (tgt := 327) hx hb dL_law_316 (by decide) (fun c9 => absurd c9 (fa_of_lt n1).2.1) (fun _ => ?_)
    refine lv_iload hx hb dL_law_319 (lv_at hl 0 rfl) ?_
    refine lv_if_ge (tgt := 348) hx hb dL_law_321 (by decide) (fun c9 => absurd c9 (fa_of_lt n2).2.1) (fun _ => ?_)
    refine lv_goto (tgt := 344) hx hb dL_law_324 (by decide) ?_
    exact fin
  · refine lv_iload hx hb dL_law_314 (lv_at hl 1 rfl) ?_
    refine lv_if_ge (tgt := 327) hx hb dL_law_316 (by decide) (fun _ => ?_) (fun c9 => absurd n1 c9)
    refine lv_iload hx hb dL_law_327 (lv_at hl 1 rfl) ?_
    refine lv_bipush (v := 100) hx hb dL_law_329 (by decide) ?_
    refine lv_iload_n hx hb dL_law_331 rfl (lv_at hl 9 rfl) ?_
    refine lv_imul hx hb dL_law_332 ?_
    refine lv_iadd hx hb dL_law_333 ?_
    refine lv_iload hx hb dL_law_334 (lv_at hl 0 rfl) ?_
    rcases n2 with n2 | n2
    · refine lv_icmp_eq (tgt := 344) hx hb dL_law_336 (by decide) (fun _ => ?_) (fun c9 => absurd n2.symm c9)
      exact fin
    · refine lv_icmp_eq (tgt := 344) hx hb dL_law_336 (by decide) (fun _ => fin) (fun _ => ?_)
      refine lv_iload hx hb dL_law_339 (lv_at hl 0 rfl) ?_
      refine lv_if_ge (tgt := 348) hx hb dL_law_341 (by decide) (fun c9 => absurd c9 (fa_of_lt n2).2.1) (fun _ => ?_)
      exact fin
