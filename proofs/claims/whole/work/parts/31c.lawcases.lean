/-! ===== the law: its cases ===== -/
set_option maxRecDepth 100000 in
set_option maxHeartbeats 4000000 in
theorem lw_c14 {p : Program} {l : Launch} {e : Env} {s : State} {m : MethodId} {below : List Frame} {meth : Method} {c : Code} {b L a o z i : Nat} {xs : Nat → Int32} {G : xG} {ls : Array Slot} {H : Heap} {locs : List Loc} {Q : State → Prop} (S : CallFix p m c cL_law 4 s #[Value.ref b] wsL_law RL) (hKC : KC2 G z s) (hX : va_X b L xs s s.heap) (hzs : s.heap.size = z) (hbl : b < z) (ha : z ≤ a) (ho : a + 230 ≤ o) (hj : i + 7 ≤ L) (hN : L ≤ 3584) (hL : ∀ q ∈ locs, z ≤ q.base) (hW : WD G a o z s H) (hl : lv_has ls 4 [(0, .ref b), (1, .ref a), (2, .ref o), (3, .int (nI i))])
    (kk : ∀ (H1 : Heap) (locs1 : List Loc), (∀ q ∈ locs1, z ≤ q.base) → WD G a o z s H1 → W p l e room_1 s m #[Value.ref b] below meth c H1 locs1 235 9009 Q (F0 m 912 ls [])) : W p l e room_1 s m #[Value.ref b] below meth c H locs 235 9009 Q (F0 m 616 ls []) := by
  obtain ⟨dv, v, hv, kv, tv, rv, vt, fv, wv, M, h_hl, h_bk, h_hs, h_hu, h_tx, h_tr, h_tb, h_tw, h_ws, h_md, r, h, ht, hc, hsh, hz0, hsz⟩ := hW
  have hK := hKC.1
  obtain ⟨hx, hb, hml, hown, hts⟩ := id S
  obtain ⟨r0, e7, e8⟩ := s_count r h.cnt (show tv 0 1 = M 0 6 by obtain ⟨n, -, t1, t2, -⟩ := ht; exact t1.trans t2.symm) dv (xs (i + 1))
  refine lv_aload_n hx hb dL_law_616 rfl (lv_at hl 1 rfl) ?_
  refine x_arg S hl 0 3 rfl rfl hX hzs hbl hz0 hsz hL 1 (by decide) (by omega) hN dL_law_617 dL_law_618 dL_law_619 dL_law_620 dL_law_621 ?_
  refine x_callVi (As := [.int (xs (i + 1))]) (rest := []) S hK (c_X7_count l G z a dv v hv tv (xs (i + 1)) r0 e7) gL_law_X7_count rfl 1 (by decide +kernel) rfl ⟨Nat.le_of_ble_eq_true rfl, Nat.le_of_ble_eq_true rfl⟩ h_hl 0 (by decide) rfl rfl rfl ⟨h_hl, h_bk, h_hs, h_tx⟩ hl.1 rfl (Nat.le_of_ble_eq_true rfl) dL_law_622 hL ⟨Nat.le_of_ble_eq_true rfl, Nat.le_of_ble_eq_true rfl⟩ (fun H1 locs hL hpost => ?_)
  subst hpost
  refine lv_aload_n hx hb dL_law_625 rfl (lv_at hl 2 rfl) ?_
  refine x_arg S hl 0 3 rfl rfl hX hzs hbl hz0 hsz hL 1 (by decide) (by omega) hN dL_law_626 dL_law_627 dL_law_628 dL_law_629 dL_law_630 ?_
  refine x_callVi (As := [.int (xs (i + 1))]) (rest := [.int r0]) S hK (c_X8_count l G z o M (xs (i + 1)) r0 e8) gL_law_X8_count rfl 1 (by decide +kernel) rfl ⟨Nat.le_of_ble_eq_true rfl, Nat.le_of_ble_eq_true rfl⟩ h_md 0 (by decide) rfl rfl rfl h_md hl.1 rfl (Nat.le_of_ble_eq_true rfl) dL_law_631 hL ⟨Nat.le_of_ble_eq_true rfl, Nat.le_of_ble_eq_true rfl⟩ (fun H1 locs hL hpost => ?_)
  subst hpost
  refine lv_icmp_eq (tgt := 912) hx hb dL_law_634 (by decide) (fun _ => ?_) (fun cc1 => absurd rfl cc1)
  exact kk _ _ hL ⟨dv, v, hv, kv, tv, rv, vt, fv, wv, M, h_hl, h_bk, h_hs, h_hu, h_tx, h_tr, h_tb, h_tw, h_ws, h_md, r, h, ht, hc, hsh, hz0, hsz⟩

set_option maxRecDepth 100000 in
set_option maxHeartbeats 4000000 in
theorem lw_c15 {p : Program} {l : Launch} {e : Env} {s : State} {m : MethodId} {below : List Frame} {meth : Method} {c : Code} {b L a o z i : Nat} {xs : Nat → Int32} {G : xG} {ls : Array Slot} {H : Heap} {locs : List Loc} {Q : State → Prop} (S : CallFix p m c cL_law 4 s #[Value.ref b] wsL_law RL) (hKC : KC2 G z s) (hX : va_X b L xs s s.heap) (hzs : s.heap.size = z) (hbl : b < z) (ha : z ≤ a) (ho : a + 230 ≤ o) (hj : i + 7 ≤ L) (hN : L ≤ 3584) (hL : ∀ q ∈ locs, z ≤ q.base) (hW : WD G a o z s H) (hl : lv_has ls 4 [(0, .ref b), (1, .ref a), (2, .ref o), (3, .int (nI i))])
    (kk : ∀ (H1 : Heap) (locs1 : List Loc), (∀ q ∈ locs1, z ≤ q.base) → WD G a o z s H1 → W p l e room_1 s m #[Value.ref b] below meth c H1 locs1 235 9009 Q (F0 m 912 ls [])) : W p l e room_1 s m #[Value.ref b] below meth c H locs 235 9009 Q (F0 m 639 ls []) := by
  obtain ⟨dv, v, hv, kv, tv, rv, vt, fv, wv, M, h_hl, h_bk, h_hs, h_hu, h_tx, h_tr, h_tb, h_tw, h_ws, h_md, r, h, ht, hc, hsh, hz0, hsz⟩ := hW
  have hK := hKC.1
  obtain ⟨hx, hb, hml, hown, hts⟩ := id S
  obtain ⟨r0, v', hv', M', e7, e8, r1, h1, m4, m0⟩ := s_undo r h
  have e7 : f_X7_undo dv v hv kv = some (r0, v', hv') := e7
  refine lv_aload_n hx hb dL_law_639 rfl (lv_at hl 1 rfl) ?_
  refine x_callVi (As := []) (rest := []) S hK (c_X7_undo l G z a dv v hv kv r0 v' hv' (by omega) (by omega) e7) gL_law_X7_undo rfl 0 (by decide +kernel) rfl ⟨Nat.le_of_ble_eq_true rfl, Nat.le_of_ble_eq_true rfl⟩ h_hl 0 (by decide) rfl rfl rfl ⟨h_hl, h_bk, h_hs, h_hu⟩ hl.1 rfl (Nat.le_of_ble_eq_true rfl) dL_law_640 hL ⟨Nat.le_of_ble_eq_true rfl, Nat.le_of_ble_eq_true rfl⟩ (fun H1 locs hL hpost => ?_)
  obtain ⟨n_bk, n_hs, hfr⟩ := hpost
  have h_hl := h_hl.kept hfr (fun q h1 h2 h3 => by (try dsimp only at h3); omega)
  have h_bk := n_bk
  have h_hs := n_hs
  have h_hu := h_hu.kept hfr (fun q h1 h2 h3 => by (try dsimp only at h3); omega)
  have h_tx := h_tx.kept hfr (fun q h1 h2 h3 => by (try dsimp only at h3); omega)
  have h_tr := h_tr.kept hfr (fun q h1 h2 h3 => by (try dsimp only at h3); omega)
  have h_tb := h_tb.kept hfr (fun q h1 h2 h3 => by (try dsimp only at h3); omega)
  have h_tw := h_tw.kept hfr (fun q h1 h2 h3 => by (try dsimp only at h3); omega)
  have h_ws := h_ws.kept hfr (fun q h1 h2 h3 => by (try dsimp only at h3); omega)
  have h_md := h_md.kept hfr (fun q h1 h2 h3 => by (try dsimp only at h3); omega)
  have hz0 : ∀ q, q < z → H1[q]? = s.heap[q]? := fun q hq => (hfr.2 q (fun h3 => by (try dsimp only at h3); omega)).trans (hz0 q hq)
  have hsz : s.heap.size ≤ H1.size := hfr.1 ▸ hsz
  refine lv_aload_n hx hb dL_law_643 rfl (lv_at hl 2 rfl) ?_
  refine x_callVi (As := []) (rest := [.int r0]) S hK (c_X8_undo l G z o M r0 M' (by omega) e8) gL_law_X8_undo rfl 0 (by decide +kernel) rfl ⟨Nat.le_of_ble_eq_true rfl, Nat.le_of_ble_eq_true rfl⟩ h_md 0 (by decide) rfl rfl rfl h_md hl.1 rfl (Nat.le_of_ble_eq_true rfl) dL_law_644 hL ⟨Nat.le_of_ble_eq_true rfl, Nat.le_of_ble_eq_true rfl⟩ (fun H1 locs hL hpost => ?_)
  obtain ⟨n_md, hfr⟩ := hpost
  have h_md := n_md
  have h_hl := h_hl.kept hfr (fun q h1 h2 h3 => by (try dsimp only at h3); omega)
  have h_bk := h_bk.kept hfr (fun q h1 h2 h3 => by (try dsimp only at h3); omega)
  have h_hs := h_hs.kept hfr (fun q h1 h2 h3 => by (try dsimp only at h3); omega)
  have h_hu := h_hu.kept hfr (fun q h1 h2 h3 => by (try dsimp only at h3); omega)
  have h_tx := h_tx.kept hfr (fun q h1 h2 h3 => by (try dsimp only at h3); omega)
  have h_tr := h_tr.kept hfr (fun q h1 h2 h3 => by (try dsimp only at h3); omega)
  have h_tb := h_tb.kept hfr (fun q h1 h2 h3 => by (try dsimp only at h3); omega)
  have h_tw := h_tw.kept hfr (fun q h1 h2 h3 => by (try dsimp only at h3); omega)
  have h_ws := h_ws.kept hfr (fun q h1 h2 h3 => by (try dsimp only at h3); omega)
  have hz0 : ∀ q, q < z → H1[q]? = s.heap[q]? := fun q hq => (hfr.2 q (fun h3 => by (try dsimp only at h3); omega)).trans (hz0 q hq)
  have hsz : s.heap.size ≤ H1.size := hfr.1 ▸ hsz
  refine lv_icmp_eq (tgt := 912) hx hb dL_law_647 (by decide) (fun _ => ?_) (fun cc1 => absurd rfl cc1)
  exact kk _ _ hL ⟨dv, v', hv', kv, tv, rv, vt, fv, wv, M', h_hl, h_bk, h_hs, h_hu, h_tx, h_tr, h_tb, h_tw, h_ws, h_md, r1, h1, (ht.cong rfl rfl (m0 6 (by decide)) m4), (CR.cong hc rfl (m0 4 (by decide))), hsh, hz0, hsz⟩

set_option maxRecDepth 100000 in
set_option maxHeartbeats 4000000 in
theorem lw_c16 {p : Program} {l : Launch} {e : Env} {s : State} {m : MethodId} {below : List Frame} {meth : Method} {c : Code} {b L a o z i : Nat} {xs : Nat → Int32} {G : xG} {ls : Array Slot} {H : Heap} {locs : List Loc} {Q : State → Prop} (S : CallFix p m c cL_law 4 s #[Value.ref b] wsL_law RL) (hKC : KC2 G z s) (hX : va_X b L xs s s.heap) (hzs : s.heap.size = z) (hbl : b < z) (ha : z ≤ a) (ho : a + 230 ≤ o) (hj : i + 7 ≤ L) (hN : L ≤ 3584) (hL : ∀ q ∈ locs, z ≤ q.base) (hW : WD G a o z s H) (hl : lv_has ls 4 [(0, .ref b), (1, .ref a), (2, .ref o), (3, .int (nI i))])
    (kk : ∀ (H1 : Heap) (locs1 : List Loc), (∀ q ∈ locs1, z ≤ q.base) → WD G a o z s H1 → W p l e room_1 s m #[Value.ref b] below meth c H1 locs1 235 9009 Q (F0 m 912 ls [])) : W p l e room_1 s m #[Value.ref b] below meth c H locs 235 9009 Q (F0 m 652 ls []) := by
  obtain ⟨dv, v, hv, kv, tv, rv, vt, fv, wv, M, h_hl, h_bk, h_hs, h_hu, h_tx, h_tr, h_tb, h_tw, h_ws, h_md, r, h, ht, hc, hsh, hz0, hsz⟩ := hW
  have hK := hKC.1
  obtain ⟨hx, hb, hml, hown, hts⟩ := id S
  obtain ⟨r0, v', hv', kv', M', e7, e8, r1, h1, m4, m0⟩ := s_lend r h dv (xs (i + 1)) (xs (i + 2))
  refine lv_aload_n hx hb dL_law_652 rfl (lv_at hl 1 rfl) ?_
  refine x_arg S hl 0 3 rfl rfl hX hzs hbl hz0 hsz hL 1 (by decide) (by omega) hN dL_law_653 dL_law_654 dL_law_655 dL_law_656 dL_law_657 ?_
  refine x_arg S hl 0 3 rfl rfl hX hzs hbl hz0 hsz hL 2 (by decide) (by omega) hN dL_law_658 dL_law_659 dL_law_660 dL_law_661 dL_law_662 ?_
  refine x_callVi (As := [.int (xs (i + 1)), .int (xs (i + 2))]) (rest := []) S hK (c_X7_lend l G z a dv v hv kv (xs (i + 1)) (xs (i + 2)) r0 v' hv' kv' (by omega) (by omega) e7) gL_law_X7_lend rfl 2 (by decide +kernel) rfl ⟨Nat.le_of_ble_eq_true rfl, Nat.le_of_ble_eq_true rfl⟩ h_hl 0 (by decide) rfl rfl rfl ⟨h_hl, h_bk, h_hs, h_hu⟩ hl.1 rfl (Nat.le_of_ble_eq_true rfl) dL_law_663 hL ⟨Nat.le_of_ble_eq_true rfl, Nat.le_of_ble_eq_true rfl⟩ (fun H1 locs hL hpost => ?_)
  obtain ⟨n_bk, n_hs, n_hu, hfr⟩ := hpost
  have h_hl := h_hl.kept hfr (fun q h1 h2 h3 => by (try dsimp only at h3); omega)
  have h_bk := n_bk
  have h_hs := n_hs
  have h_hu := n_hu
  have h_tx := h_tx.kept hfr (fun q h1 h2 h3 => by (try dsimp only at h3); omega)
  have h_tr := h_tr.kept hfr (fun q h1 h2 h3 => by (try dsimp only at h3); omega)
  have h_tb := h_tb.kept hfr (fun q h1 h2 h3 => by (try dsimp only at h3); omega)
  have h_tw := h_tw.kept hfr (fun q h1 h2 h3 => by (try dsimp only at h3); omega)
  have h_ws := h_ws.kept hfr (fun q h1 h2 h3 => by (try dsimp only at h3); omega)
  have h_md := h_md.kept hfr (fun q h1 h2 h3 => by (try dsimp only at h3); omega)
  have hz0 : ∀ q, q < z → H1[q]? = s.heap[q]? := fun q hq => (hfr.2 q (fun h3 => by (try dsimp only at h3); omega)).trans (hz0 q hq)
  have hsz : s.heap.size ≤ H1.size := hfr.1 ▸ hsz
  refine lv_aload_n hx hb dL_law_666 rfl (lv_at hl 2 rfl) ?_
  refine x_arg S hl 0 3 rfl rfl hX hzs hbl hz0 hsz hL 1 (by decide) (by omega) hN dL_law_667 dL_law_668 dL_law_669 dL_law_670 dL_law_671 ?_
  refine x_arg S hl 0 3 rfl rfl hX hzs hbl hz0 hsz hL 2 (by decide) (by omega) hN dL_law_672 dL_law_673 dL_law_674 dL_law_675 dL_law_676 ?_
  refine x_callVi (As := [.int (xs (i + 1)), .int (xs (i + 2))]) (rest := [.int r0]) S hK (c_X8_lend l G z o M (xs (i + 1)) (xs (i + 2)) r0 M' (by omega) e8) gL_law_X8_lend rfl 2 (by decide +kernel) rfl ⟨Nat.le_of_ble_eq_true rfl, Nat.le_of_ble_eq_true rfl⟩ h_md 0 (by decide) rfl rfl rfl h_md hl.1 rfl (Nat.le_of_ble_eq_true rfl) dL_law_677 hL ⟨Nat.le_of_ble_eq_true rfl, Nat.le_of_ble_eq_true rfl⟩ (fun H1 locs hL hpost => ?_)
  obtain ⟨n_md, hfr⟩ := hpost
  have h_md := n_md
  have h_hl := h_hl.kept hfr (fun q h1 h2 h3 => by (try dsimp only at h3); omega)
  have h_bk := h_bk.kept hfr (fun q h1 h2 h3 => by (try dsimp only at h3); omega)
  have h_hs := h_hs.kept hfr (fun q h1 h2 h3 => by (try dsimp only at h3); omega)
  have h_hu := h_hu.kept hfr (fun q h1 h2 h3 => by (try dsimp only at h3); omega)
  have h_tx := h_tx.kept hfr (fun q h1 h2 h3 => by (try dsimp only at h3); omega)
  have h_tr := h_tr.kept hfr (fun q h1 h2 h3 => by (try dsimp only at h3); omega)
  have h_tb := h_tb.kept hfr (fun q h1 h2 h3 => by (try dsimp only at h3); omega)
  have h_tw := h_tw.kept hfr (fun q h1 h2 h3 => by (try dsimp only at h3); omega)
  have h_ws := h_ws.kept hfr (fun q h1 h2 h3 => by (try dsimp only at h3); omega)
  have hz0 : ∀ q, q < z → H1[q]? = s.heap[q]? := fun q hq => (hfr.2 q (fun h3 => by (try dsimp only at h3); omega)).trans (hz0 q hq)
  have hsz : s.heap.size ≤ H1.size := hfr.1 ▸ hsz
  refine lv_icmp_eq (tgt := 912) hx hb dL_law_680 (by decide) (fun _ => ?_) (fun cc1 => absurd rfl cc1)
  exact kk _ _ hL ⟨dv, v', hv', kv', tv, rv, vt, fv, wv, M', h_hl, h_bk, h_hs, h_hu, h_tx, h_tr, h_tb, h_tw, h_ws, h_md, r1, h1, (ht.cong rfl rfl (m0 6 (by decide)) m4), (CR.cong hc rfl (m0 4 (by decide))), hsh, hz0, hsz⟩

set_option maxRecDepth 100000 in
set_option maxHeartbeats 4000000 in
theorem lw_c17 {p : Program} {l : Launch} {e : Env} {s : State} {m : MethodId} {below : List Frame} {meth : Method} {c : Code} {b L a o z i : Nat} {xs : Nat → Int32} {G : xG} {ls : Array Slot} {H : Heap} {locs : List Loc} {Q : State → Prop} (S : CallFix p m c cL_law 4 s #[Value.ref b] wsL_law RL) (hKC : KC2 G z s) (hX : va_X b L xs s s.heap) (hzs : s.heap.size = z) (hbl : b < z) (ha : z ≤ a) (ho : a + 230 ≤ o) (hj : i + 7 ≤ L) (hN : L ≤ 3584) (hL : ∀ q ∈ locs, z ≤ q.base) (hW : WD G a o z s H) (hl : lv_has ls 4 [(0, .ref b), (1, .ref a), (2, .ref o), (3, .int (nI i))])
    (kk : ∀ (H1 : Heap) (locs1 : List Loc), (∀ q ∈ locs1, z ≤ q.base) → WD G a o z s H1 → W p l e room_1 s m #[Value.ref b] below meth c H1 locs1 235 9009 Q (F0 m 912 ls [])) : W p l e room_1 s m #[Value.ref b] below meth c H locs 235 9009 Q (F0 m 685 ls []) := by
  obtain ⟨dv, v, hv, kv, tv, rv, vt, fv, wv, M, h_hl, h_bk, h_hs, h_hu, h_tx, h_tr, h_tb, h_tw, h_ws, h_md, r, h, ht, hc, hsh, hz0, hsz⟩ := hW
  have hK := hKC.1
  obtain ⟨hx, hb, hml, hown, hts⟩ := id S
  obtain ⟨r0, v', hv', kv', M', e7, e8, r1, h1, m4, m0⟩ := s_bringBack r h dv (xs (i + 1))
  refine lv_aload_n hx hb dL_law_685 rfl (lv_at hl 1 rfl) ?_
  refine x_arg S hl 0 3 rfl rfl hX hzs hbl hz0 hsz hL 1 (by decide) (by omega) hN dL_law_686 dL_law_687 dL_law_688 dL_law_689 dL_law_690 ?_
  refine x_callVi (As := [.int (xs (i + 1))]) (rest := []) S hK (c_X7_bringBack l G z a dv v hv kv (xs (i + 1)) r0 v' hv' kv' (by omega) (by omega) e7) gL_law_X7_bringBack rfl 1 (by decide +kernel) rfl ⟨Nat.le_of_ble_eq_true rfl, Nat.le_of_ble_eq_true rfl⟩ h_hl 0 (by decide) rfl rfl rfl ⟨h_hl, h_bk, h_hs, h_hu⟩ hl.1 rfl (Nat.le_of_ble_eq_true rfl) dL_law_691 hL ⟨Nat.le_of_ble_eq_true rfl, Nat.le_of_ble_eq_true rfl⟩ (fun H1 locs hL hpost => ?_)
  obtain ⟨n_bk, n_hs, n_hu, hfr⟩ := hpost
  have h_hl := h_hl.kept hfr (fun q h1 h2 h3 => by (try dsimp only at h3); omega)
  have h_bk := n_bk
  have h_hs := n_hs
  have h_hu := n_hu
  have h_tx := h_tx.kept hfr (fun q h1 h2 h3 => by (try dsimp only at h3); omega)
  have h_tr := h_tr.kept hfr (fun q h1 h2 h3 => by (try dsimp only at h3); omega)
  have h_tb := h_tb.kept hfr (fun q h1 h2 h3 => by (try dsimp only at h3); omega)
  have h_tw := h_tw.kept hfr (fun q h1 h2 h3 => by (try dsimp only at h3); omega)
  have h_ws := h_ws.kept hfr (fun q h1 h2 h3 => by (try dsimp only at h3); omega)
  have h_md := h_md.kept hfr (fun q h1 h2 h3 => by (try dsimp only at h3); omega)
  have hz0 : ∀ q, q < z → H1[q]? = s.heap[q]? := fun q hq => (hfr.2 q (fun h3 => by (try dsimp only at h3); omega)).trans (hz0 q hq)
  have hsz : s.heap.size ≤ H1.size := hfr.1 ▸ hsz
  refine lv_aload_n hx hb dL_law_694 rfl (lv_at hl 2 rfl) ?_
  refine x_arg S hl 0 3 rfl rfl hX hzs hbl hz0 hsz hL 1 (by decide) (by omega) hN dL_law_695 dL_law_696 dL_law_697 dL_law_698 dL_law_699 ?_
  refine x_callVi (As := [.int (xs (i + 1))]) (rest := [.int r0]) S hK (c_X8_bringBack l G z o M (xs (i + 1)) r0 M' (by omega) e8) gL_law_X8_bringBack rfl 1 (by decide +kernel) rfl ⟨Nat.le_of_ble_eq_true rfl, Nat.le_of_ble_eq_true rfl⟩ h_md 0 (by decide) rfl rfl rfl h_md hl.1 rfl (Nat.le_of_ble_eq_true rfl) dL_law_700 hL ⟨Nat.le_of_ble_eq_true rfl, Nat.le_of_ble_eq_true rfl⟩ (fun H1 locs hL hpost => ?_)
  obtain ⟨n_md, hfr⟩ := hpost
  have h_md := n_md
  have h_hl := h_hl.kept hfr (fun q h1 h2 h3 => by (try dsimp only at h3); omega)
  have h_bk := h_bk.kept hfr (fun q h1 h2 h3 => by (try dsimp only at h3); omega)
  have h_hs := h_hs.kept hfr (fun q h1 h2 h3 => by (try dsimp only at h3); omega)
  have h_hu := h_hu.kept hfr (fun q h1 h2 h3 => by (try dsimp only at h3); omega)
  have h_tx := h_tx.kept hfr (fun q h1 h2 h3 => by (try dsimp only at h3); omega)
  have h_tr := h_tr.kept hfr (fun q h1 h2 h3 => by (try dsimp only at h3); omega)
  have h_tb := h_tb.kept hfr (fun q h1 h2 h3 => by (try dsimp only at h3); omega)
  have h_tw := h_tw.kept hfr (fun q h1 h2 h3 => by (try dsimp only at h3); omega)
  have h_ws := h_ws.kept hfr (fun q h1 h2 h3 => by (try dsimp only at h3); omega)
  have hz0 : ∀ q, q < z → H1[q]? = s.heap[q]? := fun q hq => (hfr.2 q (fun h3 => by (try dsimp only at h3); omega)).trans (hz0 q hq)
  have hsz : s.heap.size ≤ H1.size := hfr.1 ▸ hsz
  refine lv_icmp_eq (tgt := 912) hx hb dL_law_703 (by decide) (fun _ => ?_) (fun cc1 => absurd rfl cc1)
  exact kk _ _ hL ⟨dv, v', hv', kv', tv, rv, vt, fv, wv, M', h_hl, h_bk, h_hs, h_hu, h_tx, h_tr, h_tb, h_tw, h_ws, h_md, r1, h1, (ht.cong rfl rfl (m0 6 (by decide)) m4), (CR.cong hc rfl (m0 4 (by decide))), hsh, hz0, hsz⟩

set_option maxRecDepth 100000 in
set_option maxHeartbeats 4000000 in
theorem lw_c18 {p : Program} {l : Launch} {e : Env} {s : State} {m : MethodId} {below : List Frame} {meth : Method} {c : Code} {b L a o z i : Nat} {xs : Nat → Int32} {G : xG} {ls : Array Slot} {H : Heap} {locs : List Loc} {Q : State → Prop} (S : CallFix p m c cL_law 4 s #[Value.ref b] wsL_law RL) (hKC : KC2 G z s) (hX : va_X b L xs s s.heap) (hzs : s.heap.size = z) (hbl : b < z) (ha : z ≤ a) (ho : a + 230 ≤ o) (hj : i + 7 ≤ L) (hN : L ≤ 3584) (hL : ∀ q ∈ locs, z ≤ q.base) (hW : WD G a o z s H) (hl : lv_has ls 4 [(0, .ref b), (1, .ref a), (2, .ref o), (3, .int (nI i))])
    (kk : ∀ (H1 : Heap) (locs1 : List Loc), (∀ q ∈ locs1, z ≤ q.base) → WD G a o z s H1 → W p l e room_1 s m #[Value.ref b] below meth c H1 locs1 235 9009 Q (F0 m 912 ls [])) : W p l e room_1 s m #[Value.ref b] below meth c H locs 235 9009 Q (F0 m 708 ls []) := by
  obtain ⟨dv, v, hv, kv, tv, rv, vt, fv, wv, M, h_hl, h_bk, h_hs, h_hu, h_tx, h_tr, h_tb, h_tw, h_ws, h_md, r, h, ht, hc, hsh, hz0, hsz⟩ := hW
  have hK := hKC.1
  obtain ⟨hx, hb, hml, hown, hts⟩ := id S
  obtain ⟨r0, e7, e8⟩ := s_key r dv (xs (i + 1)) (xs (i + 2))
  refine lv_aload_n hx hb dL_law_708 rfl (lv_at hl 1 rfl) ?_
  refine x_arg S hl 0 3 rfl rfl hX hzs hbl hz0 hsz hL 1 (by decide) (by omega) hN dL_law_709 dL_law_710 dL_law_711 dL_law_712 dL_law_713 ?_
  refine x_arg S hl 0 3 rfl rfl hX hzs hbl hz0 hsz hL 2 (by decide) (by omega) hN dL_law_714 dL_law_715 dL_law_716 dL_law_717 dL_law_718 ?_
  refine x_callVi (As := [.int (xs (i + 1)), .int (xs (i + 2))]) (rest := []) S hK (c_X7_key l G z a dv v (xs (i + 1)) (xs (i + 2)) r0 e7) gL_law_X7_key rfl 2 (by decide +kernel) rfl ⟨Nat.le_of_ble_eq_true rfl, Nat.le_of_ble_eq_true rfl⟩ h_hl 0 (by decide) rfl rfl rfl ⟨h_hl, h_bk⟩ hl.1 rfl (Nat.le_of_ble_eq_true rfl) dL_law_719 hL ⟨Nat.le_of_ble_eq_true rfl, Nat.le_of_ble_eq_true rfl⟩ (fun H1 locs hL hpost => ?_)
  subst hpost
  refine lv_aload_n hx hb dL_law_722 rfl (lv_at hl 2 rfl) ?_
  refine x_arg S hl 0 3 rfl rfl hX hzs hbl hz0 hsz hL 1 (by decide) (by omega) hN dL_law_723 dL_law_724 dL_law_725 dL_law_726 dL_law_727 ?_
  refine x_arg S hl 0 3 rfl rfl hX hzs hbl hz0 hsz hL 2 (by decide) (by omega) hN dL_law_728 dL_law_729 dL_law_730 dL_law_731 dL_law_732 ?_
  refine x_callVi (As := [.int (xs (i + 1)), .int (xs (i + 2))]) (rest := [.int r0]) S hK (c_X8_key l G z o M (xs (i + 1)) (xs (i + 2)) r0 e8) gL_law_X8_key rfl 2 (by decide +kernel) rfl ⟨Nat.le_of_ble_eq_true rfl, Nat.le_of_ble_eq_true rfl⟩ h_md 0 (by decide) rfl rfl rfl h_md hl.1 rfl (Nat.le_of_ble_eq_true rfl) dL_law_733 hL ⟨Nat.le_of_ble_eq_true rfl, Nat.le_of_ble_eq_true rfl⟩ (fun H1 locs hL hpost => ?_)
  subst hpost
  refine lv_icmp_eq (tgt := 912) hx hb dL_law_736 (by decide) (fun _ => ?_) (fun cc1 => absurd rfl cc1)
  exact kk _ _ hL ⟨dv, v, hv, kv, tv, rv, vt, fv, wv, M, h_hl, h_bk, h_hs, h_hu, h_tx, h_tr, h_tb, h_tw, h_ws, h_md, r, h, ht, hc, hsh, hz0, hsz⟩

set_option maxRecDepth 100000 in
set_option maxHeartbeats 4000000 in
theorem lw_c19 {p : Program} {l : Launch} {e : Env} {s : State} {m : MethodId} {below : List Frame} {meth : Method} {c : Code} {b L a o z i : Nat} {xs : Nat → Int32} {G : xG} {ls : Array Slot} {H : Heap} {locs : List Loc} {Q : State → Prop} (S : CallFix p m c cL_law 4 s #[Value.ref b] wsL_law RL) (hKC : KC2 G z s) (hX : va_X b L xs s s.heap) (hzs : s.heap.size = z) (hbl : b < z) (ha : z ≤ a) (ho : a + 230 ≤ o) (hj : i + 7 ≤ L) (hN : L ≤ 3584) (hL : ∀ q ∈ locs, z ≤ q.base) (hW : WD G a o z s H) (hl : lv_has ls 4 [(0, .ref b), (1, .ref a), (2, .ref o), (3, .int (nI i))])
    (kk : ∀ (H1 : Heap) (locs1 : List Loc), (∀ q ∈ locs1, z ≤ q.base) → WD G a o z s H1 → W p l e room_1 s m #[Value.ref b] below meth c H1 locs1 235 9009 Q (F0 m 912 ls [])) : W p l e room_1 s m #[Value.ref b] below meth c H locs 235 9009 Q (F0 m 741 ls []) := by
  obtain ⟨dv, v, hv, kv, tv, rv, vt, fv, wv, M, h_hl, h_bk, h_hs, h_hu, h_tx, h_tr, h_tb, h_tw, h_ws, h_md, r, h, ht, hc, hsh, hz0, hsz⟩ := hW
  have hK := hKC.1
  obtain ⟨hx, hb, hml, hown, hts⟩ := id S
  obtain ⟨r0, v', hv', kv', M', e7, e8, r1, h1, m4, m0⟩ := s_report r h dv (xs (i + 1)) (xs (i + 2))
  refine lv_aload_n hx hb dL_law_741 rfl (lv_at hl 1 rfl) ?_
  refine x_arg S hl 0 3 rfl rfl hX hzs hbl hz0 hsz hL 1 (by decide) (by omega) hN dL_law_742 dL_law_743 dL_law_744 dL_law_745 dL_law_746 ?_
  refine x_arg S hl 0 3 rfl rfl hX hzs hbl hz0 hsz hL 2 (by decide) (by omega) hN dL_law_747 dL_law_748 dL_law_749 dL_law_750 dL_law_751 ?_
  refine x_callVi (As := [.int (xs (i + 1)), .int (xs (i + 2))]) (rest := []) S hK (c_X7_report l G z a dv v hv kv (xs (i + 1)) (xs (i + 2)) r0 v' hv' kv' (by omega) (by omega) e7) gL_law_X7_report rfl 2 (by decide +kernel) rfl ⟨Nat.le_of_ble_eq_true rfl, Nat.le_of_ble_eq_true rfl⟩ h_hl 0 (by decide) rfl rfl rfl ⟨h_hl, h_bk, h_hs, h_hu⟩ hl.1 rfl (Nat.le_of_ble_eq_true rfl) dL_law_752 hL ⟨Nat.le_of_ble_eq_true rfl, Nat.le_of_ble_eq_true rfl⟩ (fun H1 locs hL hpost => ?_)
  obtain ⟨n_bk, n_hs, n_hu, hfr⟩ := hpost
  have h_hl := h_hl.kept hfr (fun q h1 h2 h3 => by (try dsimp only at h3); omega)
  have h_bk := n_bk
  have h_hs := n_hs
  have h_hu := n_hu
  have h_tx := h_tx.kept hfr (fun q h1 h2 h3 => by (try dsimp only at h3); omega)
  have h_tr := h_tr.kept hfr (fun q h1 h2 h3 => by (try dsimp only at h3); omega)
  have h_tb := h_tb.kept hfr (fun q h1 h2 h3 => by (try dsimp only at h3); omega)
  have h_tw := h_tw.kept hfr (fun q h1 h2 h3 => by (try dsimp only at h3); omega)
  have h_ws := h_ws.kept hfr (fun q h1 h2 h3 => by (try dsimp only at h3); omega)
  have h_md := h_md.kept hfr (fun q h1 h2 h3 => by (try dsimp only at h3); omega)
  have hz0 : ∀ q, q < z → H1[q]? = s.heap[q]? := fun q hq => (hfr.2 q (fun h3 => by (try dsimp only at h3); omega)).trans (hz0 q hq)
  have hsz : s.heap.size ≤ H1.size := hfr.1 ▸ hsz
  refine lv_aload_n hx hb dL_law_755 rfl (lv_at hl 2 rfl) ?_
  refine x_arg S hl 0 3 rfl rfl hX hzs hbl hz0 hsz hL 1 (by decide) (by omega) hN dL_law_756 dL_law_757 dL_law_758 dL_law_759 dL_law_760 ?_
  refine x_arg S hl 0 3 rfl rfl hX hzs hbl hz0 hsz hL 2 (by decide) (by omega) hN dL_law_761 dL_law_762 dL_law_763 dL_law_764 dL_law_765 ?_
  refine x_callVi (As := [.int (xs (i + 1)), .int (xs (i + 2))]) (rest := [.int r0]) S hK (c_X8_report l G z o M (xs (i + 1)) (xs (i + 2)) r0 M' (by omega) e8) gL_law_X8_report rfl 2 (by decide +kernel) rfl ⟨Nat.le_of_ble_eq_true rfl, Nat.le_of_ble_eq_true rfl⟩ h_md 0 (by decide) rfl rfl rfl h_md hl.1 rfl (Nat.le_of_ble_eq_true rfl) dL_law_766 hL ⟨Nat.le_of_ble_eq_true rfl, Nat.le_of_ble_eq_true rfl⟩ (fun H1 locs hL hpost => ?_)
  obtain ⟨n_md, hfr⟩ := hpost
  have h_md := n_md
  have h_hl := h_hl.kept hfr (fun q h1 h2 h3 => by (try dsimp only at h3); omega)
  have h_bk := h_bk.kept hfr (fun q h1 h2 h3 => by (try dsimp only at h3); omega)
  have h_hs := h_hs.kept hfr (fun q h1 h2 h3 => by (try dsimp only at h3); omega)
  have h_hu := h_hu.kept hfr (fun q h1 h2 h3 => by (try dsimp only at h3); omega)
  have h_tx := h_tx.kept hfr (fun q h1 h2 h3 => by (try dsimp only at h3); omega)
  have h_tr := h_tr.kept hfr (fun q h1 h2 h3 => by (try dsimp only at h3); omega)
  have h_tb := h_tb.kept hfr (fun q h1 h2 h3 => by (try dsimp only at h3); omega)
  have h_tw := h_tw.kept hfr (fun q h1 h2 h3 => by (try dsimp only at h3); omega)
  have h_ws := h_ws.kept hfr (fun q h1 h2 h3 => by (try dsimp only at h3); omega)
  have hz0 : ∀ q, q < z → H1[q]? = s.heap[q]? := fun q hq => (hfr.2 q (fun h3 => by (try dsimp only at h3); omega)).trans (hz0 q hq)
  have hsz : s.heap.size ≤ H1.size := hfr.1 ▸ hsz
  refine lv_icmp_eq (tgt := 912) hx hb dL_law_769 (by decide) (fun _ => ?_) (fun cc1 => absurd rfl cc1)
  exact kk _ _ hL ⟨dv, v', hv', kv', tv, rv, vt, fv, wv, M', h_hl, h_bk, h_hs, h_hu, h_tx, h_tr, h_tb, h_tw, h_ws, h_md, r1, h1, (ht.cong rfl rfl (m0 6 (by decide)) m4), (CR.cong hc rfl (m0 4 (by decide))), hsh, hz0, hsz⟩

set_option maxRecDepth 100000 in
set_option maxHeartbeats 4000000 in
theorem lw_c20 {p : Program} {l : Launch} {e : Env} {s : State} {m : MethodId} {below : List Frame} {meth : Method} {c : Code} {b L a o z i : Nat} {xs : Nat → Int32} {G : xG} {ls : Array Slot} {H : Heap} {locs : List Loc} {Q : State → Prop} (S : CallFix p m c cL_law 4 s #[Value.ref b] wsL_law RL) (hKC : KC2 G z s) (hX : va_X b L xs s s.heap) (hzs : s.heap.size = z) (hbl : b < z) (ha : z ≤ a) (ho : a + 230 ≤ o) (hj : i + 7 ≤ L) (hN : L ≤ 3584) (hL : ∀ q ∈ locs, z ≤ q.base) (hW : WD G a o z s H) (hl : lv_has ls 4 [(0, .ref b), (1, .ref a), (2, .ref o), (3, .int (nI i))])
    (kk : ∀ (H1 : Heap) (locs1 : List Loc), (∀ q ∈ locs1, z ≤ q.base) → WD G a o z s H1 → W p l e room_1 s m #[Value.ref b] below meth c H1 locs1 235 9009 Q (F0 m 912 ls [])) : W p l e room_1 s m #[Value.ref b] below meth c H locs 235 9009 Q (F0 m 774 ls []) := by
  obtain ⟨dv, v, hv, kv, tv, rv, vt, fv, wv, M, h_hl, h_bk, h_hs, h_hu, h_tx, h_tr, h_tb, h_tw, h_ws, h_md, r, h, ht, hc, hsh, hz0, hsz⟩ := hW
  have hK := hKC.1
  obtain ⟨hx, hb, hml, hown, hts⟩ := id S
  obtain ⟨r0, e7, e8⟩ := s_fault r dv (xs (i + 1)) (xs (i + 2)) (xs (i + 3))
  refine lv_aload_n hx hb dL_law_774 rfl (lv_at hl 1 rfl) ?_
  refine x_arg S hl 0 3 rfl rfl hX hzs hbl hz0 hsz hL 1 (by decide) (by omega) hN dL_law_775 dL_law_776 dL_law_777 dL_law_778 dL_law_779 ?_
  refine x_arg S hl 0 3 rfl rfl hX hzs hbl hz0 hsz hL 2 (by decide) (by omega) hN dL_law_780 dL_law_781 dL_law_782 dL_law_783 dL_law_784 ?_
  refine x_arg S hl 0 3 rfl rfl hX hzs hbl hz0 hsz hL 3 (by decide) (by omega) hN dL_law_785 dL_law_786 dL_law_787 dL_law_788 dL_law_789 ?_
  refine x_callVi (As := [.int (xs (i + 1)), .int (xs (i + 2)), .int (xs (i + 3))]) (rest := []) S hK (c_X7_fault l G z a dv v (xs (i + 1)) (xs (i + 2)) (xs (i + 3)) r0 e7) gL_law_X7_fault rfl 3 (by decide +kernel) rfl ⟨Nat.le_of_ble_eq_true rfl, Nat.le_of_ble_eq_true rfl⟩ h_hl 0 (by decide) rfl rfl rfl ⟨h_hl, h_bk⟩ hl.1 rfl (Nat.le_of_ble_eq_true rfl) dL_law_790 hL ⟨Nat.le_of_ble_eq_true rfl, Nat.le_of_ble_eq_true rfl⟩ (fun H1 locs hL hpost => ?_)
  subst hpost
  refine lv_aload_n hx hb dL_law_793 rfl (lv_at hl 2 rfl) ?_
  refine x_arg S hl 0 3 rfl rfl hX hzs hbl hz0 hsz hL 1 (by decide) (by omega) hN dL_law_794 dL_law_795 dL_law_796 dL_law_797 dL_law_798 ?_
  refine x_arg S hl 0 3 rfl rfl hX hzs hbl hz0 hsz hL 2 (by decide) (by omega) hN dL_law_799 dL_law_800 dL_law_801 dL_law_802 dL_law_803 ?_
  refine x_arg S hl 0 3 rfl rfl hX hzs hbl hz0 hsz hL 3 (by decide) (by omega) hN dL_law_804 dL_law_805 dL_law_806 dL_law_807 dL_law_808 ?_
  refine x_callVi (As := [.int (xs (i + 1)), .int (xs (i + 2)), .int (xs (i + 3))]) (rest := [.int r0]) S hK (c_X8_fault l G z o M (xs (i + 1)) (xs (i + 2)) (xs (i + 3)) r0 e8) gL_law_X8_fault rfl 3 (by decide +kernel) rfl ⟨Nat.le_of_ble_eq_true rfl, Nat.le_of_ble_eq_true rfl⟩ h_md 0 (by decide) rfl rfl rfl h_md hl.1 rfl (Nat.le_of_ble_eq_true rfl) dL_law_809 hL ⟨Nat.le_of_ble_eq_true rfl, Nat.le_of_ble_eq_true rfl⟩ (fun H1 locs hL hpost => ?_)
  subst hpost
  refine lv_icmp_eq (tgt := 912) hx hb dL_law_812 (by decide) (fun _ => ?_) (fun cc1 => absurd rfl cc1)
  exact kk _ _ hL ⟨dv, v, hv, kv, tv, rv, vt, fv, wv, M, h_hl, h_bk, h_hs, h_hu, h_tx, h_tr, h_tb, h_tw, h_ws, h_md, r, h, ht, hc, hsh, hz0, hsz⟩

set_option maxRecDepth 100000 in
set_option maxHeartbeats 4000000 in
theorem lw_c21 {p : Program} {l : Launch} {e : Env} {s : State} {m : MethodId} {below : List Frame} {meth : Method} {c : Code} {b L a o z i : Nat} {xs : Nat → Int32} {G : xG} {ls : Array Slot} {H : Heap} {locs : List Loc} {Q : State → Prop} (S : CallFix p m c cL_law 4 s #[Value.ref b] wsL_law RL) (hKC : KC2 G z s) (hX : va_X b L xs s s.heap) (hzs : s.heap.size = z) (hbl : b < z) (ha : z ≤ a) (ho : a + 230 ≤ o) (hj : i + 7 ≤ L) (hN : L ≤ 3584) (hL : ∀ q ∈ locs, z ≤ q.base) (hW : WD G a o z s H) (hl : lv_has ls 4 [(0, .ref b), (1, .ref a), (2, .ref o), (3, .int (nI i))])
    (kk : ∀ (H1 : Heap) (locs1 : List Loc), (∀ q ∈ locs1, z ≤ q.base) → WD G a o z s H1 → W p l e room_1 s m #[Value.ref b] below meth c H1 locs1 235 9009 Q (F0 m 912 ls [])) : W p l e room_1 s m #[Value.ref b] below meth c H locs 235 9009 Q (F0 m 817 ls []) := by
  obtain ⟨dv, v, hv, kv, tv, rv, vt, fv, wv, M, h_hl, h_bk, h_hs, h_hu, h_tx, h_tr, h_tb, h_tw, h_ws, h_md, r, h, ht, hc, hsh, hz0, hsz⟩ := hW
  have hK := hKC.1
  obtain ⟨hx, hb, hml, hown, hts⟩ := id S
  obtain ⟨r0, v', hv', kv', M', e7, e8, r1, h1, m4, m0⟩ := s_settle r h dv (xs (i + 1))
  refine lv_aload_n hx hb dL_law_817 rfl (lv_at hl 1 rfl) ?_
  refine x_arg S hl 0 3 rfl rfl hX hzs hbl hz0 hsz hL 1 (by decide) (by omega) hN dL_law_818 dL_law_819 dL_law_820 dL_law_821 dL_law_822 ?_
  refine x_callVi (As := [.int (xs (i + 1))]) (rest := []) S hK (c_X7_settle l G z a dv v hv kv (xs (i + 1)) r0 v' hv' kv' (by omega) (by omega) e7) gL_law_X7_settle rfl 1 (by decide +kernel) rfl ⟨Nat.le_of_ble_eq_true rfl, Nat.le_of_ble_eq_true rfl⟩ h_hl 0 (by decide) rfl rfl rfl ⟨h_hl, h_bk, h_hs, h_hu⟩ hl.1 rfl (Nat.le_of_ble_eq_true rfl) dL_law_823 hL ⟨Nat.le_of_ble_eq_true rfl, Nat.le_of_ble_eq_true rfl⟩ (fun H1 locs hL hpost => ?_)
  obtain ⟨n_bk, n_hs, n_hu, hfr⟩ := hpost
  have h_hl := h_hl.kept hfr (fun q h1 h2 h3 => by (try dsimp only at h3); omega)
  have h_bk := n_bk
  have h_hs := n_hs
  have h_hu := n_hu
  have h_tx := h_tx.kept hfr (fun q h1 h2 h3 => by (try dsimp only at h3); omega)
  have h_tr := h_tr.kept hfr (fun q h1 h2 h3 => by (try dsimp only at h3); omega)
  have h_tb := h_tb.kept hfr (fun q h1 h2 h3 => by (try dsimp only at h3); omega)
  have h_tw := h_tw.kept hfr (fun q h1 h2 h3 => by (try dsimp only at h3); omega)
  have h_ws := h_ws.kept hfr (fun q h1 h2 h3 => by (try dsimp only at h3); omega)
  have h_md := h_md.kept hfr (fun q h1 h2 h3 => by (try dsimp only at h3); omega)
  have hz0 : ∀ q, q < z → H1[q]? = s.heap[q]? := fun q hq => (hfr.2 q (fun h3 => by (try dsimp only at h3); omega)).trans (hz0 q hq)
  have hsz : s.heap.size ≤ H1.size := hfr.1 ▸ hsz
  refine lv_aload_n hx hb dL_law_826 rfl (lv_at hl 2 rfl) ?_
  refine x_arg S hl 0 3 rfl rfl hX hzs hbl hz0 hsz hL 1 (by decide) (by omega) hN dL_law_827 dL_law_828 dL_law_829 dL_law_830 dL_law_831 ?_
  refine x_callVi (As := [.int (xs (i + 1))]) (rest := [.int r0]) S hK (c_X8_settle l G z o M (xs (i + 1)) r0 M' (by omega) e8) gL_law_X8_settle rfl 1 (by decide +kernel) rfl ⟨Nat.le_of_ble_eq_true rfl, Nat.le_of_ble_eq_true rfl⟩ h_md 0 (by decide) rfl rfl rfl h_md hl.1 rfl (Nat.le_of_ble_eq_true rfl) dL_law_832 hL ⟨Nat.le_of_ble_eq_true rfl, Nat.le_of_ble_eq_true rfl⟩ (fun H1 locs hL hpost => ?_)
  obtain ⟨n_md, hfr⟩ := hpost
  have h_md := n_md
  have h_hl := h_hl.kept hfr (fun q h1 h2 h3 => by (try dsimp only at h3); omega)
  have h_bk := h_bk.kept hfr (fun q h1 h2 h3 => by (try dsimp only at h3); omega)
  have h_hs := h_hs.kept hfr (fun q h1 h2 h3 => by (try dsimp only at h3); omega)
  have h_hu := h_hu.kept hfr (fun q h1 h2 h3 => by (try dsimp only at h3); omega)
  have h_tx := h_tx.kept hfr (fun q h1 h2 h3 => by (try dsimp only at h3); omega)
  have h_tr := h_tr.kept hfr (fun q h1 h2 h3 => by (try dsimp only at h3); omega)
  have h_tb := h_tb.kept hfr (fun q h1 h2 h3 => by (try dsimp only at h3); omega)
  have h_tw := h_tw.kept hfr (fun q h1 h2 h3 => by (try dsimp only at h3); omega)
  have h_ws := h_ws.kept hfr (fun q h1 h2 h3 => by (try dsimp only at h3); omega)
  have hz0 : ∀ q, q < z → H1[q]? = s.heap[q]? := fun q hq => (hfr.2 q (fun h3 => by (try dsimp only at h3); omega)).trans (hz0 q hq)
  have hsz : s.heap.size ≤ H1.size := hfr.1 ▸ hsz
  refine lv_icmp_eq (tgt := 912) hx hb dL_law_835 (by decide) (fun _ => ?_) (fun cc1 => absurd rfl cc1)
  exact kk _ _ hL ⟨dv, v', hv', kv', tv, rv, vt, fv, wv, M', h_hl, h_bk, h_hs, h_hu, h_tx, h_tr, h_tb, h_tw, h_ws, h_md, r1, h1, (ht.cong rfl rfl (m0 6 (by decide)) m4), (CR.cong hc rfl (m0 4 (by decide))), hsh, hz0, hsz⟩

set_option maxRecDepth 100000 in
set_option maxHeartbeats 4000000 in
theorem lw_c22 {p : Program} {l : Launch} {e : Env} {s : State} {m : MethodId} {below : List Frame} {meth : Method} {c : Code} {b L a o z i : Nat} {xs : Nat → Int32} {G : xG} {ls : Array Slot} {H : Heap} {locs : List Loc} {Q : State → Prop} (S : CallFix p m c cL_law 4 s #[Value.ref b] wsL_law RL) (hKC : KC2 G z s) (hX : va_X b L xs s s.heap) (hzs : s.heap.size = z) (hbl : b < z) (ha : z ≤ a) (ho : a + 230 ≤ o) (hj : i + 7 ≤ L) (hN : L ≤ 3584) (hL : ∀ q ∈ locs, z ≤ q.base) (hW : WD G a o z s H) (hl : lv_has ls 4 [(0, .ref b), (1, .ref a), (2, .ref o), (3, .int (nI i))])
    (kk : ∀ (H1 : Heap) (locs1 : List Loc), (∀ q ∈ locs1, z ≤ q.base) → WD G a o z s H1 → W p l e room_1 s m #[Value.ref b] below meth c H1 locs1 235 9009 Q (F0 m 912 ls [])) : W p l e room_1 s m #[Value.ref b] below meth c H locs 235 9009 Q (F0 m 840 ls []) := by
  obtain ⟨dv, v, hv, kv, tv, rv, vt, fv, wv, M, h_hl, h_bk, h_hs, h_hu, h_tx, h_tr, h_tb, h_tw, h_ws, h_md, r, h, ht, hc, hsh, hz0, hsz⟩ := hW
  have hK := hKC.1
  obtain ⟨hx, hb, hml, hown, hts⟩ := id S
  obtain ⟨r0, tv', M', e7, e8, t1, m1, m0⟩ := s_type ht dv (xs (i + 1))
  refine lv_aload_n hx hb dL_law_840 rfl (lv_at hl 1 rfl) ?_
  refine x_arg S hl 0 3 rfl rfl hX hzs hbl hz0 hsz hL 1 (by decide) (by omega) hN dL_law_841 dL_law_842 dL_law_843 dL_law_844 dL_law_845 ?_
  refine x_callVi (As := [.int (xs (i + 1))]) (rest := []) S hK (c_X7_type l G z a dv tv (xs (i + 1)) r0 tv' (by omega) e7) gL_law_X7_type rfl 1 (by decide +kernel) rfl ⟨Nat.le_of_ble_eq_true rfl, Nat.le_of_ble_eq_true rfl⟩ h_hl 0 (by decide) rfl rfl rfl ⟨h_hl, h_tx⟩ hl.1 rfl (Nat.le_of_ble_eq_true rfl) dL_law_846 hL ⟨Nat.le_of_ble_eq_true rfl, Nat.le_of_ble_eq_true rfl⟩ (fun H1 locs hL hpost => ?_)
  obtain ⟨n_tx, hfr⟩ := hpost
  have h_hl := h_hl.kept hfr (fun q h1 h2 h3 => by (try dsimp only at h3); omega)
  have h_bk := h_bk.kept hfr (fun q h1 h2 h3 => by (try dsimp only at h3); omega)
  have h_hs := h_hs.kept hfr (fun q h1 h2 h3 => by (try dsimp only at h3); omega)
  have h_hu := h_hu.kept hfr (fun q h1 h2 h3 => by (try dsimp only at h3); omega)
  have h_tx := n_tx
  have h_tr := h_tr.kept hfr (fun q h1 h2 h3 => by (try dsimp only at h3); omega)
  have h_tb := h_tb.kept hfr (fun q h1 h2 h3 => by (try dsimp only at h3); omega)
  have h_tw := h_tw.kept hfr (fun q h1 h2 h3 => by (try dsimp only at h3); omega)
  have h_ws := h_ws.kept hfr (fun q h1 h2 h3 => by (try dsimp only at h3); omega)
  have h_md := h_md.kept hfr (fun q h1 h2 h3 => by (try dsimp only at h3); omega)
  have hz0 : ∀ q, q < z → H1[q]? = s.heap[q]? := fun q hq => (hfr.2 q (fun h3 => by (try dsimp only at h3); omega)).trans (hz0 q hq)
  have hsz : s.heap.size ≤ H1.size := hfr.1 ▸ hsz
  refine lv_aload_n hx hb dL_law_849 rfl (lv_at hl 2 rfl) ?_
  refine x_arg S hl 0 3 rfl rfl hX hzs hbl hz0 hsz hL 1 (by decide) (by omega) hN dL_law_850 dL_law_851 dL_law_852 dL_law_853 dL_law_854 ?_
  refine x_callVi (As := [.int (xs (i + 1))]) (rest := [.int r0]) S hK (c_X8_type l G z o M (xs (i + 1)) r0 M' (by omega) e8) gL_law_X8_type rfl 1 (by decide +kernel) rfl ⟨Nat.le_of_ble_eq_true rfl, Nat.le_of_ble_eq_true rfl⟩ h_md 0 (by decide) rfl rfl rfl h_md hl.1 rfl (Nat.le_of_ble_eq_true rfl) dL_law_855 hL ⟨Nat.le_of_ble_eq_true rfl, Nat.le_of_ble_eq_true rfl⟩ (fun H1 locs hL hpost => ?_)
  obtain ⟨n_md, hfr⟩ := hpost
  have h_md := n_md
  have h_hl := h_hl.kept hfr (fun q h1 h2 h3 => by (try dsimp only at h3); omega)
  have h_bk := h_bk.kept hfr (fun q h1 h2 h3 => by (try dsimp only at h3); omega)
  have h_hs := h_hs.kept hfr (fun q h1 h2 h3 => by (try dsimp only at h3); omega)
  have h_hu := h_hu.kept hfr (fun q h1 h2 h3 => by (try dsimp only at h3); omega)
  have h_tx := h_tx.kept hfr (fun q h1 h2 h3 => by (try dsimp only at h3); omega)
  have h_tr := h_tr.kept hfr (fun q h1 h2 h3 => by (try dsimp only at h3); omega)
  have h_tb := h_tb.kept hfr (fun q h1 h2 h3 => by (try dsimp only at h3); omega)
  have h_tw := h_tw.kept hfr (fun q h1 h2 h3 => by (try dsimp only at h3); omega)
  have h_ws := h_ws.kept hfr (fun q h1 h2 h3 => by (try dsimp only at h3); omega)
  have hz0 : ∀ q, q < z → H1[q]? = s.heap[q]? := fun q hq => (hfr.2 q (fun h3 => by (try dsimp only at h3); omega)).trans (hz0 q hq)
  have hsz : s.heap.size ≤ H1.size := hfr.1 ▸ hsz
  refine lv_icmp_eq (tgt := 912) hx hb dL_law_858 (by decide) (fun _ => ?_) (fun cc1 => absurd rfl cc1)
  exact kk _ _ hL ⟨dv, v, hv, kv, tv', rv, vt, fv, wv, M', h_hl, h_bk, h_hs, h_hu, h_tx, h_tr, h_tb, h_tw, h_ws, h_md, (by rw [m1 1 (by decide) (by decide)]; exact r), (h.cong (m0 3 (by decide)) (m1 2 (by decide) (by decide))), t1, (CR.cong hc rfl (m0 4 (by decide))), hsh, hz0, hsz⟩

set_option maxRecDepth 100000 in
set_option maxHeartbeats 4000000 in
theorem lw_c23 {p : Program} {l : Launch} {e : Env} {s : State} {m : MethodId} {below : List Frame} {meth : Method} {c : Code} {b L a o z i : Nat} {xs : Nat → Int32} {G : xG} {ls : Array Slot} {H : Heap} {locs : List Loc} {Q : State → Prop} (S : CallFix p m c cL_law 4 s #[Value.ref b] wsL_law RL) (hKC : KC2 G z s) (hX : va_X b L xs s s.heap) (hzs : s.heap.size = z) (hbl : b < z) (ha : z ≤ a) (ho : a + 230 ≤ o) (hj : i + 7 ≤ L) (hN : L ≤ 3584) (hL : ∀ q ∈ locs, z ≤ q.base) (hW : WD G a o z s H) (hl : lv_has ls 4 [(0, .ref b), (1, .ref a), (2, .ref o), (3, .int (nI i))])
    (kk : ∀ (H1 : Heap) (locs1 : List Loc), (∀ q ∈ locs1, z ≤ q.base) → WD G a o z s H1 → W p l e room_1 s m #[Value.ref b] below meth c H1 locs1 235 9009 Q (F0 m 912 ls [])) : W p l e room_1 s m #[Value.ref b] below meth c H locs 235 9009 Q (F0 m 863 ls []) := by
  obtain ⟨dv, v, hv, kv, tv, rv, vt, fv, wv, M, h_hl, h_bk, h_hs, h_hu, h_tx, h_tr, h_tb, h_tw, h_ws, h_md, r, h, ht, hc, hsh, hz0, hsz⟩ := hW
  have hK := hKC.1
  obtain ⟨hx, hb, hml, hown, hts⟩ := id S
  obtain ⟨r0, tv', M', e7, e8, t1, m1, m0⟩ := s_clear ht dv
  refine lv_aload_n hx hb dL_law_863 rfl (lv_at hl 1 rfl) ?_
  refine x_callVi (As := []) (rest := []) S hK (c_X7_clearText l G z a dv tv r0 tv' (by omega) e7) gL_law_X7_clearText rfl 0 (by decide +kernel) rfl ⟨Nat.le_of_ble_eq_true rfl, Nat.le_of_ble_eq_true rfl⟩ h_hl 0 (by decide) rfl rfl rfl ⟨h_hl, h_tx⟩ hl.1 rfl (Nat.le_of_ble_eq_true rfl) dL_law_864 hL ⟨Nat.le_of_ble_eq_true rfl, Nat.le_of_ble_eq_true rfl⟩ (fun H1 locs hL hpost => ?_)
  obtain ⟨n_tx, hfr⟩ := hpost
  have h_hl := h_hl.kept hfr (fun q h1 h2 h3 => by (try dsimp only at h3); omega)
  have h_bk := h_bk.kept hfr (fun q h1 h2 h3 => by (try dsimp only at h3); omega)
  have h_hs := h_hs.kept hfr (fun q h1 h2 h3 => by (try dsimp only at h3); omega)
  have h_hu := h_hu.kept hfr (fun q h1 h2 h3 => by (try dsimp only at h3); omega)
  have h_tx := n_tx
  have h_tr := h_tr.kept hfr (fun q h1 h2 h3 => by (try dsimp only at h3); omega)
  have h_tb := h_tb.kept hfr (fun q h1 h2 h3 => by (try dsimp only at h3); omega)
  have h_tw := h_tw.kept hfr (fun q h1 h2 h3 => by (try dsimp only at h3); omega)
  have h_ws := h_ws.kept hfr (fun q h1 h2 h3 => by (try dsimp only at h3); omega)
  have h_md := h_md.kept hfr (fun q h1 h2 h3 => by (try dsimp only at h3); omega)
  have hz0 : ∀ q, q < z → H1[q]? = s.heap[q]? := fun q hq => (hfr.2 q (fun h3 => by (try dsimp only at h3); omega)).trans (hz0 q hq)
  have hsz : s.heap.size ≤ H1.size := hfr.1 ▸ hsz
  refine lv_aload_n hx hb dL_law_867 rfl (lv_at hl 2 rfl) ?_
  refine x_callVi (As := []) (rest := [.int r0]) S hK (c_X8_clearText l G z o M r0 M' (by omega) e8) gL_law_X8_clearText rfl 0 (by decide +kernel) rfl ⟨Nat.le_of_ble_eq_true rfl, Nat.le_of_ble_eq_true rfl⟩ h_md 0 (by decide) rfl rfl rfl h_md hl.1 rfl (Nat.le_of_ble_eq_true rfl) dL_law_868 hL ⟨Nat.le_of_ble_eq_true rfl, Nat.le_of_ble_eq_true rfl⟩ (fun H1 locs hL hpost => ?_)
  obtain ⟨n_md, hfr⟩ := hpost
  have h_md := n_md
  have h_hl := h_hl.kept hfr (fun q h1 h2 h3 => by (try dsimp only at h3); omega)
  have h_bk := h_bk.kept hfr (fun q h1 h2 h3 => by (try dsimp only at h3); omega)
  have h_hs := h_hs.kept hfr (fun q h1 h2 h3 => by (try dsimp only at h3); omega)
  have h_hu := h_hu.kept hfr (fun q h1 h2 h3 => by (try dsimp only at h3); omega)
  have h_tx := h_tx.kept hfr (fun q h1 h2 h3 => by (try dsimp only at h3); omega)
  have h_tr := h_tr.kept hfr (fun q h1 h2 h3 => by (try dsimp only at h3); omega)
  have h_tb := h_tb.kept hfr (fun q h1 h2 h3 => by (try dsimp only at h3); omega)
  have h_tw := h_tw.kept hfr (fun q h1 h2 h3 => by (try dsimp only at h3); omega)
  have h_ws := h_ws.kept hfr (fun q h1 h2 h3 => by (try dsimp only at h3); omega)
  have hz0 : ∀ q, q < z → H1[q]? = s.heap[q]? := fun q hq => (hfr.2 q (fun h3 => by (try dsimp only at h3); omega)).trans (hz0 q hq)
  have hsz : s.heap.size ≤ H1.size := hfr.1 ▸ hsz
  refine lv_icmp_eq (tgt := 912) hx hb dL_law_871 (by decide) (fun _ => ?_) (fun cc1 => absurd rfl cc1)
  exact kk _ _ hL ⟨dv, v, hv, kv, tv', rv, vt, fv, wv, M', h_hl, h_bk, h_hs, h_hu, h_tx, h_tr, h_tb, h_tw, h_ws, h_md, (by rw [m1 1 (by decide)]; exact r), (h.cong (m0 3 (by decide)) (m1 2 (by decide))), t1, (CR.cong hc rfl (m0 4 (by decide))), hsh, hz0, hsz⟩

set_option maxRecDepth 100000 in
set_option maxHeartbeats 4000000 in
theorem lw_c24 {p : Program} {l : Launch} {e : Env} {s : State} {m : MethodId} {below : List Frame} {meth : Method} {c : Code} {b L a o z i : Nat} {xs : Nat → Int32} {G : xG} {ls : Array Slot} {H : Heap} {locs : List Loc} {Q : State → Prop} (S : CallFix p m c cL_law 4 s #[Value.ref b] wsL_law RL) (hKC : KC2 G z s) (hX : va_X b L xs s s.heap) (hzs : s.heap.size = z) (hbl : b < z) (ha : z ≤ a) (ho : a + 230 ≤ o) (hj : i + 7 ≤ L) (hN : L ≤ 3584) (hL : ∀ q ∈ locs, z ≤ q.base) (hW : WD G a o z s H) (hl : lv_has ls 4 [(0, .ref b), (1, .ref a), (2, .ref o), (3, .int (nI i))])
    (kk : ∀ (H1 : Heap) (locs1 : List Loc), (∀ q ∈ locs1, z ≤ q.base) → WD G a o z s H1 → W p l e room_1 s m #[Value.ref b] below meth c H1 locs1 235 9009 Q (F0 m 912 ls [])) : W p l e room_1 s m #[Value.ref b] below meth c H locs 235 9009 Q (F0 m 876 ls []) := by
  obtain ⟨dv, v, hv, kv, tv, rv, vt, fv, wv, M, h_hl, h_bk, h_hs, h_hu, h_tx, h_tr, h_tb, h_tw, h_ws, h_md, r, h, ht, hc, hsh, hz0, hsz⟩ := hW
  have hK := hKC.1
  obtain ⟨hx, hb, hml, hown, hts⟩ := id S
  obtain ⟨r0, tv', rv', vt', fv', M', e7, e8, r1, h1, t1, s1, m4⟩ := s_textFault r h ht hsh dv rv fv (xs (i + 1))
  refine lv_aload_n hx hb dL_law_876 rfl (lv_at hl 1 rfl) ?_
  refine x_arg S hl 0 3 rfl rfl hX hzs hbl hz0 hsz hL 1 (by decide) (by omega) hN dL_law_877 dL_law_878 dL_law_879 dL_law_880 dL_law_881 ?_
  refine x_callVi (As := [.int (xs (i + 1))]) (rest := []) S hK (c_X7_textFault l G z a dv v tv rv vt fv (xs (i + 1)) r0 tv' rv' vt' fv' (by omega) (by omega) (by omega) (by omega) e7) gL_law_X7_textFault rfl 1 (by decide +kernel) rfl ⟨Nat.le_of_ble_eq_true rfl, Nat.le_of_ble_eq_true rfl⟩ h_hl 0 (by decide) rfl rfl rfl ⟨h_hl, h_bk, h_tx, h_tr, h_tb, h_tw⟩ hl.1 rfl (Nat.le_of_ble_eq_true rfl) dL_law_882 hL ⟨Nat.le_of_ble_eq_true rfl, Nat.le_of_ble_eq_true rfl⟩ (fun H1 locs hL hpost => ?_)
  obtain ⟨n_tx, n_tr, n_tb, n_tw, hfr⟩ := hpost
  have h_hl := h_hl.kept hfr (fun q h1 h2 h3 => by (try dsimp only at h3); omega)
  have h_bk := h_bk.kept hfr (fun q h1 h2 h3 => by (try dsimp only at h3); omega)
  have h_hs := h_hs.kept hfr (fun q h1 h2 h3 => by (try dsimp only at h3); omega)
  have h_hu := h_hu.kept hfr (fun q h1 h2 h3 => by (try dsimp only at h3); omega)
  have h_tx := n_tx
  have h_tr := n_tr
  have h_tb := n_tb
  have h_tw := n_tw
  have h_ws := h_ws.kept hfr (fun q h1 h2 h3 => by (try dsimp only at h3); omega)
  have h_md := h_md.kept hfr (fun q h1 h2 h3 => by (try dsimp only at h3); omega)
  have hz0 : ∀ q, q < z → H1[q]? = s.heap[q]? := fun q hq => (hfr.2 q (fun h3 => by (try dsimp only at h3); omega)).trans (hz0 q hq)
  have hsz : s.heap.size ≤ H1.size := hfr.1 ▸ hsz
  refine lv_aload_n hx hb dL_law_885 rfl (lv_at hl 2 rfl) ?_
  refine x_arg S hl 0 3 rfl rfl hX hzs hbl hz0 hsz hL 1 (by decide) (by omega) hN dL_law_886 dL_law_887 dL_law_888 dL_law_889 dL_law_890 ?_
  refine x_callVi (As := [.int (xs (i + 1))]) (rest := [.int r0]) S hK (c_X8_textFault l G z o M (xs (i + 1)) r0 M' (by omega) e8) gL_law_X8_textFault rfl 1 (by decide +kernel) rfl ⟨Nat.le_of_ble_eq_true rfl, Nat.le_of_ble_eq_true rfl⟩ h_md 0 (by decide) rfl rfl rfl h_md hl.1 rfl (Nat.le_of_ble_eq_true rfl) dL_law_891 hL ⟨Nat.le_of_ble_eq_true rfl, Nat.le_of_ble_eq_true rfl⟩ (fun H1 locs hL hpost => ?_)
  obtain ⟨n_md, hfr⟩ := hpost
  have h_md := n_md
  have h_hl := h_hl.kept hfr (fun q h1 h2 h3 => by (try dsimp only at h3); omega)
  have h_bk := h_bk.kept hfr (fun q h1 h2 h3 => by (try dsimp only at h3); omega)
  have h_hs := h_hs.kept hfr (fun q h1 h2 h3 => by (try dsimp only at h3); omega)
  have h_hu := h_hu.kept hfr (fun q h1 h2 h3 => by (try dsimp only at h3); omega)
  have h_tx := h_tx.kept hfr (fun q h1 h2 h3 => by (try dsimp only at h3); omega)
  have h_tr := h_tr.kept hfr (fun q h1 h2 h3 => by (try dsimp only at h3); omega)
  have h_tb := h_tb.kept hfr (fun q h1 h2 h3 => by (try dsimp only at h3); omega)
  have h_tw := h_tw.kept hfr (fun q h1 h2 h3 => by (try dsimp only at h3); omega)
  have h_ws := h_ws.kept hfr (fun q h1 h2 h3 => by (try dsimp only at h3); omega)
  have hz0 : ∀ q, q < z → H1[q]? = s.heap[q]? := fun q hq => (hfr.2 q (fun h3 => by (try dsimp only at h3); omega)).trans (hz0 q hq)
  have hsz : s.heap.size ≤ H1.size := hfr.1 ▸ hsz
  refine lv_icmp_eq (tgt := 912) hx hb dL_law_894 (by decide) (fun _ => ?_) (fun cc1 => absurd rfl cc1)
  exact kk _ _ hL ⟨dv, v, hv, kv, tv', rv', vt', fv', wv, M', h_hl, h_bk, h_hs, h_hu, h_tx, h_tr, h_tb, h_tw, h_ws, h_md, r1, h1, t1, (CR.cong hc rfl m4), s1, hz0, hsz⟩

set_option maxRecDepth 100000 in
set_option maxHeartbeats 4000000 in
theorem lw_c25 {p : Program} {l : Launch} {e : Env} {s : State} {m : MethodId} {below : List Frame} {meth : Method} {c : Code} {b L a o z i : Nat} {xs : Nat → Int32} {G : xG} {ls : Array Slot} {H : Heap} {locs : List Loc} {Q : State → Prop} (S : CallFix p m c cL_law 4 s #[Value.ref b] wsL_law RL) (hKC : KC2 G z s) (hX : va_X b L xs s s.heap) (hzs : s.heap.size = z) (hbl : b < z) (ha : z ≤ a) (ho : a + 230 ≤ o) (hj : i + 7 ≤ L) (hN : L ≤ 3584) (hL : ∀ q ∈ locs, z ≤ q.base) (hW : WD G a o z s H) (hl : lv_has ls 4 [(0, .ref b), (1, .ref a), (2, .ref o), (3, .int (nI i))])
    (kk : ∀ (H1 : Heap) (locs1 : List Loc), (∀ q ∈ locs1, z ≤ q.base) → WD G a o z s H1 → W p l e room_1 s m #[Value.ref b] below meth c H1 locs1 235 9009 Q (F0 m 912 ls [])) : W p l e room_1 s m #[Value.ref b] below meth c H locs 235 9009 Q (F0 m 899 ls []) := by
  obtain ⟨dv, v, hv, kv, tv, rv, vt, fv, wv, M, h_hl, h_bk, h_hs, h_hu, h_tx, h_tr, h_tb, h_tw, h_ws, h_md, r, h, ht, hc, hsh, hz0, hsz⟩ := hW
  have hK := hKC.1
  obtain ⟨hx, hb, hml, hown, hts⟩ := id S
  obtain ⟨r0, dv', v', hv', kv', tv', rv', vt', fv', M', e7, e8, r1, h1, t1, s1, c1⟩ := s_enter r h ht hsh hc rv fv
  refine lv_aload_n hx hb dL_law_899 rfl (lv_at hl 1 rfl) ?_
  refine x_callVi (As := []) (rest := []) S hK (c_X7_enter l G z a dv v hv kv tv rv vt fv r0 dv' v' hv' kv' tv' rv' vt' fv' (by omega) (by omega) (by omega) (by omega) (by omega) (by omega) (by omega) e7) gL_law_X7_enter rfl 0 (by decide +kernel) rfl ⟨Nat.le_of_ble_eq_true rfl, Nat.le_of_ble_eq_true rfl⟩ h_hl 0 (by decide) rfl rfl rfl ⟨h_hl, h_bk, h_hs, h_hu, h_tx, h_tr, h_tb, h_tw⟩ hl.1 rfl (Nat.le_of_ble_eq_true rfl) dL_law_900 hL ⟨Nat.le_of_ble_eq_true rfl, Nat.le_of_ble_eq_true rfl⟩ (fun H1 locs hL hpost => ?_)
  obtain ⟨n_hl, n_bk, n_hs, n_hu, n_tx, n_tr, n_tb, n_tw, hfr⟩ := hpost
  have h_hl := n_hl
  have h_bk := n_bk
  have h_hs := n_hs
  have h_hu := n_hu
  have h_tx := n_tx
  have h_tr := n_tr
  have h_tb := n_tb
  have h_tw := n_tw
  have h_ws := h_ws.kept hfr (fun q h1 h2 h3 => by (try dsimp only at h3); omega)
  have h_md := h_md.kept hfr (fun q h1 h2 h3 => by (try dsimp only at h3); omega)
  have hz0 : ∀ q, q < z → H1[q]? = s.heap[q]? := fun q hq => (hfr.2 q (fun h3 => by (try dsimp only at h3); omega)).trans (hz0 q hq)
  have hsz : s.heap.size ≤ H1.size := hfr.1 ▸ hsz
  refine lv_aload_n hx hb dL_law_903 rfl (lv_at hl 2 rfl) ?_
  refine x_callVi (As := []) (rest := [.int r0]) S hK (c_X8_enter l G z o M r0 M' (by omega) e8) gL_law_X8_enter rfl 0 (by decide +kernel) rfl ⟨Nat.le_of_ble_eq_true rfl, Nat.le_of_ble_eq_true rfl⟩ h_md 0 (by decide) rfl rfl rfl h_md hl.1 rfl (Nat.le_of_ble_eq_true rfl) dL_law_904 hL ⟨Nat.le_of_ble_eq_true rfl, Nat.le_of_ble_eq_true rfl⟩ (fun H1 locs hL hpost => ?_)
  obtain ⟨n_md, hfr⟩ := hpost
  have h_md := n_md
  have h_hl := h_hl.kept hfr (fun q h1 h2 h3 => by (try dsimp only at h3); omega)
  have h_bk := h_bk.kept hfr (fun q h1 h2 h3 => by (try dsimp only at h3); omega)
  have h_hs := h_hs.kept hfr (fun q h1 h2 h3 => by (try dsimp only at h3); omega)
  have h_hu := h_hu.kept hfr (fun q h1 h2 h3 => by (try dsimp only at h3); omega)
  have h_tx := h_tx.kept hfr (fun q h1 h2 h3 => by (try dsimp only at h3); omega)
  have h_tr := h_tr.kept hfr (fun q h1 h2 h3 => by (try dsimp only at h3); omega)
  have h_tb := h_tb.kept hfr (fun q h1 h2 h3 => by (try dsimp only at h3); omega)
  have h_tw := h_tw.kept hfr (fun q h1 h2 h3 => by (try dsimp only at h3); omega)
  have h_ws := h_ws.kept hfr (fun q h1 h2 h3 => by (try dsimp only at h3); omega)
  have hz0 : ∀ q, q < z → H1[q]? = s.heap[q]? := fun q hq => (hfr.2 q (fun h3 => by (try dsimp only at h3); omega)).trans (hz0 q hq)
  have hsz : s.heap.size ≤ H1.size := hfr.1 ▸ hsz
  refine lv_icmp_eq (tgt := 912) hx hb dL_law_907 (by decide) (fun _ => ?_) (fun cc1 => absurd rfl cc1)
  exact kk _ _ hL ⟨dv', v', hv', kv', tv', rv', vt', fv', wv, M', h_hl, h_bk, h_hs, h_hu, h_tx, h_tr, h_tb, h_tw, h_ws, h_md, r1, h1, t1, c1, s1, hz0, hsz⟩
