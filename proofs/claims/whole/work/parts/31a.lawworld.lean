/-! ===== the law: the world between two calls, and its rows ===== -/
/-- the world between two calls: the hall from a on, the reference from o on, and the relation of the two -/
def WD (G : xG) (a o z : Nat) (s : State) (H : Heap) : Prop := ∃ (dv v hv : xV) (kv : Nat → xV) (tv rv vt fv wv M : xV), PX G a 1 (hlE a) dv H ∧ PX G (a + 1) 37 (bkE G (a + 1)) v H ∧ PX G (a + 38) 2 (hsE G (a + 38)) hv H ∧ HU G (a + 38) kv H ∧ PX G (a + 188) 2 (txE G (a + 188)) tv H ∧ PX G (a + 190) 1 (trE (a + 190)) rv H ∧ PX G (a + 190 + 1) 37 (bkE G (a + 190 + 1)) vt H ∧ PX G (a + 190 + 38) 1 wsE fv H ∧ PX G (a + 229) 1 wsE wv H ∧ PX G o 5 (mdE G o) M H ∧ RB v (M 1) ∧ HR hv kv M ∧ TR tv M ∧ CR dv M ∧ Shape vt ∧ (∀ q, q < z → H[q]? = s.heap[q]?) ∧ s.heap.size ≤ H.size
section XLAW
variable {p : Program} {l : Launch} {e : Env} {R : Room} {s : State} {m : MethodId} {args : Array Value} {below : List Frame} {meth : Method} {c : Code} {H : Heap} {locs : List Loc} {cells slots : Nat} {Q : State → Prop}
variable {cc : ByteArray} {pc nL : Nat} {ls : Array Slot} {rest : List Value} {G : xG} {a b z : Nat} {own : String} {Ts : List Cond} {lv : List (Nat × Value)} {L i : Nat} {xs : Nat → Int32}
/-- a word of the script -/
theorem x_word (S : CallFix p m c cc nL s args Ts own) (hX : va_X b L xs s s.heap) (hzs : s.heap.size = z) (hbl : b < z) (hz0 : ∀ q, q < z → H[q]? = s.heap[q]?) (hsz : s.heap.size ≤ H.size) (hL : ∀ q ∈ locs, z ≤ q.base) {j : Nat} (hj : j < L) (hN : L ≤ 3584) (hdg : decode cc pc = .ok (.iaload, 1))
    (kk : W p l e R s m args below meth c H locs cells slots Q (F0 m (pc + 1) ls (.int (xs j) :: rest))) : W p l e R s m args below meth c H locs cells slots Q (F0 m pc ls (.int (nI j) :: .ref b :: rest)) := by
  refine va_sld (A := fun q => z ≤ q) S.1 S.2.1 hX (by omega) (by omega) ⟨hsz, fun q _ h => hz0 q (by omega), hL⟩ (nI_in hj (by omega)) hdg ?_
  rw [nI_clamp (by omega)]
  exact kk
/-- an argument of a call: the script's word at i + k -/
theorem x_arg (S : CallFix p m c cc nL s args Ts own) (hl : lv_has ls nL lv) (n0 n3 : Nat) (h0 : lv[n0]? = some (0, .ref b)) (h3 : lv[n3]? = some (3, .int (nI i))) (hX : va_X b L xs s s.heap) (hzs : s.heap.size = z) (hbl : b < z) (hz0 : ∀ q, q < z → H[q]? = s.heap[q]?) (hsz : s.heap.size ≤ H.size) (hL : ∀ q ∈ locs, z ≤ q.base) {n : Int} (k : Nat) (hk : Int32.ofInt n = nI k) (hj : i + k < L) (hN : L ≤ 3584)
    (d0 : decode cc pc = .ok (.aload_n 0, 1)) (d1 : decode cc (pc + 1) = .ok (.iload_n 3, 1)) (d2 : decode cc (pc + 2) = .ok (.iconst n, 1)) (d3 : decode cc (pc + 3) = .ok (.iadd, 1)) (d4 : decode cc (pc + 4) = .ok (.iaload, 1))
    (kk : W p l e R s m args below meth c H locs cells slots Q (F0 m (pc + 5) ls (.int (xs (i + k)) :: rest))) : W p l e R s m args below meth c H locs cells slots Q (F0 m pc ls rest) := by
  obtain ⟨hx, hb, hml, hown, hts⟩ := id S
  refine lv_aload_n hx hb d0 rfl (lv_at hl n0 h0) ?_
  refine lv_iload_n hx hb d1 rfl (lv_at hl n3 h3) ?_
  refine lv_iconst (v := nI k) hx hb d2 hk ?_
  refine lv_iadd hx hb d3 ?_
  refine x_top (x := nI (i + k)) (nI_add i k).symm ?_
  exact x_word S hX hzs hbl hz0 hsz hL hj hN d4 kk
theorem x_argB (S : CallFix p m c cc nL s args Ts own) (hl : lv_has ls nL lv) (n0 n3 : Nat) (h0 : lv[n0]? = some (0, .ref b)) (h3 : lv[n3]? = some (3, .int (nI i))) (hX : va_X b L xs s s.heap) (hzs : s.heap.size = z) (hbl : b < z) (hz0 : ∀ q, q < z → H[q]? = s.heap[q]?) (hsz : s.heap.size ≤ H.size) (hL : ∀ q ∈ locs, z ≤ q.base) {n : Int} (k : Nat) (hk : (Int8.ofInt n).toInt32 = nI k) (hj : i + k < L) (hN : L ≤ 3584)
    (d0 : decode cc pc = .ok (.aload_n 0, 1)) (d1 : decode cc (pc + 1) = .ok (.iload_n 3, 1)) (d2 : decode cc (pc + 2) = .ok (.bipush n, 2)) (d3 : decode cc (pc + 4) = .ok (.iadd, 1)) (d4 : decode cc (pc + 5) = .ok (.iaload, 1))
    (kk : W p l e R s m args below meth c H locs cells slots Q (F0 m (pc + 6) ls (.int (xs (i + k)) :: rest))) : W p l e R s m args below meth c H locs cells slots Q (F0 m pc ls rest) := by
  obtain ⟨hx, hb, hml, hown, hts⟩ := id S
  refine lv_aload_n hx hb d0 rfl (lv_at hl n0 h0) ?_
  refine lv_iload_n hx hb d1 rfl (lv_at hl n3 h3) ?_
  refine lv_bipush (v := nI k) hx hb d2 hk ?_
  refine lv_iadd hx hb d3 ?_
  refine x_top (x := nI (i + k)) (nI_add i k).symm ?_
  exact x_word S hX hzs hbl hz0 hsz hL hj hN d4 kk
theorem x_callVK {y : MethodName} {bytes : ByteArray} {maxL index fr lo : Nat} {ret : Option FieldType} {ws ws' : List Cond} {As st0 : List Value} {Pic : Heap → Prop} {r0 : Value} {post : Heap → Heap → Prop} {K : State → Prop} (S : CallFix p m c cc nL s args Ts own) (hK : KK G s) (hKU : ∀ U : State, U.heap = H → s.WarmedH U.vm → K U) (hKB : ∀ (U : State) (g : JFrame) (mk : MethodId) (a : Array Value), K U → K (U.calling g mk a)) {C : String} {rb : Nat} (hM : xMc l y ws fr lo 0 0 K z (.ref rb :: As) Pic (some r0) post) (hG : GoodIn Ts (wsV own index C y ws)) (hw : ws = Cond.code y bytes maxL ret :: ws') (n : Nat) (hd : y.cls = C ∧ y.cls ≠ "java/lang/invoke/MethodHandle" ∧ y.cls ≠ "java/lang/invoke/VarHandle" ∧ (parseMethodDescriptor y.desc).map (fun d => d.parameters.length) = some n) (hn : As.length = n) (hR : fr + 1 ≤ R.frames ∧ 8 + (maxL + 11) + lo ≤ R.locals)
    {bb NN : Nat} {EE : Nat → (Nat → Int32) → va_E} {vv : xV} (hB : PX G bb NN EE vv H) (k : Nat) (hk : k < NN) (hb2 : rb = bb + k) {ci M : Nat} {T : u_T} {fs : List Value} (hE : EE k (vv k) = .inr (ci, fs)) (hc : vwCl[ci]? = some (C, T, M)) (hpic : Pic H) (hls : ls.size = nL) (hst : st0 = As.reverse ++ .ref rb :: rest) (hrest : (rest.map fun v => v.category).sum ≤ 8) (hdg : decode cc pc = .ok (.invokevirtual index, 3)) (hL : ∀ q ∈ locs, z ≤ q.base) (hcs : cells ≤ R.cells ∧ slots ≤ R.slots)
    (kk : ∀ (H1 : Heap) (locs1 : List Loc), (∀ q ∈ locs1, z ≤ q.base) → post H H1 → W p l e R s m args below meth c H1 locs1 cells slots Q (F0 m (pc + 3) ls (r0 :: rest))) : W p l e R s m args below meth c H locs cells slots Q (F0 m pc ls st0) := by
  have hA := hB k hk
  rw [← hb2, hE] at hA
  have hrecv := va_recv (D := G.1) hK.1 hA.P hc (q0 := 0) rfl
  refine x_runQ (mc := 0) (ms := 0) (rv := some r0) (post := post) (rest := rest) (va_runV (C := C) (b := rb) (As := As) (rest := rest) S hM (cwV n S.2.2.2.2 hG hw rfl rfl hd hR) ⟨fun a U g mk q => ⟨q.1, hKB U g mk a q.2.1, q.2.2⟩, hrecv, fun U hU hW => ⟨rfl, hKU U hU hW, by rw [hU]; exact hpic⟩⟩ rfl hn hls hst (lv_room hrest) hdg ⟨hcs.1, hcs.2⟩) hL kk
end XLAW
theorem CR.cong {dv dv' M M' : xV} (h : CR dv M) (h1 : dv' 0 5 = dv 0 5) (h2 : M' 0 4 = M 0 4) : CR dv' M' := by
  unfold CR
  rw [h1, h2]
  exact h
set_option maxRecDepth 100000 in
set_option maxHeartbeats 4000000 in
theorem lw_c0 {p : Program} {l : Launch} {e : Env} {s : State} {m : MethodId} {below : List Frame} {meth : Method} {c : Code} {b L a o z i : Nat} {xs : Nat → Int32} {G : xG} {ls : Array Slot} {H : Heap} {locs : List Loc} {Q : State → Prop} (S : CallFix p m c cL_law 4 s #[Value.ref b] wsL_law RL) (hKC : KC2 G z s) (hX : va_X b L xs s s.heap) (hzs : s.heap.size = z) (hbl : b < z) (ha : z ≤ a) (ho : a + 230 ≤ o) (hj : i + 7 ≤ L) (hN : L ≤ 3584) (hL : ∀ q ∈ locs, z ≤ q.base) (hW : WD G a o z s H) (hl : lv_has ls 4 [(0, .ref b), (1, .ref a), (2, .ref o), (3, .int (nI i))])
    (kk : ∀ (H1 : Heap) (locs1 : List Loc), (∀ q ∈ locs1, z ≤ q.base) → WD G a o z s H1 → W p l e room_1 s m #[Value.ref b] below meth c H1 locs1 235 9009 Q (F0 m 912 ls [])) : W p l e room_1 s m #[Value.ref b] below meth c H locs 235 9009 Q (F0 m 152 ls []) := by
  obtain ⟨dv, v, hv, kv, tv, rv, vt, fv, wv, M, h_hl, h_bk, h_hs, h_hu, h_tx, h_tr, h_tb, h_tw, h_ws, h_md, r, h, ht, hc, hsh, hz0, hsz⟩ := hW
  have hK := hKC.1
  obtain ⟨hx, hb, hml, hown, hts⟩ := id S
  obtain ⟨r0, v', hv', kv', M', e7, e8, r1, h1, m4, m0⟩ := s_addHirer r h dv 
  refine lv_aload_n hx hb dL_law_152 rfl (lv_at hl 1 rfl) ?_
  refine x_callVi (As := []) (rest := []) S hK (c_X7_addHirer l G z a dv v hv kv r0 v' hv' kv' (by omega) (by omega) e7) gL_law_X7_addHirer rfl 0 (by decide +kernel) rfl ⟨Nat.le_of_ble_eq_true rfl, Nat.le_of_ble_eq_true rfl⟩ h_hl 0 (by decide) rfl rfl rfl ⟨h_hl, h_bk, h_hs, h_hu⟩ hl.1 rfl (Nat.le_of_ble_eq_true rfl) dL_law_153 hL ⟨Nat.le_of_ble_eq_true rfl, Nat.le_of_ble_eq_true rfl⟩ (fun H1 locs hL hpost => ?_)
  obtain ⟨n_bk, n_hs, n_hu, hfr⟩ := hpost
  have h_hl := h_hl.kept hfr (fun q h1 h2 h3 => by (try dsimp only at h3); omega)
  have h_bk := n_bk
  have h_hs := n_hs
  have h_hu := n_hu
  have h_tx := h_tx.kept hfr (fun q h1 h2 h3 => by (try dsimp only at h3); omega)
  have h_tr := h_tr.kept hfr (fun q h1 h2 h3 => by (try dsimp only at h3); omega)
  have h_tb := h_tb.kept hfr (fun q h1 h2 h3 => by (try dsimp only at h3); omega)
  have h_tw := h_tw.kept hfr (fun q h1 h2 h3 => by (try dsimp only at h3); omega)
  have h_ws := h_ws.kept hfr (fun q h1 h2 h3 => by (try dsimp only at h3); omega)
  have h_md := h_md.kept hfr (fun q h1 h2 h3 => by (try dsimp only at h3); omega)
  have hz0 : ∀ q, q < z → H1[q]? = s.heap[q]? := fun q hq => (hfr.2 q (fun h3 => by (try dsimp only at h3); omega)).trans (hz0 q hq)
  have hsz : s.heap.size ≤ H1.size := hfr.1 ▸ hsz
  refine lv_aload_n hx hb dL_law_156 rfl (lv_at hl 2 rfl) ?_
  refine x_callVi (As := []) (rest := [.int r0]) S hK (c_X8_addHirer l G z o M r0 M' (by omega) e8) gL_law_X8_addHirer rfl 0 (by decide +kernel) rfl ⟨Nat.le_of_ble_eq_true rfl, Nat.le_of_ble_eq_true rfl⟩ h_md 0 (by decide) rfl rfl rfl h_md hl.1 rfl (Nat.le_of_ble_eq_true rfl) dL_law_157 hL ⟨Nat.le_of_ble_eq_true rfl, Nat.le_of_ble_eq_true rfl⟩ (fun H1 locs hL hpost => ?_)
  obtain ⟨n_md, hfr⟩ := hpost
  have h_md := n_md
  have h_hl := h_hl.kept hfr (fun q h1 h2 h3 => by (try dsimp only at h3); omega)
  have h_bk := h_bk.kept hfr (fun q h1 h2 h3 => by (try dsimp only at h3); omega)
  have h_hs := h_hs.kept hfr (fun q h1 h2 h3 => by (try dsimp only at h3); omega)
  have h_hu := h_hu.kept hfr (fun q h1 h2 h3 => by (try dsimp only at h3); omega)
  have h_tx := h_tx.kept hfr (fun q h1 h2 h3 => by (try dsimp only at h3); omega)
  have h_tr := h_tr.kept hfr (fun q h1 h2 h3 => by (try dsimp only at h3); omega)
  have h_tb := h_tb.kept hfr (fun q h1 h2 h3 => by (try dsimp only at h3); omega)
  have h_tw := h_tw.kept hfr (fun q h1 h2 h3 => by (try dsimp only at h3); omega)
  have h_ws := h_ws.kept hfr (fun q h1 h2 h3 => by (try dsimp only at h3); omega)
  have hz0 : ∀ q, q < z → H1[q]? = s.heap[q]? := fun q hq => (hfr.2 q (fun h3 => by (try dsimp only at h3); omega)).trans (hz0 q hq)
  have hsz : s.heap.size ≤ H1.size := hfr.1 ▸ hsz
  refine lv_icmp_eq (tgt := 912) hx hb dL_law_160 (by decide) (fun _ => ?_) (fun cc1 => absurd rfl cc1)
  exact kk _ _ hL ⟨dv, v', hv', kv', tv, rv, vt, fv, wv, M', h_hl, h_bk, h_hs, h_hu, h_tx, h_tr, h_tb, h_tw, h_ws, h_md, r1, h1, (ht.cong rfl rfl (m0 6 (by decide)) m4), (CR.cong hc rfl (m0 4 (by decide))), hsh, hz0, hsz⟩
set_option maxRecDepth 100000 in
set_option maxHeartbeats 4000000 in
theorem lw_c1 {p : Program} {l : Launch} {e : Env} {s : State} {m : MethodId} {below : List Frame} {meth : Method} {c : Code} {b L a o z i : Nat} {xs : Nat → Int32} {G : xG} {ls : Array Slot} {H : Heap} {locs : List Loc} {Q : State → Prop} (S : CallFix p m c cL_law 4 s #[Value.ref b] wsL_law RL) (hKC : KC2 G z s) (hX : va_X b L xs s s.heap) (hzs : s.heap.size = z) (hbl : b < z) (ha : z ≤ a) (ho : a + 230 ≤ o) (hj : i + 7 ≤ L) (hN : L ≤ 3584) (hL : ∀ q ∈ locs, z ≤ q.base) (hW : WD G a o z s H) (hl : lv_has ls 4 [(0, .ref b), (1, .ref a), (2, .ref o), (3, .int (nI i))])
    (kk : ∀ (H1 : Heap) (locs1 : List Loc), (∀ q ∈ locs1, z ≤ q.base) → WD G a o z s H1 → W p l e room_1 s m #[Value.ref b] below meth c H1 locs1 235 9009 Q (F0 m 912 ls [])) : W p l e room_1 s m #[Value.ref b] below meth c H locs 235 9009 Q (F0 m 165 ls []) := by
  obtain ⟨dv, v, hv, kv, tv, rv, vt, fv, wv, M, h_hl, h_bk, h_hs, h_hu, h_tx, h_tr, h_tb, h_tw, h_ws, h_md, r, h, ht, hc, hsh, hz0, hsz⟩ := hW
  have hK := hKC.1
  obtain ⟨hx, hb, hml, hown, hts⟩ := id S
  obtain ⟨r0, e7, e8⟩ := s_hirer r dv (xs (i + 1)) (xs (i + 2))
  refine lv_aload_n hx hb dL_law_165 rfl (lv_at hl 1 rfl) ?_
  refine x_arg S hl 0 3 rfl rfl hX hzs hbl hz0 hsz hL 1 (by decide) (by omega) hN dL_law_166 dL_law_167 dL_law_168 dL_law_169 dL_law_170 ?_
  refine x_arg S hl 0 3 rfl rfl hX hzs hbl hz0 hsz hL 2 (by decide) (by omega) hN dL_law_171 dL_law_172 dL_law_173 dL_law_174 dL_law_175 ?_
  refine x_callVi (As := [.int (xs (i + 1)), .int (xs (i + 2))]) (rest := []) S hK (c_X7_hirer l G z a dv v (xs (i + 1)) (xs (i + 2)) r0 e7) gL_law_X7_hirer rfl 2 (by decide +kernel) rfl ⟨Nat.le_of_ble_eq_true rfl, Nat.le_of_ble_eq_true rfl⟩ h_hl 0 (by decide) rfl rfl rfl ⟨h_hl, h_bk⟩ hl.1 rfl (Nat.le_of_ble_eq_true rfl) dL_law_176 hL ⟨Nat.le_of_ble_eq_true rfl, Nat.le_of_ble_eq_true rfl⟩ (fun H1 locs hL hpost => ?_)
  subst hpost
  refine lv_aload_n hx hb dL_law_179 rfl (lv_at hl 2 rfl) ?_
  refine x_arg S hl 0 3 rfl rfl hX hzs hbl hz0 hsz hL 1 (by decide) (by omega) hN dL_law_180 dL_law_181 dL_law_182 dL_law_183 dL_law_184 ?_
  refine x_arg S hl 0 3 rfl rfl hX hzs hbl hz0 hsz hL 2 (by decide) (by omega) hN dL_law_185 dL_law_186 dL_law_187 dL_law_188 dL_law_189 ?_
  refine x_callVi (As := [.int (xs (i + 1)), .int (xs (i + 2))]) (rest := [.int r0]) S hK (c_X8_hirer l G z o M (xs (i + 1)) (xs (i + 2)) r0 e8) gL_law_X8_hirer rfl 2 (by decide +kernel) rfl ⟨Nat.le_of_ble_eq_true rfl, Nat.le_of_ble_eq_true rfl⟩ h_md 0 (by decide) rfl rfl rfl h_md hl.1 rfl (Nat.le_of_ble_eq_true rfl) dL_law_190 hL ⟨Nat.le_of_ble_eq_true rfl, Nat.le_of_ble_eq_true rfl⟩ (fun H1 locs hL hpost => ?_)
  subst hpost
  refine lv_icmp_eq (tgt := 912) hx hb dL_law_193 (by decide) (fun _ => ?_) (fun cc1 => absurd rfl cc1)
  exact kk _ _ hL ⟨dv, v, hv, kv, tv, rv, vt, fv, wv, M, h_hl, h_bk, h_hs, h_hu, h_tx, h_tr, h_tb, h_tw, h_ws, h_md, r, h, ht, hc, hsh, hz0, hsz⟩
