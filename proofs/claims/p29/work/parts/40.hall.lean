/-! ===== a hall as a whole: what its cells hold, over a ghost M; contracts weakened; rows of its calls ===== -/
theorem Met.imp {l : Launch} {y : MethodName} {ws : List Cond} {rm : Room} {Pc' : Array Value → State → Prop} {Qc' : Array Value → State → Outcome → State → Prop} {mc ms : Nat} {free : Addr → Prop}
    (h : ∀ a s, Pc' a s → ∃ (Pc : Array Value → State → Prop) (Qc : Array Value → State → Outcome → State → Prop), Pc a s ∧ Met l y ws rm Pc Qc mc ms free ∧ ∀ o t, Qc a s o t → Qc' a s o t) : Met l y ws rm Pc' Qc' mc ms free := by
  intro p e ha hc hk s m args below hf happ hP ht
  obtain ⟨Pc, Qc, h1, h2, h3⟩ := h args s hP
  obtain ⟨n, o, b1, b2, b3, b4, b5⟩ := h2 p e ha hc hk s m args below hf happ h1 ht
  exact ⟨n, o, b1, b2, b3, h3 _ _ b4, b5⟩
theorem xMc.exM {l : Launch} {y : MethodName} {ws : List Cond} {fr lo : Nat} {G : xG} {K : State → Prop} {z : Nat} {av : List Value} {Pic : Heap → Prop} {rv : Option Value} {post : Heap → Heap → Prop} (hK : ∀ U, K U → KK G U)
    (h : ∀ H, Pic H → ∃ (Pic0 : Heap → Prop) (post0 : Heap → Heap → Prop), Pic0 H ∧ xM l y ws fr lo G z av Pic0 rv post0 ∧ ∀ H1, post0 H H1 → post H H1) : xMc l y ws fr lo 0 0 K z av Pic rv post := by
  refine Met.imp fun a s hP => ?_
  obtain ⟨e1, e2, e3⟩ := hP
  obtain ⟨Pic0, post0, h1, h2, h3⟩ := h _ e3
  exact ⟨_, _, ⟨e1, hK _ e2, h1⟩, h2, fun o t q => ⟨q.1, h3 _ q.2⟩⟩
theorem xMc.exC {l : Launch} {y : MethodName} {ws : List Cond} {fr lo : Nat} {K : State → Prop} {z : Nat} {av : List Value} {Pic : Heap → Prop} {rv : Option Value} {post : Heap → Heap → Prop}
    (h : ∀ H, Pic H → ∃ (Pic0 : Heap → Prop) (post0 : Heap → Heap → Prop), Pic0 H ∧ xMc l y ws fr lo 0 0 K z av Pic0 rv post0 ∧ ∀ H1, post0 H H1 → post H H1) : xMc l y ws fr lo 0 0 K z av Pic rv post := by
  refine Met.imp fun a s hP => ?_
  obtain ⟨e1, e2, e3⟩ := hP
  obtain ⟨Pic0, post0, h1, h2, h3⟩ := h _ e3
  exact ⟨_, _, ⟨e1, e2, h1⟩, h2, fun o t q => ⟨q.1, h3 _ q.2⟩⟩
/-- a hall from a on whose state is the ghost's -/
def WH (G : xG) (a : Nat) (M : xV) (H : Heap) : Prop := ∃ (dv v hv : xV) (kv : Nat → xV) (tv rv vt fv wv : xV), PX G a 1 (hlE a) dv H ∧ PX G (a + 1) 37 (bkE G (a + 1)) v H ∧ PX G (a + 38) 2 (hsE G (a + 38)) hv H ∧ HU G (a + 38) kv H ∧ PX G (a + 188) 2 (txE G (a + 188)) tv H ∧ PX G (a + 190) 1 (trE (a + 190)) rv H ∧ PX G (a + 190 + 1) 37 (bkE G (a + 190 + 1)) vt H ∧ PX G (a + 190 + 38) 1 wsE fv H ∧ PX G (a + 229) 1 wsE wv H ∧ RB v (M 1) ∧ HR hv kv M ∧ tv 0 1 = M 0 6 ∧ CR dv M
theorem WH.kept {G : xG} {a : Nat} {M : xV} {H H1 : Heap} {P : Nat → Prop} (h : WH G a M H) (hf : XF P H H1) (hp : ∀ q, a ≤ q → q < a + 230 → ¬ P q) : WH G a M H1 := by
  obtain ⟨dv, v, hv, kv, tv, rv, vt, fv, wv, h1, h2, h3, h4, h5, h6, h7, h8, h9, h10⟩ := h
  exact ⟨dv, v, hv, kv, tv, rv, vt, fv, wv, h1.kept hf (fun q u w => hp q (by omega) (by omega)), h2.kept hf (fun q u w => hp q (by omega) (by omega)), h3.kept hf (fun q u w => hp q (by omega) (by omega)), h4.kept hf (fun q u w => hp q (by omega) (by omega)), h5.kept hf (fun q u w => hp q (by omega) (by omega)), h6.kept hf (fun q u w => hp q (by omega) (by omega)), h7.kept hf (fun q u w => hp q (by omega) (by omega)), h8.kept hf (fun q u w => hp q (by omega) (by omega)), h9.kept hf (fun q u w => hp q (by omega) (by omega)), h10⟩
theorem WH.below {G : xG} {a h : Nat} {M : xV} {H H1 : Heap} (k : WH G a M H) (ha : a + 230 ≤ h) (oq : ∀ q, q < h → H1[q]? = H[q]?) : WH G a M H1 := by
  obtain ⟨dv, v, hv, kv, tv, rv, vt, fv, wv, h1, h2, h3, h4, h5, h6, h7, h8, h9, h10⟩ := k
  exact ⟨dv, v, hv, kv, tv, rv, vt, fv, wv, h1.below (h := h) (by omega) oq, h2.below (h := h) (by omega) oq, h3.below (h := h) (by omega) oq, h4.below (h := h) (by omega) oq, h5.below (h := h) (by omega) oq, h6.below (h := h) (by omega) oq, h7.below (h := h) (by omega) oq, h8.below (h := h) (by omega) oq, h9.below (h := h) (by omega) oq, h10⟩
theorem WH.hl {G : xG} {a : Nat} {M : xV} {H : Heap} (h : WH G a M H) : ∃ dv, PX G a 1 (hlE a) dv H := by
  obtain ⟨dv, v, hv, kv, tv, rv, vt, fv, wv, h1, -⟩ := h
  exact ⟨dv, h1⟩
/-- what the pure side needs of a ghost -/
def PW (M : xV) : Prop := ∃ (dv v hv : xV) (kv : Nat → xV) (tv : xV), RB v (M 1) ∧ HR hv kv M ∧ tv 0 1 = M 0 6 ∧ CR dv M
theorem WH.pw {G : xG} {a : Nat} {M : xV} {H : Heap} (h : WH G a M H) : PW M := by
  obtain ⟨dv, v, hv, kv, tv, rv, vt, fv, wv, h1, h2, h3, h4, h5, h6, h7, h8, h9, h10⟩ := h
  exact ⟨dv, v, hv, kv, tv, h10⟩
section XLAW
variable {p : Program} {l : Launch} {e : Env} {R : Room} {s : State} {m : MethodId} {args : Array Value} {below : List Frame} {meth : Method} {c : Code} {H : Heap} {locs : List Loc} {cells slots : Nat} {Q : State → Prop}
variable {cc : ByteArray} {pc nL : Nat} {ls : Array Slot} {rest : List Value} {G : xG} {a b z : Nat} {own : String} {Ts : List Cond}
theorem x_callVK {y : MethodName} {bytes : ByteArray} {maxL index fr lo : Nat} {ret : Option FieldType} {ws ws' : List Cond} {As st0 : List Value} {Pic : Heap → Prop} {r0 : Value} {post : Heap → Heap → Prop} {K : State → Prop} (S : CallFix p m c cc nL s args Ts own) (hK : KK G s) (hKU : ∀ U : State, U.heap = H → s.WarmedH U.vm → K U) (hKB : ∀ (U : State) (g : JFrame) (mk : MethodId) (a : Array Value), K U → K (U.calling g mk a)) {C : String} {rb : Nat} (hM : xMc l y ws fr lo 0 0 K z (.ref rb :: As) Pic (some r0) post) (hG : GoodIn Ts (wsV own index C y ws)) (hw : ws = Cond.code y bytes maxL ret :: ws') (n : Nat) (hd : y.cls = C ∧ y.cls ≠ "java/lang/invoke/MethodHandle" ∧ y.cls ≠ "java/lang/invoke/VarHandle" ∧ (parseMethodDescriptor y.desc).map (fun d => d.parameters.length) = some n) (hn : As.length = n) (hR : fr + 1 ≤ R.frames ∧ 8 + (maxL + 11) + lo ≤ R.locals)
    {bb NN : Nat} {EE : Nat → (Nat → Int32) → va_E} {vv : xV} (hB : PX G bb NN EE vv H) (k : Nat) (hk : k < NN) (hb2 : rb = bb + k) {ci M : Nat} {T : u_T} {fs : List Value} (hE : EE k (vv k) = .inr (ci, fs)) (hc : vwCl[ci]? = some (C, T, M)) (hpic : Pic H) (hls : ls.size = nL) (hst : st0 = As.reverse ++ .ref rb :: rest) (hrest : (rest.map fun v => v.category).sum ≤ 8) (hdg : decode cc pc = .ok (.invokevirtual index, 3)) (hL : ∀ q ∈ locs, z ≤ q.base) (hcs : cells ≤ R.cells ∧ slots ≤ R.slots)
    (kk : ∀ (H1 : Heap) (locs1 : List Loc), (∀ q ∈ locs1, z ≤ q.base) → post H H1 → W p l e R s m args below meth c H1 locs1 cells slots Q (F0 m (pc + 3) ls (r0 :: rest))) : W p l e R s m args below meth c H locs cells slots Q (F0 m pc ls st0) := by
  have hA := hB k hk
  rw [← hb2, hE] at hA
  have hrecv := va_recv (D := G.1) hK.1 hA.P hc (q0 := 0) rfl
  refine x_runQ (mc := 0) (ms := 0) (rv := some r0) (post := post) (rest := rest) (va_runV (C := C) (b := rb) (As := As) (rest := rest) S hM (cwV n S.2.2.2.2 hG hw rfl rfl hd hR) ⟨fun a U g mk q => ⟨q.1, hKB U g mk a q.2.1, q.2.2⟩, hrecv, fun U hU hW => ⟨rfl, hKU U hU hW, by rw [hU]; exact hpic⟩⟩ rfl hn hls hst (lv_room hrest) hdg ⟨hcs.1, hcs.2⟩) hL kk
/-- a call of a hall -/
theorem x_callW {y : MethodName} {bytes : ByteArray} {maxL index fr lo : Nat} {ret : Option FieldType} {ws ws' : List Cond} {As st0 : List Value} {Pic : Heap → Prop} {r0 : Value} {post : Heap → Heap → Prop} (S : CallFix p m c cc nL s args Ts own) (hK : KC2 G z s) (hz0 : ∀ q, q < z → H[q]? = s.heap[q]?) {rb : Nat} {M : xV} (hW : WH G rb M H) (hM : xMc l y ws fr lo 0 0 (KC2 G z) z (.ref rb :: As) Pic (some r0) post) (hG : GoodIn Ts (wsV own index RX7 y ws)) (hw : ws = Cond.code y bytes maxL ret :: ws') (n : Nat) (hd : y.cls = RX7 ∧ y.cls ≠ "java/lang/invoke/MethodHandle" ∧ y.cls ≠ "java/lang/invoke/VarHandle" ∧ (parseMethodDescriptor y.desc).map (fun d => d.parameters.length) = some n) (hn : As.length = n) (hR : fr + 1 ≤ R.frames ∧ 8 + (maxL + 11) + lo ≤ R.locals)
    (hpic : Pic H) (hls : ls.size = nL) (hst : st0 = As.reverse ++ .ref rb :: rest) (hrest : (rest.map fun v => v.category).sum ≤ 8) (hdg : decode cc pc = .ok (.invokevirtual index, 3)) (hL : ∀ q ∈ locs, z ≤ q.base) (hcs : cells ≤ R.cells ∧ slots ≤ R.slots)
    (kk : ∀ (H1 : Heap) (locs1 : List Loc), (∀ q ∈ locs1, z ≤ q.base) → post H H1 → W p l e R s m args below meth c H1 locs1 cells slots Q (F0 m (pc + 3) ls (r0 :: rest))) : W p l e R s m args below meth c H locs cells slots Q (F0 m pc ls st0) := by
  obtain ⟨dv, hl⟩ := hW.hl
  exact x_callVK S hK.1 (fun U hU hV => hK.go hz0 hU hV) (fun U g mk q h => h.calling) hM hG hw n hd hn hR hl 0 (by decide) rfl rfl rfl hpic hls hst hrest hdg hL hcs kk
/-- a static call over K -/
theorem x_callTK {y : MethodName} {bytes : ByteArray} {maxL index fr lo : Nat} {ret : Option FieldType} {ws ws' : List Cond} {As st0 : List Value} {Pic : Heap → Prop} {r0 : Value} {post : Heap → Heap → Prop} {K : State → Prop} (S : CallFix p m c cc nL s args Ts own) (hKU : ∀ U : State, U.heap = H → s.WarmedH U.vm → K U) (hKB : ∀ (U : State) (g : JFrame) (mk : MethodId) (a : Array Value), K U → K (U.calling g mk a)) (hM : xMc l y ws fr lo 0 0 K z As Pic (some r0) post) (hG : GoodIn Ts (va_wsS own index y ws)) (hw : ws = Cond.code y bytes maxL ret :: ws') (n : Nat) (hd : y.cls ≠ "java/lang/invoke/MethodHandle" ∧ y.cls ≠ "java/lang/invoke/VarHandle" ∧ (parseMethodDescriptor y.desc).map (fun d => d.parameters.length) = some n) (hn : As.length = n) (hR : fr + 1 ≤ R.frames ∧ 8 + (maxL + 11) + lo ≤ R.locals)
    (hpic : Pic H) (hls : ls.size = nL) (hst : st0 = As.reverse ++ rest) (hrest : (rest.map fun v => v.category).sum ≤ 8) (hdg : decode cc pc = .ok (.invokestatic index, 3)) (hL : ∀ q ∈ locs, z ≤ q.base) (hcs : cells ≤ R.cells ∧ slots ≤ R.slots)
    (kk : ∀ (H1 : Heap) (locs1 : List Loc), (∀ q ∈ locs1, z ≤ q.base) → post H H1 → W p l e R s m args below meth c H1 locs1 cells slots Q (F0 m (pc + 3) ls (r0 :: rest))) : W p l e R s m args below meth c H locs cells slots Q (F0 m pc ls st0) := by
  exact x_runQ (mc := 0) (ms := 0) (rv := some r0) (post := post) (rest := rest) (va_runS (As := As) (rest := rest) S hM (va_cwS n S.2.2.2.2 hG hw rfl rfl hd hR) ⟨fun a U g mk q => ⟨q.1, hKB U g mk a q.2.1, q.2.2⟩, fun U hU hW => ⟨rfl, hKU U hU hW, by rw [hU]; exact hpic⟩⟩ rfl hn hls hst (lv_room hrest) hdg ⟨hcs.1, hcs.2⟩) hL kk
end XLAW
theorem CR.cong {dv dv' M M' : xV} (h : CR dv M) (h1 : dv' 0 5 = dv 0 5) (h2 : M' 0 4 = M 0 4) : CR dv' M' := by
  unfold CR
  rw [h1, h2]
  exact h
