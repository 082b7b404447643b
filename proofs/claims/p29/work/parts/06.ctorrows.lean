/-! ===== OWN LAYER 3: constructors: new cells come at the heap's end ===== -/
/-- what the constructors and 'set' need of the start: array classes, clone, the two static rows (below z) -/
def xsF : Nat → Int32 := fun j => if j = 0 then 1200 else if j = 1 then 800 else if j = 2 then 600 else if j = 3 then 25 else if j = 4 then 1 else if j = 5 then 5000 else if j = 6 then 300 else if j = 7 then 2 else 0
def xsM : Nat → Int32 := fun j => if j = 0 then 5000 else if j = 1 then 5000 else if j = 2 then 5000 else if j = 3 then 100 else if j = 4 then 3 else if j = 5 then 50000 else if j = 6 then 5000 else if j = 7 then 30 else 0
def SS (G : xG) (z : Nat) (t1 t2 : Nat) (U : State) : Prop := va_Z "VillageHall" "SETTING_AT_FIRST" "[I" (.ref t1) (fun q => z ≤ q) U U.heap ∧ At G t1 (.inl (G.2.1, 8, .inl xsF)) U.heap ∧ t1 < z ∧ va_Z "VillageHall" "SETTING_AT_MOST" "[I" (.ref t2) (fun q => z ≤ q) U U.heap ∧ At G t2 (.inl (G.2.1, 8, .inl xsM)) U.heap ∧ t2 < z
def KC (G : xG) (z : Nat) (U : State) : Prop := KK G U ∧ va_AO RX0 U ∧ va_AO RX1 U ∧ va_AO RX3 U ∧ va_Nw (.castable "[I" "java/lang/Cloneable") U ∧ va_Nw (.fieldLinkNest RX0 9 "VillageHall" "SETTING_AT_FIRST" "[I" RX7) U ∧ ∃ t1 t2, SS G z t1 t2 U
theorem SS.go {G : xG} {z t1 t2 : Nat} {s U : State} {H : Heap} (h : SS G z t1 t2 s) (hq : ∀ q, q < z → H[q]? = s.heap[q]?) (hU : U.heap = H) (hvm : s.vm.Alike U.vm) : SS G z t1 t2 U := by
  obtain ⟨h1, h2, h3, h4, h5, h6⟩ := h
  have hk : ∀ a : Nat, a < s.heap.size → ¬ (z ≤ a) → U.heap[a]? = s.heap[a]? := fun a _ ha => by rw [hU]; exact hq a (by omega)
  exact ⟨(h1.kept hk).moved hvm, h2.kept (by rw [hU]; exact hq _ h3), h3, (h4.kept hk).moved hvm, h5.kept (by rw [hU]; exact hq _ h6), h6⟩
theorem KC.go {G : xG} {z : Nat} {s U : State} {H : Heap} (h : KC G z s) (hq : ∀ q, q < z → H[q]? = s.heap[q]?) (hU : U.heap = H) (hW : s.WarmedH U.vm) : KC G z U := by
  obtain ⟨h1, h2, h3, h4, h5, h7, t1, t2, h6⟩ := h
  exact ⟨h1.warm hW, h2.moved hW.alike, h3.moved hW.alike, h4.moved hW.alike, va_Nw.warmC hW h5, va_Nw.warmF hW h7, t1, t2, h6.go hq hU hW.alike⟩
theorem KC.calling {G : xG} {z : Nat} {U : State} {g : JFrame} {mk : MethodId} {a : Array Value} (h : KC G z U) : KC G z (U.calling g mk a) := by
  obtain ⟨h1, h2, h3, h4, h5, h7, t1, t2, h6⟩ := h
  have hvm : U.vm.Alike (U.calling g mk a).vm := Vm.Alike.refl U.vm
  exact ⟨h1.calling, h2.moved hvm, h3.moved hvm, h4.moved hvm, h5.same rfl rfl, h7.same rfl rfl, t1, t2, h6.go (H := U.heap) (fun _ _ => rfl) rfl hvm⟩
theorem At.old {G : xG} {a h : Nat} {e : va_E} {H H1 : Heap} (k : At G a e H) (hs : H.size = h) (oq : ∀ q, q < h → H1[q]? = H[q]?) : At G a e H1 := k.kept (oq _ (by rw [← hs]; exact k.lt))
theorem PX.old {G : xG} {b N h : Nat} {E : Nat → (Nat → Int32) → va_E} {v : xV} {H H1 : Heap} (k : PX G b N E v H) (hs : H.size = h) (oq : ∀ q, q < h → H1[q]? = H[q]?) : PX G b N E v H1 := fun i hi => (k i hi).old hs oq
theorem HU.old {G : xG} {x h : Nat} {u : Nat → xV} {H H1 : Heap} (k : HU G x u H) (hs : H.size = h) (oq : ∀ q, q < h → H1[q]? = H[q]?) : HU G x u H1 := fun i hi => (k i hi).old hs oq
def xMc (l : Launch) (y : MethodName) (ws : List Cond) (fr lo mc ms : Nat) (K : State → Prop) (z : Nat) (av : List Value) (Pic : Heap → Prop) (rv : Option Value) (post : Heap → Heap → Prop) : Prop :=
  Met l y ws { frames := fr, cells := mc, slots := ms, locals := lo } (fun v U => v = av.toArray ∧ K U ∧ Pic U.heap) (fun _ st o t => o = .returned rv ∧ post st.heap t.heap) mc ms (fun q => z ≤ q)
theorem xMc.of {l : Launch} {y : MethodName} {ws ws' : List Cond} {fr lo mc ms : Nat} {K : State → Prop} {z : Nat} {av : List Value} {Pic : Heap → Prop} {rv : Option Value} {post : Heap → Heap → Prop} {cc : ByteArray} {maxL : Nat} {ret : Option FieldType}
    (hy : plainName y.cls = true) (hw : ws = Cond.code y cc maxL ret :: ws') (hn : (lg_sl av).length ≤ maxL)
    (body : ∀ (p : Program) (e : Env) (s : State) (m : MethodId) (args : Array Value) (below : List Frame) (meth : Method) (c : Code) (ls : Array Slot) (Q : State → Prop), MQ below (fun _ st o t => o = .returned rv ∧ post st.heap t.heap) args s mc ms (fun q => z ≤ q) = Q → CallFix p m c cc maxL s args ws y.cls → meth.sig.returnType = ret → meth.locks = false → meth.name = y.name → K s → Pic s.heap → lv_has ls maxL (lv_args 0 av) →
      W p l e { frames := fr, cells := mc, slots := ms, locals := lo } s m args below meth c s.heap [] 0 0 Q (F0 m 0 ls [])) : xMc l y ws fr lo mc ms K z av Pic rv post := by
  refine Met.ofW (cc := cc) (maxL := maxL) (ret := ret) hy hw ?_
  intro p e s m args below meth c s₁ B hml hv
  obtain ⟨rfl, hK, hP⟩ := hv
  rw [lg_entry_eq]
  exact body p e s m _ below meth c _ _ rfl ⟨B.exec, B.bytes, hml, findClass_of_methodNamed B.named, atoms_spec (ws := ws) B.pre⟩ B.returns B.notSynchronized (name_of_methodNamed B.named B.method).1 hK hP (lv_entry av hn)
section XCTOR
variable {p : Program} {l : Launch} {e : Env} {R : Room} {s : State} {m : MethodId} {args : Array Value} {below : List Frame} {meth : Method} {c : Code} {H : Heap} {locs : List Loc} {cells slots : Nat} {Q : State → Prop}
variable {cc : ByteArray} {pc nL : Nat} {ls : Array Slot} {rest : List Value} {G : xG} {a b z : Nat} {own : String} {Ts : List Cond}
theorem x_new (S : CallFix p m c cc nL s args Ts own) (hK : KK G s) {Cn : String} {T : u_T} {M ci index : Nat} (hc : vwCl[ci]? = some (Cn, T, M)) (hin : ∀ w ∈ u_ws Cn T M, w ∈ Ts) (ty0 : Nat → FieldType) (hty : ∀ k, k < M → parseFieldDescriptor (T k).2.2.1 = some (ty0 k)) (hcl : Cond.classLink own index Cn ∈ Ts) (hinst : Cond.instantiable Cn M ∈ Ts) (hini : Cond.initialized Cn ∈ Ts) {fs : List Value} (hfs : ∀ j, j < M → defaultValue (ty0 j) = vp_V fs j) (hcells : cells + 1 ≤ R.cells) (hslots : slots + M ≤ R.slots) {h : Nat} (hh : H.size = h) (hdg : decode cc pc = .ok (.new index, 3))
    (kk : ∀ H1 : Heap, At G h (.inr (ci, fs)) H1 → H1.size = h + 1 → (∀ q, q < h → H1[q]? = H[q]?) → W p l e R s m args below meth c H1 locs (cells + 1) (slots + M) Q (F0 m (pc + 3) ls (.ref h :: rest))) : W p l e R s m args below meth c H locs cells slots Q (F0 m pc ls rest) := by
  obtain ⟨hx, hb, hml, hown, hts⟩ := S
  have hKn := hK.1.1 ci _ hc
  exact W.newcK hx hb hown (hts _ hcl) (hts _ hinst) (hts _ hini) rfl hdg hcells hslots hKn.2.1 hh fun H1 kC hkC e1 z1 o1 => kk H1 ⟨_, hc, (u_born ty0 hts hin hKn hkC e1 hty).to hfs⟩ z1 o1
theorem x_newi (S : CallFix p m c cc nL s args Ts own) (hK : KK G s) (harr : Cond.arrayClass .int ∈ Ts) {n : Int32} {N : Nat} (hn : ¬ n < 0) (hN : n.toNatClampNeg = N) (hbytes : N * 4 ≤ 536870912) (hcells : cells + 1 ≤ R.cells) (hslots : slots + N ≤ R.slots) {h : Nat} (hh : H.size = h) (hdg : decode cc pc = .ok (.newarray .int, 2))
    (kk : ∀ H1 : Heap, At G h (.inl (G.2.1, N, .inl (fun _ => 0))) H1 → H1.size = h + 1 → (∀ q, q < h → H1[q]? = H[q]?) → W p l e R s m args below meth c H1 locs (cells + 1) (slots + N) Q (F0 m (pc + 2) ls (.ref h :: rest))) : W p l e R s m args below meth c H locs cells slots Q (F0 m pc ls (.int n :: rest)) := by
  obtain ⟨hx, hb, hml, hown, hts⟩ := S
  refine va_newaK (atype := .int) hx hb (hts _ harr) rfl hdg rfl hn hN hbytes hcells hslots hh fun H1 cA e1 z1 o1 hAr hNm => ?_
  have hc : cA = G.2.1 := by
    have h2 : s.vm.findClass ("[" ++ FieldType.int.toString) = some G.2.1 := (hK.1.2 0 _ rfl).2
    exact Option.some.inj (hNm.symm.trans h2)
  subst hc
  exact kk H1 e1 z1 o1
theorem x_newr (S : CallFix p m c cc nL s args Ts own) (hK : KK G s) {C : String} {index : Nat} (hcl : Cond.classLink own index C ∈ Ts) (hover : va_AO C s) (t0 : Nat) {cA : ClassId} (ht : (xT G)[t0]? = some (cA, .object C)) {n : Int32} {N : Nat} (hn : ¬ n < 0) (hN : n.toNatClampNeg = N) (hbytes : N * 4 ≤ 536870912) (hcells : cells + 1 ≤ R.cells) (hslots : slots + N ≤ R.slots) {h : Nat} (hh : H.size = h) (hdg : decode cc pc = .ok (.anewarray index, 3))
    (kk : ∀ H1 : Heap, At G h (.inl (cA, N, .inr (.inr (.inr (.inr (fun _ => none)))))) H1 → H1.size = h + 1 → (∀ q, q < h → H1[q]? = H[q]?) → W p l e R s m args below meth c H1 locs (cells + 1) (slots + N) Q (F0 m (pc + 3) ls (.ref h :: rest))) : W p l e R s m args below meth c H locs cells slots Q (F0 m pc ls (.int n :: rest)) := by
  obtain ⟨hx, hb, hml, hown, hts⟩ := S
  subst hN
  subst hh
  refine W.anew hx hb hown (hts _ hcl) (va_AO.use hover) rfl hdg rfl hn hbytes hcells hslots fun cA' kA comp f1 f2 f3 f4 => ?_
  have hc : cA' = cA := by
    obtain ⟨kA2, comp2, g1, g2, g3, g4⟩ := (hK.1.2 t0 _ ht).2
    exact Option.some.inj (f1.symm.trans g4)
  subst hc
  generalize hH1 : H.push ({ cls := cA', slots := Array.replicate n.toNatClampNeg .null, vm := .none } : Cell) = H1
  have z1 : H1.size = H.size + 1 := by rw [← hH1, Array.size_push]
  have e1 : H1[H.size]? = some (arrV cA' n.toNatClampNeg (fun _ => .null)) := by rw [← hH1, Array.getElem?_push_size, ← arrV_new]
  have o1 : ∀ q : Nat, q < H.size → H1[q]? = H[q]? := fun q hq => by rw [← hH1, Array.getElem?_push, if_neg (Nat.ne_of_lt hq)]
  refine kk H1 ?_ z1 o1
  show H1[H.size]? = some (vp_cell _ _)
  rw [vp_cell_q]
  exact e1
/-- a final field, in its class's constructor -/
theorem x_putF (S : CallFix p m c cc nL s args Ts own) (hK : KK G s) (hname : meth.name = "<init>") {Cn : String} {T : u_T} {M ci index : Nat} {fs : List Value} (hA : At G a (.inr (ci, fs)) H) (hz : z ≤ a) (hL : ∀ q ∈ locs, z ≤ q.base) (hc : vwCl[ci]? = some (Cn, T, M)) (hin : ∀ w ∈ u_ws Cn T M, w ∈ Ts) (ty0 : Nat → FieldType) (hty : ∀ k, k < M → parseFieldDescriptor (T k).2.2.1 = some (ty0 k)) (hnm : ∀ a, a < M → ∀ b, b < M → a ≠ b → (T a).2.1 ≠ (T b).2.1) (j : Nat) (hj : j < M) (hl : Cond.fieldLink own index (T j).1 (T j).2.1 (T j).2.2.1 ∈ Ts) (hfin : (T j).2.2.2 = true) (hdecl : (T j).1 = own) {x : Value} (hn : narrow (ty0 j) x = x) (hfit : fits (ty0 j) x = true) (hlen : j < fs.length) (hdg : decode cc pc = .ok (.putfield index, 3))
    (kk : ∀ (H1 : Heap) (locs1 : List Loc), (∀ q ∈ locs1, z ≤ q.base) → At G a (.inr (ci, fs.set j x)) H1 → H1.size = H.size → (∀ q, q ≠ a → H1[q]? = H[q]?) → W p l e R s m args below meth c H1 locs1 cells slots Q (F0 m (pc + 3) ls rest)) : W p l e R s m args below meth c H locs cells slots Q (F0 m pc ls (x :: .ref a :: rest)) := by
  obtain ⟨hx, hb, hml, hown, hts⟩ := S
  have hap := va_apart (own := own) (D := G.1) hts hin ty0 hty hnm hK.1 hc
  obtain ⟨r, h1, cell, q1, q2, q3, q4⟩ := hA
  have hr : r = (Cn, T, M) := Option.some.inj (h1.symm.trans hc)
  subst hr
  obtain ⟨hS, hfc, kC, hkC, hkind⟩ := hK.1.1 ci _ hc
  obtain ⟨cf, kf, fi, f, hi, hsl⟩ := hS j hj
  have hlay := hts _ (hin _ (u_in_lay hj))
  unfold u_lay at hlay
  rw [if_pos hfin] at hlay
  have hst := (u_facts hfc hkC (u_lays hts hin hj) hi).1
  have hcf : m.cls = cf := by
    obtain ⟨_, _, c', _, _, _, -, -, hf', -, -, -, hown2, -⟩ := Cond.laysFinal_spec hlay
    have e1 : c' = cf := by have := hi.symm.trans hf'; simp at this; exact this.1.symm
    rw [hdecl] at hown2
    rw [← e1]; exact Option.some.inj (hown.symm.trans hown2)
  have h6 := u_fits hfc hkC hkind (Or.inr hlay) hi (hty j hj) hn hfit
  refine W.putFinK hx hb hown (hts _ hl) hi hst hcf hname (by rw [q2]; exact h6) q1 q3 (by rw [hsl]; exact k2_hasslot (q4 j hj)) rfl rfl hdg fun H' e1 e2 e3 => ?_
  rw [hsl] at e1 ⊢
  refine kk H' _ (fun q hq => ?_) ⟨_, hc, t_OB.to (V := updV (vp_V fs) j x) ⟨_, e1, q2, q3, t_set q4 hap hj x⟩ (fun i _ => vp_updV_set hlen x i)⟩ e2 e3
  rcases List.mem_append.mp hq with h | h
  · exact hL q h
  · rw [List.mem_singleton.mp h]; exact hz
theorem x_iastA (S : CallFix p m c cc nL s args Ts own) (hK : KK G s) {n : Nat} {f : Nat → Int32} (hA : At G a (.inl (G.2.1, n, .inl f)) H) (hz : z ≤ a) (hL : ∀ q ∈ locs, z ≤ q.base) {i x : Int32} (j : Nat) (hj : i.toNatClampNeg = j) (hin : xin i n) (hdg : decode cc pc = .ok (.iastore, 1))
    (kk : ∀ (H1 : Heap) (locs1 : List Loc), (∀ q ∈ locs1, z ≤ q.base) → At G a (.inl (G.2.1, n, .inl (upd f j x))) H1 → H1.size = H.size → (∀ q, q ≠ a → H1[q]? = H[q]?) → W p l e R s m args below meth c H1 locs1 cells slots Q (F0 m (pc + 1) ls rest)) : W p l e R s m args below meth c H locs cells slots Q (F0 m pc ls (.int x :: .int i :: .ref a :: rest)) := by
  obtain ⟨hx, hb, hml, hown, hts⟩ := S
  subst hj
  refine W.iast hx hb hA ((hK.1.2 0 _ rfl).1 n (fun j => .int (f j))) (fun q => by cases q) (by show ¬ (i < 0 ∨ (arrV _ _ _).slots.size ≤ _); rw [arrV_size]; exact hin) rfl rfl hdg fun H1 e1 z1 oq => ?_
  refine kk H1 _ (fun q hq => ?_) ?_ z1 oq
  · rcases List.mem_append.mp hq with h | h
    · exact hL q h
    · rw [List.mem_singleton.mp h]; exact hz
  · show H1[a]? = some (vp_cell _ _)
    rw [e1]
    rw [vp_cell_i, vp_cell_i, arrV_store]
    congr 2
    funext q
    by_cases hq : q = i.toNatClampNeg
    · subst hq
      simp [updV, upd]
    · simp [updV, upd, hq]
theorem x_alenA (S : CallFix p m c cc nL s args Ts own) (hK : KK G s) {cA : ClassId} {x : vp_A} (hA : At G a (.inl (cA, x)) H) (t0 : Nat) {ty : FieldType} (ht : (xT G)[t0]? = some (cA, ty)) {r : Int32} (hr : Int32.ofNat x.1 = r) (hdg : decode cc pc = .ok (.arraylength, 1))
    (kk : W p l e R s m args below meth c H locs cells slots Q (F0 m (pc + 1) ls (.int r :: rest))) : W p l e R s m args below meth c H locs cells slots Q (F0 m pc ls (.ref a :: rest)) := by
  obtain ⟨hx, hb, hml, hown, hts⟩ := S
  exact va_alen (D := G.1) hx hb hK.1 hA.P 0 t0 rfl ht hr hdg kk
theorem x_getA (S : CallFix p m c cc nL s args Ts own) (hK : KK G s) {Cn : String} {T : u_T} {M ci index : Nat} {fs : List Value} (hA : At G a (.inr (ci, fs)) H) (hc : vwCl[ci]? = some (Cn, T, M)) (hin : ∀ w ∈ u_ws Cn T M, w ∈ Ts) (j : Nat) (hj : j < M) (hl : Cond.fieldLink own index (T j).1 (T j).2.1 (T j).2.2.1 ∈ Ts) {x : Value} (hv : fs[j]? = some x) (hdg : decode cc pc = .ok (.getfield index, 3))
    (kk : W p l e R s m args below meth c H locs cells slots Q (F0 m (pc + 3) ls (x :: rest))) : W p l e R s m args below meth c H locs cells slots Q (F0 m pc ls (.ref a :: rest)) := by
  obtain ⟨hx, hb, hml, hown, hts⟩ := S
  exact va_get (D := G.1) hx hb hts hin hown hK.1 hA.P 0 rfl hc j hj (hts _ hl) (fun _ h9 => h9) hv hdg kk
/-- a reference is put into a row of references -/
theorem x_aastA (S : CallFix p m c cc nL s args Ts own) (hK : KK G s) {cA : ClassId} {r : vw_C} {n : Nat} {f : Nat → Option Nat} (hA : At G a (.inl (cA, n, .inr (.inr (.inr (.inr f))))) H) (hz : z ≤ a) (hL : ∀ q ∈ locs, z ≤ q.base) {v ci : Nat} {vs : List Value} (hV : At G v (.inr (ci, vs)) H) (hc : vwCl[ci]? = some r) (t0 : Nat) (ht : (xT G)[t0]? = some (cA, .object r.1)) {i : Int32} (j : Nat) (hj : i.toNatClampNeg = j) (hin : xin i n) (hdg : decode cc pc = .ok (.aastore, 1))
    (kk : ∀ (H1 : Heap) (locs1 : List Loc), (∀ q ∈ locs1, z ≤ q.base) → At G a (.inl (cA, n, .inr (.inr (.inr (.inr (va_up f j (some v))))))) H1 → H1.size = H.size → (∀ q, q ≠ a → H1[q]? = H[q]?) → W p l e R s m args below meth c H1 locs1 cells slots Q (F0 m (pc + 1) ls rest)) : W p l e R s m args below meth c H locs cells slots Q (F0 m pc ls (.ref v :: .int i :: .ref a :: rest)) := by
  obtain ⟨hx, hb, hml, hown, hts⟩ := S
  subst hj
  have hlt : i.toNatClampNeg < n := xin_lt hin
  have h0 : ¬ i < 0 := fun q => hin (Or.inl q)
  obtain ⟨r', hr', cellV, g1, g2, g3, -⟩ := hV
  have hcls := (hK.1.1 ci r hc).2
  obtain ⟨kA, comp, k1, k2, k3, -⟩ := (hK.1.2 t0 _ ht).2
  have hcomp : comp = G.1.1 ci := Option.some.inj (k3.symm.trans hcls.1)
  subst hcomp
  obtain ⟨kC, hkC, -⟩ := hcls.2
  refine W.aast hx hb hA (fun q h => by cases h) (fun h => by cases h) k1 k2 rfl hkC ⟨h0, by show _ < (arrV _ _ _).slots.size; rw [arrV_size]; exact hlt⟩ g1 (fun q h => by rw [g3] at h; cases h) (by rw [g2]; exact hkC) (by rw [g2]; exact va_assign hcls) rfl rfl hdg fun H1 e1 z1 oq => ?_
  refine kk H1 _ (fun q hq => ?_) ?_ z1 oq
  · rcases List.mem_append.mp hq with h | h
    · exact hL q h
    · rw [List.mem_singleton.mp h]; exact hz
  · show H1[a]? = some (vp_cell _ _)
    rw [e1]
    rw [vp_cell_q, vp_cell_q, arrV_store]
    congr 2
    funext q
    by_cases hq : q = i.toNatClampNeg
    · subst hq
      simp [updV, va_up, va_rf]
    · simp [updV, va_up, hq]
theorem x_runC {mc ms : Nat} {rv : Option Value} {post : Heap → Heap → Prop} {st0 : List Value} (hr : va_Run p l e R s m args below meth c H locs cells slots mc ms (F0 m pc ls st0) rest (fun st o t => o = Outcome.returned rv ∧ post st.heap t.heap) (fun q => z ≤ q)) (hL : ∀ q ∈ locs, z ≤ q.base)
    (kk : ∀ (H1 : Heap) (locs1 : List Loc), (∀ q ∈ locs1, z ≤ q.base) → post H H1 → W p l e R s m args below meth c H1 locs1 (cells + mc) (slots + ms) Q (F0 m (pc + 3) ls (rv.toList ++ rest))) : W p l e R s m args below meth c H locs cells slots Q (F0 m pc ls st0) := by
  intro T hT X
  obtain ⟨v, st₀, t, T', L, h0, X', hL', e1, e2, ⟨hv, hp⟩, st⟩ := hr T hT X
  cases hv
  rw [h0, ← e1] at hp
  obtain ⟨t2, a1, b1⟩ := kk T'.heap (locs ++ L) (fun q hq => by
    rcases List.mem_append.mp hq with h | h
    · exact hL q h
    · exact hL' q h) hp T' rfl X'
  exact ⟨t2, st t2 a1, b1⟩
section XCALLI
variable {y : MethodName} {bytes : ByteArray} {maxL index fr lo mc ms : Nat} {ws ws' : List Cond} {As st0 : List Value} {Pic : Heap → Prop} {post : Heap → Heap → Prop} {K : State → Prop}
theorem x_callI (S : CallFix p m c cc nL s args Ts own) (hKU : ∀ U : State, U.heap = H → s.WarmedH U.vm → K U) (hKB : ∀ (U : State) (g : JFrame) (mk : MethodId) (a : Array Value), K U → K (U.calling g mk a)) {rb : Nat} (hM : xMc l y ws fr lo mc ms K z (.ref rb :: As) Pic none post) (hG : GoodIn Ts ws) (hini : Cond.initialized y.cls ∈ Ts) (hl : Cond.methodLink own index y ∈ Ts) (hin : Cond.instanceMethod y ∈ Ts) (hy1 : y.name = "<init>") (hw : ws = Cond.code y bytes maxL none :: ws') (n : Nat) (hd : y.cls ≠ "java/lang/invoke/MethodHandle" ∧ y.cls ≠ "java/lang/invoke/VarHandle" ∧ (parseMethodDescriptor y.desc).map (fun d => d.parameters.length) = some n) (hn : As.length = n) (hR : fr + 1 ≤ R.frames ∧ 8 + (maxL + 11) + lo ≤ R.locals)
    (hpic : Pic H) (hls : ls.size = nL) (hst : st0 = As.reverse ++ .ref rb :: rest) (hrest : (rest.map fun v => v.category).sum ≤ 8) (hdg : decode cc pc = .ok (.invokespecial index, 3)) (hL : ∀ q ∈ locs, z ≤ q.base) (hcs : cells + mc ≤ R.cells ∧ slots + ms ≤ R.slots)
    (kk : ∀ (H1 : Heap) (locs1 : List Loc), (∀ q ∈ locs1, z ≤ q.base) → post H H1 → W p l e R s m args below meth c H1 locs1 (cells + mc) (slots + ms) Q (F0 m (pc + 3) ls rest)) : W p l e R s m args below meth c H locs cells slots Q (F0 m pc ls st0) :=
  x_runC (rv := none) (post := post) (rest := rest) (va_runI (b := rb) (As := As) (rest := rest) S hM (cwI n S.2.2.2.2 hG hw rfl rfl (S.2.2.2.2 _ hini) (S.2.2.2.2 _ hl) (S.2.2.2.2 _ hin) hy1 hd hR) ⟨fun a U g mk q => ⟨q.1, hKB U g mk a q.2.1, q.2.2⟩, fun U hU hW => ⟨rfl, hKU U hU hW, by rw [hU]; exact hpic⟩⟩ rfl hn hls hst (lv_room hrest) hdg hcs) hL kk
theorem x_callIN (S : CallFix p m c cc nL s args Ts own) (hKU : ∀ U : State, U.heap = H → s.WarmedH U.vm → K U) (hKB : ∀ (U : State) (g : JFrame) (mk : MethodId) (a : Array Value), K U → K (U.calling g mk a)) {host : String} {rb : Nat} (hM : xMc l y ws fr lo mc ms K z (.ref rb :: As) Pic none post) (hG : GoodIn Ts ws) (hini : Cond.initialized y.cls ∈ Ts) (hnest : va_Nw (.methodLinkNest own index y host) s) (hin : Cond.instanceMethod y ∈ Ts) (hy1 : y.name = "<init>") (hw : ws = Cond.code y bytes maxL none :: ws') (n : Nat) (hd : y.cls ≠ "java/lang/invoke/MethodHandle" ∧ y.cls ≠ "java/lang/invoke/VarHandle" ∧ (parseMethodDescriptor y.desc).map (fun d => d.parameters.length) = some n) (hn : As.length = n) (hR : fr + 1 ≤ R.frames ∧ 8 + (maxL + 11) + lo ≤ R.locals)
    (hpic : Pic H) (hls : ls.size = nL) (hst : st0 = As.reverse ++ .ref rb :: rest) (hrest : (rest.map fun v => v.category).sum ≤ 8) (hdg : decode cc pc = .ok (.invokespecial index, 3)) (hL : ∀ q ∈ locs, z ≤ q.base) (hcs : cells + mc ≤ R.cells ∧ slots + ms ≤ R.slots)
    (kk : ∀ (H1 : Heap) (locs1 : List Loc), (∀ q ∈ locs1, z ≤ q.base) → post H H1 → W p l e R s m args below meth c H1 locs1 (cells + mc) (slots + ms) Q (F0 m (pc + 3) ls rest)) : W p l e R s m args below meth c H locs cells slots Q (F0 m pc ls st0) :=
  x_runC (rv := none) (post := post) (rest := rest) (va_runIN (b := rb) (As := As) (rest := rest) S hM ⟨va_cnB n S.2.2.2.2 hG hw rfl rfl hnest (S.2.2.2.2 _ hini) hd hR, hy1, S.2.2.2.2 _ hin⟩ ⟨fun a U g mk q => ⟨q.1, hKB U g mk a q.2.1, q.2.2⟩, fun U hU hW => ⟨rfl, hKU U hU hW, by rw [hU]; exact hpic⟩⟩ rfl hn hls hst (lv_room hrest) hdg hcs) hL kk
end XCALLI
theorem x_obj (S : CallFix p m c cc nL s args Ts own) {idx : Nat} (hlink : Cond.methodLink own idx Lib.objectInit ∈ Ts) (hinst : Cond.instanceMethod Lib.objectInit ∈ Ts) (hcode : Cond.code Lib.objectInit ⟨#[0xb1]⟩ 1 none ∈ Ts) (hls : ls.size = nL) (hd : decode cc pc = .ok (.invokespecial idx, 3)) (hframes : 1 ≤ R.frames) (hlocals : (rest.map fun v => v.category).sum + 12 ≤ R.locals)
    (kk : W p l e R s m args below meth c H locs cells slots Q (F0 m (pc + 3) ls rest)) : W p l e R s m args below meth c H locs cells slots Q (F0 m pc ls (.ref a :: rest)) := by
  obtain ⟨hx, hb, hml, hown, hts⟩ := S
  exact W.objInit hx hb hown (hts _ hlink) (hts _ hinst) (hts _ hcode) rfl (by rw [hml]; exact hls) rfl hd hframes (by show 2 * 0 + _ + 12 ≤ _; omega) kk
/-- the static row is cloned -/
theorem x_cloneA (S : CallFix p m c cc nL s args Ts own) (hK : KK G s) (hcl : va_Nw (.castable "[I" "java/lang/Cloneable") s) {index : Nat} (hlink : Cond.methodLink own index ⟨"[I", "clone", "()Ljava/lang/Object;"⟩ ∈ Ts) (hsame : Cond.sameMethod "[I" "java/lang/Object" "clone" "()Ljava/lang/Object;" ∈ Ts) (hnat : Cond.native ⟨"java/lang/Object", "clone", "()Ljava/lang/Object;"⟩ ∈ Ts) (hinst : Cond.instanceMethod ⟨"java/lang/Object", "clone", "()Ljava/lang/Object;"⟩ ∈ Ts) (hsel : Cond.selects "[I" ⟨"[I", "clone", "()Ljava/lang/Object;"⟩ ⟨"java/lang/Object", "clone", "()Ljava/lang/Object;"⟩ ∈ Ts) {n : Nat} {f : Nat → Int32} (hA : At G a (.inl (G.2.1, n, .inl f)) H) (hls : ls.size = nL) (hframes : 1 ≤ R.frames) (hlocals : (rest.map fun v => v.category).sum + 14 ≤ R.locals) (hcells : cells + 1 ≤ R.cells) (hslots : slots + n ≤ R.slots) {h : Nat} (hh : H.size = h) (hdg : decode cc pc = .ok (.invokevirtual index, 3))
    (kk : ∀ H1 : Heap, At G h (.inl (G.2.1, n, .inl f)) H1 → H1.size = h + 1 → (∀ q, q < h → H1[q]? = H[q]?) → W p l e R s m args below meth c H1 locs (cells + 1) (slots + n) Q (F0 m (pc + 3) ls (.ref h :: rest))) : W p l e R s m args below meth c H locs cells slots Q (F0 m pc ls (.ref a :: rest)) := by
  obtain ⟨hx, hb, hml, hown, hts⟩ := S
  subst hh
  have hnm : s.vm.findClass "[I" = some G.2.1 := (hK.1.2 0 _ rfl).2
  obtain ⟨c0, t0', f1, f2, f3⟩ := Cond.castable_spec (va_Nw.use (A := args) rfl hcl)
  cases hnm.symm.trans f1
  intro T hT X
  have hsz : (vp_cell G.2.1 (n, .inl f)).slots.size = n := arrV_size _ _ _
  have hcellT : T.heap[a]? = some (vp_cell G.2.1 (n, .inl f)) := by rw [hT]; exact hA
  obtain ⟨-, kA, hkA, comp, hkind⟩ := State.isArrayOf_alike X.warmed.alike ((hK.1.2 0 _ rfl).1 0 (fun _ => .null))
  obtain ⟨-, kS, hkS, compS, hkindS⟩ := (hK.1.2 0 _ rfl).1 0 (fun _ => .null)
  obtain ⟨vm', X', st⟩ := X.cloneArray hx hown (hts _ hlink) (hts _ hsame) (hts _ hnat) (hts _ hinst) (hts _ hsel) (a := a) (cell := vp_cell G.2.1 (n, .inl f)) hcellT (fun k h => by cases h) (fun h => by cases h) hnm f2 f3
    (fun i v hv => by
      have hk' : T.vm.classes[G.2.1]? = some kA := hkA
      have hfit : fits .int v = true := by
        have hlt : i < n := by
          have := (Array.getElem?_eq_some_iff.mp hv).1
          rw [hsz] at this
          exact this
        have hv2 : (arrV G.2.1 n (fun j => .int (f j))).slots[i]? = some v := hv
        rw [arrV_read _ _ hlt] at hv2
        cases hv2
        rfl
      show T.fitsSlot G.2.1 _ i v = true
      simpa [State.fitsSlot, State.slotType?, hk', hkind] using hfit)
    (g := F0 m pc ls (.ref a :: rest)) rfl (by rw [hml]; exact hls) rfl (by rw [hb]; exact hdg) hframes (by show 2 * 0 + _ + 14 ≤ _; omega) hcells (by rw [hsz]; exact hslots) (hloader := Vm.clonesLoader_of_array hkS hkindS)
  have hcellE : ({ cls := (vp_cell G.2.1 (n, .inl f)).cls, slots := (vp_cell G.2.1 (n, .inl f)).slots } : Cell) = vp_cell G.2.1 (n, .inl f) := rfl
  rw [hcellE, hsz] at X'
  rw [hcellE] at st
  generalize hH1 : H.push (vp_cell G.2.1 (n, .inl f)) = H1
  have z1 : H1.size = H.size + 1 := by rw [← hH1, Array.size_push]
  have e1 : H1[H.size]? = some (vp_cell G.2.1 (n, .inl f)) := by rw [← hH1, Array.getElem?_push_size]
  have o1 : ∀ q : Nat, q < H.size → H1[q]? = H[q]? := fun q hq => by rw [← hH1, Array.getElem?_push, if_neg (Nat.ne_of_lt hq)]
  obtain ⟨t, b1, b2⟩ := kk H1 e1 z1 o1 ((T.setVm vm').pushCell (vp_cell G.2.1 (n, .inl f))) (by rw [← hH1, ← hT]; rfl) X'
  refine ⟨t, st t ?_, b2⟩
  rw [hT]
  exact b1
theorem x_gets (S : CallFix p m c cc nL s args Ts own) {C n d : String} {v : Value} {index : Nat} (hZ : va_Z C n d v (fun q => z ≤ q) s s.heap) (hz0 : ∀ q, q < z → H[q]? = s.heap[q]?) (hsz : s.heap.size ≤ H.size) (hL : ∀ q ∈ locs, z ≤ q.base) (hl : Cond.fieldLink own index C n d ∈ Ts) (hdg : decode cc pc = .ok (.getstatic index, 3))
    (kk : W p l e R s m args below meth c H locs cells slots Q (F0 m (pc + 3) ls (v :: rest))) : W p l e R s m args below meth c H locs cells slots Q (F0 m pc ls rest) :=
  va_gets S.1 S.2.1 hZ ⟨hsz, fun q _ h => hz0 q (by omega), hL⟩ S.2.2.2.1 (S.2.2.2.2 _ hl) (fun _ h => h) hdg kk
theorem x_getsN (S : CallFix p m c cc nL s args Ts own) {C n d host : String} {v : Value} {index : Nat} (hZ : va_Z C n d v (fun q => z ≤ q) s s.heap) (hz0 : ∀ q, q < z → H[q]? = s.heap[q]?) (hsz : s.heap.size ≤ H.size) (hL : ∀ q ∈ locs, z ≤ q.base) (hl : va_Nw (.fieldLinkNest own index C n d host) s) (hdg : decode cc pc = .ok (.getstatic index, 3))
    (kk : W p l e R s m args below meth c H locs cells slots Q (F0 m (pc + 3) ls (v :: rest))) : W p l e R s m args below meth c H locs cells slots Q (F0 m pc ls rest) :=
  va_getsN S.1 S.2.1 hZ ⟨hsz, fun q _ h => hz0 q (by omega), hL⟩ S.2.2.2.1 (va_Nw.use rfl hl) (fun _ h => h) hdg kk
theorem x_castI (S : CallFix p m c cc nL s args Ts own) (hK : KK G s) {index : Nat} (hl : Cond.classLink own index "[I" ∈ Ts) {x : vp_A} (hA : At G a (.inl (G.2.1, x)) H) (hdg : decode cc pc = .ok (.checkcast index, 3))
    (kk : W p l e R s m args below meth c H locs cells slots Q (F0 m (pc + 3) ls (.ref a :: rest))) : W p l e R s m args below meth c H locs cells slots Q (F0 m pc ls (.ref a :: rest)) :=
  va_castA (D := G.1) S.1 S.2.1 S.2.2.2.1 (S.2.2.2.2 _ hl) hA.P 0 rfl ((hK.1.2 0 _ rfl).2) hdg kk
end XCTOR
