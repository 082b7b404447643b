/-! ===== OWN LAYER 1: cells by their addresses, pictures as rows of numbers, rows and calls over them ===== -/
abbrev vwCl : List vw_C := [(RX0, TX0, 9), (RX1, TX1, 15), (RX2, TX2, 2), (RX3, TX3, 3), (RX4, TX4, 3), (RX5, TX5, 6), (RX6, TX6, 7), (RX7, TX7, 6)]
abbrev xG : Type := va_G × (ClassId × (ClassId × (ClassId × ClassId)))
abbrev xV : Type := Nat → Nat → Int32
def xT (G : xG) : List (ClassId × FieldType) := [(G.2.1, .int), (G.2.2.1, .object RX0), (G.2.2.2.1, .object RX1), (G.2.2.2.2, .object RX3)]
/-- the links to private members of nest mates -/
def xN (U : State) : Prop := va_Nw (.methodLinkNest RX5 20 yX6_init RX7) U ∧ va_Nw (.methodLinkNest RX7 39 yX6_init RX7) U ∧ va_Nw (.methodLinkNest RX0 119 yX7_discountOf RX7) U ∧ va_Nw (.methodLinkNest RX1 74 yX7_discountOf RX7) U ∧ va_Nw (.methodLinkNest RX0 144 yX7_hoursMask RX7) U
def KK (G : xG) (U : State) : Prop := va_K G.1 vwCl (xT G) U ∧ xN U
theorem xN.warm {s U : State} (hW : s.WarmedH U.vm) (h : xN s) : xN U := ⟨va_Nw.warmM hW h.1, va_Nw.warmM hW h.2.1, va_Nw.warmM hW h.2.2.1, va_Nw.warmM hW h.2.2.2.1, va_Nw.warmM hW h.2.2.2.2⟩
theorem xN.same {u U : State} (h : u.vm = U.vm) (k : xN u) : xN U := ⟨va_Nw.same rfl h k.1, va_Nw.same rfl h k.2.1, va_Nw.same rfl h k.2.2.1, va_Nw.same rfl h k.2.2.2.1, va_Nw.same rfl h k.2.2.2.2⟩
theorem KK.warm {G : xG} {s U : State} (hW : s.WarmedH U.vm) (h : KK G s) : KK G U := ⟨va_K.moved hW.alike h.1, h.2.warm hW⟩
theorem KK.calling {G : xG} {U : State} {g : JFrame} {mk : MethodId} {a : Array Value} (h : KK G U) : KK G (U.calling g mk a) := ⟨va_K.moved (u := U) (U := U.calling g mk a) (Vm.Alike.refl U.vm) h.1, h.2.same rfl⟩
def At (G : xG) (a : Nat) (e : va_E) (H : Heap) : Prop := va_at G.1 vwCl (a, e) H
theorem At.kept {G : xG} {a : Nat} {e : va_E} {H H1 : Heap} (h : At G a e H) (hq : H1[a]? = H[a]?) : At G a e H1 := va_at.kept h hq
theorem At.lt {G : xG} {a : Nat} {e : va_E} {H : Heap} (h : At G a e H) : a < H.size := va_at.lt h
theorem At.P {G : xG} {a : Nat} {e : va_E} {H : Heap} (h : At G a e H) : va_P G.1 vwCl [(a, e)] H := by
  intro k q hk
  have hz : k < 1 := (List.getElem?_eq_some_iff.mp hk).1
  rw [show k = 0 by omega] at hk
  cases hk
  exact h
/-- a picture: N cells in a row from b on, E tells what cell k holds out of its row of numbers -/
def PX (G : xG) (b N : Nat) (E : Nat → (Nat → Int32) → va_E) (v : xV) (H : Heap) : Prop := ∀ k, k < N → At G (b + k) (E k (v k)) H
/-- what changed lies in P -/
def XF (P : Nat → Prop) (H H1 : Heap) : Prop := H1.size = H.size ∧ ∀ q, ¬ P q → H1[q]? = H[q]?
theorem XF.rf {P : Nat → Prop} {H : Heap} : XF P H H := ⟨rfl, fun _ _ => rfl⟩
theorem XF.mono {P P' : Nat → Prop} {H H1 : Heap} (h : XF P H H1) (hp : ∀ q, P q → P' q) : XF P' H H1 := ⟨h.1, fun q hq => h.2 q (fun z => hq (hp q z))⟩
theorem XF.trans {P : Nat → Prop} {H H1 H2 : Heap} (h : XF P H H1) (h' : XF P H1 H2) : XF P H H2 := ⟨h'.1.trans h.1, fun q hq => (h'.2 q hq).trans (h.2 q hq)⟩
theorem XF.step {P P' : Nat → Prop} {H H1 H2 : Heap} (h : XF P H H1) (h' : XF P' H1 H2) (hp : ∀ q, P' q → P q) : XF P H H2 := h.trans (h'.mono hp)
theorem PX.kept {G : xG} {b N : Nat} {E : Nat → (Nat → Int32) → va_E} {v : xV} {H H1 : Heap} {P : Nat → Prop} (h : PX G b N E v H) (hf : XF P H H1) (hp : ∀ q, b ≤ q → q < b + N → ¬ P q) : PX G b N E v H1 := fun k hk => (h k hk).kept (hf.2 _ (hp _ (Nat.le_add_right _ _) (Nat.add_lt_add_left hk _)))
theorem PX.to {G : xG} {b N : Nat} {E : Nat → (Nat → Int32) → va_E} {v v' : xV} {H : Heap} (h : PX G b N E v H) (e : v' = v) : PX G b N E v' H := by subst e; exact h
def upd2 (v : xV) (k j : Nat) (x : Int32) : xV := fun i => if i = k then upd (v k) j x else v i
def xrow (v : xV) (k : Nat) (w : Nat → Int32) : xV := fun i => if i = k then w else v i
theorem upd2_row (v : xV) (k j : Nat) (x : Int32) : upd2 v k j x = xrow v k (upd (v k) j x) := rfl
theorem xrow_self (v : xV) (k : Nat) (w : Nat → Int32) : xrow v k w k = w := by simp [xrow]
theorem xrow_ne (v : xV) {k i : Nat} (w : Nat → Int32) (h : i ≠ k) : xrow v k w i = v i := by simp [xrow, h]
theorem PX.row {G : xG} {b N : Nat} {E : Nat → (Nat → Int32) → va_E} {v : xV} {H H1 : Heap} (h : PX G b N E v H) {k : Nat} {w : Nat → Int32} (hA : At G (b + k) (E k w) H1) (oq : ∀ q, q ≠ b + k → H1[q]? = H[q]?) : PX G b N E (xrow v k w) H1 := by
  intro i hi
  by_cases e : i = k
  · subst e
    rw [xrow_self]
    exact hA
  · rw [xrow_ne _ _ e]
    exact (h i hi).kept (oq _ (by omega))
/-- a name in a list of words, by its place -/
theorem xm {l : List Cond} {w : Cond} (n : Nat) (h : l[n]? = some w) : w ∈ l := List.mem_of_getElem? h
/-! the pure side: what a method computes, where it is defined -/
def xg {α : Type} (P : Prop) [Decidable P] (k : Option α) : Option α := if P then k else none
theorem xg_some {α : Type} {P : Prop} [Decidable P] {k : Option α} {r : α} (h : xg P k = some r) : P ∧ k = some r := by
  unfold xg at h
  by_cases hP : P
  · rw [if_pos hP] at h; exact ⟨hP, h⟩
  · rw [if_neg hP] at h; cases h
theorem xg_pos {α : Type} {P : Prop} [Decidable P] {k : Option α} (h : P) : xg P k = k := if_pos h
def xl {α β : Type} (a : α) (k : α → β) : β := k a
theorem xl_some {α β : Type} {a : α} {k : α → Option β} {r : β} (h : xl a k = some r) : ∃ x, x = a ∧ k x = some r := ⟨a, rfl, h⟩
theorem xl_eq {α β : Type} (a : α) (k : α → β) : xl a k = k a := rfl
def xb {α β : Type} (a : Option α) (k : α → Option β) : Option β := match a with
  | none => none
  | some x => k x
theorem xb_some {α β : Type} {a : Option α} {k : α → Option β} {r : β} (h : xb a k = some r) : ∃ x, a = some x ∧ k x = some r := by
  cases a with
  | none => cases h
  | some x => exact ⟨x, rfl, h⟩
theorem xb_eq {α β : Type} {a : Option α} {x : α} (h : a = some x) (k : α → Option β) : xb a k = k x := by rw [h]; rfl
/-- a reference or null -/
def xo {α : Type} (o : Option Nat) (n : α) (k : Nat → α) : α := match o with
  | none => n
  | some i => k i
abbrev xin (i : Int32) (n : Nat) : Prop := ¬ (i < 0 ∨ n ≤ i.toNatClampNeg)
def xpr {α β : Type} (a : α) (b : β) : α × β := (a, b)
theorem xti {x y : Int32} (h : x.toInt = y.toInt) : x = y := Int32.toInt_inj.mp h
/-- a contract: the arguments, what the heap holds, what comes back, how the heap is then -/
def xM (l : Launch) (y : MethodName) (ws : List Cond) (fr lo : Nat) (G : xG) (z : Nat) (av : List Value) (Pic : Heap → Prop) (rv : Option Value) (post : Heap → Heap → Prop) : Prop :=
  Met l y ws { frames := fr, cells := 0, slots := 0, locals := lo } (fun v U => v = av.toArray ∧ KK G U ∧ Pic U.heap) (fun _ st o t => o = .returned rv ∧ post st.heap t.heap) 0 0 (fun q => z ≤ q)
theorem xM.of {l : Launch} {y : MethodName} {ws ws' : List Cond} {fr lo : Nat} {G : xG} {z : Nat} {av : List Value} {Pic : Heap → Prop} {rv : Option Value} {post : Heap → Heap → Prop} {cc : ByteArray} {maxL : Nat} {ret : Option FieldType}
    (hy : plainName y.cls = true) (hw : ws = Cond.code y cc maxL ret :: ws') (hn : (lg_sl av).length ≤ maxL)
    (body : ∀ (p : Program) (e : Env) (s : State) (m : MethodId) (args : Array Value) (below : List Frame) (meth : Method) (c : Code) (ls : Array Slot) (Q : State → Prop), MQ below (fun _ st o t => o = .returned rv ∧ post st.heap t.heap) args s 0 0 (fun q => z ≤ q) = Q → CallFix p m c cc maxL s args ws y.cls → meth.sig.returnType = ret → meth.locks = false → KK G s → Pic s.heap → lv_has ls maxL (lv_args 0 av) →
      W p l e { frames := fr, cells := 0, slots := 0, locals := lo } s m args below meth c s.heap [] 0 0 Q (F0 m 0 ls [])) : xM l y ws fr lo G z av Pic rv post := by
  refine Met.ofW (cc := cc) (maxL := maxL) (ret := ret) hy hw ?_
  intro p e s m args below meth c s₁ B hml hv
  obtain ⟨rfl, hK, hP⟩ := hv
  rw [lg_entry_eq]
  exact body p e s m _ below meth c _ _ rfl ⟨B.exec, B.bytes, hml, findClass_of_methodNamed B.named, atoms_spec (ws := ws) B.pre⟩ B.returns B.notSynchronized hK hP (lv_entry av hn)
section XROWS
variable {p : Program} {l : Launch} {e : Env} {R : Room} {s : State} {m : MethodId} {args : Array Value} {below : List Frame} {meth : Method} {c : Code} {H : Heap} {locs : List Loc} {cells slots : Nat} {Q : State → Prop}
variable {cc : ByteArray} {pc nL : Nat} {ls : Array Slot} {rest : List Value} {G : xG} {a b N z : Nat} {E : Nat → (Nat → Int32) → va_E} {v : xV} {own : String} {Ts : List Cond}
theorem x_top {x y : Int32} (h : x = y) (kk : W p l e R s m args below meth c H locs cells slots Q (F0 m pc ls (.int x :: rest))) : W p l e R s m args below meth c H locs cells slots Q (F0 m pc ls (.int y :: rest)) := h ▸ kk
theorem x_get (S : CallFix p m c cc nL s args Ts own) (hK : KK G s) (hP : PX G b N E v H) (k : Nat) (hk : k < N) (ha : a = b + k) {Cn : String} {T : u_T} {M ci index : Nat} {fs : List Value} (hE : E k (v k) = .inr (ci, fs)) (hc : vwCl[ci]? = some (Cn, T, M)) (hin : ∀ w ∈ u_ws Cn T M, w ∈ Ts) (j : Nat) (hj : j < M) (hl : Cond.fieldLink own index (T j).1 (T j).2.1 (T j).2.2.1 ∈ Ts) {x : Value} (hv : fs[j]? = some x) (hdg : decode cc pc = .ok (.getfield index, 3))
    (kk : W p l e R s m args below meth c H locs cells slots Q (F0 m (pc + 3) ls (x :: rest))) : W p l e R s m args below meth c H locs cells slots Q (F0 m pc ls (.ref a :: rest)) := by
  obtain ⟨hx, hb, hml, hown, hts⟩ := S
  have hA := hP k hk
  rw [← ha, hE] at hA
  exact va_get (D := G.1) hx hb hts hin hown hK.1 hA.P 0 rfl hc j hj (hts _ hl) (fun _ h9 => h9) hv hdg kk
theorem x_putA (S : CallFix p m c cc nL s args Ts own) (hK : KK G s) {Cn : String} {T : u_T} {M ci index : Nat} {fs : List Value} (hA : At G a (.inr (ci, fs)) H) (hz : z ≤ a) (hL : ∀ q ∈ locs, z ≤ q.base) (hc : vwCl[ci]? = some (Cn, T, M)) (hin : ∀ w ∈ u_ws Cn T M, w ∈ Ts) (ty0 : Nat → FieldType) (hty : ∀ k, k < M → parseFieldDescriptor (T k).2.2.1 = some (ty0 k)) (hnm : ∀ a, a < M → ∀ b, b < M → a ≠ b → (T a).2.1 ≠ (T b).2.1) (j : Nat) (hj : j < M) (hl : Cond.fieldLink own index (T j).1 (T j).2.1 (T j).2.2.1 ∈ Ts) (hfin : (T j).2.2.2 = false) {x : Value} (hn : narrow (ty0 j) x = x) (hfit : fits (ty0 j) x = true) (hlen : j < fs.length) (hdg : decode cc pc = .ok (.putfield index, 3))
    (kk : ∀ (H1 : Heap) (locs1 : List Loc), (∀ q ∈ locs1, z ≤ q.base) → At G a (.inr (ci, fs.set j x)) H1 → H1.size = H.size → (∀ q, q ≠ a → H1[q]? = H[q]?) → W p l e R s m args below meth c H1 locs1 cells slots Q (F0 m (pc + 3) ls rest)) : W p l e R s m args below meth c H locs cells slots Q (F0 m pc ls (x :: .ref a :: rest)) := by
  obtain ⟨hx, hb, hml, hown, hts⟩ := S
  have hap := va_apart (own := own) (D := G.1) hts hin ty0 hty hnm hK.1 hc
  obtain ⟨r, h1, cell, q1, q2, q3, q4⟩ := hA
  have hr : r = (Cn, T, M) := Option.some.inj (h1.symm.trans hc)
  subst hr
  obtain ⟨hS, hfc, kC, hkC, hkind⟩ := hK.1.1 ci _ hc
  obtain ⟨cf, kf, fi, f, hi, hsl⟩ := hS j hj
  have hlay := hts _ (hin _ (u_in_lay hj))
  unfold u_lay at hlay
  rw [if_neg (by rw [hfin]; decide)] at hlay
  have hst := (u_facts hfc hkC (u_lays hts hin hj) hi).1
  have h6 := u_store hfc hkC hkind hlay hi (hty j hj) hn hfit
  refine W.putK hx hb (f := f) ⟨hown, hts _ hl, ⟨_, _, _, hi⟩, hst⟩ (by rw [q2]; exact h6) q1 q3 (by rw [hsl]; exact k2_hasslot (q4 j hj)) rfl rfl hdg fun H' e1 e2 e3 => ?_
  rw [hsl] at e1 ⊢
  refine kk H' _ (fun q hq => ?_) ⟨_, hc, t_OB.to (V := updV (vp_V fs) j x) ⟨_, e1, q2, q3, t_set q4 hap hj x⟩ (fun i _ => vp_updV_set hlen x i)⟩ e2 e3
  rcases List.mem_append.mp hq with h | h
  · exact hL q h
  · rw [List.mem_singleton.mp h]; exact hz
theorem x_put (S : CallFix p m c cc nL s args Ts own) (hK : KK G s) (hP : PX G b N E v H) (hzb : z ≤ b) (hL : ∀ q ∈ locs, z ≤ q.base) (k : Nat) (hk : k < N) (ha : a = b + k) {Cn : String} {T : u_T} {M ci index : Nat} {fs : List Value} (hE : E k (v k) = .inr (ci, fs)) (hc : vwCl[ci]? = some (Cn, T, M)) (hin : ∀ w ∈ u_ws Cn T M, w ∈ Ts) (ty0 : Nat → FieldType) (hty : ∀ k, k < M → parseFieldDescriptor (T k).2.2.1 = some (ty0 k)) (hnm : ∀ a, a < M → ∀ b, b < M → a ≠ b → (T a).2.1 ≠ (T b).2.1) (j : Nat) (hj : j < M) (hl : Cond.fieldLink own index (T j).1 (T j).2.1 (T j).2.2.1 ∈ Ts) (hfin : (T j).2.2.2 = false) {x : Int32} (hn : narrow (ty0 j) (.int x) = .int x) (hfit : fits (ty0 j) (.int x) = true) (hlen : j < fs.length) (hE2 : E k (upd (v k) j x) = .inr (ci, fs.set j (.int x))) {v' : xV} (hv : v' = upd2 v k j x) (hdg : decode cc pc = .ok (.putfield index, 3))
    (kk : ∀ (H1 : Heap) (locs1 : List Loc), (∀ q ∈ locs1, z ≤ q.base) → PX G b N E v' H1 → XF (fun q => q = b + k) H H1 → W p l e R s m args below meth c H1 locs1 cells slots Q (F0 m (pc + 3) ls rest)) : W p l e R s m args below meth c H locs cells slots Q (F0 m pc ls (.int x :: .ref a :: rest)) := by
  have hA := hP k hk
  rw [← ha, hE] at hA
  refine x_putA S hK hA (by omega) hL hc hin ty0 hty hnm j hj hl hfin hn hfit hlen hdg fun H1 locs1 hL1 hA1 hs oq => ?_
  subst ha
  rw [← hE2] at hA1
  exact kk H1 locs1 hL1 (by rw [hv]; exact hP.row hA1 oq) ⟨hs, oq⟩
theorem x_iald (S : CallFix p m c cc nL s args Ts own) (hK : KK G s) (hP : PX G b N E v H) (k : Nat) (hk : k < N) (ha : a = b + k) {n : Nat} {f : Nat → Int32} (hE : E k (v k) = .inl (G.2.1, n, .inl f)) {i : Int32} (j : Nat) (hj : i.toNatClampNeg = j) (hin : xin i n) (hdg : decode cc pc = .ok (.iaload, 1))
    (kk : W p l e R s m args below meth c H locs cells slots Q (F0 m (pc + 1) ls (.int (f j) :: rest))) : W p l e R s m args below meth c H locs cells slots Q (F0 m pc ls (.int i :: .ref a :: rest)) := by
  obtain ⟨hx, hb, hml, hown, hts⟩ := S
  have hA := hP k hk
  rw [← ha, hE] at hA
  subst hj
  exact va_iald (D := G.1) hx hb hK.1 hA.P 0 0 rfl rfl hin hdg kk
theorem x_alen (S : CallFix p m c cc nL s args Ts own) (hK : KK G s) (hP : PX G b N E v H) (k : Nat) (hk : k < N) (ha : a = b + k) {cA : ClassId} {x : vp_A} (hE : E k (v k) = .inl (cA, x)) (t0 : Nat) {ty : FieldType} (ht : (xT G)[t0]? = some (cA, ty)) {r : Int32} (hr : Int32.ofNat x.1 = r) (hdg : decode cc pc = .ok (.arraylength, 1))
    (kk : W p l e R s m args below meth c H locs cells slots Q (F0 m (pc + 1) ls (.int r :: rest))) : W p l e R s m args below meth c H locs cells slots Q (F0 m pc ls (.ref a :: rest)) := by
  obtain ⟨hx, hb, hml, hown, hts⟩ := S
  have hA := hP k hk
  rw [← ha, hE] at hA
  exact va_alen (D := G.1) hx hb hK.1 hA.P 0 t0 rfl ht hr hdg kk
theorem x_aald (S : CallFix p m c cc nL s args Ts own) (hK : KK G s) (hP : PX G b N E v H) (k : Nat) (hk : k < N) (ha : a = b + k) {cA : ClassId} {n : Nat} {f : Nat → Option Nat} (hE : E k (v k) = .inl (cA, n, .inr (.inr (.inr (.inr f))))) (t0 : Nat) {Cn : String} (ht : (xT G)[t0]? = some (cA, .object Cn)) {i : Int32} (j : Nat) (hj : i.toNatClampNeg = j) (hin : xin i n) {r : Nat} (hr : f j = some r) (hdg : decode cc pc = .ok (.aaload, 1))
    (kk : W p l e R s m args below meth c H locs cells slots Q (F0 m (pc + 1) ls (.ref r :: rest))) : W p l e R s m args below meth c H locs cells slots Q (F0 m pc ls (.int i :: .ref a :: rest)) := by
  obtain ⟨hx, hb, hml, hown, hts⟩ := S
  have hA := hP k hk
  rw [← ha, hE] at hA
  subst hj
  refine va_aldq (D := G.1) hx hb hK.1 hA.P 0 t0 rfl ht hin hdg ?_
  rw [hr]
  exact kk
theorem x_iast (S : CallFix p m c cc nL s args Ts own) (hK : KK G s) (hP : PX G b N E v H) (hzb : z ≤ b) (hL : ∀ q ∈ locs, z ≤ q.base) (k : Nat) (hk : k < N) (ha : a = b + k) {n : Nat} {f : Nat → Int32} (hE : E k (v k) = .inl (G.2.1, n, .inl f)) {i x : Int32} (j : Nat) (hj : i.toNatClampNeg = j) (hin : xin i n) (hE2 : E k (upd (v k) j x) = .inl (G.2.1, n, .inl (upd f j x))) {v' : xV} (hv : v' = upd2 v k j x) (hdg : decode cc pc = .ok (.iastore, 1))
    (kk : ∀ (H1 : Heap) (locs1 : List Loc), (∀ q ∈ locs1, z ≤ q.base) → PX G b N E v' H1 → XF (fun q => q = b + k) H H1 → W p l e R s m args below meth c H1 locs1 cells slots Q (F0 m (pc + 1) ls rest)) : W p l e R s m args below meth c H locs cells slots Q (F0 m pc ls (.int x :: .int i :: .ref a :: rest)) := by
  obtain ⟨hx, hb, hml, hown, hts⟩ := S
  have hA := hP k hk
  rw [← ha, hE] at hA
  subst hj
  refine W.iast hx hb hA ((hK.1.2 0 _ rfl).1 n (fun j => .int (f j))) (fun q => by cases q) (by show ¬ (i < 0 ∨ (arrV _ _ _).slots.size ≤ _); rw [arrV_size]; exact hin) rfl rfl hdg fun H1 e1 z1 oq => ?_
  subst ha
  refine kk H1 _ (fun q hq => ?_) (by
    rw [hv]
    refine hP.row ?_ oq
    rw [hE2]
    show H1[b + k]? = some (vp_cell _ _)
    rw [e1]
    rw [vp_cell_i, vp_cell_i, arrV_store]
    congr 2
    funext q
    by_cases hq : q = i.toNatClampNeg
    · subst hq
      simp [updV, upd]
    · simp [updV, upd, hq]) ⟨z1, oq⟩
  rcases List.mem_append.mp hq with h | h
  · exact hL q h
  · rw [List.mem_singleton.mp h]; show z ≤ b + k; omega
/-- System.arraycopy between two rows of numbers, from their starts -/
theorem x_copy (S : CallFix p m c cc nL s args Ts own) (hK : KK G s) {b2 N2 k2 a2 : Nat} {E2 : Nat → (Nat → Int32) → va_E} {u : xV} (hP : PX G b N E v H) (hP2 : PX G b2 N2 E2 u H) (hzb : z ≤ b) (hL : ∀ q ∈ locs, z ≤ q.base) (k : Nat) (hk : k < N) (ha : a = b + k) (hk2 : k2 < N2) (ha2 : a2 = b2 + k2) {n : Nat} {f g : Nat → Int32} (hE : E k (v k) = .inl (G.2.1, n, .inl g)) (hE2 : E2 k2 (u k2) = .inl (G.2.1, n, .inl f)) {x : Int32} (hx0 : ¬ x < 0) (hxn : x.toNatClampNeg = n) {index : Nat} (hne : b2 + k2 ≠ b + k)
    (hl1 : Cond.methodLink own index arraycopyName ∈ Ts) (hl2 : Cond.native arraycopyName ∈ Ts) (hl3 : Cond.static arraycopyName ∈ Ts) (hl4 : Cond.initialized "java/lang/System" ∈ Ts) {w : Nat → Int32} (hw : w = fun j => if j < n then f j else g j) (hE3 : E k w = .inl (G.2.1, n, .inl w)) {v' : xV} (hv : v' = xrow v k w) (hls : ls.size = nL) (hframes : 1 ≤ R.frames) (hlocals : (rest.map fun v => v.category).sum + (nativeFrameWords "java/lang/System" "arraycopy" 5 + 11) ≤ R.locals) (hdg : decode cc pc = .ok (.invokestatic index, 3))
    (kk : ∀ (H1 : Heap) (locs1 : List Loc), (∀ q ∈ locs1, z ≤ q.base) → PX G b N E v' H1 → XF (fun q => q = b + k) H H1 → W p l e R s m args below meth c H1 locs1 cells slots Q (F0 m (pc + 3) ls rest)) : W p l e R s m args below meth c H locs cells slots Q (F0 m pc ls (.int x :: .int 0 :: .ref a :: .int 0 :: .ref a2 :: rest)) := by
  obtain ⟨hx, hb, hml, hown, hts⟩ := S
  have hA := hP k hk
  rw [← ha, hE] at hA
  have hA2 := hP2 k2 hk2
  rw [← ha2, hE2] at hA2
  have nn : ∀ z : Int32, ¬ z < 0 → z.toInt = (z.toNatClampNeg : Int) := by
    intro z hz
    have hz0 : (0 : Int) ≤ z.toInt := by
      have := Int32.not_lt.mp hz
      simpa using Int32.le_iff_toInt_le.mp this
    show z.toInt = ((z.toInt.toNat : Nat) : Int)
    omega
  intro T hT X
  have hc0 : H[a2]? = some (vp_cell G.2.1 (n, .inl f)) := hA2
  have hc1 : H[a]? = some (vp_cell G.2.1 (n, .inl g)) := hA
  obtain ⟨-, k0, hk0, cm0, hkk0⟩ := (hK.1.2 0 _ rfl).1 n (fun j => .int (f j))
  obtain ⟨-, k1, hk1, cm1, hkk1⟩ := (hK.1.2 0 _ rfl).1 n (fun j => .int (g j))
  have h00 : ¬ (0 : Int32) < 0 := by decide
  have hz0 : (0 : Int32).toNatClampNeg = 0 := by decide
  obtain ⟨vm', X', step⟩ := X.arraycopy hx hown (hts _ hl1) (hts _ hl2) (hts _ hl3) (hts _ hl4) (src := a2) (dst := a) (cs := vp_cell G.2.1 (n, .inl f)) (cd := vp_cell G.2.1 (n, .inl g)) (srcPos := 0) (destPos := 0) (n := x) (by rw [hT]; exact hc0) (by rw [hT]; exact hc1)
    (fun _ h => by cases h) (fun _ h => by cases h) (fun h => by cases h) (fun h => by cases h) hk0 hk1 hkk0 hkk1 (by simp [refKind]) h00 h00 hx0
    (by rw [nn 0 h00, nn x hx0, hz0, hxn]; show ¬ _ > ((arrV G.2.1 n (fun j => .int (f j))).slots.size : Int); rw [arrV_size]; omega)
    (by rw [nn 0 h00, nn x hx0, hz0, hxn]; show ¬ _ > ((arrV G.2.1 n (fun j => .int (g j))).slots.size : Int); rw [arrV_size]; omega)
    (fun vm₁ _ i hi => by
      have e : (vp_cell G.2.1 (n, .inl f)).slots.getD ((0 : Int32).toNatClampNeg + i) .null = .int (f ((0 : Int32).toNatClampNeg + i)) := by
        show (arrV G.2.1 n (fun j => .int (f j))).slots.getD _ _ = _
        rw [Array.getD_eq_getD_getElem?, arrV_read _ _ (by rw [hz0]; omega)]
        rfl
      refine ⟨?_, ?_⟩
      · rw [e]; rfl
      · rw [e]
        exact trivial)
    (g := F0 m pc ls (.int x :: .int 0 :: .ref a :: .int 0 :: .ref a2 :: rest)) rfl (by rw [hml]; exact hls) (rest := rest) rfl (by rw [hb]; exact hdg) hframes (by show 2 * 0 + _ + _ ≤ _; omega)
  have e1 : copied (vp_cell G.2.1 (n, .inl f)) (vp_cell G.2.1 (n, .inl g)) 0 0 x = vp_cell G.2.1 (n, .inl (va_cpy f g (0 : Int32).toNatClampNeg (0 : Int32).toNatClampNeg x.toNatClampNeg)) := va_copied (fun z => .int z) G.2.1 G.2.1 f g (by rw [hz0, hxn]; omega)
  have e2 : va_cpy f g (0 : Int32).toNatClampNeg (0 : Int32).toNatClampNeg x.toNatClampNeg = w := by
    rw [hw, hz0, hxn]
    funext j
    simp [va_cpy]
  rw [e2] at e1
  rw [e1] at X' step
  have hl : a < H.size := (Array.getElem?_eq_some_iff.mp hc1).1
  have hheap : ((T.setVm vm').setCell a (vp_cell G.2.1 (n, .inl w))).heap = H.setIfInBounds a (vp_cell G.2.1 (n, .inl w)) := by rw [← hT]; rfl
  have oq : ∀ q : Nat, q ≠ a → (H.setIfInBounds a (vp_cell G.2.1 (n, .inl w)))[q]? = H[q]? := fun q hq => by simp [Array.getElem?_setIfInBounds, Ne.symm hq]
  subst ha
  obtain ⟨t, a1, b1⟩ := kk _ _ (fun q hq => by
      rcases List.mem_append.mp hq with h | h
      · exact hL q h
      · obtain ⟨y, -, hy⟩ := List.mem_map.mp h
        rw [← hy]
        show z ≤ b + k
        omega) (by
      rw [hv]
      refine hP.row ?_ oq
      rw [hE3]
      show (H.setIfInBounds (b + k) _)[b + k]? = some _
      simp [Array.getElem?_setIfInBounds, hl]) ⟨by simp, oq⟩ _ hheap X'
  exact ⟨t, step t a1, b1⟩
/-! calls -/
theorem x_runQ {mc ms : Nat} {rv : Option Value} {post : Heap → Heap → Prop} {st0 : List Value} (hr : va_Run p l e R s m args below meth c H locs cells slots 0 0 (F0 m pc ls st0) rest (fun st o t => o = Outcome.returned rv ∧ post st.heap t.heap) (fun q => z ≤ q)) (hL : ∀ q ∈ locs, z ≤ q.base)
    (kk : ∀ (H1 : Heap) (locs1 : List Loc), (∀ q ∈ locs1, z ≤ q.base) → post H H1 → W p l e R s m args below meth c H1 locs1 cells slots Q (F0 m (pc + 3) ls (rv.toList ++ rest))) : W p l e R s m args below meth c H locs cells slots Q (F0 m pc ls st0) := by
  intro T hT X
  obtain ⟨v, st₀, t, T', L, h0, X', hL', e1, e2, ⟨hv, hp⟩, st⟩ := hr T hT X
  cases hv
  rw [h0, ← e1] at hp
  obtain ⟨t2, a1, b1⟩ := kk T'.heap (locs ++ L) (fun q hq => by
    rcases List.mem_append.mp hq with h | h
    · exact hL q h
    · exact hL' q h) hp T' rfl X'
  exact ⟨t2, st t2 a1, b1⟩
/-- what a call needs of the heap: its picture -/
theorem x_preS {y : MethodName} {Pic : Heap → Prop} {av : List Value} (hK : KK G s) (hpic : Pic H) : PreS s H (fun v U => v = av.toArray ∧ KK G U ∧ Pic U.heap) av :=
  ⟨fun a U g mk q => ⟨q.1, q.2.1.calling, q.2.2⟩, fun U hU hW => ⟨rfl, hK.warm hW, by rw [hU]; exact hpic⟩⟩
section XCALLS
variable {y : MethodName} {bytes : ByteArray} {maxL n index fr lo : Nat} {ret : Option FieldType} {ws ws' : List Cond} {As st0 : List Value} {Pic : Heap → Prop} {rv : Option Value} {post : Heap → Heap → Prop}
theorem x_callV (S : CallFix p m c cc nL s args Ts own) (hK : KK G s) {C : String} {rb : Nat} (hM : xM l y ws fr lo G z (.ref rb :: As) Pic rv post) (hG : GoodIn Ts (wsV own index C y ws)) (hw : ws = Cond.code y bytes maxL ret :: ws') (n : Nat) (hd : y.cls = C ∧ y.cls ≠ "java/lang/invoke/MethodHandle" ∧ y.cls ≠ "java/lang/invoke/VarHandle" ∧ (parseMethodDescriptor y.desc).map (fun d => d.parameters.length) = some n) (hn : As.length = n) (hR : fr + 1 ≤ R.frames ∧ 8 + (maxL + 11) + lo ≤ R.locals)
    {bb NN : Nat} {EE : Nat → (Nat → Int32) → va_E} {vv : xV} (hB : PX G bb NN EE vv H) (k : Nat) (hk : k < NN) (hb2 : rb = bb + k) {ci M : Nat} {T : u_T} {fs : List Value} (hE : EE k (vv k) = .inr (ci, fs)) (hc : vwCl[ci]? = some (C, T, M)) (hpic : Pic H) (hls : ls.size = nL) (hst : st0 = As.reverse ++ .ref rb :: rest) (hrest : (rest.map fun v => v.category).sum ≤ 8) (hdg : decode cc pc = .ok (.invokevirtual index, 3)) (hL : ∀ q ∈ locs, z ≤ q.base) (hcs : cells ≤ R.cells ∧ slots ≤ R.slots)
    (kk : ∀ (H1 : Heap) (locs1 : List Loc), (∀ q ∈ locs1, z ≤ q.base) → post H H1 → W p l e R s m args below meth c H1 locs1 cells slots Q (F0 m (pc + 3) ls (rv.toList ++ rest))) : W p l e R s m args below meth c H locs cells slots Q (F0 m pc ls st0) := by
  have hA := hB k hk
  rw [← hb2, hE] at hA
  have hrecv := va_recv (D := G.1) hK.1 hA.P hc (q0 := 0) rfl
  have hp := x_preS (y := y) (Pic := Pic) (av := .ref rb :: As) hK hpic
  refine x_runQ (mc := 0) (ms := 0) (rv := rv) (post := post) (rest := rest) (va_runV (C := C) (b := rb) (As := As) (rest := rest) S hM (cwV n S.2.2.2.2 hG hw rfl rfl hd hR) ⟨hp.1, hrecv, hp.2⟩ rfl hn hls hst (lv_room hrest) hdg ⟨hcs.1, hcs.2⟩) hL kk
theorem x_callVi {r0 : Value} (S : CallFix p m c cc nL s args Ts own) (hK : KK G s) {C : String} {rb : Nat} (hM : xM l y ws fr lo G z (.ref rb :: As) Pic (some r0) post) (hG : GoodIn Ts (wsV own index C y ws)) (hw : ws = Cond.code y bytes maxL ret :: ws') (n : Nat) (hd : y.cls = C ∧ y.cls ≠ "java/lang/invoke/MethodHandle" ∧ y.cls ≠ "java/lang/invoke/VarHandle" ∧ (parseMethodDescriptor y.desc).map (fun d => d.parameters.length) = some n) (hn : As.length = n) (hR : fr + 1 ≤ R.frames ∧ 8 + (maxL + 11) + lo ≤ R.locals)
    {bb NN : Nat} {EE : Nat → (Nat → Int32) → va_E} {vv : xV} (hB : PX G bb NN EE vv H) (k : Nat) (hk : k < NN) (hb2 : rb = bb + k) {ci M : Nat} {T : u_T} {fs : List Value} (hE : EE k (vv k) = .inr (ci, fs)) (hc : vwCl[ci]? = some (C, T, M)) (hpic : Pic H) (hls : ls.size = nL) (hst : st0 = As.reverse ++ .ref rb :: rest) (hrest : (rest.map fun v => v.category).sum ≤ 8) (hdg : decode cc pc = .ok (.invokevirtual index, 3)) (hL : ∀ q ∈ locs, z ≤ q.base) (hcs : cells ≤ R.cells ∧ slots ≤ R.slots)
    (kk : ∀ (H1 : Heap) (locs1 : List Loc), (∀ q ∈ locs1, z ≤ q.base) → post H H1 → W p l e R s m args below meth c H1 locs1 cells slots Q (F0 m (pc + 3) ls (r0 :: rest))) : W p l e R s m args below meth c H locs cells slots Q (F0 m pc ls st0) :=
  x_callV S hK hM hG hw n hd hn hR hB k hk hb2 hE hc hpic hls hst hrest hdg hL hcs kk
theorem x_callVv (S : CallFix p m c cc nL s args Ts own) (hK : KK G s) {C : String} {rb : Nat} (hM : xM l y ws fr lo G z (.ref rb :: As) Pic none post) (hG : GoodIn Ts (wsV own index C y ws)) (hw : ws = Cond.code y bytes maxL ret :: ws') (n : Nat) (hd : y.cls = C ∧ y.cls ≠ "java/lang/invoke/MethodHandle" ∧ y.cls ≠ "java/lang/invoke/VarHandle" ∧ (parseMethodDescriptor y.desc).map (fun d => d.parameters.length) = some n) (hn : As.length = n) (hR : fr + 1 ≤ R.frames ∧ 8 + (maxL + 11) + lo ≤ R.locals)
    {bb NN : Nat} {EE : Nat → (Nat → Int32) → va_E} {vv : xV} (hB : PX G bb NN EE vv H) (k : Nat) (hk : k < NN) (hb2 : rb = bb + k) {ci M : Nat} {T : u_T} {fs : List Value} (hE : EE k (vv k) = .inr (ci, fs)) (hc : vwCl[ci]? = some (C, T, M)) (hpic : Pic H) (hls : ls.size = nL) (hst : st0 = As.reverse ++ .ref rb :: rest) (hrest : (rest.map fun v => v.category).sum ≤ 8) (hdg : decode cc pc = .ok (.invokevirtual index, 3)) (hL : ∀ q ∈ locs, z ≤ q.base) (hcs : cells ≤ R.cells ∧ slots ≤ R.slots)
    (kk : ∀ (H1 : Heap) (locs1 : List Loc), (∀ q ∈ locs1, z ≤ q.base) → post H H1 → W p l e R s m args below meth c H1 locs1 cells slots Q (F0 m (pc + 3) ls rest)) : W p l e R s m args below meth c H locs cells slots Q (F0 m pc ls st0) :=
  x_callV S hK hM hG hw n hd hn hR hB k hk hb2 hE hc hpic hls hst hrest hdg hL hcs kk
/-- a static method of another class -/
theorem x_callT (S : CallFix p m c cc nL s args Ts own) (hK : KK G s) (hM : xM l y ws fr lo G z As Pic rv post) (hG : GoodIn Ts (va_wsS own index y ws)) (hw : ws = Cond.code y bytes maxL ret :: ws') (n : Nat) (hd : y.cls ≠ "java/lang/invoke/MethodHandle" ∧ y.cls ≠ "java/lang/invoke/VarHandle" ∧ (parseMethodDescriptor y.desc).map (fun d => d.parameters.length) = some n) (hn : As.length = n) (hR : fr + 1 ≤ R.frames ∧ 8 + (maxL + 11) + lo ≤ R.locals)
    (hpic : Pic H) (hls : ls.size = nL) (hst : st0 = As.reverse ++ rest) (hrest : (rest.map fun v => v.category).sum ≤ 8) (hdg : decode cc pc = .ok (.invokestatic index, 3)) (hL : ∀ q ∈ locs, z ≤ q.base) (hcs : cells ≤ R.cells ∧ slots ≤ R.slots)
    (kk : ∀ (H1 : Heap) (locs1 : List Loc), (∀ q ∈ locs1, z ≤ q.base) → post H H1 → W p l e R s m args below meth c H1 locs1 cells slots Q (F0 m (pc + 3) ls (rv.toList ++ rest))) : W p l e R s m args below meth c H locs cells slots Q (F0 m pc ls st0) :=
  x_runQ (mc := 0) (ms := 0) (rv := rv) (post := post) (rest := rest) (va_runS (As := As) (rest := rest) S hM (va_cwS n S.2.2.2.2 hG hw rfl rfl hd hR) (x_preS (y := y) hK hpic) rfl hn hls hst (lv_room hrest) hdg ⟨hcs.1, hcs.2⟩) hL kk
theorem x_callTi {r0 : Value} (S : CallFix p m c cc nL s args Ts own) (hK : KK G s) (hM : xM l y ws fr lo G z As Pic (some r0) post) (hG : GoodIn Ts (va_wsS own index y ws)) (hw : ws = Cond.code y bytes maxL ret :: ws') (n : Nat) (hd : y.cls ≠ "java/lang/invoke/MethodHandle" ∧ y.cls ≠ "java/lang/invoke/VarHandle" ∧ (parseMethodDescriptor y.desc).map (fun d => d.parameters.length) = some n) (hn : As.length = n) (hR : fr + 1 ≤ R.frames ∧ 8 + (maxL + 11) + lo ≤ R.locals)
    (hpic : Pic H) (hls : ls.size = nL) (hst : st0 = As.reverse ++ rest) (hrest : (rest.map fun v => v.category).sum ≤ 8) (hdg : decode cc pc = .ok (.invokestatic index, 3)) (hL : ∀ q ∈ locs, z ≤ q.base) (hcs : cells ≤ R.cells ∧ slots ≤ R.slots)
    (kk : ∀ (H1 : Heap) (locs1 : List Loc), (∀ q ∈ locs1, z ≤ q.base) → post H H1 → W p l e R s m args below meth c H1 locs1 cells slots Q (F0 m (pc + 3) ls (r0 :: rest))) : W p l e R s m args below meth c H locs cells slots Q (F0 m pc ls st0) :=
  x_callT S hK hM hG hw n hd hn hR hpic hls hst hrest hdg hL hcs kk
theorem x_callTv (S : CallFix p m c cc nL s args Ts own) (hK : KK G s) (hM : xM l y ws fr lo G z As Pic none post) (hG : GoodIn Ts (va_wsS own index y ws)) (hw : ws = Cond.code y bytes maxL ret :: ws') (n : Nat) (hd : y.cls ≠ "java/lang/invoke/MethodHandle" ∧ y.cls ≠ "java/lang/invoke/VarHandle" ∧ (parseMethodDescriptor y.desc).map (fun d => d.parameters.length) = some n) (hn : As.length = n) (hR : fr + 1 ≤ R.frames ∧ 8 + (maxL + 11) + lo ≤ R.locals)
    (hpic : Pic H) (hls : ls.size = nL) (hst : st0 = As.reverse ++ rest) (hrest : (rest.map fun v => v.category).sum ≤ 8) (hdg : decode cc pc = .ok (.invokestatic index, 3)) (hL : ∀ q ∈ locs, z ≤ q.base) (hcs : cells ≤ R.cells ∧ slots ≤ R.slots)
    (kk : ∀ (H1 : Heap) (locs1 : List Loc), (∀ q ∈ locs1, z ≤ q.base) → post H H1 → W p l e R s m args below meth c H1 locs1 cells slots Q (F0 m (pc + 3) ls rest)) : W p l e R s m args below meth c H locs cells slots Q (F0 m pc ls st0) :=
  x_callT S hK hM hG hw n hd hn hR hpic hls hst hrest hdg hL hcs kk
/-- a private static method of a nest mate -/
theorem x_callN (S : CallFix p m c cc nL s args Ts own) (hK : KK G s) {host : String} (hM : xM l y ws fr lo G z As Pic rv post) (hG : GoodIn Ts ws) (hst8 : Cond.static y ∈ Ts) (hini : Cond.initialized y.cls ∈ Ts) (hnest : va_Nw (.methodLinkNest own index y host) s) (hw : ws = Cond.code y bytes maxL ret :: ws') (n : Nat) (hd : y.cls ≠ "java/lang/invoke/MethodHandle" ∧ y.cls ≠ "java/lang/invoke/VarHandle" ∧ (parseMethodDescriptor y.desc).map (fun d => d.parameters.length) = some n) (hn : As.length = n) (hR : fr + 1 ≤ R.frames ∧ 8 + (maxL + 11) + lo ≤ R.locals)
    (hpic : Pic H) (hls : ls.size = nL) (hst : st0 = As.reverse ++ rest) (hrest : (rest.map fun v => v.category).sum ≤ 8) (hdg : decode cc pc = .ok (.invokestatic index, 3)) (hL : ∀ q ∈ locs, z ≤ q.base) (hcs : cells ≤ R.cells ∧ slots ≤ R.slots)
    (kk : ∀ (H1 : Heap) (locs1 : List Loc), (∀ q ∈ locs1, z ≤ q.base) → post H H1 → W p l e R s m args below meth c H1 locs1 cells slots Q (F0 m (pc + 3) ls (rv.toList ++ rest))) : W p l e R s m args below meth c H locs cells slots Q (F0 m pc ls st0) :=
  x_runQ (mc := 0) (ms := 0) (rv := rv) (post := post) (rest := rest) (va_runSN (As := As) (rest := rest) S hM ⟨va_cnB n S.2.2.2.2 hG hw rfl rfl hnest (S.2.2.2.2 _ hini) hd hR, S.2.2.2.2 _ hst8, trivial⟩ (x_preS (y := y) hK hpic) rfl hn hls hst (lv_room hrest) hdg ⟨hcs.1, hcs.2⟩) hL kk
theorem x_callNi {r0 : Value} (S : CallFix p m c cc nL s args Ts own) (hK : KK G s) {host : String} (hM : xM l y ws fr lo G z As Pic (some r0) post) (hG : GoodIn Ts ws) (hst8 : Cond.static y ∈ Ts) (hini : Cond.initialized y.cls ∈ Ts) (hnest : va_Nw (.methodLinkNest own index y host) s) (hw : ws = Cond.code y bytes maxL ret :: ws') (n : Nat) (hd : y.cls ≠ "java/lang/invoke/MethodHandle" ∧ y.cls ≠ "java/lang/invoke/VarHandle" ∧ (parseMethodDescriptor y.desc).map (fun d => d.parameters.length) = some n) (hn : As.length = n) (hR : fr + 1 ≤ R.frames ∧ 8 + (maxL + 11) + lo ≤ R.locals)
    (hpic : Pic H) (hls : ls.size = nL) (hst : st0 = As.reverse ++ rest) (hrest : (rest.map fun v => v.category).sum ≤ 8) (hdg : decode cc pc = .ok (.invokestatic index, 3)) (hL : ∀ q ∈ locs, z ≤ q.base) (hcs : cells ≤ R.cells ∧ slots ≤ R.slots)
    (kk : ∀ (H1 : Heap) (locs1 : List Loc), (∀ q ∈ locs1, z ≤ q.base) → post H H1 → W p l e R s m args below meth c H1 locs1 cells slots Q (F0 m (pc + 3) ls (r0 :: rest))) : W p l e R s m args below meth c H locs cells slots Q (F0 m pc ls st0) :=
  x_callN S hK hM hG hst8 hini hnest hw n hd hn hR hpic hls hst hrest hdg hL hcs kk
theorem x_callNv (S : CallFix p m c cc nL s args Ts own) (hK : KK G s) {host : String} (hM : xM l y ws fr lo G z As Pic none post) (hG : GoodIn Ts ws) (hst8 : Cond.static y ∈ Ts) (hini : Cond.initialized y.cls ∈ Ts) (hnest : va_Nw (.methodLinkNest own index y host) s) (hw : ws = Cond.code y bytes maxL ret :: ws') (n : Nat) (hd : y.cls ≠ "java/lang/invoke/MethodHandle" ∧ y.cls ≠ "java/lang/invoke/VarHandle" ∧ (parseMethodDescriptor y.desc).map (fun d => d.parameters.length) = some n) (hn : As.length = n) (hR : fr + 1 ≤ R.frames ∧ 8 + (maxL + 11) + lo ≤ R.locals)
    (hpic : Pic H) (hls : ls.size = nL) (hst : st0 = As.reverse ++ rest) (hrest : (rest.map fun v => v.category).sum ≤ 8) (hdg : decode cc pc = .ok (.invokestatic index, 3)) (hL : ∀ q ∈ locs, z ≤ q.base) (hcs : cells ≤ R.cells ∧ slots ≤ R.slots)
    (kk : ∀ (H1 : Heap) (locs1 : List Loc), (∀ q ∈ locs1, z ≤ q.base) → post H H1 → W p l e R s m args below meth c H1 locs1 cells slots Q (F0 m (pc + 3) ls rest)) : W p l e R s m args below meth c H locs cells slots Q (F0 m pc ls st0) :=
  x_callN S hK hM hG hst8 hini hnest hw n hd hn hR hpic hls hst hrest hdg hL hcs kk
end XCALLS
theorem x_max (S : CallFix p m c cc nL s args Ts own) {index : Nat} (hl1 : Cond.methodLink own index Lib.Math.max.name ∈ Ts) (hl2 : Cond.static Lib.Math.max.name ∈ Ts) (hl3 : Cond.initialized "java/lang/Math" ∈ Ts) (hl4 : Cond.code Lib.Math.max.name Lib.Math.max.code 2 (some .int) ∈ Ts) (hls : ls.size = nL)
    (hframes : 1 ≤ R.frames) (hlocals : (rest.map fun v => v.category).sum + 13 ≤ R.locals) (hc : cells ≤ R.cells) (hs : slots ≤ R.slots) {x y : Int32} (hdg : decode cc pc = .ok (.invokestatic index, 3))
    (kk : W p l e R s m args below meth c H locs cells slots Q (F0 m (pc + 3) ls (.int (if x < y then y else x) :: rest))) : W p l e R s m args below meth c H locs cells slots Q (F0 m pc ls (.int y :: .int x :: rest)) := by
  obtain ⟨hx, hb, hml, hown, hts⟩ := S
  exact va_mmax hx hb (hml.trans hls.symm) hown (hts _ hl1) (hts _ hl2) (hts _ hl3) (hts _ hl4) hframes hlocals hc hs hdg kk
theorem x_min (S : CallFix p m c cc nL s args Ts own) {index : Nat} (hl1 : Cond.methodLink own index Lib.Math.min.name ∈ Ts) (hl2 : Cond.static Lib.Math.min.name ∈ Ts) (hl3 : Cond.initialized "java/lang/Math" ∈ Ts) (hl4 : Cond.code Lib.Math.min.name Lib.Math.min.code 2 (some .int) ∈ Ts) (hls : ls.size = nL)
    (hframes : 1 ≤ R.frames) (hlocals : (rest.map fun v => v.category).sum + 13 ≤ R.locals) (hc : cells ≤ R.cells) (hs : slots ≤ R.slots) {x y : Int32} (hdg : decode cc pc = .ok (.invokestatic index, 3))
    (kk : W p l e R s m args below meth c H locs cells slots Q (F0 m (pc + 3) ls (.int (if y < x then y else x) :: rest))) : W p l e R s m args below meth c H locs cells slots Q (F0 m pc ls (.int y :: .int x :: rest)) := by
  obtain ⟨hx, hb, hml, hown, hts⟩ := S
  exact va_mmin hx hb (hml.trans hls.symm) hown (hts _ hl1) (hts _ hl2) (hts _ hl3) (hts _ hl4) hframes hlocals hc hs hdg kk
theorem x_iret {rv : Option Value} {post : Heap → Heap → Prop} (S : CallFix p m c cc nL s args Ts own) (hr : meth.sig.returnType = some .int) (hlocks : meth.locks = false) {r : Int32} (hv : rv = some (.int r)) (hp : post s.heap H) (hL : ∀ q ∈ locs, z ≤ q.base) (hdg : decode cc pc = .ok (.ireturn, 1)) : W p l e R s m args below meth c H locs cells slots (MQ below (fun _ st o t => o = .returned rv ∧ post st.heap t.heap) args s cells slots (fun q => z ≤ q)) (F0 m pc ls [.int r]) :=
  W.iret S.1 S.2.1 hr (fun t ht hW => ⟨by rw [hv], by rw [ht]; exact hp⟩) hL hdg hlocks
theorem x_zret {rv : Option Value} {post : Heap → Heap → Prop} (S : CallFix p m c cc nL s args Ts own) (hr : meth.sig.returnType = some .boolean) (hlocks : meth.locks = false) {r : Int32} (hb : r = 0 ∨ r = 1) (hv : rv = some (.int r)) (hp : post s.heap H) (hL : ∀ q ∈ locs, z ≤ q.base) (hdg : decode cc pc = .ok (.ireturn, 1)) : W p l e R s m args below meth c H locs cells slots (MQ below (fun _ st o t => o = .returned rv ∧ post st.heap t.heap) args s cells slots (fun q => z ≤ q)) (F0 m pc ls [.int r]) :=
  W.zret S.1 S.2.1 hr (by rcases hb with rfl | rfl <;> rfl) (fun t ht hW => ⟨by rw [hv], by rw [ht]; exact hp⟩) hL hdg hlocks
theorem x_vret {rv : Option Value} {post : Heap → Heap → Prop} (S : CallFix p m c cc nL s args Ts own) (hr : meth.sig.returnType = none) (hlocks : meth.locks = false) (hv : rv = none) (hp : post s.heap H) (hL : ∀ q ∈ locs, z ≤ q.base) (hdg : decode cc pc = .ok (.return_, 1)) : W p l e R s m args below meth c H locs cells slots (MQ below (fun _ st o t => o = .returned rv ∧ post st.heap t.heap) args s cells slots (fun q => z ≤ q)) (F0 m pc ls []) :=
  W.vret S.1 S.2.1 hr (fun t ht hW => ⟨by rw [hv], by rw [ht]; exact hp⟩) hL hdg hlocks
theorem x_aret {rv : Option Value} {post : Heap → Heap → Prop} (S : CallFix p m c cc nL s args Ts own) {Cn : String} (hr : meth.sig.returnType = some (.object Cn)) (hlocks : meth.locks = false) {r : Value} (hb : r = .null ∨ ∃ a, r = .ref a) (hv : rv = some r) (hp : post s.heap H) (hL : ∀ q ∈ locs, z ≤ q.base) (hdg : decode cc pc = .ok (.areturn, 1)) : W p l e R s m args below meth c H locs cells slots (MQ below (fun _ st o t => o = .returned rv ∧ post st.heap t.heap) args s cells slots (fun q => z ≤ q)) (F0 m pc ls [r]) :=
  W.aret S.1 S.2.1 hr (Or.inl ⟨_, rfl⟩) hb (fun t ht hW => ⟨by rw [hv], by rw [ht]; exact hp⟩) hL hdg hlocks
theorem x_tin {dflt lo hi : Int} {offs : Array Int} {len : Nat} {x : Int32} {off : Int} {tgt : Nat} (S : CallFix p m c cc nL s args Ts own) (y : Int32) (hxy : x = y) (hdg : decode cc pc = .ok (.tableswitch dflt lo hi offs, len)) (h1 : ¬ y.toInt < lo) (h2 : ¬ hi < y.toInt) (ho : offs[(y.toInt - lo).toNat]? = some off) (ht : (pc : Int) + off = (tgt : Int)) (k : W p l e R s m args below meth c H locs cells slots Q (F0 m tgt ls rest)) : W p l e R s m args below meth c H locs cells slots Q (F0 m pc ls (.int x :: rest)) := by
  subst hxy
  exact lv_tableIn S.1 S.2.1 hdg h1 h2 ho ht k
end XROWS
