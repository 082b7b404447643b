/-! ===== what the start gives of the static rows; the constructors over it ===== -/
/-- a static row of eight ints, as the start gives it -/
def SR (G : xG) (t : Nat) (f : Nat → Int32) (H : Heap) : Prop := ∃ cell : Cell, H[t]? = some cell ∧ cell.cls = G.2.1 ∧ cell.vm.isStatics = false ∧ cell.vm ≠ .unknown ∧ cell.slots = (arrV G.2.1 8 (fun j => .int (f j))).slots
theorem SR.kept {G : xG} {t : Nat} {f : Nat → Int32} {H H1 : Heap} (h : SR G t f H) (hq : H1[t]? = H[t]?) : SR G t f H1 := by
  obtain ⟨cell, h1, h2⟩ := h
  exact ⟨cell, hq.trans h1, h2⟩
def SS2 (G : xG) (z : Nat) (t1 t2 : Nat) (U : State) : Prop := va_Z "VillageHall" "SETTING_AT_FIRST" "[I" (.ref t1) (fun q => z ≤ q) U U.heap ∧ SR G t1 xsF U.heap ∧ t1 < z ∧ va_Z "VillageHall" "SETTING_AT_MOST" "[I" (.ref t2) (fun q => z ≤ q) U U.heap ∧ SR G t2 xsM U.heap ∧ t2 < z
def KC2 (G : xG) (z : Nat) (U : State) : Prop := KK G U ∧ va_AO RX0 U ∧ va_AO RX1 U ∧ va_AO RX3 U ∧ va_Nw (.castable "[I" "java/lang/Cloneable") U ∧ va_Nw (.fieldLinkNest RX0 9 "VillageHall" "SETTING_AT_FIRST" "[I" RX7) U ∧ ∃ t1 t2, SS2 G z t1 t2 U
theorem SS2.go {G : xG} {z t1 t2 : Nat} {s U : State} {H : Heap} (h : SS2 G z t1 t2 s) (hq : ∀ q, q < z → H[q]? = s.heap[q]?) (hU : U.heap = H) (hvm : s.vm.Alike U.vm) : SS2 G z t1 t2 U := by
  obtain ⟨h1, h2, h3, h4, h5, h6⟩ := h
  have hk : ∀ a : Nat, a < s.heap.size → ¬ (z ≤ a) → U.heap[a]? = s.heap[a]? := fun a _ ha => by rw [hU]; exact hq a (by omega)
  exact ⟨(h1.kept hk).moved hvm, h2.kept (by rw [hU]; exact hq _ h3), h3, (h4.kept hk).moved hvm, h5.kept (by rw [hU]; exact hq _ h6), h6⟩
theorem KC2.go {G : xG} {z : Nat} {s U : State} {H : Heap} (h : KC2 G z s) (hq : ∀ q, q < z → H[q]? = s.heap[q]?) (hU : U.heap = H) (hW : s.WarmedH U.vm) : KC2 G z U := by
  obtain ⟨h1, h2, h3, h4, h5, h7, t1, t2, h6⟩ := h
  exact ⟨h1.warm hW, h2.moved hW.alike, h3.moved hW.alike, h4.moved hW.alike, va_Nw.warmC hW h5, va_Nw.warmF hW h7, t1, t2, h6.go hq hU hW.alike⟩
theorem KC2.calling {G : xG} {z : Nat} {U : State} {g : JFrame} {mk : MethodId} {a : Array Value} (h : KC2 G z U) : KC2 G z (U.calling g mk a) := by
  obtain ⟨h1, h2, h3, h4, h5, h7, t1, t2, h6⟩ := h
  have hvm : U.vm.Alike (U.calling g mk a).vm := Vm.Alike.refl U.vm
  exact ⟨h1.calling, h2.moved hvm, h3.moved hvm, h4.moved hvm, h5.same rfl rfl, h7.same rfl rfl, t1, t2, h6.go (H := U.heap) (fun _ _ => rfl) rfl hvm⟩
section XKC2
variable {p : Program} {l : Launch} {e : Env} {R : Room} {s : State} {m : MethodId} {args : Array Value} {below : List Frame} {meth : Method} {c : Code} {H : Heap} {locs : List Loc} {cells slots : Nat} {Q : State → Prop}
variable {cc : ByteArray} {pc nL : Nat} {ls : Array Slot} {rest : List Value} {G : xG} {a b z : Nat} {own : String} {Ts : List Cond}
theorem isS {vm : VmData} (h : vm.isStatics = false) : ∀ k, vm ≠ .statics k := fun k e => by
  rw [e] at h
  cases h
theorem SR.of (hK : KK G s) {f : Nat → Int32} {cell : Cell} (h2 : cell.cls = G.2.1) (h3 : cell.vm.isStatics = false) : s.isArrayOf cell .int :=
  ⟨isS h3, by rw [h2]; exact ((hK.1.2 0 _ rfl).1 8 (fun j => .int (f j))).2⟩
theorem x_ialdS (S : CallFix p m c cc nL s args Ts own) (hK : KK G s) {f : Nat → Int32} (hA : SR G a f H) {i : Int32} (j : Nat) (hj : i.toNatClampNeg = j) (hin : xin i 8) (hdg : decode cc pc = .ok (.iaload, 1))
    (kk : W p l e R s m args below meth c H locs cells slots Q (F0 m (pc + 1) ls (.int (f j) :: rest))) : W p l e R s m args below meth c H locs cells slots Q (F0 m pc ls (.int i :: .ref a :: rest)) := by
  obtain ⟨hx, hb, hml, hown, hts⟩ := S
  obtain ⟨cell, h1, h2, h3, h4, h5⟩ := hA
  subst hj
  refine W.iald (v := .int (f i.toNatClampNeg)) hx hb h1 (SR.of (f := f) hK h2 h3) h4 (by rw [h5, arrV_size]; exact hin) ?_ rfl rfl hdg kk
  rw [h5]
  exact arrV_read _ (fun j => .int (f j)) (xin_lt hin)
/-- the static row is cloned -/
theorem x_cloneS (S : CallFix p m c cc nL s args Ts own) (hK : KK G s) (hcl : va_Nw (.castable "[I" "java/lang/Cloneable") s) {index : Nat} (hlink : Cond.methodLink own index ⟨"[I", "clone", "()Ljava/lang/Object;"⟩ ∈ Ts) (hsame : Cond.sameMethod "[I" "java/lang/Object" "clone" "()Ljava/lang/Object;" ∈ Ts) (hnat : Cond.native ⟨"java/lang/Object", "clone", "()Ljava/lang/Object;"⟩ ∈ Ts) (hinst : Cond.instanceMethod ⟨"java/lang/Object", "clone", "()Ljava/lang/Object;"⟩ ∈ Ts) (hsel : Cond.selects "[I" ⟨"[I", "clone", "()Ljava/lang/Object;"⟩ ⟨"java/lang/Object", "clone", "()Ljava/lang/Object;"⟩ ∈ Ts) {f : Nat → Int32} (hA : SR G a f H) (hls : ls.size = nL) (hframes : 1 ≤ R.frames) (hlocals : (rest.map fun v => v.category).sum + 14 ≤ R.locals) (hcells : cells + 1 ≤ R.cells) (hslots : slots + 8 ≤ R.slots) {h : Nat} (hh : H.size = h) (hdg : decode cc pc = .ok (.invokevirtual index, 3))
    (kk : ∀ H1 : Heap, At G h (.inl (G.2.1, 8, .inl f)) H1 → H1.size = h + 1 → (∀ q, q < h → H1[q]? = H[q]?) → W p l e R s m args below meth c H1 locs (cells + 1) (slots + 8) Q (F0 m (pc + 3) ls (.ref h :: rest))) : W p l e R s m args below meth c H locs cells slots Q (F0 m pc ls (.ref a :: rest)) := by
  obtain ⟨hx, hb, hml, hown, hts⟩ := S
  subst hh
  have hnm : s.vm.findClass "[I" = some G.2.1 := (hK.1.2 0 _ rfl).2
  obtain ⟨c0, t0', f1, f2, f3⟩ := Cond.castable_spec (va_Nw.use (A := args) rfl hcl)
  cases hnm.symm.trans f1
  obtain ⟨cell, h1, h2, h3, h4, h5⟩ := hA
  intro T hT X
  have hsz : cell.slots.size = 8 := by rw [h5]; exact arrV_size _ _ _
  have hcellT : T.heap[a]? = some cell := by rw [hT]; exact h1
  obtain ⟨-, kA, hkA, comp, hkind⟩ := State.isArrayOf_alike X.warmed.alike ((hK.1.2 0 _ rfl).1 0 (fun _ => .null))
  obtain ⟨-, kS, hkS, compS, hkindS⟩ := (hK.1.2 0 _ rfl).1 0 (fun _ => .null)
  obtain ⟨vm', X', st⟩ := X.cloneArray hx hown (hts _ hlink) (hts _ hsame) (hts _ hnat) (hts _ hinst) (hts _ hsel) (a := a) (cell := cell) hcellT (isS h3) h4 (by rw [h2]; exact hnm) f2 (by rw [h2]; exact f3)
    (fun i v hv => by
      have hk' : T.vm.classes[cell.cls]? = some kA := by rw [h2]; exact hkA
      have hfit : fits .int v = true := by
        have hlt : i < 8 := by
          have := (Array.getElem?_eq_some_iff.mp hv).1
          rw [hsz] at this
          exact this
        rw [h5, arrV_read _ _ hlt] at hv
        cases hv
        rfl
      show T.fitsSlot cell.cls _ i v = true
      simpa [State.fitsSlot, State.slotType?, hk', hkind] using hfit)
    (g := F0 m pc ls (.ref a :: rest)) rfl (by rw [hml]; exact hls) rfl (by rw [hb]; exact hdg) hframes (by show 2 * 0 + _ + 14 ≤ _; omega) hcells (by rw [hsz]; exact hslots) (hloader := by rw [h2]; exact Vm.clonesLoader_of_array hkS hkindS)
  have hcellE : ({ cls := cell.cls, slots := cell.slots } : Cell) = vp_cell G.2.1 (8, .inl f) := by rw [h2, h5]; rfl
  rw [hcellE, hsz] at X'
  rw [hcellE] at st
  generalize hH1 : H.push (vp_cell G.2.1 (8, .inl f)) = H1
  have z1 : H1.size = H.size + 1 := by rw [← hH1, Array.size_push]
  have e1 : H1[H.size]? = some (vp_cell G.2.1 (8, .inl f)) := by rw [← hH1, Array.getElem?_push_size]
  have o1 : ∀ q : Nat, q < H.size → H1[q]? = H[q]? := fun q hq => by rw [← hH1, Array.getElem?_push, if_neg (Nat.ne_of_lt hq)]
  obtain ⟨t, b1, b2⟩ := kk H1 e1 z1 o1 ((T.setVm vm').pushCell (vp_cell G.2.1 (8, .inl f))) (by rw [← hH1, ← hT]; rfl) X'
  refine ⟨t, st t ?_, b2⟩
  rw [hT]
  exact b1
end XKC2
set_option maxRecDepth 100000 in
set_option maxHeartbeats 4000000 in
theorem c2_X6_init (l : Launch) (G : xG) (z : Nat) (h : Nat) : xMc l yX6_init wsX6_init 1 12 0 0 (KC2 G z) z [.ref h] (fun H => H = H) none (fun H H1 => H1 = H) := by
  refine xMc.of (cc := cX6_init) (maxL := 1) (ret := none) (by decide +kernel) rfl (Nat.le_of_ble_eq_true rfl) ?_
  intro p e s m args below meth c ls Q hQ S hr hlocks hname0 hKC hP hl
  have hK := hKC.1
  have hname : meth.name = "<init>" := hname0
  obtain ⟨hx, hb, hml, hown, hts⟩ := id S
  have hL : ∀ q ∈ ([] : List Loc), z ≤ q.base := fun q h => absurd h List.not_mem_nil
  have hl : lv_has ls 1 [(0, .ref h)] := hl
  refine lv_aload_n hx hb dX6_init_0 rfl (lv_at hl 0 rfl) ?_
  refine x_obj S (xm 1 rfl) (xm 2 rfl) (xm 3 rfl) hl.1 dX6_init_1 (Nat.le_of_ble_eq_true rfl) (Nat.le_of_ble_eq_true rfl) ?_
  refine W.cs (cells' := 0) (slots' := 0) (by omega) (by omega) ?_
  subst hQ
  refine x_vret (post := fun H H1 => H1 = H) S hr hlocks rfl ?_ hL dX6_init_4
  rfl

set_option maxRecDepth 100000 in
set_option maxHeartbeats 4000000 in
theorem c2_X3_init (l : Launch) (G : xG) (z : Nat) (h : Nat) (p1 : Int32) (hz : z ≤ h) : xMc l yX3_init wsX3_init 1 12 0 0 (KC2 G z) z [.ref h, .int p1] (fun H => At G h (.inr (3, [.int 0, .int 0, .int 0])) H ∧ H.size = h + 1) none (fun H H1 => At G h (.inr (3, [.int p1, .int (-1), .int 0])) H1 ∧ H1.size = h + 1 ∧ ∀ q, q < h → H1[q]? = H[q]?) := by
  refine xMc.of (cc := cX3_init) (maxL := 2) (ret := none) (by decide +kernel) rfl (Nat.le_of_ble_eq_true rfl) ?_
  intro p e s m args below meth c ls Q hQ S hr hlocks hname0 hKC hP hl
  have hK := hKC.1
  have hname : meth.name = "<init>" := hname0
  obtain ⟨hx, hb, hml, hown, hts⟩ := id S
  have hL : ∀ q ∈ ([] : List Loc), z ≤ q.base := fun q h => absurd h List.not_mem_nil
  obtain ⟨hA, hsz⟩ := hP
  have hz0 : ∀ q, q < h → s.heap[q]? = s.heap[q]? := fun _ _ => rfl
  have hl : lv_has ls 2 [(0, .ref h), (1, .int p1)] := hl
  have in3 : ∀ w ∈ u_ws RX3 TX3 3, w ∈ wsX3_init := fun _ h => List.mem_cons_of_mem _ (List.mem_append_right _ h)
  refine lv_aload_n hx hb dX3_init_0 rfl (lv_at hl 0 rfl) ?_
  refine x_obj S (xm 1 rfl) (xm 2 rfl) (xm 3 rfl) hl.1 dX3_init_1 (Nat.le_of_ble_eq_true rfl) (Nat.le_of_ble_eq_true rfl) ?_
  refine lv_aload_n hx hb dX3_init_4 rfl (lv_at hl 0 rfl) ?_
  refine lv_iload_n hx hb dX3_init_5 rfl (lv_at hl 1 rfl) ?_
  refine x_putF S hK hname hA (by omega) hL rfl in3 tyX3 tyX3_ok nmX3 0 (by decide) (xm 4 rfl) rfl rfl rfl rfl (Nat.le_of_ble_eq_true rfl) dX3_init_6 (fun H1 locs hL hA hs1 oq => ?_)
  have hA : At G (h) (.inr (3, [.int p1, .int 0, .int 0])) H1 := hA
  have hz0 : ∀ q, q < h → H1[q]? = s.heap[q]? := fun q hq => (oq q (by omega)).trans (hz0 q hq)
  have hsz : H1.size = _ := hs1.trans hsz
  refine lv_aload_n hx hb dX3_init_9 rfl (lv_at hl 0 rfl) ?_
  refine lv_iconst (v := (-1)) hx hb dX3_init_10 (by decide) ?_
  refine x_putA S hK hA (by omega) hL rfl in3 tyX3 tyX3_ok nmX3 1 (by decide) (xm 5 rfl) rfl rfl rfl (Nat.le_of_ble_eq_true rfl) dX3_init_11 (fun H1 locs hL hA hs1 oq => ?_)
  have hA : At G (h) (.inr (3, [.int p1, .int (-1), .int 0])) H1 := hA
  have hz0 : ∀ q, q < h → H1[q]? = s.heap[q]? := fun q hq => (oq q (by omega)).trans (hz0 q hq)
  have hsz : H1.size = _ := hs1.trans hsz
  refine W.cs (cells' := 0) (slots' := 0) (by omega) (by omega) ?_
  subst hQ
  refine x_vret (post := fun H H1 => At G h (.inr (3, [.int p1, .int (-1), .int 0])) H1 ∧ H1.size = h + 1 ∧ ∀ q, q < h → H1[q]? = H[q]?) S hr hlocks rfl ?_ hL dX3_init_14
  exact ⟨hA, hsz, hz0⟩

set_option maxRecDepth 100000 in
set_option maxHeartbeats 4000000 in
theorem c2_X1_init (l : Launch) (G : xG) (z : Nat) (h : Nat) (p1 : Int32) (hz : z ≤ h) : xMc l yX1_init wsX1_init 1 12 1 32 (KC2 G z) z [.ref h, .int p1] (fun H => At G h (.inr (1, [.int 0, .int 0, .int 0, .int 0, .int 0, .int 0, .int 0, .int 0, .int 0, .int 0, .int 0, .int 0, .int 0, .int 0, .null])) H ∧ H.size = h + 1) none (fun H H1 => At G h (.inr (1, [.int p1, .int (-1), .int 0, .int 0, .int 0, .int 0, .int 0, .int 0, .int 0, .int 0, .int 0, .int 0, .int 0, .int 0, .ref (h + 1)])) H1 ∧ At G (h + 1) (.inl (G.2.1, 32, .inl (fun _ => 0))) H1 ∧ H1.size = h + 2 ∧ ∀ q, q < h → H1[q]? = H[q]?) := by
  refine xMc.of (cc := cX1_init) (maxL := 2) (ret := none) (by decide +kernel) rfl (Nat.le_of_ble_eq_true rfl) ?_
  intro p e s m args below meth c ls Q hQ S hr hlocks hname0 hKC hP hl
  have hK := hKC.1
  have hname : meth.name = "<init>" := hname0
  obtain ⟨hx, hb, hml, hown, hts⟩ := id S
  have hL : ∀ q ∈ ([] : List Loc), z ≤ q.base := fun q h => absurd h List.not_mem_nil
  obtain ⟨hA, hsz⟩ := hP
  have hz0 : ∀ q, q < h → s.heap[q]? = s.heap[q]? := fun _ _ => rfl
  have hl : lv_has ls 2 [(0, .ref h), (1, .int p1)] := hl
  have in1 : ∀ w ∈ u_ws RX1 TX1 15, w ∈ wsX1_init := fun _ h => List.mem_cons_of_mem _ (List.mem_append_right _ h)
  refine lv_aload_n hx hb dX1_init_0 rfl (lv_at hl 0 rfl) ?_
  refine x_obj S (xm 1 rfl) (xm 2 rfl) (xm 3 rfl) hl.1 dX1_init_1 (Nat.le_of_ble_eq_true rfl) (Nat.le_of_ble_eq_true rfl) ?_
  refine lv_aload_n hx hb dX1_init_4 rfl (lv_at hl 0 rfl) ?_
  refine lv_iload_n hx hb dX1_init_5 rfl (lv_at hl 1 rfl) ?_
  refine x_putF S hK hname hA (by omega) hL rfl in1 tyX1 tyX1_ok nmX1 0 (by decide) (xm 4 rfl) rfl rfl rfl rfl (Nat.le_of_ble_eq_true rfl) dX1_init_6 (fun H1 locs hL hA hs1 oq => ?_)
  have hA : At G (h) (.inr (1, [.int p1, .int 0, .int 0, .int 0, .int 0, .int 0, .int 0, .int 0, .int 0, .int 0, .int 0, .int 0, .int 0, .int 0, .null])) H1 := hA
  have hz0 : ∀ q, q < h → H1[q]? = s.heap[q]? := fun q hq => (oq q (by omega)).trans (hz0 q hq)
  have hsz : H1.size = _ := hs1.trans hsz
  refine lv_aload_n hx hb dX1_init_9 rfl (lv_at hl 0 rfl) ?_
  refine lv_iconst (v := (-1)) hx hb dX1_init_10 (by decide) ?_
  refine x_putA S hK hA (by omega) hL rfl in1 tyX1 tyX1_ok nmX1 1 (by decide) (xm 5 rfl) rfl rfl rfl (Nat.le_of_ble_eq_true rfl) dX1_init_11 (fun H1 locs hL hA hs1 oq => ?_)
  have hA : At G (h) (.inr (1, [.int p1, .int (-1), .int 0, .int 0, .int 0, .int 0, .int 0, .int 0, .int 0, .int 0, .int 0, .int 0, .int 0, .int 0, .null])) H1 := hA
  have hz0 : ∀ q, q < h → H1[q]? = s.heap[q]? := fun q hq => (oq q (by omega)).trans (hz0 q hq)
  have hsz : H1.size = _ := hs1.trans hsz
  refine lv_aload_n hx hb dX1_init_14 rfl (lv_at hl 0 rfl) ?_
  refine lv_bipush (v := 32) hx hb dX1_init_15 (by decide) ?_
  refine x_newi S hK (xm 6 rfl) (by decide) (N := 32) (by decide) (by decide) (Nat.le_of_ble_eq_true rfl) (Nat.le_of_ble_eq_true rfl) (h := h + 1) (by omega) dX1_init_17 (fun H1 hB hs1 oq => ?_)
  have hA := hA.old hsz oq
  have hz0 : ∀ q, q < h → H1[q]? = s.heap[q]? := fun q hq => (oq q (by omega)).trans (hz0 q hq)
  have hsz : H1.size = h + 2 := by omega
  have hB : At G (h + 1) (.inl (G.2.1, 32, .inl (fun _ => 0))) H1 := hB
  refine x_putF S hK hname hA (by omega) hL rfl in1 tyX1 tyX1_ok nmX1 14 (by decide) (xm 7 rfl) rfl rfl rfl rfl (Nat.le_of_ble_eq_true rfl) dX1_init_19 (fun H1 locs hL hA hs1 oq => ?_)
  have hA : At G (h) (.inr (1, [.int p1, .int (-1), .int 0, .int 0, .int 0, .int 0, .int 0, .int 0, .int 0, .int 0, .int 0, .int 0, .int 0, .int 0, .ref (h + 1)])) H1 := hA
  have hB := hB.kept (oq _ (by omega))
  have hz0 : ∀ q, q < h → H1[q]? = s.heap[q]? := fun q hq => (oq q (by omega)).trans (hz0 q hq)
  have hsz : H1.size = _ := hs1.trans hsz
  refine W.cs (cells' := 1) (slots' := 32) (by omega) (by omega) ?_
  subst hQ
  refine x_vret (post := fun H H1 => At G h (.inr (1, [.int p1, .int (-1), .int 0, .int 0, .int 0, .int 0, .int 0, .int 0, .int 0, .int 0, .int 0, .int 0, .int 0, .int 0, .ref (h + 1)])) H1 ∧ At G (h + 1) (.inl (G.2.1, 32, .inl (fun _ => 0))) H1 ∧ H1.size = h + 2 ∧ ∀ q, q < h → H1[q]? = H[q]?) S hr hlocks rfl ?_ hL dX1_init_22
  exact ⟨hA, hB, hsz, hz0⟩

set_option maxRecDepth 100000 in
set_option maxHeartbeats 4000000 in
theorem c2_X4_init (l : Launch) (G : xG) (z : Nat) (h : Nat) (hz : z ≤ h) : xMc l yX4_init wsX4_init 1 12 1 80 (KC2 G z) z [.ref h] (fun H => At G h (.inr (4, [.null, .int 0, .int 0])) H ∧ H.size = h + 1) none (fun H H1 => PX G h 2 (txE G h) (fun _ _ => 0) H1 ∧ H1.size = h + 2 ∧ ∀ q, q < h → H1[q]? = H[q]?) := by
  refine xMc.of (cc := cX4_init) (maxL := 1) (ret := none) (by decide +kernel) rfl (Nat.le_of_ble_eq_true rfl) ?_
  intro p e s m args below meth c ls Q hQ S hr hlocks hname0 hKC hP hl
  have hK := hKC.1
  have hname : meth.name = "<init>" := hname0
  obtain ⟨hx, hb, hml, hown, hts⟩ := id S
  have hL : ∀ q ∈ ([] : List Loc), z ≤ q.base := fun q h => absurd h List.not_mem_nil
  obtain ⟨hA, hsz⟩ := hP
  have hz0 : ∀ q, q < h → s.heap[q]? = s.heap[q]? := fun _ _ => rfl
  have hl : lv_has ls 1 [(0, .ref h)] := hl
  have in4 : ∀ w ∈ u_ws RX4 TX4 3, w ∈ wsX4_init := fun _ h => List.mem_cons_of_mem _ (List.mem_append_right _ h)
  refine lv_aload_n hx hb dX4_init_0 rfl (lv_at hl 0 rfl) ?_
  refine x_obj S (xm 1 rfl) (xm 2 rfl) (xm 3 rfl) hl.1 dX4_init_1 (Nat.le_of_ble_eq_true rfl) (Nat.le_of_ble_eq_true rfl) ?_
  refine lv_aload_n hx hb dX4_init_4 rfl (lv_at hl 0 rfl) ?_
  refine lv_bipush (v := 80) hx hb dX4_init_5 (by decide) ?_
  refine x_newi S hK (xm 4 rfl) (by decide) (N := 80) (by decide) (by decide) (Nat.le_of_ble_eq_true rfl) (Nat.le_of_ble_eq_true rfl) (h := h + 1) (by omega) dX4_init_7 (fun H1 hB hs1 oq => ?_)
  have hA := hA.old hsz oq
  have hz0 : ∀ q, q < h → H1[q]? = s.heap[q]? := fun q hq => (oq q (by omega)).trans (hz0 q hq)
  have hsz : H1.size = h + 2 := by omega
  have hB : At G (h + 1) (.inl (G.2.1, 80, .inl (fun _ => 0))) H1 := hB
  refine x_putF S hK hname hA (by omega) hL rfl in4 tyX4 tyX4_ok nmX4 0 (by decide) (xm 5 rfl) rfl rfl rfl rfl (Nat.le_of_ble_eq_true rfl) dX4_init_9 (fun H1 locs hL hA hs1 oq => ?_)
  have hA : At G (h) (.inr (4, [.ref (h + 1), .int 0, .int 0])) H1 := hA
  have hB := hB.kept (oq _ (by omega))
  have hz0 : ∀ q, q < h → H1[q]? = s.heap[q]? := fun q hq => (oq q (by omega)).trans (hz0 q hq)
  have hsz : H1.size = _ := hs1.trans hsz
  refine W.cs (cells' := 1) (slots' := 80) (by omega) (by omega) ?_
  subst hQ
  refine x_vret (post := fun H H1 => PX G h 2 (txE G h) (fun _ _ => 0) H1 ∧ H1.size = h + 2 ∧ ∀ q, q < h → H1[q]? = H[q]?) S hr hlocks rfl ?_ hL dX4_init_12
  refine ⟨fun k hk => ?_, hsz, hz0⟩
  rcases (show k = 0 ∨ k = 1 by omega) with rfl | rfl
  · exact hA
  · exact hB
