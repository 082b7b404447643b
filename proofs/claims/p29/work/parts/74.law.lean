/-! ===== the start: the relation of the two sides, the static rows, the classes ===== -/
theorem sr_of {args : Array Value} {s : State} {tm : Term} {f : Nat → Int32} {G : xG} (hnm : s.vm.findClass "[I" = some G.2.1) (hex : (Cond.exactly tm "[I").before args s = true) (hlen : (Term.length tm).eval args s none [] s = some (.int 8)) (hel : ∀ j : Nat, j < 8 → (Term.elem tm (.int (Int32.ofNat j))).eval args s none [] s = some (.int (f j))) : ∃ t : Nat, tm.eval args s none [] s = some (.ref t) ∧ SR G t f s.heap ∧ t < s.heap.size := by
  obtain ⟨t, cell, ht, hat, hv⟩ := Term.length_spec hlen
  obtain ⟨hcell, hkn, hst, -⟩ := State.arrayAt?_spec hat
  obtain ⟨a2, c2, cell2, k2, e1, e2, e3, e4, e5, e6, -⟩ := Cond.exactly_spec (args := args) (first := s) (o := none) (s := s) (idx := []) (t := tm) (cls := "[I") hex
  cases ht.symm.trans e1
  cases hcell.symm.trans e3
  cases hnm.symm.trans e2
  have hsz : cell.slots.size < 2 ^ 31 := by
    have hv2 := hlen
    simp only [Term.eval, ht, hat, Option.bind_eq_bind, Option.bind_some] at hv2
    by_cases hlt : cell.slots.size < 2147483648
    · exact hlt
    · simp [hlt] at hv2
  have h8 : cell.slots.size = 8 := by
    have h1 : (8 : Int32) = nI cell.slots.size := Value.int.inj hv
    exact ((nI_eq (a := 8) (by decide) hsz).mp h1).symm
  have key : ∀ j : Nat, j < 8 → cell.slots[j]? = some (.int (f j)) := by
    intro j hj
    obtain ⟨a, i, cell2, h1, h2, h3, h4, h5⟩ := Term.elem_spec (hel j hj)
    cases ht.symm.trans h1
    cases hat.symm.trans h3
    have hi : i = Int32.ofNat j := by
      have e : (Term.int (Int32.ofNat j)).eval args s none [] s = some (.int (Int32.ofNat j)) := rfl
      cases h2.symm.trans e
      rfl
    have hc : i.toNatClampNeg = j := by rw [hi]; exact Int32.toNatClampNeg_ofNat_of_lt (Nat.lt_trans hj (by decide))
    rw [hc] at h5
    exact h5
  refine ⟨t, ht, ⟨cell, hcell, e6, hst, hkn, ?_⟩, (Array.getElem?_eq_some_iff.mp hcell).1⟩
  apply Array.ext_getElem?
  intro j
  by_cases hj : j < 8
  · rw [key j hj, arrV_read _ (fun j => .int (f j)) hj]
  · rw [Array.getElem?_eq_none (by omega), Array.getElem?_eq_none (by rw [arrV_size]; omega)]
set_option maxRecDepth 100000 in
set_option maxHeartbeats 4000000 in
/-- THE LAW, from its entry -/
theorem whole_start {p : Program} {e : Env} {s : State} {m : MethodId} {below : List Frame} {meth : Method} {c : Code} (l : Launch) (hflags : l.flags = flags0) {b L : Nat} {xs : Nat → Int32} (hL3 : L ≤ 260) (C0 : lw_At p s m meth c b L xs) : W p l e room_1 s m #[Value.ref b] below meth c s.heap [] 0 0 (lw_Z below #[Value.ref b] s) (entryFrame m ([Value.ref b] : List Value).toArray 10) := by
  obtain ⟨hx, hb, hr, hml, hown, hts, hX, hbl, hlocks, hgv⟩ := id C0
  have S : CallFix p m c cL_law 10 s #[Value.ref b] wsL_law RL := ⟨hx, hb, hml, hown, fun w hw => hts w (wsL_law_in w hw)⟩
  obtain ⟨c0, i0, k0⟩ := u_known (C := RX0) (T := TX0) (N := 9) (n := 9) hts inX0 (hts (.instantiable RX0 9) (List.mem_of_getElem? (i := 22) (by decide +kernel)))
  obtain ⟨c1, i1, k1⟩ := u_known (C := RX1) (T := TX1) (N := 15) (n := 15) hts inX1 (hts (.instantiable RX1 15) (List.mem_of_getElem? (i := 38) (by decide +kernel)))
  obtain ⟨c2, i2, k2⟩ := u_known (C := RX2) (T := TX2) (N := 2) (n := 2) hts inX2 (hts (.instantiable RX2 2) (List.mem_of_getElem? (i := 163) (by decide +kernel)))
  obtain ⟨c3, i3, k3⟩ := u_known (C := RX3) (T := TX3) (N := 3) (n := 3) hts inX3 (hts (.instantiable RX3 3) (List.mem_of_getElem? (i := 108) (by decide +kernel)))
  obtain ⟨c4, i4, k4⟩ := u_known (C := RX4) (T := TX4) (N := 3) (n := 3) hts inX4 (hts (.instantiable RX4 3) (List.mem_of_getElem? (i := 180) (by decide +kernel)))
  obtain ⟨c5, i5, k5⟩ := u_known (C := RX5) (T := TX5) (N := 6) (n := 6) hts inX5 (hts (.instantiable RX5 6) (List.mem_of_getElem? (i := 195) (by decide +kernel)))
  obtain ⟨c6, i6, k6⟩ := u_known (C := RX6) (T := TX6) (N := 7) (n := 7) hts inX6 (hts (.instantiable RX6 7) (List.mem_of_getElem? (i := 203) (by decide +kernel)))
  obtain ⟨c7, i7, k7⟩ := u_known (C := RX7) (T := TX7) (N := 6) (n := 6) hts inX7 (hts (.instantiable RX7 6) (List.mem_of_getElem? (i := 14) (by decide +kernel)))
  obtain ⟨aI, kI, pI, fI1, fI2, fI3⟩ := Cond.arrayClass_spec (hts (.arrayClass .int) (List.mem_of_getElem? (i := 105) (by decide +kernel)))
  obtain ⟨pB, aB, kB, fB0, -, fB2, fB3, fB1⟩ := Cond.arrayOver_spec (hts (.arrayOver (.object RX0)) (List.mem_of_getElem? (i := 169) (by decide +kernel)))
  obtain ⟨pH, aH, kH, fH0, -, fH2, fH3, fH1⟩ := Cond.arrayOver_spec (hts (.arrayOver (.object RX1)) (List.mem_of_getElem? (i := 37) (by decide +kernel)))
  obtain ⟨pK, aK, kK, fK0, -, fK2, fK3, fK1⟩ := Cond.arrayOver_spec (hts (.arrayOver (.object RX3)) (List.mem_of_getElem? (i := 107) (by decide +kernel)))
  obtain ⟨dC, dI, hKc⟩ : ∃ (dC : Nat → ClassId) (dI : Nat → Nat → Nat), ∀ (k : Nat) (q : vw_C), vwCl[k]? = some q → u_Kn s q.1 q.2.1 q.2.2 (dC k) (dI k) := by
    refine ⟨fun k => if k = 0 then c0 else if k = 1 then c1 else if k = 2 then c2 else if k = 3 then c3 else if k = 4 then c4 else if k = 5 then c5 else if k = 6 then c6 else c7, fun k => if k = 0 then i0 else if k = 1 then i1 else if k = 2 then i2 else if k = 3 then i3 else if k = 4 then i4 else if k = 5 then i5 else if k = 6 then i6 else i7, ?_⟩
    intro k q hq
    match k, hq with
    | 0, hq => cases hq; exact k0
    | 1, hq => cases hq; exact k1
    | 2, hq => cases hq; exact k2
    | 3, hq => cases hq; exact k3
    | 4, hq => cases hq; exact k4
    | 5, hq => cases hq; exact k5
    | 6, hq => cases hq; exact k6
    | 7, hq => cases hq; exact k7
    | k + 8, hq => simp [vwCl] at hq
  obtain ⟨G, eG⟩ : ∃ G : xG, G = ((dC, dI), (aI, (aB, (aH, aK)))) := ⟨_, rfl⟩
  have hKt : ∀ (k : Nat) (q : ClassId × FieldType), (xT G)[k]? = some q → ArrOfT s q.1 q.2 ∧ va_RA s q.1 q.2 := by
    subst eG
    intro k q hq
    match k, hq with
    | 0, hq => cases hq; exact ⟨fun n f => ⟨(fun z h => by cases h), kI, fI2, pI, fI3⟩, fI1⟩
    | 1, hq => cases hq; exact ⟨fun n f => ⟨(fun z h => by cases h), kB, fB2, pB, fB3⟩, kB, pB, fB2, fB3, fB0, fB1⟩
    | 2, hq => cases hq; exact ⟨fun n f => ⟨(fun z h => by cases h), kH, fH2, pH, fH3⟩, kH, pH, fH2, fH3, fH0, fH1⟩
    | 3, hq => cases hq; exact ⟨fun n f => ⟨(fun z h => by cases h), kK, fK2, pK, fK3⟩, kK, pK, fK2, fK3, fK0, fK1⟩
    | k + 4, hq => simp [xT] at hq
  have hK : KK G s := ⟨⟨by subst eG; exact hKc, hKt⟩, va_Nw.of rfl (hts (.methodLinkNest RX5 20 yX6_init RX7) (List.mem_of_getElem? (i := 204) (by decide +kernel))), va_Nw.of rfl (hts (.methodLinkNest RX7 39 yX6_init RX7) (List.mem_of_getElem? (i := 260) (by decide +kernel))), va_Nw.of rfl (hts (.methodLinkNest RX0 119 yX7_discountOf RX7) (List.mem_of_getElem? (i := 622) (by decide +kernel))), va_Nw.of rfl (hts (.methodLinkNest RX1 74 yX7_discountOf RX7) (List.mem_of_getElem? (i := 475) (by decide +kernel))), va_Nw.of rfl (hts (.methodLinkNest RX0 144 yX7_hoursMask RX7) (List.mem_of_getElem? (i := 381) (by decide +kernel)))⟩
  have hgs := flat_of_before _ hgv
  have hnI : s.vm.findClass "[I" = some G.2.1 := (hK.1.2 0 _ rfl).2
  have hel1 : ∀ j : Nat, j < 8 → (Term.elem (.static "VillageHall" "SETTING_AT_FIRST" "[I") (.int (Int32.ofNat j))).eval #[Value.ref b] s none [] s = some (.int (xsF j)) := by
    intro j hj
    rcases (show j = 0 ∨ j = 1 ∨ j = 2 ∨ j = 3 ∨ j = 4 ∨ j = 5 ∨ j = 6 ∨ j = 7 by omega) with rfl | rfl | rfl | rfl | rfl | rfl | rfl | rfl
    · exact va_eqt (t := .elem (.static "VillageHall" "SETTING_AT_FIRST" "[I") (.int 0)) (z := 1200) (hgs _ (by decide +kernel))
    · exact va_eqt (t := .elem (.static "VillageHall" "SETTING_AT_FIRST" "[I") (.int 1)) (z := 800) (hgs _ (by decide +kernel))
    · exact va_eqt (t := .elem (.static "VillageHall" "SETTING_AT_FIRST" "[I") (.int 2)) (z := 600) (hgs _ (by decide +kernel))
    · exact va_eqt (t := .elem (.static "VillageHall" "SETTING_AT_FIRST" "[I") (.int 3)) (z := 25) (hgs _ (by decide +kernel))
    · exact va_eqt (t := .elem (.static "VillageHall" "SETTING_AT_FIRST" "[I") (.int 4)) (z := 1) (hgs _ (by decide +kernel))
    · exact va_eqt (t := .elem (.static "VillageHall" "SETTING_AT_FIRST" "[I") (.int 5)) (z := 5000) (hgs _ (by decide +kernel))
    · exact va_eqt (t := .elem (.static "VillageHall" "SETTING_AT_FIRST" "[I") (.int 6)) (z := 300) (hgs _ (by decide +kernel))
    · exact va_eqt (t := .elem (.static "VillageHall" "SETTING_AT_FIRST" "[I") (.int 7)) (z := 2) (hgs _ (by decide +kernel))
  obtain ⟨t1, et1, sr1, lt1⟩ := sr_of (tm := (.static "VillageHall" "SETTING_AT_FIRST" "[I")) (f := xsF) (G := G) hnI (hgs _ (by decide +kernel)) (va_eqt (t := .length (.static "VillageHall" "SETTING_AT_FIRST" "[I")) (z := 8) (hgs _ (by decide +kernel))) hel1
  have hel2 : ∀ j : Nat, j < 8 → (Term.elem (.static "VillageHall" "SETTING_AT_MOST" "[I") (.int (Int32.ofNat j))).eval #[Value.ref b] s none [] s = some (.int (xsM j)) := by
    intro j hj
    rcases (show j = 0 ∨ j = 1 ∨ j = 2 ∨ j = 3 ∨ j = 4 ∨ j = 5 ∨ j = 6 ∨ j = 7 by omega) with rfl | rfl | rfl | rfl | rfl | rfl | rfl | rfl
    · exact va_eqt (t := .elem (.static "VillageHall" "SETTING_AT_MOST" "[I") (.int 0)) (z := 5000) (hgs _ (by decide +kernel))
    · exact va_eqt (t := .elem (.static "VillageHall" "SETTING_AT_MOST" "[I") (.int 1)) (z := 5000) (hgs _ (by decide +kernel))
    · exact va_eqt (t := .elem (.static "VillageHall" "SETTING_AT_MOST" "[I") (.int 2)) (z := 5000) (hgs _ (by decide +kernel))
    · exact va_eqt (t := .elem (.static "VillageHall" "SETTING_AT_MOST" "[I") (.int 3)) (z := 100) (hgs _ (by decide +kernel))
    · exact va_eqt (t := .elem (.static "VillageHall" "SETTING_AT_MOST" "[I") (.int 4)) (z := 3) (hgs _ (by decide +kernel))
    · exact va_eqt (t := .elem (.static "VillageHall" "SETTING_AT_MOST" "[I") (.int 5)) (z := 50000) (hgs _ (by decide +kernel))
    · exact va_eqt (t := .elem (.static "VillageHall" "SETTING_AT_MOST" "[I") (.int 6)) (z := 5000) (hgs _ (by decide +kernel))
    · exact va_eqt (t := .elem (.static "VillageHall" "SETTING_AT_MOST" "[I") (.int 7)) (z := 30) (hgs _ (by decide +kernel))
  obtain ⟨t2, et2, sr2, lt2⟩ := sr_of (tm := (.static "VillageHall" "SETTING_AT_MOST" "[I")) (f := xsM) (G := G) hnI (hgs _ (by decide +kernel)) (va_eqt (t := .length (.static "VillageHall" "SETTING_AT_MOST" "[I")) (z := 8) (hgs _ (by decide +kernel))) hel2
  have hKC : KC2 G s.heap.size s := ⟨hK, va_AO.of (hts (.arrayOver (.object RX0)) (List.mem_of_getElem? (i := 169) (by decide +kernel))), va_AO.of (hts (.arrayOver (.object RX1)) (List.mem_of_getElem? (i := 37) (by decide +kernel))), va_AO.of (hts (.arrayOver (.object RX3)) (List.mem_of_getElem? (i := 107) (by decide +kernel))), va_Nw.of rfl (hts (.castable "[I" "java/lang/Cloneable") (List.mem_of_getElem? (i := 34) (by decide +kernel))), va_Nw.of rfl (hts (.fieldLinkNest RX0 9 "VillageHall" "SETTING_AT_FIRST" "[I" RX7) (List.mem_of_getElem? (i := 27) (by decide +kernel))), t1, t2, va_Zof (A := fun q => s.heap.size ≤ q) (hts (.laysStatic "VillageHall" "SETTING_AT_FIRST" "[I") (List.mem_of_getElem? (i := 28) (by decide +kernel))) (hts (.initialized "VillageHall") (List.mem_of_getElem? (i := 2) (by decide +kernel))) et1 (fun a h1 h2 => by omega), sr1, lt1, va_Zof (A := fun q => s.heap.size ≤ q) (hts (.laysStatic "VillageHall" "SETTING_AT_MOST" "[I") (List.mem_of_getElem? (i := 485) (by decide +kernel))) (hts (.initialized "VillageHall") (List.mem_of_getElem? (i := 2) (by decide +kernel))) et2 (fun a h1 h2 => by omega), sr2, lt2⟩
  have hl := lv_entry ([.ref b]) (n := 10) (Nat.le_of_ble_eq_true rfl)
  rw [lg_entry_eq]
  generalize (lg_sl ([.ref b]) ++ List.replicate (10 - (lg_sl ([.ref b])).length) Slot.unset).toArray = ls at hl ⊢
  have hl : lv_has ls 10 [(0, .ref b)] := hl
  obtain ⟨z, hz⟩ : ∃ z, z = s.heap.size := ⟨_, rfl⟩
  rw [← hz] at hKC hbl
  have hzs : s.heap.size = z := hz.symm
  have hL0 : ∀ q ∈ ([] : List Loc), z ≤ q.base := fun q h => absurd h List.not_mem_nil
  refine x_new S hK (ci := 7) (fs := [.null, .null, .null, .null, .null, .int 0]) rfl inlX7 tyX7 tyX7_ok (xm 0 (by decide +kernel)) (xm 1 (by decide +kernel)) (xm 2 (by decide +kernel)) (fun j hj => by rcases (show j = 0 ∨ j = 1 ∨ j = 2 ∨ j = 3 ∨ j = 4 ∨ j = 5 by omega) with rfl | rfl | rfl | rfl | rfl | rfl <;> rfl) (Nat.le_of_ble_eq_true rfl) (Nat.le_of_ble_eq_true rfl) (h := z) hzs dL_law_0 (fun H1 hA hs1 oq => ?_)
  refine lv_dup hx hb dL_law_3 rfl ?_
  have hz0 : ∀ q, q < z → H1[q]? = s.heap[q]? := oq
  refine x_callI (As := []) (rest := [.ref z]) S (fun U hU hW => hKC.go hz0 hU hW) (fun U g mk a h => h.calling) (c2_X7_init l G z z (Nat.le_refl _)) gL_law_X7_init (xm 2 (by decide +kernel)) (xm 3 (by decide +kernel)) (xm 4 (by decide +kernel)) rfl rfl 0 (by decide +kernel) rfl ⟨Nat.le_of_ble_eq_true rfl, Nat.le_of_ble_eq_true rfl⟩ ⟨hA, hs1⟩ hl.1 rfl (Nat.le_of_ble_eq_true rfl) dL_law_4 hL0 ⟨Nat.le_of_ble_eq_true rfl, Nat.le_of_ble_eq_true rfl⟩ (fun H1 locs hL hpost => ?_)
  obtain ⟨h_hl, h_bk, h_hs, h_hu, h_tx, h_tr, h_tb, h_tw, h_ws, hs1, oq⟩ := hpost
  have hz0 : ∀ q, q < z → H1[q]? = s.heap[q]? := fun q hq => (oq q hq).trans (hz0 q hq)
  have h_mo : WH G z M0 H1 := ⟨_, _, _, _, _, _, _, _, _, h_hl, h_bk, h_hs, h_hu, h_tx, h_tr, h_tb, h_tw, h_ws, st_rb, st_hr, by decide +kernel, st_cr⟩
  clear h_hl h_bk h_hs h_hu h_tx h_tr h_tb h_tw h_ws
  refine lv_astore_n (lv' := [(1, .ref z), (0, .ref b)]) hx hb dL_law_7 rfl hl (by decide) rfl (fun ls hl => ?_)
  refine x_new S hK (ci := 7) (fs := [.null, .null, .null, .null, .null, .int 0]) rfl inlX7 tyX7 tyX7_ok (xm 0 (by decide +kernel)) (xm 1 (by decide +kernel)) (xm 2 (by decide +kernel)) (fun j hj => by rcases (show j = 0 ∨ j = 1 ∨ j = 2 ∨ j = 3 ∨ j = 4 ∨ j = 5 by omega) with rfl | rfl | rfl | rfl | rfl | rfl <;> rfl) (Nat.le_of_ble_eq_true rfl) (Nat.le_of_ble_eq_true rfl) (h := z + 230) hs1 dL_law_8 (fun H1 hA hs1 oq => ?_)
  have h_mo := h_mo.below (h := z + 230) (Nat.le_refl _) oq
  have hz0 : ∀ q, q < z → H1[q]? = s.heap[q]? := fun q hq => (oq q (by omega)).trans (hz0 q hq)
  refine lv_dup hx hb dL_law_11 rfl ?_
  refine x_callI (As := []) (rest := [.ref (z + 230)]) S (fun U hU hW => hKC.go hz0 hU hW) (fun U g mk a h => h.calling) (c2_X7_init l G z (z + 230) (by omega)) gL_law_X7_init (xm 2 (by decide +kernel)) (xm 3 (by decide +kernel)) (xm 4 (by decide +kernel)) rfl rfl 0 (by decide +kernel) rfl ⟨Nat.le_of_ble_eq_true rfl, Nat.le_of_ble_eq_true rfl⟩ ⟨hA, hs1⟩ hl.1 rfl (Nat.le_of_ble_eq_true rfl) dL_law_12 hL ⟨Nat.le_of_ble_eq_true rfl, Nat.le_of_ble_eq_true rfl⟩ (fun H1 locs hL hpost => ?_)
  obtain ⟨h_hl, h_bk, h_hs, h_hu, h_tx, h_tr, h_tb, h_tw, h_ws, hs1, oq⟩ := hpost
  have h_mo := h_mo.below (h := z + 230) (Nat.le_refl _) oq
  have h_mp : WH G (z + 230) M0 H1 := ⟨_, _, _, _, _, _, _, _, _, h_hl, h_bk, h_hs, h_hu, h_tx, h_tr, h_tb, h_tw, h_ws, st_rb, st_hr, by decide +kernel, st_cr⟩
  clear h_hl h_bk h_hs h_hu h_tx h_tr h_tb h_tw h_ws
  have hz0 : ∀ q, q < z → H1[q]? = s.heap[q]? := fun q hq => (oq q (by omega)).trans (hz0 q hq)
  refine lv_astore_n (lv' := [(2, .ref (z + 230)), (1, .ref z), (0, .ref b)]) hx hb dL_law_15 rfl hl (by decide) rfl (fun ls hl => ?_)
  refine W.widen (k := 460) (n := 7982) (Nat.le_of_ble_eq_true rfl) (Nat.le_of_ble_eq_true rfl) ?_
  exact law_mid S hr hlocks hKC hX hzs hbl (Nat.le_refl z) (Nat.le_refl _) hL3 h_mo h_mp hz0 (by omega) hL (lv_sub hl [2, 1, 0] rfl)
set_option maxHeartbeats 4000000 in
theorem lw_walk (l : Launch) (hflags : l.flags = flags0) (b : Addr) (xs : List Int32) : MetFree l x (headSpec (Jvm.Cond.code x code maxLocals ret :: tables_1) room_1) (lw_P b xs) (fun _ _ _ _ _ => True) lw_Q := by
  refine MetFree.of_bodyS (code := code) (maxLocals := maxLocals) (ret := ret) (by decide) ?_ ?_
  · intro args s m h hn
    obtain ⟨meth, c, h1, h2, h3, h4, h5, h6, -, -⟩ := Cond.code_spec hn (atoms_spec (ws := Jvm.Cond.code x code maxLocals ret :: tables_1) h _ List.mem_cons_self)
    exact ⟨meth, c, h1, h2, h3, h4, h5, h6⟩
  · intro p e s m args below meth c s₁ B hml0 hP _
    obtain ⟨rfl, hx, hbd, hgv⟩ := hP
    obtain ⟨scr, harrAt, hlist, hof, hsmall⟩ := hx
    obtain ⟨hcb, hkn, -, -⟩ := State.arrayAt?_spec harrAt
    have hown : s.vm.findClass R_law = some m.cls := findClass_of_methodNamed B.named
    have hts0 : ∀ c ∈ (Jvm.Cond.code x code maxLocals ret :: tables_1), c.before #[Value.ref b] s = true := atoms_spec (ws := Jvm.Cond.code x code maxLocals ret :: tables_1) B.pre
    have hts : ∀ w ∈ lw_tbl, w.before #[Value.ref b] s = true := k2_hts_sels lw_privs (fun w hw => hts0 w (List.mem_cons_of_mem _ hw)) lw_privs_ok
    have hml : c.maxLocals = 10 := B.maxLocals_eq (hts0 _ List.mem_cons_self)
    have X₀ : Stand p l e room_1 s m #[Value.ref b] below meth c s₁ [] 0 0 := Stand.of_body B
    have hh0 : s₁.heap = s.heap := by rw [B.state]; rfl
    have hsz : scr.slots.size = xs.length := by rw [← Array.length_toList, hlist, List.length_map]
    have hval : ∀ j : Nat, j < xs.length → scr.slots[j]? = some (.int (xs.getD j 0)) := fun j hj => by
      rw [← Array.getElem?_toList, hlist]
      simp [hj]
    have hbl : b < s.heap.size := (Array.getElem?_eq_some_iff.mp hcb).1
    have hX : va_X b xs.length (fun j => xs.getD j 0) s s.heap := ⟨scr, hcb, hof, hkn, hsz, hval⟩
    have K : W p l e room_1 s m #[Value.ref b] below meth c s₁.heap [] 0 0 (lw_Z below #[Value.ref b] s) (entryFrame m ([Value.ref b] : List Value).toArray 10) := by
      rw [hh0]
      exact whole_start l hflags hbd ⟨B.exec, B.bytes, B.returns, hml, hown, hts, hX, hbl, B.notSynchronized, hgv⟩
    obtain ⟨t, a1, o, b1, b2, b3⟩ := K s₁ rfl X₀
    exact ⟨t, o, a1, b1, b2, b3⟩
theorem lw_pre_spec {args : Array Value} {s : State} (h : (Jvm.Cond.and given_1 narrow_1).before args s = true) (hr : rest_1_c.before args s = true) : ∃ (b : Addr) (xs : List Int32), lw_P b xs args s := by
  have hs := flat_of_before _ h
  have hq := flat_of_before _ hr
  have hc : (Cond.count 1).before args s = true := hs _ (by decide +kernel)
  have harr : (Cond.arrayOf (.arg 0) .int).before args s = true := hs _ (by decide +kernel)
  have hle : (Cond.le (.length (.arg 0)) (.int 260)).before args s = true := hs _ (by decide +kernel)
  have hlen : (Cond.isInt (.length (.arg 0))).before args s = true := hq _ (by decide +kernel)
  have hall : (Cond.all (.arg 0) (.isInt (.elem (.arg 0) (.index 0)))).before args s = true := hq _ (by decide +kernel)
  obtain ⟨b, xs, hb, hx⟩ := State.ints_of_pre rfl harr hlen hall
  have hsm : xs.length < 2 ^ 31 := hx.choose_spec.2.2.2
  have hev : (Term.length (.arg 0)).eval args s none [] s = some (.int xs.length.toInt32) := hx.length_eval hb
  have hv := Cond.le_ints hev (show (Term.int 260).eval args s none [] s = some (.int 260) from rfl)
  have hd : xs.length.toInt32 ≤ 260 := by
    simpa [Cond.before, Cond.holds, hv] using hle
  have hN : xs.length ≤ 260 := (Int32.ofNat_le_ofNat hsm (by decide)).mp (show Int32.ofNat xs.length ≤ Int32.ofNat 260 from hd)
  exact ⟨b, xs, Cond.one_arg hc (show args[0]? = some (.ref b) from hb), hx, hN, h⟩
theorem lw_comes (l : Launch) (hflags : l.flags = flags0) : Comes l x (Jvm.Cond.code x code maxLocals ret :: tables_1) room_1 (fun tb e args s => Calls_1 tb e args s ∧ rest_1 tb e args s ∧ Pre_1 tb e args s)
    (fun _ _ args s o t => lw_Q args s o t) := by
  intro p e ha hc hk s m args below hf hfit hheap happ hpre
  obtain ⟨b, xs, hP⟩ := lw_pre_spec hpre.2.2 hpre.2.1
  obtain ⟨k, o, h1, h2, h3, hQ⟩ := lw_walk l hflags b xs p e ha hc hk s m args below hf ((Spec.applies_iff_loose hf).mp happ).1 hP trivial
  exact ⟨k, o, h1, h2, h3, hQ⟩
theorem lw_frame {s t : State} {o : Outcome} {args : Array Value} (h : Framed s o t [] 600000 7302250) :
    Framed s o t (fieldLocs frame_1_writes args s ++ arrayLocs frame_1_arrays args s ++ staticLocs frame_1_statics s) 600000 7302250 := h
theorem lw_limb (L : Cond) (hL : ∀ (args : Array Value) (s t : State), L.after args s (.returned (some (.int 1))) t = true) :
    ArmFor flags0 classFile x code maxLocals ret World_1 tables_1 room_1 Calls_1 rest_1 Pre_1
      (fun tb e a s o t => postC L tb e a s o t ∧ Framed s o t (fieldLocs frame_1_writes a s ++ arrayLocs frame_1_arrays a s ++ staticLocs frame_1_statics s) 600000 7302250) := by
  intro l hflags _ _ p e ha hc hk s m args below hf hfit hheap happ hpre
  obtain ⟨k, o, h1, h2, h3, rfl, hF⟩ := lw_comes l hflags p e ha hc hk s m args below hf hfit hheap happ hpre
  exact ⟨k, _, h1, h2, h3, hL args s _, lw_frame hF⟩
theorem i_vc : Claimed_1_1 ∧ Claimed_1_2 := ⟨lw_limb limb_1_1 (fun args s t => by simp [limb_1_1, Cond.after, Cond.holds, Cond.value]), lw_limb limb_1_2 (fun args s t => Cond.after_iff.mpr (by
  first | (rw [show limb_1_2 = Cond.eq .result (.int 1) from rfl, Cond.eq_ints (x := 1) (y := 1) rfl rfl]; simp; done) | (simp [limb_1_2, Cond.value, Term.eval]; done)))⟩
