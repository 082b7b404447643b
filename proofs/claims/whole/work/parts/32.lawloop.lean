/-! ===== the law: its end, its loop ===== -/
def R_law : String := "VillageHallLaw"
def lw_P (b : Addr) (xs : List Int32) (args : Array Value) (s : State) : Prop := args = #[.ref b] ∧ s.IntsAt b xs ∧ xs.length ≤ 3584 ∧ (Jvm.Cond.and given_1 narrow_1).before args s = true
def lw_Q (_ : Array Value) (s : State) (o : Outcome) (t : State) : Prop := o = .returned (some (.int 1)) ∧ Framed s o t [] 600000 7302250
def lw_Z (below : List Frame) (a : Array Value) (s : State) : State → Prop := fun t => ∃ o, t.status = .running ∧ Ended t below o ∧ lw_Q a s o t
/-- the law's own end, with 1 on the stack, nothing written that was there before, its room as the claim has it -/
theorem lw_ret {p : Program} {l : Launch} {e : Env} {s : State} {m : MethodId} {below : List Frame} {meth : Method} {c : Code} {b : Nat} (hx : p.tables.exec = Jvm.exec) (hb : c.code = code) (hr : meth.sig.returnType = ret) (hlocks : meth.locks = false) {pc : Nat} {H : Heap} {ls : Array Slot} (hdg : decode code pc = .ok (.ireturn, 1)) : W p l e room_1 s m #[Value.ref b] below meth c H [] 600000 7302250 (lw_Z below #[Value.ref b] s) (F0 m pc ls [.int 1]) := by
  intro T hT X
  obtain ⟨fs, hret, hrun, hended, hW, hframe⟩ := X.leave (v := some (.int 1)) (hlocks := hlocks) (fun h => by rw [hr] at h; cases h)
  have hmeth' : T.vm.method? m = some meth := X.method'
  refine ⟨T.setFrames fs, ?_, .returned (some (.int 1)), hrun, hended, rfl, ⟨_, rfl⟩, hW, hframe⟩
  jvm_step X.here [X.here.top, hx, hb, hdg, hmeth', hr, ret, narrow_b1]
  (try refine ⟨rfl, ?_⟩); (try refine ⟨rfl, ?_⟩)
  first | (intro acts; rw [hret _ acts rfl rfl rfl]) | rw [hret _ _ rfl rfl rfl]
  exact Steps.refl _
/-- what holds at the law's entry: the machine, the code, the tables' words (any of lw_tbl by 'hts w (by decide +kernel)'), the script of L ints xs at the cell b, what the Statement gives of the start (any of its parts by flat_of_before) -/
def lw_At (p : Program) (s : State) (m : MethodId) (meth : Method) (c : Code) (b L : Nat) (xs : Nat → Int32) : Prop :=
  p.tables.exec = Jvm.exec ∧ c.code = code ∧ meth.sig.returnType = ret ∧ c.maxLocals = 4 ∧ s.vm.findClass R_law = some m.cls ∧ (∀ w ∈ lw_tbl, w.before #[Value.ref b] s = true) ∧ va_X b L xs s s.heap ∧ b < s.heap.size ∧ meth.locks = false ∧ (Jvm.Cond.and given_1 narrow_1).before #[Value.ref b] s = true
theorem and31 (x : Int32) : ∃ k, k < 32 ∧ x &&& 31 = nI k := by
  refine ⟨(x &&& 31).toBitVec.toNat, ?_, ?_⟩
  · have e : (x &&& 31).toBitVec = x.toBitVec &&& 31#32 := rfl
    rw [e, BitVec.toNat_and]
    exact Nat.lt_of_le_of_lt Nat.and_le_right (by decide)
  · apply Int32.toBitVec_inj.mp
    show _ = BitVec.ofNat 32 _
    rw [BitVec.ofNat_toNat, BitVec.setWidth_eq]
theorem low7 : ∀ n, n < 7 → ∀ i, i < 7 → nI n - 7 < nI i := by decide +kernel
theorem sub7 (n : Nat) : nI (n + 7) - 7 = nI n := by
  rw [← nI_add]
  show nI n + 7 - 7 = nI n
  exact Int32.add_sub_cancel _ _
set_option maxRecDepth 100000 in
set_option maxHeartbeats 4000000 in
theorem lw_loop {p : Program} {l : Launch} {e : Env} {s : State} {m : MethodId} {below : List Frame} {meth : Method} {c : Code} {b L a o z : Nat} {xs : Nat → Int32} {G : xG} (S : CallFix p m c cL_law 4 s #[Value.ref b] wsL_law RL) (hr : meth.sig.returnType = ret) (hlocks : meth.locks = false) (hKC : KC2 G z s) (hX : va_X b L xs s s.heap) (hzs : s.heap.size = z) (hbl : b < z) (ha : z ≤ a) (ho : a + 230 ≤ o) (hN : L ≤ 3584) : ∀ (n i : Nat) (H : Heap) (locs : List Loc) (ls : Array Slot), L ≤ i + n → i ≤ L → (∀ q ∈ locs, z ≤ q.base) → WD G a o z s H → lv_has ls 4 [(0, .ref b), (1, .ref a), (2, .ref o), (3, .int (nI i))] → W p l e room_1 s m #[Value.ref b] below meth c H locs 235 9009 (lw_Z below #[Value.ref b] s) (F0 m 18 ls []) := by
  obtain ⟨hx, hb, hml, hown, hts⟩ := id S
  intro n
  induction n with
  | zero =>
    intro i H locs ls hn hi hL hW hl
    have hi : i = L := by omega
    subst hi
    have hW2 := hW
    obtain ⟨dv, v, hv, kv, tv, rv, vt, fv, wv, M, -, -, -, -, -, -, -, -, -, -, -, -, -, -, -, hz0, hsz⟩ := hW2
    refine lv_iload_n hx hb dL_law_18 rfl (lv_at hl 3 rfl) ?_
    refine lv_aload_n hx hb dL_law_19 rfl (lv_at hl 0 rfl) ?_
    refine va_slen (A := fun q => z ≤ q) hx hb hX (by omega) (by omega) ⟨hsz, fun q _ h => hz0 q (by omega), hL⟩ dL_law_20 ?_
    refine lv_bipush (v := 7) hx hb dL_law_21 (by decide) ?_
    refine lv_isub hx hb dL_law_23 ?_
    refine lv_icmp_gt (tgt := 918) hx hb dL_law_24 (by decide) (fun _ => ?_) (fun cc1 => ?_)
    · refine lv_iconst (v := 1) hx hb dL_law_918 (by decide) ?_
      refine va_forget (fun q hq => by rw [hzs]; exact hL q hq) ?_
      refine W.widen (k := 600000) (n := 7302250) (Nat.le_of_ble_eq_true rfl) (Nat.le_of_ble_eq_true rfl) ?_
      exact lw_ret hx hb hr hlocks dL_law_919
    · refine absurd ?_ cc1
      show nI i - 7 < nI i
      by_cases h7 : i < 7
      · exact low7 i h7 i h7
      · obtain ⟨k, rfl⟩ : ∃ k, i = k + 7 := ⟨i - 7, by omega⟩
        rw [sub7]
        exact nI_lt (by omega) (by omega)
  | succ n ih =>
    intro i H locs ls hn hi hL hW hl
    have hW2 := hW
    obtain ⟨dv, v, hv, kv, tv, rv, vt, fv, wv, M, -, -, -, -, -, -, -, -, -, -, -, -, -, -, -, hz0, hsz⟩ := hW2
    refine lv_iload_n hx hb dL_law_18 rfl (lv_at hl 3 rfl) ?_
    refine lv_aload_n hx hb dL_law_19 rfl (lv_at hl 0 rfl) ?_
    refine va_slen (A := fun q => z ≤ q) hx hb hX (by omega) (by omega) ⟨hsz, fun q _ h => hz0 q (by omega), hL⟩ dL_law_20 ?_
    refine lv_bipush (v := 7) hx hb dL_law_21 (by decide) ?_
    refine lv_isub hx hb dL_law_23 ?_
    refine lv_icmp_gt (tgt := 918) hx hb dL_law_24 (by decide) (fun _ => ?_) (fun cc1 => ?_)
    · refine lv_iconst (v := 1) hx hb dL_law_918 (by decide) ?_
      refine va_forget (fun q hq => by rw [hzs]; exact hL q hq) ?_
      refine W.widen (k := 600000) (n := 7302250) (Nat.le_of_ble_eq_true rfl) (Nat.le_of_ble_eq_true rfl) ?_
      exact lw_ret hx hb hr hlocks dL_law_919
    · have hj : i + 7 ≤ L := by
        refine Nat.le_of_not_lt fun h7 => cc1 ?_
        show nI L - 7 < nI i
        by_cases h8 : L < 7
        · exact low7 L h8 i (by omega)
        · obtain ⟨k, rfl⟩ : ∃ k, L = k + 7 := ⟨L - 7, by omega⟩
          rw [sub7]
          exact nI_lt (by omega) (by omega)
      have back : ∀ (H1 : Heap) (locs1 : List Loc), (∀ q ∈ locs1, z ≤ q.base) → WD G a o z s H1 → W p l e room_1 s m #[Value.ref b] below meth c H1 locs1 235 9009 (lw_Z below #[Value.ref b] s) (F0 m 912 ls []) := by
        intro H1 locs1 hL1 hW1
        refine lv_iinc (v := nI (i + 7)) (lv' := [(3, .int (nI (i + 7))), (0, .ref b), (1, .ref a), (2, .ref o)]) hx hb dL_law_912 hl (k := 3) rfl (by rw [show Int32.ofInt 7 = nI 7 from rfl]; exact nI_add i 7) (by decide) rfl (fun ls hl => ?_)
        refine lv_goto (tgt := 18) hx hb dL_law_915 (by decide) ?_
        exact ih (i + 7) H1 locs1 ls (by omega) (by omega) hL1 hW1 (lv_sub hl [1, 2, 3, 0] rfl)
      refine lv_aload_n hx hb dL_law_27 rfl (lv_at hl 0 rfl) ?_
      refine lv_iload_n hx hb dL_law_28 rfl (lv_at hl 3 rfl) ?_
      refine x_word S hX hzs hbl hz0 hsz hL (j := i) (by omega) hN dL_law_29 ?_
      refine lv_bipush (v := 31) hx hb dL_law_30 (by decide) ?_
      refine lv_iand hx hb dL_law_32 ?_
      obtain ⟨k, hk, ek⟩ := and31 (xs i)
      refine x_top (x := nI k) ek.symm ?_
      by_cases h26 : 26 ≤ k
      · exact lv_tableOut (tgt := 912) hx hb dL_law_33 (Or.inr (by rw [nI_toInt (by omega)]; omega)) (by decide) (back H locs hL hW)
      rcases (show k = 0 ∨ k = 1 ∨ k = 2 ∨ k = 3 ∨ k = 4 ∨ k = 5 ∨ k = 6 ∨ k = 7 ∨ k = 8 ∨ k = 9 ∨ k = 10 ∨ k = 11 ∨ k = 12 ∨ k = 13 ∨ k = 14 ∨ k = 15 ∨ k = 16 ∨ k = 17 ∨ k = 18 ∨ k = 19 ∨ k = 20 ∨ k = 21 ∨ k = 22 ∨ k = 23 ∨ k = 24 ∨ k = 25 by omega) with rfl | rfl | rfl | rfl | rfl | rfl | rfl | rfl | rfl | rfl | rfl | rfl | rfl | rfl | rfl | rfl | rfl | rfl | rfl | rfl | rfl | rfl | rfl | rfl | rfl | rfl
      · exact x_tin (tgt := 152) (off := 119) S (nI 0) rfl dL_law_33 (by decide +kernel) (by decide +kernel) (by decide +kernel) (by decide) (lw_c0 S hKC hX hzs hbl ha ho hj hN hL hW hl back)
      · exact x_tin (tgt := 165) (off := 132) S (nI 1) rfl dL_law_33 (by decide +kernel) (by decide +kernel) (by decide +kernel) (by decide) (lw_c1 S hKC hX hzs hbl ha ho hj hN hL hW hl back)
      · exact x_tin (tgt := 198) (off := 165) S (nI 2) rfl dL_law_33 (by decide +kernel) (by decide +kernel) (by decide +kernel) (by decide) (lw_c2 S hKC hX hzs hbl ha ho hj hN hL hW hl back)
      · exact x_tin (tgt := 231) (off := 198) S (nI 3) rfl dL_law_33 (by decide +kernel) (by decide +kernel) (by decide +kernel) (by decide) (lw_c3 S hKC hX hzs hbl ha ho hj hN hL hW hl back)
      · exact x_tin (tgt := 264) (off := 231) S (nI 4) rfl dL_law_33 (by decide +kernel) (by decide +kernel) (by decide +kernel) (by decide) (lw_c4 S hKC hX hzs hbl ha ho hj hN hL hW hl back)
      · exact x_tin (tgt := 339) (off := 306) S (nI 5) rfl dL_law_33 (by decide +kernel) (by decide +kernel) (by decide +kernel) (by decide) (lw_c5 S hKC hX hzs hbl ha ho hj hN hL hW hl back)
      · exact x_tin (tgt := 352) (off := 319) S (nI 6) rfl dL_law_33 (by decide +kernel) (by decide +kernel) (by decide +kernel) (by decide) (lw_c6 S hKC hX hzs hbl ha ho hj hN hL hW hl back)
      · exact x_tin (tgt := 385) (off := 352) S (nI 7) rfl dL_law_33 (by decide +kernel) (by decide +kernel) (by decide +kernel) (by decide) (lw_c7 S hKC hX hzs hbl ha ho hj hN hL hW hl back)
      · exact x_tin (tgt := 418) (off := 385) S (nI 8) rfl dL_law_33 (by decide +kernel) (by decide +kernel) (by decide +kernel) (by decide) (lw_c8 S hKC hX hzs hbl ha ho hj hN hL hW hl back)
      · exact x_tin (tgt := 441) (off := 408) S (nI 9) rfl dL_law_33 (by decide +kernel) (by decide +kernel) (by decide +kernel) (by decide) (lw_c9 S hKC hX hzs hbl ha ho hj hN hL hW hl back)
      · exact x_tin (tgt := 484) (off := 451) S (nI 10) rfl dL_law_33 (by decide +kernel) (by decide +kernel) (by decide +kernel) (by decide) (lw_c10 S hKC hX hzs hbl ha ho hj hN hL hW hl back)
      · exact x_tin (tgt := 517) (off := 484) S (nI 11) rfl dL_law_33 (by decide +kernel) (by decide +kernel) (by decide +kernel) (by decide) (lw_c11 S hKC hX hzs hbl ha ho hj hN hL hW hl back)
      · exact x_tin (tgt := 570) (off := 537) S (nI 12) rfl dL_law_33 (by decide +kernel) (by decide +kernel) (by decide +kernel) (by decide) (lw_c12 S hKC hX hzs hbl ha ho hj hN hL hW hl back)
      · exact x_tin (tgt := 593) (off := 560) S (nI 13) rfl dL_law_33 (by decide +kernel) (by decide +kernel) (by decide +kernel) (by decide) (lw_c13 S hKC hX hzs hbl ha ho hj hN hL hW hl back)
      · exact x_tin (tgt := 616) (off := 583) S (nI 14) rfl dL_law_33 (by decide +kernel) (by decide +kernel) (by decide +kernel) (by decide) (lw_c14 S hKC hX hzs hbl ha ho hj hN hL hW hl back)
      · exact x_tin (tgt := 639) (off := 606) S (nI 15) rfl dL_law_33 (by decide +kernel) (by decide +kernel) (by decide +kernel) (by decide) (lw_c15 S hKC hX hzs hbl ha ho hj hN hL hW hl back)
      · exact x_tin (tgt := 652) (off := 619) S (nI 16) rfl dL_law_33 (by decide +kernel) (by decide +kernel) (by decide +kernel) (by decide) (lw_c16 S hKC hX hzs hbl ha ho hj hN hL hW hl back)
      · exact x_tin (tgt := 685) (off := 652) S (nI 17) rfl dL_law_33 (by decide +kernel) (by decide +kernel) (by decide +kernel) (by decide) (lw_c17 S hKC hX hzs hbl ha ho hj hN hL hW hl back)
      · exact x_tin (tgt := 708) (off := 675) S (nI 18) rfl dL_law_33 (by decide +kernel) (by decide +kernel) (by decide +kernel) (by decide) (lw_c18 S hKC hX hzs hbl ha ho hj hN hL hW hl back)
      · exact x_tin (tgt := 741) (off := 708) S (nI 19) rfl dL_law_33 (by decide +kernel) (by decide +kernel) (by decide +kernel) (by decide) (lw_c19 S hKC hX hzs hbl ha ho hj hN hL hW hl back)
      · exact x_tin (tgt := 774) (off := 741) S (nI 20) rfl dL_law_33 (by decide +kernel) (by decide +kernel) (by decide +kernel) (by decide) (lw_c20 S hKC hX hzs hbl ha ho hj hN hL hW hl back)
      · exact x_tin (tgt := 817) (off := 784) S (nI 21) rfl dL_law_33 (by decide +kernel) (by decide +kernel) (by decide +kernel) (by decide) (lw_c21 S hKC hX hzs hbl ha ho hj hN hL hW hl back)
      · exact x_tin (tgt := 840) (off := 807) S (nI 22) rfl dL_law_33 (by decide +kernel) (by decide +kernel) (by decide +kernel) (by decide) (lw_c22 S hKC hX hzs hbl ha ho hj hN hL hW hl back)
      · exact x_tin (tgt := 863) (off := 830) S (nI 23) rfl dL_law_33 (by decide +kernel) (by decide +kernel) (by decide +kernel) (by decide) (lw_c23 S hKC hX hzs hbl ha ho hj hN hL hW hl back)
      · exact x_tin (tgt := 876) (off := 843) S (nI 24) rfl dL_law_33 (by decide +kernel) (by decide +kernel) (by decide +kernel) (by decide) (lw_c24 S hKC hX hzs hbl ha ho hj hN hL hW hl back)
      · exact x_tin (tgt := 899) (off := 866) S (nI 25) rfl dL_law_33 (by decide +kernel) (by decide +kernel) (by decide +kernel) (by decide) (lw_c25 S hKC hX hzs hbl ha ho hj hN hL hW hl back)
