/-! ===== the start: the relation of the two sides, the static rows, the classes ===== -/
theorem st_sh : Shape bk0 := ⟨fun i hi => by rw [bk0_h hi, if_pos rfl], fun j _ => by rw [bk0_k, if_pos rfl]⟩
theorem st_n : cN (m1 6) 10 = 0 := by decide +kernel
set_option maxRecDepth 20000 in
theorem st_good : Good (m1 6) := by
  refine ⟨by decide +kernel, by decide +kernel, by decide +kernel, by decide +kernel, by decide +kernel, by decide +kernel, by decide +kernel, fun i hi => ?_, fun j hj => Or.inl ?_⟩
  · rw [st_n] at hi
    exact absurd hi (Nat.not_lt_zero i)
  · rcases (show j = 0 ∨ j = 1 ∨ j = 2 ∨ j = 3 ∨ j = 4 ∨ j = 5 by omega) with rfl | rfl | rfl | rfl | rfl | rfl <;> decide +kernel
set_option maxRecDepth 20000 in
theorem st_rr : RR bk0 (m1 6) := by
  refine ⟨by decide +kernel, by decide +kernel, by decide +kernel, by decide +kernel, by decide +kernel, fun i hi => ?_, fun i _ hi => ⟨?_, fun k h2 _ => ?_⟩⟩
  · rw [st_n] at hi
    exact absurd hi (Nat.not_lt_zero i)
  · rw [bk0_h hi, if_neg (by decide), if_pos rfl]
  · rw [bk0_h hi, if_neg (by omega), if_neg (by omega)]
theorem st_rb : RB bk0 (M0 1) := ⟨st_good, st_sh, st_rr⟩
theorem st_hr : HR hv0 (fun _ => bk0) M0 := ⟨0, fun i => i, by decide, by decide +kernel, by decide +kernel, fun i hi => ⟨hi, rfl⟩, fun i j _ _ e => e, fun i hi => absurd hi (Nat.not_lt_zero i), fun _ _ => st_sh⟩
theorem st_tr : TR (fun _ _ => 0) M0 := ⟨0, by decide, by decide +kernel, by decide +kernel, fun k hk => absurd hk (Nat.not_lt_zero k)⟩
theorem st_cr : CR (fun _ j => if j = 5 then -1 else 0) M0 := Or.inl ⟨by decide +kernel, by decide +kernel⟩
theorem sr_of {args : Array Value} {s : State} {tm : Term} {f : Nat → Int32} {G : xG} (hnm : s.vm.findClass "[I" = some G.2.1) (hex : (Cond.exactly tm "[I").before args s = true) (hlen : (Term.length tm).eval args s none [] s = some (.int 8)) (hel : ∀ j : Nat, j < 8 → (Term.elem tm (.int (Int32.ofNat j))).eval args s none [] s = some (.int (f j))) : ∃ t : Nat, tm.eval args s none [] s = some (.ref t) ∧ SR G t f s.heap ∧ t < s.heap.size := by
  obtain ⟨t, cell, ht, hat, hv⟩ := Term.length_spec hlen
  obtain ⟨hcell, hkn, hst, -⟩ := State.arrayAt?_spec hat
  obtain ⟨a2, c2, cell2, k2, e1, e2, e3, e4, e5, e6, -⟩ := Cond.exactly_spec (args := args) (first := s) (o := none) (s := s) (idx := []) (t := tm) (cls := "[I") hex
  cases ht.symm.trans e1
  cases hcell.symm.trans e3
  cases hnm.symm.trans e2
  have hsz : cell.slots.size < 2 ^ 31 := by
    have hv2 := hlen
    simp only [Term.eval, ht, hat, Option.bind_eq_bind, Option.bind_some] at hv2
    by_cases hlt : cell.slots.size < 2147483648
    · exact hlt
    · simp [hlt] at hv2
  have h8 : cell.slots.size = 8 := by
    have h1 : (8 : Int32) = nI cell.slots.size := Value.int.inj hv
    exact ((nI_eq (a := 8) (by decide) hsz).mp h1).symm
  have key : ∀ j : Nat, j < 8 → cell.slots[j]? = some (.int (f j)) := by
    intro j hj
    obtain ⟨a, i, cell2, h1, h2, h3, h4, h5⟩ := Term.elem_spec (hel j hj)
    cases ht.symm.trans h1
    cases hat.symm.trans h3
    have hi : i = Int32.ofNat j := by
      have e : (Term.int (Int32.ofNat j)).eval args s none [] s = some (.int (Int32.ofNat j)) := rfl
      cases h2.symm.trans e
      rfl
    have hc : i.toNatClampNeg = j := by rw [hi]; exact Int32.toNatClampNeg_ofNat_of_lt (Nat.lt_trans hj (by decide))
    rw [hc] at h5
    exact h5
  refine ⟨t, ht, ⟨cell, hcell, e6, hst, hkn, ?_⟩, (Array.getElem?_eq_some_iff.mp hcell).1⟩
  apply Array.ext_getElem?
  intro j
  by_cases hj : j < 8
  · rw [key j hj, arrV_read _ (fun j => .int (f j)) hj]
  · rw [Array.getElem?_eq_none (by omega), Array.getElem?_eq_none (by rw [arrV_size]; omega)]
