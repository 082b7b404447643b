/-! ===== PURE p29, 9: a step of the law ===== -/
theorem xb_id {α : Type} (a : Option α) : (xb a fun r => some r) = a := by
  cases a <;> rfl
theorem cnt_0 (M : xV) : f_X8_count M 0 = some (M 1 0) := by
  unfold f_X8_count
  rw [show f_X8_in (0 : Int32).toInt64 10 17 = some 0 by decide +kernel, xbs, i00, show f_X8_in (0 : Int32).toInt64 20 28 = some 0 by decide +kernel, xbs, i00, if_pos rfl]
theorem cnt_2 (M : xV) : f_X8_count M 2 = some (M 1 10) := by
  unfold f_X8_count
  rw [show f_X8_in (2 : Int32).toInt64 10 17 = some 0 by decide +kernel, xbs, i00, show f_X8_in (2 : Int32).toInt64 20 28 = some 0 by decide +kernel, xbs, i00, if_neg (by decide), if_neg (by decide), if_pos rfl]
theorem hi_4 {v M : xV} (r : RB v (M 1)) {i : Nat} (hi : i < cN (M 1) 10) : f_X8_hireInfo M (nI i) 4 = some (nI (hN (M 1) i 4)) := by
  have h12 := r.m12
  unfold f_X8_hireInfo
  rw [hire_ok r hi, xbs, i10, show f_X8_in (4 : Int32).toInt64 0 15 = some 1 by decide +kernel, xbs, i10, if_neg (by decide), if_neg (by decide), if_neg (by decide), if_neg (by decide), if_neg (by decide), if_neg (by decide), if_neg (by decide), xb_id]
  exact (m_of (k := 4) (by omega)).trans (by rw [(r.g hi).1 4 (by decide)])
theorem and_pos (x : Int32) : ∃ q, q < 2 ^ 31 ∧ x &&& 2147483647 = nI q := by
  refine ⟨(x &&& 2147483647).toBitVec.toNat, ?_, ?_⟩
  · have e : (x &&& 2147483647).toBitVec = x.toBitVec &&& 2147483647#32 := rfl
    rw [e, BitVec.toNat_and]
    exact Nat.lt_of_le_of_lt Nat.and_le_right (by decide)
  · apply Int32.toBitVec_inj.mp
    show _ = BitVec.ofNat 32 _
    rw [BitVec.ofNat_toNat, BitVec.setWidth_eq]
theorem up_ok (x : Int32) {n : Nat} {p2 : Int32} (hp : p2 = nI n) (h1 : 1 ≤ n) (hn : n < 2 ^ 31) : ∃ u, u < n ∧ f_L_up x p2 = some (nI u) := by
  subst hp
  obtain ⟨q, hq, e⟩ := and_pos x
  refine ⟨q % n, Nat.mod_lt _ (by omega), ?_⟩
  unfold f_L_up
  rw [xgp (show ¬ nI n = (0 : Int32) from ne_lit (b := 0) (by omega) hn (by decide)), e, pk_rem hq (by omega) hn]
section
variable {d k : Nat} {M N : xV}
/-- both halls answered alike -/
def One (d k : Nat) (y : Option (Int32 × xV × xV)) : Prop := ∃ M' N', y = some (1, M', N') ∧ TW d k M' N'
theorem two_fin {y y' : Option (Int32 × xV)} (t : TwoR d k y y') : One d k (xb2 y fun r M1 => xb2 y' fun r' N1 => if r = r' then some (1, M1, N1) else some (0, M1, N1)) := by
  obtain ⟨a, M', N', e1, e2, T⟩ := t
  exact ⟨M', N', by rw [e1, xb2s, e2, xb2s, if_pos rfl], T⟩
theorem one_add (v : Nat) : (1 : Int32) + nI v = nI (1 + v) := nI_add 1 v
theorem o_set (T : TW d k M N) {j q : Nat} (hj : j < 8) (hq : q ≤ moN j) : One d (k + 1) (J_L_isStep_211 (nI j) (nI q) M N) := by
  unfold J_L_isStep_211
  exact two_fin (r_set T hj hq)
theorem o_hire (T : TW d k M N) (hd : d ≤ 50) {f t : Nat} (hf : f < t) (ht3 : t ≤ f + 3) (ht24 : t ≤ 24) (x : Int32) : One d (k + 1) (J_L_isStep_568 (nI d) x (nI (100 * f + t)) M N) := by
  obtain ⟨dv, v, hv, kv, tv, r, h, ht, c⟩ := T.1
  obtain ⟨z, hz, ez⟩ := up_ok (x >>> ((14 : Int32) &&& 31)) (p2 := 10) (n := 10) rfl (by decide) (by decide)
  obtain ⟨n, hn, en⟩ := up_ok (x >>> ((18 : Int32) &&& 31)) (p2 := 8) (n := 8) rfl (by decide) (by decide)
  obtain ⟨b, hb, eb⟩ := up_ok (x >>> ((4 : Int32) &&& 31)) (p2 := 3) (n := 3) rfl (by decide) (by decide)
  obtain ⟨ro, hro, ero⟩ := up_ok (x >>> ((5 : Int32) &&& 31)) (p2 := 7) (n := 7) rfl (by decide) (by decide)
  obtain ⟨p, hp, ep⟩ := up_ok (x >>> ((21 : Int32) &&& 31)) (p2 := 9) (n := 9) rfl (by decide) (by decide)
  obtain ⟨a, M', N', e1, e2, T'⟩ := r_hire T hd (b := b) (ro := 1 + ro) (z := z) (f := f) (t := t) (n := 1 + n) (p := 1 + p) hb (by omega) (by omega) (by omega) hf ht3 ht24 (by omega) (by omega) (by omega) (by omega)
  refine ⟨M', N', ?_, T'⟩
  unfold J_L_isStep_568
  simp only [cnt_0, ez, en, eb, ero, ep, xbs, xls, one_add, r.wd, nI_add]
  rw [e1, xb2s, e2, xb2s, if_pos rfl]
  unfold f_X8_clash
  rw [xbs, xbs, if_pos T'.2.2.2.2.2.1.symm]
theorem o_57 (T : TW d k M N) (hd1 : 1 ≤ d) (hd : d ≤ 50) (hk : k ≤ 49) {x y : Int32} (Hx : (∃ i q, i < cN (M 1) 10 ∧ q < hN (M 1) i 4 ∧ x = nI i ∧ y = nI (20 * i + q)) ∨ (cN (M 1) 10 = 0 ∧ x = 0 ∧ y = 0)) (w : Int32) : One d (k + 1) (J_L_isStep_57 (nI d) w x y M N) := by
  obtain ⟨dv, v, hv, kv, tv, r, h, ht, c⟩ := T.1
  have hcan : TwoR d (k + 1) (f_X8_cancel M y) (f_X8_cancel N y) := by
    rcases Hx with ⟨i, q, hi, hq, rfl, rfl⟩ | ⟨hm, rfl, rfl⟩
    · exact r_cancel T (by omega) hi hq
    · exact r_cancel0 T hm
  have hset : TwoR d (k + 1) (f_X8_settle M x) (f_X8_settle N x) := by
    rcases Hx with ⟨i, q, hi, hq, rfl, rfl⟩ | ⟨hm, rfl, rfl⟩
    · exact r_settle T hi
    · exact r_settle0 T hm
  have hrep : ∀ kd, kd ≤ 3 → TwoR d (k + 1) (f_X8_report M y (nI kd)) (f_X8_report N y (nI kd)) := fun kd hkd => by
    rcases Hx with ⟨i, q, hi, hq, rfl, rfl⟩ | ⟨hm, rfl, rfl⟩
    · exact r_report T hi hq hkd
    · exact r_report0 T hm _
  have hlend : ∀ j, j < 6 → ∃ a a' M' N', f_X8_lend M (nI j) x = some (a, M') ∧ f_X8_lend N (nI j) x = some (a', N') ∧ TW d (k + 1) M' N' ∧ ((a < 0 ∧ a' = a) ∨ (0 ≤ a ∧ a' = a + nI d)) := fun j hj => by
    rcases Hx with ⟨i, q, hi, hq, rfl, rfl⟩ | ⟨hm, rfl, rfl⟩
    · exact r_lend T (by omega) hj hi
    · exact r_lend0 T hm hj
  have hpass : ∀ D, D < 7 → One d (k + 1) (if 150 < M 1 0 + nI (1 + D) then some (1, M, N) else xb2 (f_X8_pass M (nI (1 + D))) fun r M1 => xb2 (f_X8_pass N (nI (1 + D))) fun r' N1 => if r = r' then some (1, M1, N1) else some (0, M1, N1)) := fun D hD => by
    have h0 := T.2.2.2.2.1
    rw [r.wd, nI_add]
    by_cases c : cN (M 1) 0 + (1 + D) ≤ 150
    · rw [if_neg (show ¬ (150 : Int32) < nI (cN (M 1) 0 + (1 + D)) from nI_nlt (a := 150) c (by decide))]
      exact two_fin (r_pass T (by omega) (by omega) (by omega) c)
    · rw [if_pos (show (150 : Int32) < nI (cN (M 1) 0 + (1 + D)) from nI_lt (a := 150) (by omega) (by omega))]
      exact ⟨M, N, rfl, T.more⟩
  obtain ⟨u, hu, eu⟩ := up_ok w (p2 := 12) (n := 12) rfl (by decide) (by decide)
  unfold J_L_isStep_57
  rw [eu, xbs]
  rcases (show u = 0 ∨ u = 1 ∨ u = 2 ∨ u = 3 ∨ u = 4 ∨ u = 5 ∨ u = 6 ∨ u = 7 ∨ u = 8 ∨ u = 9 ∨ u = 10 ∨ u = 11 by omega) with rfl | rfl | rfl | rfl | rfl | rfl | rfl | rfl | rfl | rfl | rfl | rfl
  · rw [if_pos (show nI 0 = (0 : Int32) by decide)]
    obtain ⟨j, hj, ej⟩ := up_ok (w >>> ((4 : Int32) &&& 31)) (p2 := 8) (n := 8) rfl (by decide) (by decide)
    rw [ej, xbs]
    have lit : ∀ c, c < 10 → ((nI j = nI c) ↔ j = c) := fun c hc => nI_eq (by omega) (by omega)
    by_cases c3 : j = 3
    · obtain ⟨q, hq, eq⟩ := up_ok (w >>> ((7 : Int32) &&& 31)) (p2 := 101) (n := 101) rfl (by decide) (by decide)
      rw [if_pos (show nI j = (3 : Int32) from (lit 3 (by decide)).mpr c3), eq, xbs]
      exact o_set T hj (by rw [c3]; show q ≤ 100; omega)
    rw [if_neg (show ¬ nI j = (3 : Int32) from fun z => c3 ((lit 3 (by decide)).mp z))]
    by_cases c4 : j = 4
    · obtain ⟨q, hq, eq⟩ := up_ok (w >>> ((7 : Int32) &&& 31)) (p2 := 4) (n := 4) rfl (by decide) (by decide)
      rw [if_pos (show nI j = (4 : Int32) from (lit 4 (by decide)).mpr c4), eq, xbs]
      exact o_set T hj (by rw [c4]; show q ≤ 3; omega)
    rw [if_neg (show ¬ nI j = (4 : Int32) from fun z => c4 ((lit 4 (by decide)).mp z))]
    by_cases c5 : j = 5
    · obtain ⟨q, hq, eq⟩ := up_ok (w >>> ((7 : Int32) &&& 31)) (p2 := 9000) (n := 9000) rfl (by decide) (by decide)
      rw [if_pos (show nI j = (5 : Int32) from (lit 5 (by decide)).mpr c5), eq, xbs]
      exact o_set T hj (by rw [c5]; show q ≤ 50000; omega)
    rw [if_neg (show ¬ nI j = (5 : Int32) from fun z => c5 ((lit 5 (by decide)).mp z))]
    by_cases c7 : j = 7
    · obtain ⟨q, hq, eq⟩ := up_ok (w >>> ((7 : Int32) &&& 31)) (p2 := 8) (n := 8) rfl (by decide) (by decide)
      rw [if_pos (show nI j = (7 : Int32) from (lit 7 (by decide)).mpr c7), eq, xbs]
      exact o_set T hj (by rw [c7]; show q ≤ 30; omega)
    rw [if_neg (show ¬ nI j = (7 : Int32) from fun z => c7 ((lit 7 (by decide)).mp z))]
    obtain ⟨q, hq, eq⟩ := up_ok (w >>> ((7 : Int32) &&& 31)) (p2 := 4000) (n := 4000) rfl (by decide) (by decide)
    rw [eq, xbs]
    refine o_set T hj ?_
    have e5 : moN j = 5000 := by
      unfold moN
      rw [if_neg c3, if_neg c4, if_neg c5]
      split <;> rfl
    omega
  · rw [if_neg (show ¬ nI 1 = (0 : Int32) by decide), if_pos (show nI 1 = (1 : Int32) by decide)]
    obtain ⟨b, hb, eb⟩ := up_ok (w >>> ((4 : Int32) &&& 31)) (p2 := 3) (n := 3) rfl (by decide) (by decide)
    obtain ⟨q, hq, eq⟩ := up_ok (w >>> ((6 : Int32) &&& 31)) (p2 := 9000) (n := 9000) rfl (by decide) (by decide)
    simp only [eb, eq, xbs, one_add]
    exact two_fin (r_pay T hb (by omega) (by omega) hk)
  · rw [if_neg (show ¬ nI 2 = (0 : Int32) by decide), if_neg (show ¬ nI 2 = (1 : Int32) by decide), if_pos (show nI 2 = (2 : Int32) by decide)]
    exact two_fin hcan
  · rw [if_neg (show ¬ nI 3 = (0 : Int32) by decide), if_neg (show ¬ nI 3 = (1 : Int32) by decide), if_neg (show ¬ nI 3 = (2 : Int32) by decide), if_pos (show nI 3 = (3 : Int32) by decide)]
    exact two_fin hcan
  · rw [if_neg (show ¬ nI 4 = (0 : Int32) by decide), if_neg (show ¬ nI 4 = (1 : Int32) by decide), if_neg (show ¬ nI 4 = (2 : Int32) by decide), if_neg (show ¬ nI 4 = (3 : Int32) by decide), if_pos (show nI 4 = (4 : Int32) by decide)]
    obtain ⟨D, hD, eD⟩ := up_ok (w >>> ((4 : Int32) &&& 31)) (p2 := 7) (n := 7) rfl (by decide) (by decide)
    simp only [eD, xbs, xls, one_add, cnt_0]
    exact hpass D hD
  · rw [if_neg (show ¬ nI 5 = (0 : Int32) by decide), if_neg (show ¬ nI 5 = (1 : Int32) by decide), if_neg (show ¬ nI 5 = (2 : Int32) by decide), if_neg (show ¬ nI 5 = (3 : Int32) by decide), if_neg (show ¬ nI 5 = (4 : Int32) by decide), if_pos (show nI 5 = (5 : Int32) by decide)]
    obtain ⟨D, hD, eD⟩ := up_ok (w >>> ((4 : Int32) &&& 31)) (p2 := 7) (n := 7) rfl (by decide) (by decide)
    simp only [eD, xbs, xls, one_add, cnt_0]
    exact hpass D hD
  · rw [if_neg (show ¬ nI 6 = (0 : Int32) by decide), if_neg (show ¬ nI 6 = (1 : Int32) by decide), if_neg (show ¬ nI 6 = (2 : Int32) by decide), if_neg (show ¬ nI 6 = (3 : Int32) by decide), if_neg (show ¬ nI 6 = (4 : Int32) by decide), if_neg (show ¬ nI 6 = (5 : Int32) by decide), if_pos (show nI 6 = (6 : Int32) by decide)]
    obtain ⟨j, hj, ej⟩ := up_ok (w >>> ((12 : Int32) &&& 31)) (p2 := 6) (n := 6) rfl (by decide) (by decide)
    obtain ⟨a, a', M', N', e1, e2, T', ha⟩ := hlend j hj
    simp only [ej, xbs]
    refine ⟨M', N', ?_, T'⟩
    rw [e1, xb2s, e2, xb2s]
    rcases ha with ⟨h1, h2⟩ | ⟨h1, h2⟩
    · rw [if_neg (fa_of_lt h1).2.1, if_pos h2.symm]
    · rw [if_pos h1, if_pos h2.symm]
  · rw [if_neg (show ¬ nI 7 = (0 : Int32) by decide), if_neg (show ¬ nI 7 = (1 : Int32) by decide), if_neg (show ¬ nI 7 = (2 : Int32) by decide), if_neg (show ¬ nI 7 = (3 : Int32) by decide), if_neg (show ¬ nI 7 = (4 : Int32) by decide), if_neg (show ¬ nI 7 = (5 : Int32) by decide), if_neg (show ¬ nI 7 = (6 : Int32) by decide), if_pos (show nI 7 = (7 : Int32) by decide)]
    obtain ⟨j, hj, ej⟩ := up_ok (w >>> ((4 : Int32) &&& 31)) (p2 := 6) (n := 6) rfl (by decide) (by decide)
    simp only [ej, xbs]
    exact two_fin (r_back T (by omega) hj)
  · rw [if_neg (show ¬ nI 8 = (0 : Int32) by decide), if_neg (show ¬ nI 8 = (1 : Int32) by decide), if_neg (show ¬ nI 8 = (2 : Int32) by decide), if_neg (show ¬ nI 8 = (3 : Int32) by decide), if_neg (show ¬ nI 8 = (4 : Int32) by decide), if_neg (show ¬ nI 8 = (5 : Int32) by decide), if_neg (show ¬ nI 8 = (6 : Int32) by decide), if_neg (show ¬ nI 8 = (7 : Int32) by decide), if_pos (show nI 8 = (8 : Int32) by decide)]
    obtain ⟨j, hj, ej⟩ := up_ok (w >>> ((14 : Int32) &&& 31)) (p2 := 4) (n := 4) rfl (by decide) (by decide)
    simp only [ej, xbs]
    exact two_fin (hrep j (by omega))
  · rw [if_neg (show ¬ nI 9 = (0 : Int32) by decide), if_neg (show ¬ nI 9 = (1 : Int32) by decide), if_neg (show ¬ nI 9 = (2 : Int32) by decide), if_neg (show ¬ nI 9 = (3 : Int32) by decide), if_neg (show ¬ nI 9 = (4 : Int32) by decide), if_neg (show ¬ nI 9 = (5 : Int32) by decide), if_neg (show ¬ nI 9 = (6 : Int32) by decide), if_neg (show ¬ nI 9 = (7 : Int32) by decide), if_neg (show ¬ nI 9 = (8 : Int32) by decide), if_pos (show nI 9 = (9 : Int32) by decide)]
    exact two_fin hset
  · rw [if_neg (show ¬ nI 10 = (0 : Int32) by decide), if_neg (show ¬ nI 10 = (1 : Int32) by decide), if_neg (show ¬ nI 10 = (2 : Int32) by decide), if_neg (show ¬ nI 10 = (3 : Int32) by decide), if_neg (show ¬ nI 10 = (4 : Int32) by decide), if_neg (show ¬ nI 10 = (5 : Int32) by decide), if_neg (show ¬ nI 10 = (6 : Int32) by decide), if_neg (show ¬ nI 10 = (7 : Int32) by decide), if_neg (show ¬ nI 10 = (8 : Int32) by decide), if_neg (show ¬ nI 10 = (9 : Int32) by decide)]
    obtain ⟨f, hf, ef⟩ := up_ok (w >>> ((7 : Int32) &&& 31)) (p2 := 22) (n := 22) rfl (by decide) (by decide)
    rw [ef, xbs, show (24 : Int32) - nI f = nI (24 - f) from pk_sub (a := 24) (by omega)]
    have em : ∀ q, ((100 : Int32) * nI f + nI f) + 1 + nI q = nI (100 * f + (f + 1 + q)) := fun q => by
      rw [show (100 : Int32) = nI 100 from rfl, pk_mul, nI_add, nI_1, nI_add]
      congr 1
      omega
    by_cases c : 24 - f ≤ 3
    · obtain ⟨q, hq, eq⟩ := up_ok (w >>> ((12 : Int32) &&& 31)) (p2 := nI (24 - f)) (n := 24 - f) rfl (by omega) (by omega)
      rw [if_pos (show nI (24 - f) ≤ (3 : Int32) from nI_le (b := 3) c (by decide)), eq, xbs, xls, em]
      exact o_hire T hd (by omega) (by omega) (by omega) w
    · obtain ⟨q, hq, eq⟩ := up_ok (w >>> ((12 : Int32) &&& 31)) (p2 := 3) (n := 3) rfl (by decide) (by decide)
      rw [if_neg (show ¬ nI (24 - f) ≤ (3 : Int32) from nI_ge (b := 24 - f) (a := 3) (by omega) (by omega)), eq, xbs, xls, em]
      exact o_hire T hd (by omega) (by omega) (by omega) w
  · rw [if_neg (show ¬ nI 11 = (0 : Int32) by decide), if_neg (show ¬ nI 11 = (1 : Int32) by decide), if_neg (show ¬ nI 11 = (2 : Int32) by decide), if_neg (show ¬ nI 11 = (3 : Int32) by decide), if_neg (show ¬ nI 11 = (4 : Int32) by decide), if_neg (show ¬ nI 11 = (5 : Int32) by decide), if_neg (show ¬ nI 11 = (6 : Int32) by decide), if_neg (show ¬ nI 11 = (7 : Int32) by decide), if_neg (show ¬ nI 11 = (8 : Int32) by decide), if_neg (show ¬ nI 11 = (9 : Int32) by decide)]
    obtain ⟨f, hf, ef⟩ := up_ok (w >>> ((7 : Int32) &&& 31)) (p2 := 22) (n := 22) rfl (by decide) (by decide)
    rw [ef, xbs, show (24 : Int32) - nI f = nI (24 - f) from pk_sub (a := 24) (by omega)]
    have em : ∀ q, ((100 : Int32) * nI f + nI f) + 1 + nI q = nI (100 * f + (f + 1 + q)) := fun q => by
      rw [show (100 : Int32) = nI 100 from rfl, pk_mul, nI_add, nI_1, nI_add]
      congr 1
      omega
    by_cases c : 24 - f ≤ 3
    · obtain ⟨q, hq, eq⟩ := up_ok (w >>> ((12 : Int32) &&& 31)) (p2 := nI (24 - f)) (n := 24 - f) rfl (by omega) (by omega)
      rw [if_pos (show nI (24 - f) ≤ (3 : Int32) from nI_le (b := 3) c (by decide)), eq, xbs, xls, em]
      exact o_hire T hd (by omega) (by omega) (by omega) w
    · obtain ⟨q, hq, eq⟩ := up_ok (w >>> ((12 : Int32) &&& 31)) (p2 := 3) (n := 3) rfl (by decide) (by decide)
      rw [if_neg (show ¬ nI (24 - f) ≤ (3 : Int32) from nI_ge (b := 24 - f) (a := 3) (by omega) (by omega)), eq, xbs, xls, em]
      exact o_hire T hd (by omega) (by omega) (by omega) w
theorem o_step (T : TW d k M N) (hd1 : 1 ≤ d) (hd : d ≤ 50) (hk : k ≤ 49) (w : Int32) : One d (k + 1) (f_L_isStep M N (nI d) w) := by
  obtain ⟨dv, v, hv, kv, tv, r, h, ht, c⟩ := T.1
  have h12 := r.m12
  unfold f_L_isStep
  rw [cnt_2, xbs, r.wm]
  by_cases hm : cN (M 1) 10 = 0
  · obtain ⟨u, hu, eu⟩ := up_ok (w >>> ((8 : Int32) &&& 31)) (p2 := 1) (n := 1) rfl (by decide) (by decide)
    have u0 : u = 0 := by omega
    subst u0
    rw [if_pos (show nI (cN (M 1) 10) = (0 : Int32) by rw [hm]; rfl), if_pos (show nI (cN (M 1) 10) = (0 : Int32) by rw [hm]; rfl), eu, xbs, xls]
    exact o_57 T hd1 hd hk (Or.inr ⟨hm, rfl, rfl⟩) w
  · have n0 : ¬ nI (cN (M 1) 10) = (0 : Int32) := ne_lit (b := 0) hm (by omega) (by decide)
    obtain ⟨i, hi, ei⟩ := up_ok (w >>> ((4 : Int32) &&& 31)) (p2 := nI (cN (M 1) 10)) (n := cN (M 1) 10) rfl (by omega) (by omega)
    have g := r.g hi
    have h1 := g.2.2.2.2.2.2.1
    have h20 := g.2.2.2.2.2.2.2.1
    obtain ⟨q, hq, eq⟩ := up_ok (w >>> ((8 : Int32) &&& 31)) (p2 := nI (hN (M 1) i 4)) (n := hN (M 1) i 4) rfl (by omega) (by omega)
    rw [if_neg n0, ei, xbs, if_neg n0, hi_4 r hi, xbs, eq, xbs, xls, show (20 : Int32) * nI i + nI q = nI (20 * i + q) by rw [show (20 : Int32) = nI 20 from rfl, pk_mul, nI_add]]
    exact o_57 T hd1 hd hk (Or.inl ⟨i, q, hi, hq, rfl, rfl⟩) w
end
