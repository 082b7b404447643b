/-! ===== PURE p29, 14: the end: a payment undone, the first free hours ===== -/
theorem m_save {v M hv : xV} {kv : Nat → xV} (h : HR hv kv M) : ∃ M1 n, n < 4 ∧ f_X8_save M = some M1 ∧ M1 0 3 = nI (n + 1) ∧ (∀ c, c < 820 → M1 2 (820 * n + c) = M 1 c) := by
  obtain ⟨n, q, a1, a2, a3, -⟩ := h
  unfold f_X8_save
  by_cases hn : n < 4
  · refine ⟨upd2 (svM M n 820) 0 3 (nI (n + 1)), n, hn, ?_, u2s _ _ _ _, fun c hc => ?_⟩
    · rw [a3, if_neg (show ¬ nI n = (4 : Int32) from ne_lit (b := 4) (by omega) (by omega) (by decide)), m_save51 _ _ hn a3, xls, svM_r M n 820 (r := 0) (by decide), a3, nI_1]
    · rw [u2k _ _ (by decide)]
      unfold svM
      rw [if_pos ⟨rfl, by omega, by omega⟩]
      congr 1
      omega
  · have hn4 : n = 4 := by omega
    subst hn4
    have w1 : upd2 (shM M 2460) 0 3 (nI 3) 0 3 = nI 3 := u2s _ _ _ _
    refine ⟨upd2 (svM (upd2 (shM M 2460) 0 3 (nI 3)) 3 820) 0 3 (nI 4), 3, by decide, ?_, u2s _ _ _ _, fun c hc => ?_⟩
    · rw [a3, if_pos (by decide), m_save10, xls, shM_r M 2460 (r := 0) (by decide), a3, show nI 4 - 1 = nI 3 from rfl, m_save51a _ _ (by decide) w1, xls, svM_r _ 3 820 (r := 0) (by decide), w1]
      rfl
    · rw [u2k _ _ (by decide)]
      unfold svM
      rw [if_pos ⟨rfl, by omega, by omega⟩, u2k _ _ (by decide), shM_r M 2460 (r := 1) (by decide)]
      exact congrArg (M 1) (by omega)
theorem m_undo {M : xV} {n : Nat} (hn : n < 4) (a3 : M 0 3 = nI (n + 1)) : ∃ M', f_X8_undo M = some (nI n, M') ∧ ∀ c, c < 820 → M' 1 c = M 2 (820 * n + c) := by
  refine ⟨bkM (upd2 M 0 3 (nI n)) n 820, ?_, fun c hc => ?_⟩
  · unfold f_X8_undo
    rw [a3, if_neg (show ¬ nI (n + 1) = (0 : Int32) from ne_lit (b := 0) (by omega) (by omega) (by decide)), nI_pred, xls]
    have z : bkM (upd2 M 0 3 (nI n)) n 0 = upd2 M 0 3 (nI n) := by
      funext r c
      exact if_neg (by omega)
    have br : ∀ k r, r ≠ 1 → bkM (upd2 M 0 3 (nI n)) n k r = upd2 M 0 3 (nI n) r := fun k r hr => by
      funext c
      exact if_neg (fun y => hr y.1)
    have w3 : ∀ k, bkM (upd2 M 0 3 (nI n)) n k 0 3 = nI n := fun k => by rw [br k 0 (by decide), u2s]
    have q := xup0 (fun j k => L_X8_undo_22 (fun _ M_11 => some ((M_11 0 3), M_11)) j (nI k) (bkM (upd2 M 0 3 (nI n)) n k)) (some (nI n, bkM (upd2 M 0 3 (nI n)) n 820)) 820 (fun j k hk => by
      rw [L_X8_undo_22, if_neg (show ¬ (820 : Int32) ≤ nI k from nI_ge (b := 820) hk (by decide)), w3, show (820 : Int32) * nI n + nI k = nI (820 * n + k) by rw [show (820 : Int32) = nI 820 from rfl, pk_mul, nI_add], xgi (by omega) (by decide), xgi (by omega) (by decide), nI_clamp (by omega), nI_clamp (by omega), xls, xls, nI_1, br k 2 (by decide)]
      congr 1
      funext r c
      rw [u2e]
      unfold bkM
      by_cases h : r = 1 ∧ c = k
      · obtain ⟨rfl, rfl⟩ := h
        rw [if_pos ⟨rfl, rfl⟩, if_pos ⟨rfl, by omega⟩]
      · rw [if_neg h]
        by_cases h2 : r = 1 ∧ c < k
        · rw [if_pos h2, if_pos ⟨h2.1, by omega⟩]
        · rw [if_neg h2, if_neg (by omega)]) (fun j => by
      rw [L_X8_undo_22, if_pos (show (820 : Int32) ≤ nI 820 from by decide), w3]) (n := 100000) (by decide)
    rw [z] at q
    exact q
  · unfold bkM
    rw [if_pos ⟨rfl, hc⟩, u2k _ _ (by decide)]
theorem m_pay2 {v M hv : xV} {kv : Nat → xV} (r : RB v (M 1)) {M1 : xV} (e4 : f_X8_save M = some M1) (kp : M1 1 = M 1) {j q : Nat} (hj : j < cN (M 1) 9) (h1 : 1 ≤ q) (h2 : q ≤ 1000000) (hl : M 1 (20 + 2 * j + 1) + nI q ≤ 100000000) : ∃ M', f_X8_pay M (nI j) (nI q) = some (M 1 (20 + 2 * j) - (M 1 (20 + 2 * j + 1) + nI q), M') ∧ ∀ c, c ≠ 1 → M' c = M1 c := by
  have h10 := r.h10
  have c1 : (20 : Int32) + 2 * nI j = nI (20 + 2 * j) := by rw [show (2 : Int32) = nI 2 from rfl, show (20 : Int32) = nI 20 from rfl, pk_mul, nI_add]
  refine ⟨upd2 (upd2 M1 1 (20 + 2 * j + 1) (M1 1 (20 + 2 * j + 1) + nI q)) 1 19 (M1 1 19 + nI q), ?_, fun c hc => by rw [u2k _ _ hc, u2k _ _ hc]⟩
  unfold f_X8_pay
  rw [hirer_ok r hj, xbs, i10, in_ok (A := 1) (B := 1000000) (lo := 1) (hi := 1000000) rfl rfl h1 h2 (by decide), xbs, i10]
  simp only [c1, nI_1, xgi (show 20 + 2 * j < 820 by omega) (show 820 < 2 ^ 31 by decide), xgi (show 20 + 2 * j + 1 < 820 by omega) (show 820 < 2 ^ 31 by decide), nI_clamp (show 20 + 2 * j < 2 ^ 31 by omega), nI_clamp (show 20 + 2 * j + 1 < 2 ^ 31 by omega)]
  rw [if_pos hl, e4, xbs, m_pays _ (by omega) _ rfl, xbs, xls]
  rw [u2j M1 (k := 1) (j := 20 + 2 * j + 1) _ (show 19 ≠ 20 + 2 * j + 1 by omega)]
  rw [u2j _ (k := 1) (j := 19) _ (show 20 + 2 * j ≠ 19 by omega), u2j M1 (k := 1) _ (show 20 + 2 * j ≠ 20 + 2 * j + 1 by omega), u2j _ (k := 1) (j := 19) _ (show 20 + 2 * j + 1 ≠ 19 by omega), u2s, kp]
/-- a payment, and its undoing -/
theorem end_pay {d k : Nat} {M N : xV} (T : TW d k M N) (hk : k ≤ 49) : ∃ D C u M1 M2, f_X8_hirer M 0 2 = some D ∧ f_X8_count M 3 = some C ∧ f_X8_pay M 0 7 = some (D - 7, M1) ∧ f_X8_undo M1 = some (nI u, M2) ∧ u < 4 ∧ f_X8_hirer M2 0 2 = some D ∧ f_X8_count M2 3 = some C ∧ PW M2 ∧ PW N ∧ Sh d (M2 1) (N 1) ∧ cN (M2 1) 9 = 3 ∧ cN (M2 1) 0 ≤ 150 := by
  have T0 := T
  obtain ⟨⟨dv, v, hv, kv, tv, r, h, ht, c⟩, p', s, I, h0, t4, t6⟩ := T
  have h9 : 0 < cN (M 1) 9 := by rw [I.2.1]; decide
  obtain ⟨Q, hQ, eQ⟩ := I.2.2.2.2.2 0 (by decide)
  have hl : M 1 (20 + 2 * 0 + 1) + nI 7 ≤ 100000000 := by
    rw [eQ, nI_add]
    exact nI_le (b := 100000000) (by omega) (by decide)
  obtain ⟨S, n, hn, s1, s2, s3⟩ := m_save (v := v) h
  obtain ⟨hv1, kv1, S', z3, z4, z5, kp⟩ := s_save r h
  have eS : S' = S := Option.some.inj (z4.symm.trans s1)
  rw [eS] at kp
  obtain ⟨M1, e1, e2⟩ := m_pay2 (hv := hv) (kv := kv) r s1 kp.1 h9 (q := 7) (by decide) (by decide) hl
  obtain ⟨b, v1, hv2, kv2, M1', -, y2, y3, y4, y5, y6⟩ := s_pay r h dv (nI 0) (nI 7)
  have eM : M1' = M1 := (Prod.mk.inj (Option.some.inj (y2.symm.trans e1))).2
  subst eM
  obtain ⟨M2, u1, u2⟩ := m_undo (M := M1') hn (by rw [e2 0 (by decide)]; exact s2)
  obtain ⟨b2, v2, hv3, M2', -, x2, x3, x4, x5, x6⟩ := s_undo y3 y4
  have eM2 : M2' = M2 := (Prod.mk.inj (Option.some.inj (x2.symm.trans u1))).2
  subst eM2
  have same : ∀ q, q < 820 → M2' 1 q = M 1 q := fun q hq => by rw [u2 q hq, e2 2 (by decide), s3 q hq]
  have c10 : cN (M2' 1) 10 = cN (M 1) 10 := cN_cong (same 10 (by decide))
  have h12 := r.m12
  have S0 : Sh 0 (M 1) (M2' 1) := ⟨by rw [same 0 (by decide)]; exact (Int32.add_zero _).symm, fun q _ h2 => same q (by omega), fun j hj => ⟨same _ (by omega), fun _ => by rw [same _ (by omega)]; exact (Int32.add_zero _).symm⟩, fun i hi => ⟨fun q hq _ => same _ (by omega), by rw [same _ (by omega)]; exact (Int32.add_zero _).symm⟩⟩
  have c9 : cN (M2' 1) 9 = 3 := by rw [cN_cong (same 9 (by decide)), I.2.1]
  refine ⟨M 1 (20 + 2 * 0) - M 1 (20 + 2 * 0 + 1), sN (M 1), n, M1', M2', hr_2 r h9, (cnt_3 M).trans (m_countSessions0 r), ?_, u1, hn, ?_, ?_, ⟨dv, v2, hv3, kv2, tv, x3, x4, ht.trans ((x6 6 (by decide)).trans (y6 6 (by decide))).symm, CR.cong c rfl ((x6 4 (by decide)).trans (y6 4 (by decide)))⟩, p', ?_, c9, by rw [cN_cong (same 0 (by decide))]; exact h0⟩
  · refine e1.trans ?_
    congr 2
    show M 1 (20 + 2 * 0) - (M 1 (20 + 2 * 0 + 1) + 7) = _
    grind
  · have e := hr_2 x3 (b := 0) (by rw [c9]; decide)
    rw [same _ (by decide), same _ (by decide)] at e
    exact e
  · rw [cnt_3, m_countSessions0 x3, S0.sNE]
  · refine ⟨by rw [same 0 (by decide)]; exact s.1, fun q a b => by rw [same q (by omega)]; exact s.lo a b, fun j hj => ?_, fun i hi => ?_⟩
    · rw [same _ (by omega), same _ (by omega)]
      exact s.2.2.1 j hj
    · rw [c10] at hi
      refine ⟨fun q hq h5 => ?_, ?_⟩
      · rw [same _ (by omega)]
        exact s.h hi hq h5
      · rw [same _ (by omega)]
        exact (s.2.2.2 i hi).2
theorem ff_in {d : Nat} {v v' M N : xV} (r : RB v (M 1)) (r' : RB v' (N 1)) (s : Sh d (M 1) (N 1)) (hd : d < 1000) {x l : Nat} (hx : x + d < 1000) (hl : 1 ≤ l) (hl15 : l ≤ 15) (h ro : Int32) : ∀ (e q n : Nat), q + e = 24 → e < n → 8 ≤ q → (∃ f, f ≤ 23 ∧ (∀ K, L_X8_firstFree_82 K M h ro (nI l) (nI x) n (nI q) = some (nI (100 * x + f))) ∧ (∀ K, L_X8_firstFree_82 K N h ro (nI l) (nI (x + d)) n (nI q) = some (nI (100 * (x + d) + f)))) ∨ ∃ f, (∀ K, L_X8_firstFree_82 K M h ro (nI l) (nI x) n (nI q) = K (nI f)) ∧ ∀ K, L_X8_firstFree_82 K N h ro (nI l) (nI (x + d)) n (nI q) = K (nI f) := by
  intro e
  induction e with
  | zero =>
    intro q n hq hn h8
    obtain ⟨n, rfl⟩ : ∃ z, n = z + 1 := ⟨n - 1, by omega⟩
    refine Or.inr ⟨q, fun K => ?_, fun K => ?_⟩
    · rw [L_X8_firstFree_82, nI_add, if_pos (show (23 : Int32) < nI (q + l) from nI_lt (a := 23) (by omega) (by omega))]
    · rw [L_X8_firstFree_82, nI_add, if_pos (show (23 : Int32) < nI (q + l) from nI_lt (a := 23) (by omega) (by omega))]
  | succ e ih =>
    intro q n hq hn h8
    obtain ⟨n, rfl⟩ : ∃ z, n = z + 1 := ⟨n - 1, by omega⟩
    by_cases c : 23 < q + l
    · refine Or.inr ⟨q, fun K => ?_, fun K => ?_⟩
      · rw [L_X8_firstFree_82, nI_add, if_pos (show (23 : Int32) < nI (q + l) from nI_lt (a := 23) c (by omega))]
      · rw [L_X8_firstFree_82, nI_add, if_pos (show (23 : Int32) < nI (q + l) from nI_lt (a := 23) c (by omega))]
    · have nc : ¬ (23 : Int32) < nI (q + l) := nI_nlt (a := 23) (by omega) (by decide)
      have eM := m_clashOn r (d := x) (hirer := h) (rooms := ro) (from_ := nI q) (to_ := nI (q + l)) (by omega)
      have eN := m_clashOn r' (d := x + d) (hirer := h) (rooms := ro) (from_ := nI q) (to_ := nI (q + l)) hx
      rw [s.sOfE r.1 hd] at eN
      have ar : ∀ y, (100 : Int32) * nI y + nI q = nI (100 * y + q) := fun y => by rw [show (100 : Int32) = nI 100 from rfl, pk_mul, nI_add]
      by_cases hc : sOf (M 1) x (bst (M 1) h ro (nI q) (nI (q + l)) x 12) = -1
      · refine Or.inl ⟨q, by omega, fun K => ?_, fun K => ?_⟩
        · rw [L_X8_firstFree_82, nI_add, if_neg nc, eM, xbs, if_pos hc, ar]
        · rw [L_X8_firstFree_82, nI_add, if_neg nc, eN, xbs, if_pos hc, ar]
      · rcases ih (q + 1) n (by omega) (by omega) (by omega) with ⟨f, hf, a1, a2⟩ | ⟨f, a1, a2⟩
        · refine Or.inl ⟨f, hf, fun K => ?_, fun K => ?_⟩
          · rw [L_X8_firstFree_82, nI_add, if_neg nc, eM, xbs, if_neg hc, xls, nI_1]
            exact a1 K
          · rw [L_X8_firstFree_82, nI_add, if_neg nc, eN, xbs, if_neg hc, xls, nI_1]
            exact a2 K
        · refine Or.inr ⟨f, fun K => ?_, fun K => ?_⟩
          · rw [L_X8_firstFree_82, nI_add, if_neg nc, eM, xbs, if_neg hc, xls, nI_1]
            exact a1 K
          · rw [L_X8_firstFree_82, nI_add, if_neg nc, eN, xbs, if_neg hc, xls, nI_1]
            exact a2 K
theorem ff_ina {d : Nat} {v v' M N : xV} (r : RB v (M 1)) (r' : RB v' (N 1)) (s : Sh d (M 1) (N 1)) (hd : d < 1000) {x l : Nat} (hx : x + d < 1000) (hl : 1 ≤ l) (hl15 : l ≤ 15) (h ro : Int32) : ∀ (e q n : Nat), q + e = 24 → e < n → 8 ≤ q → (∃ f, f ≤ 23 ∧ (∀ K, L_X8_firstFree_82a K M h ro (nI l) (nI x) n (nI q) = some (nI (100 * x + f))) ∧ (∀ K, L_X8_firstFree_82a K N h ro (nI l) (nI (x + d)) n (nI q) = some (nI (100 * (x + d) + f)))) ∨ ∃ f, (∀ K, L_X8_firstFree_82a K M h ro (nI l) (nI x) n (nI q) = K (nI f)) ∧ ∀ K, L_X8_firstFree_82a K N h ro (nI l) (nI (x + d)) n (nI q) = K (nI f) := by
  intro e
  induction e with
  | zero =>
    intro q n hq hn h8
    obtain ⟨n, rfl⟩ : ∃ z, n = z + 1 := ⟨n - 1, by omega⟩
    refine Or.inr ⟨q, fun K => ?_, fun K => ?_⟩
    · rw [L_X8_firstFree_82a, nI_add, if_pos (show (23 : Int32) < nI (q + l) from nI_lt (a := 23) (by omega) (by omega))]
    · rw [L_X8_firstFree_82a, nI_add, if_pos (show (23 : Int32) < nI (q + l) from nI_lt (a := 23) (by omega) (by omega))]
  | succ e ih =>
    intro q n hq hn h8
    obtain ⟨n, rfl⟩ : ∃ z, n = z + 1 := ⟨n - 1, by omega⟩
    by_cases c : 23 < q + l
    · refine Or.inr ⟨q, fun K => ?_, fun K => ?_⟩
      · rw [L_X8_firstFree_82a, nI_add, if_pos (show (23 : Int32) < nI (q + l) from nI_lt (a := 23) c (by omega))]
      · rw [L_X8_firstFree_82a, nI_add, if_pos (show (23 : Int32) < nI (q + l) from nI_lt (a := 23) c (by omega))]
    · have nc : ¬ (23 : Int32) < nI (q + l) := nI_nlt (a := 23) (by omega) (by decide)
      have eM := m_clashOn r (d := x) (hirer := h) (rooms := ro) (from_ := nI q) (to_ := nI (q + l)) (by omega)
      have eN := m_clashOn r' (d := x + d) (hirer := h) (rooms := ro) (from_ := nI q) (to_ := nI (q + l)) hx
      rw [s.sOfE r.1 hd] at eN
      have ar : ∀ y, (100 : Int32) * nI y + nI q = nI (100 * y + q) := fun y => by rw [show (100 : Int32) = nI 100 from rfl, pk_mul, nI_add]
      by_cases hc : sOf (M 1) x (bst (M 1) h ro (nI q) (nI (q + l)) x 12) = -1
      · refine Or.inl ⟨q, by omega, fun K => ?_, fun K => ?_⟩
        · rw [L_X8_firstFree_82a, nI_add, if_neg nc, eM, xbs, if_pos hc, ar]
        · rw [L_X8_firstFree_82a, nI_add, if_neg nc, eN, xbs, if_pos hc, ar]
      · rcases ih (q + 1) n (by omega) (by omega) (by omega) with ⟨f, hf, a1, a2⟩ | ⟨f, a1, a2⟩
        · refine Or.inl ⟨f, hf, fun K => ?_, fun K => ?_⟩
          · rw [L_X8_firstFree_82a, nI_add, if_neg nc, eM, xbs, if_neg hc, xls, nI_1]
            exact a1 K
          · rw [L_X8_firstFree_82a, nI_add, if_neg nc, eN, xbs, if_neg hc, xls, nI_1]
            exact a2 K
        · refine Or.inr ⟨f, fun K => ?_, fun K => ?_⟩
          · rw [L_X8_firstFree_82a, nI_add, if_neg nc, eM, xbs, if_neg hc, xls, nI_1]
            exact a1 K
          · rw [L_X8_firstFree_82a, nI_add, if_neg nc, eN, xbs, if_neg hc, xls, nI_1]
            exact a2 K
theorem ff_one {d : Nat} {v v' M N : xV} (r : RB v (M 1)) (r' : RB v' (N 1)) (s : Sh d (M 1) (N 1)) (hd : d < 200) {l : Nat} (hl : 1 ≤ l) (hl15 : l ≤ 15) (h ro : Int32) : ∀ (e x n : Nat), 365 ≤ x + e → e < n → x ≤ 365 → ∃ a, L_X8_firstFree_70 (fun _ => some (-2000000004)) M h ro (nI l) n (nI x) = some a := by
  intro e
  induction e with
  | zero =>
    intro x n hx hn h5
    obtain ⟨n, rfl⟩ : ∃ z, n = z + 1 := ⟨n - 1, by omega⟩
    exact ⟨_, by rw [L_X8_firstFree_70, if_pos (show (364 : Int32) < nI x from nI_lt (a := 364) (by omega) (by omega))]⟩
  | succ e ih =>
    intro x n hx hn h5
    obtain ⟨n, rfl⟩ : ∃ z, n = z + 1 := ⟨n - 1, by omega⟩
    by_cases c : 364 < x
    · exact ⟨_, by rw [L_X8_firstFree_70, if_pos (show (364 : Int32) < nI x from nI_lt (a := 364) c (by omega))]⟩
    · have nc : ¬ (364 : Int32) < nI x := nI_nlt (a := 364) (by omega) (by decide)
      rcases ff_in r r' s (by omega) (x := x) (by omega) hl hl15 h ro 16 8 100000 (by decide) (by decide) (by decide) with ⟨f, hf, a1, a2⟩ | ⟨f, a1, a2⟩
      · exact ⟨_, by rw [L_X8_firstFree_70, if_neg nc]; exact a1 _⟩
      · obtain ⟨a, ea⟩ := ih (x + 1) n (by omega) (by omega) (by omega)
        refine ⟨a, ?_⟩
        rw [L_X8_firstFree_70, if_neg nc]
        refine (a1 _).trans ?_
        rw [xls, nI_1]
        exact ea
theorem ff_two {d : Nat} {v v' M N : xV} (r : RB v (M 1)) (r' : RB v' (N 1)) (s : Sh d (M 1) (N 1)) (hd : d < 200) {l : Nat} (hl : 1 ≤ l) (hl15 : l ≤ 15) (h ro : Int32) : ∀ (e x n : Nat), 365 ≤ x + e → e < n → x ≤ 365 → ∃ a b, L_X8_firstFree_70 (fun _ => some (-2000000004)) M h ro (nI l) n (nI x) = some a ∧ L_X8_firstFree_70 (fun _ => some (-2000000004)) N h ro (nI l) n (nI (x + d)) = some b ∧ ((a < 0 ∧ b < 0) ∨ (0 ≤ a ∧ (b = a + 100 * nI d ∨ b < 0))) := by
  intro e
  induction e with
  | zero =>
    intro x n hx hn h5
    obtain ⟨n, rfl⟩ : ∃ z, n = z + 1 := ⟨n - 1, by omega⟩
    exact ⟨_, _, by rw [L_X8_firstFree_70, if_pos (show (364 : Int32) < nI x from nI_lt (a := 364) (by omega) (by omega))], by rw [L_X8_firstFree_70, if_pos (show (364 : Int32) < nI (x + d) from nI_lt (a := 364) (by omega) (by omega))], Or.inl ⟨by decide, by decide⟩⟩
  | succ e ih =>
    intro x n hx hn h5
    have hn' := hn
    obtain ⟨n, rfl⟩ : ∃ z, n = z + 1 := ⟨n - 1, by omega⟩
    by_cases c : 364 < x + d
    · obtain ⟨a, ea⟩ := ff_one r r' s hd hl hl15 h ro (e + 1) x (n + 1) hx hn' h5
      refine ⟨a, _, ea, by rw [L_X8_firstFree_70, if_pos (show (364 : Int32) < nI (x + d) from nI_lt (a := 364) c (by omega))], ?_⟩
      by_cases ha : a < 0
      · exact Or.inl ⟨ha, by decide⟩
      · exact Or.inr ⟨fa_of_nlt ha, Or.inr (by decide)⟩
    · have nc : ¬ (364 : Int32) < nI x := nI_nlt (a := 364) (by omega) (by decide)
      have nc' : ¬ (364 : Int32) < nI (x + d) := nI_nlt (a := 364) (by omega) (by decide)
      rcases ff_in r r' s (by omega) (x := x) (by omega) hl hl15 h ro 16 8 100000 (by decide) (by decide) (by decide) with ⟨f, hf, a1, a2⟩ | ⟨f, a1, a2⟩
      · refine ⟨_, _, by rw [L_X8_firstFree_70, if_neg nc]; exact a1 _, by rw [L_X8_firstFree_70, if_neg nc']; exact a2 _, Or.inr ⟨nI_pos' (by omega), Or.inl ?_⟩⟩
        rw [show (100 : Int32) = nI 100 from rfl, pk_mul, nI_add]
        congr 1
        omega
      · obtain ⟨a, b, ea, eb, hab⟩ := ih (x + 1) n (by omega) (by omega) (by omega)
        refine ⟨a, b, ?_, ?_, hab⟩
        · rw [L_X8_firstFree_70, if_neg nc]
          refine (a1 _).trans ?_
          rw [xls, nI_1]
          exact ea
        · rw [L_X8_firstFree_70, if_neg nc']
          refine (a2 _).trans ?_
          rw [xls, nI_1, show x + d + 1 = x + 1 + d by omega]
          exact eb
theorem ff_onea {d : Nat} {v v' M N : xV} (r : RB v (M 1)) (r' : RB v' (N 1)) (s : Sh d (M 1) (N 1)) (hd : d < 200) {l : Nat} (hl : 1 ≤ l) (hl15 : l ≤ 15) (h ro : Int32) : ∀ (e x n : Nat), 365 ≤ x + e → e < n → x ≤ 365 → ∃ a, L_X8_firstFree_70a (fun _ => some (-2000000004)) M h ro (nI l) n (nI x) = some a := by
  intro e
  induction e with
  | zero =>
    intro x n hx hn h5
    obtain ⟨n, rfl⟩ : ∃ z, n = z + 1 := ⟨n - 1, by omega⟩
    exact ⟨_, by rw [L_X8_firstFree_70a, if_pos (show (364 : Int32) < nI x from nI_lt (a := 364) (by omega) (by omega))]⟩
  | succ e ih =>
    intro x n hx hn h5
    obtain ⟨n, rfl⟩ : ∃ z, n = z + 1 := ⟨n - 1, by omega⟩
    by_cases c : 364 < x
    · exact ⟨_, by rw [L_X8_firstFree_70a, if_pos (show (364 : Int32) < nI x from nI_lt (a := 364) c (by omega))]⟩
    · have nc : ¬ (364 : Int32) < nI x := nI_nlt (a := 364) (by omega) (by decide)
      rcases ff_ina r r' s (by omega) (x := x) (by omega) hl hl15 h ro 16 8 100000 (by decide) (by decide) (by decide) with ⟨f, hf, a1, a2⟩ | ⟨f, a1, a2⟩
      · exact ⟨_, by rw [L_X8_firstFree_70a, if_neg nc]; exact a1 _⟩
      · obtain ⟨a, ea⟩ := ih (x + 1) n (by omega) (by omega) (by omega)
        refine ⟨a, ?_⟩
        rw [L_X8_firstFree_70a, if_neg nc]
        refine (a1 _).trans ?_
        rw [xls, nI_1]
        exact ea
theorem ff_twoa {d : Nat} {v v' M N : xV} (r : RB v (M 1)) (r' : RB v' (N 1)) (s : Sh d (M 1) (N 1)) (hd : d < 200) {l : Nat} (hl : 1 ≤ l) (hl15 : l ≤ 15) (h ro : Int32) : ∀ (e x n : Nat), 365 ≤ x + e → e < n → x ≤ 365 → ∃ a b, L_X8_firstFree_70a (fun _ => some (-2000000004)) M h ro (nI l) n (nI x) = some a ∧ L_X8_firstFree_70a (fun _ => some (-2000000004)) N h ro (nI l) n (nI (x + d)) = some b ∧ ((a < 0 ∧ b < 0) ∨ (0 ≤ a ∧ (b = a + 100 * nI d ∨ b < 0))) := by
  intro e
  induction e with
  | zero =>
    intro x n hx hn h5
    obtain ⟨n, rfl⟩ : ∃ z, n = z + 1 := ⟨n - 1, by omega⟩
    exact ⟨_, _, by rw [L_X8_firstFree_70a, if_pos (show (364 : Int32) < nI x from nI_lt (a := 364) (by omega) (by omega))], by rw [L_X8_firstFree_70a, if_pos (show (364 : Int32) < nI (x + d) from nI_lt (a := 364) (by omega) (by omega))], Or.inl ⟨by decide, by decide⟩⟩
  | succ e ih =>
    intro x n hx hn h5
    have hn' := hn
    obtain ⟨n, rfl⟩ : ∃ z, n = z + 1 := ⟨n - 1, by omega⟩
    by_cases c : 364 < x + d
    · obtain ⟨a, ea⟩ := ff_onea r r' s hd hl hl15 h ro (e + 1) x (n + 1) hx hn' h5
      refine ⟨a, _, ea, by rw [L_X8_firstFree_70a, if_pos (show (364 : Int32) < nI (x + d) from nI_lt (a := 364) c (by omega))], ?_⟩
      by_cases ha : a < 0
      · exact Or.inl ⟨ha, by decide⟩
      · exact Or.inr ⟨fa_of_nlt ha, Or.inr (by decide)⟩
    · have nc : ¬ (364 : Int32) < nI x := nI_nlt (a := 364) (by omega) (by decide)
      have nc' : ¬ (364 : Int32) < nI (x + d) := nI_nlt (a := 364) (by omega) (by decide)
      rcases ff_ina r r' s (by omega) (x := x) (by omega) hl hl15 h ro 16 8 100000 (by decide) (by decide) (by decide) with ⟨f, hf, a1, a2⟩ | ⟨f, a1, a2⟩
      · refine ⟨_, _, by rw [L_X8_firstFree_70a, if_neg nc]; exact a1 _, by rw [L_X8_firstFree_70a, if_neg nc']; exact a2 _, Or.inr ⟨nI_pos' (by omega), Or.inl ?_⟩⟩
        rw [show (100 : Int32) = nI 100 from rfl, pk_mul, nI_add]
        congr 1
        omega
      · obtain ⟨a, b, ea, eb, hab⟩ := ih (x + 1) n (by omega) (by omega) (by omega)
        refine ⟨a, b, ?_, ?_, hab⟩
        · rw [L_X8_firstFree_70a, if_neg nc]
          refine (a1 _).trans ?_
          rw [xls, nI_1]
          exact ea
        · rw [L_X8_firstFree_70a, if_neg nc']
          refine (a2 _).trans ?_
          rw [xls, nI_1, show x + d + 1 = x + 1 + d by omega]
          exact eb
/-- the first free hours lie d days apart, or the second hall's year has ended -/
theorem end_free {d : Nat} {M N : xV} (p : PW M) (p' : PW N) (s : Sh d (M 1) (N 1)) (h9 : cN (M 1) 9 = 3) (h0 : cN (M 1) 0 ≤ 150) (hd : d ≤ 50) {ro u l : Nat} (hr1 : 1 ≤ ro) (hr7 : ro ≤ 7) (hu : u < 30) (hl : 1 ≤ l) (hl15 : l ≤ 15) : ∃ a b, f_X8_firstFree M 1 (nI ro) (nI (cN (M 1) 0 + u)) (nI l) = some a ∧ f_X8_firstFree N 1 (nI ro) (nI (cN (M 1) 0 + u + d)) (nI l) = some b ∧ ((a < 0 ∧ b < 0) ∨ (0 ≤ a ∧ (b = a + 100 * nI d ∨ b < 0))) := by
  obtain ⟨dv, v, hv, kv, tv, r, h, ht, c⟩ := p
  obtain ⟨dv', v', hv', kv', tv', r', h', ht', c'⟩ := p'
  have e0 := s.day' r.1 (by omega)
  have i1 : f_X8_isHirer M 1 = some 1 := hirer_ok r (j := 1) (by rw [h9]; decide)
  have i2 : f_X8_isHirer N 1 = some 1 := hirer_ok r' (j := 1) (by rw [s.cn (by decide) (by decide), h9]; decide)
  have head : ∀ {X : xV} {D : Nat}, f_X8_isHirer X 1 = some 1 → D ≤ 364 → f_X8_firstFree X 1 (nI ro) (nI D) (nI l) = if nI D ≤ X 1 0 then L_X8_firstFree_70 (fun _ => some (-2000000004)) X 1 (nI ro) (nI l) 100000 (X 1 0) else L_X8_firstFree_70a (fun _ => some (-2000000004)) X 1 (nI ro) (nI l) 100000 (nI D) := fun {X D} hi hD => by
    unfold f_X8_firstFree
    rw [hi, xbs, i10, in_ok (A := 1) (B := 7) (lo := 1) (hi := 7) rfl rfl hr1 hr7 (by decide), xbs, i10, in_ok (A := 0) (B := 364) (lo := 0) (hi := 364) rfl rfl (by omega) hD (by decide), xbs, i10, in_ok (A := 1) (B := 15) (lo := 1) (hi := 15) rfl rfl hl hl15 (by decide), xbs, i10]
    rfl
  have hm := head i1 (D := cN (M 1) 0 + u) (by omega)
  have hn := head i2 (D := cN (M 1) 0 + u + d) (by omega)
  rw [r.wd] at hm
  rw [r'.wd, e0] at hn
  by_cases hu0 : u = 0
  · subst hu0
    rw [if_pos (nI_le (by omega) (by omega))] at hm
    rw [if_pos (nI_le (by omega) (by omega))] at hn
    obtain ⟨a, b, ea, eb, hab⟩ := ff_two r r' s (by omega) hl hl15 1 (nI ro) 365 (cN (M 1) 0) 100000 (by omega) (by decide) (by omega)
    exact ⟨a, b, hm.trans ea, hn.trans eb, hab⟩
  · rw [if_neg (nI_ge (by omega) (by omega))] at hm
    rw [if_neg (nI_ge (by omega) (by omega))] at hn
    obtain ⟨a, b, ea, eb, hab⟩ := ff_twoa r r' s (by omega) hl hl15 1 (nI ro) 365 (cN (M 1) 0 + u) 100000 (by omega) (by decide) (by omega)
    exact ⟨a, b, hm.trans ea, hn.trans eb, hab⟩
