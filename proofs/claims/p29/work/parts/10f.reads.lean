/-! ===== PURE 5: calls that only read ===== -/
def SmA (x y : Option Int32) : Prop := ∃ a, x = some a ∧ y = some a
theorem i10 {α : Type} (a b : α) : (if (1 : Int32) = 0 then a else b) = b := if_neg (by decide)
theorem i00 {α : Type} (a b : α) : (if (0 : Int32) = 0 then a else b) = a := if_pos rfl
theorem SmA.mk {a : Int32} : SmA (some a) (some a) := ⟨a, rfl, rfl⟩
theorem SmA.mk' {a b : Int32} (h : a = b) : SmA (some a) (some b) := ⟨a, rfl, by rw [h]⟩
theorem m_rng (lo hi : Nat) (x : Int32) {A B : Int64} (hA : A = (nI lo).toInt64) (hB : B = (nI hi).toInt64) (hl : lo < 2 ^ 31) (hh : hi < 2 ^ 31) : (∃ j, lo ≤ j ∧ j ≤ hi ∧ x = nI j ∧ f_X8_in x.toInt64 A B = some 1) ∨ ((x < nI lo ∨ nI hi < x) ∧ f_X8_in x.toInt64 A B = some 0) := by
  rw [m_in x _ _ hA hB]
  by_cases h : nI lo ≤ x ∧ x ≤ nI hi
  · have h0 : ¬ x < 0 := fun q => by
      have h1 := h.1
      rw [fa_le, nI_toInt hl] at h1
      rw [fa_lt] at q
      have e0 : (0 : Int32).toInt = 0 := by decide
      omega
    obtain ⟨j, hj, rfl⟩ := nI_of h0
    exact Or.inl ⟨j, (nI_leI hl hj).mp h.1, (nI_leI hj hh).mp h.2, rfl, by rw [if_pos h]⟩
  · refine Or.inr ⟨?_, by rw [if_neg h]⟩
    by_cases h1 : nI lo ≤ x
    · exact Or.inr (fa_of_nle (fun q => h ⟨h1, q⟩))
    · exact Or.inl (fa_of_nle h1)
theorem out_ne {x : Int32} {lo hi n : Nat} (h : x < nI lo ∨ nI hi < x) (h1 : lo ≤ n) (h2 : n ≤ hi) (hh : hi < 2 ^ 31) : ¬ x = nI n := by
  rintro rfl
  rcases h with h | h
  · exact nI_nlt h1 (by omega) h
  · exact nI_nlt h2 (by omega) h
theorem ne_lit {a b : Nat} (h : a ≠ b) (ha : a < 2 ^ 31) (hb : b < 2 ^ 31) : ¬ nI a = nI b := fun q => h ((nI_eq ha hb).mp q)
section
variable {v M : xV}
theorem s_hirer (r : RB v (M 1)) (dv : xV) (p1 p2 : Int32) : SmA (f_X7_hirer dv v p1 p2) (f_X8_hirer M p1 p2) := by
  unfold f_X7_hirer f_X8_hirer
  rcases hirer_or r p1 with ⟨j, hj, hj10, rfl, e1, e2⟩ | ⟨e1, e2⟩
  · rw [e1, xbs, e2, xbs, i10, i10]
    have x1 : xin (nI j) 10 := nI_in hj10 (by decide)
    have c1 : (20 : Int32) + 2 * nI j = nI (20 + 2 * j) := by rw [show (2 : Int32) = nI 2 from rfl, show (20 : Int32) = nI 20 from rfl, pk_mul, nI_add]
    simp only [xls, xgp x1, c1, nI_1, xgi (show 20 + 2 * j < 820 by omega) (show 820 < 2 ^ 31 by decide), xgi (show 20 + 2 * j + 1 < 820 by omega) (show 820 < 2 ^ 31 by decide), nI_clamp (show j < 2 ^ 31 by omega), nI_clamp (show 20 + 2 * j < 2 ^ 31 by omega), nI_clamp (show 20 + 2 * j + 1 < 2 ^ 31 by omega), r.ch hj10, r.pd hj10, c_hiresOf r hj10, c_plannedOf r hj10, c_keysOf r hj10, c_faultsOf r hj10, m_countHires r, xbs]
    rcases m_rng 0 6 p2 (A := 0) (B := 6) rfl rfl (by decide) (by decide) with ⟨q, h1, h2, rfl, e⟩ | ⟨h, e⟩
    · rw [e, xbs, i10]
      rcases (show q = 0 ∨ q = 1 ∨ q = 2 ∨ q = 3 ∨ q = 4 ∨ q = 5 ∨ q = 6 by omega) with rfl | rfl | rfl | rfl | rfl | rfl | rfl <;> exact SmA.mk
    · rw [e, xbs, i00]
      have n : ∀ k, k ≤ 6 → ¬ p2 = nI k := fun k hk => out_ne h (Nat.zero_le _) hk (by decide)
      rw [if_neg (show ¬ p2 = (0 : Int32) from n 0 (by decide)), if_neg (show ¬ p2 = (1 : Int32) from n 1 (by decide)), if_neg (show ¬ p2 = (2 : Int32) from n 2 (by decide)), if_neg (show ¬ p2 = (3 : Int32) from n 3 (by decide)), if_neg (show ¬ p2 = (4 : Int32) from n 4 (by decide)), if_neg (show ¬ p2 = (5 : Int32) from n 5 (by decide)), if_neg (show ¬ p2 = (6 : Int32) from n 6 (by decide))]
      exact SmA.mk
  · rw [e1, xbs, e2, xbs, i00, i00]
    exact SmA.mk
theorem dc_eq {n : Nat} (hn : n < 2 ^ 31) : f_X7_discountOf (nI n) = some (dcI n) := by
  unfold f_X7_discountOf dcI
  by_cases h : n < 4
  · rw [if_neg (show ¬ (4 : Int32) ≤ nI n from nI_ge (b := 4) h (by decide)), if_pos h]
  · rw [if_pos (show (4 : Int32) ≤ nI n from nI_le (a := 4) (by omega) hn), if_neg h]
    by_cases h2 : n < 10
    · rw [if_neg (show ¬ (10 : Int32) ≤ nI n from nI_ge (b := 10) h2 (by decide)), if_pos h2]
    · rw [if_pos (show (10 : Int32) ≤ nI n from nI_le (a := 10) (by omega) hn), if_neg h2]
theorem dc_8 (x : Int32) : f_X8_discountOf x = f_X7_discountOf x := rfl
theorem s_hireInfo (r : RB v (M 1)) (dv : xV) (p1 p2 : Int32) : SmA (f_X7_hireInfo dv v p1 p2) (f_X8_hireInfo M p1 p2) := by
  unfold f_X7_hireInfo f_X8_hireInfo
  rcases hire_or r p1 with ⟨i, hi, hi12, rfl, e1, e2⟩ | ⟨e1, e2⟩
  · have g := r.g hi
    have hv := r.h hi
    obtain ⟨⟨v1, v2, v3, v4, v5, v6, v7, v8⟩, ⟨v11, v12, v13⟩, -, -, -⟩ := hv
    rw [e1, xbs, xo_s, xgp hi12, e2, xbs, i10]
    have o : ∀ k, k < 16 → f_X8_of M (nI i) (nI k) = some (M 1 (52 + 64 * i + k)) := fun k hk => m_of (by omega)
    have h20 := g.2.2.2.2.2.2.2.1
    rcases m_rng 0 15 p2 (A := 0) (B := 15) rfl rfl (by decide) (by decide) with ⟨q, h1, h2, rfl, e⟩ | ⟨h, e⟩
    · rw [e, xbs, i10]
      unfold f_X1_property
      rw [c_keysFor r, c_planned r hi, c_bcH r hi, c_bcC r hi, v1, v2, v3, v4, v5, v6, v7, v8, v11, v12, v13, m_manyOf (s := 0) (p2 := 0) rfl (by decide) hi12 g, m_manyOf (s := 1) (p2 := 1) rfl (by decide) hi12 g, m_manyOf (s := 2) (p2 := 2) rfl (by decide) hi12 g, m_keysOf, g.1 4 (by decide), dc_eq (by omega)]
      rcases (show q = 0 ∨ q = 1 ∨ q = 2 ∨ q = 3 ∨ q = 4 ∨ q = 5 ∨ q = 6 ∨ q = 7 ∨ q = 8 ∨ q = 9 ∨ q = 10 ∨ q = 11 ∨ q = 12 ∨ q = 13 ∨ q = 14 ∨ q = 15 by omega) with rfl | rfl | rfl | rfl | rfl | rfl | rfl | rfl | rfl | rfl | rfl | rfl | rfl | rfl | rfl | rfl
      · show SmA (some (M 1 (52 + 64 * i + 0))) (xb (f_X8_of M (nI i) (nI 0)) _)
        rw [o 0 (by decide)]; exact SmA.mk
      · show SmA (some (M 1 (52 + 64 * i + 1))) (xb (f_X8_of M (nI i) (nI 1)) _)
        rw [o 1 (by decide)]; exact SmA.mk
      · show SmA (some (M 1 (52 + 64 * i + 2))) (xb (f_X8_of M (nI i) (nI 2)) _)
        rw [o 2 (by decide)]; exact SmA.mk
      · show SmA (some (M 1 (52 + 64 * i + 3))) (xb (f_X8_of M (nI i) (nI 3)) _)
        rw [o 3 (by decide)]; exact SmA.mk
      · show SmA (some (nI (hN (M 1) i 4))) (xb (f_X8_of M (nI i) (nI 4)) _)
        rw [o 4 (by decide)]; exact SmA.mk' (g.1 4 (by decide)).symm
      · show SmA (some (M 1 (52 + 64 * i + 5))) (xb (f_X8_of M (nI i) (nI 5)) _)
        rw [o 5 (by decide)]; exact SmA.mk
      · show SmA (some (M 1 (52 + 64 * i + 6))) (xb (f_X8_of M (nI i) (nI 6)) _)
        rw [o 6 (by decide)]; exact SmA.mk
      · show SmA (some (M 1 (52 + 64 * i + 7))) (xb (f_X8_of M (nI i) (nI 7)) _)
        rw [o 7 (by decide)]; exact SmA.mk
      · show SmA (some (dcI (hN (M 1) i 4))) (xb (f_X8_of M (nI i) (nI 8)) _)
        rw [o 8 (by decide)]; exact SmA.mk' (g.2.2.2.2.2.2.2.2.2.2.2.1).symm
      · exact SmA.mk
      · exact SmA.mk
      · exact SmA.mk
      · show SmA (some (M 1 (52 + 64 * i + 9))) (xb (f_X8_of M (nI i) (nI 9)) _)
        rw [o 9 (by decide)]; exact SmA.mk
      · show SmA (some (M 1 (52 + 64 * i + 11))) (xb (f_X8_of M (nI i) (nI 11)) _)
        rw [o 11 (by decide)]; exact SmA.mk
      · exact SmA.mk
      · rcases g.2.2.2.2.2.2.2.2.2.2.2.2.2.2.1 with q | q
        · rw [q]
          show SmA (some 0) (xb (f_X8_of M (nI i) (nI 10)) _)
          rw [o 10 (by decide), q]
          exact SmA.mk
        · rw [q]
          show SmA (some 1) (xb (f_X8_of M (nI i) (nI 10)) _)
          rw [o 10 (by decide), q]
          exact SmA.mk
    · rw [e, xbs, i00]
      have n : ∀ k, k ≤ 15 → ¬ p2 = nI k := fun k hk => out_ne h (Nat.zero_le _) hk (by decide)
      unfold f_X1_property
      rw [if_neg (show ¬ p2 = (14 : Int32) from n 14 (by decide)), if_neg (show ¬ p2 = (0 : Int32) from n 0 (by decide)), if_neg (show ¬ p2 = (1 : Int32) from n 1 (by decide)), if_neg (show ¬ p2 = (2 : Int32) from n 2 (by decide)), if_neg (show ¬ p2 = (3 : Int32) from n 3 (by decide)), if_neg (show ¬ p2 = (4 : Int32) from n 4 (by decide)), if_neg (show ¬ p2 = (5 : Int32) from n 5 (by decide)), if_neg (show ¬ p2 = (6 : Int32) from n 6 (by decide)), if_neg (show ¬ p2 = (7 : Int32) from n 7 (by decide)), if_neg (show ¬ p2 = (8 : Int32) from n 8 (by decide)), if_neg (show ¬ p2 = (9 : Int32) from n 9 (by decide)), if_neg (show ¬ p2 = (10 : Int32) from n 10 (by decide)), if_neg (show ¬ p2 = (11 : Int32) from n 11 (by decide)), if_neg (show ¬ p2 = (12 : Int32) from n 12 (by decide)), if_neg (show ¬ p2 = (13 : Int32) from n 13 (by decide)), if_neg (show ¬ p2 = (14 : Int32) from n 14 (by decide)), if_neg (show ¬ p2 = (15 : Int32) from n 15 (by decide))]
      exact SmA.mk
  · rw [e1, xbs, xo_n, e2, xbs, i00]
    exact SmA.mk
theorem s_session (r : RB v (M 1)) (dv : xV) (p1 p2 : Int32) : SmA (f_X7_session dv v p1 p2) (f_X8_session M p1 p2) := by
  unfold f_X7_session f_X8_session
  rcases sess_or r p1 with ⟨i, k, hi, hi12, hk, hk20, rfl, e1, e2⟩ | ⟨e1, e2⟩
  · have g := r.g hi
    have gk := g.2.2.2.2.2.2.2.2.2.2.2.2.2.2.2.2.2 k hk
    rw [e1, xbs, xo_s, xgp hi12, e2, xbs, i10, xls, nn_rem (by omega), show (20 * i + k) % 20 = k by omega]
    rw [c_dayOf r hi, c_stateOf r hi hk, c_shareOf r hi, c_refundOf r hi, m_dayOf hi12 hk20 g, m_stateOf hi12 hk20, gk.1, m_shareOf hi12 hk20 g, m_refundOf hi12 hk20 g]
    simp only [xbs]
    rcases m_rng 0 3 p2 (A := 0) (B := 3) rfl rfl (by decide) (by decide) with ⟨q, h1, h2, rfl, e⟩ | ⟨h, e⟩
    · rw [e, xbs, i10]
      rcases (show q = 0 ∨ q = 1 ∨ q = 2 ∨ q = 3 by omega) with rfl | rfl | rfl | rfl
      · exact SmA.mk
      · exact SmA.mk
      · exact SmA.mk
      · show SmA (if nI (hN (M 1) i (12 + k)) = 0 then _ else _) (if nI (hN (M 1) i (12 + k)) = 0 then _ else _)
        split <;> exact SmA.mk
    · rw [e, xbs, i00]
      have n : ∀ k, k ≤ 3 → ¬ p2 = nI k := fun k hk => out_ne h (Nat.zero_le _) hk (by decide)
      rw [if_neg (show ¬ p2 = (0 : Int32) from n 0 (by decide)), if_neg (show ¬ p2 = (1 : Int32) from n 1 (by decide)), if_neg (show ¬ p2 = (2 : Int32) from n 2 (by decide)), if_neg (show ¬ p2 = (3 : Int32) from n 3 (by decide))]
      exact SmA.mk
  · rw [e1, xbs, xo_n, e2, xbs, i00]
    exact SmA.mk
theorem s_key (r : RB v (M 1)) (dv : xV) (p1 p2 : Int32) : SmA (f_X7_key dv v p1 p2) (f_X8_key M p1 p2) := by
  unfold f_X7_key f_X8_key
  rcases key_or v p1 with ⟨j, hj, rfl, e1, e2⟩ | ⟨e1, e2⟩
  · have c1 : (40 : Int32) + 2 * nI j = nI (40 + 2 * j) := by rw [show (2 : Int32) = nI 2 from rfl, show (40 : Int32) = nI 40 from rfl, pk_mul, nI_add]
    rw [e1, xbs, xo_s, xgp hj, e2, xbs, i10, c1, nI_1, xgi (show 40 + 2 * j < 820 by omega) (by decide), xgi (show 40 + 2 * j + 1 < 820 by omega) (by decide), nI_clamp (show 40 + 2 * j < 2 ^ 31 by omega), nI_clamp (show 40 + 2 * j + 1 < 2 ^ 31 by omega), xls, show nI j - nI j / 3 * 3 = nI (j % 3) from pk_rem (by omega) (by decide) (by decide), r.room hj, r.key hj, daysL r hj, m_lateBy hj]
    simp only [xbs]
    rcases m_rng 0 4 p2 (A := 0) (B := 4) rfl rfl (by decide) (by decide) with ⟨q, h1, h2, rfl, e⟩ | ⟨h, e⟩
    · rw [e, xbs, i10, if_neg (nI_pos (by omega)), if_pos (show nI q ≤ (4 : Int32) from nI_le (b := 4) h2 (by decide))]
      rcases r.gk hj with hk | ⟨i, due, hi, hdue, hk, hd⟩
      · rw [hk, c_hireAt_out r (Or.inl (by decide)), xbs, xo_n, if_pos rfl]
        split <;> exact SmA.mk
      · have h12 := r.m12
        have gi := r.g hi
        have hne : ¬ nI i = -1 := fun z => nI_m1 (j := i) (by omega) z.symm
        have hdue2 := r.due hj (by rw [hk]; exact hne)
        rw [hk, c_hireAt_in r hi, xbs, xo_s, xgp (show i < 12 by omega), (r.h hi).1.1, r.num (show i < 12 by omega), hdue2, show f_X8_of M (nI i) 0 = some (M 1 (52 + 64 * i + 0)) from m_of (k := 0) (by omega), xbs]
        simp only [if_neg hne]
        rcases (show q = 0 ∨ q = 1 ∨ q = 2 ∨ q = 3 ∨ q = 4 by omega) with rfl | rfl | rfl | rfl | rfl
        · exact SmA.mk
        · exact SmA.mk
        · exact SmA.mk
        · exact SmA.mk
        · exact SmA.mk
    · rw [e, xbs, i00]
      rcases h with h | h
      · rw [if_pos (show p2 < (0 : Int32) from h)]
        exact SmA.mk
      · by_cases h0 : p2 < 0
        · rw [if_pos h0]
          exact SmA.mk
        · rw [if_neg h0, if_neg (show ¬ p2 ≤ (4 : Int32) from (fa_of_lt h).2.1)]
          exact SmA.mk
  · rw [e1, xbs, xo_n, e2, xbs, i00]
    exact SmA.mk
theorem s_fault (r : RB v (M 1)) (dv : xV) (p1 p2 p3 : Int32) : SmA (f_X7_fault dv v p1 p2 p3) (f_X8_fault M p1 p2 p3) := by
  unfold f_X7_fault f_X8_fault
  rcases hire_or r p1 with ⟨i, hi, hi12, rfl, e1, e2⟩ | ⟨e1, e2⟩
  · have g := r.g hi
    obtain ⟨-, ⟨-, v12, -⟩, -, -, vf⟩ := r.h hi
    have g11 := g.2.2.2.2.2.2.2.2.2.2.2.2.2.2.2.1
    have g8 := g.2.2.2.2.2.2.2.2.2.2.2.2.2.2.2.2.1
    rw [e1, xbs, xo_s, xgp hi12, e2, xbs, i10]
    by_cases h0 : p2 < 0
    · rw [if_pos h0, if_pos h0]
      exact SmA.mk
    · obtain ⟨n, hn, rfl⟩ := nI_of h0
      rw [if_neg h0, if_neg h0]
      rcases m_rng 0 3 p3 (A := 0) (B := 3) rfl rfl (by decide) (by decide) with ⟨q, h1, h2, rfl, e⟩ | ⟨h, e⟩
      · rw [e, xbs, i10, if_neg (nI_pos (by omega)), if_pos (show nI q < (4 : Int32) from nI_lt (b := 4) (by omega) (by decide)), show f_X8_of M (nI i) 11 = some (M 1 (52 + 64 * i + 11)) from m_of (k := 11) (by omega), xbs, g11]
        unfold f_X1_faultProperty
        rw [if_neg h0, v12, g11]
        by_cases hf : hN (M 1) i 11 ≤ n
        · rw [if_pos (nI_le hf hn), if_pos (nI_le hf hn), xbs]
          exact SmA.mk
        · rw [if_neg (nI_ge (by omega) (by omega)), if_neg (nI_ge (by omega) (by omega)), if_neg (show ¬ (8 : Int32) ≤ nI n from nI_ge (b := 8) (by omega) (by decide)), if_neg (nI_pos (by omega)), if_pos (show nI q < (4 : Int32) from nI_lt (b := 4) (by omega) (by decide))]
          rw [show (4 : Int32) = nI 4 from rfl, show (32 : Int32) = nI 32 from rfl, pk_mul, pk_mul, nI_add, nI_add, nI_add, xgi (by omega) (by decide), nI_clamp (by omega), m_of (by omega), vf _ (by omega), xbs, xbs]
          exact SmA.mk' (by congr 1; omega)
      · rw [e, xbs, i00]
        by_cases h3 : p3 < 0
        · rw [if_pos h3]
          exact SmA.mk
        · rw [if_neg h3, if_neg]
          · exact SmA.mk
          · rcases h with h | h
            · exact absurd h h3
            · rw [fa_lt] at h ⊢
              have e3 : (nI 3).toInt = 3 := rfl
              have e4 : (4 : Int32).toInt = 4 := by decide
              omega
  · rw [e1, xbs, xo_n, e2, xbs, i00]
    exact SmA.mk
theorem s_count (r : RB v (M 1)) {hv tv : xV} (hh : hv 0 1 = M 0 3) (ht : tv 0 1 = M 0 6) (dv : xV) (p1 : Int32) : SmA (f_X7_count dv v hv tv p1) (f_X8_count M p1) := by
  unfold f_X7_count f_X8_count f_X7_settingOrAccount
  obtain ⟨r0, r1, r2⟩ := r.2.2.1
  rw [c_notCancelled r, c_keysFor r, c_lateKeys r, c_roomHours r, m_countSessions0 r, m_countSessions1 r, m_countKeys0, m_countKeys1, r0, r1, r2, hh, ht]
  simp only [xbs]
  rcases m_rng 10 17 p1 (A := 10) (B := 17) rfl rfl (by decide) (by decide) with ⟨q, h1, h2, rfl, e⟩ | ⟨h, e⟩
  · have n : ∀ k, k < 10 → ¬ nI q = nI k := fun k hk => ne_lit (by omega) (by omega) (by omega)
    rw [e, xbs, i10, if_neg (show ¬ nI q = (0 : Int32) from n 0 (by decide)), if_neg (show ¬ nI q = (1 : Int32) from n 1 (by decide)), if_neg (show ¬ nI q = (2 : Int32) from n 2 (by decide)), if_neg (show ¬ nI q = (3 : Int32) from n 3 (by decide)), if_neg (show ¬ nI q = (4 : Int32) from n 4 (by decide)), if_neg (show ¬ nI q = (5 : Int32) from n 5 (by decide)), if_neg (show ¬ nI q = (6 : Int32) from n 6 (by decide)), if_neg (show ¬ nI q = (7 : Int32) from n 7 (by decide)), if_neg (show ¬ nI q = (8 : Int32) from n 8 (by decide)), if_neg (show ¬ nI q < (10 : Int32) from nI_nlt (b := 10) h1 (by omega)), if_neg (show ¬ (18 : Int32) ≤ nI q from nI_ge (b := 18) (by omega) (by decide))]
    rw [show (1 : Int32) + nI q - 10 = nI (q - 9) by rw [show (1 : Int32) = nI 1 from rfl, nI_add, show (10 : Int32) = nI 10 from rfl, pk_sub (by omega)]; congr 1; omega, show nI q - 10 = nI (q - 10) from pk_sub (b := 10) h1, xgi (by omega) (by decide), xgi (by omega) (by decide), nI_clamp (by omega), nI_clamp (by omega), r.set (by omega), xbs]
    exact SmA.mk' (by congr 1; omega)
  · rw [e, xbs, i00]
    rcases m_rng 20 28 p1 (A := 20) (B := 28) rfl rfl (by decide) (by decide) with ⟨q, h1, h2, rfl, e⟩ | ⟨h', e⟩
    · have n : ∀ k, k < 10 → ¬ nI q = nI k := fun k hk => ne_lit (by omega) (by omega) (by omega)
      rw [e, xbs, i10, if_neg (show ¬ nI q = (0 : Int32) from n 0 (by decide)), if_neg (show ¬ nI q = (1 : Int32) from n 1 (by decide)), if_neg (show ¬ nI q = (2 : Int32) from n 2 (by decide)), if_neg (show ¬ nI q = (3 : Int32) from n 3 (by decide)), if_neg (show ¬ nI q = (4 : Int32) from n 4 (by decide)), if_neg (show ¬ nI q = (5 : Int32) from n 5 (by decide)), if_neg (show ¬ nI q = (6 : Int32) from n 6 (by decide)), if_neg (show ¬ nI q = (7 : Int32) from n 7 (by decide)), if_neg (show ¬ nI q = (8 : Int32) from n 8 (by decide)), if_neg (show ¬ nI q < (10 : Int32) from nI_nlt (b := 10) (by omega) (by omega)), if_pos (show (18 : Int32) ≤ nI q from nI_le (a := 18) (by omega) (by omega)), if_neg (show ¬ nI q < (20 : Int32) from nI_nlt (b := 20) (by omega) (by omega)), if_neg (show ¬ (29 : Int32) ≤ nI q from nI_ge (b := 29) (by omega) (by decide))]
      rw [show (11 : Int32) + nI q - 20 = nI (q - 9) by rw [show (11 : Int32) = nI 11 from rfl, nI_add, show (20 : Int32) = nI 20 from rfl, pk_sub (by omega)]; congr 1; omega, show nI q - 20 = nI (q - 20) from pk_sub (b := 20) h1, xgi (by omega) (by decide), xgi (by omega) (by decide), nI_clamp (by omega), nI_clamp (by omega), r.acc (by omega), xbs]
      exact SmA.mk' (by congr 1; omega)
    · rw [e, xbs, i00]
      by_cases c : ∃ k, k < 9 ∧ p1 = nI k
      · obtain ⟨k, hk, rfl⟩ := c
        rcases (show k = 0 ∨ k = 1 ∨ k = 2 ∨ k = 3 ∨ k = 4 ∨ k = 5 ∨ k = 6 ∨ k = 7 ∨ k = 8 by omega) with rfl | rfl | rfl | rfl | rfl | rfl | rfl | rfl | rfl <;> exact SmA.mk
      · have n : ∀ k, k < 9 → ¬ p1 = nI k := fun k hk q => c ⟨k, hk, q⟩
        rw [if_neg (show ¬ p1 = (0 : Int32) from n 0 (by decide)), if_neg (show ¬ p1 = (1 : Int32) from n 1 (by decide)), if_neg (show ¬ p1 = (2 : Int32) from n 2 (by decide)), if_neg (show ¬ p1 = (3 : Int32) from n 3 (by decide)), if_neg (show ¬ p1 = (4 : Int32) from n 4 (by decide)), if_neg (show ¬ p1 = (5 : Int32) from n 5 (by decide)), if_neg (show ¬ p1 = (6 : Int32) from n 6 (by decide)), if_neg (show ¬ p1 = (7 : Int32) from n 7 (by decide)), if_neg (show ¬ p1 = (8 : Int32) from n 8 (by decide)), if_neg (show ¬ p1 = (0 : Int32) from n 0 (by decide)), if_neg (show ¬ p1 = (1 : Int32) from n 1 (by decide)), if_neg (show ¬ p1 = (2 : Int32) from n 2 (by decide)), if_neg (show ¬ p1 = (3 : Int32) from n 3 (by decide)), if_neg (show ¬ p1 = (4 : Int32) from n 4 (by decide)), if_neg (show ¬ p1 = (5 : Int32) from n 5 (by decide)), if_neg (show ¬ p1 = (6 : Int32) from n 6 (by decide)), if_neg (show ¬ p1 = (7 : Int32) from n 7 (by decide)), if_neg (show ¬ p1 = (8 : Int32) from n 8 (by decide))]
        have e10 : (nI 10).toInt = 10 := rfl
        have e17 : (nI 17).toInt = 17 := rfl
        have e20 : (nI 20).toInt = 20 := rfl
        have e28 : (nI 28).toInt = 28 := rfl
        have f10 : (10 : Int32).toInt = 10 := by decide
        have f18 : (18 : Int32).toInt = 18 := by decide
        have f20 : (20 : Int32).toInt = 20 := by decide
        have f29 : (29 : Int32).toInt = 29 := by decide
        simp only [fa_lt, fa_le] at h h' ⊢
        have k1 : ¬ (¬ p1.toInt < (10 : Int32).toInt ∧ ¬ (18 : Int32).toInt ≤ p1.toInt) := by omega
        have k2 : p1.toInt < (20 : Int32).toInt ∨ (29 : Int32).toInt ≤ p1.toInt := by omega
        by_cases k3 : p1.toInt < (10 : Int32).toInt
        · rw [if_pos k3, if_pos (by omega)]
          exact SmA.mk
        · rw [if_neg k3, if_pos (by omega)]
          by_cases k4 : p1.toInt < (20 : Int32).toInt
          · rw [if_pos k4]
            exact SmA.mk
          · rw [if_neg k4, if_pos (by omega)]
            exact SmA.mk
end
