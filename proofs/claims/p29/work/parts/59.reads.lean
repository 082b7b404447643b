/-! ===== PURE p29, 10: what the reading calls answer ===== -/
theorem cnt_1 (M : xV) : f_X8_count M 1 = some (M 1 9) := by
  unfold f_X8_count
  rw [show f_X8_in (1 : Int32).toInt64 10 17 = some 0 by decide +kernel, xbs, i00, show f_X8_in (1 : Int32).toInt64 20 28 = some 0 by decide +kernel, xbs, i00, if_neg (by decide), if_pos rfl]
theorem cnt_3 (M : xV) : f_X8_count M 3 = f_X8_countSessions M 0 := by
  unfold f_X8_count
  rw [show f_X8_in (3 : Int32).toInt64 10 17 = some 0 by decide +kernel, xbs, i00, show f_X8_in (3 : Int32).toInt64 20 28 = some 0 by decide +kernel, xbs, i00, if_neg (by decide), if_neg (by decide), if_neg (by decide), if_pos rfl, xb_id]
theorem cnt_4 (M : xV) : f_X8_count M 4 = f_X8_countKeys M 0 := by
  unfold f_X8_count
  rw [show f_X8_in (4 : Int32).toInt64 10 17 = some 0 by decide +kernel, xbs, i00, show f_X8_in (4 : Int32).toInt64 20 28 = some 0 by decide +kernel, xbs, i00, if_neg (by decide), if_neg (by decide), if_neg (by decide), if_neg (by decide), if_pos rfl, xb_id]
theorem cnt_5 (M : xV) : f_X8_count M 5 = f_X8_countKeys M 1 := by
  unfold f_X8_count
  rw [show f_X8_in (5 : Int32).toInt64 10 17 = some 0 by decide +kernel, xbs, i00, show f_X8_in (5 : Int32).toInt64 20 28 = some 0 by decide +kernel, xbs, i00, if_neg (by decide), if_neg (by decide), if_neg (by decide), if_neg (by decide), if_neg (by decide), if_pos rfl, xb_id]
theorem cnt_6 (M : xV) : f_X8_count M 6 = f_X8_countSessions M 1 := by
  unfold f_X8_count
  rw [show f_X8_in (6 : Int32).toInt64 10 17 = some 0 by decide +kernel, xbs, i00, show f_X8_in (6 : Int32).toInt64 20 28 = some 0 by decide +kernel, xbs, i00, if_neg (by decide), if_neg (by decide), if_neg (by decide), if_neg (by decide), if_neg (by decide), if_neg (by decide), if_pos rfl, xb_id]
theorem cnt_8 (M : xV) : f_X8_count M 8 = some (M 0 6) := by
  unfold f_X8_count
  rw [show f_X8_in (8 : Int32).toInt64 10 17 = some 0 by decide +kernel, xbs, i00, show f_X8_in (8 : Int32).toInt64 20 28 = some 0 by decide +kernel, xbs, i00, if_neg (by decide), if_neg (by decide), if_neg (by decide), if_neg (by decide), if_neg (by decide), if_neg (by decide), if_neg (by decide), if_neg (by decide), if_pos rfl]
theorem cnt_10 (M : xV) : f_X8_count M 10 = some (M 1 1) := by
  unfold f_X8_count
  rw [show f_X8_in (10 : Int32).toInt64 10 17 = some 1 by decide +kernel, xbs, i10, xgp (by decide +kernel)]
  exact congrArg (fun c => some (M 1 c)) (by decide +kernel)
theorem cnt_11 (M : xV) : f_X8_count M 11 = some (M 1 2) := by
  unfold f_X8_count
  rw [show f_X8_in (11 : Int32).toInt64 10 17 = some 1 by decide +kernel, xbs, i10, xgp (by decide +kernel)]
  exact congrArg (fun c => some (M 1 c)) (by decide +kernel)
theorem cnt_12 (M : xV) : f_X8_count M 12 = some (M 1 3) := by
  unfold f_X8_count
  rw [show f_X8_in (12 : Int32).toInt64 10 17 = some 1 by decide +kernel, xbs, i10, xgp (by decide +kernel)]
  exact congrArg (fun c => some (M 1 c)) (by decide +kernel)
theorem cnt_13 (M : xV) : f_X8_count M 13 = some (M 1 4) := by
  unfold f_X8_count
  rw [show f_X8_in (13 : Int32).toInt64 10 17 = some 1 by decide +kernel, xbs, i10, xgp (by decide +kernel)]
  exact congrArg (fun c => some (M 1 c)) (by decide +kernel)
theorem cnt_14 (M : xV) : f_X8_count M 14 = some (M 1 5) := by
  unfold f_X8_count
  rw [show f_X8_in (14 : Int32).toInt64 10 17 = some 1 by decide +kernel, xbs, i10, xgp (by decide +kernel)]
  exact congrArg (fun c => some (M 1 c)) (by decide +kernel)
theorem cnt_15 (M : xV) : f_X8_count M 15 = some (M 1 6) := by
  unfold f_X8_count
  rw [show f_X8_in (15 : Int32).toInt64 10 17 = some 1 by decide +kernel, xbs, i10, xgp (by decide +kernel)]
  exact congrArg (fun c => some (M 1 c)) (by decide +kernel)
theorem cnt_16 (M : xV) : f_X8_count M 16 = some (M 1 7) := by
  unfold f_X8_count
  rw [show f_X8_in (16 : Int32).toInt64 10 17 = some 1 by decide +kernel, xbs, i10, xgp (by decide +kernel)]
  exact congrArg (fun c => some (M 1 c)) (by decide +kernel)
theorem cnt_17 (M : xV) : f_X8_count M 17 = some (M 1 8) := by
  unfold f_X8_count
  rw [show f_X8_in (17 : Int32).toInt64 10 17 = some 1 by decide +kernel, xbs, i10, xgp (by decide +kernel)]
  exact congrArg (fun c => some (M 1 c)) (by decide +kernel)
theorem cnt_20 (M : xV) : f_X8_count M 20 = some (M 1 11) := by
  unfold f_X8_count
  rw [show f_X8_in (20 : Int32).toInt64 10 17 = some 0 by decide +kernel, xbs, i00, show f_X8_in (20 : Int32).toInt64 20 28 = some 1 by decide +kernel, xbs, i10, xgp (by decide +kernel)]
  exact congrArg (fun c => some (M 1 c)) (by decide +kernel)
theorem cnt_21 (M : xV) : f_X8_count M 21 = some (M 1 12) := by
  unfold f_X8_count
  rw [show f_X8_in (21 : Int32).toInt64 10 17 = some 0 by decide +kernel, xbs, i00, show f_X8_in (21 : Int32).toInt64 20 28 = some 1 by decide +kernel, xbs, i10, xgp (by decide +kernel)]
  exact congrArg (fun c => some (M 1 c)) (by decide +kernel)
theorem cnt_22 (M : xV) : f_X8_count M 22 = some (M 1 13) := by
  unfold f_X8_count
  rw [show f_X8_in (22 : Int32).toInt64 10 17 = some 0 by decide +kernel, xbs, i00, show f_X8_in (22 : Int32).toInt64 20 28 = some 1 by decide +kernel, xbs, i10, xgp (by decide +kernel)]
  exact congrArg (fun c => some (M 1 c)) (by decide +kernel)
theorem cnt_23 (M : xV) : f_X8_count M 23 = some (M 1 14) := by
  unfold f_X8_count
  rw [show f_X8_in (23 : Int32).toInt64 10 17 = some 0 by decide +kernel, xbs, i00, show f_X8_in (23 : Int32).toInt64 20 28 = some 1 by decide +kernel, xbs, i10, xgp (by decide +kernel)]
  exact congrArg (fun c => some (M 1 c)) (by decide +kernel)
theorem cnt_24 (M : xV) : f_X8_count M 24 = some (M 1 15) := by
  unfold f_X8_count
  rw [show f_X8_in (24 : Int32).toInt64 10 17 = some 0 by decide +kernel, xbs, i00, show f_X8_in (24 : Int32).toInt64 20 28 = some 1 by decide +kernel, xbs, i10, xgp (by decide +kernel)]
  exact congrArg (fun c => some (M 1 c)) (by decide +kernel)
theorem cnt_25 (M : xV) : f_X8_count M 25 = some (M 1 16) := by
  unfold f_X8_count
  rw [show f_X8_in (25 : Int32).toInt64 10 17 = some 0 by decide +kernel, xbs, i00, show f_X8_in (25 : Int32).toInt64 20 28 = some 1 by decide +kernel, xbs, i10, xgp (by decide +kernel)]
  exact congrArg (fun c => some (M 1 c)) (by decide +kernel)
theorem cnt_26 (M : xV) : f_X8_count M 26 = some (M 1 17) := by
  unfold f_X8_count
  rw [show f_X8_in (26 : Int32).toInt64 10 17 = some 0 by decide +kernel, xbs, i00, show f_X8_in (26 : Int32).toInt64 20 28 = some 1 by decide +kernel, xbs, i10, xgp (by decide +kernel)]
  exact congrArg (fun c => some (M 1 c)) (by decide +kernel)
theorem cnt_27 (M : xV) : f_X8_count M 27 = some (M 1 18) := by
  unfold f_X8_count
  rw [show f_X8_in (27 : Int32).toInt64 10 17 = some 0 by decide +kernel, xbs, i00, show f_X8_in (27 : Int32).toInt64 20 28 = some 1 by decide +kernel, xbs, i10, xgp (by decide +kernel)]
  exact congrArg (fun c => some (M 1 c)) (by decide +kernel)
theorem cnt_28 (M : xV) : f_X8_count M 28 = some (M 1 19) := by
  unfold f_X8_count
  rw [show f_X8_in (28 : Int32).toInt64 10 17 = some 0 by decide +kernel, xbs, i00, show f_X8_in (28 : Int32).toInt64 20 28 = some 1 by decide +kernel, xbs, i10, xgp (by decide +kernel)]
  exact congrArg (fun c => some (M 1 c)) (by decide +kernel)
theorem cnt_9 (M : xV) : f_X8_count M 9 = some (-2000000001) := by
  unfold f_X8_count
  rw [show f_X8_in (9 : Int32).toInt64 10 17 = some 0 by decide +kernel, xbs, i00, show f_X8_in (9 : Int32).toInt64 20 28 = some 0 by decide +kernel, xbs, i00, if_neg (by decide), if_neg (by decide), if_neg (by decide), if_neg (by decide), if_neg (by decide), if_neg (by decide), if_neg (by decide), if_neg (by decide), if_neg (by decide)]
theorem cnt_18 (M : xV) : f_X8_count M 18 = some (-2000000001) := by
  unfold f_X8_count
  rw [show f_X8_in (18 : Int32).toInt64 10 17 = some 0 by decide +kernel, xbs, i00, show f_X8_in (18 : Int32).toInt64 20 28 = some 0 by decide +kernel, xbs, i00, if_neg (by decide), if_neg (by decide), if_neg (by decide), if_neg (by decide), if_neg (by decide), if_neg (by decide), if_neg (by decide), if_neg (by decide), if_neg (by decide)]
theorem cnt_19 (M : xV) : f_X8_count M 19 = some (-2000000001) := by
  unfold f_X8_count
  rw [show f_X8_in (19 : Int32).toInt64 10 17 = some 0 by decide +kernel, xbs, i00, show f_X8_in (19 : Int32).toInt64 20 28 = some 0 by decide +kernel, xbs, i00, if_neg (by decide), if_neg (by decide), if_neg (by decide), if_neg (by decide), if_neg (by decide), if_neg (by decide), if_neg (by decide), if_neg (by decide), if_neg (by decide)]
section
variable {v M : xV}
theorem hr_0 (r : RB v (M 1)) {b : Nat} (hb : b < cN (M 1) 9) : f_X8_hirer M (nI b) 0 = some (M 1 (20 + 2 * b)) := by
  have h10 := r.h10
  have c1 : (20 : Int32) + 2 * nI b = nI (20 + 2 * b) := by rw [show (2 : Int32) = nI 2 from rfl, show (20 : Int32) = nI 20 from rfl, pk_mul, nI_add]
  unfold f_X8_hirer
  rw [hirer_ok r hb, xbs, i10, show f_X8_in (0 : Int32).toInt64 0 6 = some 1 by decide +kernel, xbs, i10]
  simp only [c1, nI_1, xgi (show 20 + 2 * b < 820 by omega) (show 820 < 2 ^ 31 by decide), xgi (show 20 + 2 * b + 1 < 820 by omega) (show 820 < 2 ^ 31 by decide), nI_clamp (show 20 + 2 * b < 2 ^ 31 by omega), nI_clamp (show 20 + 2 * b + 1 < 2 ^ 31 by omega), xls]
  rw [if_pos trivial]
theorem hr_1 (r : RB v (M 1)) {b : Nat} (hb : b < cN (M 1) 9) : f_X8_hirer M (nI b) 1 = some (M 1 (20 + 2 * b + 1)) := by
  have h10 := r.h10
  have c1 : (20 : Int32) + 2 * nI b = nI (20 + 2 * b) := by rw [show (2 : Int32) = nI 2 from rfl, show (20 : Int32) = nI 20 from rfl, pk_mul, nI_add]
  unfold f_X8_hirer
  rw [hirer_ok r hb, xbs, i10, show f_X8_in (1 : Int32).toInt64 0 6 = some 1 by decide +kernel, xbs, i10]
  simp only [c1, nI_1, xgi (show 20 + 2 * b < 820 by omega) (show 820 < 2 ^ 31 by decide), xgi (show 20 + 2 * b + 1 < 820 by omega) (show 820 < 2 ^ 31 by decide), nI_clamp (show 20 + 2 * b < 2 ^ 31 by omega), nI_clamp (show 20 + 2 * b + 1 < 2 ^ 31 by omega), xls]
  rw [if_neg (by decide), if_pos trivial]
theorem hr_2 (r : RB v (M 1)) {b : Nat} (hb : b < cN (M 1) 9) : f_X8_hirer M (nI b) 2 = some (M 1 (20 + 2 * b) - M 1 (20 + 2 * b + 1)) := by
  have h10 := r.h10
  have c1 : (20 : Int32) + 2 * nI b = nI (20 + 2 * b) := by rw [show (2 : Int32) = nI 2 from rfl, show (20 : Int32) = nI 20 from rfl, pk_mul, nI_add]
  unfold f_X8_hirer
  rw [hirer_ok r hb, xbs, i10, show f_X8_in (2 : Int32).toInt64 0 6 = some 1 by decide +kernel, xbs, i10]
  simp only [c1, nI_1, xgi (show 20 + 2 * b < 820 by omega) (show 820 < 2 ^ 31 by decide), xgi (show 20 + 2 * b + 1 < 820 by omega) (show 820 < 2 ^ 31 by decide), nI_clamp (show 20 + 2 * b < 2 ^ 31 by omega), nI_clamp (show 20 + 2 * b + 1 < 2 ^ 31 by omega), xls]
  rw [if_neg (by decide), if_neg (by decide), if_pos trivial]
theorem hr_3 (r : RB v (M 1)) {b : Nat} (hb : b < cN (M 1) 9) : f_X8_hirer M (nI b) 3 = f_X8_countHires M (nI b) 3 := by
  have h10 := r.h10
  have c1 : (20 : Int32) + 2 * nI b = nI (20 + 2 * b) := by rw [show (2 : Int32) = nI 2 from rfl, show (20 : Int32) = nI 20 from rfl, pk_mul, nI_add]
  unfold f_X8_hirer
  rw [hirer_ok r hb, xbs, i10, show f_X8_in (3 : Int32).toInt64 0 6 = some 1 by decide +kernel, xbs, i10]
  simp only [c1, nI_1, xgi (show 20 + 2 * b < 820 by omega) (show 820 < 2 ^ 31 by decide), xgi (show 20 + 2 * b + 1 < 820 by omega) (show 820 < 2 ^ 31 by decide), nI_clamp (show 20 + 2 * b < 2 ^ 31 by omega), nI_clamp (show 20 + 2 * b + 1 < 2 ^ 31 by omega), xls]
  rw [if_neg (by decide), if_neg (by decide), if_neg (by decide), xb_id]
theorem hr_4 (r : RB v (M 1)) {b : Nat} (hb : b < cN (M 1) 9) : f_X8_hirer M (nI b) 4 = f_X8_countHires M (nI b) 4 := by
  have h10 := r.h10
  have c1 : (20 : Int32) + 2 * nI b = nI (20 + 2 * b) := by rw [show (2 : Int32) = nI 2 from rfl, show (20 : Int32) = nI 20 from rfl, pk_mul, nI_add]
  unfold f_X8_hirer
  rw [hirer_ok r hb, xbs, i10, show f_X8_in (4 : Int32).toInt64 0 6 = some 1 by decide +kernel, xbs, i10]
  simp only [c1, nI_1, xgi (show 20 + 2 * b < 820 by omega) (show 820 < 2 ^ 31 by decide), xgi (show 20 + 2 * b + 1 < 820 by omega) (show 820 < 2 ^ 31 by decide), nI_clamp (show 20 + 2 * b < 2 ^ 31 by omega), nI_clamp (show 20 + 2 * b + 1 < 2 ^ 31 by omega), xls]
  rw [if_neg (by decide), if_neg (by decide), if_neg (by decide), xb_id]
theorem hr_5 (r : RB v (M 1)) {b : Nat} (hb : b < cN (M 1) 9) : f_X8_hirer M (nI b) 5 = f_X8_countHires M (nI b) 5 := by
  have h10 := r.h10
  have c1 : (20 : Int32) + 2 * nI b = nI (20 + 2 * b) := by rw [show (2 : Int32) = nI 2 from rfl, show (20 : Int32) = nI 20 from rfl, pk_mul, nI_add]
  unfold f_X8_hirer
  rw [hirer_ok r hb, xbs, i10, show f_X8_in (5 : Int32).toInt64 0 6 = some 1 by decide +kernel, xbs, i10]
  simp only [c1, nI_1, xgi (show 20 + 2 * b < 820 by omega) (show 820 < 2 ^ 31 by decide), xgi (show 20 + 2 * b + 1 < 820 by omega) (show 820 < 2 ^ 31 by decide), nI_clamp (show 20 + 2 * b < 2 ^ 31 by omega), nI_clamp (show 20 + 2 * b + 1 < 2 ^ 31 by omega), xls]
  rw [if_neg (by decide), if_neg (by decide), if_neg (by decide), xb_id]
theorem hr_6 (r : RB v (M 1)) {b : Nat} (hb : b < cN (M 1) 9) : f_X8_hirer M (nI b) 6 = f_X8_countHires M (nI b) 6 := by
  have h10 := r.h10
  have c1 : (20 : Int32) + 2 * nI b = nI (20 + 2 * b) := by rw [show (2 : Int32) = nI 2 from rfl, show (20 : Int32) = nI 20 from rfl, pk_mul, nI_add]
  unfold f_X8_hirer
  rw [hirer_ok r hb, xbs, i10, show f_X8_in (6 : Int32).toInt64 0 6 = some 1 by decide +kernel, xbs, i10]
  simp only [c1, nI_1, xgi (show 20 + 2 * b < 820 by omega) (show 820 < 2 ^ 31 by decide), xgi (show 20 + 2 * b + 1 < 820 by omega) (show 820 < 2 ^ 31 by decide), nI_clamp (show 20 + 2 * b < 2 ^ 31 by omega), nI_clamp (show 20 + 2 * b + 1 < 2 ^ 31 by omega), xls]
  rw [if_neg (by decide), if_neg (by decide), if_neg (by decide), xb_id]
theorem hi_0 (r : RB v (M 1)) {i : Nat} (hi : i < cN (M 1) 10) : f_X8_hireInfo M (nI i) 0 = some (M 1 (52 + 64 * i + 0)) := by
  have h12 := r.m12
  unfold f_X8_hireInfo
  rw [hire_ok r hi, xbs, i10, show f_X8_in (0 : Int32).toInt64 0 15 = some 1 by decide +kernel, xbs, i10, if_neg (by decide), if_neg (by decide), if_neg (by decide), if_neg (by decide), if_neg (by decide), if_neg (by decide), if_neg (by decide), xb_id]
  exact m_of (k := 0) (by omega)
theorem hi_1 (r : RB v (M 1)) {i : Nat} (hi : i < cN (M 1) 10) : f_X8_hireInfo M (nI i) 1 = some (M 1 (52 + 64 * i + 1)) := by
  have h12 := r.m12
  unfold f_X8_hireInfo
  rw [hire_ok r hi, xbs, i10, show f_X8_in (1 : Int32).toInt64 0 15 = some 1 by decide +kernel, xbs, i10, if_neg (by decide), if_neg (by decide), if_neg (by decide), if_neg (by decide), if_neg (by decide), if_neg (by decide), if_neg (by decide), xb_id]
  exact m_of (k := 1) (by omega)
theorem hi_2 (r : RB v (M 1)) {i : Nat} (hi : i < cN (M 1) 10) : f_X8_hireInfo M (nI i) 2 = some (M 1 (52 + 64 * i + 2)) := by
  have h12 := r.m12
  unfold f_X8_hireInfo
  rw [hire_ok r hi, xbs, i10, show f_X8_in (2 : Int32).toInt64 0 15 = some 1 by decide +kernel, xbs, i10, if_neg (by decide), if_neg (by decide), if_neg (by decide), if_neg (by decide), if_neg (by decide), if_neg (by decide), if_neg (by decide), xb_id]
  exact m_of (k := 2) (by omega)
theorem hi_3 (r : RB v (M 1)) {i : Nat} (hi : i < cN (M 1) 10) : f_X8_hireInfo M (nI i) 3 = some (M 1 (52 + 64 * i + 3)) := by
  have h12 := r.m12
  unfold f_X8_hireInfo
  rw [hire_ok r hi, xbs, i10, show f_X8_in (3 : Int32).toInt64 0 15 = some 1 by decide +kernel, xbs, i10, if_neg (by decide), if_neg (by decide), if_neg (by decide), if_neg (by decide), if_neg (by decide), if_neg (by decide), if_neg (by decide), xb_id]
  exact m_of (k := 3) (by omega)
theorem hi_5 (r : RB v (M 1)) {i : Nat} (hi : i < cN (M 1) 10) : f_X8_hireInfo M (nI i) 5 = some (M 1 (52 + 64 * i + 5)) := by
  have h12 := r.m12
  unfold f_X8_hireInfo
  rw [hire_ok r hi, xbs, i10, show f_X8_in (5 : Int32).toInt64 0 15 = some 1 by decide +kernel, xbs, i10, if_neg (by decide), if_neg (by decide), if_neg (by decide), if_neg (by decide), if_neg (by decide), if_neg (by decide), if_neg (by decide), xb_id]
  exact m_of (k := 5) (by omega)
theorem hi_6 (r : RB v (M 1)) {i : Nat} (hi : i < cN (M 1) 10) : f_X8_hireInfo M (nI i) 6 = some (M 1 (52 + 64 * i + 6)) := by
  have h12 := r.m12
  unfold f_X8_hireInfo
  rw [hire_ok r hi, xbs, i10, show f_X8_in (6 : Int32).toInt64 0 15 = some 1 by decide +kernel, xbs, i10, if_neg (by decide), if_neg (by decide), if_neg (by decide), if_neg (by decide), if_neg (by decide), if_neg (by decide), if_neg (by decide), xb_id]
  exact m_of (k := 6) (by omega)
theorem hi_7 (r : RB v (M 1)) {i : Nat} (hi : i < cN (M 1) 10) : f_X8_hireInfo M (nI i) 7 = some (M 1 (52 + 64 * i + 7)) := by
  have h12 := r.m12
  unfold f_X8_hireInfo
  rw [hire_ok r hi, xbs, i10, show f_X8_in (7 : Int32).toInt64 0 15 = some 1 by decide +kernel, xbs, i10, if_neg (by decide), if_neg (by decide), if_neg (by decide), if_neg (by decide), if_neg (by decide), if_neg (by decide), if_neg (by decide), xb_id]
  exact m_of (k := 7) (by omega)
theorem hi_8 (r : RB v (M 1)) {i : Nat} (hi : i < cN (M 1) 10) : f_X8_hireInfo M (nI i) 8 = some (M 1 (52 + 64 * i + 8)) := by
  have h12 := r.m12
  unfold f_X8_hireInfo
  rw [hire_ok r hi, xbs, i10, show f_X8_in (8 : Int32).toInt64 0 15 = some 1 by decide +kernel, xbs, i10, if_neg (by decide), if_neg (by decide), if_neg (by decide), if_neg (by decide), if_neg (by decide), if_neg (by decide), if_neg (by decide), xb_id]
  exact m_of (k := 8) (by omega)
theorem hi_9 (r : RB v (M 1)) {i : Nat} (hi : i < cN (M 1) 10) : f_X8_hireInfo M (nI i) 9 = some (nI (sC (M 1) i 0)) := by
  have h12 := r.m12
  unfold f_X8_hireInfo
  rw [hire_ok r hi, xbs, i10, show f_X8_in (9 : Int32).toInt64 0 15 = some 1 by decide +kernel, xbs, i10, if_pos rfl, xb_id]
  exact m_manyOf (s := 0) rfl (by decide) (by omega) (r.g hi)
theorem hi_10 (r : RB v (M 1)) {i : Nat} (hi : i < cN (M 1) 10) : f_X8_hireInfo M (nI i) 10 = some (nI (sC (M 1) i 1)) := by
  have h12 := r.m12
  unfold f_X8_hireInfo
  rw [hire_ok r hi, xbs, i10, show f_X8_in (10 : Int32).toInt64 0 15 = some 1 by decide +kernel, xbs, i10, if_neg (by decide), if_pos rfl, xb_id]
  exact m_manyOf (s := 1) rfl (by decide) (by omega) (r.g hi)
theorem hi_11 (r : RB v (M 1)) {i : Nat} (hi : i < cN (M 1) 10) : f_X8_hireInfo M (nI i) 11 = some (nI (sC (M 1) i 2)) := by
  have h12 := r.m12
  unfold f_X8_hireInfo
  rw [hire_ok r hi, xbs, i10, show f_X8_in (11 : Int32).toInt64 0 15 = some 1 by decide +kernel, xbs, i10, if_neg (by decide), if_neg (by decide), if_pos rfl, xb_id]
  exact m_manyOf (s := 2) rfl (by decide) (by omega) (r.g hi)
theorem hi_12 (r : RB v (M 1)) {i : Nat} (hi : i < cN (M 1) 10) : f_X8_hireInfo M (nI i) 12 = some (M 1 (52 + 64 * i + 9)) := by
  have h12 := r.m12
  unfold f_X8_hireInfo
  rw [hire_ok r hi, xbs, i10, show f_X8_in (12 : Int32).toInt64 0 15 = some 1 by decide +kernel, xbs, i10, if_neg (by decide), if_neg (by decide), if_neg (by decide), if_pos rfl, xb_id]
  exact m_of (k := 9) (by omega)
theorem hi_13 (r : RB v (M 1)) {i : Nat} (hi : i < cN (M 1) 10) : f_X8_hireInfo M (nI i) 13 = some (M 1 (52 + 64 * i + 11)) := by
  have h12 := r.m12
  unfold f_X8_hireInfo
  rw [hire_ok r hi, xbs, i10, show f_X8_in (13 : Int32).toInt64 0 15 = some 1 by decide +kernel, xbs, i10, if_neg (by decide), if_neg (by decide), if_neg (by decide), if_neg (by decide), if_pos rfl, xb_id]
  exact m_of (k := 11) (by omega)
theorem hi_14 (r : RB v (M 1)) {i : Nat} (hi : i < cN (M 1) 10) : f_X8_hireInfo M (nI i) 14 = some (kF (M 1) (nI i)) := by
  have h12 := r.m12
  unfold f_X8_hireInfo
  rw [hire_ok r hi, xbs, i10, show f_X8_in (14 : Int32).toInt64 0 15 = some 1 by decide +kernel, xbs, i10, if_neg (by decide), if_neg (by decide), if_neg (by decide), if_neg (by decide), if_neg (by decide), if_pos rfl, xb_id, m_keysOf]
theorem hi_15 (r : RB v (M 1)) {i : Nat} (hi : i < cN (M 1) 10) : f_X8_hireInfo M (nI i) 15 = some (M 1 (52 + 64 * i + 10)) := by
  have h12 := r.m12
  unfold f_X8_hireInfo
  rw [hire_ok r hi, xbs, i10, show f_X8_in (15 : Int32).toInt64 0 15 = some 1 by decide +kernel, xbs, i10, if_neg (by decide), if_neg (by decide), if_neg (by decide), if_neg (by decide), if_neg (by decide), if_neg (by decide), if_pos rfl, xb_id]
  exact m_of (k := 10) (by omega)
theorem se_0 (r : RB v (M 1)) {i k : Nat} (hi : i < cN (M 1) 10) (hk : k < hN (M 1) i 4) : f_X8_session M (nI (20 * i + k)) 0 = some (nI (hN (M 1) i 5 + k * hN (M 1) i 6)) := by
  have h12 := r.m12
  have h20 := (r.g hi).2.2.2.2.2.2.2.1
  unfold f_X8_session
  rw [sess_ok r hi hk, xbs, i10, show f_X8_in (0 : Int32).toInt64 0 3 = some 1 by decide +kernel, xbs, i10, if_neg (by decide), if_pos rfl, xb_id]
  exact m_dayOf (by omega) (by omega) (r.g hi)
theorem se_2 (r : RB v (M 1)) {i k : Nat} (hi : i < cN (M 1) 10) (hk : k < hN (M 1) i 4) : f_X8_session M (nI (20 * i + k)) 2 = some (shr (M 1 (52 + 64 * i + 7)) (hN (M 1) i 4) k) := by
  have h12 := r.m12
  have h20 := (r.g hi).2.2.2.2.2.2.2.1
  unfold f_X8_session
  rw [sess_ok r hi hk, xbs, i10, show f_X8_in (2 : Int32).toInt64 0 3 = some 1 by decide +kernel, xbs, i10, if_neg (by decide), if_neg (by decide), if_neg (by decide), xb_id]
  exact m_shareOf (by omega) (by omega) (r.g hi)
theorem se_3 (r : RB v (M 1)) {i k : Nat} (hi : i < cN (M 1) 10) (hk : k < hN (M 1) i 4) : f_X8_session M (nI (20 * i + k)) 3 = some (if hN (M 1) i (12 + k) = 0 then rfd2 (M 1) i k else -2000000004) := by
  have h12 := r.m12
  have g := r.g hi
  have h20 := g.2.2.2.2.2.2.2.1
  obtain ⟨gk1, gk2, -⟩ := g.2.2.2.2.2.2.2.2.2.2.2.2.2.2.2.2.2 k hk
  unfold f_X8_session
  rw [sess_ok r hi hk, xbs, i10, show f_X8_in (3 : Int32).toInt64 0 3 = some 1 by decide +kernel, xbs, i10, if_pos rfl, m_stateOf (by omega) (by omega), gk1, xbs]
  by_cases hs : hN (M 1) i (12 + k) = 0
  · rw [if_pos (show nI (hN (M 1) i (12 + k)) = (0 : Int32) by rw [hs]; rfl), if_pos hs, xb_id]
    exact m_refundOf (by omega) (by omega) g
  · rw [if_neg (show ¬ nI (hN (M 1) i (12 + k)) = (0 : Int32) from ne_lit (b := 0) hs (by omega) (by decide)), if_neg hs]
end
section
variable {d k : Nat} {M N : xV}
theorem both {x y : Option Int32} {a b : Int32} (h1 : x = some a) (h2 : y = some b) (e : b = a) : ∃ c, x = some c ∧ y = some c := ⟨a, h1, by rw [h2, e]⟩
theorem cnt_both (T : TW d k M N) (hd : d < 200) {q : Nat} (h1 : 1 ≤ q) (h2 : q < 29) (h7 : q ≠ 7) : ∃ c, f_X8_count M (nI q) = some c ∧ f_X8_count N (nI q) = some c := by
  obtain ⟨⟨dv, v, hv, kv, tv, r, h, ht, c⟩, ⟨dv', v', hv', kv', tv', r', h', ht', c'⟩, s, I, h0, t4, t6⟩ := T
  rcases (show q = 1 ∨ q = 2 ∨ q = 3 ∨ q = 4 ∨ q = 5 ∨ q = 6 ∨ q = 8 ∨ q = 9 ∨ q = 10 ∨ q = 11 ∨ q = 12 ∨ q = 13 ∨ q = 14 ∨ q = 15 ∨ q = 16 ∨ q = 17 ∨ q = 18 ∨ q = 19 ∨ q = 20 ∨ q = 21 ∨ q = 22 ∨ q = 23 ∨ q = 24 ∨ q = 25 ∨ q = 26 ∨ q = 27 ∨ q = 28 by omega) with rfl | rfl | rfl | rfl | rfl | rfl | rfl | rfl | rfl | rfl | rfl | rfl | rfl | rfl | rfl | rfl | rfl | rfl | rfl | rfl | rfl | rfl | rfl | rfl | rfl | rfl | rfl
  · exact both (cnt_1 M) (cnt_1 N) (s.lo (by decide) (by decide))
  · exact both (cnt_2 M) (cnt_2 N) (s.lo (by decide) (by decide))
  · exact both ((cnt_3 M).trans (m_countSessions0 r)) ((cnt_3 N).trans (m_countSessions0 r')) s.sNE
  · exact both ((cnt_4 M).trans (m_countKeys0 M)) ((cnt_4 N).trans (m_countKeys0 N)) (s.kFE _)
  · exact both ((cnt_5 M).trans (m_countKeys1 M)) ((cnt_5 N).trans (m_countKeys1 N)) (s.kLsE r.1 (by omega))
  · exact both ((cnt_6 M).trans (m_countSessions1 r)) ((cnt_6 N).trans (m_countSessions1 r')) s.sRE
  · exact both (cnt_8 M) (cnt_8 N) t6
  · exact both (cnt_9 M) (cnt_9 N) rfl
  · exact both (cnt_10 M) (cnt_10 N) (s.lo (by decide) (by decide))
  · exact both (cnt_11 M) (cnt_11 N) (s.lo (by decide) (by decide))
  · exact both (cnt_12 M) (cnt_12 N) (s.lo (by decide) (by decide))
  · exact both (cnt_13 M) (cnt_13 N) (s.lo (by decide) (by decide))
  · exact both (cnt_14 M) (cnt_14 N) (s.lo (by decide) (by decide))
  · exact both (cnt_15 M) (cnt_15 N) (s.lo (by decide) (by decide))
  · exact both (cnt_16 M) (cnt_16 N) (s.lo (by decide) (by decide))
  · exact both (cnt_17 M) (cnt_17 N) (s.lo (by decide) (by decide))
  · exact both (cnt_18 M) (cnt_18 N) rfl
  · exact both (cnt_19 M) (cnt_19 N) rfl
  · exact both (cnt_20 M) (cnt_20 N) (s.lo (by decide) (by decide))
  · exact both (cnt_21 M) (cnt_21 N) (s.lo (by decide) (by decide))
  · exact both (cnt_22 M) (cnt_22 N) (s.lo (by decide) (by decide))
  · exact both (cnt_23 M) (cnt_23 N) (s.lo (by decide) (by decide))
  · exact both (cnt_24 M) (cnt_24 N) (s.lo (by decide) (by decide))
  · exact both (cnt_25 M) (cnt_25 N) (s.lo (by decide) (by decide))
  · exact both (cnt_26 M) (cnt_26 N) (s.lo (by decide) (by decide))
  · exact both (cnt_27 M) (cnt_27 N) (s.lo (by decide) (by decide))
  · exact both (cnt_28 M) (cnt_28 N) (s.lo (by decide) (by decide))
theorem hr_both (T : TW d k M N) (hd : d < 200) {b q : Nat} (hb : b < 3) (hq : q < 7) : ∃ c, f_X8_hirer M (nI b) (nI q) = some c ∧ f_X8_hirer N (nI b) (nI q) = some c := by
  obtain ⟨⟨dv, v, hv, kv, tv, r, h, ht, c⟩, ⟨dv', v', hv', kv', tv', r', h', ht', c'⟩, s, I, h0, t4, t6⟩ := T
  have h9 : b < cN (M 1) 9 := by rw [I.2.1]; exact hb
  have h9' : b < cN (N 1) 9 := by rw [s.cn (by decide) (by decide)]; exact h9
  have e0 : N 1 (20 + 2 * b) = M 1 (20 + 2 * b) := s.lo (by omega) (by omega)
  have e1 : N 1 (20 + 2 * b + 1) = M 1 (20 + 2 * b + 1) := s.lo (by omega) (by omega)
  have ch : ∀ p2 : Int32, ∃ c, f_X8_countHires M (nI b) p2 = some c ∧ f_X8_countHires N (nI b) p2 = some c := fun p2 => both (m_countHires r p2) (m_countHires r' p2) (s.cHE fun i hi => by rw [s.sCE 0 hi, s.kFE, s.h hi (k := 11) (by decide) (by decide)])
  rcases (show q = 0 ∨ q = 1 ∨ q = 2 ∨ q = 3 ∨ q = 4 ∨ q = 5 ∨ q = 6 by omega) with rfl | rfl | rfl | rfl | rfl | rfl | rfl
  · exact both (hr_0 r h9) (hr_0 r' h9') e0
  · exact both (hr_1 r h9) (hr_1 r' h9') e1
  · exact both (hr_2 r h9) (hr_2 r' h9') (by rw [e0, e1])
  · obtain ⟨c, c1, c2⟩ := ch 3
    exact ⟨c, (hr_3 r h9).trans c1, (hr_3 r' h9').trans c2⟩
  · obtain ⟨c, c1, c2⟩ := ch 4
    exact ⟨c, (hr_4 r h9).trans c1, (hr_4 r' h9').trans c2⟩
  · obtain ⟨c, c1, c2⟩ := ch 5
    exact ⟨c, (hr_5 r h9).trans c1, (hr_5 r' h9').trans c2⟩
  · obtain ⟨c, c1, c2⟩ := ch 6
    exact ⟨c, (hr_6 r h9).trans c1, (hr_6 r' h9').trans c2⟩
theorem hi_both (T : TW d k M N) (hd : d < 200) {i q : Nat} (hi : i < cN (M 1) 10) (hq : q < 16) (h5 : q ≠ 5) : ∃ c, f_X8_hireInfo M (nI i) (nI q) = some c ∧ f_X8_hireInfo N (nI i) (nI q) = some c := by
  obtain ⟨⟨dv, v, hv, kv, tv, r, h, ht, c⟩, ⟨dv', v', hv', kv', tv', r', h', ht', c'⟩, s, I, h0, t4, t6⟩ := T
  have hi' : i < cN (N 1) 10 := by rw [s.m]; exact hi
  rcases (show q = 0 ∨ q = 1 ∨ q = 2 ∨ q = 3 ∨ q = 4 ∨ q = 6 ∨ q = 7 ∨ q = 8 ∨ q = 9 ∨ q = 10 ∨ q = 11 ∨ q = 12 ∨ q = 13 ∨ q = 14 ∨ q = 15 by omega) with rfl | rfl | rfl | rfl | rfl | rfl | rfl | rfl | rfl | rfl | rfl | rfl | rfl | rfl | rfl
  · exact both (hi_0 r hi) (hi_0 r' hi') (s.h hi (by decide) (by decide))
  · exact both (hi_1 r hi) (hi_1 r' hi') (s.h hi (by decide) (by decide))
  · exact both (hi_2 r hi) (hi_2 r' hi') (s.h hi (by decide) (by decide))
  · exact both (hi_3 r hi) (hi_3 r' hi') (s.h hi (by decide) (by decide))
  · exact both (hi_4 r hi) (hi_4 r' hi') (by rw [s.hn hi (by decide) (by decide)])
  · exact both (hi_6 r hi) (hi_6 r' hi') (s.h hi (by decide) (by decide))
  · exact both (hi_7 r hi) (hi_7 r' hi') (s.h hi (by decide) (by decide))
  · exact both (hi_8 r hi) (hi_8 r' hi') (s.h hi (by decide) (by decide))
  · exact both (hi_9 r hi) (hi_9 r' hi') (by rw [s.sCE _ hi])
  · exact both (hi_10 r hi) (hi_10 r' hi') (by rw [s.sCE _ hi])
  · exact both (hi_11 r hi) (hi_11 r' hi') (by rw [s.sCE _ hi])
  · exact both (hi_12 r hi) (hi_12 r' hi') (s.h hi (by decide) (by decide))
  · exact both (hi_13 r hi) (hi_13 r' hi') (s.h hi (by decide) (by decide))
  · exact both (hi_14 r hi) (hi_14 r' hi') (s.kFE _)
  · exact both (hi_15 r hi) (hi_15 r' hi') (s.h hi (by decide) (by decide))
theorem hi_five (T : TW d k M N) {i : Nat} (hi : i < cN (M 1) 10) : ∃ c, f_X8_hireInfo M (nI i) (nI 5) = some c ∧ f_X8_hireInfo N (nI i) (nI 5) = some (c + nI d) := by
  obtain ⟨⟨dv, v, hv, kv, tv, r, h, ht, c⟩, ⟨dv', v', hv', kv', tv', r', h', ht', c'⟩, s, I, h0, t4, t6⟩ := T
  have hi' : i < cN (N 1) 10 := by rw [s.m]; exact hi
  exact ⟨_, hi_5 r hi, (hi_5 r' hi').trans (by rw [(s.2.2.2 i hi).2])⟩
end
