/-! ===== PURE p29, 2: what each call makes of the row ===== -/
theorem in_ok {n lo hi : Nat} {A B : Int64} (hA : A = (nI lo).toInt64) (hB : B = (nI hi).toInt64) (h1 : lo ≤ n) (h2 : n ≤ hi) (hh : hi < 2 ^ 31) : f_X8_in (nI n).toInt64 A B = some 1 := by
  rw [m_in (nI n) (nI lo) (nI hi) hA hB, if_pos ⟨nI_le h1 (by omega), nI_le h2 hh⟩]
def wPay (w : Nat → Int32) (b : Nat) (y : Int32) : Nat → Int32 := fun c => if c = 20 + 2 * b + 1 then w (20 + 2 * b + 1) + y else if c = 19 then w 19 + y else w c
def wCan (w : Nat → Int32) (i k : Nat) : Nat → Int32 := fun c => if c = 52 + 64 * i + (12 + k) then 2 else if c = 20 + 2 * hN w i 0 + 1 then w (20 + 2 * hN w i 0 + 1) + rfd2 w i k else if c = 12 then w 12 + rfd2 w i k else w c
def wBack (w : Nat → Int32) (j : Nat) : Nat → Int32 := fun c => if c = 40 + 2 * j then -1 else if c = 40 + 2 * j + 1 then 0 else w c
def wLend (w : Nat → Int32) (j i k : Nat) : Nat → Int32 := fun c => if c = 40 + 2 * j then nI i else if c = 40 + 2 * j + 1 then nI (hN w i 5 + k * hN w i 6 + cN w 8) else w c
def wTake (w : Nat → Int32) (i a q : Nat) : Nat → Int32 := fun c => if c = 52 + 64 * i + 9 then nI (hN w i 9 - min (hN w i 9) a) else if c = 14 then w 14 - nI (min (hN w i 9) a) else if c = 11 + q then w (11 + q) + nI (min (hN w i 9) a) else if c = 18 then w 18 + nI (a - min (hN w i 9) a) else if c = 20 + 2 * hN w i 0 then w (20 + 2 * hN w i 0) + nI (a - min (hN w i 9) a) else w c
def wRep (w : Nat → Int32) (i k kd a : Nat) : Nat → Int32 := fun c => if c = 52 + 64 * i + (32 + 4 * hN w i 11) then nI kd else if c = 52 + 64 * i + (32 + 4 * hN w i 11 + 1) then nI (20 * i + k) else if c = 52 + 64 * i + (32 + 4 * hN w i 11 + 2) then nI a else if c = 52 + 64 * i + (32 + 4 * hN w i 11 + 3) then nI (min (hN w i 9) a) else if c = 52 + 64 * i + 11 then nI (hN w i 11 + 1) else wTake w i a 4 c
def wSet (w : Nat → Int32) (i : Nat) : Nat → Int32 := fun c => if c = 52 + 64 * i + 9 then 0 else if c = 52 + 64 * i + 10 then 1 else if c = 14 then w 14 - w (52 + 64 * i + 9) else if c = 17 then w 17 + w (52 + 64 * i + 9) else if c = 20 + 2 * hN w i 0 + 1 then w (20 + 2 * hN w i 0 + 1) + w (52 + 64 * i + 9) else w c
section
variable {v M hv : xV} {kv : Nat → xV}
theorem hirer_ok (r : RB v (M 1)) {j : Nat} (hj : j < cN (M 1) 9) : f_X8_isHirer M (nI j) = some 1 := by
  have h10 := r.h10
  rw [m_isHirer h10 r.wh, if_pos ((lt_iff _ (by omega)).mpr ⟨j, hj, rfl⟩)]
theorem hire_ok (r : RB v (M 1)) {j : Nat} (hj : j < cN (M 1) 10) : f_X8_isHire M (nI j) = some 1 := by
  have h12 := r.m12
  rw [m_isHire h12 r.wm, if_pos ((lt_iff _ (by omega)).mpr ⟨j, hj, rfl⟩)]
theorem key_ok {j : Nat} (hj : j < 6) : f_X8_isKey (nI j) = some 1 := by
  rw [m_isKey, if_pos ((lt_iff _ (by decide)).mpr ⟨j, hj, rfl⟩)]
theorem sess_ok (r : RB v (M 1)) {i k : Nat} (hi : i < cN (M 1) 10) (hk : k < hN (M 1) i 4) : f_X8_isSession M (nI (20 * i + k)) = some 1 := by
  have h12 := r.m12
  have h20 := (r.g hi).2.2.2.2.2.2.2.1
  rw [m_isSession (m := cN (M 1) 10) (by omega) h12 r.wm (fun i hi => r.g hi), show (20 * i + k) / 20 = i by omega, show (20 * i + k) % 20 = k by omega, if_pos ⟨hi, hk⟩]
theorem m_set (r : RB v (M 1)) (h : HR hv kv M) {j q : Nat} (hj : j < 8) (hq : q ≤ moN j) : ∃ M', f_X8_set M (nI j) (nI q) = some (M 1 (1 + j), M') ∧ M' 1 = upd (M 1) (1 + j) (nI q) := by
  obtain ⟨a1, a2, a3, a4⟩ := mo_8 j hj
  obtain ⟨hv', kv', M1, e3, e4, e5, kp⟩ := s_save r h
  refine ⟨upd2 M1 1 (1 + j) (nI q), ?_, by rw [u2r, kp.1]⟩
  unfold f_X8_set
  rw [in_ok (A := 0) (B := 7) (lo := 0) (hi := 7) rfl rfl (by omega) (by omega) (by decide), xbs, i10, a1, xbs, in_ok (A := 0) (B := (nI (moN j)).toInt64) (lo := 0) (hi := moN j) rfl rfl (by omega) hq (by omega), xbs, i10, e4, xbs, show (1 : Int32) + nI j = nI (1 + j) from nI_add 1 j]
  simp only [xgi (show 1 + j < 820 by omega) (show 820 < 2 ^ 31 by decide), nI_clamp (show 1 + j < 2 ^ 31 by omega), xls, kp.1]
theorem m_pay (r : RB v (M 1)) (h : HR hv kv M) {j q : Nat} (hj : j < cN (M 1) 9) (h1 : 1 ≤ q) (h2 : q ≤ 1000000) (hl : M 1 (20 + 2 * j + 1) + nI q ≤ 100000000) : ∃ M', f_X8_pay M (nI j) (nI q) = some (M 1 (20 + 2 * j) - (M 1 (20 + 2 * j + 1) + nI q), M') ∧ M' 1 = wPay (M 1) j (nI q) := by
  have h10 := r.h10
  obtain ⟨hv', kv', M1, e3, e4, e5, kp⟩ := s_save r h
  have c1 : (20 : Int32) + 2 * nI j = nI (20 + 2 * j) := by rw [show (2 : Int32) = nI 2 from rfl, show (20 : Int32) = nI 20 from rfl, pk_mul, nI_add]
  refine ⟨upd2 (upd2 M1 1 (20 + 2 * j + 1) (M1 1 (20 + 2 * j + 1) + nI q)) 1 19 (M1 1 19 + nI q), ?_, ?_⟩
  · unfold f_X8_pay
    rw [hirer_ok r hj, xbs, i10, in_ok (A := 1) (B := 1000000) (lo := 1) (hi := 1000000) rfl rfl h1 h2 (by decide), xbs, i10]
    simp only [c1, nI_1, xgi (show 20 + 2 * j < 820 by omega) (show 820 < 2 ^ 31 by decide), xgi (show 20 + 2 * j + 1 < 820 by omega) (show 820 < 2 ^ 31 by decide), nI_clamp (show 20 + 2 * j < 2 ^ 31 by omega), nI_clamp (show 20 + 2 * j + 1 < 2 ^ 31 by omega)]
    rw [if_pos hl, e4, xbs, m_pays _ (by omega) _ rfl, xbs, xls]
    rw [u2j M1 (k := 1) (j := 20 + 2 * j + 1) _ (show 19 ≠ 20 + 2 * j + 1 by omega)]
    rw [u2j _ (k := 1) (j := 19) _ (show 20 + 2 * j ≠ 19 by omega), u2j M1 (k := 1) _ (show 20 + 2 * j ≠ 20 + 2 * j + 1 by omega), u2j _ (k := 1) (j := 19) _ (show 20 + 2 * j + 1 ≠ 19 by omega), u2s, kp.1]
  · rw [u2r, u2r, kp.1]
    funext c
    unfold wPay
    simp only [upe]
    repeat' split
    all_goals first | rfl | omega
theorem m_cancel (r : RB v (M 1)) (h : HR hv kv M) {i k : Nat} (hi : i < cN (M 1) 10) (hk : k < hN (M 1) i 4) (hs : hN (M 1) i (12 + k) = 0) : ∃ M', f_X8_cancel M (nI (20 * i + k)) = some (rfd2 (M 1) i k, M') ∧ M' 1 = wCan (M 1) i k := by
  have h12 := r.m12
  have g := r.g hi
  have h20 := g.2.2.2.2.2.2.2.1
  have hb10 : hN (M 1) i 0 < 10 := Nat.lt_of_lt_of_le g.2.1 r.h10
  obtain ⟨gk1, gk2, -⟩ := g.2.2.2.2.2.2.2.2.2.2.2.2.2.2.2.2.2 k hk
  obtain ⟨hv', kv', M1, e3, e4, e5, kp⟩ := s_save r h
  have g1 : GH (M1 1) i := by rw [kp.1]; exact g
  obtain ⟨N1, hN1⟩ : ∃ x, x = upd2 M1 1 (52 + 64 * i + (12 + k)) 2 := ⟨_, rfl⟩
  obtain ⟨N2, hN2⟩ : ∃ x, x = upd2 N1 1 (20 + 2 * hN (M 1) i 0 + 1) (N1 1 (20 + 2 * hN (M 1) i 0 + 1) + rfd2 (M 1) i k) := ⟨_, rfl⟩
  refine ⟨upd2 N2 1 12 (N2 1 12 + rfd2 (M 1) i k), ?_, ?_⟩
  · unfold f_X8_cancel
    have o0 : f_X8_of N1 (nI i) 0 = some (nI (hN (M 1) i 0)) := (m_of (k := 0) (by omega)).trans (by rw [hN1, u2r, upn _ _ (by omega), kp.1, g.1 0 (by decide)])
    rw [sess_ok r hi hk, xbs, i10, m_stateOf (by omega) (by omega), gk1, xbs, if_pos (by rw [hs]; rfl), e4, xbs, m_refundOf (by omega) (by omega) g1, kp.1, xbs, xls, nn_rem (by omega), nn_div (by omega), show (20 * i + k) / 20 = i by omega, show (20 * i + k) % 20 = k by omega, show (12 : Int32) + nI k = nI (12 + k) from nI_add 12 k, m_at, xbs, xgi (by omega) (by decide), xls, nI_clamp (by omega), ← hN1, o0, xbs, m_pays _ hb10 _ rfl, ← hN2, xbs, xls]
  · rw [hN2, hN1]
    simp only [u2r, kp.1]
    funext c
    unfold wCan
    simp only [upe]
    repeat' split
    all_goals first | rfl | omega
theorem m_back1 (r : RB v (M 1)) (h : HR hv kv M) {j : Nat} (hj : j < 6) (hk : M 1 (40 + 2 * j) ≠ -1) : ∃ M', f_X8_bringBack M (nI j) = some (kL (M 1) j, M') ∧ M' 1 = wBack (M 1) j := by
  have c1 : (40 : Int32) + 2 * nI j = nI (40 + 2 * j) := by rw [show (2 : Int32) = nI 2 from rfl, show (40 : Int32) = nI 40 from rfl, pk_mul, nI_add]
  obtain ⟨hv', kv', M1, e3, e4, e5, kp⟩ := s_save r h
  refine ⟨upd2 (upd2 M1 1 (40 + 2 * j) (-1)) 1 (40 + 2 * j + 1) 0, ?_, ?_⟩
  · unfold f_X8_bringBack
    rw [key_ok hj, xbs, i10]
    simp only [c1, nI_1, xgi (show 40 + 2 * j < 820 by omega) (show 820 < 2 ^ 31 by decide), xgi (show 40 + 2 * j + 1 < 820 by omega) (show 820 < 2 ^ 31 by decide), nI_clamp (show 40 + 2 * j < 2 ^ 31 by omega), nI_clamp (show 40 + 2 * j + 1 < 2 ^ 31 by omega)]
    rw [if_neg hk, e4, xbs, m_lateBy hj, xbs, xls, xls, kp.1]
    rfl
  · rw [u2r, u2r, kp.1]
    funext c
    unfold wBack
    simp only [upe]
    repeat' split
    all_goals first | rfl | omega
theorem m_back0 {j : Nat} (hj : j < 6) (hk : M 1 (40 + 2 * j) = -1) : f_X8_bringBack M (nI j) = some (-2000000002, M) := by
  have c1 : (40 : Int32) + 2 * nI j = nI (40 + 2 * j) := by rw [show (2 : Int32) = nI 2 from rfl, show (40 : Int32) = nI 40 from rfl, pk_mul, nI_add]
  unfold f_X8_bringBack
  rw [key_ok hj, xbs, i10]
  simp only [c1, xgi (show 40 + 2 * j < 820 by omega) (show 820 < 2 ^ 31 by decide), nI_clamp (show 40 + 2 * j < 2 ^ 31 by omega)]
  rw [if_pos hk]
theorem m_take (r : RB v (M 1)) {i a q : Nat} (hi : i < cN (M 1) 10) (ha : a < 2 ^ 30) (hq : q = 4 ∨ q = 5) {p3 : Int32} (hp : p3 = nI q) : ∃ M', f_X8_takes M (nI i) (nI a) p3 = some (nI (min (hN (M 1) i 9) a), M') ∧ M' 1 = wTake (M 1) i a q ∧ ∀ c, c ≠ 1 → M' c = M c := by
  subst hp
  have h12 := r.m12
  have g := r.g hi
  have hb10 : hN (M 1) i 0 < 10 := Nat.lt_of_lt_of_le g.2.1 r.h10
  have g9 := g.2.2.2.2.2.2.2.2.2.2.2.2.1
  have g9' := g.2.2.2.2.2.2.2.2.2.2.2.2.2.1
  obtain ⟨T, hT⟩ : ∃ x, x = min (hN (M 1) i 9) a := ⟨_, rfl⟩
  rw [← hT]
  obtain ⟨N1, hN1⟩ : ∃ x, x = upd2 M 1 (52 + 64 * i + 9) (nI (hN (M 1) i 9 - T)) := ⟨_, rfl⟩
  obtain ⟨N2, hN2⟩ : ∃ x, x = upd2 N1 1 14 (N1 1 14 - nI T) := ⟨_, rfl⟩
  obtain ⟨N3, hN3⟩ : ∃ x, x = upd2 N2 1 (11 + q) (N2 1 (11 + q) + nI T) := ⟨_, rfl⟩
  obtain ⟨N4, hN4⟩ : ∃ x, x = upd2 N3 1 18 (N3 1 18 + nI (a - T)) := ⟨_, rfl⟩
  obtain ⟨N5, hN5⟩ : ∃ x, x = upd2 N4 1 (20 + 2 * hN (M 1) i 0) (N4 1 (20 + 2 * hN (M 1) i 0) + nI (a - T)) := ⟨_, rfl⟩
  have o0 : f_X8_of N4 (nI i) 0 = some (nI (hN (M 1) i 0)) := (m_of (k := 0) (by omega)).trans (by
    rw [hN4, hN3, hN2, hN1]
    simp only [u2r]
    rw [upn _ _ (by omega), upn _ _ (by omega), upn _ _ (by omega), upn _ _ (by omega), g.1 0 (by decide)])
  have o9 : f_X8_of M (nI i) 9 = some (nI (hN (M 1) i 9)) := (m_of (k := 9) (by omega)).trans (by rw [g9])
  have a9 : f_X8_at (nI i) 9 = some (nI (52 + 64 * i + 9)) := m_at i 9
  refine ⟨N5, ?_, ?_, fun c hc => by rw [hN5, u2k _ _ hc, hN4, u2k _ _ hc, hN3, u2k _ _ hc, hN2, u2k _ _ hc, hN1, u2k _ _ hc]⟩
  · unfold f_X8_takes
    by_cases hda : hN (M 1) i 9 ≤ a
    · have e : hN (M 1) i 9 = T := by omega
      rw [o9, xbs, if_pos (nI_le hda (by omega)), xbs, a9, xbs]
      simp only [xgi (show 52 + 64 * i + 9 < 820 by omega) (show 820 < 2 ^ 31 by decide), nI_clamp (show 52 + 64 * i + 9 < 2 ^ 31 by omega), show (11 : Int32) + nI q = nI (11 + q) from nI_add 11 q, xgi (show 11 + q < 820 by omega) (show 820 < 2 ^ 31 by decide), nI_clamp (show 11 + q < 2 ^ 31 by omega), g9, pk_sub hda, xls]
      rw [e, pk_sub (Nat.le_refl T)]
      rw [e] at hN1
      rw [← hN1, ← hN2, ← hN3, ← hN4, o0, xbs, m_charges _ hb10 _ rfl, ← hN5, xbs]
    · have e : a = T := by omega
      rw [o9, xbs, if_neg (nI_ge (by omega) (by omega)), a9, xbs]
      simp only [xgi (show 52 + 64 * i + 9 < 820 by omega) (show 820 < 2 ^ 31 by decide), nI_clamp (show 52 + 64 * i + 9 < 2 ^ 31 by omega), show (11 : Int32) + nI q = nI (11 + q) from nI_add 11 q, xgi (show 11 + q < 820 by omega) (show 820 < 2 ^ 31 by decide), nI_clamp (show 11 + q < 2 ^ 31 by omega), g9, pk_sub (show a ≤ hN (M 1) i 9 by omega), pk_sub (Nat.le_refl a), xls]
      rw [← e] at hN1 hN2 hN3 hN4 hN5 ⊢
      rw [← hN1, ← hN2, ← hN3, ← hN4, o0, xbs, m_charges _ hb10 _ rfl, ← hN5, xbs]
  · rw [hN5, hN4, hN3, hN2, hN1]
    simp only [u2r]
    funext c
    unfold wTake
    rw [← hT]
    simp only [upe]
    repeat' split
    all_goals first | rfl | omega
end
