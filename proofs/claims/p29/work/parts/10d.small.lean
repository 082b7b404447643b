/-! ===== PURE 3: small methods of both, side by side ===== -/
theorem ix_or (x : Int32) {n : Nat} (hn : n < 2 ^ 31) : (∃ j, j < n ∧ x = nI j) ∨ ((x < 0 ∨ nI n ≤ x) ∧ ¬ ∃ j, j < n ∧ x = nI j) := by
  by_cases h : ∃ j, j < n ∧ x = nI j
  · exact Or.inl h
  · refine Or.inr ⟨?_, h⟩
    rcases pk_ix x hn with q | q | q
    · exact Or.inl q
    · exact Or.inr q
    · exact absurd q h
section
variable {v : xV} {w : Nat → Int32}
theorem RB.g (r : RB v w) {i : Nat} (hi : i < cN w 10) : GH w i := r.1.2.2.2.2.2.2.2.1 i hi
theorem RB.m12 (r : RB v w) : cN w 10 ≤ 12 := r.1.2.2.1.2
theorem RB.h10 (r : RB v w) : cN w 9 ≤ 10 := r.1.2.1.2
theorem RB.wm (r : RB v w) : w 10 = nI (cN w 10) := r.1.2.2.1.1
theorem RB.wh (r : RB v w) : w 9 = nI (cN w 9) := r.1.2.1.1
theorem RB.wd (r : RB v w) : w 0 = nI (cN w 0) := r.1.1.1
theorem RB.d400 (r : RB v w) : cN w 0 ≤ 400 := r.1.1.2
theorem RB.vm (r : RB v w) : v 0 2 = nI (cN w 10) := r.2.2.1.2.2.trans r.wm
theorem RB.vh (r : RB v w) : v 0 1 = nI (cN w 9) := r.2.2.1.2.1.trans r.wh
theorem RB.vd (r : RB v w) : v 0 0 = nI (cN w 0) := r.2.2.1.1.trans r.wd
theorem RB.h (r : RB v w) {i : Nat} (hi : i < cN w 10) : RH v w i := r.2.2.2.2.2.2.2.1 i hi
theorem RB.e (r : RB v w) {i : Nat} (hi : cN w 10 ≤ i) (hi2 : i < 12) : RE v i := r.2.2.2.2.2.2.2.2 i hi hi2
theorem RB.set (r : RB v w) {j : Nat} (hj : j < 8) : v 1 j = w (1 + j) := r.2.2.2.1 j hj
theorem RB.acc (r : RB v w) {j : Nat} (hj : j < 9) : v 2 j = w (11 + j) := r.2.2.2.2.1 j hj
theorem RB.ch (r : RB v w) {j : Nat} (hj : j < 10) : v 3 j = w (20 + 2 * j) := (r.2.2.2.2.2.1 j hj).1
theorem RB.pd (r : RB v w) {j : Nat} (hj : j < 10) : v 4 j = w (20 + 2 * j + 1) := (r.2.2.2.2.2.1 j hj).2
theorem RB.key (r : RB v w) {j : Nat} (hj : j < 6) : v (31 + j) 1 = w (40 + 2 * j) := (r.2.2.2.2.2.2.1 j hj).1
theorem RB.due (r : RB v w) {j : Nat} (hj : j < 6) (h : w (40 + 2 * j) ≠ -1) : v (31 + j) 2 = w (40 + 2 * j + 1) := (r.2.2.2.2.2.2.1 j hj).2 h
theorem RB.gk (r : RB v w) {j : Nat} (hj : j < 6) : GK w j := r.1.2.2.2.2.2.2.2.2 j hj
theorem RB.num (r : RB v w) {i : Nat} (hi : i < 12) : v (6 + 2 * i) 0 = nI i := r.2.1.1 i hi
theorem RB.room (r : RB v w) {j : Nat} (hj : j < 6) : v (31 + j) 0 = nI (j % 3) := r.2.1.2 j hj
/-! who there is -/
theorem c_isHirer_in (r : RB v w) {j : Nat} (hj : j < cN w 9) : f_X0_isHirer v (nI j) = some 1 := by
  have hh := r.h10
  unfold f_X0_isHirer
  rw [r.vh, if_neg (nI_pos (by omega)), if_neg (nI_ge hj (by omega)), if_neg (show ¬ (10 : Int32) ≤ nI j from nI_ge (b := 10) (by omega) (by decide))]
theorem c_isHirer_out (r : RB v w) {x : Int32} (h : x < 0 ∨ nI (cN w 9) ≤ x) : f_X0_isHirer v x = some 0 := by
  unfold f_X0_isHirer
  rw [r.vh]
  rcases h with h | h
  · rw [if_pos h]
  · by_cases h2 : x < 0
    · rw [if_pos h2]
    · rw [if_neg h2, if_pos h]
theorem c_hireAt_in (r : RB v w) {j : Nat} (hj : j < cN w 10) : f_X0_hireAt v (nI j) = some (some j) := by
  have hh := r.m12
  unfold f_X0_hireAt
  rw [r.vm, if_neg (nI_pos (by omega)), if_neg (nI_ge hj (by omega)), if_neg (show ¬ (12 : Int32) ≤ nI j from nI_ge (b := 12) (by omega) (by decide)), xgi (by omega) (by decide), xls, nI_clamp (by omega)]
theorem c_hireAt_out (r : RB v w) {x : Int32} (h : x < 0 ∨ nI (cN w 10) ≤ x) : f_X0_hireAt v x = some none := by
  unfold f_X0_hireAt
  rw [r.vm]
  rcases h with h | h
  · rw [if_pos h]
  · by_cases h2 : x < 0
    · rw [if_pos h2]
    · rw [if_neg h2, if_pos h]
theorem c_keyAt_in (v : xV) {j : Nat} (hj : j < 6) : f_X0_keyAt v (nI j) = some (some j) := by
  unfold f_X0_keyAt
  rw [if_neg (nI_pos (by omega)), if_neg (show ¬ (6 : Int32) ≤ nI j from nI_ge (b := 6) hj (by decide)), xgi hj (by decide), xls, nI_clamp (by omega)]
theorem c_keyAt_out (v : xV) {x : Int32} (h : x < 0 ∨ nI 6 ≤ x) : f_X0_keyAt v x = some none := by
  unfold f_X0_keyAt
  rcases h with h | h
  · rw [if_pos h]
  · by_cases h2 : x < 0
    · rw [if_pos h2]
    · rw [if_neg h2]
      exact if_pos h
end
section
variable {v M : xV}
theorem hirer_or (r : RB v (M 1)) (x : Int32) : (∃ j, j < cN (M 1) 9 ∧ j < 10 ∧ x = nI j ∧ f_X0_isHirer v x = some 1 ∧ f_X8_isHirer M x = some 1) ∨ (f_X0_isHirer v x = some 0 ∧ f_X8_isHirer M x = some 0) := by
  have hh := r.h10
  rcases ix_or x (n := cN (M 1) 9) (by omega) with ⟨j, hj, rfl⟩ | ⟨h1, h2⟩
  · exact Or.inl ⟨j, hj, by omega, rfl, c_isHirer_in r hj, by rw [m_isHirer hh r.wh, if_pos ((lt_iff _ (by omega)).mpr ⟨j, hj, rfl⟩)]⟩
  · exact Or.inr ⟨c_isHirer_out r h1, by rw [m_isHirer hh r.wh, if_neg (fun q => h2 ((lt_iff _ (by omega)).mp q))]⟩
theorem hire_or (r : RB v (M 1)) (x : Int32) : (∃ j, j < cN (M 1) 10 ∧ j < 12 ∧ x = nI j ∧ f_X0_hireAt v x = some (some j) ∧ f_X8_isHire M x = some 1) ∨ (f_X0_hireAt v x = some none ∧ f_X8_isHire M x = some 0) := by
  have hh := r.m12
  rcases ix_or x (n := cN (M 1) 10) (by omega) with ⟨j, hj, rfl⟩ | ⟨h1, h2⟩
  · exact Or.inl ⟨j, hj, by omega, rfl, c_hireAt_in r hj, by rw [m_isHire hh r.wm, if_pos ((lt_iff _ (by omega)).mpr ⟨j, hj, rfl⟩)]⟩
  · exact Or.inr ⟨c_hireAt_out r h1, by rw [m_isHire hh r.wm, if_neg (fun q => h2 ((lt_iff _ (by omega)).mp q))]⟩
theorem key_or (v : xV) (x : Int32) : (∃ j, j < 6 ∧ x = nI j ∧ f_X0_keyAt v x = some (some j) ∧ f_X8_isKey x = some 1) ∨ (f_X0_keyAt v x = some none ∧ f_X8_isKey x = some 0) := by
  rcases ix_or x (n := 6) (by decide) with ⟨j, hj, rfl⟩ | ⟨h1, h2⟩
  · exact Or.inl ⟨j, hj, rfl, c_keyAt_in v hj, by rw [m_isKey, if_pos ((lt_iff _ (by decide)).mpr ⟨j, hj, rfl⟩)]⟩
  · exact Or.inr ⟨c_keyAt_out v h1, by rw [m_isKey, if_neg (fun q => h2 ((lt_iff _ (by decide)).mp q))]⟩
theorem sess_or (r : RB v (M 1)) (x : Int32) : (∃ i k, i < cN (M 1) 10 ∧ i < 12 ∧ k < hN (M 1) i 4 ∧ k < 20 ∧ x = nI (20 * i + k) ∧ f_X0_hireOfSession v x = some (some i) ∧ f_X8_isSession M x = some 1) ∨ (f_X0_hireOfSession v x = some none ∧ f_X8_isSession M x = some 0) := by
  have hh := r.m12
  unfold f_X0_hireOfSession
  by_cases h0 : x < 0
  · exact Or.inr ⟨by rw [if_neg (fa_of_lt h0).2.1], m_isSession_neg h0⟩
  · obtain ⟨n, hn, rfl⟩ := nI_of h0
    rw [m_isSession hn hh r.wm (fun i hi => r.g hi), if_pos (nI_pos' hn), nn_rem hn, nn_div hn]
    rcases Nat.lt_or_ge (n / 20) (cN (M 1) 10) with h1 | h1
    · rw [c_hireAt_in r h1, xbs, xo_s, xgp (by omega)]
      have g := r.g h1
      have e4 : v (6 + 2 * (n / 20)) 5 = nI (hN (M 1) (n / 20) 4) := (r.h h1).1.2.2.2.2.1.trans (g.1 4 (by decide))
      have h20 := g.2.2.2.2.2.2.2.1
      rw [e4]
      rcases Nat.lt_or_ge (n % 20) (hN (M 1) (n / 20) 4) with h2 | h2
      · refine Or.inl ⟨n / 20, n % 20, h1, by omega, h2, by omega, by congr 1; omega, ?_, by rw [if_pos ⟨h1, h2⟩]⟩
        rw [if_neg (nI_ge h2 (by omega))]
      · refine Or.inr ⟨?_, by rw [if_neg (by omega)]⟩
        rw [if_pos (nI_le h2 (by omega))]
    · refine Or.inr ⟨?_, by rw [if_neg (by omega)]⟩
      rw [c_hireAt_out r (Or.inr (nI_le h1 (by omega))), xbs, xo_n]
end
section
variable {v : xV} {w : Nat → Int32}
/-- hire i has a session on day d that is not cancelled; which -/
def kOn (w : Nat → Int32) (i d : Nat) : Nat := (d - hN w i 5) / hN w i 6
def onB (w : Nat → Int32) (i d : Nat) : Bool := decide (i < cN w 10) && (decide (hN w i 5 ≤ d) && (decide ((d - hN w i 5) % hN w i 6 = 0) && (decide (kOn w i d < hN w i 4) && !decide (hN w i (12 + kOn w i d) = 2))))
theorem onB_iff {i d : Nat} (hi : i < cN w 10) (g : GH w i) : onB w i d = true ↔ ∃ k, k < hN w i 4 ∧ hN w i (12 + k) ≠ 2 ∧ hN w i 5 + k * hN w i 6 = d := by
  obtain ⟨-, -, -, -, -, -, -, -, g9, g10, -⟩ := g
  constructor
  · intro h
    unfold onB at h
    rw [Bool.and_eq_true, Bool.and_eq_true, Bool.and_eq_true, Bool.and_eq_true, decide_eq_true_iff, decide_eq_true_iff, decide_eq_true_iff, decide_eq_true_iff, Bool.not_eq_true', decide_eq_false_iff_not] at h
    obtain ⟨-, h1, h2, h3, h4⟩ := h
    refine ⟨kOn w i d, h3, h4, ?_⟩
    have e := Nat.div_add_mod (d - hN w i 5) (hN w i 6)
    rw [h2, Nat.mul_comm] at e
    unfold kOn
    omega
  · rintro ⟨k, h1, h2, h3⟩
    have e : d - hN w i 5 = k * hN w i 6 := by omega
    have ek : kOn w i d = k := by
      unfold kOn
      rw [e, Nat.mul_div_cancel _ (by omega)]
    unfold onB
    rw [ek, e, Nat.mul_mod_left]
    simp only [Bool.and_eq_true, decide_eq_true_iff, Bool.not_eq_true', decide_eq_false_iff_not]
    exact ⟨hi, by omega, trivial, h1, h2⟩
theorem kOn_eq {i d k : Nat} (g : GH w i) (h : hN w i 5 + k * hN w i 6 = d) : kOn w i d = k := by
  unfold kOn
  have h9 := g.2.2.2.2.2.2.2.2.1
  rw [show d - hN w i 5 = k * hN w i 6 by omega, Nat.mul_div_cancel _ (by omega)]
theorem onB_k {i d : Nat} (h : onB w i d = true) : kOn w i d < hN w i 4 ∧ hN w i (12 + kOn w i d) ≠ 2 := by
  unfold onB at h
  rw [Bool.and_eq_true, Bool.and_eq_true, Bool.and_eq_true, Bool.and_eq_true, decide_eq_true_iff, decide_eq_true_iff, decide_eq_true_iff, decide_eq_true_iff, Bool.not_eq_true', decide_eq_false_iff_not] at h
  exact ⟨h.2.2.2.1, h.2.2.2.2⟩
theorem onB_i {i d : Nat} (h : onB w i d = true) : i < cN w 10 := by
  unfold onB at h
  rw [Bool.and_eq_true, decide_eq_true_iff] at h
  exact h.1
theorem c_indexOn (r : RB v w) {i d : Nat} (hi : i < 12) (hd : d < 1000) : f_X1_indexOn v i (nI d) = some (if onB w i d = true then nI (kOn w i d) else -1) := by
  unfold f_X1_indexOn
  rw [xls]
  by_cases hm : i < cN w 10
  · obtain ⟨⟨-, -, -, -, e4, e5, e6, -⟩, -, -, b2, -⟩ := r.h hm
    have g := r.g hm
    have h364 := g.2.2.2.2.2.2.2.2.2.2.1
    have h60 := g.2.2.2.2.2.2.2.2.2.1
    have h1 := g.2.2.2.2.2.2.2.2.1
    have h20 := g.2.2.2.2.2.2.2.1
    rw [e4, e5, e6, g.1 4 (by decide), g.1 5 (by decide), g.1 6 (by decide), if_neg (show ¬ nI (hN w i 6) < (1 : Int32) from nI_nlt (a := hN w i 6) (b := 1) h1 (by omega))]
    by_cases h5 : hN w i 5 ≤ d
    · rw [pk_sub h5, if_neg (nI_pos (by omega)), xgp (nI_ne0 (by omega) (by omega)), pk_rem (by omega) (by omega) (by omega), pk_div (by omega) (by omega) (by omega)]
      by_cases hr : (d - hN w i 5) % hN w i 6 = 0
      · have hk : (d - hN w i 5) / hN w i 6 < 1000 := Nat.lt_of_le_of_lt (Nat.div_le_self _ _) (by omega)
        rw [hr, if_pos (show nI 0 = (0 : Int32) from rfl), xgp (nI_ne0 (by omega) (by omega)), xls]
        have hq : (d - hN w i 5) / hN w i 6 = kOn w i d := rfl
        rw [hq] at hk ⊢
        by_cases h4 : kOn w i d < hN w i 4
        · rw [if_neg (nI_ge h4 (by omega)), bm_bit b2 (by omega)]
          by_cases hs : hN w i (12 + kOn w i d) = 2
          · have hb : sB w i 2 (kOn w i d) = true := by
              unfold sB
              simp [h4, hs]
            rw [hb, if_pos rfl, if_neg (by decide)]
            have : onB w i d = false := by unfold onB; simp [hs]
            rw [this]
            rfl
          · have hb : sB w i 2 (kOn w i d) = false := by
              unfold sB
              simp [hs]
            rw [hb, if_pos (by decide)]
            have : onB w i d = true := by unfold onB; simp [hs, hm, h5, hr, h4]
            rw [this, if_pos rfl]
        · rw [if_pos (nI_le (by omega) (by omega))]
          have : onB w i d = false := by unfold onB; simp [h4]
          rw [this]
          rfl
      · rw [if_neg (nI_ne0 (by omega) (Nat.lt_of_le_of_lt (Nat.mod_le _ _) (by omega)))]
        have : onB w i d = false := by unfold onB; simp [hr]
        rw [this]
        rfl
    · rw [if_pos (pk_sneg (by omega) (by omega))]
      have : onB w i d = false := by unfold onB; simp [h5]
      rw [this]
      rfl
  · obtain ⟨-, e⟩ := r.e (by omega) hi
    rw [e 7 (by decide) (by decide), if_pos (by decide)]
    have : onB w i d = false := by unfold onB; simp [hm]
    rw [this]
    rfl
theorem c_isOn (r : RB v w) {i d : Nat} (hi : i < 12) (hd : d < 1000) : f_X1_isOn v i (nI d) = some (if onB w i d = true then 1 else 0) := by
  unfold f_X1_isOn
  rw [c_indexOn r hi hd, xbs]
  by_cases h : onB w i d = true
  · have hk := onB_k h
    have hm := onB_i h
    have h20 := (r.g hm).2.2.2.2.2.2.2.1
    rw [if_pos h, if_neg, if_pos h]
    intro e
    have : (nI (kOn w i d)).toInt = (-1 : Int32).toInt := by rw [e]
    rw [nI_toInt (by omega)] at this
    have e2 : (-1 : Int32).toInt = -1 := by decide
    omega
  · rw [if_neg h, if_pos rfl, if_neg h]
theorem c_stateOf (r : RB v w) {i k : Nat} (hi : i < cN w 10) (hk : k < hN w i 4) : f_X1_stateOf v i (nI k) = some (nI (hN w i (12 + k))) := by
  obtain ⟨-, -, b1, b2, -⟩ := r.h hi
  have g := r.g hi
  have h20 := g.2.2.2.2.2.2.2.1
  obtain ⟨-, h2, -⟩ := g.2.2.2.2.2.2.2.2.2.2.2.2.2.2.2.2.2 k hk
  unfold f_X1_stateOf
  rw [bm_bit b1 (by omega), bm_bit b2 (by omega)]
  unfold sB
  rcases (show hN w i (12 + k) = 0 ∨ hN w i (12 + k) = 1 ∨ hN w i (12 + k) = 2 by omega) with e | e | e <;> simp [e, hk] <;> rfl
theorem c_dayOf (r : RB v w) {i k : Nat} (hi : i < cN w 10) : f_X1_dayOf v i (nI k) = some (nI (hN w i 5 + k * hN w i 6)) := by
  obtain ⟨⟨-, -, -, -, -, e5, e6, -⟩, -⟩ := r.h hi
  have g := r.g hi
  unfold f_X1_dayOf
  rw [e5, e6, g.1 5 (by decide), g.1 6 (by decide), pk_mul, nI_add]
/-- what a session bears of the price -/
def shr (P : Int32) (n k : Nat) : Int32 := if P - P / nI n * nI n ≤ nI k then P / nI n + 0 else P / nI n + 1
theorem c_shareOf (r : RB v w) {i k : Nat} (hi : i < cN w 10) : f_X1_shareOf v i (nI k) = some (shr (w (52 + 64 * i + 7)) (hN w i 4) k) := by
  obtain ⟨⟨-, -, -, -, e4, -, -, e7⟩, -⟩ := r.h hi
  have g := r.g hi
  have h1 := g.2.2.2.2.2.2.1
  have h20 := g.2.2.2.2.2.2.2.1
  unfold f_X1_shareOf shr
  rw [e4, e7, g.1 4 (by decide), if_pos (show (1 : Int32) ≤ nI (hN w i 4) from nI_le (a := 1) h1 (by omega)), xgp (nI_ne0 (by omega) (by omega)), xgp (nI_ne0 (by omega) (by omega))]
  split <;> rfl
theorem m_shareOf {M : xV} {i k : Nat} (hi : i < 12) (hk : k < 20) (g : GH (M 1) i) : f_X8_shareOf M (nI (20 * i + k)) = some (shr (M 1 (52 + 64 * i + 7)) (hN (M 1) i 4) k) := by
  have h1 := g.2.2.2.2.2.2.1
  have h20 := g.2.2.2.2.2.2.2.1
  unfold f_X8_shareOf shr
  rw [nn_rem (by omega), nn_div (by omega), show (20 * i + k) / 20 = i by omega, show (20 * i + k) % 20 = k by omega, xls, show (7 : Int32) = nI 7 from rfl, m_of (by omega), xbs, show (4 : Int32) = nI 4 from rfl, m_of (by omega), xbs, g.1 4 (by decide), xgp (nI_ne0 (by omega) (by omega)), xgp (nI_ne0 (by omega) (by omega))]
  split <;> rfl
/-- what a cancelling on this day gives back -/
def rfd2 (w : Nat → Int32) (i k : Nat) : Int32 := if nI (hN w i 5 + k * hN w i 6) - w 0 < 14 then if nI (hN w i 5 + k * hN w i 6) - w 0 < 7 then 0 else shr (w (52 + 64 * i + 7)) (hN w i 4) k / 2 else shr (w (52 + 64 * i + 7)) (hN w i 4) k
theorem c_refundOf (r : RB v w) {i k : Nat} (hi : i < cN w 10) : f_X1_refundOf v i (nI k) (v 0 0) = some (rfd2 w i k) := by
  unfold f_X1_refundOf rfd2
  rw [c_dayOf r hi, xbs, xls, c_shareOf r hi, xbs, xbs, r.2.2.1.1]
  split
  · split <;> rfl
  · rfl
theorem m_refundOf {M : xV} {i k : Nat} (hi : i < 12) (hk : k < 20) (g : GH (M 1) i) : f_X8_refundOf M (nI (20 * i + k)) = some (rfd2 (M 1) i k) := by
  unfold f_X8_refundOf rfd2
  rw [m_dayOf hi hk g, xbs, xls, m_shareOf hi hk g, xbs, xbs]
  split
  · split <;> rfl
  · rfl
theorem daysL (r : RB v w) {j : Nat} (hj : j < 6) : f_X3_daysLate v j (v 0 0) = some (if w (40 + 2 * j) = -1 then 0 else if w 0 ≤ w (40 + 2 * j + 1) then 0 else w 0 - w (40 + 2 * j + 1)) := by
  unfold f_X3_daysLate
  rw [r.key hj]
  by_cases h : w (40 + 2 * j) = -1
  · rw [if_pos h, if_pos h]
  · rw [if_neg h, if_neg h, r.due hj h, r.2.2.1.1]
    rcases r.gk hj with q | ⟨i, due, -, h1, -, h2⟩
    · exact absurd q h
    · have hd := r.d400
      rw [h2, r.wd]
      by_cases h3 : cN w 0 ≤ due
      · rw [if_pos (nI_le h3 (by omega)), if_neg]
        intro q
        rw [fa_lt, pk_sub_toInt (by omega) (by omega)] at q
        have e0 : (0 : Int32).toInt = 0 := by decide
        omega
      · rw [if_neg (nI_ge (by omega) (by omega)), pk_sub (by omega), if_pos (show (0 : Int32) < nI (cN w 0 - due) from nI_lt (a := 0) (by omega) (by omega))]
theorem m_lateBy {M : xV} {j : Nat} (hj : j < 6) : f_X8_lateBy M (nI j) = some (if M 1 (40 + 2 * j) = -1 then 0 else if M 1 0 ≤ M 1 (40 + 2 * j + 1) then 0 else M 1 0 - M 1 (40 + 2 * j + 1)) := by
  unfold f_X8_lateBy
  rw [show (2 : Int32) = nI 2 from rfl, show (40 : Int32) = nI 40 from rfl, pk_mul, nI_add, nI_1, xgi (by omega) (by decide), xgi (by omega) (by decide), xgi (by omega) (by decide), nI_clamp (by omega), nI_clamp (by omega)]
  split
  · rfl
  · split <;> rfl
end
