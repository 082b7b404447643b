/-! ===== PURE 6: prices, clashes ===== -/
/-- a loop upwards from a to N -/
theorem xup2 {β : Type} (Lp : Nat → Nat → β) (r : β) (a N : Nat) (hs : ∀ n k, a ≤ k → k < N → Lp (n + 1) k = Lp n (k + 1)) (h0 : ∀ n, Lp (n + 1) N = r) : ∀ d k n, a ≤ k → k + d = N → d < n → Lp n k = r
  | 0, k, 0, _, _, h => absurd h (Nat.not_lt_zero _)
  | 0, k, n + 1, _, hk, _ => by
    have : k = N := by omega
    subst this
    exact h0 n
  | d + 1, k, 0, _, _, h => absurd h (Nat.not_lt_zero _)
  | d + 1, k, n + 1, ha, hk, h => by
    rw [hs n k ha (by omega)]
    exact xup2 Lp r a N hs h0 d (k + 1) n (by omega) (by omega) (by omega)
/-- what one room costs from f to t -/
def pX (w : Nat → Int32) (f t k : Nat) : Int32 := w (1 + k) * nI (t - f) + (w (1 + k) * w 4 / 100) * nI (t - max f 18)
def pR (w : Nat → Int32) (rooms : Int32) (f t k : Nat) : Int32 := if ((rooms >>> (nI k &&& 31)) &&& 1) = 1 then pX w f t k else 0
def pS (w : Nat → Int32) (rooms : Int32) (f t : Nat) : Int32 := sI (pR w rooms f t) 3
def pP (w : Nat → Int32) (rooms : Int32) (f t n : Nat) : Int32 := nI n * pS w rooms f t - (nI n * pS w rooms f t * dcI n) / 100
theorem mul_s (x : Int32) (n : Nat) : x * nI (n + 1) = x * nI n + x := by rw [nI_succ, Int32.mul_add, Int32.mul_one]
theorem mul_z (x : Int32) : x * nI 0 = 0 := Int32.mul_zero
section
variable {v : xV} {w : Nat → Int32}
theorem c_priceOf (r : RB v w) {wv : xV} {f t n : Nat} (hf : wv 0 2 = nI f) (ht : wv 0 3 = nI t) (hn : wv 0 5 = nI n) (hft : f < t) (ht24 : t ≤ 24) (hn20 : n ≤ 20) : f_X0_priceOf v wv = some (pP w (wv 0 1) f t n) := by
  have e1 : f_X0_priceOfSession v wv = some (pS w (wv 0 1) f t) := by
    unfold f_X0_priceOfSession
    rw [xls, xls, hf, ht, pk_sub (by omega)]
    have e2 : (if nI f < 18 then (18 : Int32) else nI f) = nI (max f 18) := by
      by_cases h : f < 18
      · rw [if_pos (show nI f < (18 : Int32) from nI_lt (b := 18) h (by decide)), show max f 18 = 18 by omega]
        rfl
      · rw [if_neg (show ¬ nI f < (18 : Int32) from nI_nlt (b := 18) (by omega) (by omega)), show max f 18 = f by omega]
    have e3 : (if 0 < nI t - nI (max f 18) then nI t - nI (max f 18) else 0) = nI (t - max f 18) := by
      by_cases h : max f 18 < t
      · rw [pk_sub (by omega), if_pos (show (0 : Int32) < nI (t - max f 18) from nI_lt (a := 0) (by omega) (by omega))]
      · rw [if_neg, show t - max f 18 = 0 by omega]
        · rfl
        · intro q
          rw [fa_lt, pk_sub_toInt (by omega) (by omega)] at q
          have e0 : (0 : Int32).toInt = 0 := by decide
          omega
    rw [e2, e3]
    unfold pS
    refine xup0 (fun n k => L_X0_priceOfSession_35 _ v wv (nI (t - f)) (nI (t - max f 18)) n (sI (pR w (wv 0 1) f t) k) (nI k)) _ 3 (fun n k hk => ?_) (fun n => ?_) (by decide)
    · rw [L_X0_priceOfSession_35, if_neg (show ¬ (3 : Int32) ≤ nI k from nI_ge (b := 3) hk (by decide)), sI_succ]
      simp only [xls, xgi (show k < 8 by omega) (show 8 < 2 ^ 31 by decide), nI_1, nI_clamp (show k < 2 ^ 31 by omega), r.set (show k < 8 by omega), r.set (show 3 < 8 by decide)]
      unfold pR
      split
      · rfl
      · rw [Int32.add_zero]
    · rw [L_X0_priceOfSession_35, if_pos (show (3 : Int32) ≤ nI 3 from by decide)]
  unfold f_X0_priceOf
  rw [e1, xbs, xls, hn, dc_eq (by omega), xbs]
  rfl
end
theorem m_priceOf (M : xV) {rooms p2 p3 p4 : Int32} {f t n : Nat} (hf : p2 = nI f) (ht : p3 = nI t) (hn : p4 = nI n) (hft : f < t) (ht24 : t ≤ 24) (hn20 : n ≤ 20) : f_X8_priceOf M rooms p2 p3 p4 = some (pP (M 1) rooms f t n) := by
  subst hf ht hn
  have e1 : f_X8_sessionPrice M rooms (nI f) (nI t) = some (pS (M 1) rooms f t) := by
    unfold f_X8_sessionPrice pS
    refine xup0 (fun n k => L_X8_sessionPrice_6 _ M rooms (nI f) (nI t) n (sI (pR (M 1) rooms f t) k) (nI k)) _ 3 (fun n k hk => ?_) (fun n => ?_) (by decide)
    · rw [L_X8_sessionPrice_6, if_neg (show ¬ (3 : Int32) ≤ nI k from nI_ge (b := 3) hk (by decide)), sI_succ]
      by_cases hb : ((rooms >>> (nI k &&& 31)) &&& 1) = 1
      · have e : ∀ K : Int32 → Int32 → Option Int32, ∀ a : Int32, L_X8_sessionPrice_15 K M rooms (nI t) (nI k) 100000 a (nI f) = K (a + pX (M 1) f t k) (nI t) := fun K a => by
          have z : a = a + ((M 1 (1 + k)) * nI (f - f) + (M 1 (1 + k) * M 1 4 / 100) * nI (f - max f 18)) := by
            rw [Nat.sub_self, show f - max f 18 = 0 by omega, mul_z, mul_z, Int32.add_zero, Int32.add_zero]
          conv => lhs; rw [z]
          refine xup2 (fun n j => L_X8_sessionPrice_15 K M rooms (nI t) (nI k) n (a + ((M 1 (1 + k)) * nI (j - f) + (M 1 (1 + k) * M 1 4 / 100) * nI (j - max f 18))) (nI j)) _ f t (fun n j hj1 hj2 => ?_) (fun n => ?_) (t - f) f 100000 (Nat.le_refl _) (by omega) (by omega)
          · rw [L_X8_sessionPrice_15, if_neg (nI_ge hj2 (by omega)), if_pos hb, show (1 : Int32) + nI k = nI (1 + k) from nI_add 1 k, xgi (by omega) (by decide), nI_clamp (by omega), xls]
            simp only [xls, nI_1]
            by_cases h : 18 ≤ j
            · rw [if_pos (show (18 : Int32) ≤ nI j from nI_le (a := 18) h (by omega)), show j + 1 - f = (j - f) + 1 by omega, show j + 1 - max f 18 = (j - max f 18) + 1 by omega, mul_s, mul_s]
              congr 1
              ac_rfl
            · rw [if_neg (show ¬ (18 : Int32) ≤ nI j from nI_ge (b := 18) (by omega) (by decide)), show j + 1 - f = (j - f) + 1 by omega, show j + 1 - max f 18 = j - max f 18 by omega, mul_s, Int32.add_zero]
              congr 1
              ac_rfl
          · rw [L_X8_sessionPrice_15, if_pos (nI_le (Nat.le_refl _) (by omega))]
            rfl
        rw [e, xls, nI_1]
        unfold pR
        rw [if_pos hb]
      · have e : ∀ K : Int32 → Int32 → Option Int32, ∀ a : Int32, L_X8_sessionPrice_15 K M rooms (nI t) (nI k) 100000 a (nI f) = K a (nI t) := fun K a => by
          refine xup2 (fun n j => L_X8_sessionPrice_15 K M rooms (nI t) (nI k) n a (nI j)) _ f t (fun n j hj1 hj2 => ?_) (fun n => ?_) (t - f) f 100000 (Nat.le_refl _) (by omega) (by omega)
          · rw [L_X8_sessionPrice_15, if_neg (nI_ge hj2 (by omega)), if_neg hb]
            simp only [xls, nI_1]
            have z1 : (0 : Int32) + ((0 * M 1 4) / 100) = 0 := by rw [Int32.zero_mul]; decide
            rw [z1, Int32.add_zero]
            split <;> rfl
          · rw [L_X8_sessionPrice_15, if_pos (nI_le (Nat.le_refl _) (by omega))]
        rw [e, xls, nI_1]
        unfold pR
        rw [if_neg hb, Int32.add_zero]
    · rw [L_X8_sessionPrice_6, if_pos (show (3 : Int32) ≤ nI 3 from by decide)]
  unfold f_X8_priceOf
  rw [e1, xbs, xls, dc_8, dc_eq (by omega), xbs]
  rfl
/-! clashes -/
def gI (w : Nat → Int32) (hirer : Int32) (i : Nat) : Int32 := if w (52 + 64 * i + 0) = hirer then 0 else w 5
/-- hire i stands against a wish on day d -/
def cand (w : Nat → Int32) (hirer rooms from_ to_ : Int32) (d i : Nat) : Bool := onB w i d && (!decide (w (52 + 64 * i + 1) &&& rooms = 0) && (!decide (w (52 + 64 * i + 3) + gI w hirer i ≤ from_) && !decide (to_ + gI w hirer i ≤ w (52 + 64 * i + 2))))
def bst (w : Nat → Int32) (hirer rooms from_ to_ : Int32) (d : Nat) : Nat → Option Nat
  | 0 => none
  | i + 1 => if cand w hirer rooms from_ to_ d i = true then
      (match bst w hirer rooms from_ to_ d i with
       | none => some i
       | some b => if w (52 + 64 * i + 2) < w (52 + 64 * b + 2) then some i else some b)
    else bst w hirer rooms from_ to_ d i
theorem bst_s (w : Nat → Int32) (hirer rooms from_ to_ : Int32) (d i : Nat) : bst w hirer rooms from_ to_ d (i + 1) = if cand w hirer rooms from_ to_ d i = true then
      (match bst w hirer rooms from_ to_ d i with
       | none => some i
       | some b => if w (52 + 64 * i + 2) < w (52 + 64 * b + 2) then some i else some b)
    else bst w hirer rooms from_ to_ d i := rfl
/-- its number, or -1 -/
def sOf (w : Nat → Int32) (d : Nat) (o : Option Nat) : Int32 := match o with
  | none => -1
  | some b => nI (20 * b + kOn w b d)
section
variable {w : Nat → Int32} {hirer rooms from_ to_ : Int32} {d : Nat}
theorem bst_lt : ∀ {n b : Nat}, bst w hirer rooms from_ to_ d n = some b → b < n ∧ cand w hirer rooms from_ to_ d b = true
  | 0, b, h => by cases h
  | n + 1, b, h => by
    rw [bst_s] at h
    by_cases c : cand w hirer rooms from_ to_ d n = true
    · rw [if_pos c] at h
      cases q : bst w hirer rooms from_ to_ d n with
      | none =>
        rw [q] at h
        cases h
        exact ⟨Nat.lt_succ_self _, c⟩
      | some b' =>
        rw [q] at h
        have ih := bst_lt q
        dsimp only at h
        by_cases c2 : w (52 + 64 * n + 2) < w (52 + 64 * b' + 2)
        · rw [if_pos c2] at h
          cases h
          exact ⟨Nat.lt_succ_self _, c⟩
        · rw [if_neg c2] at h
          cases h
          exact ⟨Nat.lt_succ_of_lt ih.1, ih.2⟩
    · rw [if_neg c] at h
      have ih := bst_lt h
      exact ⟨Nat.lt_succ_of_lt ih.1, ih.2⟩
theorem cand_on {i : Nat} (h : cand w hirer rooms from_ to_ d i = true) : onB w i d = true := by
  unfold cand at h
  rw [Bool.and_eq_true] at h
  exact h.1
theorem bst_12 {m n : Nat} (hm : m ≤ n) (h : ∀ i, m ≤ i → cand w hirer rooms from_ to_ d i = false) : bst w hirer rooms from_ to_ d n = bst w hirer rooms from_ to_ d m := by
  obtain ⟨e, rfl⟩ := Nat.exists_eq_add_of_le hm
  clear hm
  induction e with
  | zero => rfl
  | succ e ih =>
    rw [← Nat.add_assoc]
    rw [bst_s]
    rw [if_neg (by rw [h (m + e) (by omega)]; decide)]
    exact ih
theorem bst_none : ∀ {n : Nat}, bst w hirer rooms from_ to_ d n = none ↔ ∀ i, i < n → cand w hirer rooms from_ to_ d i = false
  | 0 => ⟨fun _ i hi => absurd hi (Nat.not_lt_zero _), fun _ => rfl⟩
  | n + 1 => by
    have ih := bst_none (n := n)
    constructor
    · intro h i hi
      rw [bst_s] at h
      by_cases c : cand w hirer rooms from_ to_ d n = true
      · rw [if_pos c] at h
        cases q : bst w hirer rooms from_ to_ d n with
        | none => rw [q] at h; cases h
        | some b =>
          rw [q] at h
          dsimp only at h
          split at h <;> cases h
      · rw [if_neg c] at h
        rcases Nat.lt_or_ge i n with q | q
        · exact ih.mp h i q
        · have : i = n := by omega
          subst this
          exact Bool.eq_false_iff.mpr c
    · intro h
      rw [bst_s]
      rw [if_neg (by rw [h n (Nat.lt_succ_self _)]; decide)]
      exact ih.mpr fun i hi => h i (Nat.lt_succ_of_lt hi)
theorem cand_m {i : Nat} (h : cand w hirer rooms from_ to_ d i = true) : i < cN w 10 := onB_i (cand_on h)
end
section
variable {v : xV} {w : Nat → Int32}
theorem c_stands (r : RB v w) {wv : xV} {i : Nat} (hi : i < cN w 10) {d : Nat} (ho : onB w i d = true) : f_X0_standsAgainst v wv i = some (if cand w (wv 0 0) (wv 0 1) (wv 0 2) (wv 0 3) d i = true then 1 else 0) := by
  obtain ⟨⟨v1, v2, v3, v4, -, -, -, -⟩, -, -, -, -⟩ := r.h hi
  unfold f_X0_standsAgainst cand gI
  rw [v1, v2, v3, v4, ho, r.set (show 4 < 8 by decide)]
  by_cases h0 : w (52 + 64 * i + 0) = wv 0 0
  · rw [if_pos h0, if_pos h0]
    by_cases h1 : w (52 + 64 * i + 1) &&& wv 0 1 = 0
    · simp [h1]
    · by_cases h2 : w (52 + 64 * i + 3) + 0 ≤ wv 0 2
      · simp only [if_neg h1, if_pos h2, h1, h2, decide_true, decide_false, Bool.not_true, Bool.and_false, Bool.false_and, Bool.true_and, Bool.not_false, if_false]
        rfl
      · by_cases h3 : wv 0 3 + 0 ≤ w (52 + 64 * i + 2)
        · simp only [if_neg h1, if_neg h2, if_pos h3, h1, h2, h3, decide_true, decide_false, Bool.not_true, Bool.and_false, Bool.false_and, Bool.true_and, Bool.not_false]
          rfl
        · simp only [if_neg h1, if_neg h2, if_neg h3, h1, h2, h3, decide_true, decide_false, Bool.not_true, Bool.and_false, Bool.false_and, Bool.true_and, Bool.not_false, Bool.and_true]
          rfl
  · rw [if_neg h0, if_neg h0, xls]
    by_cases h1 : w (52 + 64 * i + 1) &&& wv 0 1 = 0
    · simp [h1]
    · by_cases h2 : w (52 + 64 * i + 3) + w (1 + 4) ≤ wv 0 2
      · simp only [if_neg h1, if_pos h2, h1, h2, show w 5 = w (1 + 4) from rfl, decide_true, decide_false, Bool.not_true, Bool.and_false, Bool.false_and, Bool.true_and, Bool.not_false]
        rfl
      · by_cases h3 : wv 0 3 + w (1 + 4) ≤ w (52 + 64 * i + 2)
        · simp only [if_neg h1, if_neg h2, if_pos h3, h1, h2, h3, show w 5 = w (1 + 4) from rfl, decide_true, decide_false, Bool.not_true, Bool.and_false, Bool.false_and, Bool.true_and, Bool.not_false]
          rfl
        · simp only [if_neg h1, if_neg h2, if_neg h3, h1, h2, h3, show w 5 = w (1 + 4) from rfl, decide_true, decide_false, Bool.not_true, Bool.and_false, Bool.false_and, Bool.true_and, Bool.not_false, Bool.and_true]
          rfl
theorem c_clashOn (r : RB v w) {wv : xV} {d : Nat} (hd : d < 1000) : f_X0_clashOn v wv (nI d) = some (sOf w d (bst w (wv 0 0) (wv 0 1) (wv 0 2) (wv 0 3) d 12)) := by
  have h12 := r.m12
  unfold f_X0_clashOn
  refine xup0 (fun n k => L_X0_clashOn_16 _ v wv (nI d) n (bst w (wv 0 0) (wv 0 1) (wv 0 2) (wv 0 3) d k) (nI k)) _ 12 (fun n k hk => ?_) (fun n => ?_) (by decide)
  · rw [L_X0_clashOn_16, if_neg (show ¬ (12 : Int32) ≤ nI k from nI_ge (b := 12) hk (by decide)), xgi hk (by decide), xls, nI_clamp (by omega), c_isOn r hk hd, xbs]
    simp only [xls, nI_1]
    conv => rhs; rw [bst_s]
    by_cases ho : onB w k d = true
    · have hm := onB_i ho
      rw [if_pos ho, i10, c_stands r hm ho, xbs]
      by_cases hc : cand w (wv 0 0) (wv 0 1) (wv 0 2) (wv 0 3) d k = true
      · rw [if_pos hc, i10, if_pos hc]
        cases q : bst w (wv 0 0) (wv 0 1) (wv 0 2) (wv 0 3) d k with
        | none => rfl
        | some b =>
          obtain ⟨hb, hcb⟩ := bst_lt q
          have hbm := cand_m hcb
          rw [xo_s, xgp (show b < 12 by omega)]
          unfold f_X1_isAheadOnDay
          rw [(r.h hm).1.2.2.1, (r.h hbm).1.2.2.1, r.num hk, r.num (show b < 12 by omega)]
          dsimp only
          by_cases c1 : w (52 + 64 * k + 2) < w (52 + 64 * b + 2)
          · rw [if_pos c1, xbs, i10, if_pos c1]
          · rw [if_neg c1, if_neg c1, if_pos (nI_le (by omega) (by omega))]
            split <;> rw [xbs, i00]
      · rw [if_neg hc, i00, if_neg hc]
    · have hc : ¬ cand w (wv 0 0) (wv 0 1) (wv 0 2) (wv 0 3) d k = true := fun q => ho (cand_on q)
      rw [if_neg ho, i00, if_neg hc]
  · rw [L_X0_clashOn_16, if_pos (show (12 : Int32) ≤ nI 12 from by decide)]
    cases q : bst w (wv 0 0) (wv 0 1) (wv 0 2) (wv 0 3) d 12 with
    | none => rfl
    | some b =>
      obtain ⟨hb, hcb⟩ := bst_lt q
      have hbm := cand_m hcb
      rw [xo_s, xgp hb]
      unfold f_X0_sessionNumber sOf
      rw [c_indexOn r hb hd, xbs, xbs, if_pos (cand_on hcb), r.num hb, show (20 : Int32) = nI 20 from rfl, pk_mul, nI_add, Nat.mul_comm]
end
section
variable {v M : xV}
theorem m_clashes (r : RB v (M 1)) {i k d : Nat} {hirer rooms from_ to_ : Int32} (hi : i < cN (M 1) 10) (hk : k < hN (M 1) i 4) (hd : d < 1000) : f_X8_clashes M (nI (20 * i + k)) hirer rooms (nI d) from_ to_ = some (if cand (M 1) hirer rooms from_ to_ d i = true ∧ kOn (M 1) i d = k then 1 else 0) := by
  have g := r.g hi
  have h12 := r.m12
  have h20 := g.2.2.2.2.2.2.2.1
  have h364 := g.2.2.2.2.2.2.2.2.2.2.1
  have gk := g.2.2.2.2.2.2.2.2.2.2.2.2.2.2.2.2.2 k hk
  have o0 : f_X8_of M (nI i) 0 = some (M 1 (52 + 64 * i + 0)) := m_of (k := 0) (by omega)
  have o1 : f_X8_of M (nI i) 1 = some (M 1 (52 + 64 * i + 1)) := m_of (k := 1) (by omega)
  have o2 : f_X8_of M (nI i) 2 = some (M 1 (52 + 64 * i + 2)) := m_of (k := 2) (by omega)
  have o3 : f_X8_of M (nI i) 3 = some (M 1 (52 + 64 * i + 3)) := m_of (k := 3) (by omega)
  have hkp : hN (M 1) i 5 + k * hN (M 1) i 6 ≤ 364 := by
    have : k * hN (M 1) i 6 ≤ (hN (M 1) i 4 - 1) * hN (M 1) i 6 := Nat.mul_le_mul_right _ (by omega)
    omega
  unfold f_X8_clashes
  rw [nn_div (by omega), show (20 * i + k) / 20 = i by omega, xls, o0, xbs, m_stateOf (by omega) (by omega), m_dayOf (by omega) (by omega) g, gk.1, o1, o2, o3]
  simp only [xbs, xls]
  by_cases hs : hN (M 1) i (12 + k) = 2
  · have hc : ¬ (cand (M 1) hirer rooms from_ to_ d i = true ∧ kOn (M 1) i d = k) := fun q => by
      have := (onB_k (cand_on q.1)).2
      rw [q.2] at this
      exact this hs
    rw [hs, if_neg hc]
    simp only [if_pos (show nI 2 = (2 : Int32) from rfl)]
    split <;> rfl
  · have hs' : ¬ nI (hN (M 1) i (12 + k)) = 2 := ne_lit (b := 2) hs (by omega) (by decide)
    simp only [if_neg hs']
    by_cases he : hN (M 1) i 5 + k * hN (M 1) i 6 = d
    · have ho : onB (M 1) i d = true := (onB_iff hi g).mpr ⟨k, hk, hs, he⟩
      have hko := kOn_eq g he
      rw [he, if_pos rfl, if_pos rfl]
      unfold cand gI
      rw [ho, hko]
      simp only [Bool.true_and, and_true]
      by_cases h0 : M 1 (52 + 64 * i + 0) = hirer
      · simp only [if_pos h0]
        by_cases h1 : M 1 (52 + 64 * i + 1) &&& rooms = 0
        · simp [h1]
        · by_cases h2 : M 1 (52 + 64 * i + 3) + 0 ≤ from_
          · simp only [if_neg h1, if_pos h2, h1, h2, decide_true, decide_false, Bool.not_true, Bool.and_false, Bool.false_and, Bool.true_and, Bool.not_false]
            rfl
          · by_cases h3 : to_ + 0 ≤ M 1 (52 + 64 * i + 2)
            · simp only [if_neg h1, if_neg h2, if_pos h3, h1, h2, h3, decide_true, decide_false, Bool.not_true, Bool.and_false, Bool.false_and, Bool.true_and, Bool.not_false]
              rfl
            · simp only [if_neg h1, if_neg h2, if_neg h3, h1, h2, h3, decide_true, decide_false, Bool.not_true, Bool.and_false, Bool.false_and, Bool.true_and, Bool.not_false, Bool.and_true]
              rfl
      · simp only [if_neg h0]
        by_cases h1 : M 1 (52 + 64 * i + 1) &&& rooms = 0
        · simp [h1]
        · by_cases h2 : M 1 (52 + 64 * i + 3) + M 1 5 ≤ from_
          · simp only [if_neg h1, if_pos h2, h1, h2, decide_true, decide_false, Bool.not_true, Bool.and_false, Bool.false_and, Bool.true_and, Bool.not_false]
            rfl
          · by_cases h3 : to_ + M 1 5 ≤ M 1 (52 + 64 * i + 2)
            · simp only [if_neg h1, if_neg h2, if_pos h3, h1, h2, h3, decide_true, decide_false, Bool.not_true, Bool.and_false, Bool.false_and, Bool.true_and, Bool.not_false]
              rfl
            · simp only [if_neg h1, if_neg h2, if_neg h3, h1, h2, h3, decide_true, decide_false, Bool.not_true, Bool.and_false, Bool.false_and, Bool.true_and, Bool.not_false, Bool.and_true]
              rfl
    · have hne : ¬ nI (hN (M 1) i 5 + k * hN (M 1) i 6) = nI d := ne_lit he (by omega) (by omega)
      have hc : ¬ (cand (M 1) hirer rooms from_ to_ d i = true ∧ kOn (M 1) i d = k) := fun q => by
        obtain ⟨k', h1, h2, h3⟩ := (onB_iff hi g).mp (cand_on q.1)
        have := kOn_eq g h3
        rw [q.2] at this
        subst this
        exact he h3
      simp only [if_neg hne, if_neg hc]
      split <;> rfl
theorem m_clashOn (r : RB v (M 1)) {d : Nat} {hirer rooms from_ to_ : Int32} (hd : d < 1000) : f_X8_clashOn M hirer rooms (nI d) from_ to_ = some (sOf (M 1) d (bst (M 1) hirer rooms from_ to_ d 12)) := by
  have h12 := r.m12
  rw [bst_12 (m := cN (M 1) 10) h12 (fun i hi => Bool.eq_false_iff.mpr fun q => by have := cand_m q; omega)]
  unfold f_X8_clashOn
  refine xup0 (fun n k => L_X8_clashOn_6 _ M hirer rooms (nI d) from_ to_ n (sOf (M 1) d (bst (M 1) hirer rooms from_ to_ d k)) (nI k)) _ (cN (M 1) 10) (fun n i hi => ?_) (fun n => ?_) (by omega)
  · have g := r.g hi
    have h20 := g.2.2.2.2.2.2.2.1
    rw [L_X8_clashOn_6, r.wm, if_neg (nI_ge hi (by omega))]
    have o2 : f_X8_of M (nI i) 2 = some (M 1 (52 + 64 * i + 2)) := m_of (k := 2) (by omega)
    have o4 : f_X8_of M (nI i) 4 = some (nI (hN (M 1) i 4)) := (m_of (k := 4) (by omega)).trans (by rw [g.1 4 (by decide)])
    have e : ∀ K : Int32 → Int32 → Option Int32, L_X8_clashOn_21 K M hirer rooms (nI d) from_ to_ (nI i) 100000 (sOf (M 1) d (bst (M 1) hirer rooms from_ to_ d i)) 0 = K (sOf (M 1) d (bst (M 1) hirer rooms from_ to_ d (i + 1))) (nI (hN (M 1) i 4)) := fun K => by
      have q : L_X8_clashOn_21 K M hirer rooms (nI d) from_ to_ (nI i) 100000 (if cand (M 1) hirer rooms from_ to_ d i = true ∧ kOn (M 1) i d < 0 then sOf (M 1) d (bst (M 1) hirer rooms from_ to_ d (i + 1)) else sOf (M 1) d (bst (M 1) hirer rooms from_ to_ d i)) (nI 0) = K (if cand (M 1) hirer rooms from_ to_ d i = true ∧ kOn (M 1) i d < hN (M 1) i 4 then sOf (M 1) d (bst (M 1) hirer rooms from_ to_ d (i + 1)) else sOf (M 1) d (bst (M 1) hirer rooms from_ to_ d i)) (nI (hN (M 1) i 4)) := by
        refine xup0 (fun n k => L_X8_clashOn_21 K M hirer rooms (nI d) from_ to_ (nI i) n (if cand (M 1) hirer rooms from_ to_ d i = true ∧ kOn (M 1) i d < k then sOf (M 1) d (bst (M 1) hirer rooms from_ to_ d (i + 1)) else sOf (M 1) d (bst (M 1) hirer rooms from_ to_ d i)) (nI k)) _ (hN (M 1) i 4) (fun n k hk => ?_) (fun n => ?_) (n := 100000) (by omega)
        · rw [L_X8_clashOn_21, o4, xbs, if_neg (nI_ge hk (by omega)), xls, show (20 : Int32) * nI i + nI k = nI (20 * i + k) by rw [show (20 : Int32) = nI 20 from rfl, pk_mul, nI_add], m_clashes r hi hk hd, xbs]
          simp only [xls, nI_1]
          by_cases hc : cand (M 1) hirer rooms from_ to_ d i = true
          · rcases Nat.lt_trichotomy (kOn (M 1) i d) k with q | q | q
            · rw [if_pos (⟨hc, q⟩ : _ ∧ _), if_neg (fun z => by omega : ¬ (cand (M 1) hirer rooms from_ to_ d i = true ∧ kOn (M 1) i d = k)), i00, if_pos (⟨hc, by omega⟩ : _ ∧ _)]
            · rw [if_neg (fun z => by omega : ¬ (cand (M 1) hirer rooms from_ to_ d i = true ∧ kOn (M 1) i d < k)), if_pos (⟨hc, q⟩ : _ ∧ _), i10, if_pos (⟨hc, by omega⟩ : cand (M 1) hirer rooms from_ to_ d i = true ∧ kOn (M 1) i d < k + 1)]
              have eb : bst (M 1) hirer rooms from_ to_ d (i + 1) = (match bst (M 1) hirer rooms from_ to_ d i with
                  | none => some i
                  | some b => if M 1 (52 + 64 * i + 2) < M 1 (52 + 64 * b + 2) then some i else some b) := by
                conv => lhs; rw [bst_s]
                rw [if_pos hc]
              rw [eb]
              cases qb : bst (M 1) hirer rooms from_ to_ d i with
              | none =>
                unfold sOf
                dsimp only
                rw [if_pos rfl, q]
              | some b =>
                obtain ⟨hb, hcb⟩ := bst_lt qb
                have hbm := cand_m hcb
                have hko := (onB_k (cand_on hcb)).1
                have hb20 := (r.g hbm).2.2.2.2.2.2.2.1
                unfold sOf
                dsimp only
                rw [if_neg (fun z => nI_m1 (by omega) z.symm), o2, xbs, nn_div (by omega), show (20 * b + kOn (M 1) b d) / 20 = b by omega, show f_X8_of M (nI b) 2 = some (M 1 (52 + 64 * b + 2)) from m_of (k := 2) (by omega), xbs]
                by_cases c1 : M 1 (52 + 64 * i + 2) < M 1 (52 + 64 * b + 2)
                · rw [if_neg (fa_of_lt c1).2.1, if_pos c1]
                  dsimp only
                  rw [q]
                · rw [if_pos (fa_of_nlt c1), if_neg c1]
            · rw [if_neg (fun z => by omega : ¬ (cand (M 1) hirer rooms from_ to_ d i = true ∧ kOn (M 1) i d < k)), if_neg (fun z => by omega : ¬ (cand (M 1) hirer rooms from_ to_ d i = true ∧ kOn (M 1) i d = k)), i00, if_neg (fun z => by omega : ¬ (cand (M 1) hirer rooms from_ to_ d i = true ∧ kOn (M 1) i d < k + 1))]
          · rw [if_neg (fun z => hc z.1 : ¬ (cand (M 1) hirer rooms from_ to_ d i = true ∧ kOn (M 1) i d < k)), if_neg (fun z => hc z.1 : ¬ (cand (M 1) hirer rooms from_ to_ d i = true ∧ kOn (M 1) i d = k)), i00, if_neg (fun z => hc z.1 : ¬ (cand (M 1) hirer rooms from_ to_ d i = true ∧ kOn (M 1) i d < k + 1))]
        · rw [L_X8_clashOn_21, o4, xbs, if_pos (nI_le (Nat.le_refl _) (by omega))]
      rw [if_neg (fun z => Nat.not_lt_zero _ z.2 : ¬ (cand (M 1) hirer rooms from_ to_ d i = true ∧ kOn (M 1) i d < 0))] at q
      refine q.trans ?_
      congr 1
      by_cases hc : cand (M 1) hirer rooms from_ to_ d i = true
      · rw [if_pos ⟨hc, (onB_k (cand_on hc)).1⟩]
      · rw [if_neg (fun z => hc z.1)]
        conv => rhs; rw [bst_s]
        rw [if_neg hc]
    rw [e, xls, nI_1]
  · rw [L_X8_clashOn_6, r.wm, if_pos (nI_le (Nat.le_refl _) (by omega))]
/-- the clash of a series -/
theorem clashOf_eq (r : RB v (M 1)) {wv : xV} {d n p : Nat} (hd : wv 0 4 = nI d) (hn : wv 0 5 = nI n) (hp : wv 0 6 = nI p) (hn20 : n ≤ 20) (hl : d + (n - 1) * p ≤ 364) : ∃ x, f_X0_clashOf v wv = some x ∧ f_X8_clashOfAll M (wv 0 0) (wv 0 1) (nI d) (wv 0 2) (wv 0 3) (nI n) (nI p) = some x ∧ (x = -1 ∨ ∃ s, s < 240 ∧ x = nI s) := by
  unfold f_X0_clashOf f_X8_clashOfAll
  have h12 := r.m12
  have hs : ∀ k, k < n → d + k * p < 1000 := fun k hk => by
    have : k * p ≤ (n - 1) * p := Nat.mul_le_mul_right _ (by omega)
    omega
  have sd : ∀ D, sOf (M 1) D (bst (M 1) (wv 0 0) (wv 0 1) (wv 0 2) (wv 0 3) D 12) = -1 ∨ ∃ s, s < 240 ∧ sOf (M 1) D (bst (M 1) (wv 0 0) (wv 0 1) (wv 0 2) (wv 0 3) D 12) = nI s := fun D => by
    cases q : bst (M 1) (wv 0 0) (wv 0 1) (wv 0 2) (wv 0 3) D 12 with
    | none => exact Or.inl rfl
    | some b =>
      obtain ⟨hb, hcb⟩ := bst_lt q
      have hko := (onB_k (cand_on hcb)).1
      have hb20 := (r.g (cand_m hcb)).2.2.2.2.2.2.2.1
      exact Or.inr ⟨20 * b + kOn (M 1) b D, by omega, rfl⟩
  have main : ∀ e k, k + e = n → ∀ n1 n2, e < n1 → e < n2 → ∃ x, L_X0_clashOf_2 (fun _ => some (-1)) v wv n1 (nI k) = some x ∧ L_X8_clashOfAll_6 (fun x_8 _ => some x_8) M (wv 0 0) (wv 0 1) (nI d) (wv 0 2) (wv 0 3) (nI n) (nI p) n2 (-1) (nI k) = some x ∧ (x = -1 ∨ ∃ s, s < 240 ∧ x = nI s) := by
    intro e
    induction e with
    | zero =>
      intro k hk n1 n2 h1 h2
      obtain ⟨n1, rfl⟩ : ∃ q, n1 = q + 1 := ⟨n1 - 1, by omega⟩
      obtain ⟨n2, rfl⟩ : ∃ q, n2 = q + 1 := ⟨n2 - 1, by omega⟩
      have hkn : k = n := by omega
      subst hkn
      refine ⟨-1, ?_, ?_, Or.inl rfl⟩
      · rw [L_X0_clashOf_2, hn, if_pos (nI_le (Nat.le_refl _) (by omega))]
      · rw [L_X8_clashOfAll_6, if_pos (nI_le (Nat.le_refl _) (by omega))]
    | succ e ih =>
      intro k hk n1 n2 h1 h2
      obtain ⟨n1, rfl⟩ : ∃ q, n1 = q + 1 := ⟨n1 - 1, by omega⟩
      obtain ⟨n2, rfl⟩ : ∃ q, n2 = q + 1 := ⟨n2 - 1, by omega⟩
      have hkn : k < n := by omega
      rw [L_X0_clashOf_2, hn, if_neg (nI_ge hkn (by omega)), hd, hp, pk_mul, nI_add, c_clashOn r (hs k hkn), xbs]
      rw [L_X8_clashOfAll_6, if_neg (nI_ge hkn (by omega)), if_pos rfl, pk_mul, nI_add, m_clashOn r (hs k hkn), xbs]
      simp only [xls, nI_1]
      by_cases hx : sOf (M 1) (d + k * p) (bst (M 1) (wv 0 0) (wv 0 1) (wv 0 2) (wv 0 3) (d + k * p) 12) = -1
      · rw [if_pos hx, hx]
        exact ih (k + 1) (by omega) n1 n2 (by omega) (by omega)
      · rw [if_neg hx]
        refine ⟨_, rfl, ?_, sd _⟩
        obtain ⟨n2, rfl⟩ : ∃ q, n2 = q + 1 := ⟨n2 - 1, by omega⟩
        rw [L_X8_clashOfAll_6]
        by_cases hk1 : nI n ≤ nI (k + 1)
        · rw [if_pos hk1]
        · rw [if_neg hk1, if_neg hx]
  exact main n 0 (by omega) 100000 100000 (by omega) (by omega)
end
