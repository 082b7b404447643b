/-! ===== PURE 15: reading the text ===== -/
def TR (tv M : xV) : Prop := ∃ n, n ≤ 80 ∧ tv 0 1 = nI n ∧ M 0 6 = nI n ∧ ∀ k, k < n → tv 1 k = M 4 k
theorem TR.cong {tv tv' M M' : xV} (h : TR tv M) (h1 : tv' 0 1 = tv 0 1) (h2 : tv' 1 = tv 1) (h3 : M' 0 6 = M 0 6) (h4 : M' 4 = M 4) : TR tv' M' := by
  obtain ⟨n, a1, a2, a3, a4⟩ := h
  exact ⟨n, a1, h1.trans a2, h3.trans a3, by rw [h2, h4]; exact a4⟩
theorem s_type {tv M : xV} (h : TR tv M) (dv : xV) (p : Int32) : ∃ a tv' M', f_X7_type dv tv p = some (a, tv') ∧ f_X8_type M p = some (a, M') ∧ TR tv' M' ∧ (∀ k, k ≠ 0 → k ≠ 4 → M' k = M k) ∧ ∀ j, j ≠ 6 → M' 0 j = M 0 j := by
  have h0 := h
  obtain ⟨n, a1, a2, a3, a4⟩ := h
  unfold f_X7_type f_X8_type f_X4_append
  rcases m_rng 32 126 p (A := 32) (B := 126) rfl rfl (by decide) (by decide) with ⟨q, h1, h2, rfl, e⟩ | ⟨hq, e⟩
  · rw [e, xbs, i10, if_neg (show ¬ nI q < (32 : Int32) from nI_nlt (b := 32) h1 (by omega)), if_pos (show nI q ≤ (126 : Int32) from nI_le (b := 126) h2 (by decide)), a2, a3, if_neg (nI_pos (by omega))]
    by_cases hn : n < 80
    · rw [if_pos (show nI n < (80 : Int32) from nI_lt (b := 80) hn (by decide)), if_neg (show ¬ nI n = (80 : Int32) from ne_lit (b := 80) (by omega) (by omega) (by decide))]
      simp only [xgi hn (show 80 < 2 ^ 31 by decide), nI_clamp (show n < 2 ^ 31 by omega), xls]
      rw [u2k _ _ (show (0 : Nat) ≠ 1 by decide), a2, u2k _ _ (show (0 : Nat) ≠ 4 by decide), a3, nI_1, xb2s, i10, u2s, u2s]
      refine ⟨_, _, _, rfl, rfl, ⟨n + 1, by omega, u2s _ _ _ _, u2s _ _ _ _, fun k hk => ?_⟩, fun k h1 h2 => ?_, fun j hj => ?_⟩
      · rw [u2k _ _ (show (1 : Nat) ≠ 0 by decide), u2k _ _ (show (4 : Nat) ≠ 0 by decide)]
        by_cases c : k = n
        · subst c; rw [u2s, u2s]
        · rw [u2j _ _ c, u2j _ _ c]; exact a4 k (by omega)
      · rw [u2k _ _ h1, u2k _ _ h2]
      · rw [u2j _ _ hj, u2k _ _ (by decide)]
    · rw [if_neg (show ¬ nI n < (80 : Int32) from nI_nlt (b := 80) (by omega) (by omega)), if_pos (show nI n = (80 : Int32) by rw [show n = 80 by omega]; rfl), xb2s, i00]
      exact ⟨_, _, _, rfl, rfl, h0, fun _ _ _ => rfl, fun _ _ => rfl⟩
  · rw [e, xbs, i00]
    rcases hq with hq | hq
    · rw [if_pos (show p < (32 : Int32) from hq)]
      exact ⟨_, _, _, rfl, rfl, h0, fun _ _ _ => rfl, fun _ _ => rfl⟩
    · by_cases h1 : p < 32
      · rw [if_pos h1]
        exact ⟨_, _, _, rfl, rfl, h0, fun _ _ _ => rfl, fun _ _ => rfl⟩
      · rw [if_neg h1, if_neg (show ¬ p ≤ (126 : Int32) from (fa_of_lt hq).2.1)]
        exact ⟨_, _, _, rfl, rfl, h0, fun _ _ _ => rfl, fun _ _ => rfl⟩
theorem s_clear {tv M : xV} (h : TR tv M) (dv : xV) : ∃ a tv' M', f_X7_clearText dv tv = some (a, tv') ∧ f_X8_clearText M = some (a, M') ∧ TR tv' M' ∧ (∀ k, k ≠ 0 → M' k = M k) ∧ ∀ j, j ≠ 6 → M' 0 j = M 0 j := by
  obtain ⟨n, a1, a2, a3, a4⟩ := h
  unfold f_X7_clearText f_X8_clearText
  rw [a2, a3]
  exact ⟨_, _, _, rfl, rfl, ⟨0, by decide, u2s _ _ _ _, u2s _ _ _ _, fun k hk => absurd hk (Nat.not_lt_zero _)⟩, fun k hk => u2k _ _ hk, fun j hj => u2j _ _ hj⟩
/-- both stand at the place p of a text of n characters -/
def PT (tv M : xV) (n p : Nat) : Prop := n ≤ 80 ∧ p ≤ n ∧ tv 0 1 = nI n ∧ M 0 6 = nI n ∧ tv 0 2 = nI p ∧ M 0 7 = nI p ∧ ∀ k, k < n → tv 1 k = M 4 k
def Tx (tv tv' : xV) : Prop := (∀ j, j ≠ 2 → tv' 0 j = tv 0 j) ∧ ∀ k, k ≠ 0 → tv' k = tv k
def M7 (M M' : xV) : Prop := (∀ j, j ≠ 7 → M' 0 j = M 0 j) ∧ ∀ k, k ≠ 0 → M' k = M k
theorem Tx.rf (tv : xV) : Tx tv tv := ⟨fun _ _ => rfl, fun _ _ => rfl⟩
theorem Tx.trans {a b c : xV} (h : Tx a b) (h' : Tx b c) : Tx a c := ⟨fun j hj => (h'.1 j hj).trans (h.1 j hj), fun k hk => (h'.2 k hk).trans (h.2 k hk)⟩
theorem M7.rf (M : xV) : M7 M M := ⟨fun _ _ => rfl, fun _ _ => rfl⟩
theorem PT.set {tv M : xV} {n p : Nat} (h : PT tv M n p) {b : Nat} (hb : 8 ≤ b) (y : Int32) : PT tv (upd2 M 0 b y) n p := by
  obtain ⟨a1, a2, a3, a4, a5, a6, a7⟩ := h
  exact ⟨a1, a2, a3, by rw [u2j _ _ (by omega)]; exact a4, a5, by rw [u2j _ _ (by omega)]; exact a6, fun k hk => by rw [u2k _ _ (by decide)]; exact a7 k hk⟩
theorem PT.mv {tv M : xV} {n p q : Nat} (h : PT tv M n p) (hq : q ≤ n) : PT (upd2 tv 0 2 (nI q)) (upd2 M 0 7 (nI q)) n q := by
  obtain ⟨a1, a2, a3, a4, a5, a6, a7⟩ := h
  exact ⟨a1, hq, by rw [u2j _ _ (by decide)]; exact a3, by rw [u2j _ _ (by decide)]; exact a4, u2s _ _ _ _, u2s _ _ _ _, fun k hk => by rw [u2k _ _ (by decide), u2k _ _ (by decide)]; exact a7 k hk⟩
theorem Tx.mv (tv : xV) (y : Int32) : Tx tv (upd2 tv 0 2 y) := ⟨fun j hj => u2j _ _ hj, fun k hk => u2k _ _ hk⟩
theorem M7.mv (M : xV) (y : Int32) : M7 M (upd2 M 0 7 y) := ⟨fun j hj => u2j _ _ hj, fun k hk => u2k _ _ hk⟩
/-- the character here -/
def hc (tv : xV) (n p : Nat) : Int32 := if p < n then tv 1 p else -1
section
variable {tv M : xV} {n p : Nat}
theorem c_here (h : PT tv M n p) : f_X4_here tv = some (hc tv n p) := by
  obtain ⟨a1, a2, a3, a4, a5, a6, a7⟩ := h
  unfold f_X4_here hc
  rw [a3, a5, if_neg (nI_pos (by omega))]
  by_cases c : p < n
  · rw [if_neg (nI_ge c (by omega)), if_neg (show ¬ (80 : Int32) ≤ nI p from nI_ge (b := 80) (by omega) (by decide)), xgi (by omega) (by decide), nI_clamp (by omega), if_pos c]
  · rw [if_pos (nI_le (by omega) (by omega)), if_neg c]
theorem m_here (h : PT tv M n p) : f_X8_here M = some (hc tv n p) := by
  obtain ⟨a1, a2, a3, a4, a5, a6, a7⟩ := h
  unfold f_X8_here hc
  rw [a4, a6]
  by_cases c : p < n
  · rw [if_neg (nI_ge c (by omega)), xgi (by omega) (by decide), nI_clamp (by omega), if_pos c, a7 p c]
  · rw [if_pos (nI_le (by omega) (by omega)), if_neg c]
theorem s_skip (h : PT tv M n p) {x : Int32} (hx : x ≠ -1) : (∃ tv' M', f_X4_skip tv x = some (1, tv') ∧ f_X8_passes M x = some (1, M') ∧ PT tv' M' n (p + 1) ∧ Tx tv tv' ∧ M7 M M') ∨ (f_X4_skip tv x = some (0, tv) ∧ f_X8_passes M x = some (0, M) ∧ hc tv n p ≠ x) := by
  have e1 := c_here h
  have e2 := m_here h
  have h0 := h
  obtain ⟨a1, a2, a3, a4, a5, a6, a7⟩ := h
  unfold f_X4_skip f_X8_passes
  rw [e1, xbs, e2, xbs, a5, a6]
  by_cases c : hc tv n p = x
  · have hp : p < n := by
      rcases Nat.lt_or_ge p n with q | q
      · exact q
      · exfalso
        unfold hc at c
        rw [if_neg (by omega)] at c
        exact hx c.symm
    rw [if_pos c, if_pos c, xls, xls, nI_1]
    exact Or.inl ⟨_, _, rfl, rfl, h0.mv hp, Tx.mv _ _, M7.mv _ _⟩
  · rw [if_neg c, if_neg c, xls, Int32.add_zero]
    have : upd2 M 0 7 (nI p) = M := by
      funext a b
      rw [u2e]
      by_cases z : a = 0 ∧ b = 7
      · obtain ⟨rfl, rfl⟩ := z
        rw [if_pos ⟨rfl, rfl⟩, a6]
      · rw [if_neg z]
    rw [this]
    exact Or.inr ⟨rfl, rfl, c⟩
def dig (c : Int32) : Prop := ¬ c < 48 ∧ ¬ 57 < c
theorem c_dig (h : PT tv M n p) : f_X4_isDigitHere tv = some (if hc tv n p < 48 then 0 else if 57 < hc tv n p then 0 else 1) := by
  unfold f_X4_isDigitHere
  rw [c_here h, xbs, xbs]
  split
  · rfl
  · split <;> rfl
theorem m_dig (c : Int32) : f_X8_in c.toInt64 48 57 = some (if c < 48 then 0 else if 57 < c then 0 else 1) := by
  rw [m_in c 48 57 (A := 48) (B := 57) rfl rfl]
  by_cases h1 : c < 48
  · rw [if_pos h1, if_neg (fun z => (fa_of_lt h1).2.1 z.1)]
  · rw [if_neg h1]
    by_cases h2 : 57 < c
    · rw [if_pos h2, if_neg (fun z => (fa_of_lt h2).2.1 z.2)]
    · rw [if_neg h2, if_pos ⟨fa_of_nlt h1, fa_of_nlt h2⟩]
theorem dig_n {c : Int32} (h : dig c) : ∃ k, k ≤ 9 ∧ c = nI (48 + k) := by
  have h0 : ¬ c < 0 := fun z => by
    have q := h.1
    rw [fa_lt] at z q
    have e0 : (0 : Int32).toInt = 0 := by decide
    have e48 : (48 : Int32).toInt = 48 := by decide
    omega
  obtain ⟨j, hj, rfl⟩ := nI_of h0
  have h1 : 48 ≤ j := by
    rcases Nat.lt_or_ge j 48 with q | q
    · exact absurd (show nI j < (48 : Int32) from nI_lt (b := 48) q (by decide)) h.1
    · exact q
  have h2 : j ≤ 57 := by
    rcases Nat.lt_or_ge 57 j with q | q
    · exact absurd (show (57 : Int32) < nI j from nI_lt (a := 57) q hj) h.2
    · exact q
  exact ⟨j - 48, by omega, by congr 1; omega⟩
/-- a number is read: both alike, or the model alone says none and a digit stands here -/
theorem s_num (h : PT tv M n p) {m : Nat} (hm1 : 1 ≤ m) (hm : m ≤ 3) {x : Int32} (hx : x = nI m) : (f_X4_readNumber tv x = some (-1, tv) ∧ f_X8_readNumber M x = some (-1, M)) ∨ (∃ y tv' M' p', y < 1000 ∧ p < p' ∧ f_X4_readNumber tv x = some (nI y, tv') ∧ f_X8_readNumber M x = some (nI y, M') ∧ PT tv' M' n p' ∧ Tx tv tv' ∧ M7 M M') ∨ (∃ y tv' M' p', y < 1000 ∧ f_X4_readNumber tv x = some (nI y, tv') ∧ f_X8_readNumber M x = some (-1, M') ∧ PT tv' M' n p' ∧ Tx tv tv' ∧ M7 M M' ∧ dig (hc tv' n p')) := by
  subst hx
  have hn80 := h.1
  have hpn := h.2.1
  have ep : M 0 7 = nI p := h.2.2.2.2.2.1
  have main : ∀ (e j : Nat), j + e = m → ∀ (tvj Mj : xV) (X Y : Int32) (n1 n2 : Nat), PT tvj Mj n (p + j) → Tx tv tvj → M7 M Mj → e < n1 → e < n2 → (j = 0 → X = -1 ∧ Y = 0 ∧ tvj = tv ∧ Mj = M) → (0 < j → ∃ y, y < 10 ^ j ∧ X = nI y ∧ Y = nI y) → (L_X4_readNumber_4 (fun x_13 _ tv_15 => some (x_13, tv_15)) (nI m) n1 X (nI j) tvj = some (-1, tv) ∧ L_X8_readNumber_7 (fun x_14 M_15 => if (M_15 0 7) = nI p then some ((-1), M_15) else xb (f_X8_here M_15) fun r_17 => xb (f_X8_in (r_17.toInt64) 48 57) fun r_19 => if r_19 = 0 then some (x_14, M_15) else some ((-1), M_15)) (nI m) (nI p) n2 Y Mj = some (-1, M)) ∨ (∃ y tv' M' p', y < 1000 ∧ p < p' ∧ L_X4_readNumber_4 (fun x_13 _ tv_15 => some (x_13, tv_15)) (nI m) n1 X (nI j) tvj = some (nI y, tv') ∧ L_X8_readNumber_7 (fun x_14 M_15 => if (M_15 0 7) = nI p then some ((-1), M_15) else xb (f_X8_here M_15) fun r_17 => xb (f_X8_in (r_17.toInt64) 48 57) fun r_19 => if r_19 = 0 then some (x_14, M_15) else some ((-1), M_15)) (nI m) (nI p) n2 Y Mj = some (nI y, M') ∧ PT tv' M' n p' ∧ Tx tv tv' ∧ M7 M M') ∨ (∃ y tv' M' p', y < 1000 ∧ L_X4_readNumber_4 (fun x_13 _ tv_15 => some (x_13, tv_15)) (nI m) n1 X (nI j) tvj = some (nI y, tv') ∧ L_X8_readNumber_7 (fun x_14 M_15 => if (M_15 0 7) = nI p then some ((-1), M_15) else xb (f_X8_here M_15) fun r_17 => xb (f_X8_in (r_17.toInt64) 48 57) fun r_19 => if r_19 = 0 then some (x_14, M_15) else some ((-1), M_15)) (nI m) (nI p) n2 Y Mj = some (-1, M') ∧ PT tv' M' n p' ∧ Tx tv tv' ∧ M7 M M' ∧ dig (hc tv' n p')) := by
    intro e
    induction e with
    | zero =>
      intro j hj tvj Mj X Y n1 n2 hP hT hM h1 h2 hz hs
      obtain ⟨n1, rfl⟩ : ∃ q, n1 = q + 1 := ⟨n1 - 1, by omega⟩
      obtain ⟨n2, rfl⟩ : ∃ q, n2 = q + 1 := ⟨n2 - 1, by omega⟩
      have hjm : j = m := by omega
      subst hjm
      obtain ⟨y, hy, rfl, rfl⟩ := hs (by omega)
      have h7 : Mj 0 7 = nI (p + j) := hP.2.2.2.2.2.1
      have hle := hP.2.1
      have hy' : y < 1000 := by
        rcases (show j = 1 ∨ j = 2 ∨ j = 3 by omega) with rfl | rfl | rfl <;> simp at hy <;> omega
      have cl : L_X4_readNumber_4 (fun x_13 _ tv_15 => some (x_13, tv_15)) (nI j) (n1 + 1) (nI y) (nI j) tvj = some (nI y, tvj) := by
        rw [L_X4_readNumber_4, if_pos (nI_le (Nat.le_refl _) (by omega))]
      by_cases hd : dig (hc tvj n (p + j))
      · refine Or.inr (Or.inr ⟨y, tvj, Mj, p + j, hy', cl, ?_, hP, hT, hM, hd⟩)
        rw [L_X8_readNumber_7, m_here hP, xbs, m_dig, xbs, if_neg hd.1, if_neg hd.2, i10, h7, nI_add, if_pos (nI_le (Nat.le_refl _) (by omega)), if_neg (ne_lit (by omega) (by omega) (by omega)), xbs, m_dig, xbs, if_neg hd.1, if_neg hd.2, i10]
      · refine Or.inr (Or.inl ⟨y, tvj, Mj, p + j, hy', by omega, cl, ?_, hP, hT, hM⟩)
        have nd : (if hc tvj n (p + j) < 48 then (0 : Int32) else if 57 < hc tvj n (p + j) then 0 else 1) = 0 := by
          by_cases c1 : hc tvj n (p + j) < 48
          · rw [if_pos c1]
          · rw [if_neg c1]
            by_cases c2 : 57 < hc tvj n (p + j)
            · rw [if_pos c2]
            · exact absurd ⟨c1, c2⟩ hd
        rw [L_X8_readNumber_7, m_here hP, xbs, m_dig, xbs, nd, i00, h7, if_neg (ne_lit (by omega) (by omega) (by omega)), xbs, m_dig, xbs, nd, i00]
    | succ e ih =>
      intro j hj tvj Mj X Y n1 n2 hP hT hM h1 h2 hz hs
      obtain ⟨n1, rfl⟩ : ∃ q, n1 = q + 1 := ⟨n1 - 1, by omega⟩
      obtain ⟨n2, rfl⟩ : ∃ q, n2 = q + 1 := ⟨n2 - 1, by omega⟩
      have h7 : Mj 0 7 = nI (p + j) := hP.2.2.2.2.2.1
      have t2 : tvj 0 2 = nI (p + j) := hP.2.2.2.2.1
      have hle := hP.2.1
      rw [L_X4_readNumber_4, if_neg (nI_ge (show j < m by omega) (by omega)), c_dig hP, xbs, L_X8_readNumber_7, m_here hP, xbs, m_dig, xbs]
      by_cases hd : dig (hc tvj n (p + j))
      · have hlt : p + j < n := by
          rcases Nat.lt_or_ge (p + j) n with q | q
          · exact q
          · exfalso
            have := hd.1
            unfold hc at this
            rw [if_neg (by omega)] at this
            exact this (by decide)
        obtain ⟨k, hk, ek⟩ := dig_n hd
        rw [if_neg hd.1, if_neg hd.2, i10, i10, h7, nI_add, if_neg (nI_ge (by omega) (by omega)), c_here hP, xbs, xbs, ek, t2]
        simp only [xls, nI_1]
        have num : ∀ y, y < 100 → (10 : Int32) * nI y + nI (48 + k) - 48 = nI (10 * y + k) := fun y hy => by
          rw [show (10 : Int32) = nI 10 from rfl, pk_mul, nI_add, show (48 : Int32) = nI 48 from rfl, pk_sub (by omega)]
          congr 1
          omega
        have hP' := hP.mv (q := p + j + 1) hlt
        have hT' : Tx tv (upd2 tvj 0 2 (nI (p + j + 1))) := hT.trans (Tx.mv _ _)
        have hM' : M7 M (upd2 Mj 0 7 (nI (p + j + 1))) := ⟨fun i hi => (u2j _ _ hi).trans (hM.1 i hi), fun i hi => (u2k _ _ hi).trans (hM.2 i hi)⟩
        rcases Nat.eq_zero_or_pos j with z | z
        · obtain ⟨rfl, rfl, -, -⟩ := hz z
          have q1 : (10 : Int32) * (if (-1 : Int32) < 0 then 0 else -1) + nI (48 + k) - 48 = nI k := by
            rw [if_pos (by decide)]
            have := num 0 (by decide)
            rw [Nat.mul_zero, Nat.zero_add] at this
            exact this
          have q2 : (10 : Int32) * 0 + nI (48 + k) - 48 = nI k := by
            have := num 0 (by decide)
            rw [Nat.mul_zero, Nat.zero_add] at this
            exact this
          rw [q1, q2]
          refine ih (j + 1) (by omega) _ _ (nI k) (nI k) n1 n2 hP' hT' hM' (by omega) (by omega) (fun q => absurd q (by omega)) (fun _ => ⟨k, ?_, rfl, rfl⟩)
          rw [z]
          omega
        · obtain ⟨y, hy, rfl, rfl⟩ := hs z
          have hy100 : y < 100 := by
            rcases (show j = 1 ∨ j = 2 by omega) with rfl | rfl <;> simp at hy <;> omega
          rw [if_neg (nI_pos (by omega)), num y hy100]
          refine ih (j + 1) (by omega) _ _ _ _ n1 n2 hP' hT' hM' (by omega) (by omega) (fun q => absurd q (by omega)) (fun _ => ⟨10 * y + k, ?_, rfl, rfl⟩)
          rw [Nat.pow_succ]
          omega
      · have nd : (if hc tvj n (p + j) < 48 then (0 : Int32) else if 57 < hc tvj n (p + j) then 0 else 1) = 0 := by
          by_cases c1 : hc tvj n (p + j) < 48
          · rw [if_pos c1]
          · rw [if_neg c1]
            by_cases c2 : 57 < hc tvj n (p + j)
            · rw [if_pos c2]
            · exact absurd ⟨c1, c2⟩ hd
        rw [nd, i00, i00, h7]
        rcases Nat.eq_zero_or_pos j with z | z
        · obtain ⟨rfl, rfl, rfl, rfl⟩ := hz z
          refine Or.inl ⟨rfl, ?_⟩
          rw [z]
          exact if_pos rfl
        · obtain ⟨y, hy, rfl, rfl⟩ := hs z
          have hy' : y < 1000 := by
            rcases (show j = 1 ∨ j = 2 by omega) with rfl | rfl <;> simp at hy <;> omega
          refine Or.inr (Or.inl ⟨y, tvj, Mj, p + j, hy', by omega, rfl, ?_, hP, hT, hM⟩)
          rw [if_neg (ne_lit (by omega) (by omega) (by omega)), xbs, m_dig, xbs, nd, i00]
  unfold f_X4_readNumber f_X8_readNumber
  rw [ep, xls]
  exact main m 0 (by omega) tv M (-1) 0 100000 100000 h (Tx.rf _) (M7.rf _) (by omega) (by omega) (fun _ => ⟨rfl, rfl, rfl, rfl⟩) (fun z => absurd z (by omega))
def Mr (M M' : xV) : Prop := (∀ j, j ≠ 7 → j ≠ 12 → M' 0 j = M 0 j) ∧ ∀ k, k ≠ 0 → M' k = M k
theorem s_rooms (h : PT tv M n p) : ∃ ro tv' M' p', ro ≤ 7 ∧ p ≤ p' ∧ f_X4_readRooms tv = some (nI ro, tv') ∧ f_X8_readsRooms M = some (if ro = 0 then 0 else 1, M') ∧ PT tv' M' n p' ∧ Tx tv tv' ∧ Mr M M' ∧ M' 0 12 = nI ro := by
  have fin : ∀ {tv' M' : xV} {p' ro : Nat}, PT tv' M' n p' → Tx tv tv' → M7 M M' → PT tv' (upd2 M' 0 12 (nI ro)) n p' ∧ Tx tv tv' ∧ Mr M (upd2 M' 0 12 (nI ro)) ∧ upd2 M' 0 12 (nI ro) 0 12 = nI ro := fun a b c => ⟨a.set (by decide) _, b, ⟨fun j h1 h2 => (u2j _ _ h2).trans (c.1 j h1), fun k hk => (u2k _ _ hk).trans (c.2 k hk)⟩, u2s _ _ _ _⟩
  have tr : ∀ {A B C : xV}, M7 A B → M7 B C → M7 A C := fun a b => ⟨fun j hj => (b.1 j hj).trans (a.1 j hj), fun k hk => (b.2 k hk).trans (a.2 k hk)⟩
  unfold f_X4_readRooms f_X8_readsRooms
  rcases s_skip h (x := 104) (by decide) with ⟨t1, M1, e1, e2, P1, T1, Q1⟩ | ⟨e1, e2, -⟩
  · rw [e1, e2, xb2s, xb2s, i10, i10]
    rcases s_skip P1 (x := 107) (by decide) with ⟨t2, M2, e3, e4, P2, T2, Q2⟩ | ⟨e3, e4, -⟩
    · rw [e3, e4, xb2s, xb2s, i10, i10, xls]
      rcases s_skip P2 (x := 109) (by decide) with ⟨t3, M3, e5, e6, P3, T3, Q3⟩ | ⟨e5, e6, -⟩
      · rw [e5, e6, xb2s, xb2s, i10, i10]
        exact ⟨7, t3, _, _, by decide, by omega, rfl, rfl, fin P3 (T1.trans (T2.trans T3)) (tr Q1 (tr Q2 Q3))⟩
      · rw [e5, e6, xb2s, xb2s, i00, i00]
        exact ⟨3, t2, _, _, by decide, by omega, rfl, rfl, fin P2 (T1.trans T2) (tr Q1 Q2)⟩
    · rw [e3, e4, xb2s, xb2s, i00, i00, xls]
      rcases s_skip P1 (x := 109) (by decide) with ⟨t3, M3, e5, e6, P3, T3, Q3⟩ | ⟨e5, e6, -⟩
      · rw [e5, e6, xb2s, xb2s, i10, i10]
        exact ⟨5, t3, _, _, by decide, by omega, rfl, rfl, fin P3 (T1.trans T3) (tr Q1 Q3)⟩
      · rw [e5, e6, xb2s, xb2s, i00, i00]
        exact ⟨1, t1, _, _, by decide, by omega, rfl, rfl, fin P1 T1 Q1⟩
  · rw [e1, e2, xb2s, xb2s, i00, i00]
    rcases s_skip h (x := 107) (by decide) with ⟨t2, M2, e3, e4, P2, T2, Q2⟩ | ⟨e3, e4, -⟩
    · rw [e3, e4, xb2s, xb2s, i10, i10, xls]
      rcases s_skip P2 (x := 109) (by decide) with ⟨t3, M3, e5, e6, P3, T3, Q3⟩ | ⟨e5, e6, -⟩
      · rw [e5, e6, xb2s, xb2s, i10, i10]
        exact ⟨6, t3, _, _, by decide, by omega, rfl, rfl, fin P3 (T2.trans T3) (tr Q2 Q3)⟩
      · rw [e5, e6, xb2s, xb2s, i00, i00]
        exact ⟨2, t2, _, _, by decide, by omega, rfl, rfl, fin P2 T2 Q2⟩
    · rw [e3, e4, xb2s, xb2s, i00, i00, xls]
      rcases s_skip h (x := 109) (by decide) with ⟨t3, M3, e5, e6, P3, T3, Q3⟩ | ⟨e5, e6, -⟩
      · rw [e5, e6, xb2s, xb2s, i10, i10]
        exact ⟨4, t3, _, _, by decide, by omega, rfl, rfl, fin P3 T3 Q3⟩
      · rw [e5, e6, xb2s, xb2s, i00, i00]
        exact ⟨0, tv, _, _, by decide, by omega, rfl, rfl, fin h (Tx.rf _) (M7.rf _)⟩
end
