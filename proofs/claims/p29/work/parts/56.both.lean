/-! ===== PURE p29, 7: the same call in both halls ===== -/
def TB (d k : Nat) (w w' : Nat → Int32) : Prop := (∃ v, RB v w) ∧ (∃ v, RB v w') ∧ Sh d w w' ∧ Inv k w
theorem take_RB {v : xV} {w : Nat → Int32} (r : RB v w) {i a q : Nat} (hi : i < cN w 10) (ha : a < 2 ^ 30) (hq : q = 4 ∨ q = 5) : ∃ v', RB v' (wTake w i a q) := by
  obtain ⟨t, v', M', t1, t2, t3, t4, -⟩ := s_take (M := fun _ => w) r hi ha hq (p3 := nI q) rfl
  obtain ⟨M2, e1, e2, -⟩ := m_take (M := fun _ => w) r hi ha hq (p3 := nI q) rfl
  have e3 := (Prod.mk.inj (Option.some.inj (t3.symm.trans e1))).2
  rw [e3, e2] at t4
  exact ⟨v', t4⟩
theorem TB.take {d k : Nat} {w w' : Nat → Int32} (T : TB d k w w') {i a q : Nat} (hi : i < cN w 10) (ha : a < 2 ^ 30) (hq : q = 4 ∨ q = 5) : TB d k (wTake w i a q) (wTake w' i a q) := by
  obtain ⟨⟨v, r⟩, ⟨v', r'⟩, s, I⟩ := T
  have hb := Nat.lt_of_lt_of_le (r.g hi).2.1 r.h10
  exact ⟨take_RB r hi ha hq, take_RB r' (by rw [s.m]; exact hi) ha hq, s.take hi hb hq, I.take hi (r.g hi) hq⟩
theorem fee_step (M : xV) {j : Nat} (hj : j < 6) (K : Int32 → Int32 → xV → Option (Int32 × xV)) (n kp : Nat) : L_X8_pass_69 K (n + 1) (nI kp) (nI j) M = if kL (M 1) j ≤ 0 then L_X8_pass_69 K n (nI kp) (nI (j + 1)) M else xb2 (f_X8_takes M (M 1 (40 + 2 * j)) (M 1 7) 5) fun r_26 M_27 => L_X8_pass_69 K n (nI kp + r_26) (nI (j + 1)) M_27 := by
  have c1 : (40 : Int32) + 2 * nI j = nI (40 + 2 * j) := by rw [show (2 : Int32) = nI 2 from rfl, show (40 : Int32) = nI 40 from rfl, pk_mul, nI_add]
  have hl : f_X8_lateBy M (nI j) = some (kL (M 1) j) := m_lateBy hj
  rw [L_X8_pass_69, if_neg (show ¬ (6 : Int32) ≤ nI j from nI_ge (b := 6) hj (by decide)), hl, xbs]
  simp only [xls, nI_1, c1, xgi (show 40 + 2 * j < 820 by omega) (show 820 < 2 ^ 31 by decide), nI_clamp (show 40 + 2 * j < 2 ^ 31 by omega)]
theorem r_fees {d : Nat} (hd : d < 1000) {k : Nat} : ∀ (e j : Nat), j + e = 6 → ∀ (M N : xV) (kp n : Nat), TB d k (M 1) (N 1) → e < n → ∃ M' N' kp', (∀ K, L_X8_pass_69 K n (nI kp) (nI j) M = K (nI kp') (nI 6) M') ∧ (∀ K, L_X8_pass_69 K n (nI kp) (nI j) N = K (nI kp') (nI 6) N') ∧ TB d k (M' 1) (N' 1) ∧ kp' ≤ kp + 50000 * e ∧ M' 1 0 = M 1 0 ∧ N' 1 0 = N 1 0 := by
  intro e
  induction e with
  | zero =>
    intro j hj M N kp n T hn
    obtain ⟨n, rfl⟩ : ∃ q, n = q + 1 := ⟨n - 1, by omega⟩
    have : j = 6 := by omega
    subst this
    refine ⟨M, N, kp, fun K => ?_, fun K => ?_, T, by omega, rfl, rfl⟩
    · rw [L_X8_pass_69, if_pos (by decide)]
    · rw [L_X8_pass_69, if_pos (by decide)]
  | succ e ih =>
    intro j hj M N kp n T hn
    obtain ⟨n, rfl⟩ : ∃ q, n = q + 1 := ⟨n - 1, by omega⟩
    have hj6 : j < 6 := by omega
    have T0 := T
    obtain ⟨⟨v, r⟩, ⟨v', r'⟩, s, I⟩ := T
    have eL := s.kLE r.1 hd hj6
    by_cases hz : kL (M 1) j ≤ 0
    · obtain ⟨M', N', kp', a1, a2, a3, a4, a5, a6⟩ := ih (j + 1) (by omega) M N kp n T0 (by omega)
      refine ⟨M', N', kp', fun K => ?_, fun K => ?_, a3, by omega, a5, a6⟩
      · rw [fee_step M hj6, if_pos hz, a1]
      · rw [fee_step N hj6, eL, if_pos hz, a2]
    · rcases r.gk hj6 with q | ⟨i, due, hi, hdue, q1, q2⟩
      · exfalso
        apply hz
        unfold kL
        rw [if_pos q]
        decide
      · have f7 := r.1.2.2.2.2.2.1
        have g := r.g hi
        have g9' := g.2.2.2.2.2.2.2.2.2.2.2.2.2.1
        have hi' : i < cN (N 1) 10 := by rw [s.m]; exact hi
        have e7 : N 1 7 = nI (cN (M 1) 7) := (s.lo (by decide) (by decide)).trans f7.1
        have ek : N 1 (40 + 2 * j) = nI i := (s.key hj6).trans q1
        obtain ⟨M1, t1, t2, t3⟩ := m_take r hi (a := cN (M 1) 7) (by omega) (Or.inr rfl) (p3 := 5) rfl
        obtain ⟨N1, u1, u2, u3⟩ := m_take r' hi' (a := cN (M 1) 7) (by omega) (Or.inr rfl) (p3 := 5) rfl
        rw [s.hn hi (by decide) (by decide)] at u1
        have T1 : TB d k (M1 1) (N1 1) := by
          rw [t2, u2]
          exact T0.take hi (by omega) (Or.inr rfl)
        obtain ⟨M', N', kp', a1, a2, a3, a4, a5, a6⟩ := ih (j + 1) (by omega) M1 N1 (kp + min (hN (M 1) i 9) (cN (M 1) 7)) n T1 (by omega)
        have z0 : ∀ w : Nat → Int32, hN w i 0 < 10 → wTake w i (cN (M 1) 7) 5 0 = w 0 := fun w hb => by
          unfold wTake
          rw [if_neg (by omega), if_neg (by omega), if_neg (by omega), if_neg (by omega), if_neg (by omega)]
        refine ⟨M', N', kp', fun K => ?_, fun K => ?_, a3, by omega, ?_, ?_⟩
        · rw [fee_step M hj6, if_neg hz, q1, f7.1, t1, xb2s, nI_add, a1]
        · rw [fee_step N hj6, eL, if_neg hz, ek, e7, u1, xb2s, nI_add, a2]
        · rw [a5, t2, z0 _ (Nat.lt_of_lt_of_le g.2.1 r.h10)]
        · rw [a6, u2, z0 _ (Nat.lt_of_lt_of_le (r'.g hi').2.1 r'.h10)]
theorem day_one {v M : xV} (r : RB v (M 1)) : ∃ M1, f_X8_holdsToday M = some (nI (soN (M 1) (cN (M 1) 0)), M1) ∧ upd2 M1 1 0 (M1 1 0 + 1) 1 = wDay (M 1) := by
  obtain ⟨M1, b1, b2, b3⟩ := m_marks r (fun x_23 _ M_25 => some (x_23, M_25)) (d := cN (M 1) 0) rfl
  refine ⟨M1, b1, ?_⟩
  have m10 : M1 1 0 = nI (cN (M 1) 0) := by rw [b2, mkW_ne (by omega), r.wd]
  rw [u2r, m10, nI_1, b2]
  rfl
theorem r_days {d : Nat} (hd : d < 200) {k D : Nat} (hD : D ≤ 60) : ∀ (e j : Nat), j + e = D → ∀ (M N : xV) (x : Int32) (kp n : Nat), TB d k (M 1) (N 1) → cN (M 1) 0 + e ≤ 150 → kp + 300000 * e ≤ 100000000 → e < n → ∃ x' M' N', L_X8_pass_43 (fun x_35 x_36 _ M_38 => if 0 ≤ x_36 then some (x_35, M_38) else some (0, M_38)) (nI D) n x (nI kp) (nI j) M = some (x', M') ∧ L_X8_pass_43 (fun x_35 x_36 _ M_38 => if 0 ≤ x_36 then some (x_35, M_38) else some (0, M_38)) (nI D) n x (nI kp) (nI j) N = some (x', N') ∧ TB d k (M' 1) (N' 1) ∧ cN (M' 1) 0 ≤ 150 := by
  intro e
  induction e with
  | zero =>
    intro j hj M N x kp n T h0 hkp hn
    obtain ⟨n, rfl⟩ : ∃ q, n = q + 1 := ⟨n - 1, by omega⟩
    have : j = D := by omega
    subst this
    refine ⟨x, M, N, ?_, ?_, T, by omega⟩
    · rw [L_X8_pass_43, if_pos (nI_le (Nat.le_refl _) (by omega)), if_pos (nI_pos' (by omega))]
    · rw [L_X8_pass_43, if_pos (nI_le (Nat.le_refl _) (by omega)), if_pos (nI_pos' (by omega))]
  | succ e ih =>
    intro j hj M N x kp n T h0 hkp hn
    obtain ⟨n, rfl⟩ : ∃ q, n = q + 1 := ⟨n - 1, by omega⟩
    obtain ⟨⟨v, r⟩, ⟨v', r'⟩, s, I⟩ := T
    have e0 := s.day' r.1 (by omega)
    obtain ⟨M1, b1, b2⟩ := day_one r
    obtain ⟨N1, c1, c2⟩ := day_one r'
    have eso : soN (N 1) (cN (N 1) 0) = soN (M 1) (cN (M 1) 0) := fb_ct_cong fun i _ => by rw [e0, s.onBE r.1 (by omega)]
    rw [eso] at c1
    obtain ⟨M2, hM2⟩ : ∃ z, z = upd2 M1 1 0 (M1 1 0 + 1) := ⟨_, rfl⟩
    obtain ⟨N2, hN2⟩ : ∃ z, z = upd2 N1 1 0 (N1 1 0 + 1) := ⟨_, rfl⟩
    have rd := r.day rfl (by omega)
    have rd' := r'.day rfl (by omega)
    have T2 : TB d k (M2 1) (N2 1) := by
      rw [hM2, hN2, b2, c2]
      exact ⟨⟨_, rd⟩, ⟨_, rd'⟩, s.dayW r.1 (by omega), I.day⟩
    obtain ⟨M3, N3, kp3, a1, a2, a3, a4, a5, a6⟩ := r_fees (by omega) 6 0 rfl M2 N2 kp 100000 T2 (by omega)
    have d3 : cN (M3 1) 0 = cN (M 1) 0 + 1 := cN_of (a5.trans (by rw [hM2, b2, wDay_0])) (by omega)
    obtain ⟨x', M', N', q1, q2, q3, q4⟩ := ih (j + 1) (by omega) M3 N3 (x + nI (soN (M 1) (cN (M 1) 0))) kp3 n a3 (by omega) (by omega) (by omega)
    have a1' : ∀ K, L_X8_pass_69 K 100000 (nI kp) 0 M2 = K (nI kp3) (nI 6) M3 := a1
    have a2' : ∀ K, L_X8_pass_69 K 100000 (nI kp) 0 N2 = K (nI kp3) (nI 6) N3 := a2
    refine ⟨x', M', N', ?_, ?_, q3, q4⟩
    · rw [L_X8_pass_43, if_neg (nI_ge (by omega) (by omega)), b1, xb2s]
      simp only [xls, nI_1]
      rw [← hM2, a1']
      exact q1
    · rw [L_X8_pass_43, if_neg (nI_ge (by omega) (by omega)), c1, xb2s]
      simp only [xls, nI_1]
      rw [← hN2, a2']
      exact q2
theorem r_clashAll {d : Nat} {v v' M N : xV} (r : RB v (M 1)) (r' : RB v' (N 1)) (s : Sh d (M 1) (N 1)) (hd : d < 1000) {D nn p : Nat} (hn : nn ≤ 20) (hl : ∀ q, q < nn → D + q * p + d < 1000) (h ro f t : Int32) (K : Int32 → Int32 → Option Int32) : ∀ (n : Nat) (x : Int32) (q : Nat), q ≤ 20 → L_X8_clashOfAll_6 K N h ro (nI (D + d)) f t (nI nn) (nI p) n x (nI q) = L_X8_clashOfAll_6 K M h ro (nI D) f t (nI nn) (nI p) n x (nI q) := by
  intro n
  induction n with
  | zero =>
    intro x q _
    rfl
  | succ n ih =>
    intro x q hq
    rw [L_X8_clashOfAll_6, L_X8_clashOfAll_6]
    by_cases c : nn ≤ q
    · rw [if_pos (nI_le c (by omega)), if_pos (nI_le c (by omega))]
    · rw [if_neg (nI_ge (by omega) (by omega)), if_neg (nI_ge (by omega) (by omega))]
      by_cases hx : x = -1
      · have hq1 := hl q (by omega)
        have eN : f_X8_clashOn N h ro (nI (D + d) + nI q * nI p) f t = f_X8_clashOn M h ro (nI D + nI q * nI p) f t := by
          rw [pk_mul, nI_add, nI_add, show D + d + q * p = D + q * p + d by omega, m_clashOn r' (by omega), m_clashOn r (by omega), s.sOfE r.1 hd]
        rw [if_pos hx, if_pos hx, eN]
        congr 1
        funext r_5
        rw [xls, xls, nI_1]
        exact ih r_5 (q + 1) (by omega)
      · rw [if_neg hx, if_neg hx]
theorem hrs_ok {f t : Nat} (hf : f < t) (ht : t ≤ 24) : f_X8_areHours (nI (100 * f + t)) = some 1 ∧ nI (100 * f + t) / 100 = nI f ∧ nI (100 * f + t) - nI (100 * f + t) / 100 * 100 = nI t := by
  have e1 : nI (100 * f + t) / 100 = nI f := (pk_div (d := 100) (by omega) (by decide) (by decide)).trans (by rw [show (100 * f + t) / 100 = f by omega])
  have e2 : nI (100 * f + t) - nI (100 * f + t) / 100 * 100 = nI t := (pk_rem (d := 100) (by omega) (by decide) (by decide)).trans (by rw [show (100 * f + t) % 100 = t by omega])
  refine ⟨?_, e1, e2⟩
  unfold f_X8_areHours
  rw [e2, e1, if_neg (nI_pos (by omega)), if_neg (nI_ge hf (by omega)), if_neg (show ¬ (24 : Int32) < nI t from nI_nlt (a := 24) ht (by decide))]
