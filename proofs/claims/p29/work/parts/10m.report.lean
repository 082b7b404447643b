/-! ===== PURE 12: settings, deposits, faults ===== -/
def f_X7_set (_dv : xV) (v : xV) (hv : xV) (kv : Nat → xV) (p1 : Int32) (p2 : Int32) : Option (Int32 × xV × xV × (Nat → xV)) :=
  if p1 < 0 then
  some ((-2000000001), v, hv, kv)
  else
  if 8 ≤ p1 then
  some ((-2000000001), v, hv, kv)
  else
  if p2 < 0 then
  some ((-2000000001), v, hv, kv)
  else
  xg (xin p1 8) <|
  if p2 ≤ xsM p1.toNatClampNeg then
  xb2 (f_X2_save hv kv v) fun hv_3 kv_4 =>
  xg (xin p1 8) <|
  xl (v 1 p1.toNatClampNeg) fun x_6 =>
  xg (xin p1 8) <|
  xl (upd2 v 1 p1.toNatClampNeg p2) fun v_8 =>
  some (x_6, v_8, hv_3, kv_4)
  else
  some ((-2000000001), v, hv, kv)
section
variable {v M hv : xV} {kv : Nat → xV}
def moN (j : Nat) : Nat := if j = 3 then 100 else if j = 4 then 3 else if j = 5 then 50000 else if j = 6 then 5000 else if j = 7 then 30 else 5000
theorem mo_8 : ∀ j, j < 8 → f_X8_mostOf (nI j) = some (nI (moN j)) ∧ xsM j = nI (moN j) ∧ moN j ≤ 50000 ∧ (nI (moN j)).toInt64 = lN (moN j) := by decide +kernel
theorem s_set (r : RB v (M 1)) (h : HR hv kv M) (dv : xV) (p1 p2 : Int32) : Sm4 M (f_X7_set dv v hv kv p1 p2) (f_X8_set M p1 p2) := by
  unfold f_X7_set f_X8_set
  rcases m_rng 0 7 p1 (A := 0) (B := 7) rfl rfl (by decide) (by decide) with ⟨j, -, h2, rfl, e⟩ | ⟨hq, e⟩
  · obtain ⟨a1, a2, a3, a4⟩ := mo_8 j (by omega)
    rw [e, xbs, i10, if_neg (nI_pos (by omega)), if_neg (show ¬ (8 : Int32) ≤ nI j from nI_ge (b := 8) (by omega) (by decide)), a1, xbs]
    simp only [xgi (show j < 8 by omega) (show 8 < 2 ^ 31 by decide), nI_clamp (show j < 2 ^ 31 by omega), a2, show (1 : Int32) + nI j = nI (1 + j) from nI_add 1 j, xgi (show 1 + j < 820 by omega) (show 820 < 2 ^ 31 by decide), nI_clamp (show 1 + j < 2 ^ 31 by omega), xls]
    rcases m_rng 0 (moN j) p2 (A := 0) (B := (nI (moN j)).toInt64) rfl rfl (by decide) (by omega) with ⟨q, -, h4, rfl, e'⟩ | ⟨hq, e'⟩
    · rw [e', xbs, i10, if_neg (nI_pos (by omega)), if_pos (nI_le h4 (by omega))]
      obtain ⟨hv', kv', M', e3, e4, e5, kp⟩ := s_save r h
      rw [e3, xb2s, e4, xbs]
      refine Sm4.fin kp e5 ?_ (fun c hc => by simp [upd2, hc]) (by rw [kp.1]; exact r.set (by omega))
      rw [u2r, kp.1]
      have s : ∀ c, c ≠ 1 + j → upd (M 1) (1 + j) (nI q) c = M 1 c := fun c hc => upn _ _ hc
      have sj : upd (M 1) (1 + j) (nI q) (1 + j) = nI q := upp _ _ _
      have cj : cN (upd (M 1) (1 + j) (nI q)) (1 + j) = q := cN_of sj (by omega)
      have lim : ∀ (c N : Nat), 1 + j = c → moN j ≤ N → upd (M 1) (1 + j) (nI q) c = nI (cN (upd (M 1) (1 + j) (nI q)) c) ∧ cN (upd (M 1) (1 + j) (nI q)) c ≤ N := fun c N hc hN => by
        subst hc
        rw [cj]
        exact ⟨sj, by omega⟩
      have lim0 : ∀ (c N : Nat), 1 + j ≠ c → (M 1 c = nI (cN (M 1) c) ∧ cN (M 1) c ≤ N) → upd (M 1) (1 + j) (nI q) c = nI (cN (upd (M 1) (1 + j) (nI q)) c) ∧ cN (upd (M 1) (1 + j) (nI q)) c ≤ N := fun c N hc hN => by
        rw [cN_cong (s c (Ne.symm hc)), s c (Ne.symm hc)]
        exact hN
      refine r.heads (fun c hc => s c (by omega)) (fun k hk => u2k _ _ (by omega)) (by rw [u2k _ _ (by decide)]) (by rw [u2k _ _ (by decide)]) (by rw [u2k _ _ (by decide), s 9 (by omega)]; exact r.2.2.1.2.1) (by rw [cN_cong (s 9 (by omega)), s 9 (by omega)]; exact r.wh) (by rw [cN_cong (s 9 (by omega))]; exact r.h10) (by rw [cN_cong (s 9 (by omega))]; exact Nat.le_refl _) (fun c hc => ?_) ?_ ?_ ?_ ?_
      · by_cases e : c = j
        · subst e
          rw [u2s, sj]
        · rw [u2j _ _ e, s _ (by omega)]
          exact r.set hc
      · by_cases e : j = 4
        · exact lim 5 3 (by omega) (by rw [e]; decide)
        · exact lim0 5 3 (by omega) r.1.2.2.2.1
      · by_cases e : j = 5
        · exact lim 6 50000 (by omega) (by rw [e]; decide)
        · exact lim0 6 50000 (by omega) r.1.2.2.2.2.1
      · by_cases e : j = 6
        · exact lim 7 5000 (by omega) (by rw [e]; decide)
        · exact lim0 7 5000 (by omega) r.1.2.2.2.2.2.1
      · by_cases e : j = 7
        · exact lim 8 30 (by omega) (by rw [e]; decide)
        · exact lim0 8 30 (by omega) r.1.2.2.2.2.2.2.1
    · rw [e', xbs, i00]
      rcases hq with hq | hq
      · rw [if_pos (show p2 < (0 : Int32) from hq)]
        exact Sm4.stay r h
      · by_cases h0 : p2 < 0
        · rw [if_pos h0]
          exact Sm4.stay r h
        · rw [if_neg h0, if_neg (fa_of_lt hq).2.1]
          exact Sm4.stay r h
  · rw [e, xbs, i00]
    rcases hq with hq | hq
    · rw [if_pos (show p1 < (0 : Int32) from hq)]
      exact Sm4.stay r h
    · by_cases h0 : p1 < 0
      · rw [if_pos h0]
        exact Sm4.stay r h
      · have h8 : (8 : Int32) ≤ p1 := by
          rw [fa_lt] at hq
          rw [fa_le]
          have e7 : (nI 7).toInt = 7 := rfl
          have e8 : (8 : Int32).toInt = 8 := by decide
          omega
        rw [if_neg h0, if_pos h8]
        exact Sm4.stay r h
theorem acc_RB {v : xV} {w : Nat → Int32} (r : RB v w) {q : Nat} (hq : q < 9) (f : Int32 → Int32) : RB (upd2 v 2 q (f (v 2 q))) (upd w (11 + q) (f (w (11 + q)))) := by
  rw [r.acc hq]
  exact r.accS hq _
/-- a cost out of a deposit -/
theorem s_take (r : RB v (M 1)) {i a q : Nat} (hi : i < cN (M 1) 10) (ha : a < 2 ^ 30) (hq : q = 4 ∨ q = 5) {p3 : Int32} (hp : p3 = nI q) : ∃ t v' M', t ≤ 50000 ∧ f_X0_takeFromDeposit v i (nI a) p3 = some (nI t, v') ∧ f_X8_takes M (nI i) (nI a) p3 = some (nI t, M') ∧ RB v' (M' 1) ∧ (∀ c, c ≠ 1 → M' c = M c) ∧ (∀ c, c < 11 ∨ (40 ≤ c ∧ c ≠ 52 + 64 * i + 9) → M' 1 c = M 1 c) ∧ (∀ k j, k ≠ 2 → k ≠ 3 → ¬ (k = 6 + 2 * i ∧ j = 11) → v' k j = v k j) := by
  subst hp
  have h12 := r.m12
  have g := r.g hi
  have hb9 := g.2.1
  have hb10 : hN (M 1) i 0 < 10 := Nat.lt_of_lt_of_le hb9 r.h10
  have g9 := g.2.2.2.2.2.2.2.2.2.2.2.2.1
  have g9' := g.2.2.2.2.2.2.2.2.2.2.2.2.2.1
  have hv : v (6 + 2 * i) 11 = nI (hN (M 1) i 9) := (r.h hi).2.1.1.trans g9
  have main : ∀ T, T ≤ hN (M 1) i 9 → T ≤ a → (if nI (hN (M 1) i 9) < nI a then nI (hN (M 1) i 9) else nI a) = nI T → (f_X8_takes M (nI i) (nI a) (nI q) = (xg (xin (nI (52 + 64 * i + 9)) 820) <| xg (xin (nI (52 + 64 * i + 9)) 820) <| xl (upd2 M 1 (nI (52 + 64 * i + 9)).toNatClampNeg ((M 1 (nI (52 + 64 * i + 9)).toNatClampNeg) - nI T)) fun M_10 => xl (upd2 M_10 1 14 ((M_10 1 14) - nI T)) fun M_11 => xg (xin (11 + nI q) 820) <| xg (xin (11 + nI q) 820) <| xl (upd2 M_11 1 (11 + nI q).toNatClampNeg ((M_11 1 (11 + nI q).toNatClampNeg) + nI T)) fun M_14 => xl (upd2 M_14 1 18 ((M_14 1 18) + (nI a - nI T))) fun M_15 => xb (f_X8_of M_15 (nI i) 0) fun r_16 => xb (f_X8_charges M_15 r_16 (nI a - nI T)) fun M_18 => some (nI T, M_18))) → ∃ t v' M', t ≤ 50000 ∧ f_X0_takeFromDeposit v i (nI a) (nI q) = some (nI t, v') ∧ f_X8_takes M (nI i) (nI a) (nI q) = some (nI t, M') ∧ RB v' (M' 1) ∧ (∀ c, c ≠ 1 → M' c = M c) ∧ (∀ c, c < 11 ∨ (40 ≤ c ∧ c ≠ 52 + 64 * i + 9) → M' 1 c = M 1 c) ∧ (∀ k j, k ≠ 2 → k ≠ 3 → ¬ (k = 6 + 2 * i ∧ j = 11) → v' k j = v k j) := by
    intro T hT1 hT2 hT hM
    obtain ⟨y, hy⟩ : ∃ x, x = nI (a - T) := ⟨_, rfl⟩
    obtain ⟨b, hb⟩ : ∃ x, x = hN (M 1) i 0 := ⟨_, rfl⟩
    obtain ⟨v1, hv1⟩ : ∃ x, x = upd2 v (6 + 2 * i) 11 (nI (hN (M 1) i 9 - T)) := ⟨_, rfl⟩
    obtain ⟨w1, hw1⟩ : ∃ x, x = upd (M 1) (52 + 64 * i + 9) (nI (hN (M 1) i 9 - T)) := ⟨_, rfl⟩
    have r1 : RB v1 w1 := by rw [hv1, hw1]; exact r.depS hi (by omega)
    obtain ⟨v2, hv2⟩ : ∃ x, x = upd2 v1 2 3 (v1 2 3 - nI T) := ⟨_, rfl⟩
    obtain ⟨w2, hw2⟩ : ∃ x, x = upd w1 14 (w1 14 - nI T) := ⟨_, rfl⟩
    have r2 : RB v2 w2 := by rw [hv2, hw2]; exact acc_RB r1 (q := 3) (by decide) (fun x => x - nI T)
    obtain ⟨v3, hv3⟩ : ∃ x, x = upd2 v2 2 q (v2 2 q + nI T) := ⟨_, rfl⟩
    obtain ⟨w3, hw3⟩ : ∃ x, x = upd w2 (11 + q) (w2 (11 + q) + nI T) := ⟨_, rfl⟩
    have r3 : RB v3 w3 := by rw [hv3, hw3]; exact acc_RB r2 (q := q) (by omega) (fun x => x + nI T)
    obtain ⟨v4, hv4⟩ : ∃ x, x = upd2 (upd2 v3 3 b (v3 3 b + y)) 2 7 (v3 2 7 + y) := ⟨_, rfl⟩
    obtain ⟨w4, hw4⟩ : ∃ x, x = upd (upd w3 (20 + 2 * b) (w3 (20 + 2 * b) + y)) 18 (w3 18 + y) := ⟨_, rfl⟩
    rw [← hb] at hb9 hb10
    have r4 : RB v4 w4 := by rw [hv4, hw4]; exact charge_RB r3 hb10 (q := 7) (by decide) y
    have c9 : b < cN w3 9 := by
      rw [hw3, cN_cong (upn _ _ (by omega)), hw2, cN_cong (upn _ _ (by omega)), hw1, cN_cong (upn _ _ (by omega))]
      exact hb9
    have v31 : v3 (6 + 2 * i) 1 = nI b := by
      rw [hv3, u2k _ _ (by omega), hv2, u2k _ _ (by omega), hv1, u2j _ _ (by decide), (r.h hi).1.1, hb]
      exact g.1 0 (by decide)
    have cls : f_X0_takeFromDeposit v i (nI a) (nI q) = some (nI T, v4) := by
      unfold f_X0_takeFromDeposit
      rw [if_neg (nI_pos (by omega)), if_pos (show nI q < (9 : Int32) from nI_lt (b := 9) (by omega) (by decide)), hv, hT, xls, pk_sub hT1, xls, ← hv1, xls, ← hv2]
      simp only [xgi (show q < 9 by omega) (show 9 < 2 ^ 31 by decide), nI_clamp (show q < 2 ^ 31 by omega), xls]
      rw [← hv3, v31, pk_sub hT2, ← hy, c_charge r3 c9 (q := 7) (p3 := 7) (by decide) _ rfl rfl, ← hv4, xbs]
    obtain ⟨N1, hN1⟩ : ∃ x, x = upd2 M 1 (52 + 64 * i + 9) (nI (hN (M 1) i 9 - T)) := ⟨_, rfl⟩
    obtain ⟨N2, hN2⟩ : ∃ x, x = upd2 N1 1 14 (N1 1 14 - nI T) := ⟨_, rfl⟩
    obtain ⟨N3, hN3⟩ : ∃ x, x = upd2 N2 1 (11 + q) (N2 1 (11 + q) + nI T) := ⟨_, rfl⟩
    obtain ⟨N4, hN4⟩ : ∃ x, x = upd2 N3 1 18 (N3 1 18 + y) := ⟨_, rfl⟩
    obtain ⟨N5, hN5⟩ : ∃ x, x = upd2 N4 1 (20 + 2 * b) (N4 1 (20 + 2 * b) + y) := ⟨_, rfl⟩
    have z1 : N1 1 = w1 := by rw [hN1, u2r, hw1]
    have z2 : N2 1 = w2 := by rw [hN2, u2r, z1, hw2]
    have z3 : N3 1 = w3 := by rw [hN3, u2r, z2, hw3]
    have z4 : N4 1 = upd w3 18 (w3 18 + y) := by rw [hN4, u2r, z3]
    have z5 : N5 1 = w4 := by
      rw [hN5, u2r, z4, hw4, upn (j := 20 + 2 * b) _ _ (by omega)]
      exact fa_upd_swap _ (by omega) _ _
    have oth : ∀ c, c ≠ 1 → N5 c = M c := fun c hc => by rw [hN5, u2k _ _ hc, hN4, u2k _ _ hc, hN3, u2k _ _ hc, hN2, u2k _ _ hc, hN1, u2k _ _ hc]
    have e9 : M 1 (52 + 64 * i + 9) = nI (hN (M 1) i 9) := g9
    have mdl : f_X8_takes M (nI i) (nI a) (nI q) = some (nI T, N5) := by
      rw [hM]
      simp only [xgi (show 52 + 64 * i + 9 < 820 by omega) (show 820 < 2 ^ 31 by decide), nI_clamp (show 52 + 64 * i + 9 < 2 ^ 31 by omega), show (11 : Int32) + nI q = nI (11 + q) from nI_add 11 q, xgi (show 11 + q < 820 by omega) (show 820 < 2 ^ 31 by decide), nI_clamp (show 11 + q < 2 ^ 31 by omega), e9, pk_sub hT1, pk_sub hT2, xls]
      rw [← hy, ← hN1, ← hN2, ← hN3, ← hN4]
      have o0 : f_X8_of N4 (nI i) 0 = some (nI b) := by
        refine (m_of (k := 0) (by omega)).trans ?_
        rw [z4, upn _ _ (by omega), hw3, upn _ _ (by omega), hw2, upn _ _ (by omega), hw1, upn _ _ (by omega), hb]
        exact congrArg some (g.1 0 (by decide))
      rw [o0, xbs, m_charges _ hb10 _ rfl, ← hN5, xbs]
    refine ⟨T, v4, N5, by omega, cls, mdl, by rw [z5]; exact r4, oth, fun c hc => ?_, fun k j h1 h2 h3 => ?_⟩
    · rw [z5, hw4, upn _ _ (by omega), upn _ _ (by omega), hw3, upn _ _ (by omega), hw2, upn _ _ (by omega), hw1, upn _ _ (by omega)]
    · rw [hv4, u2k _ _ h1, u2k _ _ h2, hv3, u2k _ _ h1, hv2, u2k _ _ h1, hv1, u2e, if_neg h3]
  have o9 : f_X8_of M (nI i) 9 = some (nI (hN (M 1) i 9)) := (m_of (k := 9) (by omega)).trans (by rw [g9])
  have a9 : f_X8_at (nI i) 9 = some (nI (52 + 64 * i + 9)) := m_at i 9
  by_cases hda : hN (M 1) i 9 ≤ a
  · refine main (hN (M 1) i 9) (Nat.le_refl _) hda ?_ ?_
    · by_cases hlt : hN (M 1) i 9 < a
      · rw [if_pos (nI_lt hlt (by omega))]
      · rw [if_neg (nI_nlt (by omega) (by omega)), show a = hN (M 1) i 9 by omega]
    · unfold f_X8_takes
      rw [o9, xbs, if_pos (nI_le hda (by omega)), xbs, a9, xbs]
  · refine main a (by omega) (Nat.le_refl _) ?_ ?_
    · rw [if_neg (nI_nlt (by omega) (by omega))]
    · unfold f_X8_takes
      rw [o9, xbs, if_neg (nI_ge (by omega) (by omega)), a9, xbs]
/-! what a fault costs -/
def fT (w : Nat → Int32) (i k : Nat) : Nat := fb_ct (fun c => decide (w (52 + 64 * i + (32 + 4 * c)) = 3)) k
theorem rI_c : ∀ r, r < 8 → rI (nI r) = nI (fb_ct r.testBit 3) := by decide +kernel
theorem s_cost (r : RB v (M 1)) {i kd : Nat} (hi : i < cN (M 1) 10) (hk : kd ≤ 3) : ∃ a, a ≤ 10000 ∧ f_X1_costOfFault v i (nI kd) = some (nI a) ∧ f_X8_costOf M (nI i) (nI kd) = some (nI a) := by
  have h12 := r.m12
  have g := r.g hi
  obtain ⟨-, ⟨-, v12, -⟩, -, -, vf⟩ := r.h hi
  have g11 := g.2.2.2.2.2.2.2.2.2.2.2.2.2.2.2.1
  have g8 := g.2.2.2.2.2.2.2.2.2.2.2.2.2.2.2.2.1
  have r7 := g.2.2.2.1
  have o1 : f_X8_of M (nI i) 1 = some (M 1 (52 + 64 * i + 1)) := m_of (k := 1) (by omega)
  have o11 : f_X8_of M (nI i) 11 = some (nI (hN (M 1) i 11)) := (m_of (k := 11) (by omega)).trans (by rw [g11])
  unfold f_X1_costOfFault f_X8_costOf
  rcases (show kd = 0 ∨ kd = 1 ∨ kd = 2 ∨ kd = 3 by omega) with rfl | rfl | rfl | rfl
  · have le : fb_ct (hN (M 1) i 1).testBit 3 ≤ 3 := fb_ct_le _ _
    refine ⟨1000 * fb_ct (hN (M 1) i 1).testBit 3, by omega, ?_, ?_⟩
    · rw [if_pos (show nI 0 = (0 : Int32) from rfl), c_bcR r hi, xbs, g.1 1 (by decide), rI_c _ (by omega), show (1000 : Int32) = nI 1000 from rfl, pk_mul]
    · rw [if_pos (show nI 0 = (0 : Int32) from rfl), o1, xbs, m_roomsIn, xbs, g.1 1 (by decide), rI_c _ (by omega), show (1000 : Int32) = nI 1000 from rfl, pk_mul]
  · exact ⟨2500, by decide, rfl, rfl⟩
  · exact ⟨4000, by decide, rfl, rfl⟩
  · have le : ∀ k, fT (M 1) i k ≤ k := fun k => fb_ct_le _ _
    have le8 := le (hN (M 1) i 11)
    have t : f_X1_timesLeftLate v i = some (nI (fT (M 1) i (hN (M 1) i 11))) := by
      unfold f_X1_timesLeftLate
      refine xup0 (fun n k => L_X1_timesLeftLate_4 _ v i n (nI (fT (M 1) i k)) (nI k)) _ (hN (M 1) i 11) (fun n k hk => ?_) (fun n => ?_) (n := 100000) (by omega)
      · rw [L_X1_timesLeftLate_4, v12, g11, if_neg (nI_ge hk (by omega))]
        unfold f_X1_faultProperty
        rw [if_neg (nI_pos (by omega)), v12, g11, if_neg (nI_ge hk (by omega)), if_neg (show ¬ (8 : Int32) ≤ nI k from nI_ge (b := 8) (by omega) (by decide)), if_neg (by decide : ¬ (0 : Int32) < 0), if_pos (by decide : (0 : Int32) < 4), show nI k * 4 + (0 : Int32) = nI (k * 4) by rw [show (4 : Int32) = nI 4 from rfl, pk_mul, Int32.add_zero], xgi (by omega) (by decide), nI_clamp (by omega), vf _ (by omega), xbs, Nat.mul_comm k 4]
        simp only [xls, nI_1]
        unfold fT
        rw [fb_ct_succ]
        by_cases h3 : M 1 (52 + 64 * i + (32 + 4 * k)) = 3
        · rw [if_pos h3, if_pos (by simp [h3])]
        · rw [if_neg h3, if_neg (by simp [h3])]
          rfl
      · rw [L_X1_timesLeftLate_4, v12, g11, if_pos (nI_le (Nat.le_refl _) (by omega))]
    refine ⟨2000 + 500 * fT (M 1) i (hN (M 1) i 11), by omega, ?_, ?_⟩
    · rw [if_neg (by decide), if_neg (by decide), if_neg (by decide), t, xbs, show (500 : Int32) = nI 500 from rfl, pk_mul, show (2000 : Int32) = nI 2000 from rfl, nI_add]
    · rw [if_neg (by decide), if_pos (by decide)]
      refine xup0 (fun n k => L_X8_costOf_45 _ M (nI i) n (nI (2000 + 500 * fT (M 1) i k)) (nI k)) _ (hN (M 1) i 11) (fun n k hk => ?_) (fun n => ?_) (n := 100000) (by omega)
      · rw [L_X8_costOf_45, o11, xbs, if_neg (nI_ge hk (by omega)), show (32 : Int32) + 4 * nI k = nI (32 + 4 * k) by rw [show (4 : Int32) = nI 4 from rfl, show (32 : Int32) = nI 32 from rfl, pk_mul, nI_add], m_of (by omega), xbs]
        simp only [xls, nI_1]
        have es : fT (M 1) i (k + 1) = fT (M 1) i k + (if decide (M 1 (52 + 64 * i + (32 + 4 * k)) = 3) = true then 1 else 0) := rfl
        rw [es]
        by_cases h3 : M 1 (52 + 64 * i + (32 + 4 * k)) = 3
        · rw [if_pos h3, if_pos (by simp [h3]), show nI (2000 + 500 * fT (M 1) i k) + (500 : Int32) = nI (2000 + 500 * fT (M 1) i k + 500) from nI_add _ 500, show 2000 + 500 * fT (M 1) i k + 500 = 2000 + 500 * (fT (M 1) i k + 1) by omega]
        · rw [if_neg h3, if_neg (by simp [h3]), Int32.add_zero]
          rfl
      · rw [L_X8_costOf_45, o11, xbs, if_pos (nI_le (Nat.le_refl _) (by omega))]
/-- a free place for a fault is written -/
theorem RB.fltS {v : xV} {w : Nat → Int32} (r : RB v w) {i c : Nat} (hi : i < cN w 10) (h1 : 4 * hN w i 11 ≤ c) (h2 : c < 32) (y : Int32) : RB v (upd w (52 + 64 * i + (32 + c)) y) := by
  have g := r.g hi
  have h12 := r.m12
  have hn : ∀ k, k ≠ 32 + c → upd w (52 + 64 * i + (32 + c)) y (52 + 64 * i + k) = w (52 + 64 * i + k) := fun k hk => upn _ _ (by omega)
  have e11 : hN (upd w (52 + 64 * i + (32 + c)) y) i 11 = hN w i 11 := hN_cong (hn 11 (by omega))
  obtain ⟨⟨r1, r2, r3, r4, r5, r6, r7, r8⟩, ⟨r9, r10, r11⟩, r12, r13, r14⟩ := r.h hi
  refine r.hire hi (fun k hk => upn _ _ (by omega)) (fun _ _ _ => rfl) rfl (g.same (by omega) (by omega)) ⟨⟨?_, ?_, ?_, ?_, ?_, ?_, ?_, ?_⟩, ⟨?_, ?_, ?_⟩, bm_cong r12 fun k hk => sB_up (by omega) (fun k _ => by omega) hk, bm_cong r13 fun k hk => sB_up (by omega) (fun k _ => by omega) hk, fun cc hcc => ?_⟩
  · rw [hn _ (by omega)]; exact r1
  · rw [hn _ (by omega)]; exact r2
  · rw [hn _ (by omega)]; exact r3
  · rw [hn _ (by omega)]; exact r4
  · rw [hn _ (by omega)]; exact r5
  · rw [hn _ (by omega)]; exact r6
  · rw [hn _ (by omega)]; exact r7
  · rw [hn _ (by omega)]; exact r8
  · rw [hn _ (by omega)]; exact r9
  · rw [hn _ (by omega)]; exact r10
  · rw [hn _ (by omega)]; exact r11
  · rw [e11] at hcc
    rw [hn _ (by omega)]
    exact r14 cc hcc
/-- a fault is added -/
theorem RB.addF {v v' : xV} {w : Nat → Int32} (r : RB v w) {i n : Nat} (hi : i < cN w 10) (hn : hN w i 11 = n) (hn8 : n < 8) (hv : ∀ k, k ≠ 6 + 2 * i → k ≠ 7 + 2 * i → v' k = v k) (h6 : ∀ k, k ≠ 12 → v' (6 + 2 * i) k = v (6 + 2 * i) k) (h6' : v' (6 + 2 * i) 12 = nI (n + 1)) (h7 : ∀ k, k < 4 * n → v' (7 + 2 * i) k = v (7 + 2 * i) k) (h7' : ∀ t, t < 4 → v' (7 + 2 * i) (4 * n + t) = w (52 + 64 * i + (32 + (4 * n + t)))) : RB v' (upd w (52 + 64 * i + 11) (nI (n + 1))) := by
  have g := r.g hi
  have h := r.h hi
  have h12 := r.m12
  have s : ∀ k, k ≠ 11 → upd w (52 + 64 * i + 11) (nI (n + 1)) (52 + 64 * i + k) = w (52 + 64 * i + k) := fun k hk => upn _ _ (by omega)
  have e11 : hN (upd w (52 + 64 * i + 11) (nI (n + 1))) i 11 = n + 1 := hN_of (upp _ _ _) (by omega)
  have e9 : hN (upd w (52 + 64 * i + 11) (nI (n + 1))) i 9 = hN w i 9 := hN_cong (s 9 (by decide))
  have c : ∀ c, c < 52 → cN (upd w (52 + 64 * i + 11) (nI (n + 1))) c = cN w c := fun c hc => cN_cong (upn _ _ (by omega))
  obtain ⟨g1, g2, g3, g4, g5, g6, g7, g8, g9, g10, g11, g12, g13, g14, g15, g16, g17, g18⟩ := id g
  refine r.hire hi (fun c hc => upn _ _ (by omega)) hv (h6 0 (by decide)) ?_ ?_
  · refine g.re (fun k hk => s k (by omega)) (by rw [c 9 (by decide)]; exact Nat.le_refl _) (by rw [e9, s 9 (by decide)]; exact g13) (by rw [e9]; exact g14) (by rw [s 10 (by decide)]; exact g15) (by rw [e11, upp]) (by rw [e11]; omega) (fun k hk => ?_)
    rw [s (12 + k) (by omega), hN_cong (s (12 + k) (by omega)), c 0 (by decide)]
    exact g18 k hk
  · refine h.mk2 (fun k hk => s k (by omega)) (fun k h1 h2 => h6 k (by omega)) (by rw [h6 _ (by decide), s 9 (by decide)]; exact h.2.1.1) (by rw [h6', upp]) (by rw [h6 _ (by decide), s 10 (by decide)]; exact h.2.1.2.2) ?_ ?_ (fun cc hc => ?_)
    · rw [h6 _ (by decide)]
      exact bm_cong h.2.2.1 fun k hk => sB_up (by decide) (fun k _ => by omega) hk
    · rw [h6 _ (by decide)]
      exact bm_cong h.2.2.2.1 fun k hk => sB_up (by decide) (fun k _ => by omega) hk
    · rw [e11] at hc
      rw [s (32 + cc) (by omega)]
      rcases Nat.lt_or_ge cc (4 * n) with q | q
      · rw [h7 cc q]
        exact h.2.2.2.2 cc (by omega)
      · have := h7' (cc - 4 * n) (by omega)
        rw [show 4 * n + (cc - 4 * n) = cc by omega] at this
        exact this
theorem s_report (r : RB v (M 1)) (h : HR hv kv M) (dv : xV) (p1 p2 : Int32) : Sm4 M (f_X7_report dv v hv kv p1 p2) (f_X8_report M p1 p2) := by
  have h12 := r.m12
  unfold f_X7_report f_X8_report
  rcases sess_or r p1 with ⟨i, k, hi, hi12, hk, hk20, rfl, e1, e2⟩ | ⟨e1, e2⟩
  · have g := r.g hi
    obtain ⟨gk1, gk2, -⟩ := g.2.2.2.2.2.2.2.2.2.2.2.2.2.2.2.2.2 k hk
    rw [e1, xbs, xo_s, xgp hi12, e2, xbs, i10]
    rcases m_rng 0 3 p2 (A := 0) (B := 3) rfl rfl (by decide) (by decide) with ⟨kd, -, hkd, rfl, e⟩ | ⟨hq, e⟩
    · have o1 : f_X8_of M (nI i) 1 = some (M 1 (52 + 64 * i + 1)) := m_of (k := 1) (by omega)
      have o10 : f_X8_of M (nI i) 10 = some (M 1 (52 + 64 * i + 10)) := m_of (k := 10) (by omega)
      have g11 := g.2.2.2.2.2.2.2.2.2.2.2.2.2.2.2.1
      have g8 := g.2.2.2.2.2.2.2.2.2.2.2.2.2.2.2.2.1
      have o11 : f_X8_of M (nI i) 11 = some (nI (hN (M 1) i 11)) := (m_of (k := 11) (by omega)).trans (by rw [g11])
      obtain ⟨⟨-, v2, -⟩, ⟨-, v12, v13⟩, -⟩ := r.h hi
      rw [e, xbs, i10, if_neg (nI_pos (by omega)), if_pos (show nI kd ≤ (3 : Int32) from nI_le (b := 3) hkd (by decide)), nn_rem (by omega), nn_div (by omega), show (20 * i + k) / 20 = i by omega, show (20 * i + k) % 20 = k by omega, c_stateOf r hi hk]
      simp only [xls, xbs, o1, m_stateOf hi12 hk20, gk1, o10, v13, v12, o11, g11]
      have core : hN (M 1) i 11 < 8 → Sm4 M (xb2 (f_X2_save hv kv v) fun hv_14 kv_15 => xb (f_X1_costOfFault v i (nI kd)) fun r_17 => xb2 (f_X0_takeFromDeposit v i r_17 4) fun r_19 v_20 => xb (f_X1_addFault v_20 i (nI kd) (nI (20 * i + k)) r_17 r_19) fun v_22 => some (r_17, v_22, hv_14, kv_15)) (xb (f_X8_save M) fun M_18 => xb (f_X8_costOf M_18 (nI i) (nI kd)) fun r_20 => xb (f_X8_at (nI i) (32 + (4 * nI (hN (M 1) i 11)))) fun r_22 => xg (xin r_22 820) <| xl (upd2 M_18 1 r_22.toNatClampNeg (nI kd)) fun M_25 => xb (f_X8_at (nI i) ((32 + (4 * nI (hN (M 1) i 11))) + 1)) fun r_26 => xg (xin r_26 820) <| xl (upd2 M_25 1 r_26.toNatClampNeg (nI (20 * i + k))) fun M_29 => xb (f_X8_at (nI i) ((32 + (4 * nI (hN (M 1) i 11))) + 2)) fun r_30 => xg (xin r_30 820) <| xl (upd2 M_29 1 r_30.toNatClampNeg r_20) fun M_33 => xb (f_X8_at (nI i) ((32 + (4 * nI (hN (M 1) i 11))) + 3)) fun r_34 => xb2 (f_X8_takes M_33 (nI i) r_20 4) fun r_36 M_37 => xg (xin r_34 820) <| xl (upd2 M_37 1 r_34.toNatClampNeg r_36) fun M_40 => xb (f_X8_at (nI i) 11) fun r_41 => xg (xin r_41 820) <| xg (xin r_41 820) <| xl (upd2 M_40 1 r_41.toNatClampNeg ((M_40 1 r_41.toNatClampNeg) + 1)) fun M_45 => some (r_20, M_45)) := by
        intro hn8
        obtain ⟨n, hn⟩ : ∃ x, x = hN (M 1) i 11 := ⟨_, rfl⟩
        rw [← hn] at hn8 ⊢
        obtain ⟨hv', kv', M', e3, e4, e5, kp⟩ := s_save r h
        have r' : RB v (M' 1) := by rw [kp.1]; exact r
        have hi' : i < cN (M' 1) 10 := by rw [kp.1]; exact hi
        have hn' : hN (M' 1) i 11 = n := by rw [kp.1]; exact hn.symm
        obtain ⟨a, ha, e6, e7⟩ := s_cost r' hi' hkd
        have c0 : (32 : Int32) + 4 * nI n = nI (32 + (4 * n + 0)) := by rw [show (4 : Int32) = nI 4 from rfl, show (32 : Int32) = nI 32 from rfl, pk_mul, nI_add]; rfl
        have c1 : (32 : Int32) + 4 * nI n + 1 = nI (32 + (4 * n + 1)) := by rw [c0, nI_1]; rfl
        have c2 : (32 : Int32) + 4 * nI n + 2 = nI (32 + (4 * n + 2)) := by rw [c0]; exact nI_add _ 2
        have c3 : (32 : Int32) + 4 * nI n + 3 = nI (32 + (4 * n + 3)) := by rw [c0]; exact nI_add _ 3
        rw [e3, xb2s, e6, xbs, e4, xbs, e7, xbs, c1, c2, c3, c0, m_at, xbs, xgi (by omega) (by decide), nI_clamp (by omega), xls, m_at, xbs, xgi (by omega) (by decide), nI_clamp (by omega), xls, m_at, xbs, xgi (by omega) (by decide), nI_clamp (by omega), xls, m_at, xbs]
        obtain ⟨N1, hN1⟩ : ∃ x, x = upd2 M' 1 (52 + 64 * i + (32 + (4 * n + 0))) (nI kd) := ⟨_, rfl⟩
        rw [← hN1]
        obtain ⟨N2, hN2⟩ : ∃ x, x = upd2 N1 1 (52 + 64 * i + (32 + (4 * n + 1))) (nI (20 * i + k)) := ⟨_, rfl⟩
        rw [← hN2]
        obtain ⟨N3, hN3⟩ : ∃ x, x = upd2 N2 1 (52 + 64 * i + (32 + (4 * n + 2))) (nI a) := ⟨_, rfl⟩
        rw [← hN3]
        have s1 : RB v (N1 1) := by rw [hN1, u2r]; exact r'.fltS hi' (by omega) (by omega) _
        have i1 : i < cN (N1 1) 10 := by rw [hN1, u2r, cN_cong (upn _ _ (by omega))]; exact hi'
        have n1 : hN (N1 1) i 11 = n := by rw [hN1, u2r, hN_cong (upn _ _ (by omega))]; exact hn'
        have s2 : RB v (N2 1) := by rw [hN2, u2r]; exact s1.fltS i1 (by omega) (by omega) _
        have i2 : i < cN (N2 1) 10 := by rw [hN2, u2r, cN_cong (upn _ _ (by omega))]; exact i1
        have n2 : hN (N2 1) i 11 = n := by rw [hN2, u2r, hN_cong (upn _ _ (by omega))]; exact n1
        have s3 : RB v (N3 1) := by rw [hN3, u2r]; exact s2.fltS i2 (by omega) (by omega) _
        have i3 : i < cN (N3 1) 10 := by rw [hN3, u2r, cN_cong (upn _ _ (by omega))]; exact i2
        have n3 : hN (N3 1) i 11 = n := by rw [hN3, u2r, hN_cong (upn _ _ (by omega))]; exact n2
        -- the class takes the cost where the faults' places don't matter
        obtain ⟨t, v4, M4, t1, t2, t3, t4, t5, t6, t7⟩ := s_take s3 i3 (show a < 2 ^ 30 by omega) (Or.inl rfl) (p3 := 4) rfl
        have n4 : M4 1 (52 + 64 * i + 11) = nI n := by
          rw [t6 _ (by omega)]
          have := (s3.g i3).2.2.2.2.2.2.2.2.2.2.2.2.2.2.2.1
          rw [n3] at this
          exact this
        have a11 : f_X8_at (nI i) 11 = some (nI (52 + 64 * i + 11)) := m_at i 11
        rw [t2, xb2s, t3, xb2s, xgi (by omega) (by decide), nI_clamp (by omega), xls, a11, xbs, xgi (by omega) (by decide), xgi (by omega) (by decide), nI_clamp (by omega), xls, u2j _ _ (show 52 + 64 * i + 11 ≠ 52 + 64 * i + (32 + (4 * n + 3)) by omega), n4, nI_1]
        have i4 : i < cN (M4 1) 10 := by rw [cN_cong (t6 10 (by omega))]; exact i3
        have h4 : hN (M4 1) i 11 = n := hN_of n4 (by omega)
        have s5 : RB v4 (upd (M4 1) (52 + 64 * i + (32 + (4 * n + 3))) (nI t)) := t4.fltS i4 (by omega) (by omega) _
        have i5 : i < cN (upd (M4 1) (52 + 64 * i + (32 + (4 * n + 3))) (nI t)) 10 := by rw [cN_cong (upn _ _ (by omega))]; exact i4
        have n5 : hN (upd (M4 1) (52 + 64 * i + (32 + (4 * n + 3))) (nI t)) i 11 = n := by rw [hN_cong (upn _ _ (by omega))]; exact h4
        have v412 : v4 (6 + 2 * i) 12 = nI n := by
          rw [t7 _ _ (by omega) (by omega) (by omega), v12, g11, hn]
        have ef : f_X1_addFault v4 i (nI kd) (nI (20 * i + k)) (nI a) (nI t) = some (upd2 (upd2 (upd2 (upd2 (upd2 v4 (7 + 2 * i) (n * 4) (nI kd)) (7 + 2 * i) (n * 4 + 1) (nI (20 * i + k))) (7 + 2 * i) (n * 4 + 2) (nI a)) (7 + 2 * i) (n * 4 + 3) (nI t)) (6 + 2 * i) 12 (nI (n + 1))) := by
          unfold f_X1_addFault
          rw [v412, show nI n * 4 = nI (n * 4) from pk_mul n 4, xls, if_neg (nI_pos (by omega)), show nI (n * 4) + (4 : Int32) = nI (n * 4 + 4) from nI_add _ 4, if_pos (show nI (n * 4 + 4) ≤ (32 : Int32) from nI_le (b := 32) (by omega) (by decide)), show nI (n * 4) + (1 : Int32) = nI (n * 4 + 1) from nI_add _ 1, show nI (n * 4) + (2 : Int32) = nI (n * 4 + 2) from nI_add _ 2, show nI (n * 4) + (3 : Int32) = nI (n * 4 + 3) from nI_add _ 3]
          simp only [xgi (show n * 4 < 32 by omega) (show 32 < 2 ^ 31 by decide), xgi (show n * 4 + 1 < 32 by omega) (show 32 < 2 ^ 31 by decide), xgi (show n * 4 + 2 < 32 by omega) (show 32 < 2 ^ 31 by decide), xgi (show n * 4 + 3 < 32 by omega) (show 32 < 2 ^ 31 by decide), nI_clamp (show n * 4 < 2 ^ 31 by omega), nI_clamp (show n * 4 + 1 < 2 ^ 31 by omega), nI_clamp (show n * 4 + 2 < 2 ^ 31 by omega), nI_clamp (show n * 4 + 3 < 2 ^ 31 by omega), xls]
          rw [u2k _ _ (by omega), u2k _ _ (by omega), u2k _ _ (by omega), u2k _ _ (by omega), v412, nI_1]
        rw [ef, xbs]
        refine Sm4.fin kp e5 ?_ (fun c hc => ?_) rfl
        · rw [u2r, u2r]
          refine s5.addF i5 n5 hn8 (fun k h1 h2 => ?_) (fun k h1 => ?_) ?_ (fun c hc => ?_) (fun c hc => ?_)
          · rw [u2k _ _ h1, u2k _ _ h2, u2k _ _ h2, u2k _ _ h2, u2k _ _ h2]
          · rw [u2j _ _ h1, u2k _ _ (by omega), u2k _ _ (by omega), u2k _ _ (by omega), u2k _ _ (by omega)]
          · rw [u2s]
          · rw [u2k _ _ (by omega), u2j _ _ (by omega), u2j _ _ (by omega), u2j _ _ (by omega), u2j _ _ (by omega)]
          · rw [u2k _ _ (by omega)]
            rcases (show c = 0 ∨ c = 1 ∨ c = 2 ∨ c = 3 by omega) with rfl | rfl | rfl | rfl
            · rw [u2j _ _ (by omega), u2j _ _ (by omega), u2j _ _ (by omega), show 4 * n + 0 = n * 4 by omega, u2s, upn _ _ (by omega), t6 _ (by omega), hN3, u2j _ _ (by omega), hN2, u2j _ _ (by omega), hN1, show 32 + n * 4 = 32 + (4 * n + 0) by omega, u2s]
            · rw [u2j _ _ (by omega), u2j _ _ (by omega), show 4 * n + 1 = n * 4 + 1 by omega, u2s, upn _ _ (by omega), t6 _ (by omega), hN3, u2j _ _ (by omega), hN2, show 32 + (n * 4 + 1) = 32 + (4 * n + 1) by omega, u2s]
            · rw [u2j _ _ (by omega), show 4 * n + 2 = n * 4 + 2 by omega, u2s, upn _ _ (by omega), t6 _ (by omega), hN3, show 32 + (n * 4 + 2) = 32 + (4 * n + 2) by omega, u2s]
            · rw [upp, show 4 * n + 3 = n * 4 + 3 by omega, u2s]
        · rw [u2k _ _ hc, u2k _ _ hc, t5 c hc, hN3, u2k _ _ hc, hN2, u2k _ _ hc, hN1, u2k _ _ hc]
      have lim : hN (M 1) i 11 < 8 ∨ hN (M 1) i 11 = 8 := by omega
      by_cases hst : hN (M 1) i (12 + k) = 1
      · have st1 : nI (hN (M 1) i (12 + k)) = 1 := by rw [hst]; rfl
        rcases g.2.2.2.2.2.2.2.2.2.2.2.2.2.2.1 with hset | hset
        · by_cases hkd1 : kd = 1
          · have kk : nI kd = 1 := by rw [hkd1]; rfl
            by_cases hkit : M 1 (52 + 64 * i + 1) &&& 2 = 0
            · have ec : f_X1_canHaveFault v i (nI kd) = some 0 := by
                unfold f_X1_canHaveFault
                rw [if_pos kk, v2, if_pos hkit]
              rw [if_pos st1, if_pos hset, ec, xbs, i00, if_pos kk, if_pos hkit, if_pos st1]
              split <;> exact Sm4.stay r h
            · have ec : f_X1_canHaveFault v i (nI kd) = some 1 := by
                unfold f_X1_canHaveFault
                rw [if_pos kk, v2, if_neg hkit]
              rcases lim with hl | hl
              · have := core hl
                rw [if_pos st1, if_pos hset, ec, xbs, i10, if_pos kk, if_neg hkit, if_pos st1, if_neg (show ¬ M 1 (52 + 64 * i + 10) = 1 by rw [hset]; decide), if_pos (show nI (hN (M 1) i 11) < (8 : Int32) from nI_lt (b := 8) hl (by decide)), if_neg (show ¬ nI (hN (M 1) i 11) = (8 : Int32) from ne_lit (b := 8) (by omega) (by omega) (by decide))]
                exact this
              · rw [if_pos st1, if_pos hset, ec, xbs, i10, if_pos kk, if_neg hkit, if_pos st1, if_neg (show ¬ M 1 (52 + 64 * i + 10) = 1 by rw [hset]; decide), if_neg (show ¬ nI (hN (M 1) i 11) < (8 : Int32) from nI_nlt (b := 8) (by omega) (by omega)), if_pos (show nI (hN (M 1) i 11) = (8 : Int32) by rw [hl]; rfl)]
                exact Sm4.stay r h
          · have kk : ¬ nI kd = 1 := ne_lit (b := 1) hkd1 (by omega) (by decide)
            have ec : f_X1_canHaveFault v i (nI kd) = some 1 := by
              unfold f_X1_canHaveFault
              rw [if_neg kk]
            rcases lim with hl | hl
            · have := core hl
              rw [if_pos st1, if_pos hset, ec, xbs, i10, if_neg kk, if_pos st1, if_neg (show ¬ M 1 (52 + 64 * i + 10) = 1 by rw [hset]; decide), if_pos (show nI (hN (M 1) i 11) < (8 : Int32) from nI_lt (b := 8) hl (by decide)), if_neg (show ¬ nI (hN (M 1) i 11) = (8 : Int32) from ne_lit (b := 8) (by omega) (by omega) (by decide))]
              exact this
            · rw [if_pos st1, if_pos hset, ec, xbs, i10, if_neg kk, if_pos st1, if_neg (show ¬ M 1 (52 + 64 * i + 10) = 1 by rw [hset]; decide), if_neg (show ¬ nI (hN (M 1) i 11) < (8 : Int32) from nI_nlt (b := 8) (by omega) (by omega)), if_pos (show nI (hN (M 1) i 11) = (8 : Int32) by rw [hl]; rfl)]
              exact Sm4.stay r h
        · have n0 : ¬ M 1 (52 + 64 * i + 10) = 0 := by rw [hset]; decide
          simp only [if_pos st1, if_neg n0, if_pos hset]
          split
          · split <;> exact Sm4.stay r h
          · exact Sm4.stay r h
      · have st1 : ¬ nI (hN (M 1) i (12 + k)) = 1 := ne_lit (b := 1) hst (by omega) (by decide)
        simp only [if_neg st1]
        split
        · split <;> exact Sm4.stay r h
        · exact Sm4.stay r h
    · rw [e, xbs, i00]
      rcases hq with hq | hq
      · rw [if_pos (show p2 < (0 : Int32) from hq)]
        exact Sm4.stay r h
      · by_cases h0 : p2 < 0
        · rw [if_pos h0]
          exact Sm4.stay r h
        · rw [if_neg h0, if_neg (show ¬ p2 ≤ (3 : Int32) from (fa_of_lt hq).2.1)]
          exact Sm4.stay r h
  · rw [e1, xbs, xo_n, e2, xbs, i00]
    exact Sm4.stay r h
end
