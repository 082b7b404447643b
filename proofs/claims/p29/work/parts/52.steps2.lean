/-! ===== PURE p29, 3: what report, settle, lend and hire make of the row ===== -/
def cst (w : Nat → Int32) (i kd : Nat) : Nat := if kd = 0 then 1000 * fb_ct (hN w i 1).testBit 3 else if kd = 1 then 2500 else if kd = 2 then 4000 else 2000 + 500 * fT w i (hN w i 11)
/-- why a fault can't be reported; 0: it can -/
def rpE (w : Nat → Int32) (i k kd : Nat) : Int32 := if kd = 1 ∧ w (52 + 64 * i + 1) &&& 2 = 0 then -2000000002 else if hN w i (12 + k) = 1 then (if w (52 + 64 * i + 10) = 1 then -2000000002 else if hN w i 11 = 8 then -2000000003 else 0) else -2000000002
def setB (w : Nat → Int32) (i : Nat) : Bool := decide (w (52 + 64 * i + 10) = 0) && (decide (sC w i 0 = 0) && decide (kF w (nI i) ≤ 0))
def lendB (w : Nat → Int32) (j i k : Nat) : Bool := decide (w (40 + 2 * j) = -1) && (decide (lpS w i (hN w i 4) = some k) && !decide (((w (52 + 64 * i + 1) >>> (nI (j % 3) &&& 31)) &&& 1) = 0))
def row0 (b ro d f t n p : Nat) (P dep : Int32) (k : Nat) : Int32 := if k = 0 then nI b else if k = 1 then nI ro else if k = 2 then nI f else if k = 3 then nI t else if k = 4 then nI n else if k = 5 then nI d else if k = 6 then nI p else if k = 7 then P else if k = 8 then dcI n else if k = 9 then dep else 0
def wMake (w : Nat → Int32) (b ro d f t n p : Nat) : Nat → Int32 := fun c => if c = 10 then nI (cN w 10 + 1) else if c = 14 then w 14 + w 6 else if c = 13 then w 13 + w 6 else if c = 11 then w 11 + pP w (nI ro) f t n else if c = 20 + 2 * b then w (20 + 2 * b) + (pP w (nI ro) f t n + w 6) else if 52 + 64 * cN w 10 ≤ c ∧ c < 52 + 64 * cN w 10 + 64 then row0 b ro d f t n p (pP w (nI ro) f t n) (w 6) (c - (52 + 64 * cN w 10)) else w c
section
variable {v M hv : xV} {kv : Nat → xV}
theorem cst_le (w : Nat → Int32) {i kd : Nat} (h : hN w i 11 ≤ 8) : cst w i kd ≤ 10000 := by
  have l1 : fb_ct (hN w i 1).testBit 3 ≤ 3 := fb_ct_le _ _
  have l2 : fT w i (hN w i 11) ≤ hN w i 11 := fb_ct_le _ _
  unfold cst
  repeat' split
  all_goals omega
theorem m_cost (r : RB v (M 1)) {i kd : Nat} (hi : i < cN (M 1) 10) (hk : kd ≤ 3) : f_X8_costOf M (nI i) (nI kd) = some (nI (cst (M 1) i kd)) := by
  have h12 := r.m12
  have g := r.g hi
  have g11 := g.2.2.2.2.2.2.2.2.2.2.2.2.2.2.2.1
  have g8 := g.2.2.2.2.2.2.2.2.2.2.2.2.2.2.2.2.1
  have r7 := g.2.2.2.1
  have o1 : f_X8_of M (nI i) 1 = some (M 1 (52 + 64 * i + 1)) := m_of (k := 1) (by omega)
  have o11 : f_X8_of M (nI i) 11 = some (nI (hN (M 1) i 11)) := (m_of (k := 11) (by omega)).trans (by rw [g11])
  unfold f_X8_costOf cst
  rcases (show kd = 0 ∨ kd = 1 ∨ kd = 2 ∨ kd = 3 by omega) with rfl | rfl | rfl | rfl
  · rw [if_pos (show nI 0 = (0 : Int32) from rfl), if_pos rfl, o1, xbs, m_roomsIn, xbs, g.1 1 (by decide), rI_c _ (by omega), show (1000 : Int32) = nI 1000 from rfl, pk_mul]
  · rfl
  · rfl
  · have le : ∀ k, fT (M 1) i k ≤ k := fun k => fb_ct_le _ _
    have le8 := le (hN (M 1) i 11)
    rw [if_neg (show ¬ nI 3 = (0 : Int32) by decide), if_pos (show (3 : Int32) ≤ nI 3 by decide), if_neg (by decide), if_neg (by decide), if_neg (by decide)]
    refine xup0 (fun n k => L_X8_costOf_45 _ M (nI i) n (nI (2000 + 500 * fT (M 1) i k)) (nI k)) _ (hN (M 1) i 11) (fun n k hk => ?_) (fun n => ?_) (n := 100000) (by omega)
    · rw [L_X8_costOf_45, o11, xbs, if_neg (nI_ge hk (by omega)), show (32 : Int32) + 4 * nI k = nI (32 + 4 * k) by rw [show (4 : Int32) = nI 4 from rfl, show (32 : Int32) = nI 32 from rfl, pk_mul, nI_add], m_of (by omega), xbs]
      simp only [xls, nI_1]
      have es : fT (M 1) i (k + 1) = fT (M 1) i k + (if decide (M 1 (52 + 64 * i + (32 + 4 * k)) = 3) = true then 1 else 0) := rfl
      rw [es]
      by_cases h3 : M 1 (52 + 64 * i + (32 + 4 * k)) = 3
      · rw [if_pos h3, if_pos (by simp [h3]), show nI (2000 + 500 * fT (M 1) i k) + (500 : Int32) = nI (2000 + 500 * fT (M 1) i k + 500) from nI_add _ 500, show 2000 + 500 * fT (M 1) i k + 500 = 2000 + 500 * (fT (M 1) i k + 1) by omega]
      · rw [if_neg h3, if_neg (by simp [h3]), Int32.add_zero]
        rfl
    · rw [L_X8_costOf_45, o11, xbs, if_pos (nI_le (Nat.le_refl _) (by omega))]
theorem m_rep (r : RB v (M 1)) (h : HR hv kv M) {i k kd : Nat} (hi : i < cN (M 1) 10) (hk : k < hN (M 1) i 4) (hkd : kd ≤ 3) (hn8 : hN (M 1) i 11 < 8) : ∃ M', (xb (f_X8_save M) fun M_18 => xb (f_X8_costOf M_18 (nI i) (nI kd)) fun r_20 => xb (f_X8_at (nI i) (32 + (4 * nI (hN (M 1) i 11)))) fun r_22 => xg (xin r_22 820) <| xl (upd2 M_18 1 r_22.toNatClampNeg (nI kd)) fun M_25 => xb (f_X8_at (nI i) ((32 + (4 * nI (hN (M 1) i 11))) + 1)) fun r_26 => xg (xin r_26 820) <| xl (upd2 M_25 1 r_26.toNatClampNeg (nI (20 * i + k))) fun M_29 => xb (f_X8_at (nI i) ((32 + (4 * nI (hN (M 1) i 11))) + 2)) fun r_30 => xg (xin r_30 820) <| xl (upd2 M_29 1 r_30.toNatClampNeg r_20) fun M_33 => xb (f_X8_at (nI i) ((32 + (4 * nI (hN (M 1) i 11))) + 3)) fun r_34 => xb2 (f_X8_takes M_33 (nI i) r_20 4) fun r_36 M_37 => xg (xin r_34 820) <| xl (upd2 M_37 1 r_34.toNatClampNeg r_36) fun M_40 => xb (f_X8_at (nI i) 11) fun r_41 => xg (xin r_41 820) <| xg (xin r_41 820) <| xl (upd2 M_40 1 r_41.toNatClampNeg ((M_40 1 r_41.toNatClampNeg) + 1)) fun M_45 => some (r_20, M_45)) = some (nI (cst (M 1) i kd), M') ∧ M' 1 = wRep (M 1) i k kd (cst (M 1) i kd) := by
  have h12 := r.m12
  have g := r.g hi
  have g11 := g.2.2.2.2.2.2.2.2.2.2.2.2.2.2.2.1
  obtain ⟨a, ha⟩ : ∃ x, x = cst (M 1) i kd := ⟨_, rfl⟩
  have ha0 : a ≤ 10000 := by rw [ha]; exact cst_le _ (by omega)
  obtain ⟨n, hn⟩ : ∃ x, x = hN (M 1) i 11 := ⟨_, rfl⟩
  have hn8' := hn8
  rw [← hn] at hn8 ⊢
  obtain ⟨hv', kv', M', e3, e4, e5, kp⟩ := s_save r h
  have r' : RB v (M' 1) := by rw [kp.1]; exact r
  have hi' : i < cN (M' 1) 10 := by rw [kp.1]; exact hi
  have hn' : hN (M' 1) i 11 = n := by rw [kp.1]; exact hn.symm
  have e7 : f_X8_costOf M' (nI i) (nI kd) = some (nI a) := by rw [m_cost r' hi' hkd, kp.1, ha]
  have c0 : (32 : Int32) + 4 * nI n = nI (32 + (4 * n + 0)) := by rw [show (4 : Int32) = nI 4 from rfl, show (32 : Int32) = nI 32 from rfl, pk_mul, nI_add]; rfl
  have c1 : (32 : Int32) + 4 * nI n + 1 = nI (32 + (4 * n + 1)) := by rw [c0, nI_1]; rfl
  have c2 : (32 : Int32) + 4 * nI n + 2 = nI (32 + (4 * n + 2)) := by rw [c0]; exact nI_add _ 2
  have c3 : (32 : Int32) + 4 * nI n + 3 = nI (32 + (4 * n + 3)) := by rw [c0]; exact nI_add _ 3
  rw [← ha, e4, xbs, e7, xbs, c1, c2, c3, c0, m_at, xbs, xgi (by omega) (by decide), nI_clamp (by omega), xls, m_at, xbs, xgi (by omega) (by decide), nI_clamp (by omega), xls, m_at, xbs, xgi (by omega) (by decide), nI_clamp (by omega), xls, m_at, xbs]
  obtain ⟨N1, hN1⟩ : ∃ x, x = upd2 M' 1 (52 + 64 * i + (32 + (4 * n + 0))) (nI kd) := ⟨_, rfl⟩
  rw [← hN1]
  obtain ⟨N2, hN2⟩ : ∃ x, x = upd2 N1 1 (52 + 64 * i + (32 + (4 * n + 1))) (nI (20 * i + k)) := ⟨_, rfl⟩
  rw [← hN2]
  obtain ⟨N3, hN3⟩ : ∃ x, x = upd2 N2 1 (52 + 64 * i + (32 + (4 * n + 2))) (nI a) := ⟨_, rfl⟩
  rw [← hN3]
  have s1 : RB v (N1 1) := by rw [hN1, u2r]; exact r'.fltS hi' (by omega) (by omega) _
  have i1 : i < cN (N1 1) 10 := by rw [hN1, u2r, cN_cong (upn _ _ (by omega))]; exact hi'
  have n1 : hN (N1 1) i 11 = n := by rw [hN1, u2r, hN_cong (upn _ _ (by omega))]; exact hn'
  have s2 : RB v (N2 1) := by rw [hN2, u2r]; exact s1.fltS i1 (by omega) (by omega) _
  have i2 : i < cN (N2 1) 10 := by rw [hN2, u2r, cN_cong (upn _ _ (by omega))]; exact i1
  have n2 : hN (N2 1) i 11 = n := by rw [hN2, u2r, hN_cong (upn _ _ (by omega))]; exact n1
  have s3 : RB v (N3 1) := by rw [hN3, u2r]; exact s2.fltS i2 (by omega) (by omega) _
  have i3 : i < cN (N3 1) 10 := by rw [hN3, u2r, cN_cong (upn _ _ (by omega))]; exact i2
  obtain ⟨M4, t3, t4, t5⟩ := m_take s3 i3 (a := a) (show a < 2 ^ 30 by omega) (Or.inl rfl) (p3 := 4) rfl
  have z9 : hN (N3 1) i 9 = hN (M 1) i 9 := by
    rw [hN3, u2r, hN_cong (upn _ _ (by omega)), hN2, u2r, hN_cong (upn _ _ (by omega)), hN1, u2r, hN_cong (upn _ _ (by omega)), kp.1]
  have z0 : hN (N3 1) i 0 = hN (M 1) i 0 := by
    rw [hN3, u2r, hN_cong (upn _ _ (by omega)), hN2, u2r, hN_cong (upn _ _ (by omega)), hN1, u2r, hN_cong (upn _ _ (by omega)), kp.1]
  have zo : ∀ c, c ≠ 52 + 64 * i + (32 + (4 * n + 0)) → c ≠ 52 + 64 * i + (32 + (4 * n + 1)) → c ≠ 52 + 64 * i + (32 + (4 * n + 2)) → N3 1 c = M 1 c := fun c q1 q2 q3 => by
    rw [hN3, u2r, upn _ _ q3, hN2, u2r, upn _ _ q2, hN1, u2r, upn _ _ q1, kp.1]
  have hb10 : hN (M 1) i 0 < 10 := Nat.lt_of_lt_of_le g.2.1 r.h10
  have n4 : M4 1 (52 + 64 * i + 11) = nI n := by
    rw [t4]
    unfold wTake
    rw [if_neg (by omega), if_neg (by omega), if_neg (by omega), if_neg (by omega), if_neg (by rw [z0]; omega), zo _ (by omega) (by omega) (by omega), hn, g11]
  have a11 : f_X8_at (nI i) 11 = some (nI (52 + 64 * i + 11)) := m_at i 11
  rw [z9] at t3
  refine ⟨upd2 (upd2 M4 1 (52 + 64 * i + (32 + (4 * n + 3))) (nI (min (hN (M 1) i 9) a))) 1 (52 + 64 * i + 11) (nI (n + 1)), ?_, ?_⟩
  · rw [t3, xb2s, xgi (by omega) (by decide), nI_clamp (by omega), xls, a11, xbs, xgi (by omega) (by decide), xgi (by omega) (by decide), nI_clamp (by omega), xls, u2j _ _ (show 52 + 64 * i + 11 ≠ 52 + 64 * i + (32 + (4 * n + 3)) by omega), n4, nI_1]
  · rw [u2r, u2r, t4]
    funext c
    unfold wRep wTake
    rw [z9, z0, ← hn]
    have y0 : N3 1 (20 + 2 * hN (M 1) i 0) = M 1 (20 + 2 * hN (M 1) i 0) := zo _ (by omega) (by omega) (by omega)
    have y14 : N3 1 14 = M 1 14 := zo _ (by omega) (by omega) (by omega)
    have y15 : N3 1 (11 + 4) = M 1 (11 + 4) := zo _ (by omega) (by omega) (by omega)
    have y18 : N3 1 18 = M 1 18 := zo _ (by omega) (by omega) (by omega)
    have x0 : N3 1 (52 + 64 * i + (32 + 4 * n)) = nI kd := by
      rw [hN3, u2r, upn _ _ (by omega), hN2, u2r, upn _ _ (by omega), hN1, u2r, show 32 + 4 * n = 32 + (4 * n + 0) by omega, upp]
    have x1 : N3 1 (52 + 64 * i + (32 + 4 * n + 1)) = nI (20 * i + k) := by
      rw [hN3, u2r, upn _ _ (by omega), hN2, u2r, show 32 + 4 * n + 1 = 32 + (4 * n + 1) by omega, upp]
    have x2 : N3 1 (52 + 64 * i + (32 + 4 * n + 2)) = nI a := by
      rw [hN3, u2r, show 32 + 4 * n + 2 = 32 + (4 * n + 2) by omega, upp]
    simp only [upe, y0, y14, y15, y18]
    rcases (show c = 52 + 64 * i + (32 + 4 * n) ∨ c = 52 + 64 * i + (32 + 4 * n + 1) ∨ c = 52 + 64 * i + (32 + 4 * n + 2) ∨ c = 52 + 64 * i + (32 + 4 * n + 3) ∨ c = 52 + 64 * i + 11 ∨ (c ≠ 52 + 64 * i + (32 + 4 * n) ∧ c ≠ 52 + 64 * i + (32 + 4 * n + 1) ∧ c ≠ 52 + 64 * i + (32 + 4 * n + 2) ∧ c ≠ 52 + 64 * i + (32 + 4 * n + 3) ∧ c ≠ 52 + 64 * i + 11) by omega) with q | q | q | q | q | ⟨q1, q2, q3, q4, q5⟩
    · rw [if_neg (by omega), if_neg (by omega), if_neg (by omega), if_neg (by omega), if_neg (by omega), if_neg (by omega), if_neg (by omega), if_pos q, q, x0]
    · rw [if_neg (by omega), if_neg (by omega), if_neg (by omega), if_neg (by omega), if_neg (by omega), if_neg (by omega), if_neg (by omega), if_neg (by omega), if_pos q, q, x1]
    · rw [if_neg (by omega), if_neg (by omega), if_neg (by omega), if_neg (by omega), if_neg (by omega), if_neg (by omega), if_neg (by omega), if_neg (by omega), if_neg (by omega), if_pos q, q, x2]
    · rw [if_neg (by omega), if_pos (by omega), if_neg (by omega), if_neg (by omega), if_neg (by omega), if_pos q]
    · rw [if_pos q, if_neg (by omega), if_neg (by omega), if_neg (by omega), if_neg (by omega), if_pos q]
    · rw [if_neg q5, if_neg (by omega), if_neg q1, if_neg q2, if_neg q3, if_neg q4, if_neg q5, zo c (by omega) (by omega) (by omega)]
theorem m_report (r : RB v (M 1)) (h : HR hv kv M) {i k kd : Nat} (hi : i < cN (M 1) 10) (hk : k < hN (M 1) i 4) (hkd : kd ≤ 3) : (rpE (M 1) i k kd ≠ 0 ∧ f_X8_report M (nI (20 * i + k)) (nI kd) = some (rpE (M 1) i k kd, M)) ∨ (rpE (M 1) i k kd = 0 ∧ ∃ M', f_X8_report M (nI (20 * i + k)) (nI kd) = some (nI (cst (M 1) i kd), M') ∧ M' 1 = wRep (M 1) i k kd (cst (M 1) i kd)) := by
  have h12 := r.m12
  have g := r.g hi
  have h20 := g.2.2.2.2.2.2.2.1
  obtain ⟨gk1, gk2, -⟩ := g.2.2.2.2.2.2.2.2.2.2.2.2.2.2.2.2.2 k hk
  have g11 := g.2.2.2.2.2.2.2.2.2.2.2.2.2.2.2.1
  have g8 := g.2.2.2.2.2.2.2.2.2.2.2.2.2.2.2.2.1
  have o1 : f_X8_of M (nI i) 1 = some (M 1 (52 + 64 * i + 1)) := m_of (k := 1) (by omega)
  have o10 : f_X8_of M (nI i) 10 = some (M 1 (52 + 64 * i + 10)) := m_of (k := 10) (by omega)
  have o11 : f_X8_of M (nI i) 11 = some (nI (hN (M 1) i 11)) := (m_of (k := 11) (by omega)).trans (by rw [g11])
  have ok : hN (M 1) i 11 < 8 → _ := m_rep r h hi hk hkd
  unfold f_X8_report rpE
  rw [sess_ok r hi hk, xbs, i10, in_ok (A := 0) (B := 3) (lo := 0) (hi := 3) rfl rfl (by omega) hkd (by decide), xbs, i10, xls, nn_div (by omega), show (20 * i + k) / 20 = i by omega, m_stateOf (by omega) (by omega), gk1]
  simp only [xbs, o1, o10, o11]
  have e1 : (nI kd = (1 : Int32)) ↔ kd = 1 := nI_eq (b := 1) (by omega) (by decide)
  have e2 : (nI (hN (M 1) i (12 + k)) = (1 : Int32)) ↔ hN (M 1) i (12 + k) = 1 := nI_eq (b := 1) (by omega) (by decide)
  have e3 : (nI (hN (M 1) i 11) = (8 : Int32)) ↔ hN (M 1) i 11 = 8 := nI_eq (b := 8) (by omega) (by decide)
  have ne2 : (-2000000002 : Int32) ≠ 0 := by decide
  have ne3 : (-2000000003 : Int32) ≠ 0 := by decide
  by_cases c1 : kd = 1
  · rw [if_pos (e1.mpr c1)]
    by_cases c2 : M 1 (52 + 64 * i + 1) &&& 2 = 0
    · rw [if_pos c2, if_pos ⟨c1, c2⟩]
      refine Or.inl ⟨ne2, ?_⟩
      split
      · split <;> rfl
      · rfl
    · rw [if_neg c2, if_neg (fun z => c2 z.2)]
      by_cases c3 : hN (M 1) i (12 + k) = 1
      · rw [if_pos (e2.mpr c3), if_pos c3]
        by_cases c4 : M 1 (52 + 64 * i + 10) = 1
        · rw [if_pos c4, if_pos c4]
          exact Or.inl ⟨ne2, rfl⟩
        · rw [if_neg c4, if_neg c4]
          by_cases c5 : hN (M 1) i 11 = 8
          · rw [if_pos (e3.mpr c5), if_pos c5]
            exact Or.inl ⟨ne3, rfl⟩
          · rw [if_neg (fun z => c5 (e3.mp z)), if_neg c5]
            exact Or.inr ⟨rfl, ok (by omega)⟩
      · rw [if_neg (fun z => c3 (e2.mp z)), if_neg c3]
        exact Or.inl ⟨ne2, rfl⟩
  · rw [if_neg (fun z => c1 (e1.mp z)), if_neg (fun z => c1 z.1)]
    by_cases c3 : hN (M 1) i (12 + k) = 1
    · rw [if_pos (e2.mpr c3), if_pos c3]
      by_cases c4 : M 1 (52 + 64 * i + 10) = 1
      · rw [if_pos c4, if_pos c4]
        exact Or.inl ⟨ne2, rfl⟩
      · rw [if_neg c4, if_neg c4]
        by_cases c5 : hN (M 1) i 11 = 8
        · rw [if_pos (e3.mpr c5), if_pos c5]
          exact Or.inl ⟨ne3, rfl⟩
        · rw [if_neg (fun z => c5 (e3.mp z)), if_neg c5]
          exact Or.inr ⟨rfl, ok (by omega)⟩
    · rw [if_neg (fun z => c3 (e2.mp z)), if_neg c3]
      exact Or.inl ⟨ne2, rfl⟩
theorem m_settle (r : RB v (M 1)) (h : HR hv kv M) {i : Nat} (hi : i < cN (M 1) 10) : (setB (M 1) i = false ∧ f_X8_settle M (nI i) = some (-2000000002, M)) ∨ (setB (M 1) i = true ∧ ∃ M', f_X8_settle M (nI i) = some (M 1 (52 + 64 * i + 9), M') ∧ M' 1 = wSet (M 1) i) := by
  have h12 := r.m12
  have g := r.g hi
  have hb10 : hN (M 1) i 0 < 10 := Nat.lt_of_lt_of_le g.2.1 r.h10
  have o10 : f_X8_of M (nI i) 10 = some (M 1 (52 + 64 * i + 10)) := m_of (k := 10) (by omega)
  have hs20 := sC_le (M 1) i 0
  unfold f_X8_settle setB
  rw [hire_ok r hi, xbs, i10, o10, xbs, m_manyOf (s := 0) (p2 := 0) rfl (by decide) (by omega) g, xbs, m_keysOf, xbs]
  rcases g.2.2.2.2.2.2.2.2.2.2.2.2.2.2.1 with hs | hs
  · rw [if_neg (show ¬ M 1 (52 + 64 * i + 10) = 1 by rw [hs]; decide)]
    by_cases hp : sC (M 1) i 0 = 0
    · rw [if_neg (show ¬ (0 : Int32) < nI (sC (M 1) i 0) by rw [hp]; decide)]
      by_cases hk : kF (M 1) (nI i) ≤ 0
      · rw [if_pos hk]
        refine Or.inr ⟨by simp [hs, hp, hk], ?_⟩
        obtain ⟨hv', kv', M1, e3, e4, e5, kp⟩ := s_save r h
        obtain ⟨D, hD⟩ : ∃ x, x = M 1 (52 + 64 * i + 9) := ⟨_, rfl⟩
        obtain ⟨N1, hN1⟩ : ∃ x, x = upd2 M1 1 (52 + 64 * i + 9) 0 := ⟨_, rfl⟩
        obtain ⟨N2, hN2⟩ : ∃ x, x = upd2 N1 1 (52 + 64 * i + 10) 1 := ⟨_, rfl⟩
        obtain ⟨N3, hN3⟩ : ∃ x, x = upd2 N2 1 14 (N2 1 14 - D) := ⟨_, rfl⟩
        obtain ⟨N4, hN4⟩ : ∃ x, x = upd2 N3 1 17 (N3 1 17 + D) := ⟨_, rfl⟩
        have o9 : f_X8_of M1 (nI i) 9 = some D := (m_of (k := 9) (by omega)).trans (by rw [kp.1, hD])
        have a9 : f_X8_at (nI i) 9 = some (nI (52 + 64 * i + 9)) := m_at i 9
        have a10 : f_X8_at (nI i) 10 = some (nI (52 + 64 * i + 10)) := m_at i 10
        have o0 : f_X8_of N4 (nI i) 0 = some (nI (hN (M 1) i 0)) := (m_of (k := 0) (by omega)).trans (by
          rw [hN4, hN3, hN2, hN1]
          simp only [u2r]
          rw [upn _ _ (by omega), upn _ _ (by omega), upn _ _ (by omega), upn _ _ (by omega), kp.1, g.1 0 (by decide)])
        refine ⟨upd2 N4 1 (20 + 2 * hN (M 1) i 0 + 1) (N4 1 (20 + 2 * hN (M 1) i 0 + 1) + D), ?_, ?_⟩
        · rw [e4, xbs, o9, xbs, a9, xbs, xgi (by omega) (by decide), nI_clamp (by omega), xls, ← hN1, a10, xbs, xgi (by omega) (by decide), nI_clamp (by omega), xls, ← hN2, xls, ← hN3, xls, ← hN4, o0, xbs, m_pays _ hb10 _ rfl, xbs, hD]
        · rw [hN4, hN3, hN2, hN1]
          simp only [u2r, kp.1]
          funext c
          unfold wSet
          rw [← hD]
          simp only [upe]
          repeat' split
          all_goals first | rfl | omega
      · rw [if_neg hk]
        exact Or.inl ⟨by simp [hk], rfl⟩
    · rw [if_pos (show (0 : Int32) < nI (sC (M 1) i 0) from nI_lt (a := 0) (by omega) (by omega))]
      exact Or.inl ⟨by simp [hp], rfl⟩
  · rw [if_pos hs]
    exact Or.inl ⟨by simp [hs], rfl⟩
theorem m_lend (r : RB v (M 1)) (h : HR hv kv M) {i j : Nat} (hj : j < 6) (hi : i < cN (M 1) 10) : ((∀ k, lendB (M 1) j i k = false) ∧ f_X8_lend M (nI j) (nI i) = some (-2000000002, M)) ∨ ∃ k, lendB (M 1) j i k = true ∧ k < hN (M 1) i 4 ∧ ∃ M', f_X8_lend M (nI j) (nI i) = some (nI (hN (M 1) i 5 + k * hN (M 1) i 6 + cN (M 1) 8), M') ∧ M' 1 = wLend (M 1) j i k := by
  have h12 := r.m12
  have g := r.g hi
  have h20 := g.2.2.2.2.2.2.2.1
  have c1 : (40 : Int32) + 2 * nI j = nI (40 + 2 * j) := by rw [show (2 : Int32) = nI 2 from rfl, show (40 : Int32) = nI 40 from rfl, pk_mul, nI_add]
  have o1 : f_X8_of M (nI i) 1 = some (M 1 (52 + 64 * i + 1)) := m_of (k := 1) (by omega)
  unfold f_X8_lend lendB
  rw [key_ok hj, xbs, i10, hire_ok r hi, xbs, i10, m_lastP r hi, xbs]
  simp only [c1, nI_1, xgi (show 40 + 2 * j < 820 by omega) (show 820 < 2 ^ 31 by decide), xgi (show 40 + 2 * j + 1 < 820 by omega) (show 820 < 2 ^ 31 by decide), nI_clamp (show 40 + 2 * j < 2 ^ 31 by omega), nI_clamp (show 40 + 2 * j + 1 < 2 ^ 31 by omega)]
  by_cases hk : M 1 (40 + 2 * j) = -1
  · rw [if_pos hk]
    cases hl : lpS (M 1) i (hN (M 1) i 4) with
    | none =>
      rw [oI_n, if_pos rfl]
      exact Or.inl ⟨fun k => by simp, rfl⟩
    | some k =>
      have hkn := lpS_lt hl
      rw [oI_s, if_neg (fun z => nI_m1 (by omega) z.symm : ¬ nI k = -1), o1, xbs, show nI j - nI j / 3 * 3 = nI (j % 3) from pk_rem (by omega) (by decide) (by decide)]
      by_cases hr : ((M 1 (52 + 64 * i + 1) >>> (nI (j % 3) &&& 31)) &&& 1) = 0
      · rw [if_pos hr]
        exact Or.inl ⟨fun k => by simp [hr], rfl⟩
      · rw [if_neg hr]
        refine Or.inr ⟨k, by simp [hk, hr], hkn, ?_⟩
        obtain ⟨hv', kv', M1, e5, e6, e7, kp⟩ := s_save r h
        have g' : GH (upd2 M1 1 (40 + 2 * j) (nI i) 1) i := by
          rw [u2r, kp.1]
          exact g.cong (fun k hk => upn _ _ (by omega)) (by rw [cN_cong (upn _ _ (by omega))]; exact Nat.le_refl _) (by rw [cN_cong (upn _ _ (by omega))]; exact Nat.le_refl _)
        have m8 : upd2 M1 1 (40 + 2 * j) (nI i) 1 8 = nI (cN (M 1) 8) := by rw [u2r, upn _ _ (by omega), kp.1]; exact r.1.2.2.2.2.2.2.1.1
        have d5 : hN (upd2 M1 1 (40 + 2 * j) (nI i) 1) i 5 = hN (M 1) i 5 := by rw [← kp.1]; exact hN_cong (by rw [u2r, upn _ _ (by omega)])
        have d6 : hN (upd2 M1 1 (40 + 2 * j) (nI i) 1) i 6 = hN (M 1) i 6 := by rw [← kp.1]; exact hN_cong (by rw [u2r, upn _ _ (by omega)])
        refine ⟨upd2 (upd2 M1 1 (40 + 2 * j) (nI i)) 1 (40 + 2 * j + 1) (nI (hN (M 1) i 5 + k * hN (M 1) i 6 + cN (M 1) 8)), ?_, ?_⟩
        · rw [e6, xbs, xls, show (20 : Int32) * nI i + nI k = nI (20 * i + k) by rw [show (20 : Int32) = nI 20 from rfl, pk_mul, nI_add], m_dayOf (by omega) (by omega) g', xbs, m8, d5, d6, nI_add, xls, u2s]
        · rw [u2r, u2r, kp.1]
          funext c
          unfold wLend
          simp only [upe]
          repeat' split
          all_goals first | rfl | omega
  · rw [if_neg hk]
    exact Or.inl ⟨fun k => by simp [hk], rfl⟩
theorem m_make (r : RB v (M 1)) {m b ro f t n d p : Nat} (hm : cN (M 1) 10 = m) (hm12 : m < 12) (hb : b < cN (M 1) 9) (hft : f < t) (ht : t ≤ 24) (hn : n ≤ 20) : ∃ M', f_X8_makes M (nI b) (nI ro) (nI d) (nI f) (nI t) (nI n) (nI p) = some M' ∧ M' 1 = wMake (M 1) b ro d f t n p ∧ ∀ c, c ≠ 1 → M' c = M c := by
  have hb10 : b < 10 := Nat.lt_of_lt_of_le hb r.h10
  have wm : M 1 10 = nI m := by rw [r.wm, hm]
  obtain ⟨dep, hdep⟩ : ∃ x, x = M 1 6 := ⟨_, rfl⟩
  obtain ⟨P, hP⟩ : ∃ x, x = pP (M 1) (nI ro) f t n := ⟨_, rfl⟩
  obtain ⟨N1, hN1⟩ : ∃ x, x = upd2 (upd2 (upd2 (upd2 (upd2 (upd2 (upd2 (upd2 (upd2 (upd2 (zM M m 64) 1 (52 + 64 * m + 0) (nI b)) 1 (52 + 64 * m + 1) (nI ro)) 1 (52 + 64 * m + 2) (nI f)) 1 (52 + 64 * m + 3) (nI t)) 1 (52 + 64 * m + 4) (nI n)) 1 (52 + 64 * m + 5) (nI d)) 1 (52 + 64 * m + 6) (nI p)) 1 (52 + 64 * m + 7) P) 1 (52 + 64 * m + 8) (dcI n)) 1 (52 + 64 * m + 9) dep := ⟨_, rfl⟩
  have out : ∀ c, (c < 52 + 64 * m ∨ 52 + 64 * m + 64 ≤ c) → N1 1 c = M 1 c := fun c hc => by
    rw [hN1]
    simp only [u2r]
    rw [upn _ _ (by omega), upn _ _ (by omega), upn _ _ (by omega), upn _ _ (by omega), upn _ _ (by omega), upn _ _ (by omega), upn _ _ (by omega), upn _ _ (by omega), upn _ _ (by omega), upn _ _ (by omega)]
    exact if_neg (by omega)
  have inn : ∀ k, k < 64 → N1 1 (52 + 64 * m + k) = row0 b ro d f t n p P dep k := fun k hk => by
    rw [hN1]
    unfold row0
    simp only [u2r, upe]
    have zz : k < 64 → zM M m 64 1 (52 + 64 * m + k) = 0 := fun _ => if_pos ⟨rfl, by omega, by omega⟩
    rcases (show k = 0 ∨ k = 1 ∨ k = 2 ∨ k = 3 ∨ k = 4 ∨ k = 5 ∨ k = 6 ∨ k = 7 ∨ k = 8 ∨ k = 9 ∨ 10 ≤ k by omega) with q | q | q | q | q | q | q | q | q | q | q
    · simp (disch := omega) only [if_pos, if_neg, if_true, if_false, q]
    · simp (disch := omega) only [if_pos, if_neg, if_true, if_false, q]
    · simp (disch := omega) only [if_pos, if_neg, if_true, if_false, q]
    · simp (disch := omega) only [if_pos, if_neg, if_true, if_false, q]
    · simp (disch := omega) only [if_pos, if_neg, if_true, if_false, q]
    · simp (disch := omega) only [if_pos, if_neg, if_true, if_false, q]
    · simp (disch := omega) only [if_pos, if_neg, if_true, if_false, q]
    · simp (disch := omega) only [if_pos, if_neg, if_true, if_false, q]
    · simp (disch := omega) only [if_pos, if_neg, if_true, if_false, q]
    · simp (disch := omega) only [if_pos, if_neg, if_true, if_false, q]
    · rw [zz hk]
      simp (disch := omega) only [if_neg]
  obtain ⟨N2, hN2⟩ : ∃ x, x = upd2 N1 1 (20 + 2 * b) (N1 1 (20 + 2 * b) + (P + dep)) := ⟨_, rfl⟩
  obtain ⟨N3, hN3⟩ : ∃ x, x = upd2 N2 1 11 (N2 1 11 + P) := ⟨_, rfl⟩
  obtain ⟨N4, hN4⟩ : ∃ x, x = upd2 N3 1 13 (N3 1 13 + dep) := ⟨_, rfl⟩
  obtain ⟨N5, hN5⟩ : ∃ x, x = upd2 N4 1 14 (N4 1 14 + dep) := ⟨_, rfl⟩
  obtain ⟨N6, hN6⟩ : ∃ x, x = upd2 N5 1 10 (N5 1 10 + 1) := ⟨_, rfl⟩
  have oth : ∀ c, c ≠ 1 → N6 c = M c := fun c hc => by
    rw [hN6, u2k _ _ hc, hN5, u2k _ _ hc, hN4, u2k _ _ hc, hN3, u2k _ _ hc, hN2, u2k _ _ hc, hN1, u2k _ _ hc, u2k _ _ hc, u2k _ _ hc, u2k _ _ hc, u2k _ _ hc, u2k _ _ hc, u2k _ _ hc, u2k _ _ hc, u2k _ _ hc, u2k _ _ hc]
    funext x
    exact if_neg (fun y => hc y.1)
  refine ⟨N6, ?_, ?_, oth⟩
  · unfold f_X8_makes
    have a : ∀ (k : Nat) (x : Int32), x = nI k → f_X8_at (nI m) x = some (nI (52 + 64 * m + k)) := fun k x hx => by rw [hx]; exact m_at m k
    rw [wm, xls, m_priceOf M (f := f) (t := t) (n := n) rfl rfl rfl hft ht hn, xbs, ← hP, ← hdep, xls, m_zero _ _ hm12, a 0 0 rfl, xbs, xgi (by omega) (by decide), nI_clamp (by omega), xls, a 1 1 rfl, xbs, xgi (by omega) (by decide), nI_clamp (by omega), xls, a 2 2 rfl, xbs, xgi (by omega) (by decide), nI_clamp (by omega), xls, a 3 3 rfl, xbs, xgi (by omega) (by decide), nI_clamp (by omega), xls, a 4 4 rfl, xbs, xgi (by omega) (by decide), nI_clamp (by omega), xls, a 5 5 rfl, xbs, xgi (by omega) (by decide), nI_clamp (by omega), xls, a 6 6 rfl, xbs, xgi (by omega) (by decide), nI_clamp (by omega), xls, a 7 7 rfl, xbs, xgi (by omega) (by decide), nI_clamp (by omega), xls, a 8 8 rfl, xbs, dc_8, dc_eq (by omega), xbs, xgi (by omega) (by decide), nI_clamp (by omega), xls, a 9 9 rfl, xbs, xgi (by omega) (by decide), nI_clamp (by omega), xls, ← hN1, m_charges _ hb10 _ rfl, xbs, ← hN2, xls, ← hN3, xls, ← hN4, xls, ← hN5, xls, ← hN6]
  · have n510 : N5 1 10 = nI m := by
      rw [hN5, u2j _ _ (by decide), hN4, u2j _ _ (by decide), hN3, u2j _ _ (by decide), hN2, u2j _ _ (by omega), out 10 (by omega), wm]
    rw [hN6, u2r, n510, nI_1, hN5, u2r, hN4, u2r, hN3, u2r, hN2, u2r]
    funext c
    unfold wMake
    rw [hm, ← hP, ← hdep]
    have y11 : N1 1 11 = M 1 11 := out _ (by omega)
    have y13 : N1 1 13 = M 1 13 := out _ (by omega)
    have y14 : N1 1 14 = M 1 14 := out _ (by omega)
    have yb : N1 1 (20 + 2 * b) = M 1 (20 + 2 * b) := out _ (by omega)
    simp only [upe]
    rcases (show c = 10 ∨ c = 14 ∨ c = 13 ∨ c = 11 ∨ c = 20 + 2 * b ∨ (52 + 64 * m ≤ c ∧ c < 52 + 64 * m + 64) ∨ (c ≠ 10 ∧ c ≠ 14 ∧ c ≠ 13 ∧ c ≠ 11 ∧ c ≠ 20 + 2 * b ∧ (c < 52 + 64 * m ∨ 52 + 64 * m + 64 ≤ c)) by omega) with q | q | q | q | q | q | ⟨q1, q2, q3, q4, q5, q6⟩
    · simp (disch := omega) only [if_pos, if_neg, if_true, if_false, q]
    · simp (disch := omega) only [if_pos, if_neg, if_true, if_false, q, y14]
    · simp (disch := omega) only [if_pos, if_neg, if_true, if_false, q, y13]
    · simp (disch := omega) only [if_pos, if_neg, if_true, if_false, q, y11]
    · simp (disch := omega) only [if_pos, if_neg, if_true, if_false, q, yb]
    · obtain ⟨k, rfl⟩ : ∃ k, c = 52 + 64 * m + k := ⟨c - (52 + 64 * m), by omega⟩
      rw [if_neg (by omega), if_neg (by omega), if_neg (by omega), if_neg (by omega), if_neg (by omega), if_neg (by omega), if_neg (by omega), if_neg (by omega), if_neg (by omega), if_neg (by omega), if_pos q, show 52 + 64 * m + k - (52 + 64 * m) = k by omega, inn k (by omega)]
    · rw [if_neg q1, if_neg q2, if_neg q3, if_neg q4, if_neg q5, if_neg q1, if_neg q2, if_neg q3, if_neg q4, if_neg q5, if_neg (by omega), out c q6]
end
