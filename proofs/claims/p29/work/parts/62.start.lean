/-! ===== PURE p29, 13: the start: the second hall's days, the three hirers ===== -/
theorem st_sh : Shape bk0 := ⟨fun i hi => by rw [bk0_h hi, if_pos rfl], fun j _ => by rw [bk0_k, if_pos rfl]⟩
theorem st_n : cN (m1 6) 10 = 0 := by decide +kernel
set_option maxRecDepth 20000 in
theorem st_good : Good (m1 6) := by
  refine ⟨by decide +kernel, by decide +kernel, by decide +kernel, by decide +kernel, by decide +kernel, by decide +kernel, by decide +kernel, fun i hi => ?_, fun j hj => Or.inl ?_⟩
  · rw [st_n] at hi
    exact absurd hi (Nat.not_lt_zero i)
  · rcases (show j = 0 ∨ j = 1 ∨ j = 2 ∨ j = 3 ∨ j = 4 ∨ j = 5 by omega) with rfl | rfl | rfl | rfl | rfl | rfl <;> decide +kernel
set_option maxRecDepth 20000 in
theorem st_rr : RR bk0 (m1 6) := by
  refine ⟨by decide +kernel, by decide +kernel, by decide +kernel, by decide +kernel, by decide +kernel, fun i hi => ?_, fun i _ hi => ⟨?_, fun k h2 _ => ?_⟩⟩
  · rw [st_n] at hi
    exact absurd hi (Nat.not_lt_zero i)
  · rw [bk0_h hi, if_neg (by decide), if_pos rfl]
  · rw [bk0_h hi, if_neg (by omega), if_neg (by omega)]
theorem st_rb : RB bk0 (M0 1) := ⟨st_good, st_sh, st_rr⟩
theorem st_hr : HR hv0 (fun _ => bk0) M0 := ⟨0, fun i => i, by decide, by decide +kernel, by decide +kernel, fun i hi => ⟨hi, rfl⟩, fun i j _ _ e => e, fun i hi => absurd hi (Nat.not_lt_zero i), fun _ _ => st_sh⟩
theorem st_cr : CR (fun _ j => if j = 5 then -1 else 0) M0 := Or.inl ⟨by decide +kernel, by decide +kernel⟩
theorem st_pw : PW M0 := ⟨_, _, _, _, fun _ _ => 0, st_rb, st_hr, by decide +kernel, st_cr⟩
theorem st_k : ∀ j, j < 6 → m1 6 (40 + 2 * j) = -1 := by decide +kernel
/-- no key is out: no fees -/
theorem no_fees {M : xV} (hk : ∀ j, j < 6 → M 1 (40 + 2 * j) = -1) (K : Int32 → Int32 → xV → Option (Int32 × xV)) (kp : Nat) : L_X8_pass_69 K 100000 (nI kp) 0 M = K (nI kp) (nI 6) M := by
  refine xup0 (fun n j => L_X8_pass_69 K n (nI kp) (nI j) M) (K (nI kp) (nI 6) M) 6 (fun n j hj => ?_) (fun n => ?_) (n := 100000) (by decide)
  · have z : kL (M 1) j = 0 := by
      unfold kL
      rw [if_pos (hk j hj)]
    rw [fee_step M hj, z, if_pos (by decide)]
  · rw [L_X8_pass_69, if_pos (by decide)]
theorem p_days {D : Nat} (hD : D ≤ 60) : ∀ (e j : Nat), j + e = D → ∀ (M v : xV) (x : Int32) (n : Nat), RB v (M 1) → cN (M 1) 10 = 0 → (∀ j, j < 6 → M 1 (40 + 2 * j) = -1) → cN (M 1) 0 + e ≤ 400 → e < n → ∃ v' M', L_X8_pass_43 (fun x_35 x_36 _ M_38 => if 0 ≤ x_36 then some (x_35, M_38) else some (0, M_38)) (nI D) n x (nI 0) (nI j) M = some (x, M') ∧ RB v' (M' 1) ∧ (∀ c, c ≠ 0 → M' 1 c = M 1 c) ∧ cN (M' 1) 0 = cN (M 1) 0 + e := by
  intro e
  induction e with
  | zero =>
    intro j hj M v x n r hm hk h0 hn
    obtain ⟨n, rfl⟩ : ∃ q, n = q + 1 := ⟨n - 1, by omega⟩
    have : j = D := by omega
    subst this
    refine ⟨v, M, ?_, r, fun _ _ => rfl, rfl⟩
    rw [L_X8_pass_43, if_pos (nI_le (Nat.le_refl _) (by omega)), if_pos (by decide)]
  | succ e ih =>
    intro j hj M v x n r hm hk h0 hn
    obtain ⟨n, rfl⟩ : ∃ q, n = q + 1 := ⟨n - 1, by omega⟩
    obtain ⟨M1, b1, b2⟩ := day_one r
    have so : soN (M 1) (cN (M 1) 0) = 0 := fb_ct_zero.mpr fun i _ => Bool.eq_false_iff.mpr fun z => by
      have := onB_i z
      omega
    rw [so] at b1
    obtain ⟨M2, hM2⟩ : ∃ z, z = upd2 M1 1 0 (M1 1 0 + 1) := ⟨_, rfl⟩
    have w2 : M2 1 = wDay (M 1) := by rw [hM2, b2]
    have rd := r.day rfl (by omega)
    have r2 : RB (upd2 (mkV v (M 1) (cN (M 1) 0) 12) 0 0 (nI (cN (M 1) 0 + 1))) (M2 1) := by
      rw [w2]
      exact rd
    have same : ∀ c, c ≠ 0 → M2 1 c = M 1 c := fun c hc => by
      rw [w2]
      unfold wDay
      rw [upn _ _ hc, hm]
      exact if_neg (fun z => Nat.not_lt_zero _ z.2.2.2.1)
    have d2 : cN (M2 1) 0 = cN (M 1) 0 + 1 := cN_of (by rw [w2, wDay_0]) (by omega)
    obtain ⟨v', M', q1, q2, q3, q4⟩ := ih (j + 1) (by omega) M2 _ x n r2 (by rw [cN_cong (same 10 (by decide))]; exact hm) (fun j hj => by rw [same _ (by omega)]; exact hk j hj) (by omega) (by omega)
    refine ⟨v', M', ?_, q2, fun c hc => (q3 c hc).trans (same c hc), by omega⟩
    rw [L_X8_pass_43, if_neg (nI_ge (by omega) (by omega)), b1, xb2s]
    simp only [xls, nI_1]
    rw [← hM2, no_fees (fun j hj => by rw [same _ (by omega)]; exact hk j hj) _ 0, show x + nI 0 = x from Int32.add_zero x]
    exact q1
/-- the halls before the steps: h hirers -/
def ST (d h : Nat) (M N : xV) : Prop := PW M ∧ PW N ∧ Sh d (M 1) (N 1) ∧ N 0 4 = M 0 4 ∧ N 0 6 = M 0 6 ∧ M 1 9 = nI h ∧ ∀ c, c ≠ 9 → M 1 c = m1 6 c
theorem go_pass {d : Nat} (h1 : 1 ≤ d) (h2 : d ≤ 50) : ∃ N0, f_X8_pass M0 (nI d) = some (0, N0) ∧ ST d 0 M0 N0 := by
  have r := st_rb
  obtain ⟨hv1, kv1, M1, e1, e2, e3, kp⟩ := s_save st_rb st_hr
  have w1 : M1 1 = m1 6 := kp.1
  have d0 : cN (m1 6) 0 = 0 := by decide +kernel
  obtain ⟨v', N0, q1, q2, q3, q4⟩ := p_days (D := d) (by omega) d 0 (by omega) M1 bk0 0 100000 (by rw [w1]; exact r) (by rw [w1]; exact st_n) (fun j hj => by rw [w1]; exact st_k j hj) (by rw [w1, d0]; omega) (by omega)
  have pn : f_X8_pass M0 (nI d) = some (0, N0) := by
    unfold f_X8_pass
    rw [in_ok (A := 1) (B := 60) (lo := 1) (hi := 60) rfl rfl h1 (by omega) (by decide), xbs, i10, show M0 1 0 = nI 0 from rfl, nI_add, if_pos (show nI (0 + d) ≤ (400 : Int32) from nI_le (b := 400) (by omega) (by decide)), e2, xbs]
    exact q1
  have p := PW.of (tv := fun _ _ => 0) (M := M0) (by decide +kernel) st_cr (s_pass st_rb st_hr (fun _ _ => 0) (nI d)) pn
  refine ⟨N0, pn, st_pw, p.1, ⟨?_, fun c a b => ?_, fun j hj => ⟨?_, fun z => absurd (st_k j hj) z⟩, fun i hi => ?_⟩, p.2.1, p.2.2, by decide +kernel, fun _ _ => rfl⟩
  · have z0 : N0 1 0 = nI (cN (N0 1) 0) := q2.wd
    rw [z0, q4, w1, d0]
    show nI (0 + d) = 0 + nI d
    rw [show (0 : Int32) = nI 0 from rfl, nI_add]
  · rw [q3 c (by omega), w1]
    rfl
  · rw [q3 _ (by omega), w1]
    rfl
  · exact absurd hi (by rw [show M0 1 = m1 6 from rfl, st_n]; exact Nat.not_lt_zero i)
theorem m_add {v M hv : xV} {kv : Nat → xV} (r : RB v (M 1)) (h : HR hv kv M) {n : Nat} (h9 : M 1 9 = nI n) (hn : n < 10) : ∃ M', f_X8_addHirer M = some (nI n, M') ∧ M' 1 = upd (M 1) 9 (nI (n + 1)) := by
  obtain ⟨hv', kv', M1, e3, e4, e5, kp⟩ := s_save r h
  refine ⟨upd2 M1 1 9 (nI (n + 1)), ?_, by rw [u2r, kp.1]⟩
  unfold f_X8_addHirer
  rw [h9, if_neg (show ¬ nI n = (10 : Int32) from ne_lit (b := 10) (by omega) (by omega) (by decide)), e4, xbs, xls, kp.1, h9, nI_1, u2s, nI_pred]
theorem go_add {d h : Nat} {M N : xV} (T : ST d h M N) (hh : h < 3) : ∃ M' N', f_X8_addHirer M = some (nI h, M') ∧ f_X8_addHirer N = some (nI h, N') ∧ ST d (h + 1) M' N' := by
  obtain ⟨⟨dv, v, hv, kv, tv, r, hr, ht, c⟩, ⟨dv', v', hv', kv', tv', r', hr', ht', c'⟩, s, t4, t6, t9, ts⟩ := T
  obtain ⟨M', e1, e2⟩ := m_add r hr t9 (by omega)
  obtain ⟨N', f1, f2⟩ := m_add r' hr' ((s.lo (by decide) (by decide)).trans t9) (by omega)
  have p := PW.of ht c (s_addHirer r hr dv) e1
  have p' := PW.of ht' c' (s_addHirer r' hr' dv') f1
  refine ⟨M', N', e1, f1, p.1, p'.1, by rw [e2, f2]; exact s.updE (by decide) (by decide) (by decide) _, by rw [p'.2.1, p.2.1, t4], by rw [p'.2.2, p.2.2, t6], by rw [e2, upp], fun q hq => by rw [e2, upn _ _ hq]; exact ts q hq⟩
theorem go_end {d : Nat} {M N : xV} (T : ST d 3 M N) : TW d 0 M N := by
  obtain ⟨p, p', s, t4, t6, t9, ts⟩ := T
  have c10 : cN (M 1) 10 = 0 := by rw [cN_cong (ts 10 (by decide))]; exact st_n
  refine ⟨p, p', s, ⟨⟨?_, ?_, ?_, ?_⟩, cN_of t9 (by decide), fun i hi => ?_, fun j hj => ?_, ?_, fun b hb => ?_⟩, ?_, t4, t6⟩
  · unfold sD
    rw [c10, ts 14 (by decide)]
    show (0 : Int32) = m1 6 14
    decide +kernel
  · unfold sPr
    rw [c10, ts 11 (by decide)]
    show (0 : Int32) = m1 6 11
    decide +kernel
  · rw [ts 13 (by decide), ts 14 (by decide), ts 15 (by decide), ts 16 (by decide), ts 17 (by decide)]
    decide +kernel
  · unfold dbt
    rw [ts 20 (by decide), ts 21 (by decide), ts 22 (by decide), ts 23 (by decide), ts 24 (by decide), ts 25 (by decide), ts 11 (by decide), ts 12 (by decide), ts 13 (by decide), ts 17 (by decide), ts 18 (by decide), ts 19 (by decide)]
    decide +kernel
  · rw [c10] at hi
    exact absurd hi (Nat.not_lt_zero i)
  · rw [ts (1 + j) (by omega)]
    rcases (show j = 0 ∨ j = 1 ∨ j = 2 by omega) with rfl | rfl | rfl
    · exact ⟨1200, by decide, by decide +kernel⟩
    · exact ⟨800, by decide, by decide +kernel⟩
    · exact ⟨600, by decide, by decide +kernel⟩
  · rw [ts 4 (by decide)]
    exact ⟨25, by decide, by decide +kernel⟩
  · rw [ts _ (by omega)]
    rcases (show b = 0 ∨ b = 1 ∨ b = 2 by omega) with rfl | rfl | rfl
    · exact ⟨0, by decide, by decide +kernel⟩
    · exact ⟨0, by decide, by decide +kernel⟩
    · exact ⟨0, by decide, by decide +kernel⟩
  · rw [cN_cong (ts 0 (by decide))]
    decide +kernel
