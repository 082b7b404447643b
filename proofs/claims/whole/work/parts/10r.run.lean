/-! ===== PURE 17: reasons, the run over a text ===== -/
def RS (rv fv M : xV) (x y : Option (Int32 × xV)) : Prop := ∃ q rv' M', x = some (nI q, rv') ∧ y = some (nI q, M') ∧ q ≤ 5 ∧ q ≠ 1 ∧ (∀ j, j ≠ 4 → rv' 0 j = rv 0 j) ∧ (∀ j, j ≠ 16 → M' 0 j = M 0 j) ∧ (∀ k, k ≠ 0 → M' k = M k) ∧ (q = 4 → ∃ s, s < 240 ∧ rv' 0 4 = nI s ∧ M' 0 16 = nI s) ∧ (q = 0 → ∃ b d f t ro n p, fv 0 0 = nI b ∧ M 0 8 = nI b ∧ fv 0 4 = nI d ∧ M 0 9 = nI d ∧ fv 0 2 = nI f ∧ M 0 10 = nI f ∧ fv 0 3 = nI t ∧ M 0 11 = nI t ∧ fv 0 1 = nI ro ∧ M 0 12 = nI ro ∧ fv 0 5 = nI n ∧ M 0 13 = nI n ∧ fv 0 6 = nI p ∧ M 0 14 = nI p ∧ b < cN (M 1) 9 ∧ 1 ≤ ro ∧ ro ≤ 7 ∧ f < t ∧ t ≤ 24 ∧ 1 ≤ n ∧ n ≤ 20 ∧ 1 ≤ p ∧ p ≤ 60 ∧ d + (n - 1) * p ≤ 364 ∧ cN (M 1) 10 < 12)
section
variable {v M : xV}
theorem s_reason (r : RB v (M 1)) {fv : xV} (F : FLD fv M) (rv : xV) : RS rv fv M (f_X5_reasonAgainst rv v fv) (f_X8_reasonOf M) := by
  obtain ⟨b, d, f, t, ro, n, p, ⟨w0, m8, hb⟩, ⟨w4, m9, hd⟩, ⟨w2, m10, hf⟩, ⟨w3, m11, ht⟩, ⟨w1, m12, hr1, hr7⟩, ⟨w5, m13, hn⟩, ⟨w6, m14, hp⟩⟩ := F
  have hd400 := r.d400
  have stay : ∀ q, q ≤ 5 → q ≠ 1 → q ≠ 4 → q ≠ 0 → RS rv fv M (some (nI q, rv)) (some (nI q, M)) := fun q h1 h2 h3 h4 => ⟨q, rv, M, rfl, rfl, h1, h2, fun _ _ => rfl, fun _ _ => rfl, fun _ _ => rfl, fun z => absurd z h3, fun z => absurd z h4⟩
  unfold f_X5_reasonAgainst f_X8_reasonOf f_X6_lastDay
  rw [w0, m8, m9, m10, m11, m12, m13, m14]
  rcases hirer_or r (nI b) with ⟨b', hb', hb10, hbe, e1, e2⟩ | ⟨e1, e2⟩
  · have hbb : b = b' := (nI_eq (by omega) (by omega)).mp hbe
    subst hbb
    rw [e1, xbs, i10, e2, xbs, xbs, i10, r.vd, r.wd]
    have S := stay 3 (by decide) (by decide) (by decide) (by decide)
    by_cases c1 : t ≤ f
    · have z : f_X6_isInRange fv (nI (cN (M 1) 0)) = some 0 := rng0 (Or.inr (Or.inr (Or.inr (Or.inl (by rw [w3, w2]; exact nI_le c1 (by omega))))))
      rw [z, xbs, i00, if_pos (nI_le c1 (by omega)), m_in (nI n) 1 20 (A := 1) (B := 20) rfl rfl, xbs, m_in (nI p) 1 60 (A := 1) (B := 60) rfl rfl, xbs]
      repeat' split
      all_goals exact S
    · rw [if_neg (nI_ge (by omega) (by omega))]
      by_cases c2 : 24 < t
      · have z : f_X6_isInRange fv (nI (cN (M 1) 0)) = some 0 := rng0 (Or.inr (Or.inr (Or.inr (Or.inr (Or.inl (by rw [w3]; exact nI_lt (a := 24) c2 (by omega)))))))
        rw [z, xbs, i00, if_pos (show (24 : Int32) < nI t from nI_lt (a := 24) c2 (by omega)), m_in (nI n) 1 20 (A := 1) (B := 20) rfl rfl, xbs, m_in (nI p) 1 60 (A := 1) (B := 60) rfl rfl, xbs]
        repeat' split
        all_goals exact S
      · rw [if_neg (show ¬ (24 : Int32) < nI t from nI_nlt (a := 24) (by omega) (by decide))]
        rcases m_rng 1 20 (nI n) (A := 1) (B := 20) rfl rfl (by decide) (by decide) with ⟨n', h7, h8, hne, e5⟩ | ⟨hq, e5⟩
        · have hnn : n = n' := (nI_eq (by omega) (by omega)).mp hne
          subst hnn
          rw [e5, xbs, i10]
          rcases m_rng 1 60 (nI p) (A := 1) (B := 60) rfl rfl (by decide) (by decide) with ⟨p', h9, h10, hpe, e6⟩ | ⟨hq, e6⟩
          · have hpp : p = p' := (nI_eq (by omega) (by omega)).mp hpe
            subst hpp
            rw [e6, xbs, i10]
            rcases m_rng (cN (M 1) 0) 364 (nI d) (A := (nI (cN (M 1) 0)).toInt64) (B := 364) rfl rfl (by omega) (by decide) with ⟨d', h5, h6, hde, e7⟩ | ⟨hq, e7⟩
            · have hdd : d = d' := (nI_eq (by omega) (by omega)).mp hde
              subst hdd
              have hmul : (n - 1) * p ≤ 19 * 60 := Nat.mul_le_mul (by omega) h10
              have eL : nI d + (nI n - 1) * nI p = nI (d + (n - 1) * p) := by
                rw [show nI n - 1 = nI (n - 1) from pk_sub (b := 1) h7, pk_mul, nI_add]
              have z : f_X6_isInRange fv (nI (cN (M 1) 0)) = some 1 := rng1 (by rw [w4]; exact nI_nlt h5 (by omega)) (by rw [w4]; exact nI_nlt (a := 364) h6 (by decide)) (by rw [w2]; exact nI_pos (by omega)) (by rw [w2, w3]; exact nI_ge (by omega) (by omega)) (by rw [w3]; exact nI_nlt (a := 24) (by omega) (by decide)) (by rw [w5]; exact nI_nlt (b := 1) h7 (by omega)) (by rw [w5]; exact nI_nlt (a := 20) h8 (by decide)) (by rw [w6]; exact nI_nlt (b := 1) h9 (by omega)) (by rw [w6]; exact nI_nlt (a := 60) h10 (by decide))
              rw [z, xbs, i10, e7, xbs, i10, w4, w5, w6, eL]
              by_cases hl : d + (n - 1) * p ≤ 364
              · rw [if_pos (show nI (d + (n - 1) * p) ≤ (364 : Int32) from nI_le (b := 364) hl (by decide)), if_pos (show nI (d + (n - 1) * p) ≤ (364 : Int32) from nI_le (b := 364) hl (by decide))]
                obtain ⟨x, k3, k4, k5⟩ := clashOf_eq r w4 w5 w6 h8 hl
                rw [w0, w1, w2, w3] at k4
                rw [k3, xbs, k4, xbs]
                simp only [xls, u2s]
                rcases k5 with rfl | ⟨s, hs, rfl⟩
                · rw [if_pos rfl, if_pos rfl]
                  unfold f_X0_isFull
                  rw [r.vm, u2k _ _ (show (1 : Nat) ≠ 0 by decide), r.wm]
                  by_cases hm : cN (M 1) 10 < 12
                  · rw [if_pos (show nI (cN (M 1) 10) < (12 : Int32) from nI_lt (b := 12) hm (by decide)), xbs, i00, if_neg (show ¬ nI (cN (M 1) 10) = (12 : Int32) from ne_lit (b := 12) (by omega) (by omega) (by decide))]
                    exact ⟨0, _, _, rfl, rfl, by decide, by decide, fun j hj => u2j _ _ hj, fun j hj => u2j _ _ hj, fun k hk => u2k _ _ hk, (fun z => by cases z), fun _ => ⟨b, d, f, t, ro, n, p, w0, m8, w4, m9, w2, m10, w3, m11, w1, m12, w5, m13, w6, m14, hb', hr1, hr7, by omega, by omega, h7, h8, h9, h10, hl, hm⟩⟩
                  · rw [if_neg (show ¬ nI (cN (M 1) 10) < (12 : Int32) from nI_nlt (b := 12) (by omega) (by have := r.m12; omega)), xbs, i10, if_pos (show nI (cN (M 1) 10) = (12 : Int32) by rw [show cN (M 1) 10 = 12 by have := r.m12; omega]; rfl)]
                    exact ⟨5, _, _, rfl, rfl, by decide, by decide, fun j hj => u2j _ _ hj, fun j hj => u2j _ _ hj, fun k hk => u2k _ _ hk, (fun z => by cases z), (fun z => by cases z)⟩
                · rw [if_neg (fun z => nI_m1 (by omega) z.symm : ¬ nI s = -1), if_neg (fun z => nI_m1 (by omega) z.symm : ¬ nI s = -1)]
                  exact ⟨4, _, _, rfl, rfl, by decide, by decide, fun j hj => u2j _ _ hj, fun j hj => u2j _ _ hj, fun k hk => u2k _ _ hk, fun _ => ⟨s, hs, u2s _ _ _ _, u2s _ _ _ _⟩, (fun z => by cases z)⟩
              · rw [if_neg (show ¬ nI (d + (n - 1) * p) ≤ (364 : Int32) from nI_ge (b := d + (n - 1) * p) (a := 364) (by omega) (by omega)), if_neg (show ¬ nI (d + (n - 1) * p) ≤ (364 : Int32) from nI_ge (b := d + (n - 1) * p) (a := 364) (by omega) (by omega))]
                exact S
            · have z : f_X6_isInRange fv (nI (cN (M 1) 0)) = some 0 := rng0 (by
                rw [w4]
                rcases hq with hq | hq
                · exact Or.inl hq
                · exact Or.inr (Or.inl hq))
              rw [z, xbs, i00, e7, xbs, i00]
              exact S
          · have z : f_X6_isInRange fv (nI (cN (M 1) 0)) = some 0 := rng0 (by
              rw [w6]
              rcases hq with hq | hq
              · exact Or.inr (Or.inr (Or.inr (Or.inr (Or.inr (Or.inr (Or.inr (Or.inl hq)))))))
              · exact Or.inr (Or.inr (Or.inr (Or.inr (Or.inr (Or.inr (Or.inr (Or.inr hq))))))))
            rw [z, xbs, i00, e6, xbs, i00]
            exact S
        · have z : f_X6_isInRange fv (nI (cN (M 1) 0)) = some 0 := rng0 (by
            rw [w5]
            rcases hq with hq | hq
            · exact Or.inr (Or.inr (Or.inr (Or.inr (Or.inr (Or.inl hq)))))
            · exact Or.inr (Or.inr (Or.inr (Or.inr (Or.inr (Or.inr (Or.inl hq)))))))
          rw [z, xbs, i00, e5, xbs, i00]
          exact S
  · rw [e1, xbs, i00, e2, xbs, i00]
    exact stay 2 (by decide) (by decide) (by decide) (by decide)
end
/-- what a run over the text leaves alone in the model -/
def Mt (M M' : xV) : Prop := (∀ j, j < 7 → M' 0 j = M 0 j) ∧ ∀ k, k ≠ 0 → k ≠ 1 → M' k = M k
theorem Mt.trans {A B C : xV} (h : Mt A B) (h' : Mt B C) : Mt A C := ⟨fun j hj => (h'.1 j hj).trans (h.1 j hj), fun k h1 h2 => (h'.2 k h1 h2).trans (h.2 k h1 h2)⟩
/-- how a run ends on both sides -/
def RUN (tv M : xV) (x : Option (xV × xV × xV × xV)) (y : Option (Int32 × xV)) : Prop := ∃ rv' vt' fv' tv' M' fl, x = some (rv', vt', fv', tv') ∧ y = some (fl, M') ∧ Tx tv tv' ∧ Mt M M' ∧ Shape vt' ∧ ((fl = -1 ∧ rv' 0 3 = 0 ∧ RB vt' (M' 1) ∧ rv' 0 5 = M' 0 17) ∨ ∃ p q, p ≤ 80 ∧ 1 ≤ q ∧ q ≤ 5 ∧ fl = nI p ∧ rv' 0 2 = nI p ∧ rv' 0 3 = nI q ∧ M' 0 15 = nI q ∧ (q = 4 → ∃ s, s < 240 ∧ rv' 0 4 = nI s ∧ M' 0 16 = nI s))
theorem run_loop (tv0 M0 : xV) (n : Nat) : ∀ (e p c : Nat), n - p ≤ e → c ≤ p → ∀ (rv vt fv tv M : xV) (n1 n2 : Nat), PT tv M n p → RB vt (M 1) → Tx tv0 tv → Mt M0 M → rv 0 5 = M 0 17 → rv 0 3 = 0 → e < n1 → e < n2 → RUN tv0 M0 (L_X5_run_25 (fun _ rv_39 vt_40 fv_41 tv_42 => some (rv_39, vt_40, fv_41, tv_42)) n1 (nI c) rv vt fv tv) (L_X8_makesAll_15 (fun M_24 => some ((-1), M_24)) n2 M) := by
  intro e
  induction e with
  | zero =>
    intro p c he hc rv vt fv tv M n1 n2 P R T Q h5 h3 h1 h2
    obtain ⟨n1, rfl⟩ : ∃ q, n1 = q + 1 := ⟨n1 - 1, by omega⟩
    obtain ⟨n2, rfl⟩ : ∃ q, n2 = q + 1 := ⟨n2 - 1, by omega⟩
    obtain ⟨a1, a2, a3, a4, a5, a6, a7⟩ := P
    have hpn : p = n := by omega
    refine ⟨rv, vt, fv, tv, M, -1, ?_, ?_, T, Q, R.2.1, Or.inl ⟨rfl, h3, R, h5⟩⟩
    · rw [L_X5_run_25]
      by_cases h80 : 80 ≤ c
      · rw [if_pos (show (80 : Int32) ≤ nI c from nI_le (a := 80) h80 (by omega))]
      · rw [if_neg (show ¬ (80 : Int32) ≤ nI c from nI_ge (b := 80) (by omega) (by decide))]
        unfold f_X4_isRead
        rw [a3, a5, if_neg (nI_nlt (by omega) (by omega)), xbs, i10]
    · rw [L_X8_makesAll_15, a4, a6, if_pos (nI_le (by omega) (by omega))]
  | succ e ih =>
    intro p c he hc rv vt fv tv M n1 n2 P R T Q h5 h3 h1 h2
    obtain ⟨n1, rfl⟩ : ∃ q, n1 = q + 1 := ⟨n1 - 1, by omega⟩
    obtain ⟨n2, rfl⟩ : ∃ q, n2 = q + 1 := ⟨n2 - 1, by omega⟩
    have P0 := P
    obtain ⟨a1, a2, a3, a4, a5, a6, a7⟩ := P
    by_cases hpn : p = n
    · refine ⟨rv, vt, fv, tv, M, -1, ?_, ?_, T, Q, R.2.1, Or.inl ⟨rfl, h3, R, h5⟩⟩
      · rw [L_X5_run_25]
        by_cases h80 : 80 ≤ c
        · rw [if_pos (show (80 : Int32) ≤ nI c from nI_le (a := 80) h80 (by omega))]
        · rw [if_neg (show ¬ (80 : Int32) ≤ nI c from nI_ge (b := 80) (by omega) (by decide))]
          unfold f_X4_isRead
          rw [a3, a5, if_neg (nI_nlt (by omega) (by omega)), xbs, i10]
      · rw [L_X8_makesAll_15, a4, a6, if_pos (nI_le (by omega) (by omega))]
    · have hlt : p < n := by omega
      have er : f_X4_isRead tv = some 0 := by
        unfold f_X4_isRead
        rw [a3, a5, if_pos (nI_lt hlt (by omega))]
      rw [L_X5_run_25, if_neg (show ¬ (80 : Int32) ≤ nI c from nI_ge (b := 80) (by omega) (by decide)), er, xbs, i00, L_X8_makesAll_15, a4, if_neg (by rw [a6]; exact nI_ge hlt (by omega))]
      simp only [xls]
      obtain ⟨bb, tv1, fv1, M1, e1, e2, T1, X1, hb⟩ := s_readHire P0 fv
      rw [e1, xb3s, e2, xb2s]
      have Q1 : Mt M0 M1 := Q.trans ⟨fun j hj => X1.1 j (Or.inl hj), fun k hk _ => X1.2 k hk⟩
      rcases hb with rfl | ⟨rfl, p1, P1, hp1, F1⟩
      · rw [i00, i00]
        simp only [u2s]
        rw [if_neg (by decide : ¬ (1 : Int32) = 0), if_neg (by decide : ¬ (1 : Int32) = 0)]
        refine ⟨_, _, _, _, _, _, rfl, rfl, T.trans T1, ⟨fun j hj => (u2j _ _ (by omega)).trans (Q1.1 j hj), fun k h1 h2 => (u2k _ _ h1).trans (Q1.2 k h1 h2)⟩, R.2.1, Or.inr ⟨p, 1, by omega, by decide, by decide, a6, ?_, u2s _ _ _ _, u2s _ _ _ _, (fun z => by cases z)⟩⟩
        rw [u2j _ _ (by decide), u2s]
        exact a5
      · rw [i10, i10]
        have R1 : RB vt (M1 1) := by rw [X1.2 1 (by decide)]; exact R
        obtain ⟨q, rv2, M2, e3, e4, hq5, hq1, g1, g2, g3, g4, g0⟩ := s_reason R1 F1 (upd2 rv 0 2 (tv 0 2))
        rw [e3, xb2s, e4, xb2s]
        simp only [u2s]
        have Q2 : Mt M0 (upd2 M2 0 15 (nI q)) := ⟨fun j hj => (u2j _ _ (by omega)).trans ((g2 j (by omega)).trans (Q1.1 j hj)), fun k h1 h2 => (u2k _ _ h1).trans ((g3 k h1).trans (Q1.2 k h1 h2))⟩
        by_cases hq0 : q = 0
        · obtain ⟨b, d, f, t, ro, m, s, w0, m8, w4, m9, w2, m10, w3, m11, w1, m12, w5, m13, w6, m14, k1, k2, k3, k4, k5, k6, k7, k8, k9, k10, k11⟩ := g0 hq0
          subst hq0
          rw [if_pos (show nI 0 = (0 : Int32) from rfl), if_pos (show nI 0 = (0 : Int32) from rfl)]
          have mm : ∀ j, j ≠ 15 → j ≠ 16 → upd2 M2 0 15 (nI 0) 0 j = M1 0 j := fun j h1 h2 => (u2j _ _ h1).trans (g2 j h2)
          have mk : ∀ k, k ≠ 0 → upd2 M2 0 15 (nI 0) k = M1 k := fun k hk => (u2k _ _ hk).trans (g3 k hk)
          have R2 : RB vt (upd2 M2 0 15 (nI 0) 1) := by rw [mk 1 (by decide)]; exact R1
          obtain ⟨vt3, M3, f1, f2, f3, f4, f5, f6, f7⟩ := s_make R2 (W := fv1) (m := cN (M1 1) 10) (b := b) (ro := ro) (f := f) (t := t) (n := m) (d := d) (p := s) (by rw [mk 1 (by decide)]) k11 (by rw [mk 1 (by decide)]; exact k1) k2 k3 k4 k5 k6 k7 k8 k9 k10 w0 w1 w2 w3 w4 w5 w6
          rw [f1, xb2s, mm 8 (by decide) (by decide), mm 9 (by decide) (by decide), mm 10 (by decide) (by decide), mm 11 (by decide) (by decide), mm 12 (by decide) (by decide), mm 13 (by decide) (by decide), mm 14 (by decide) (by decide), m8, m9, m10, m11, m12, m13, m14, f2, xbs, nI_1]
          have P3 : PT tv1 (upd2 M3 0 17 (M3 0 17 + 1)) n p1 := by
            obtain ⟨b1, b2, b3, b4, b5, b6, b7⟩ := P1
            refine ⟨b1, b2, b3, ?_, b5, ?_, fun k hk => ?_⟩
            · rw [u2j _ _ (by decide), f4 0 (by decide), mm 6 (by decide) (by decide)]; exact b4
            · rw [u2j _ _ (by decide), f4 0 (by decide), mm 7 (by decide) (by decide)]; exact b6
            · rw [u2k _ _ (by decide), f4 4 (by decide), mk 4 (by decide)]; exact b7 k hk
          refine ih p1 (c + 1) (by omega) (by omega) _ _ _ _ _ n1 n2 P3 ?_ (T.trans T1) ?_ ?_ ?_ (by omega) (by omega)
          · rw [u2k _ _ (by decide)]; exact f3
          · refine ⟨fun j hj => ?_, fun k h1 h2 => ?_⟩
            · rw [u2j _ _ (by omega), f4 0 (by decide)]; exact Q2.1 j hj
            · rw [u2k _ _ h1, f4 k h2]; exact Q2.2 k h1 h2
          · rw [u2s, u2s, u2j _ _ (by decide), g1 5 (by decide), u2j _ _ (by decide), f4 0 (by decide), mm 17 (by decide) (by decide), X1.1 17 (Or.inr (by decide)), h5]
          · rw [u2j _ _ (by decide), u2s]; rfl
        · rw [if_neg (show ¬ nI q = (0 : Int32) from ne_lit (b := 0) hq0 (by omega) (by decide)), if_neg (show ¬ nI q = (0 : Int32) from ne_lit (b := 0) hq0 (by omega) (by decide))]
          refine ⟨_, _, _, _, _, _, rfl, rfl, T.trans T1, Q2, R.2.1, Or.inr ⟨p, q, by omega, by omega, hq5, a6, ?_, u2s _ _ _ _, u2s _ _ _ _, fun z => ?_⟩⟩
          · rw [u2j _ _ (by decide), g1 2 (by decide), u2s]
            exact a5
          · obtain ⟨s, s1, s2, s3⟩ := g4 z
            exact ⟨s, s1, by rw [u2j _ _ (by decide)]; exact s2, by rw [u2j _ _ (by decide)]; exact s3⟩
theorem s_run {v M tv vt : xV} (r : RB v (M 1)) (ht : TR tv M) (hs : Shape vt) (rv fv : xV) : RUN tv M (f_X5_run rv vt fv v tv) (f_X8_makesAll M) := by
  obtain ⟨n, t1, t2, t3, t4⟩ := ht
  obtain ⟨vt1, e1, r1⟩ := c_copyRB hs r
  unfold f_X5_run f_X8_makesAll
  rw [e1, xbs]
  simp only [xls]
  refine run_loop tv M n n 0 0 (by omega) (by omega) _ _ _ _ _ 100000 100000 ⟨t1, by omega, ?_, ?_, u2s _ _ _ _, ?_, fun k hk => ?_⟩ ?_ (Tx.mv _ _) ⟨fun j hj => ?_, fun k h1 h2 => ?_⟩ ?_ ?_ (by omega) (by omega)
  · rw [u2j _ _ (by decide)]; exact t2
  · rw [u2j _ _ (by decide), u2j _ _ (by decide), u2j _ _ (by decide)]; exact t3
  · rw [u2j _ _ (by decide), u2j _ _ (by decide), u2s]; rfl
  · rw [u2k _ _ (by decide), u2k _ _ (by decide), u2k _ _ (by decide), u2k _ _ (by decide)]; exact t4 k hk
  · rw [u2k _ _ (by decide), u2k _ _ (by decide), u2k _ _ (by decide)]; exact r1
  · rw [u2j _ _ (by omega), u2j _ _ (by omega), u2j _ _ (by omega)]
  · rw [u2k _ _ h1, u2k _ _ h1, u2k _ _ h1]
  · rw [u2s, u2j _ _ (by decide), u2s]
  · rw [u2j _ _ (by decide), u2s]
/-! what is laid aside comes back -/
def laM (M : xV) (k : Nat) : xV := fun r c => if r = 3 ∧ c < k then M 1 c else M r c
theorem m_aside (M : xV) : f_X8_laysAside M = some (laM M 820) := by
  have z : laM M 0 = M := by
    funext r c
    exact if_neg (by omega)
  have l1 : ∀ k c, laM M k 1 c = M 1 c := fun k c => if_neg (by omega)
  have q := xup0 (fun j k => L_X8_laysAside_2 (fun _ M_9 => some M_9) j (nI k) (laM M k)) (some (laM M 820)) 820 (fun j k hk => by
    rw [L_X8_laysAside_2, if_neg (show ¬ (820 : Int32) ≤ nI k from nI_ge (b := 820) hk (by decide)), xgi hk (by decide), xgi hk (by decide), nI_clamp (by omega), l1, xls, xls, nI_1]
    congr 1
    funext r c
    rw [u2e]
    unfold laM
    by_cases h : r = 3 ∧ c = k
    · obtain ⟨rfl, rfl⟩ := h
      rw [if_pos ⟨rfl, rfl⟩, if_pos ⟨rfl, by omega⟩]
    · rw [if_neg h]
      by_cases h2 : r = 3 ∧ c < k
      · rw [if_pos h2, if_pos ⟨h2.1, by omega⟩]
      · rw [if_neg h2, if_neg (by omega)]) (fun j => by
    rw [L_X8_laysAside_2, if_pos (show (820 : Int32) ≤ nI 820 from by decide)]) (n := 100000) (by decide)
  rw [z] at q
  exact q
def tbM (M : xV) (k : Nat) : xV := fun r c => if r = 1 ∧ c < k then M 3 c else M r c
theorem m_back (M : xV) : f_X8_takesBack M = some (tbM M 820) := by
  have z : tbM M 0 = M := by
    funext r c
    exact if_neg (by omega)
  have l1 : ∀ k c, tbM M k 3 c = M 3 c := fun k c => if_neg (by omega)
  have q := xup0 (fun j k => L_X8_takesBack_2 (fun _ M_9 => some M_9) j (nI k) (tbM M k)) (some (tbM M 820)) 820 (fun j k hk => by
    rw [L_X8_takesBack_2, if_neg (show ¬ (820 : Int32) ≤ nI k from nI_ge (b := 820) hk (by decide)), xgi hk (by decide), xgi hk (by decide), nI_clamp (by omega), l1, xls, xls, nI_1]
    congr 1
    funext r c
    rw [u2e]
    unfold tbM
    by_cases h : r = 1 ∧ c = k
    · obtain ⟨rfl, rfl⟩ := h
      rw [if_pos ⟨rfl, rfl⟩, if_pos ⟨rfl, by omega⟩]
    · rw [if_neg h]
      by_cases h2 : r = 1 ∧ c < k
      · rw [if_pos h2, if_pos ⟨h2.1, by omega⟩]
      · rw [if_neg h2, if_neg (by omega)]) (fun j => by
    rw [L_X8_takesBack_2, if_pos (show (820 : Int32) ≤ nI 820 from by decide)]) (n := 100000) (by decide)
  rw [z] at q
  exact q
section
variable {v M hv tv vt : xV} {kv : Nat → xV}
/-- a first run, whose state is taken back -/
theorem s_try (r : RB v (M 1)) (h : HR hv kv M) (ht : TR tv M) (hs : Shape vt) (rv fv : xV) : ∃ rv' vt' fv' tv' M' fl, f_X5_run rv vt fv v tv = some (rv', vt', fv', tv') ∧ (∃ M1, f_X8_makesAll (laM M 820) = some (fl, M1) ∧ M' = tbM M1 820) ∧ RB v (M' 1) ∧ HR hv kv M' ∧ TR tv' M' ∧ TR tv M' ∧ Shape vt' ∧ M' 0 4 = M 0 4 ∧ ((fl = -1 ∧ rv' 0 3 = 0) ∨ ∃ p q, p ≤ 80 ∧ 1 ≤ q ∧ q ≤ 5 ∧ fl = nI p ∧ rv' 0 2 = nI p ∧ rv' 0 3 = nI q ∧ M' 0 15 = nI q ∧ (q = 4 → ∃ s, s < 240 ∧ rv' 0 4 = nI s ∧ M' 0 16 = nI s)) := by
  have la : ∀ k, k ≠ 3 → laM M 820 k = M k := fun k hk => by
    funext c
    exact if_neg (fun z => hk z.1)
  have r1 : RB v (laM M 820 1) := by rw [la 1 (by decide)]; exact r
  have ht1 : TR tv (laM M 820) := ht.cong rfl rfl (by rw [la 0 (by decide)]) (la 4 (by decide))
  obtain ⟨rv', vt', fv', tv', M1, fl, e1, e2, T, Q, S, hend⟩ := s_run r1 ht1 hs rv fv
  have tb : ∀ k, k ≠ 1 → tbM M1 820 k = M1 k := fun k hk => by
    funext c
    exact if_neg (fun z => hk z.1)
  have m0 : ∀ j, j < 7 → tbM M1 820 0 j = M 0 j := fun j hj => by rw [tb 0 (by decide), Q.1 j hj, la 0 (by decide)]
  have m4 : tbM M1 820 4 = M 4 := by rw [tb 4 (by decide), Q.2 4 (by decide) (by decide), la 4 (by decide)]
  have tr : TR tv (tbM M1 820) := ht.cong rfl rfl (m0 6 (by decide)) m4
  refine ⟨rv', vt', fv', tv', tbM M1 820, fl, e1, ⟨M1, e2, rfl⟩, ?_, ?_, ?_, tr, S, m0 4 (by decide), ?_⟩
  · refine r.cong (fun c hc => ?_) (fun _ _ => rfl)
    show (if 1 = 1 ∧ c < 820 then M1 3 c else M1 1 c) = M 1 c
    rw [if_pos ⟨rfl, hc⟩, Q.2 3 (by decide) (by decide)]
    exact if_pos ⟨rfl, hc⟩
  · exact h.cong (m0 3 (by decide)) (by rw [tb 2 (by decide), Q.2 2 (by decide) (by decide), la 2 (by decide)])
  · exact ht.cong (T.1 1 (by decide)) (T.2 1 (by decide)) (m0 6 (by decide)) m4
  · rcases hend with ⟨a1, a2, a3, a4⟩ | ⟨p, q, b1, b2, b3, b4, b5, b6, b7, b8⟩
    · exact Or.inl ⟨a1, a2⟩
    · refine Or.inr ⟨p, q, b1, b2, b3, b4, b5, b6, by rw [tb 0 (by decide)]; exact b7, fun z => ?_⟩
      obtain ⟨s, s1, s2, s3⟩ := b8 z
      exact ⟨s, s1, s2, by rw [tb 0 (by decide)]; exact s3⟩
theorem s_textFault (r : RB v (M 1)) (h : HR hv kv M) (ht : TR tv M) (hs : Shape vt) (dv rv fv : xV) (p1 : Int32) : ∃ a tv' rv' vt' fv' M', f_X7_textFault dv v tv rv vt fv p1 = some (a, tv', rv', vt', fv') ∧ f_X8_textFault M p1 = some (a, M') ∧ RB v (M' 1) ∧ HR hv kv M' ∧ TR tv' M' ∧ Shape vt' ∧ M' 0 4 = M 0 4 := by
  unfold f_X7_textFault f_X8_textFault
  rcases m_rng 0 1 p1 (A := 0) (B := 1) rfl rfl (by decide) (by decide) with ⟨j, -, h2, rfl, e⟩ | ⟨hq, e⟩
  · rw [e, xbs, i10, if_neg (nI_pos (by omega)), if_pos (show nI j ≤ (1 : Int32) from nI_le (b := 1) h2 (by decide))]
    obtain ⟨rv', vt', fv', tv', M', fl, e1, ⟨M1, e2, e3⟩, k1, k2, k3, -, k4, k5, k6⟩ := s_try r h ht hs rv fv
    rw [e1, xb4s, m_aside, xbs, e2, xb2s, m_back, xbs, ← e3]
    rcases k6 with ⟨a1, a2⟩ | ⟨p, q, b1, b2, b3, b4, b5, b6, b7, -⟩
    · rw [a1, a2, if_pos rfl, if_pos rfl]
      exact ⟨_, _, _, _, _, _, rfl, rfl, k1, k2, k3, k4, k5⟩
    · rw [b4, b5, b6, b7, if_neg (show ¬ nI q = (0 : Int32) from ne_lit (b := 0) (by omega) (by omega) (by decide)), if_neg (fun z => nI_m1 (by omega) z.symm : ¬ nI p = -1)]
      by_cases hj : nI j = 0
      · rw [if_pos hj, if_pos hj]
        exact ⟨_, _, _, _, _, _, rfl, rfl, k1, k2, k3, k4, k5⟩
      · rw [if_neg hj, if_neg hj]
        exact ⟨_, _, _, _, _, _, rfl, rfl, k1, k2, k3, k4, k5⟩
  · rw [e, xbs, i00]
    rcases hq with hq | hq
    · rw [if_pos (show p1 < (0 : Int32) from hq)]
      exact ⟨_, _, _, _, _, _, rfl, rfl, r, h, ht, hs, rfl⟩
    · by_cases h0 : p1 < 0
      · rw [if_pos h0]
        exact ⟨_, _, _, _, _, _, rfl, rfl, r, h, ht, hs, rfl⟩
      · rw [if_neg h0, if_neg (show ¬ p1 ≤ (1 : Int32) from (fa_of_lt hq).2.1)]
        exact ⟨_, _, _, _, _, _, rfl, rfl, r, h, ht, hs, rfl⟩
theorem s_enter (r : RB v (M 1)) (h : HR hv kv M) (ht : TR tv M) (hs : Shape vt) {dv : xV} (c : CR dv M) (rv fv : xV) : ∃ a dv' v' hv' kv' tv' rv' vt' fv' M', f_X7_enter dv v hv kv tv rv vt fv = some (a, dv', v', hv', kv', tv', rv', vt', fv') ∧ f_X8_enter M = some (a, M') ∧ RB v' (M' 1) ∧ HR hv' kv' M' ∧ TR tv' M' ∧ Shape vt' ∧ CR dv' M' := by
  unfold f_X7_enter f_X8_enter
  obtain ⟨rv', vt', fv', tv', M', fl, e1, ⟨M1, e2, e3⟩, k1, k2, k3, k3', k4, k5, k6⟩ := s_try r h ht hs rv fv
  rw [e1, xb4s, m_aside, xbs, e2, xb2s, m_back, xbs, ← e3]
  rcases k6 with ⟨a1, a2⟩ | ⟨p, q, b1, b2, b3, b4, b5, b6, b7, b8⟩
  · rw [a1, a2, if_neg (by decide : ¬ (0 : Int32) = 4), if_pos rfl, if_pos rfl]
    obtain ⟨hv', kv', M2, s1, s2, s3, kp⟩ := s_save k1 k2
    have r2 : RB v (M2 1) := by rw [kp.1]; exact k1
    have ht2 : TR tv M2 := k3'.cong rfl rfl (kp.2.2.2 6 (by decide)) kp.2.2.1
    obtain ⟨rv3, vt3, fv3, tv3, M3, fl3, f1, f2, f3, f4, f5, f6⟩ := s_run r2 ht2 hs rv fv
    rw [e1] at f1
    cases f1
    rcases f6 with ⟨g1, g2, g3, g4⟩ | ⟨p, q, g1, g2, g3, g4, g5, g6, -⟩
    · obtain ⟨v4, x1, x2⟩ := c_copyRB k1.2.1 g3
      rw [s1, xb2s, x1, xbs, s2, xbs, f2, xb2s, g1, if_pos rfl, g4]
      refine ⟨_, _, _, _, _, _, _, _, _, _, rfl, rfl, x2, s3.cong (f4.1 3 (by decide)) (f4.2 2 (by decide) (by decide)), ?_, f5, ?_⟩
      · exact ht2.cong (f3.1 1 (by decide)) (f3.2 1 (by decide)) (f4.1 6 (by decide)) (f4.2 4 (by decide) (by decide))
      · unfold CR
        rw [f4.1 4 (by decide), kp.2.2.2 4 (by decide), k5]
        exact c
    · exfalso
      rw [a2] at g6
      exact ne_lit (a := 0) (b := q) (by omega) (by decide) (by omega) g6
  · rw [b4, b6, b7, if_neg (fun z => nI_m1 (by omega) z.symm : ¬ nI p = -1)]
    have q0 : ¬ nI q = (0 : Int32) := ne_lit (b := 0) (by omega) (by omega) (by decide)
    by_cases hq : q = 4
    · obtain ⟨s, s1, s2, s3⟩ := b8 hq
      rw [if_pos (show nI q = (4 : Int32) by rw [hq]; rfl), if_pos (show nI q = (4 : Int32) by rw [hq]; rfl), xls, xls, if_neg q0]
      refine ⟨_, _, _, _, _, _, _, _, _, _, rfl, rfl, ?_, ?_, ?_, k4, Or.inr ⟨s, s1, by rw [u2s]; exact s2, by rw [u2s]; exact s3⟩⟩
      · rw [u2k _ _ (by decide)]; exact k1
      · exact k2.cong (u2j _ _ (by decide)) (u2k _ _ (by decide))
      · exact k3.cong rfl rfl (u2j _ _ (by decide)) (u2k _ _ (by decide))
    · rw [if_neg (show ¬ nI q = (4 : Int32) from ne_lit (b := 4) hq (by omega) (by decide)), if_neg (show ¬ nI q = (4 : Int32) from ne_lit (b := 4) hq (by omega) (by decide)), if_neg q0, xls]
      refine ⟨_, _, _, _, _, _, _, _, _, _, rfl, rfl, ?_, ?_, ?_, k4, ?_⟩
      · rw [u2k _ _ (by decide)]; exact k1
      · exact k2.cong (u2j _ _ (by decide)) (u2k _ _ (by decide))
      · exact k3.cong rfl rfl (u2j _ _ (by decide)) (u2k _ _ (by decide))
      · unfold CR
        rw [u2s, k5]
        exact c
end
